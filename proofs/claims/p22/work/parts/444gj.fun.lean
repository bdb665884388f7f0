/-! FUNCTIONAL CONTRACTS, by fgen.py -/
theorem oc_284_109 : (Int32.ofInt (-1)).toInt = (-1) ∧ (Int32.ofInt 0).toInt = 0 ∧ (Int32.ofInt 1).toInt = 1 ∧ (Int32.ofInt 2).toInt = 2 ∧ (Int32.ofInt 3).toInt = 3 ∧ (Int32.ofInt 160).toInt = 160 ∧ (Int32.ofInt 4000).toInt = 4000 ∧ (Int64.ofInt (-1000000)).toInt = (-1000000) ∧ (Int64.ofInt 0).toInt = 0 ∧ (Int64.ofInt 25).toInt = 25 ∧ (Int64.ofInt 1000000).toInt = 1000000 := ⟨rfl, rfl, rfl, rfl, rfl, rfl, rfl, rfl, rfl, rfl, rfl⟩
/-- GraphHouseModel.set -/
theorem f_284 {Z : AmZ} {A : Nat → Nat} {s : GS} {ex : va_W} {d : Nat} {X : AmX} {x1 : Int32} {x2 : Int32} {x3 : Int32} {u_109_9 : Int32} {u_109_0 : Int32} (hd : 4 ≤ d) (hI : Inv s) (e_109_9 : u_109_9 = s.2.2.1 109 9) (e_109_0 : u_109_0 = s.2.2.1 109 0) : GC Z d 284 [.ref (A 109), .int x1, .int x2, .int x3] (WW Z A s ++ ex) 0 0 (fun v u => ∃ t : GS, Inv t ∧ Fr fm_284 s t ∧ ∃ z : Int32, v = some (.int z) ∧ u = WW Z A t ++ ex ∧ In z (-1000000) 1000000 ∧ (CDR s t (HAR s x1 ∧ GVL x2 x3) ((s.2.2.1 109 9).toInt ≤ 3999) ((z) = (if (x2).toInt = 0 then s.1 115 (x1).toNatClampNeg else if (x2).toInt = 1 then s.1 116 (x1).toNatClampNeg else s.1 117 (x1).toNatClampNeg) ∧ gvR t = gqW (gvR s) (x1).toNatClampNeg x2 x3)) ∧ (LGX s t (Int32.ofInt 3) x1 x2 x3 (Int32.ofInt 0) (Int32.ofInt 0) (Int32.ofInt 0)) ∧ (GSE s → GSE t) ∧ (G1S s t)) X := by
  intro post xp hP hX
  refine g_enter2 (k := 284) (N := 900) (by first | exact dq1 hd rfl | exact dq0 hd rfl | exact dq2 hd rfl | exact dq3 hd rfl | omega) rfl (Nat.le_of_ble_eq_true rfl) ?_
  refine g_iload_n 1 (gd rfl) rfl rfl ?_
  refine g_if_ne 4 11 (gd rfl) rfl rfl (fun c1 => ?_) (fun c1 => ?_)
  · skip
    refine g_iload_n 12 (gd rfl) rfl rfl ?_
    refine g_iconst 1 13 (gd rfl) rfl rfl ?_
    refine g_cmp_ne 16 28 (gd rfl) rfl rfl (fun c13 => ?_) (fun c13 => ?_)
    · skip
      refine g_iload_n 29 (gd rfl) rfl rfl ?_
      refine g_iconst 2 30 (gd rfl) rfl rfl ?_
      refine g_cmp_ne 33 49 (gd rfl) rfl rfl (fun c30 => ?_) (fun c30 => ?_)
      · skip
        refine g_iconst 0 50 (gd rfl) rfl rfl ?_
        refine g_istore 52 (gd rfl) rfl (Nat.le_of_ble_eq_true rfl) ?_
        refine g_aload_n 53 (gd rfl) rfl rfl ?_
        refine g_aload_n 54 (gd rfl) rfl rfl ?_
        refine g_iload_n 55 (gd rfl) rfl rfl ?_
        refine g_callv (X := _) (As := [.int x1]) (r := [.ref (A 109)]) (b := A 109) (q := 109) 58 (gd rfl) rfl rfl rfl rfl rfl (ww_o rfl) (Nat.le_of_ble_eq_true rfl) (mc := 0) (ms := 0) (Nat.zero_le _) (Nat.zero_le _) (P := fun v u => _) ?_ (fun e u h => h) (fun v u h => h)
        intro po55 xx55 hp55 hx55
        refine g_enter2 (k := 278) (N := 300) (by first | exact dq1 hd rfl | exact dq0 hd rfl | exact dq2 hd rfl | exact dq3 hd rfl | omega) rfl (Nat.le_of_ble_eq_true rfl) ?_
        refine g_iload_n 1 (gd rfl) rfl rfl ?_
        refine g_if_lt 4 24 (gd rfl) rfl rfl (fun c55x1 => ?_) (fun c55x1 => ?_)
        · skip
          have i55x1 := z_lt (-2147483648) (-1) c55x1 (i_rng x1) rfl
          refine g_iconst 0 25 (gd rfl) rfl rfl ?_
          refine g_ireturn (gd rfl) rfl (nb01 (in_w 0 1 (in_c 0 rfl) rfl)) (hp55 _ _ ?_)
          show GG _ _ _ _ _ _ _ _ [.int (Int32.ofInt 0), .ref (A 109)] _ _ _
          refine g_if_eq 61 70 (gd rfl) rfl rfl (fun c58 => ?_) (fun c58 => ?_)
          · skip
            refine g_iconst 0 71 (gd rfl) rfl rfl ?_
            refine g_aload_n 72 (gd rfl) rfl rfl ?_
            refine g_getI 75 (gd rfl) rfl rfl rfl (fun z72 e72 => ?_)
            have q72 : u_109_9 = z72 := (e_109_9).trans e72.symm
            subst q72
            refine g_sipush 4000 78 (gd rfl) rfl rfl ?_
            refine g_cmp_ge 81 85 (gd rfl) rfl rfl (fun c78 => ?_) (fun c78 => ?_)
            · skip
              have i78 := r_le2 4000 4000 c78 (in_c 4000 rfl) (inv_F hI 0 4000 rfl e_109_9) rfl
              refine g_iconst 0 86 (gd rfl) rfl rfl ?_
              refine g_callv (X := _) (As := [.int (Int32.ofInt 0), .int (Int32.ofInt 0)]) (r := []) (b := A 109) (q := 109) 89 (gd rfl) rfl rfl rfl rfl rfl (ww_o rfl) (Nat.le_of_ble_eq_true rfl) (mc := 0) (ms := 0) (Nat.zero_le _) (Nat.zero_le _) (P := fun v u => _) ?_ (fun e u h => h) (fun v u h => h)
              intro po86 xx86 hp86 hx86
              refine g_enter2 (k := 270) (N := 300) (by first | exact dq1 hd rfl | exact dq0 hd rfl | exact dq2 hd rfl | exact dq3 hd rfl | omega) rfl (Nat.le_of_ble_eq_true rfl) ?_
              refine g_aload_n 1 (gd rfl) rfl rfl ?_
              refine g_iload_n 2 (gd rfl) rfl rfl ?_
              refine g_if_ne 5 9 (gd rfl) rfl rfl (fun c86x2 => ?_) (fun c86x2 => ?_)
              · skip
                exact zn_ne c86x2 (in_c 0 rfl) rfl
              · skip
                refine g_iconst 1 6 (gd rfl) rfl rfl ?_
                refine g_goto 18 (gd rfl) rfl ?_
                refine g_putI 21 (gd rfl) rfl rfl rfl rfl ?_
                have hI86x18 := inv_sF (q := 109) (j := 0) hI rfl (in_w 0 2 (in_c 1 rfl) rfl)
                refine g_aload_n 22 (gd rfl) rfl rfl ?_
                refine g_getI 25 (gd rfl) rfl rfl rfl (fun z86x22 e86x22 => ?_)
                have q86x22 : (Int32.ofInt 1) = z86x22 := (sF_get).trans e86x22.symm
                subst q86x22
                refine g_if_le 28 32 (gd rfl) rfl rfl (fun c86x25 => ?_) (fun c86x25 => ?_)
                · skip
                  exact zn_le c86x25 (in_c 1 rfl) rfl
                · skip
                  refine g_iconst 1 29 (gd rfl) rfl rfl ?_
                  refine g_goto 33 (gd rfl) rfl ?_
                  refine g_ireturn (gd rfl) rfl (nb01 (in_w 0 1 (in_c 1 rfl) rfl)) (hp86 _ _ ?_)
                  show GG _ _ _ _ _ _ _ _ [.int (Int32.ofInt 1)] _ _ _
                  refine g_if_eq 92 94 (gd rfl) rfl rfl (fun c89 => ?_) (fun c89 => ?_)
                  · skip
                    exact zn_eq c89 (in_c 1 rfl) rfl
                  · skip
                    refine g_iconst 0 93 (gd rfl) rfl rfl ?_
                    have n93 : CDR s (sF s 109 0 (Int32.ofInt 1)) (HAR s x1 ∧ GVL x2 x3) ((s.2.2.1 109 9).toInt ≤ 3999) (((Int32.ofInt 0)) = (if (x2).toInt = 0 then s.1 115 (x1).toNatClampNeg else if (x2).toInt = 1 then s.1 116 (x1).toNatClampNeg else s.1 117 (x1).toNatClampNeg) ∧ gvR (sF s 109 0 (Int32.ofInt 1)) = gqW (gvR s) (x1).toNatClampNeg x2 x3) := by first | exact Or.inl ⟨rfl, (by first | (unfold HAR GVL In; have a0 := oa5 ((inv_F hI 0 2 rfl e_109_0)) i78 ((in_c 0 rfl)) i55x1 ((in_c 1 rfl)); have oc := oc_284_109; omega) | (unfold HAR GVL In; rw [← e55x16]; have a0 := oa5 ((inv_F hI 0 2 rfl e_109_0)) i78 ((in_c 0 rfl)) i55x1 ((in_c 1 rfl)); have oc := oc_284_109; omega)), (gvR_cg (L := ([], [], [(109, 0)], [])) (fr_sF rfl fr_rf) rfl)⟩ | exact Or.inr (Or.inl ⟨rfl, ⟨⟨by have a0 := oa5 ((inv_F hI 0 2 rfl e_109_0)) i78 ((in_c 0 rfl)) i55x1 ((in_c 1 rfl)); have oc := oc_284_109; omega, by have a0 := oa5 ((inv_F hI 0 2 rfl e_109_0)) i78 ((in_c 0 rfl)) i55x1 ((in_c 1 rfl)); have oc := oc_284_109; omega, by rw [← e55x16]; have a0 := oa5 ((inv_F hI 0 2 rfl e_109_0)) i78 ((in_c 0 rfl)) i55x1 ((in_c 1 rfl)); have oc := oc_284_109; omega⟩, (by unfold GVL In; have a0 := oa5 ((inv_F hI 0 2 rfl e_109_0)) i78 ((in_c 0 rfl)) i55x1 ((in_c 1 rfl)); have oc := oc_284_109; omega)⟩, (by rw [← e_109_9]; have a0 := oa5 ((inv_F hI 0 2 rfl e_109_0)) i78 ((in_c 0 rfl)) i55x1 ((in_c 1 rfl)); have oc := oc_284_109; omega), (gvR_cg (L := ([], [], [(109, 0)], [])) (fr_sF rfl fr_rf) rfl)⟩)
                    have n93a : LGX s (sF s 109 0 (Int32.ofInt 1)) (Int32.ofInt 3) x1 x2 x3 (Int32.ofInt 0) (Int32.ofInt 0) (Int32.ofInt 0) := by exact Or.inl ⟨rfl, rfl, rfl, rfl, rfl, rfl, rfl, rfl⟩
                    have n93b : GSE s → GSE (sF s 109 0 (Int32.ofInt 1)) := by exact fun h => gse_fr (L := ([], [], [(109, 0)], [])) h (fr_sF rfl fr_rf) rfl
                    have n93c : G1S s (sF s 109 0 (Int32.ofInt 1)) := by exact ⟨rfl, fun _ _ => rfl, fun _ _ _ => ⟨rfl, rfl, rfl, rfl, rfl, rfl⟩⟩
                    exact g_ireturn (gd rfl) rfl rfl (hP _ _ ⟨(sF s 109 0 (Int32.ofInt 1)), hI86x18, (fr_sF rfl fr_rf), (Int32.ofInt 0), rfl, rfl, in_w (-1000000) 1000000 (in_c 0 rfl) rfl, n93, n93a, n93b, n93c⟩)
            · skip
              have i78 := r_lt1 0 3999 c78 (inv_F hI 0 4000 rfl e_109_9) (in_c 4000 rfl) rfl
              refine g_iconst 1 82 (gd rfl) rfl rfl ?_
              refine g_goto 86 (gd rfl) rfl ?_
              refine g_callv (X := _) (As := [.int (Int32.ofInt 0), .int (Int32.ofInt 1)]) (r := []) (b := A 109) (q := 109) 89 (gd rfl) rfl rfl rfl rfl rfl (ww_o rfl) (Nat.le_of_ble_eq_true rfl) (mc := 0) (ms := 0) (Nat.zero_le _) (Nat.zero_le _) (P := fun v u => _) ?_ (fun e u h => h) (fun v u h => h)
              intro po86 xx86 hp86 hx86
              refine g_enter2 (k := 270) (N := 300) (by first | exact dq1 hd rfl | exact dq0 hd rfl | exact dq2 hd rfl | exact dq3 hd rfl | omega) rfl (Nat.le_of_ble_eq_true rfl) ?_
              refine g_aload_n 1 (gd rfl) rfl rfl ?_
              refine g_iload_n 2 (gd rfl) rfl rfl ?_
              refine g_if_ne 5 9 (gd rfl) rfl rfl (fun c86x2 => ?_) (fun c86x2 => ?_)
              · skip
                exact zn_ne c86x2 (in_c 0 rfl) rfl
              · skip
                refine g_iconst 1 6 (gd rfl) rfl rfl ?_
                refine g_goto 18 (gd rfl) rfl ?_
                refine g_putI 21 (gd rfl) rfl rfl rfl rfl ?_
                have hI86x18 := inv_sF (q := 109) (j := 0) hI rfl (in_w 0 2 (in_c 1 rfl) rfl)
                refine g_aload_n 22 (gd rfl) rfl rfl ?_
                refine g_getI 25 (gd rfl) rfl rfl rfl (fun z86x22 e86x22 => ?_)
                have q86x22 : (Int32.ofInt 1) = z86x22 := (sF_get).trans e86x22.symm
                subst q86x22
                refine g_if_le 28 32 (gd rfl) rfl rfl (fun c86x25 => ?_) (fun c86x25 => ?_)
                · skip
                  exact zn_le c86x25 (in_c 1 rfl) rfl
                · skip
                  refine g_iconst 1 29 (gd rfl) rfl rfl ?_
                  refine g_goto 33 (gd rfl) rfl ?_
                  refine g_ireturn (gd rfl) rfl (nb01 (in_w 0 1 (in_c 1 rfl) rfl)) (hp86 _ _ ?_)
                  show GG _ _ _ _ _ _ _ _ [.int (Int32.ofInt 1)] _ _ _
                  refine g_if_eq 92 94 (gd rfl) rfl rfl (fun c89 => ?_) (fun c89 => ?_)
                  · skip
                    exact zn_eq c89 (in_c 1 rfl) rfl
                  · skip
                    refine g_iconst 0 93 (gd rfl) rfl rfl ?_
                    have n93 : CDR s (sF s 109 0 (Int32.ofInt 1)) (HAR s x1 ∧ GVL x2 x3) ((s.2.2.1 109 9).toInt ≤ 3999) (((Int32.ofInt 0)) = (if (x2).toInt = 0 then s.1 115 (x1).toNatClampNeg else if (x2).toInt = 1 then s.1 116 (x1).toNatClampNeg else s.1 117 (x1).toNatClampNeg) ∧ gvR (sF s 109 0 (Int32.ofInt 1)) = gqW (gvR s) (x1).toNatClampNeg x2 x3) := by first | exact Or.inl ⟨rfl, (by first | (unfold HAR GVL In; have a0 := oa5 ((inv_F hI 0 2 rfl e_109_0)) i78 ((in_c 0 rfl)) i55x1 ((in_c 1 rfl)); have oc := oc_284_109; omega) | (unfold HAR GVL In; rw [← e55x16]; have a0 := oa5 ((inv_F hI 0 2 rfl e_109_0)) i78 ((in_c 0 rfl)) i55x1 ((in_c 1 rfl)); have oc := oc_284_109; omega)), (gvR_cg (L := ([], [], [(109, 0)], [])) (fr_sF rfl fr_rf) rfl)⟩ | exact Or.inr (Or.inl ⟨rfl, ⟨⟨by have a0 := oa5 ((inv_F hI 0 2 rfl e_109_0)) i78 ((in_c 0 rfl)) i55x1 ((in_c 1 rfl)); have oc := oc_284_109; omega, by have a0 := oa5 ((inv_F hI 0 2 rfl e_109_0)) i78 ((in_c 0 rfl)) i55x1 ((in_c 1 rfl)); have oc := oc_284_109; omega, by rw [← e55x16]; have a0 := oa5 ((inv_F hI 0 2 rfl e_109_0)) i78 ((in_c 0 rfl)) i55x1 ((in_c 1 rfl)); have oc := oc_284_109; omega⟩, (by unfold GVL In; have a0 := oa5 ((inv_F hI 0 2 rfl e_109_0)) i78 ((in_c 0 rfl)) i55x1 ((in_c 1 rfl)); have oc := oc_284_109; omega)⟩, (by rw [← e_109_9]; have a0 := oa5 ((inv_F hI 0 2 rfl e_109_0)) i78 ((in_c 0 rfl)) i55x1 ((in_c 1 rfl)); have oc := oc_284_109; omega), (gvR_cg (L := ([], [], [(109, 0)], [])) (fr_sF rfl fr_rf) rfl)⟩)
                    have n93a : LGX s (sF s 109 0 (Int32.ofInt 1)) (Int32.ofInt 3) x1 x2 x3 (Int32.ofInt 0) (Int32.ofInt 0) (Int32.ofInt 0) := by exact Or.inl ⟨rfl, rfl, rfl, rfl, rfl, rfl, rfl, rfl⟩
                    have n93b : GSE s → GSE (sF s 109 0 (Int32.ofInt 1)) := by exact fun h => gse_fr (L := ([], [], [(109, 0)], [])) h (fr_sF rfl fr_rf) rfl
                    have n93c : G1S s (sF s 109 0 (Int32.ofInt 1)) := by exact ⟨rfl, fun _ _ => rfl, fun _ _ _ => ⟨rfl, rfl, rfl, rfl, rfl, rfl⟩⟩
                    exact g_ireturn (gd rfl) rfl rfl (hP _ _ ⟨(sF s 109 0 (Int32.ofInt 1)), hI86x18, (fr_sF rfl fr_rf), (Int32.ofInt 0), rfl, rfl, in_w (-1000000) 1000000 (in_c 0 rfl) rfl, n93, n93a, n93b, n93c⟩)
          · skip
            exact zn_ne c58 (in_c 0 rfl) rfl
        · skip
          have i55x1 := z_ge 0 2147483647 c55x1 (i_rng x1) rfl
          refine g_iload_n 5 (gd rfl) rfl rfl ?_
          refine g_sipush 160 8 (gd rfl) rfl rfl ?_
          refine g_cmp_ge 11 24 (gd rfl) rfl rfl (fun c55x8 => ?_) (fun c55x8 => ?_)
          · skip
            have i55x8 := r_le2 160 2147483647 c55x8 (in_c 160 rfl) i55x1 rfl
            refine g_iconst 0 25 (gd rfl) rfl rfl ?_
            refine g_ireturn (gd rfl) rfl (nb01 (in_w 0 1 (in_c 0 rfl) rfl)) (hp55 _ _ ?_)
            show GG _ _ _ _ _ _ _ _ [.int (Int32.ofInt 0), .ref (A 109)] _ _ _
            refine g_if_eq 61 70 (gd rfl) rfl rfl (fun c58 => ?_) (fun c58 => ?_)
            · skip
              refine g_iconst 0 71 (gd rfl) rfl rfl ?_
              refine g_aload_n 72 (gd rfl) rfl rfl ?_
              refine g_getI 75 (gd rfl) rfl rfl rfl (fun z72 e72 => ?_)
              have q72 : u_109_9 = z72 := (e_109_9).trans e72.symm
              subst q72
              refine g_sipush 4000 78 (gd rfl) rfl rfl ?_
              refine g_cmp_ge 81 85 (gd rfl) rfl rfl (fun c78 => ?_) (fun c78 => ?_)
              · skip
                have i78 := r_le2 4000 4000 c78 (in_c 4000 rfl) (inv_F hI 0 4000 rfl e_109_9) rfl
                refine g_iconst 0 86 (gd rfl) rfl rfl ?_
                refine g_callv (X := _) (As := [.int (Int32.ofInt 0), .int (Int32.ofInt 0)]) (r := []) (b := A 109) (q := 109) 89 (gd rfl) rfl rfl rfl rfl rfl (ww_o rfl) (Nat.le_of_ble_eq_true rfl) (mc := 0) (ms := 0) (Nat.zero_le _) (Nat.zero_le _) (P := fun v u => _) ?_ (fun e u h => h) (fun v u h => h)
                intro po86 xx86 hp86 hx86
                refine g_enter2 (k := 270) (N := 300) (by first | exact dq1 hd rfl | exact dq0 hd rfl | exact dq2 hd rfl | exact dq3 hd rfl | omega) rfl (Nat.le_of_ble_eq_true rfl) ?_
                refine g_aload_n 1 (gd rfl) rfl rfl ?_
                refine g_iload_n 2 (gd rfl) rfl rfl ?_
                refine g_if_ne 5 9 (gd rfl) rfl rfl (fun c86x2 => ?_) (fun c86x2 => ?_)
                · skip
                  exact zn_ne c86x2 (in_c 0 rfl) rfl
                · skip
                  refine g_iconst 1 6 (gd rfl) rfl rfl ?_
                  refine g_goto 18 (gd rfl) rfl ?_
                  refine g_putI 21 (gd rfl) rfl rfl rfl rfl ?_
                  have hI86x18 := inv_sF (q := 109) (j := 0) hI rfl (in_w 0 2 (in_c 1 rfl) rfl)
                  refine g_aload_n 22 (gd rfl) rfl rfl ?_
                  refine g_getI 25 (gd rfl) rfl rfl rfl (fun z86x22 e86x22 => ?_)
                  have q86x22 : (Int32.ofInt 1) = z86x22 := (sF_get).trans e86x22.symm
                  subst q86x22
                  refine g_if_le 28 32 (gd rfl) rfl rfl (fun c86x25 => ?_) (fun c86x25 => ?_)
                  · skip
                    exact zn_le c86x25 (in_c 1 rfl) rfl
                  · skip
                    refine g_iconst 1 29 (gd rfl) rfl rfl ?_
                    refine g_goto 33 (gd rfl) rfl ?_
                    refine g_ireturn (gd rfl) rfl (nb01 (in_w 0 1 (in_c 1 rfl) rfl)) (hp86 _ _ ?_)
                    show GG _ _ _ _ _ _ _ _ [.int (Int32.ofInt 1)] _ _ _
                    refine g_if_eq 92 94 (gd rfl) rfl rfl (fun c89 => ?_) (fun c89 => ?_)
                    · skip
                      exact zn_eq c89 (in_c 1 rfl) rfl
                    · skip
                      refine g_iconst 0 93 (gd rfl) rfl rfl ?_
                      have n93 : CDR s (sF s 109 0 (Int32.ofInt 1)) (HAR s x1 ∧ GVL x2 x3) ((s.2.2.1 109 9).toInt ≤ 3999) (((Int32.ofInt 0)) = (if (x2).toInt = 0 then s.1 115 (x1).toNatClampNeg else if (x2).toInt = 1 then s.1 116 (x1).toNatClampNeg else s.1 117 (x1).toNatClampNeg) ∧ gvR (sF s 109 0 (Int32.ofInt 1)) = gqW (gvR s) (x1).toNatClampNeg x2 x3) := by first | exact Or.inl ⟨rfl, (by first | (unfold HAR GVL In; have a0 := oa5 ((inv_F hI 0 2 rfl e_109_0)) i78 ((in_c 0 rfl)) i55x8 ((in_c 1 rfl)); have oc := oc_284_109; omega) | (unfold HAR GVL In; rw [← e55x16]; have a0 := oa5 ((inv_F hI 0 2 rfl e_109_0)) i78 ((in_c 0 rfl)) i55x8 ((in_c 1 rfl)); have oc := oc_284_109; omega)), (gvR_cg (L := ([], [], [(109, 0)], [])) (fr_sF rfl fr_rf) rfl)⟩ | exact Or.inr (Or.inl ⟨rfl, ⟨⟨by have a0 := oa5 ((inv_F hI 0 2 rfl e_109_0)) i78 ((in_c 0 rfl)) i55x8 ((in_c 1 rfl)); have oc := oc_284_109; omega, by have a0 := oa5 ((inv_F hI 0 2 rfl e_109_0)) i78 ((in_c 0 rfl)) i55x8 ((in_c 1 rfl)); have oc := oc_284_109; omega, by rw [← e55x16]; have a0 := oa5 ((inv_F hI 0 2 rfl e_109_0)) i78 ((in_c 0 rfl)) i55x8 ((in_c 1 rfl)); have oc := oc_284_109; omega⟩, (by unfold GVL In; have a0 := oa5 ((inv_F hI 0 2 rfl e_109_0)) i78 ((in_c 0 rfl)) i55x8 ((in_c 1 rfl)); have oc := oc_284_109; omega)⟩, (by rw [← e_109_9]; have a0 := oa5 ((inv_F hI 0 2 rfl e_109_0)) i78 ((in_c 0 rfl)) i55x8 ((in_c 1 rfl)); have oc := oc_284_109; omega), (gvR_cg (L := ([], [], [(109, 0)], [])) (fr_sF rfl fr_rf) rfl)⟩)
                      have n93a : LGX s (sF s 109 0 (Int32.ofInt 1)) (Int32.ofInt 3) x1 x2 x3 (Int32.ofInt 0) (Int32.ofInt 0) (Int32.ofInt 0) := by exact Or.inl ⟨rfl, rfl, rfl, rfl, rfl, rfl, rfl, rfl⟩
                      have n93b : GSE s → GSE (sF s 109 0 (Int32.ofInt 1)) := by exact fun h => gse_fr (L := ([], [], [(109, 0)], [])) h (fr_sF rfl fr_rf) rfl
                      have n93c : G1S s (sF s 109 0 (Int32.ofInt 1)) := by exact ⟨rfl, fun _ _ => rfl, fun _ _ _ => ⟨rfl, rfl, rfl, rfl, rfl, rfl⟩⟩
                      exact g_ireturn (gd rfl) rfl rfl (hP _ _ ⟨(sF s 109 0 (Int32.ofInt 1)), hI86x18, (fr_sF rfl fr_rf), (Int32.ofInt 0), rfl, rfl, in_w (-1000000) 1000000 (in_c 0 rfl) rfl, n93, n93a, n93b, n93c⟩)
              · skip
                have i78 := r_lt1 0 3999 c78 (inv_F hI 0 4000 rfl e_109_9) (in_c 4000 rfl) rfl
                refine g_iconst 1 82 (gd rfl) rfl rfl ?_
                refine g_goto 86 (gd rfl) rfl ?_
                refine g_callv (X := _) (As := [.int (Int32.ofInt 0), .int (Int32.ofInt 1)]) (r := []) (b := A 109) (q := 109) 89 (gd rfl) rfl rfl rfl rfl rfl (ww_o rfl) (Nat.le_of_ble_eq_true rfl) (mc := 0) (ms := 0) (Nat.zero_le _) (Nat.zero_le _) (P := fun v u => _) ?_ (fun e u h => h) (fun v u h => h)
                intro po86 xx86 hp86 hx86
                refine g_enter2 (k := 270) (N := 300) (by first | exact dq1 hd rfl | exact dq0 hd rfl | exact dq2 hd rfl | exact dq3 hd rfl | omega) rfl (Nat.le_of_ble_eq_true rfl) ?_
                refine g_aload_n 1 (gd rfl) rfl rfl ?_
                refine g_iload_n 2 (gd rfl) rfl rfl ?_
                refine g_if_ne 5 9 (gd rfl) rfl rfl (fun c86x2 => ?_) (fun c86x2 => ?_)
                · skip
                  exact zn_ne c86x2 (in_c 0 rfl) rfl
                · skip
                  refine g_iconst 1 6 (gd rfl) rfl rfl ?_
                  refine g_goto 18 (gd rfl) rfl ?_
                  refine g_putI 21 (gd rfl) rfl rfl rfl rfl ?_
                  have hI86x18 := inv_sF (q := 109) (j := 0) hI rfl (in_w 0 2 (in_c 1 rfl) rfl)
                  refine g_aload_n 22 (gd rfl) rfl rfl ?_
                  refine g_getI 25 (gd rfl) rfl rfl rfl (fun z86x22 e86x22 => ?_)
                  have q86x22 : (Int32.ofInt 1) = z86x22 := (sF_get).trans e86x22.symm
                  subst q86x22
                  refine g_if_le 28 32 (gd rfl) rfl rfl (fun c86x25 => ?_) (fun c86x25 => ?_)
                  · skip
                    exact zn_le c86x25 (in_c 1 rfl) rfl
                  · skip
                    refine g_iconst 1 29 (gd rfl) rfl rfl ?_
                    refine g_goto 33 (gd rfl) rfl ?_
                    refine g_ireturn (gd rfl) rfl (nb01 (in_w 0 1 (in_c 1 rfl) rfl)) (hp86 _ _ ?_)
                    show GG _ _ _ _ _ _ _ _ [.int (Int32.ofInt 1)] _ _ _
                    refine g_if_eq 92 94 (gd rfl) rfl rfl (fun c89 => ?_) (fun c89 => ?_)
                    · skip
                      exact zn_eq c89 (in_c 1 rfl) rfl
                    · skip
                      refine g_iconst 0 93 (gd rfl) rfl rfl ?_
                      have n93 : CDR s (sF s 109 0 (Int32.ofInt 1)) (HAR s x1 ∧ GVL x2 x3) ((s.2.2.1 109 9).toInt ≤ 3999) (((Int32.ofInt 0)) = (if (x2).toInt = 0 then s.1 115 (x1).toNatClampNeg else if (x2).toInt = 1 then s.1 116 (x1).toNatClampNeg else s.1 117 (x1).toNatClampNeg) ∧ gvR (sF s 109 0 (Int32.ofInt 1)) = gqW (gvR s) (x1).toNatClampNeg x2 x3) := by first | exact Or.inl ⟨rfl, (by first | (unfold HAR GVL In; have a0 := oa5 ((inv_F hI 0 2 rfl e_109_0)) i78 ((in_c 0 rfl)) i55x8 ((in_c 1 rfl)); have oc := oc_284_109; omega) | (unfold HAR GVL In; rw [← e55x16]; have a0 := oa5 ((inv_F hI 0 2 rfl e_109_0)) i78 ((in_c 0 rfl)) i55x8 ((in_c 1 rfl)); have oc := oc_284_109; omega)), (gvR_cg (L := ([], [], [(109, 0)], [])) (fr_sF rfl fr_rf) rfl)⟩ | exact Or.inr (Or.inl ⟨rfl, ⟨⟨by have a0 := oa5 ((inv_F hI 0 2 rfl e_109_0)) i78 ((in_c 0 rfl)) i55x8 ((in_c 1 rfl)); have oc := oc_284_109; omega, by have a0 := oa5 ((inv_F hI 0 2 rfl e_109_0)) i78 ((in_c 0 rfl)) i55x8 ((in_c 1 rfl)); have oc := oc_284_109; omega, by rw [← e55x16]; have a0 := oa5 ((inv_F hI 0 2 rfl e_109_0)) i78 ((in_c 0 rfl)) i55x8 ((in_c 1 rfl)); have oc := oc_284_109; omega⟩, (by unfold GVL In; have a0 := oa5 ((inv_F hI 0 2 rfl e_109_0)) i78 ((in_c 0 rfl)) i55x8 ((in_c 1 rfl)); have oc := oc_284_109; omega)⟩, (by rw [← e_109_9]; have a0 := oa5 ((inv_F hI 0 2 rfl e_109_0)) i78 ((in_c 0 rfl)) i55x8 ((in_c 1 rfl)); have oc := oc_284_109; omega), (gvR_cg (L := ([], [], [(109, 0)], [])) (fr_sF rfl fr_rf) rfl)⟩)
                      have n93a : LGX s (sF s 109 0 (Int32.ofInt 1)) (Int32.ofInt 3) x1 x2 x3 (Int32.ofInt 0) (Int32.ofInt 0) (Int32.ofInt 0) := by exact Or.inl ⟨rfl, rfl, rfl, rfl, rfl, rfl, rfl, rfl⟩
                      have n93b : GSE s → GSE (sF s 109 0 (Int32.ofInt 1)) := by exact fun h => gse_fr (L := ([], [], [(109, 0)], [])) h (fr_sF rfl fr_rf) rfl
                      have n93c : G1S s (sF s 109 0 (Int32.ofInt 1)) := by exact ⟨rfl, fun _ _ => rfl, fun _ _ _ => ⟨rfl, rfl, rfl, rfl, rfl, rfl⟩⟩
                      exact g_ireturn (gd rfl) rfl rfl (hP _ _ ⟨(sF s 109 0 (Int32.ofInt 1)), hI86x18, (fr_sF rfl fr_rf), (Int32.ofInt 0), rfl, rfl, in_w (-1000000) 1000000 (in_c 0 rfl) rfl, n93, n93a, n93b, n93c⟩)
            · skip
              exact zn_ne c58 (in_c 0 rfl) rfl
          · skip
            have i55x8 := r_lt1 0 159 c55x8 i55x1 (in_c 160 rfl) rfl
            refine g_aload_n 12 (gd rfl) rfl rfl ?_
            refine g_getA (q2 := 112) 15 (gd rfl) rfl rfl rfl rfl ?_
            refine g_iload_n 16 (gd rfl) rfl rfl ?_
            refine g_baload 17 (gd rfl) rfl (n := 480) rfl (in_ix i55x8 rfl) (fun z55x16 e55x16 => ?_)
            have i55x16 := inv_I hI (n := 480) (t := 3) 0 1 rfl (in_ix i55x8 rfl) rfl e55x16
            refine g_if_eq 20 24 (gd rfl) rfl rfl (fun c55x17 => ?_) (fun c55x17 => ?_)
            · skip
              have i55x17 := z_eq 0 0 c55x17 i55x16 rfl
              refine g_iconst 0 25 (gd rfl) rfl rfl ?_
              refine g_ireturn (gd rfl) rfl (nb01 (in_w 0 1 (in_c 0 rfl) rfl)) (hp55 _ _ ?_)
              show GG _ _ _ _ _ _ _ _ [.int (Int32.ofInt 0), .ref (A 109)] _ _ _
              refine g_if_eq 61 70 (gd rfl) rfl rfl (fun c58 => ?_) (fun c58 => ?_)
              · skip
                refine g_iconst 0 71 (gd rfl) rfl rfl ?_
                refine g_aload_n 72 (gd rfl) rfl rfl ?_
                refine g_getI 75 (gd rfl) rfl rfl rfl (fun z72 e72 => ?_)
                have q72 : u_109_9 = z72 := (e_109_9).trans e72.symm
                subst q72
                refine g_sipush 4000 78 (gd rfl) rfl rfl ?_
                refine g_cmp_ge 81 85 (gd rfl) rfl rfl (fun c78 => ?_) (fun c78 => ?_)
                · skip
                  have i78 := r_le2 4000 4000 c78 (in_c 4000 rfl) (inv_F hI 0 4000 rfl e_109_9) rfl
                  refine g_iconst 0 86 (gd rfl) rfl rfl ?_
                  refine g_callv (X := _) (As := [.int (Int32.ofInt 0), .int (Int32.ofInt 0)]) (r := []) (b := A 109) (q := 109) 89 (gd rfl) rfl rfl rfl rfl rfl (ww_o rfl) (Nat.le_of_ble_eq_true rfl) (mc := 0) (ms := 0) (Nat.zero_le _) (Nat.zero_le _) (P := fun v u => _) ?_ (fun e u h => h) (fun v u h => h)
                  intro po86 xx86 hp86 hx86
                  refine g_enter2 (k := 270) (N := 300) (by first | exact dq1 hd rfl | exact dq0 hd rfl | exact dq2 hd rfl | exact dq3 hd rfl | omega) rfl (Nat.le_of_ble_eq_true rfl) ?_
                  refine g_aload_n 1 (gd rfl) rfl rfl ?_
                  refine g_iload_n 2 (gd rfl) rfl rfl ?_
                  refine g_if_ne 5 9 (gd rfl) rfl rfl (fun c86x2 => ?_) (fun c86x2 => ?_)
                  · skip
                    exact zn_ne c86x2 (in_c 0 rfl) rfl
                  · skip
                    refine g_iconst 1 6 (gd rfl) rfl rfl ?_
                    refine g_goto 18 (gd rfl) rfl ?_
                    refine g_putI 21 (gd rfl) rfl rfl rfl rfl ?_
                    have hI86x18 := inv_sF (q := 109) (j := 0) hI rfl (in_w 0 2 (in_c 1 rfl) rfl)
                    refine g_aload_n 22 (gd rfl) rfl rfl ?_
                    refine g_getI 25 (gd rfl) rfl rfl rfl (fun z86x22 e86x22 => ?_)
                    have q86x22 : (Int32.ofInt 1) = z86x22 := (sF_get).trans e86x22.symm
                    subst q86x22
                    refine g_if_le 28 32 (gd rfl) rfl rfl (fun c86x25 => ?_) (fun c86x25 => ?_)
                    · skip
                      exact zn_le c86x25 (in_c 1 rfl) rfl
                    · skip
                      refine g_iconst 1 29 (gd rfl) rfl rfl ?_
                      refine g_goto 33 (gd rfl) rfl ?_
                      refine g_ireturn (gd rfl) rfl (nb01 (in_w 0 1 (in_c 1 rfl) rfl)) (hp86 _ _ ?_)
                      show GG _ _ _ _ _ _ _ _ [.int (Int32.ofInt 1)] _ _ _
                      refine g_if_eq 92 94 (gd rfl) rfl rfl (fun c89 => ?_) (fun c89 => ?_)
                      · skip
                        exact zn_eq c89 (in_c 1 rfl) rfl
                      · skip
                        refine g_iconst 0 93 (gd rfl) rfl rfl ?_
                        have n93 : CDR s (sF s 109 0 (Int32.ofInt 1)) (HAR s x1 ∧ GVL x2 x3) ((s.2.2.1 109 9).toInt ≤ 3999) (((Int32.ofInt 0)) = (if (x2).toInt = 0 then s.1 115 (x1).toNatClampNeg else if (x2).toInt = 1 then s.1 116 (x1).toNatClampNeg else s.1 117 (x1).toNatClampNeg) ∧ gvR (sF s 109 0 (Int32.ofInt 1)) = gqW (gvR s) (x1).toNatClampNeg x2 x3) := by first | exact Or.inl ⟨rfl, (by first | (unfold HAR GVL In; have a0 := oa5 i55x8 ((inv_F hI 0 2 rfl e_109_0)) i78 ((in_c 0 rfl)) ((in_c 1 rfl)); have oc := oc_284_109; omega) | (unfold HAR GVL In; rw [← e55x16]; have a0 := oa5 i55x8 ((inv_F hI 0 2 rfl e_109_0)) i78 ((in_c 0 rfl)) ((in_c 1 rfl)); have oc := oc_284_109; omega)), (gvR_cg (L := ([], [], [(109, 0)], [])) (fr_sF rfl fr_rf) rfl)⟩ | exact Or.inr (Or.inl ⟨rfl, ⟨⟨by have a0 := oa5 i55x8 ((inv_F hI 0 2 rfl e_109_0)) i78 ((in_c 0 rfl)) ((in_c 1 rfl)); have oc := oc_284_109; omega, by have a0 := oa5 i55x8 ((inv_F hI 0 2 rfl e_109_0)) i78 ((in_c 0 rfl)) ((in_c 1 rfl)); have oc := oc_284_109; omega, by rw [← e55x16]; have a0 := oa5 i55x8 ((inv_F hI 0 2 rfl e_109_0)) i78 ((in_c 0 rfl)) ((in_c 1 rfl)); have oc := oc_284_109; omega⟩, (by unfold GVL In; have a0 := oa5 i55x8 ((inv_F hI 0 2 rfl e_109_0)) i78 ((in_c 0 rfl)) ((in_c 1 rfl)); have oc := oc_284_109; omega)⟩, (by rw [← e_109_9]; have a0 := oa5 i55x8 ((inv_F hI 0 2 rfl e_109_0)) i78 ((in_c 0 rfl)) ((in_c 1 rfl)); have oc := oc_284_109; omega), (gvR_cg (L := ([], [], [(109, 0)], [])) (fr_sF rfl fr_rf) rfl)⟩)
                        have n93a : LGX s (sF s 109 0 (Int32.ofInt 1)) (Int32.ofInt 3) x1 x2 x3 (Int32.ofInt 0) (Int32.ofInt 0) (Int32.ofInt 0) := by exact Or.inl ⟨rfl, rfl, rfl, rfl, rfl, rfl, rfl, rfl⟩
                        have n93b : GSE s → GSE (sF s 109 0 (Int32.ofInt 1)) := by exact fun h => gse_fr (L := ([], [], [(109, 0)], [])) h (fr_sF rfl fr_rf) rfl
                        have n93c : G1S s (sF s 109 0 (Int32.ofInt 1)) := by exact ⟨rfl, fun _ _ => rfl, fun _ _ _ => ⟨rfl, rfl, rfl, rfl, rfl, rfl⟩⟩
                        exact g_ireturn (gd rfl) rfl rfl (hP _ _ ⟨(sF s 109 0 (Int32.ofInt 1)), hI86x18, (fr_sF rfl fr_rf), (Int32.ofInt 0), rfl, rfl, in_w (-1000000) 1000000 (in_c 0 rfl) rfl, n93, n93a, n93b, n93c⟩)
                · skip
                  have i78 := r_lt1 0 3999 c78 (inv_F hI 0 4000 rfl e_109_9) (in_c 4000 rfl) rfl
                  refine g_iconst 1 82 (gd rfl) rfl rfl ?_
                  refine g_goto 86 (gd rfl) rfl ?_
                  refine g_callv (X := _) (As := [.int (Int32.ofInt 0), .int (Int32.ofInt 1)]) (r := []) (b := A 109) (q := 109) 89 (gd rfl) rfl rfl rfl rfl rfl (ww_o rfl) (Nat.le_of_ble_eq_true rfl) (mc := 0) (ms := 0) (Nat.zero_le _) (Nat.zero_le _) (P := fun v u => _) ?_ (fun e u h => h) (fun v u h => h)
                  intro po86 xx86 hp86 hx86
                  refine g_enter2 (k := 270) (N := 300) (by first | exact dq1 hd rfl | exact dq0 hd rfl | exact dq2 hd rfl | exact dq3 hd rfl | omega) rfl (Nat.le_of_ble_eq_true rfl) ?_
                  refine g_aload_n 1 (gd rfl) rfl rfl ?_
                  refine g_iload_n 2 (gd rfl) rfl rfl ?_
                  refine g_if_ne 5 9 (gd rfl) rfl rfl (fun c86x2 => ?_) (fun c86x2 => ?_)
                  · skip
                    exact zn_ne c86x2 (in_c 0 rfl) rfl
                  · skip
                    refine g_iconst 1 6 (gd rfl) rfl rfl ?_
                    refine g_goto 18 (gd rfl) rfl ?_
                    refine g_putI 21 (gd rfl) rfl rfl rfl rfl ?_
                    have hI86x18 := inv_sF (q := 109) (j := 0) hI rfl (in_w 0 2 (in_c 1 rfl) rfl)
                    refine g_aload_n 22 (gd rfl) rfl rfl ?_
                    refine g_getI 25 (gd rfl) rfl rfl rfl (fun z86x22 e86x22 => ?_)
                    have q86x22 : (Int32.ofInt 1) = z86x22 := (sF_get).trans e86x22.symm
                    subst q86x22
                    refine g_if_le 28 32 (gd rfl) rfl rfl (fun c86x25 => ?_) (fun c86x25 => ?_)
                    · skip
                      exact zn_le c86x25 (in_c 1 rfl) rfl
                    · skip
                      refine g_iconst 1 29 (gd rfl) rfl rfl ?_
                      refine g_goto 33 (gd rfl) rfl ?_
                      refine g_ireturn (gd rfl) rfl (nb01 (in_w 0 1 (in_c 1 rfl) rfl)) (hp86 _ _ ?_)
                      show GG _ _ _ _ _ _ _ _ [.int (Int32.ofInt 1)] _ _ _
                      refine g_if_eq 92 94 (gd rfl) rfl rfl (fun c89 => ?_) (fun c89 => ?_)
                      · skip
                        exact zn_eq c89 (in_c 1 rfl) rfl
                      · skip
                        refine g_iconst 0 93 (gd rfl) rfl rfl ?_
                        have n93 : CDR s (sF s 109 0 (Int32.ofInt 1)) (HAR s x1 ∧ GVL x2 x3) ((s.2.2.1 109 9).toInt ≤ 3999) (((Int32.ofInt 0)) = (if (x2).toInt = 0 then s.1 115 (x1).toNatClampNeg else if (x2).toInt = 1 then s.1 116 (x1).toNatClampNeg else s.1 117 (x1).toNatClampNeg) ∧ gvR (sF s 109 0 (Int32.ofInt 1)) = gqW (gvR s) (x1).toNatClampNeg x2 x3) := by first | exact Or.inl ⟨rfl, (by first | (unfold HAR GVL In; have a0 := oa5 i55x8 ((inv_F hI 0 2 rfl e_109_0)) i78 ((in_c 0 rfl)) ((in_c 1 rfl)); have oc := oc_284_109; omega) | (unfold HAR GVL In; rw [← e55x16]; have a0 := oa5 i55x8 ((inv_F hI 0 2 rfl e_109_0)) i78 ((in_c 0 rfl)) ((in_c 1 rfl)); have oc := oc_284_109; omega)), (gvR_cg (L := ([], [], [(109, 0)], [])) (fr_sF rfl fr_rf) rfl)⟩ | exact Or.inr (Or.inl ⟨rfl, ⟨⟨by have a0 := oa5 i55x8 ((inv_F hI 0 2 rfl e_109_0)) i78 ((in_c 0 rfl)) ((in_c 1 rfl)); have oc := oc_284_109; omega, by have a0 := oa5 i55x8 ((inv_F hI 0 2 rfl e_109_0)) i78 ((in_c 0 rfl)) ((in_c 1 rfl)); have oc := oc_284_109; omega, by rw [← e55x16]; have a0 := oa5 i55x8 ((inv_F hI 0 2 rfl e_109_0)) i78 ((in_c 0 rfl)) ((in_c 1 rfl)); have oc := oc_284_109; omega⟩, (by unfold GVL In; have a0 := oa5 i55x8 ((inv_F hI 0 2 rfl e_109_0)) i78 ((in_c 0 rfl)) ((in_c 1 rfl)); have oc := oc_284_109; omega)⟩, (by rw [← e_109_9]; have a0 := oa5 i55x8 ((inv_F hI 0 2 rfl e_109_0)) i78 ((in_c 0 rfl)) ((in_c 1 rfl)); have oc := oc_284_109; omega), (gvR_cg (L := ([], [], [(109, 0)], [])) (fr_sF rfl fr_rf) rfl)⟩)
                        have n93a : LGX s (sF s 109 0 (Int32.ofInt 1)) (Int32.ofInt 3) x1 x2 x3 (Int32.ofInt 0) (Int32.ofInt 0) (Int32.ofInt 0) := by exact Or.inl ⟨rfl, rfl, rfl, rfl, rfl, rfl, rfl, rfl⟩
                        have n93b : GSE s → GSE (sF s 109 0 (Int32.ofInt 1)) := by exact fun h => gse_fr (L := ([], [], [(109, 0)], [])) h (fr_sF rfl fr_rf) rfl
                        have n93c : G1S s (sF s 109 0 (Int32.ofInt 1)) := by exact ⟨rfl, fun _ _ => rfl, fun _ _ _ => ⟨rfl, rfl, rfl, rfl, rfl, rfl⟩⟩
                        exact g_ireturn (gd rfl) rfl rfl (hP _ _ ⟨(sF s 109 0 (Int32.ofInt 1)), hI86x18, (fr_sF rfl fr_rf), (Int32.ofInt 0), rfl, rfl, in_w (-1000000) 1000000 (in_c 0 rfl) rfl, n93, n93a, n93b, n93c⟩)
              · skip
                exact zn_ne c58 (in_c 0 rfl) rfl
            · skip
              have i55x17 := z_ne 1 1 c55x17 i55x16 rfl
              refine g_iconst 1 21 (gd rfl) rfl rfl ?_
              refine g_goto 25 (gd rfl) rfl ?_
              refine g_ireturn (gd rfl) rfl (nb01 (in_w 0 1 (in_c 1 rfl) rfl)) (hp55 _ _ ?_)
              show GG _ _ _ _ _ _ _ _ [.int (Int32.ofInt 1), .ref (A 109)] _ _ _
              refine g_if_eq 61 70 (gd rfl) rfl rfl (fun c58 => ?_) (fun c58 => ?_)
              · skip
                exact zn_eq c58 (in_c 1 rfl) rfl
              · skip
                refine g_iload 63 (gd rfl) rfl rfl ?_
                refine g_if_eq 66 70 (gd rfl) rfl rfl (fun c63 => ?_) (fun c63 => ?_)
                · skip
                  refine g_iconst 0 71 (gd rfl) rfl rfl ?_
                  refine g_aload_n 72 (gd rfl) rfl rfl ?_
                  refine g_getI 75 (gd rfl) rfl rfl rfl (fun z72 e72 => ?_)
                  have q72 : u_109_9 = z72 := (e_109_9).trans e72.symm
                  subst q72
                  refine g_sipush 4000 78 (gd rfl) rfl rfl ?_
                  refine g_cmp_ge 81 85 (gd rfl) rfl rfl (fun c78 => ?_) (fun c78 => ?_)
                  · skip
                    have i78 := r_le2 4000 4000 c78 (in_c 4000 rfl) (inv_F hI 0 4000 rfl e_109_9) rfl
                    refine g_iconst 0 86 (gd rfl) rfl rfl ?_
                    refine g_callv (X := _) (As := [.int (Int32.ofInt 0), .int (Int32.ofInt 0)]) (r := []) (b := A 109) (q := 109) 89 (gd rfl) rfl rfl rfl rfl rfl (ww_o rfl) (Nat.le_of_ble_eq_true rfl) (mc := 0) (ms := 0) (Nat.zero_le _) (Nat.zero_le _) (P := fun v u => _) ?_ (fun e u h => h) (fun v u h => h)
                    intro po86 xx86 hp86 hx86
                    refine g_enter2 (k := 270) (N := 300) (by first | exact dq1 hd rfl | exact dq0 hd rfl | exact dq2 hd rfl | exact dq3 hd rfl | omega) rfl (Nat.le_of_ble_eq_true rfl) ?_
                    refine g_aload_n 1 (gd rfl) rfl rfl ?_
                    refine g_iload_n 2 (gd rfl) rfl rfl ?_
                    refine g_if_ne 5 9 (gd rfl) rfl rfl (fun c86x2 => ?_) (fun c86x2 => ?_)
                    · skip
                      exact zn_ne c86x2 (in_c 0 rfl) rfl
                    · skip
                      refine g_iconst 1 6 (gd rfl) rfl rfl ?_
                      refine g_goto 18 (gd rfl) rfl ?_
                      refine g_putI 21 (gd rfl) rfl rfl rfl rfl ?_
                      have hI86x18 := inv_sF (q := 109) (j := 0) hI rfl (in_w 0 2 (in_c 1 rfl) rfl)
                      refine g_aload_n 22 (gd rfl) rfl rfl ?_
                      refine g_getI 25 (gd rfl) rfl rfl rfl (fun z86x22 e86x22 => ?_)
                      have q86x22 : (Int32.ofInt 1) = z86x22 := (sF_get).trans e86x22.symm
                      subst q86x22
                      refine g_if_le 28 32 (gd rfl) rfl rfl (fun c86x25 => ?_) (fun c86x25 => ?_)
                      · skip
                        exact zn_le c86x25 (in_c 1 rfl) rfl
                      · skip
                        refine g_iconst 1 29 (gd rfl) rfl rfl ?_
                        refine g_goto 33 (gd rfl) rfl ?_
                        refine g_ireturn (gd rfl) rfl (nb01 (in_w 0 1 (in_c 1 rfl) rfl)) (hp86 _ _ ?_)
                        show GG _ _ _ _ _ _ _ _ [.int (Int32.ofInt 1)] _ _ _
                        refine g_if_eq 92 94 (gd rfl) rfl rfl (fun c89 => ?_) (fun c89 => ?_)
                        · skip
                          exact zn_eq c89 (in_c 1 rfl) rfl
                        · skip
                          refine g_iconst 0 93 (gd rfl) rfl rfl ?_
                          have n93 : CDR s (sF s 109 0 (Int32.ofInt 1)) (HAR s x1 ∧ GVL x2 x3) ((s.2.2.1 109 9).toInt ≤ 3999) (((Int32.ofInt 0)) = (if (x2).toInt = 0 then s.1 115 (x1).toNatClampNeg else if (x2).toInt = 1 then s.1 116 (x1).toNatClampNeg else s.1 117 (x1).toNatClampNeg) ∧ gvR (sF s 109 0 (Int32.ofInt 1)) = gqW (gvR s) (x1).toNatClampNeg x2 x3) := by first | exact Or.inl ⟨rfl, (by first | (unfold HAR GVL In; have a0 := oa5 i55x8 ((inv_F hI 0 2 rfl e_109_0)) i78 ((in_c 0 rfl)) ((in_c 1 rfl)); have oc := oc_284_109; omega) | (unfold HAR GVL In; rw [← e55x16]; have a0 := oa5 i55x8 ((inv_F hI 0 2 rfl e_109_0)) i78 ((in_c 0 rfl)) ((in_c 1 rfl)); have oc := oc_284_109; omega)), (gvR_cg (L := ([], [], [(109, 0)], [])) (fr_sF rfl fr_rf) rfl)⟩ | exact Or.inr (Or.inl ⟨rfl, ⟨⟨by have a0 := oa5 i55x8 ((inv_F hI 0 2 rfl e_109_0)) i78 ((in_c 0 rfl)) ((in_c 1 rfl)); have oc := oc_284_109; omega, by have a0 := oa5 i55x8 ((inv_F hI 0 2 rfl e_109_0)) i78 ((in_c 0 rfl)) ((in_c 1 rfl)); have oc := oc_284_109; omega, by rw [← e55x16]; have a0 := oa5 i55x8 ((inv_F hI 0 2 rfl e_109_0)) i78 ((in_c 0 rfl)) ((in_c 1 rfl)); have oc := oc_284_109; omega⟩, (by unfold GVL In; have a0 := oa5 i55x8 ((inv_F hI 0 2 rfl e_109_0)) i78 ((in_c 0 rfl)) ((in_c 1 rfl)); have oc := oc_284_109; omega)⟩, (by rw [← e_109_9]; have a0 := oa5 i55x8 ((inv_F hI 0 2 rfl e_109_0)) i78 ((in_c 0 rfl)) ((in_c 1 rfl)); have oc := oc_284_109; omega), (gvR_cg (L := ([], [], [(109, 0)], [])) (fr_sF rfl fr_rf) rfl)⟩)
                          have n93a : LGX s (sF s 109 0 (Int32.ofInt 1)) (Int32.ofInt 3) x1 x2 x3 (Int32.ofInt 0) (Int32.ofInt 0) (Int32.ofInt 0) := by exact Or.inl ⟨rfl, rfl, rfl, rfl, rfl, rfl, rfl, rfl⟩
                          have n93b : GSE s → GSE (sF s 109 0 (Int32.ofInt 1)) := by exact fun h => gse_fr (L := ([], [], [(109, 0)], [])) h (fr_sF rfl fr_rf) rfl
                          have n93c : G1S s (sF s 109 0 (Int32.ofInt 1)) := by exact ⟨rfl, fun _ _ => rfl, fun _ _ _ => ⟨rfl, rfl, rfl, rfl, rfl, rfl⟩⟩
                          exact g_ireturn (gd rfl) rfl rfl (hP _ _ ⟨(sF s 109 0 (Int32.ofInt 1)), hI86x18, (fr_sF rfl fr_rf), (Int32.ofInt 0), rfl, rfl, in_w (-1000000) 1000000 (in_c 0 rfl) rfl, n93, n93a, n93b, n93c⟩)
                  · skip
                    have i78 := r_lt1 0 3999 c78 (inv_F hI 0 4000 rfl e_109_9) (in_c 4000 rfl) rfl
                    refine g_iconst 1 82 (gd rfl) rfl rfl ?_
                    refine g_goto 86 (gd rfl) rfl ?_
                    refine g_callv (X := _) (As := [.int (Int32.ofInt 0), .int (Int32.ofInt 1)]) (r := []) (b := A 109) (q := 109) 89 (gd rfl) rfl rfl rfl rfl rfl (ww_o rfl) (Nat.le_of_ble_eq_true rfl) (mc := 0) (ms := 0) (Nat.zero_le _) (Nat.zero_le _) (P := fun v u => _) ?_ (fun e u h => h) (fun v u h => h)
                    intro po86 xx86 hp86 hx86
                    refine g_enter2 (k := 270) (N := 300) (by first | exact dq1 hd rfl | exact dq0 hd rfl | exact dq2 hd rfl | exact dq3 hd rfl | omega) rfl (Nat.le_of_ble_eq_true rfl) ?_
                    refine g_aload_n 1 (gd rfl) rfl rfl ?_
                    refine g_iload_n 2 (gd rfl) rfl rfl ?_
                    refine g_if_ne 5 9 (gd rfl) rfl rfl (fun c86x2 => ?_) (fun c86x2 => ?_)
                    · skip
                      exact zn_ne c86x2 (in_c 0 rfl) rfl
                    · skip
                      refine g_iconst 1 6 (gd rfl) rfl rfl ?_
                      refine g_goto 18 (gd rfl) rfl ?_
                      refine g_putI 21 (gd rfl) rfl rfl rfl rfl ?_
                      have hI86x18 := inv_sF (q := 109) (j := 0) hI rfl (in_w 0 2 (in_c 1 rfl) rfl)
                      refine g_aload_n 22 (gd rfl) rfl rfl ?_
                      refine g_getI 25 (gd rfl) rfl rfl rfl (fun z86x22 e86x22 => ?_)
                      have q86x22 : (Int32.ofInt 1) = z86x22 := (sF_get).trans e86x22.symm
                      subst q86x22
                      refine g_if_le 28 32 (gd rfl) rfl rfl (fun c86x25 => ?_) (fun c86x25 => ?_)
                      · skip
                        exact zn_le c86x25 (in_c 1 rfl) rfl
                      · skip
                        refine g_iconst 1 29 (gd rfl) rfl rfl ?_
                        refine g_goto 33 (gd rfl) rfl ?_
                        refine g_ireturn (gd rfl) rfl (nb01 (in_w 0 1 (in_c 1 rfl) rfl)) (hp86 _ _ ?_)
                        show GG _ _ _ _ _ _ _ _ [.int (Int32.ofInt 1)] _ _ _
                        refine g_if_eq 92 94 (gd rfl) rfl rfl (fun c89 => ?_) (fun c89 => ?_)
                        · skip
                          exact zn_eq c89 (in_c 1 rfl) rfl
                        · skip
                          refine g_iconst 0 93 (gd rfl) rfl rfl ?_
                          have n93 : CDR s (sF s 109 0 (Int32.ofInt 1)) (HAR s x1 ∧ GVL x2 x3) ((s.2.2.1 109 9).toInt ≤ 3999) (((Int32.ofInt 0)) = (if (x2).toInt = 0 then s.1 115 (x1).toNatClampNeg else if (x2).toInt = 1 then s.1 116 (x1).toNatClampNeg else s.1 117 (x1).toNatClampNeg) ∧ gvR (sF s 109 0 (Int32.ofInt 1)) = gqW (gvR s) (x1).toNatClampNeg x2 x3) := by first | exact Or.inl ⟨rfl, (by first | (unfold HAR GVL In; have a0 := oa5 i55x8 ((inv_F hI 0 2 rfl e_109_0)) i78 ((in_c 0 rfl)) ((in_c 1 rfl)); have oc := oc_284_109; omega) | (unfold HAR GVL In; rw [← e55x16]; have a0 := oa5 i55x8 ((inv_F hI 0 2 rfl e_109_0)) i78 ((in_c 0 rfl)) ((in_c 1 rfl)); have oc := oc_284_109; omega)), (gvR_cg (L := ([], [], [(109, 0)], [])) (fr_sF rfl fr_rf) rfl)⟩ | exact Or.inr (Or.inl ⟨rfl, ⟨⟨by have a0 := oa5 i55x8 ((inv_F hI 0 2 rfl e_109_0)) i78 ((in_c 0 rfl)) ((in_c 1 rfl)); have oc := oc_284_109; omega, by have a0 := oa5 i55x8 ((inv_F hI 0 2 rfl e_109_0)) i78 ((in_c 0 rfl)) ((in_c 1 rfl)); have oc := oc_284_109; omega, by rw [← e55x16]; have a0 := oa5 i55x8 ((inv_F hI 0 2 rfl e_109_0)) i78 ((in_c 0 rfl)) ((in_c 1 rfl)); have oc := oc_284_109; omega⟩, (by unfold GVL In; have a0 := oa5 i55x8 ((inv_F hI 0 2 rfl e_109_0)) i78 ((in_c 0 rfl)) ((in_c 1 rfl)); have oc := oc_284_109; omega)⟩, (by rw [← e_109_9]; have a0 := oa5 i55x8 ((inv_F hI 0 2 rfl e_109_0)) i78 ((in_c 0 rfl)) ((in_c 1 rfl)); have oc := oc_284_109; omega), (gvR_cg (L := ([], [], [(109, 0)], [])) (fr_sF rfl fr_rf) rfl)⟩)
                          have n93a : LGX s (sF s 109 0 (Int32.ofInt 1)) (Int32.ofInt 3) x1 x2 x3 (Int32.ofInt 0) (Int32.ofInt 0) (Int32.ofInt 0) := by exact Or.inl ⟨rfl, rfl, rfl, rfl, rfl, rfl, rfl, rfl⟩
                          have n93b : GSE s → GSE (sF s 109 0 (Int32.ofInt 1)) := by exact fun h => gse_fr (L := ([], [], [(109, 0)], [])) h (fr_sF rfl fr_rf) rfl
                          have n93c : G1S s (sF s 109 0 (Int32.ofInt 1)) := by exact ⟨rfl, fun _ _ => rfl, fun _ _ _ => ⟨rfl, rfl, rfl, rfl, rfl, rfl⟩⟩
                          exact g_ireturn (gd rfl) rfl rfl (hP _ _ ⟨(sF s 109 0 (Int32.ofInt 1)), hI86x18, (fr_sF rfl fr_rf), (Int32.ofInt 0), rfl, rfl, in_w (-1000000) 1000000 (in_c 0 rfl) rfl, n93, n93a, n93b, n93c⟩)
                · skip
                  exact zn_ne c63 (in_c 0 rfl) rfl
      · skip
        have i30 := r_eq1 2 2 c30 (i_rng x2) (in_c 2 rfl) rfl
        refine g_iload_n 34 (gd rfl) rfl rfl ?_
        refine g_i2l 35 (gd rfl) rfl (fun z34 e34 => ?_)
        have i34 := l_i e34 (i_rng x3)
        refine g_lconst 0 36 (gd rfl) rfl rfl ?_
        refine g_ldc2_w 25 39 (gd rfl) rfl rfl ?_
        refine g_calls (As := [.long z34, .long (Int64.ofInt 0), .long (Int64.ofInt 25)]) (r := []) 42 (gd rfl) rfl rfl rfl rfl rfl (Nat.le_of_ble_eq_true rfl) (mc := 0) (ms := 0) (Nat.zero_le _) (Nat.zero_le _) (P := fun v u => _) ?_ (fun v u h => h)
        intro po39 xx39 hp39 hx39
        refine g_enter2 (k := 269) (N := 300) (by first | exact dq1 hd rfl | exact dq0 hd rfl | exact dq2 hd rfl | exact dq3 hd rfl | omega) rfl (Nat.le_of_ble_eq_true rfl) ?_
        refine g_lload_n 1 (gd rfl) rfl rfl ?_
        refine g_lload_n 2 (gd rfl) rfl rfl ?_
        refine g_lcmp 3 (gd rfl) rfl (fun z39x2 e39x2 => ?_)
        have i39x2 := lc_in e39x2
        refine g_if_lt 6 17 (gd rfl) rfl rfl (fun c39x3 => ?_) (fun c39x3 => ?_)
        · skip
          have i39x3 := z_lt (-1) (-1) c39x3 i39x2 rfl
          have c39x3a := lc_lt e39x2 c39x3
          have i39x3a := lr_lt1 (-2147483648) (-1) c39x3a i34 (l_c 0 rfl) rfl
          have i39x3b := l_b e34 i39x3a
          refine g_iconst 0 18 (gd rfl) rfl rfl ?_
          refine g_ireturn (gd rfl) rfl (nb01 (in_w 0 1 (in_c 0 rfl) rfl)) (hp39 _ _ ?_)
          show GG _ _ _ _ _ _ _ _ [.int (Int32.ofInt 0)] _ _ _
          refine g_if_eq 45 49 (gd rfl) rfl rfl (fun c42 => ?_) (fun c42 => ?_)
          · skip
            refine g_iconst 0 50 (gd rfl) rfl rfl ?_
            refine g_istore 52 (gd rfl) rfl (Nat.le_of_ble_eq_true rfl) ?_
            refine g_aload_n 53 (gd rfl) rfl rfl ?_
            refine g_aload_n 54 (gd rfl) rfl rfl ?_
            refine g_iload_n 55 (gd rfl) rfl rfl ?_
            refine g_callv (X := _) (As := [.int x1]) (r := [.ref (A 109)]) (b := A 109) (q := 109) 58 (gd rfl) rfl rfl rfl rfl rfl (ww_o rfl) (Nat.le_of_ble_eq_true rfl) (mc := 0) (ms := 0) (Nat.zero_le _) (Nat.zero_le _) (P := fun v u => _) ?_ (fun e u h => h) (fun v u h => h)
            intro po55 xx55 hp55 hx55
            refine g_enter2 (k := 278) (N := 300) (by first | exact dq1 hd rfl | exact dq0 hd rfl | exact dq2 hd rfl | exact dq3 hd rfl | omega) rfl (Nat.le_of_ble_eq_true rfl) ?_
            refine g_iload_n 1 (gd rfl) rfl rfl ?_
            refine g_if_lt 4 24 (gd rfl) rfl rfl (fun c55x1 => ?_) (fun c55x1 => ?_)
            · skip
              have i55x1 := z_lt (-2147483648) (-1) c55x1 (i_rng x1) rfl
              refine g_iconst 0 25 (gd rfl) rfl rfl ?_
              refine g_ireturn (gd rfl) rfl (nb01 (in_w 0 1 (in_c 0 rfl) rfl)) (hp55 _ _ ?_)
              show GG _ _ _ _ _ _ _ _ [.int (Int32.ofInt 0), .ref (A 109)] _ _ _
              refine g_if_eq 61 70 (gd rfl) rfl rfl (fun c58 => ?_) (fun c58 => ?_)
              · skip
                refine g_iconst 0 71 (gd rfl) rfl rfl ?_
                refine g_aload_n 72 (gd rfl) rfl rfl ?_
                refine g_getI 75 (gd rfl) rfl rfl rfl (fun z72 e72 => ?_)
                have q72 : u_109_9 = z72 := (e_109_9).trans e72.symm
                subst q72
                refine g_sipush 4000 78 (gd rfl) rfl rfl ?_
                refine g_cmp_ge 81 85 (gd rfl) rfl rfl (fun c78 => ?_) (fun c78 => ?_)
                · skip
                  have i78 := r_le2 4000 4000 c78 (in_c 4000 rfl) (inv_F hI 0 4000 rfl e_109_9) rfl
                  refine g_iconst 0 86 (gd rfl) rfl rfl ?_
                  refine g_callv (X := _) (As := [.int (Int32.ofInt 0), .int (Int32.ofInt 0)]) (r := []) (b := A 109) (q := 109) 89 (gd rfl) rfl rfl rfl rfl rfl (ww_o rfl) (Nat.le_of_ble_eq_true rfl) (mc := 0) (ms := 0) (Nat.zero_le _) (Nat.zero_le _) (P := fun v u => _) ?_ (fun e u h => h) (fun v u h => h)
                  intro po86 xx86 hp86 hx86
                  refine g_enter2 (k := 270) (N := 300) (by first | exact dq1 hd rfl | exact dq0 hd rfl | exact dq2 hd rfl | exact dq3 hd rfl | omega) rfl (Nat.le_of_ble_eq_true rfl) ?_
                  refine g_aload_n 1 (gd rfl) rfl rfl ?_
                  refine g_iload_n 2 (gd rfl) rfl rfl ?_
                  refine g_if_ne 5 9 (gd rfl) rfl rfl (fun c86x2 => ?_) (fun c86x2 => ?_)
                  · skip
                    exact zn_ne c86x2 (in_c 0 rfl) rfl
                  · skip
                    refine g_iconst 1 6 (gd rfl) rfl rfl ?_
                    refine g_goto 18 (gd rfl) rfl ?_
                    refine g_putI 21 (gd rfl) rfl rfl rfl rfl ?_
                    have hI86x18 := inv_sF (q := 109) (j := 0) hI rfl (in_w 0 2 (in_c 1 rfl) rfl)
                    refine g_aload_n 22 (gd rfl) rfl rfl ?_
                    refine g_getI 25 (gd rfl) rfl rfl rfl (fun z86x22 e86x22 => ?_)
                    have q86x22 : (Int32.ofInt 1) = z86x22 := (sF_get).trans e86x22.symm
                    subst q86x22
                    refine g_if_le 28 32 (gd rfl) rfl rfl (fun c86x25 => ?_) (fun c86x25 => ?_)
                    · skip
                      exact zn_le c86x25 (in_c 1 rfl) rfl
                    · skip
                      refine g_iconst 1 29 (gd rfl) rfl rfl ?_
                      refine g_goto 33 (gd rfl) rfl ?_
                      refine g_ireturn (gd rfl) rfl (nb01 (in_w 0 1 (in_c 1 rfl) rfl)) (hp86 _ _ ?_)
                      show GG _ _ _ _ _ _ _ _ [.int (Int32.ofInt 1)] _ _ _
                      refine g_if_eq 92 94 (gd rfl) rfl rfl (fun c89 => ?_) (fun c89 => ?_)
                      · skip
                        exact zn_eq c89 (in_c 1 rfl) rfl
                      · skip
                        refine g_iconst 0 93 (gd rfl) rfl rfl ?_
                        have n93 : CDR s (sF s 109 0 (Int32.ofInt 1)) (HAR s x1 ∧ GVL x2 x3) ((s.2.2.1 109 9).toInt ≤ 3999) (((Int32.ofInt 0)) = (if (x2).toInt = 0 then s.1 115 (x1).toNatClampNeg else if (x2).toInt = 1 then s.1 116 (x1).toNatClampNeg else s.1 117 (x1).toNatClampNeg) ∧ gvR (sF s 109 0 (Int32.ofInt 1)) = gqW (gvR s) (x1).toNatClampNeg x2 x3) := by first | exact Or.inl ⟨rfl, (by first | (unfold HAR GVL In; have a0 := oa7 i30 ((inv_F hI 0 2 rfl e_109_0)) i78 ((in_c 0 rfl)) i39x3b i55x1 ((in_c 1 rfl)); have a7 := tx_i2l e34; have oc := oc_284_109; omega) | (unfold HAR GVL In; rw [← e55x16]; have a0 := oa7 i30 ((inv_F hI 0 2 rfl e_109_0)) i78 ((in_c 0 rfl)) i39x3b i55x1 ((in_c 1 rfl)); have a7 := tx_i2l e34; have oc := oc_284_109; omega)), (gvR_cg (L := ([], [], [(109, 0)], [])) (fr_sF rfl fr_rf) rfl)⟩ | exact Or.inr (Or.inl ⟨rfl, ⟨⟨by have a0 := oa7 i30 ((inv_F hI 0 2 rfl e_109_0)) i78 ((in_c 0 rfl)) i39x3b i55x1 ((in_c 1 rfl)); have a7 := tx_i2l e34; have oc := oc_284_109; omega, by have a0 := oa7 i30 ((inv_F hI 0 2 rfl e_109_0)) i78 ((in_c 0 rfl)) i39x3b i55x1 ((in_c 1 rfl)); have a7 := tx_i2l e34; have oc := oc_284_109; omega, by rw [← e55x16]; have a0 := oa7 i30 ((inv_F hI 0 2 rfl e_109_0)) i78 ((in_c 0 rfl)) i39x3b i55x1 ((in_c 1 rfl)); have a7 := tx_i2l e34; have oc := oc_284_109; omega⟩, (by unfold GVL In; have a0 := oa7 i30 ((inv_F hI 0 2 rfl e_109_0)) i78 ((in_c 0 rfl)) i39x3b i55x1 ((in_c 1 rfl)); have a7 := tx_i2l e34; have oc := oc_284_109; omega)⟩, (by rw [← e_109_9]; have a0 := oa7 i30 ((inv_F hI 0 2 rfl e_109_0)) i78 ((in_c 0 rfl)) i39x3b i55x1 ((in_c 1 rfl)); have a7 := tx_i2l e34; have oc := oc_284_109; omega), (gvR_cg (L := ([], [], [(109, 0)], [])) (fr_sF rfl fr_rf) rfl)⟩)
                        have n93a : LGX s (sF s 109 0 (Int32.ofInt 1)) (Int32.ofInt 3) x1 x2 x3 (Int32.ofInt 0) (Int32.ofInt 0) (Int32.ofInt 0) := by exact Or.inl ⟨rfl, rfl, rfl, rfl, rfl, rfl, rfl, rfl⟩
                        have n93b : GSE s → GSE (sF s 109 0 (Int32.ofInt 1)) := by exact fun h => gse_fr (L := ([], [], [(109, 0)], [])) h (fr_sF rfl fr_rf) rfl
                        have n93c : G1S s (sF s 109 0 (Int32.ofInt 1)) := by exact ⟨rfl, fun _ _ => rfl, fun _ _ _ => ⟨rfl, rfl, rfl, rfl, rfl, rfl⟩⟩
                        exact g_ireturn (gd rfl) rfl rfl (hP _ _ ⟨(sF s 109 0 (Int32.ofInt 1)), hI86x18, (fr_sF rfl fr_rf), (Int32.ofInt 0), rfl, rfl, in_w (-1000000) 1000000 (in_c 0 rfl) rfl, n93, n93a, n93b, n93c⟩)
                · skip
                  have i78 := r_lt1 0 3999 c78 (inv_F hI 0 4000 rfl e_109_9) (in_c 4000 rfl) rfl
                  refine g_iconst 1 82 (gd rfl) rfl rfl ?_
                  refine g_goto 86 (gd rfl) rfl ?_
                  refine g_callv (X := _) (As := [.int (Int32.ofInt 0), .int (Int32.ofInt 1)]) (r := []) (b := A 109) (q := 109) 89 (gd rfl) rfl rfl rfl rfl rfl (ww_o rfl) (Nat.le_of_ble_eq_true rfl) (mc := 0) (ms := 0) (Nat.zero_le _) (Nat.zero_le _) (P := fun v u => _) ?_ (fun e u h => h) (fun v u h => h)
                  intro po86 xx86 hp86 hx86
                  refine g_enter2 (k := 270) (N := 300) (by first | exact dq1 hd rfl | exact dq0 hd rfl | exact dq2 hd rfl | exact dq3 hd rfl | omega) rfl (Nat.le_of_ble_eq_true rfl) ?_
                  refine g_aload_n 1 (gd rfl) rfl rfl ?_
                  refine g_iload_n 2 (gd rfl) rfl rfl ?_
                  refine g_if_ne 5 9 (gd rfl) rfl rfl (fun c86x2 => ?_) (fun c86x2 => ?_)
                  · skip
                    exact zn_ne c86x2 (in_c 0 rfl) rfl
                  · skip
                    refine g_iconst 1 6 (gd rfl) rfl rfl ?_
                    refine g_goto 18 (gd rfl) rfl ?_
                    refine g_putI 21 (gd rfl) rfl rfl rfl rfl ?_
                    have hI86x18 := inv_sF (q := 109) (j := 0) hI rfl (in_w 0 2 (in_c 1 rfl) rfl)
                    refine g_aload_n 22 (gd rfl) rfl rfl ?_
                    refine g_getI 25 (gd rfl) rfl rfl rfl (fun z86x22 e86x22 => ?_)
                    have q86x22 : (Int32.ofInt 1) = z86x22 := (sF_get).trans e86x22.symm
                    subst q86x22
                    refine g_if_le 28 32 (gd rfl) rfl rfl (fun c86x25 => ?_) (fun c86x25 => ?_)
                    · skip
                      exact zn_le c86x25 (in_c 1 rfl) rfl
                    · skip
                      refine g_iconst 1 29 (gd rfl) rfl rfl ?_
                      refine g_goto 33 (gd rfl) rfl ?_
                      refine g_ireturn (gd rfl) rfl (nb01 (in_w 0 1 (in_c 1 rfl) rfl)) (hp86 _ _ ?_)
                      show GG _ _ _ _ _ _ _ _ [.int (Int32.ofInt 1)] _ _ _
                      refine g_if_eq 92 94 (gd rfl) rfl rfl (fun c89 => ?_) (fun c89 => ?_)
                      · skip
                        exact zn_eq c89 (in_c 1 rfl) rfl
                      · skip
                        refine g_iconst 0 93 (gd rfl) rfl rfl ?_
                        have n93 : CDR s (sF s 109 0 (Int32.ofInt 1)) (HAR s x1 ∧ GVL x2 x3) ((s.2.2.1 109 9).toInt ≤ 3999) (((Int32.ofInt 0)) = (if (x2).toInt = 0 then s.1 115 (x1).toNatClampNeg else if (x2).toInt = 1 then s.1 116 (x1).toNatClampNeg else s.1 117 (x1).toNatClampNeg) ∧ gvR (sF s 109 0 (Int32.ofInt 1)) = gqW (gvR s) (x1).toNatClampNeg x2 x3) := by first | exact Or.inl ⟨rfl, (by first | (unfold HAR GVL In; have a0 := oa7 i30 ((inv_F hI 0 2 rfl e_109_0)) i78 ((in_c 0 rfl)) i39x3b i55x1 ((in_c 1 rfl)); have a7 := tx_i2l e34; have oc := oc_284_109; omega) | (unfold HAR GVL In; rw [← e55x16]; have a0 := oa7 i30 ((inv_F hI 0 2 rfl e_109_0)) i78 ((in_c 0 rfl)) i39x3b i55x1 ((in_c 1 rfl)); have a7 := tx_i2l e34; have oc := oc_284_109; omega)), (gvR_cg (L := ([], [], [(109, 0)], [])) (fr_sF rfl fr_rf) rfl)⟩ | exact Or.inr (Or.inl ⟨rfl, ⟨⟨by have a0 := oa7 i30 ((inv_F hI 0 2 rfl e_109_0)) i78 ((in_c 0 rfl)) i39x3b i55x1 ((in_c 1 rfl)); have a7 := tx_i2l e34; have oc := oc_284_109; omega, by have a0 := oa7 i30 ((inv_F hI 0 2 rfl e_109_0)) i78 ((in_c 0 rfl)) i39x3b i55x1 ((in_c 1 rfl)); have a7 := tx_i2l e34; have oc := oc_284_109; omega, by rw [← e55x16]; have a0 := oa7 i30 ((inv_F hI 0 2 rfl e_109_0)) i78 ((in_c 0 rfl)) i39x3b i55x1 ((in_c 1 rfl)); have a7 := tx_i2l e34; have oc := oc_284_109; omega⟩, (by unfold GVL In; have a0 := oa7 i30 ((inv_F hI 0 2 rfl e_109_0)) i78 ((in_c 0 rfl)) i39x3b i55x1 ((in_c 1 rfl)); have a7 := tx_i2l e34; have oc := oc_284_109; omega)⟩, (by rw [← e_109_9]; have a0 := oa7 i30 ((inv_F hI 0 2 rfl e_109_0)) i78 ((in_c 0 rfl)) i39x3b i55x1 ((in_c 1 rfl)); have a7 := tx_i2l e34; have oc := oc_284_109; omega), (gvR_cg (L := ([], [], [(109, 0)], [])) (fr_sF rfl fr_rf) rfl)⟩)
                        have n93a : LGX s (sF s 109 0 (Int32.ofInt 1)) (Int32.ofInt 3) x1 x2 x3 (Int32.ofInt 0) (Int32.ofInt 0) (Int32.ofInt 0) := by exact Or.inl ⟨rfl, rfl, rfl, rfl, rfl, rfl, rfl, rfl⟩
                        have n93b : GSE s → GSE (sF s 109 0 (Int32.ofInt 1)) := by exact fun h => gse_fr (L := ([], [], [(109, 0)], [])) h (fr_sF rfl fr_rf) rfl
                        have n93c : G1S s (sF s 109 0 (Int32.ofInt 1)) := by exact ⟨rfl, fun _ _ => rfl, fun _ _ _ => ⟨rfl, rfl, rfl, rfl, rfl, rfl⟩⟩
                        exact g_ireturn (gd rfl) rfl rfl (hP _ _ ⟨(sF s 109 0 (Int32.ofInt 1)), hI86x18, (fr_sF rfl fr_rf), (Int32.ofInt 0), rfl, rfl, in_w (-1000000) 1000000 (in_c 0 rfl) rfl, n93, n93a, n93b, n93c⟩)
              · skip
                exact zn_ne c58 (in_c 0 rfl) rfl
            · skip
              have i55x1 := z_ge 0 2147483647 c55x1 (i_rng x1) rfl
              refine g_iload_n 5 (gd rfl) rfl rfl ?_
              refine g_sipush 160 8 (gd rfl) rfl rfl ?_
              refine g_cmp_ge 11 24 (gd rfl) rfl rfl (fun c55x8 => ?_) (fun c55x8 => ?_)
              · skip
                have i55x8 := r_le2 160 2147483647 c55x8 (in_c 160 rfl) i55x1 rfl
                refine g_iconst 0 25 (gd rfl) rfl rfl ?_
                refine g_ireturn (gd rfl) rfl (nb01 (in_w 0 1 (in_c 0 rfl) rfl)) (hp55 _ _ ?_)
                show GG _ _ _ _ _ _ _ _ [.int (Int32.ofInt 0), .ref (A 109)] _ _ _
                refine g_if_eq 61 70 (gd rfl) rfl rfl (fun c58 => ?_) (fun c58 => ?_)
                · skip
                  refine g_iconst 0 71 (gd rfl) rfl rfl ?_
                  refine g_aload_n 72 (gd rfl) rfl rfl ?_
                  refine g_getI 75 (gd rfl) rfl rfl rfl (fun z72 e72 => ?_)
                  have q72 : u_109_9 = z72 := (e_109_9).trans e72.symm
                  subst q72
                  refine g_sipush 4000 78 (gd rfl) rfl rfl ?_
                  refine g_cmp_ge 81 85 (gd rfl) rfl rfl (fun c78 => ?_) (fun c78 => ?_)
                  · skip
                    have i78 := r_le2 4000 4000 c78 (in_c 4000 rfl) (inv_F hI 0 4000 rfl e_109_9) rfl
                    refine g_iconst 0 86 (gd rfl) rfl rfl ?_
                    refine g_callv (X := _) (As := [.int (Int32.ofInt 0), .int (Int32.ofInt 0)]) (r := []) (b := A 109) (q := 109) 89 (gd rfl) rfl rfl rfl rfl rfl (ww_o rfl) (Nat.le_of_ble_eq_true rfl) (mc := 0) (ms := 0) (Nat.zero_le _) (Nat.zero_le _) (P := fun v u => _) ?_ (fun e u h => h) (fun v u h => h)
                    intro po86 xx86 hp86 hx86
                    refine g_enter2 (k := 270) (N := 300) (by first | exact dq1 hd rfl | exact dq0 hd rfl | exact dq2 hd rfl | exact dq3 hd rfl | omega) rfl (Nat.le_of_ble_eq_true rfl) ?_
                    refine g_aload_n 1 (gd rfl) rfl rfl ?_
                    refine g_iload_n 2 (gd rfl) rfl rfl ?_
                    refine g_if_ne 5 9 (gd rfl) rfl rfl (fun c86x2 => ?_) (fun c86x2 => ?_)
                    · skip
                      exact zn_ne c86x2 (in_c 0 rfl) rfl
                    · skip
                      refine g_iconst 1 6 (gd rfl) rfl rfl ?_
                      refine g_goto 18 (gd rfl) rfl ?_
                      refine g_putI 21 (gd rfl) rfl rfl rfl rfl ?_
                      have hI86x18 := inv_sF (q := 109) (j := 0) hI rfl (in_w 0 2 (in_c 1 rfl) rfl)
                      refine g_aload_n 22 (gd rfl) rfl rfl ?_
                      refine g_getI 25 (gd rfl) rfl rfl rfl (fun z86x22 e86x22 => ?_)
                      have q86x22 : (Int32.ofInt 1) = z86x22 := (sF_get).trans e86x22.symm
                      subst q86x22
                      refine g_if_le 28 32 (gd rfl) rfl rfl (fun c86x25 => ?_) (fun c86x25 => ?_)
                      · skip
                        exact zn_le c86x25 (in_c 1 rfl) rfl
                      · skip
                        refine g_iconst 1 29 (gd rfl) rfl rfl ?_
                        refine g_goto 33 (gd rfl) rfl ?_
                        refine g_ireturn (gd rfl) rfl (nb01 (in_w 0 1 (in_c 1 rfl) rfl)) (hp86 _ _ ?_)
                        show GG _ _ _ _ _ _ _ _ [.int (Int32.ofInt 1)] _ _ _
                        refine g_if_eq 92 94 (gd rfl) rfl rfl (fun c89 => ?_) (fun c89 => ?_)
                        · skip
                          exact zn_eq c89 (in_c 1 rfl) rfl
                        · skip
                          refine g_iconst 0 93 (gd rfl) rfl rfl ?_
                          have n93 : CDR s (sF s 109 0 (Int32.ofInt 1)) (HAR s x1 ∧ GVL x2 x3) ((s.2.2.1 109 9).toInt ≤ 3999) (((Int32.ofInt 0)) = (if (x2).toInt = 0 then s.1 115 (x1).toNatClampNeg else if (x2).toInt = 1 then s.1 116 (x1).toNatClampNeg else s.1 117 (x1).toNatClampNeg) ∧ gvR (sF s 109 0 (Int32.ofInt 1)) = gqW (gvR s) (x1).toNatClampNeg x2 x3) := by first | exact Or.inl ⟨rfl, (by first | (unfold HAR GVL In; have a0 := oa7 i30 ((inv_F hI 0 2 rfl e_109_0)) i78 ((in_c 0 rfl)) i39x3b i55x8 ((in_c 1 rfl)); have a7 := tx_i2l e34; have oc := oc_284_109; omega) | (unfold HAR GVL In; rw [← e55x16]; have a0 := oa7 i30 ((inv_F hI 0 2 rfl e_109_0)) i78 ((in_c 0 rfl)) i39x3b i55x8 ((in_c 1 rfl)); have a7 := tx_i2l e34; have oc := oc_284_109; omega)), (gvR_cg (L := ([], [], [(109, 0)], [])) (fr_sF rfl fr_rf) rfl)⟩ | exact Or.inr (Or.inl ⟨rfl, ⟨⟨by have a0 := oa7 i30 ((inv_F hI 0 2 rfl e_109_0)) i78 ((in_c 0 rfl)) i39x3b i55x8 ((in_c 1 rfl)); have a7 := tx_i2l e34; have oc := oc_284_109; omega, by have a0 := oa7 i30 ((inv_F hI 0 2 rfl e_109_0)) i78 ((in_c 0 rfl)) i39x3b i55x8 ((in_c 1 rfl)); have a7 := tx_i2l e34; have oc := oc_284_109; omega, by rw [← e55x16]; have a0 := oa7 i30 ((inv_F hI 0 2 rfl e_109_0)) i78 ((in_c 0 rfl)) i39x3b i55x8 ((in_c 1 rfl)); have a7 := tx_i2l e34; have oc := oc_284_109; omega⟩, (by unfold GVL In; have a0 := oa7 i30 ((inv_F hI 0 2 rfl e_109_0)) i78 ((in_c 0 rfl)) i39x3b i55x8 ((in_c 1 rfl)); have a7 := tx_i2l e34; have oc := oc_284_109; omega)⟩, (by rw [← e_109_9]; have a0 := oa7 i30 ((inv_F hI 0 2 rfl e_109_0)) i78 ((in_c 0 rfl)) i39x3b i55x8 ((in_c 1 rfl)); have a7 := tx_i2l e34; have oc := oc_284_109; omega), (gvR_cg (L := ([], [], [(109, 0)], [])) (fr_sF rfl fr_rf) rfl)⟩)
                          have n93a : LGX s (sF s 109 0 (Int32.ofInt 1)) (Int32.ofInt 3) x1 x2 x3 (Int32.ofInt 0) (Int32.ofInt 0) (Int32.ofInt 0) := by exact Or.inl ⟨rfl, rfl, rfl, rfl, rfl, rfl, rfl, rfl⟩
                          have n93b : GSE s → GSE (sF s 109 0 (Int32.ofInt 1)) := by exact fun h => gse_fr (L := ([], [], [(109, 0)], [])) h (fr_sF rfl fr_rf) rfl
                          have n93c : G1S s (sF s 109 0 (Int32.ofInt 1)) := by exact ⟨rfl, fun _ _ => rfl, fun _ _ _ => ⟨rfl, rfl, rfl, rfl, rfl, rfl⟩⟩
                          exact g_ireturn (gd rfl) rfl rfl (hP _ _ ⟨(sF s 109 0 (Int32.ofInt 1)), hI86x18, (fr_sF rfl fr_rf), (Int32.ofInt 0), rfl, rfl, in_w (-1000000) 1000000 (in_c 0 rfl) rfl, n93, n93a, n93b, n93c⟩)
                  · skip
                    have i78 := r_lt1 0 3999 c78 (inv_F hI 0 4000 rfl e_109_9) (in_c 4000 rfl) rfl
                    refine g_iconst 1 82 (gd rfl) rfl rfl ?_
                    refine g_goto 86 (gd rfl) rfl ?_
                    refine g_callv (X := _) (As := [.int (Int32.ofInt 0), .int (Int32.ofInt 1)]) (r := []) (b := A 109) (q := 109) 89 (gd rfl) rfl rfl rfl rfl rfl (ww_o rfl) (Nat.le_of_ble_eq_true rfl) (mc := 0) (ms := 0) (Nat.zero_le _) (Nat.zero_le _) (P := fun v u => _) ?_ (fun e u h => h) (fun v u h => h)
                    intro po86 xx86 hp86 hx86
                    refine g_enter2 (k := 270) (N := 300) (by first | exact dq1 hd rfl | exact dq0 hd rfl | exact dq2 hd rfl | exact dq3 hd rfl | omega) rfl (Nat.le_of_ble_eq_true rfl) ?_
                    refine g_aload_n 1 (gd rfl) rfl rfl ?_
                    refine g_iload_n 2 (gd rfl) rfl rfl ?_
                    refine g_if_ne 5 9 (gd rfl) rfl rfl (fun c86x2 => ?_) (fun c86x2 => ?_)
                    · skip
                      exact zn_ne c86x2 (in_c 0 rfl) rfl
                    · skip
                      refine g_iconst 1 6 (gd rfl) rfl rfl ?_
                      refine g_goto 18 (gd rfl) rfl ?_
                      refine g_putI 21 (gd rfl) rfl rfl rfl rfl ?_
                      have hI86x18 := inv_sF (q := 109) (j := 0) hI rfl (in_w 0 2 (in_c 1 rfl) rfl)
                      refine g_aload_n 22 (gd rfl) rfl rfl ?_
                      refine g_getI 25 (gd rfl) rfl rfl rfl (fun z86x22 e86x22 => ?_)
                      have q86x22 : (Int32.ofInt 1) = z86x22 := (sF_get).trans e86x22.symm
                      subst q86x22
                      refine g_if_le 28 32 (gd rfl) rfl rfl (fun c86x25 => ?_) (fun c86x25 => ?_)
                      · skip
                        exact zn_le c86x25 (in_c 1 rfl) rfl
                      · skip
                        refine g_iconst 1 29 (gd rfl) rfl rfl ?_
                        refine g_goto 33 (gd rfl) rfl ?_
                        refine g_ireturn (gd rfl) rfl (nb01 (in_w 0 1 (in_c 1 rfl) rfl)) (hp86 _ _ ?_)
                        show GG _ _ _ _ _ _ _ _ [.int (Int32.ofInt 1)] _ _ _
                        refine g_if_eq 92 94 (gd rfl) rfl rfl (fun c89 => ?_) (fun c89 => ?_)
                        · skip
                          exact zn_eq c89 (in_c 1 rfl) rfl
                        · skip
                          refine g_iconst 0 93 (gd rfl) rfl rfl ?_
                          have n93 : CDR s (sF s 109 0 (Int32.ofInt 1)) (HAR s x1 ∧ GVL x2 x3) ((s.2.2.1 109 9).toInt ≤ 3999) (((Int32.ofInt 0)) = (if (x2).toInt = 0 then s.1 115 (x1).toNatClampNeg else if (x2).toInt = 1 then s.1 116 (x1).toNatClampNeg else s.1 117 (x1).toNatClampNeg) ∧ gvR (sF s 109 0 (Int32.ofInt 1)) = gqW (gvR s) (x1).toNatClampNeg x2 x3) := by first | exact Or.inl ⟨rfl, (by first | (unfold HAR GVL In; have a0 := oa7 i30 ((inv_F hI 0 2 rfl e_109_0)) i78 ((in_c 0 rfl)) i39x3b i55x8 ((in_c 1 rfl)); have a7 := tx_i2l e34; have oc := oc_284_109; omega) | (unfold HAR GVL In; rw [← e55x16]; have a0 := oa7 i30 ((inv_F hI 0 2 rfl e_109_0)) i78 ((in_c 0 rfl)) i39x3b i55x8 ((in_c 1 rfl)); have a7 := tx_i2l e34; have oc := oc_284_109; omega)), (gvR_cg (L := ([], [], [(109, 0)], [])) (fr_sF rfl fr_rf) rfl)⟩ | exact Or.inr (Or.inl ⟨rfl, ⟨⟨by have a0 := oa7 i30 ((inv_F hI 0 2 rfl e_109_0)) i78 ((in_c 0 rfl)) i39x3b i55x8 ((in_c 1 rfl)); have a7 := tx_i2l e34; have oc := oc_284_109; omega, by have a0 := oa7 i30 ((inv_F hI 0 2 rfl e_109_0)) i78 ((in_c 0 rfl)) i39x3b i55x8 ((in_c 1 rfl)); have a7 := tx_i2l e34; have oc := oc_284_109; omega, by rw [← e55x16]; have a0 := oa7 i30 ((inv_F hI 0 2 rfl e_109_0)) i78 ((in_c 0 rfl)) i39x3b i55x8 ((in_c 1 rfl)); have a7 := tx_i2l e34; have oc := oc_284_109; omega⟩, (by unfold GVL In; have a0 := oa7 i30 ((inv_F hI 0 2 rfl e_109_0)) i78 ((in_c 0 rfl)) i39x3b i55x8 ((in_c 1 rfl)); have a7 := tx_i2l e34; have oc := oc_284_109; omega)⟩, (by rw [← e_109_9]; have a0 := oa7 i30 ((inv_F hI 0 2 rfl e_109_0)) i78 ((in_c 0 rfl)) i39x3b i55x8 ((in_c 1 rfl)); have a7 := tx_i2l e34; have oc := oc_284_109; omega), (gvR_cg (L := ([], [], [(109, 0)], [])) (fr_sF rfl fr_rf) rfl)⟩)
                          have n93a : LGX s (sF s 109 0 (Int32.ofInt 1)) (Int32.ofInt 3) x1 x2 x3 (Int32.ofInt 0) (Int32.ofInt 0) (Int32.ofInt 0) := by exact Or.inl ⟨rfl, rfl, rfl, rfl, rfl, rfl, rfl, rfl⟩
                          have n93b : GSE s → GSE (sF s 109 0 (Int32.ofInt 1)) := by exact fun h => gse_fr (L := ([], [], [(109, 0)], [])) h (fr_sF rfl fr_rf) rfl
                          have n93c : G1S s (sF s 109 0 (Int32.ofInt 1)) := by exact ⟨rfl, fun _ _ => rfl, fun _ _ _ => ⟨rfl, rfl, rfl, rfl, rfl, rfl⟩⟩
                          exact g_ireturn (gd rfl) rfl rfl (hP _ _ ⟨(sF s 109 0 (Int32.ofInt 1)), hI86x18, (fr_sF rfl fr_rf), (Int32.ofInt 0), rfl, rfl, in_w (-1000000) 1000000 (in_c 0 rfl) rfl, n93, n93a, n93b, n93c⟩)
                · skip
                  exact zn_ne c58 (in_c 0 rfl) rfl
              · skip
                have i55x8 := r_lt1 0 159 c55x8 i55x1 (in_c 160 rfl) rfl
                refine g_aload_n 12 (gd rfl) rfl rfl ?_
                refine g_getA (q2 := 112) 15 (gd rfl) rfl rfl rfl rfl ?_
                refine g_iload_n 16 (gd rfl) rfl rfl ?_
                refine g_baload 17 (gd rfl) rfl (n := 480) rfl (in_ix i55x8 rfl) (fun z55x16 e55x16 => ?_)
                have i55x16 := inv_I hI (n := 480) (t := 3) 0 1 rfl (in_ix i55x8 rfl) rfl e55x16
                refine g_if_eq 20 24 (gd rfl) rfl rfl (fun c55x17 => ?_) (fun c55x17 => ?_)
                · skip
                  have i55x17 := z_eq 0 0 c55x17 i55x16 rfl
                  refine g_iconst 0 25 (gd rfl) rfl rfl ?_
                  refine g_ireturn (gd rfl) rfl (nb01 (in_w 0 1 (in_c 0 rfl) rfl)) (hp55 _ _ ?_)
                  show GG _ _ _ _ _ _ _ _ [.int (Int32.ofInt 0), .ref (A 109)] _ _ _
                  refine g_if_eq 61 70 (gd rfl) rfl rfl (fun c58 => ?_) (fun c58 => ?_)
                  · skip
                    refine g_iconst 0 71 (gd rfl) rfl rfl ?_
                    refine g_aload_n 72 (gd rfl) rfl rfl ?_
                    refine g_getI 75 (gd rfl) rfl rfl rfl (fun z72 e72 => ?_)
                    have q72 : u_109_9 = z72 := (e_109_9).trans e72.symm
                    subst q72
                    refine g_sipush 4000 78 (gd rfl) rfl rfl ?_
                    refine g_cmp_ge 81 85 (gd rfl) rfl rfl (fun c78 => ?_) (fun c78 => ?_)
                    · skip
                      have i78 := r_le2 4000 4000 c78 (in_c 4000 rfl) (inv_F hI 0 4000 rfl e_109_9) rfl
                      refine g_iconst 0 86 (gd rfl) rfl rfl ?_
                      refine g_callv (X := _) (As := [.int (Int32.ofInt 0), .int (Int32.ofInt 0)]) (r := []) (b := A 109) (q := 109) 89 (gd rfl) rfl rfl rfl rfl rfl (ww_o rfl) (Nat.le_of_ble_eq_true rfl) (mc := 0) (ms := 0) (Nat.zero_le _) (Nat.zero_le _) (P := fun v u => _) ?_ (fun e u h => h) (fun v u h => h)
                      intro po86 xx86 hp86 hx86
                      refine g_enter2 (k := 270) (N := 300) (by first | exact dq1 hd rfl | exact dq0 hd rfl | exact dq2 hd rfl | exact dq3 hd rfl | omega) rfl (Nat.le_of_ble_eq_true rfl) ?_
                      refine g_aload_n 1 (gd rfl) rfl rfl ?_
                      refine g_iload_n 2 (gd rfl) rfl rfl ?_
                      refine g_if_ne 5 9 (gd rfl) rfl rfl (fun c86x2 => ?_) (fun c86x2 => ?_)
                      · skip
                        exact zn_ne c86x2 (in_c 0 rfl) rfl
                      · skip
                        refine g_iconst 1 6 (gd rfl) rfl rfl ?_
                        refine g_goto 18 (gd rfl) rfl ?_
                        refine g_putI 21 (gd rfl) rfl rfl rfl rfl ?_
                        have hI86x18 := inv_sF (q := 109) (j := 0) hI rfl (in_w 0 2 (in_c 1 rfl) rfl)
                        refine g_aload_n 22 (gd rfl) rfl rfl ?_
                        refine g_getI 25 (gd rfl) rfl rfl rfl (fun z86x22 e86x22 => ?_)
                        have q86x22 : (Int32.ofInt 1) = z86x22 := (sF_get).trans e86x22.symm
                        subst q86x22
                        refine g_if_le 28 32 (gd rfl) rfl rfl (fun c86x25 => ?_) (fun c86x25 => ?_)
                        · skip
                          exact zn_le c86x25 (in_c 1 rfl) rfl
                        · skip
                          refine g_iconst 1 29 (gd rfl) rfl rfl ?_
                          refine g_goto 33 (gd rfl) rfl ?_
                          refine g_ireturn (gd rfl) rfl (nb01 (in_w 0 1 (in_c 1 rfl) rfl)) (hp86 _ _ ?_)
                          show GG _ _ _ _ _ _ _ _ [.int (Int32.ofInt 1)] _ _ _
                          refine g_if_eq 92 94 (gd rfl) rfl rfl (fun c89 => ?_) (fun c89 => ?_)
                          · skip
                            exact zn_eq c89 (in_c 1 rfl) rfl
                          · skip
                            refine g_iconst 0 93 (gd rfl) rfl rfl ?_
                            have n93 : CDR s (sF s 109 0 (Int32.ofInt 1)) (HAR s x1 ∧ GVL x2 x3) ((s.2.2.1 109 9).toInt ≤ 3999) (((Int32.ofInt 0)) = (if (x2).toInt = 0 then s.1 115 (x1).toNatClampNeg else if (x2).toInt = 1 then s.1 116 (x1).toNatClampNeg else s.1 117 (x1).toNatClampNeg) ∧ gvR (sF s 109 0 (Int32.ofInt 1)) = gqW (gvR s) (x1).toNatClampNeg x2 x3) := by first | exact Or.inl ⟨rfl, (by first | (unfold HAR GVL In; have a0 := oa7 i55x8 i30 ((inv_F hI 0 2 rfl e_109_0)) i78 ((in_c 0 rfl)) i39x3b ((in_c 1 rfl)); have a7 := tx_i2l e34; have oc := oc_284_109; omega) | (unfold HAR GVL In; rw [← e55x16]; have a0 := oa7 i55x8 i30 ((inv_F hI 0 2 rfl e_109_0)) i78 ((in_c 0 rfl)) i39x3b ((in_c 1 rfl)); have a7 := tx_i2l e34; have oc := oc_284_109; omega)), (gvR_cg (L := ([], [], [(109, 0)], [])) (fr_sF rfl fr_rf) rfl)⟩ | exact Or.inr (Or.inl ⟨rfl, ⟨⟨by have a0 := oa7 i55x8 i30 ((inv_F hI 0 2 rfl e_109_0)) i78 ((in_c 0 rfl)) i39x3b ((in_c 1 rfl)); have a7 := tx_i2l e34; have oc := oc_284_109; omega, by have a0 := oa7 i55x8 i30 ((inv_F hI 0 2 rfl e_109_0)) i78 ((in_c 0 rfl)) i39x3b ((in_c 1 rfl)); have a7 := tx_i2l e34; have oc := oc_284_109; omega, by rw [← e55x16]; have a0 := oa7 i55x8 i30 ((inv_F hI 0 2 rfl e_109_0)) i78 ((in_c 0 rfl)) i39x3b ((in_c 1 rfl)); have a7 := tx_i2l e34; have oc := oc_284_109; omega⟩, (by unfold GVL In; have a0 := oa7 i55x8 i30 ((inv_F hI 0 2 rfl e_109_0)) i78 ((in_c 0 rfl)) i39x3b ((in_c 1 rfl)); have a7 := tx_i2l e34; have oc := oc_284_109; omega)⟩, (by rw [← e_109_9]; have a0 := oa7 i55x8 i30 ((inv_F hI 0 2 rfl e_109_0)) i78 ((in_c 0 rfl)) i39x3b ((in_c 1 rfl)); have a7 := tx_i2l e34; have oc := oc_284_109; omega), (gvR_cg (L := ([], [], [(109, 0)], [])) (fr_sF rfl fr_rf) rfl)⟩)
                            have n93a : LGX s (sF s 109 0 (Int32.ofInt 1)) (Int32.ofInt 3) x1 x2 x3 (Int32.ofInt 0) (Int32.ofInt 0) (Int32.ofInt 0) := by exact Or.inl ⟨rfl, rfl, rfl, rfl, rfl, rfl, rfl, rfl⟩
                            have n93b : GSE s → GSE (sF s 109 0 (Int32.ofInt 1)) := by exact fun h => gse_fr (L := ([], [], [(109, 0)], [])) h (fr_sF rfl fr_rf) rfl
                            have n93c : G1S s (sF s 109 0 (Int32.ofInt 1)) := by exact ⟨rfl, fun _ _ => rfl, fun _ _ _ => ⟨rfl, rfl, rfl, rfl, rfl, rfl⟩⟩
                            exact g_ireturn (gd rfl) rfl rfl (hP _ _ ⟨(sF s 109 0 (Int32.ofInt 1)), hI86x18, (fr_sF rfl fr_rf), (Int32.ofInt 0), rfl, rfl, in_w (-1000000) 1000000 (in_c 0 rfl) rfl, n93, n93a, n93b, n93c⟩)
                    · skip
                      have i78 := r_lt1 0 3999 c78 (inv_F hI 0 4000 rfl e_109_9) (in_c 4000 rfl) rfl
                      refine g_iconst 1 82 (gd rfl) rfl rfl ?_
                      refine g_goto 86 (gd rfl) rfl ?_
                      refine g_callv (X := _) (As := [.int (Int32.ofInt 0), .int (Int32.ofInt 1)]) (r := []) (b := A 109) (q := 109) 89 (gd rfl) rfl rfl rfl rfl rfl (ww_o rfl) (Nat.le_of_ble_eq_true rfl) (mc := 0) (ms := 0) (Nat.zero_le _) (Nat.zero_le _) (P := fun v u => _) ?_ (fun e u h => h) (fun v u h => h)
                      intro po86 xx86 hp86 hx86
                      refine g_enter2 (k := 270) (N := 300) (by first | exact dq1 hd rfl | exact dq0 hd rfl | exact dq2 hd rfl | exact dq3 hd rfl | omega) rfl (Nat.le_of_ble_eq_true rfl) ?_
                      refine g_aload_n 1 (gd rfl) rfl rfl ?_
                      refine g_iload_n 2 (gd rfl) rfl rfl ?_
                      refine g_if_ne 5 9 (gd rfl) rfl rfl (fun c86x2 => ?_) (fun c86x2 => ?_)
                      · skip
                        exact zn_ne c86x2 (in_c 0 rfl) rfl
                      · skip
                        refine g_iconst 1 6 (gd rfl) rfl rfl ?_
                        refine g_goto 18 (gd rfl) rfl ?_
                        refine g_putI 21 (gd rfl) rfl rfl rfl rfl ?_
                        have hI86x18 := inv_sF (q := 109) (j := 0) hI rfl (in_w 0 2 (in_c 1 rfl) rfl)
                        refine g_aload_n 22 (gd rfl) rfl rfl ?_
                        refine g_getI 25 (gd rfl) rfl rfl rfl (fun z86x22 e86x22 => ?_)
                        have q86x22 : (Int32.ofInt 1) = z86x22 := (sF_get).trans e86x22.symm
                        subst q86x22
                        refine g_if_le 28 32 (gd rfl) rfl rfl (fun c86x25 => ?_) (fun c86x25 => ?_)
                        · skip
                          exact zn_le c86x25 (in_c 1 rfl) rfl
                        · skip
                          refine g_iconst 1 29 (gd rfl) rfl rfl ?_
                          refine g_goto 33 (gd rfl) rfl ?_
                          refine g_ireturn (gd rfl) rfl (nb01 (in_w 0 1 (in_c 1 rfl) rfl)) (hp86 _ _ ?_)
                          show GG _ _ _ _ _ _ _ _ [.int (Int32.ofInt 1)] _ _ _
                          refine g_if_eq 92 94 (gd rfl) rfl rfl (fun c89 => ?_) (fun c89 => ?_)
                          · skip
                            exact zn_eq c89 (in_c 1 rfl) rfl
                          · skip
                            refine g_iconst 0 93 (gd rfl) rfl rfl ?_
                            have n93 : CDR s (sF s 109 0 (Int32.ofInt 1)) (HAR s x1 ∧ GVL x2 x3) ((s.2.2.1 109 9).toInt ≤ 3999) (((Int32.ofInt 0)) = (if (x2).toInt = 0 then s.1 115 (x1).toNatClampNeg else if (x2).toInt = 1 then s.1 116 (x1).toNatClampNeg else s.1 117 (x1).toNatClampNeg) ∧ gvR (sF s 109 0 (Int32.ofInt 1)) = gqW (gvR s) (x1).toNatClampNeg x2 x3) := by first | exact Or.inl ⟨rfl, (by first | (unfold HAR GVL In; have a0 := oa7 i55x8 i30 ((inv_F hI 0 2 rfl e_109_0)) i78 ((in_c 0 rfl)) i39x3b ((in_c 1 rfl)); have a7 := tx_i2l e34; have oc := oc_284_109; omega) | (unfold HAR GVL In; rw [← e55x16]; have a0 := oa7 i55x8 i30 ((inv_F hI 0 2 rfl e_109_0)) i78 ((in_c 0 rfl)) i39x3b ((in_c 1 rfl)); have a7 := tx_i2l e34; have oc := oc_284_109; omega)), (gvR_cg (L := ([], [], [(109, 0)], [])) (fr_sF rfl fr_rf) rfl)⟩ | exact Or.inr (Or.inl ⟨rfl, ⟨⟨by have a0 := oa7 i55x8 i30 ((inv_F hI 0 2 rfl e_109_0)) i78 ((in_c 0 rfl)) i39x3b ((in_c 1 rfl)); have a7 := tx_i2l e34; have oc := oc_284_109; omega, by have a0 := oa7 i55x8 i30 ((inv_F hI 0 2 rfl e_109_0)) i78 ((in_c 0 rfl)) i39x3b ((in_c 1 rfl)); have a7 := tx_i2l e34; have oc := oc_284_109; omega, by rw [← e55x16]; have a0 := oa7 i55x8 i30 ((inv_F hI 0 2 rfl e_109_0)) i78 ((in_c 0 rfl)) i39x3b ((in_c 1 rfl)); have a7 := tx_i2l e34; have oc := oc_284_109; omega⟩, (by unfold GVL In; have a0 := oa7 i55x8 i30 ((inv_F hI 0 2 rfl e_109_0)) i78 ((in_c 0 rfl)) i39x3b ((in_c 1 rfl)); have a7 := tx_i2l e34; have oc := oc_284_109; omega)⟩, (by rw [← e_109_9]; have a0 := oa7 i55x8 i30 ((inv_F hI 0 2 rfl e_109_0)) i78 ((in_c 0 rfl)) i39x3b ((in_c 1 rfl)); have a7 := tx_i2l e34; have oc := oc_284_109; omega), (gvR_cg (L := ([], [], [(109, 0)], [])) (fr_sF rfl fr_rf) rfl)⟩)
                            have n93a : LGX s (sF s 109 0 (Int32.ofInt 1)) (Int32.ofInt 3) x1 x2 x3 (Int32.ofInt 0) (Int32.ofInt 0) (Int32.ofInt 0) := by exact Or.inl ⟨rfl, rfl, rfl, rfl, rfl, rfl, rfl, rfl⟩
                            have n93b : GSE s → GSE (sF s 109 0 (Int32.ofInt 1)) := by exact fun h => gse_fr (L := ([], [], [(109, 0)], [])) h (fr_sF rfl fr_rf) rfl
                            have n93c : G1S s (sF s 109 0 (Int32.ofInt 1)) := by exact ⟨rfl, fun _ _ => rfl, fun _ _ _ => ⟨rfl, rfl, rfl, rfl, rfl, rfl⟩⟩
                            exact g_ireturn (gd rfl) rfl rfl (hP _ _ ⟨(sF s 109 0 (Int32.ofInt 1)), hI86x18, (fr_sF rfl fr_rf), (Int32.ofInt 0), rfl, rfl, in_w (-1000000) 1000000 (in_c 0 rfl) rfl, n93, n93a, n93b, n93c⟩)
                  · skip
                    exact zn_ne c58 (in_c 0 rfl) rfl
                · skip
                  have i55x17 := z_ne 1 1 c55x17 i55x16 rfl
                  refine g_iconst 1 21 (gd rfl) rfl rfl ?_
                  refine g_goto 25 (gd rfl) rfl ?_
                  refine g_ireturn (gd rfl) rfl (nb01 (in_w 0 1 (in_c 1 rfl) rfl)) (hp55 _ _ ?_)
                  show GG _ _ _ _ _ _ _ _ [.int (Int32.ofInt 1), .ref (A 109)] _ _ _
                  refine g_if_eq 61 70 (gd rfl) rfl rfl (fun c58 => ?_) (fun c58 => ?_)
                  · skip
                    exact zn_eq c58 (in_c 1 rfl) rfl
                  · skip
                    refine g_iload 63 (gd rfl) rfl rfl ?_
                    refine g_if_eq 66 70 (gd rfl) rfl rfl (fun c63 => ?_) (fun c63 => ?_)
                    · skip
                      refine g_iconst 0 71 (gd rfl) rfl rfl ?_
                      refine g_aload_n 72 (gd rfl) rfl rfl ?_
                      refine g_getI 75 (gd rfl) rfl rfl rfl (fun z72 e72 => ?_)
                      have q72 : u_109_9 = z72 := (e_109_9).trans e72.symm
                      subst q72
                      refine g_sipush 4000 78 (gd rfl) rfl rfl ?_
                      refine g_cmp_ge 81 85 (gd rfl) rfl rfl (fun c78 => ?_) (fun c78 => ?_)
                      · skip
                        have i78 := r_le2 4000 4000 c78 (in_c 4000 rfl) (inv_F hI 0 4000 rfl e_109_9) rfl
                        refine g_iconst 0 86 (gd rfl) rfl rfl ?_
                        refine g_callv (X := _) (As := [.int (Int32.ofInt 0), .int (Int32.ofInt 0)]) (r := []) (b := A 109) (q := 109) 89 (gd rfl) rfl rfl rfl rfl rfl (ww_o rfl) (Nat.le_of_ble_eq_true rfl) (mc := 0) (ms := 0) (Nat.zero_le _) (Nat.zero_le _) (P := fun v u => _) ?_ (fun e u h => h) (fun v u h => h)
                        intro po86 xx86 hp86 hx86
                        refine g_enter2 (k := 270) (N := 300) (by first | exact dq1 hd rfl | exact dq0 hd rfl | exact dq2 hd rfl | exact dq3 hd rfl | omega) rfl (Nat.le_of_ble_eq_true rfl) ?_
                        refine g_aload_n 1 (gd rfl) rfl rfl ?_
                        refine g_iload_n 2 (gd rfl) rfl rfl ?_
                        refine g_if_ne 5 9 (gd rfl) rfl rfl (fun c86x2 => ?_) (fun c86x2 => ?_)
                        · skip
                          exact zn_ne c86x2 (in_c 0 rfl) rfl
                        · skip
                          refine g_iconst 1 6 (gd rfl) rfl rfl ?_
                          refine g_goto 18 (gd rfl) rfl ?_
                          refine g_putI 21 (gd rfl) rfl rfl rfl rfl ?_
                          have hI86x18 := inv_sF (q := 109) (j := 0) hI rfl (in_w 0 2 (in_c 1 rfl) rfl)
                          refine g_aload_n 22 (gd rfl) rfl rfl ?_
                          refine g_getI 25 (gd rfl) rfl rfl rfl (fun z86x22 e86x22 => ?_)
                          have q86x22 : (Int32.ofInt 1) = z86x22 := (sF_get).trans e86x22.symm
                          subst q86x22
                          refine g_if_le 28 32 (gd rfl) rfl rfl (fun c86x25 => ?_) (fun c86x25 => ?_)
                          · skip
                            exact zn_le c86x25 (in_c 1 rfl) rfl
                          · skip
                            refine g_iconst 1 29 (gd rfl) rfl rfl ?_
                            refine g_goto 33 (gd rfl) rfl ?_
                            refine g_ireturn (gd rfl) rfl (nb01 (in_w 0 1 (in_c 1 rfl) rfl)) (hp86 _ _ ?_)
                            show GG _ _ _ _ _ _ _ _ [.int (Int32.ofInt 1)] _ _ _
                            refine g_if_eq 92 94 (gd rfl) rfl rfl (fun c89 => ?_) (fun c89 => ?_)
                            · skip
                              exact zn_eq c89 (in_c 1 rfl) rfl
                            · skip
                              refine g_iconst 0 93 (gd rfl) rfl rfl ?_
                              have n93 : CDR s (sF s 109 0 (Int32.ofInt 1)) (HAR s x1 ∧ GVL x2 x3) ((s.2.2.1 109 9).toInt ≤ 3999) (((Int32.ofInt 0)) = (if (x2).toInt = 0 then s.1 115 (x1).toNatClampNeg else if (x2).toInt = 1 then s.1 116 (x1).toNatClampNeg else s.1 117 (x1).toNatClampNeg) ∧ gvR (sF s 109 0 (Int32.ofInt 1)) = gqW (gvR s) (x1).toNatClampNeg x2 x3) := by first | exact Or.inl ⟨rfl, (by first | (unfold HAR GVL In; have a0 := oa7 i55x8 i30 ((inv_F hI 0 2 rfl e_109_0)) i78 ((in_c 0 rfl)) i39x3b ((in_c 1 rfl)); have a7 := tx_i2l e34; have oc := oc_284_109; omega) | (unfold HAR GVL In; rw [← e55x16]; have a0 := oa7 i55x8 i30 ((inv_F hI 0 2 rfl e_109_0)) i78 ((in_c 0 rfl)) i39x3b ((in_c 1 rfl)); have a7 := tx_i2l e34; have oc := oc_284_109; omega)), (gvR_cg (L := ([], [], [(109, 0)], [])) (fr_sF rfl fr_rf) rfl)⟩ | exact Or.inr (Or.inl ⟨rfl, ⟨⟨by have a0 := oa7 i55x8 i30 ((inv_F hI 0 2 rfl e_109_0)) i78 ((in_c 0 rfl)) i39x3b ((in_c 1 rfl)); have a7 := tx_i2l e34; have oc := oc_284_109; omega, by have a0 := oa7 i55x8 i30 ((inv_F hI 0 2 rfl e_109_0)) i78 ((in_c 0 rfl)) i39x3b ((in_c 1 rfl)); have a7 := tx_i2l e34; have oc := oc_284_109; omega, by rw [← e55x16]; have a0 := oa7 i55x8 i30 ((inv_F hI 0 2 rfl e_109_0)) i78 ((in_c 0 rfl)) i39x3b ((in_c 1 rfl)); have a7 := tx_i2l e34; have oc := oc_284_109; omega⟩, (by unfold GVL In; have a0 := oa7 i55x8 i30 ((inv_F hI 0 2 rfl e_109_0)) i78 ((in_c 0 rfl)) i39x3b ((in_c 1 rfl)); have a7 := tx_i2l e34; have oc := oc_284_109; omega)⟩, (by rw [← e_109_9]; have a0 := oa7 i55x8 i30 ((inv_F hI 0 2 rfl e_109_0)) i78 ((in_c 0 rfl)) i39x3b ((in_c 1 rfl)); have a7 := tx_i2l e34; have oc := oc_284_109; omega), (gvR_cg (L := ([], [], [(109, 0)], [])) (fr_sF rfl fr_rf) rfl)⟩)
                              have n93a : LGX s (sF s 109 0 (Int32.ofInt 1)) (Int32.ofInt 3) x1 x2 x3 (Int32.ofInt 0) (Int32.ofInt 0) (Int32.ofInt 0) := by exact Or.inl ⟨rfl, rfl, rfl, rfl, rfl, rfl, rfl, rfl⟩
                              have n93b : GSE s → GSE (sF s 109 0 (Int32.ofInt 1)) := by exact fun h => gse_fr (L := ([], [], [(109, 0)], [])) h (fr_sF rfl fr_rf) rfl
                              have n93c : G1S s (sF s 109 0 (Int32.ofInt 1)) := by exact ⟨rfl, fun _ _ => rfl, fun _ _ _ => ⟨rfl, rfl, rfl, rfl, rfl, rfl⟩⟩
                              exact g_ireturn (gd rfl) rfl rfl (hP _ _ ⟨(sF s 109 0 (Int32.ofInt 1)), hI86x18, (fr_sF rfl fr_rf), (Int32.ofInt 0), rfl, rfl, in_w (-1000000) 1000000 (in_c 0 rfl) rfl, n93, n93a, n93b, n93c⟩)
                      · skip
                        have i78 := r_lt1 0 3999 c78 (inv_F hI 0 4000 rfl e_109_9) (in_c 4000 rfl) rfl
                        refine g_iconst 1 82 (gd rfl) rfl rfl ?_
                        refine g_goto 86 (gd rfl) rfl ?_
                        refine g_callv (X := _) (As := [.int (Int32.ofInt 0), .int (Int32.ofInt 1)]) (r := []) (b := A 109) (q := 109) 89 (gd rfl) rfl rfl rfl rfl rfl (ww_o rfl) (Nat.le_of_ble_eq_true rfl) (mc := 0) (ms := 0) (Nat.zero_le _) (Nat.zero_le _) (P := fun v u => _) ?_ (fun e u h => h) (fun v u h => h)
                        intro po86 xx86 hp86 hx86
                        refine g_enter2 (k := 270) (N := 300) (by first | exact dq1 hd rfl | exact dq0 hd rfl | exact dq2 hd rfl | exact dq3 hd rfl | omega) rfl (Nat.le_of_ble_eq_true rfl) ?_
                        refine g_aload_n 1 (gd rfl) rfl rfl ?_
                        refine g_iload_n 2 (gd rfl) rfl rfl ?_
                        refine g_if_ne 5 9 (gd rfl) rfl rfl (fun c86x2 => ?_) (fun c86x2 => ?_)
                        · skip
                          exact zn_ne c86x2 (in_c 0 rfl) rfl
                        · skip
                          refine g_iconst 1 6 (gd rfl) rfl rfl ?_
                          refine g_goto 18 (gd rfl) rfl ?_
                          refine g_putI 21 (gd rfl) rfl rfl rfl rfl ?_
                          have hI86x18 := inv_sF (q := 109) (j := 0) hI rfl (in_w 0 2 (in_c 1 rfl) rfl)
                          refine g_aload_n 22 (gd rfl) rfl rfl ?_
                          refine g_getI 25 (gd rfl) rfl rfl rfl (fun z86x22 e86x22 => ?_)
                          have q86x22 : (Int32.ofInt 1) = z86x22 := (sF_get).trans e86x22.symm
                          subst q86x22
                          refine g_if_le 28 32 (gd rfl) rfl rfl (fun c86x25 => ?_) (fun c86x25 => ?_)
                          · skip
                            exact zn_le c86x25 (in_c 1 rfl) rfl
                          · skip
                            refine g_iconst 1 29 (gd rfl) rfl rfl ?_
                            refine g_goto 33 (gd rfl) rfl ?_
                            refine g_ireturn (gd rfl) rfl (nb01 (in_w 0 1 (in_c 1 rfl) rfl)) (hp86 _ _ ?_)
                            show GG _ _ _ _ _ _ _ _ [.int (Int32.ofInt 1)] _ _ _
                            refine g_if_eq 92 94 (gd rfl) rfl rfl (fun c89 => ?_) (fun c89 => ?_)
                            · skip
                              exact zn_eq c89 (in_c 1 rfl) rfl
                            · skip
                              refine g_iconst 0 93 (gd rfl) rfl rfl ?_
                              have n93 : CDR s (sF s 109 0 (Int32.ofInt 1)) (HAR s x1 ∧ GVL x2 x3) ((s.2.2.1 109 9).toInt ≤ 3999) (((Int32.ofInt 0)) = (if (x2).toInt = 0 then s.1 115 (x1).toNatClampNeg else if (x2).toInt = 1 then s.1 116 (x1).toNatClampNeg else s.1 117 (x1).toNatClampNeg) ∧ gvR (sF s 109 0 (Int32.ofInt 1)) = gqW (gvR s) (x1).toNatClampNeg x2 x3) := by first | exact Or.inl ⟨rfl, (by first | (unfold HAR GVL In; have a0 := oa7 i55x8 i30 ((inv_F hI 0 2 rfl e_109_0)) i78 ((in_c 0 rfl)) i39x3b ((in_c 1 rfl)); have a7 := tx_i2l e34; have oc := oc_284_109; omega) | (unfold HAR GVL In; rw [← e55x16]; have a0 := oa7 i55x8 i30 ((inv_F hI 0 2 rfl e_109_0)) i78 ((in_c 0 rfl)) i39x3b ((in_c 1 rfl)); have a7 := tx_i2l e34; have oc := oc_284_109; omega)), (gvR_cg (L := ([], [], [(109, 0)], [])) (fr_sF rfl fr_rf) rfl)⟩ | exact Or.inr (Or.inl ⟨rfl, ⟨⟨by have a0 := oa7 i55x8 i30 ((inv_F hI 0 2 rfl e_109_0)) i78 ((in_c 0 rfl)) i39x3b ((in_c 1 rfl)); have a7 := tx_i2l e34; have oc := oc_284_109; omega, by have a0 := oa7 i55x8 i30 ((inv_F hI 0 2 rfl e_109_0)) i78 ((in_c 0 rfl)) i39x3b ((in_c 1 rfl)); have a7 := tx_i2l e34; have oc := oc_284_109; omega, by rw [← e55x16]; have a0 := oa7 i55x8 i30 ((inv_F hI 0 2 rfl e_109_0)) i78 ((in_c 0 rfl)) i39x3b ((in_c 1 rfl)); have a7 := tx_i2l e34; have oc := oc_284_109; omega⟩, (by unfold GVL In; have a0 := oa7 i55x8 i30 ((inv_F hI 0 2 rfl e_109_0)) i78 ((in_c 0 rfl)) i39x3b ((in_c 1 rfl)); have a7 := tx_i2l e34; have oc := oc_284_109; omega)⟩, (by rw [← e_109_9]; have a0 := oa7 i55x8 i30 ((inv_F hI 0 2 rfl e_109_0)) i78 ((in_c 0 rfl)) i39x3b ((in_c 1 rfl)); have a7 := tx_i2l e34; have oc := oc_284_109; omega), (gvR_cg (L := ([], [], [(109, 0)], [])) (fr_sF rfl fr_rf) rfl)⟩)
                              have n93a : LGX s (sF s 109 0 (Int32.ofInt 1)) (Int32.ofInt 3) x1 x2 x3 (Int32.ofInt 0) (Int32.ofInt 0) (Int32.ofInt 0) := by exact Or.inl ⟨rfl, rfl, rfl, rfl, rfl, rfl, rfl, rfl⟩
                              have n93b : GSE s → GSE (sF s 109 0 (Int32.ofInt 1)) := by exact fun h => gse_fr (L := ([], [], [(109, 0)], [])) h (fr_sF rfl fr_rf) rfl
                              have n93c : G1S s (sF s 109 0 (Int32.ofInt 1)) := by exact ⟨rfl, fun _ _ => rfl, fun _ _ _ => ⟨rfl, rfl, rfl, rfl, rfl, rfl⟩⟩
                              exact g_ireturn (gd rfl) rfl rfl (hP _ _ ⟨(sF s 109 0 (Int32.ofInt 1)), hI86x18, (fr_sF rfl fr_rf), (Int32.ofInt 0), rfl, rfl, in_w (-1000000) 1000000 (in_c 0 rfl) rfl, n93, n93a, n93b, n93c⟩)
                    · skip
                      exact zn_ne c63 (in_c 0 rfl) rfl
          · skip
            exact zn_ne c42 (in_c 0 rfl) rfl
        · skip
          have i39x3 := z_ge 0 1 c39x3 i39x2 rfl
          have c39x3a := lc_ge e39x2 c39x3
          have i39x3a := lr_le2 0 2147483647 c39x3a (l_c 0 rfl) i34 rfl
          have i39x3b := l_b e34 i39x3a
          refine g_lload_n 7 (gd rfl) rfl rfl ?_
          refine g_lload 9 (gd rfl) rfl rfl ?_
          refine g_lcmp 10 (gd rfl) rfl (fun z39x9 e39x9 => ?_)
          have i39x9 := lc_in e39x9
          refine g_if_gt 13 17 (gd rfl) rfl rfl (fun c39x10 => ?_) (fun c39x10 => ?_)
          · skip
            have i39x10 := z_gt 1 1 c39x10 i39x9 rfl
            have c39x10a := lc_gt e39x9 c39x10
            have i39x10a := lr_lt2 26 2147483647 c39x10a (l_c 25 rfl) i39x3a rfl
            have i39x10b := l_b e34 i39x10a
            refine g_iconst 0 18 (gd rfl) rfl rfl ?_
            refine g_ireturn (gd rfl) rfl (nb01 (in_w 0 1 (in_c 0 rfl) rfl)) (hp39 _ _ ?_)
            show GG _ _ _ _ _ _ _ _ [.int (Int32.ofInt 0)] _ _ _
            refine g_if_eq 45 49 (gd rfl) rfl rfl (fun c42 => ?_) (fun c42 => ?_)
            · skip
              refine g_iconst 0 50 (gd rfl) rfl rfl ?_
              refine g_istore 52 (gd rfl) rfl (Nat.le_of_ble_eq_true rfl) ?_
              refine g_aload_n 53 (gd rfl) rfl rfl ?_
              refine g_aload_n 54 (gd rfl) rfl rfl ?_
              refine g_iload_n 55 (gd rfl) rfl rfl ?_
              refine g_callv (X := _) (As := [.int x1]) (r := [.ref (A 109)]) (b := A 109) (q := 109) 58 (gd rfl) rfl rfl rfl rfl rfl (ww_o rfl) (Nat.le_of_ble_eq_true rfl) (mc := 0) (ms := 0) (Nat.zero_le _) (Nat.zero_le _) (P := fun v u => _) ?_ (fun e u h => h) (fun v u h => h)
              intro po55 xx55 hp55 hx55
              refine g_enter2 (k := 278) (N := 300) (by first | exact dq1 hd rfl | exact dq0 hd rfl | exact dq2 hd rfl | exact dq3 hd rfl | omega) rfl (Nat.le_of_ble_eq_true rfl) ?_
              refine g_iload_n 1 (gd rfl) rfl rfl ?_
              refine g_if_lt 4 24 (gd rfl) rfl rfl (fun c55x1 => ?_) (fun c55x1 => ?_)
              · skip
                have i55x1 := z_lt (-2147483648) (-1) c55x1 (i_rng x1) rfl
                refine g_iconst 0 25 (gd rfl) rfl rfl ?_
                refine g_ireturn (gd rfl) rfl (nb01 (in_w 0 1 (in_c 0 rfl) rfl)) (hp55 _ _ ?_)
                show GG _ _ _ _ _ _ _ _ [.int (Int32.ofInt 0), .ref (A 109)] _ _ _
                refine g_if_eq 61 70 (gd rfl) rfl rfl (fun c58 => ?_) (fun c58 => ?_)
                · skip
                  refine g_iconst 0 71 (gd rfl) rfl rfl ?_
                  refine g_aload_n 72 (gd rfl) rfl rfl ?_
                  refine g_getI 75 (gd rfl) rfl rfl rfl (fun z72 e72 => ?_)
                  have q72 : u_109_9 = z72 := (e_109_9).trans e72.symm
                  subst q72
                  refine g_sipush 4000 78 (gd rfl) rfl rfl ?_
                  refine g_cmp_ge 81 85 (gd rfl) rfl rfl (fun c78 => ?_) (fun c78 => ?_)
                  · skip
                    have i78 := r_le2 4000 4000 c78 (in_c 4000 rfl) (inv_F hI 0 4000 rfl e_109_9) rfl
                    refine g_iconst 0 86 (gd rfl) rfl rfl ?_
                    refine g_callv (X := _) (As := [.int (Int32.ofInt 0), .int (Int32.ofInt 0)]) (r := []) (b := A 109) (q := 109) 89 (gd rfl) rfl rfl rfl rfl rfl (ww_o rfl) (Nat.le_of_ble_eq_true rfl) (mc := 0) (ms := 0) (Nat.zero_le _) (Nat.zero_le _) (P := fun v u => _) ?_ (fun e u h => h) (fun v u h => h)
                    intro po86 xx86 hp86 hx86
                    refine g_enter2 (k := 270) (N := 300) (by first | exact dq1 hd rfl | exact dq0 hd rfl | exact dq2 hd rfl | exact dq3 hd rfl | omega) rfl (Nat.le_of_ble_eq_true rfl) ?_
                    refine g_aload_n 1 (gd rfl) rfl rfl ?_
                    refine g_iload_n 2 (gd rfl) rfl rfl ?_
                    refine g_if_ne 5 9 (gd rfl) rfl rfl (fun c86x2 => ?_) (fun c86x2 => ?_)
                    · skip
                      exact zn_ne c86x2 (in_c 0 rfl) rfl
                    · skip
                      refine g_iconst 1 6 (gd rfl) rfl rfl ?_
                      refine g_goto 18 (gd rfl) rfl ?_
                      refine g_putI 21 (gd rfl) rfl rfl rfl rfl ?_
                      have hI86x18 := inv_sF (q := 109) (j := 0) hI rfl (in_w 0 2 (in_c 1 rfl) rfl)
                      refine g_aload_n 22 (gd rfl) rfl rfl ?_
                      refine g_getI 25 (gd rfl) rfl rfl rfl (fun z86x22 e86x22 => ?_)
                      have q86x22 : (Int32.ofInt 1) = z86x22 := (sF_get).trans e86x22.symm
                      subst q86x22
                      refine g_if_le 28 32 (gd rfl) rfl rfl (fun c86x25 => ?_) (fun c86x25 => ?_)
                      · skip
                        exact zn_le c86x25 (in_c 1 rfl) rfl
                      · skip
                        refine g_iconst 1 29 (gd rfl) rfl rfl ?_
                        refine g_goto 33 (gd rfl) rfl ?_
                        refine g_ireturn (gd rfl) rfl (nb01 (in_w 0 1 (in_c 1 rfl) rfl)) (hp86 _ _ ?_)
                        show GG _ _ _ _ _ _ _ _ [.int (Int32.ofInt 1)] _ _ _
                        refine g_if_eq 92 94 (gd rfl) rfl rfl (fun c89 => ?_) (fun c89 => ?_)
                        · skip
                          exact zn_eq c89 (in_c 1 rfl) rfl
                        · skip
                          refine g_iconst 0 93 (gd rfl) rfl rfl ?_
                          have n93 : CDR s (sF s 109 0 (Int32.ofInt 1)) (HAR s x1 ∧ GVL x2 x3) ((s.2.2.1 109 9).toInt ≤ 3999) (((Int32.ofInt 0)) = (if (x2).toInt = 0 then s.1 115 (x1).toNatClampNeg else if (x2).toInt = 1 then s.1 116 (x1).toNatClampNeg else s.1 117 (x1).toNatClampNeg) ∧ gvR (sF s 109 0 (Int32.ofInt 1)) = gqW (gvR s) (x1).toNatClampNeg x2 x3) := by first | exact Or.inl ⟨rfl, (by first | (unfold HAR GVL In; have a0 := oa7 i30 ((inv_F hI 0 2 rfl e_109_0)) i78 ((in_c 0 rfl)) i39x10b i55x1 ((in_c 1 rfl)); have a7 := tx_i2l e34; have oc := oc_284_109; omega) | (unfold HAR GVL In; rw [← e55x16]; have a0 := oa7 i30 ((inv_F hI 0 2 rfl e_109_0)) i78 ((in_c 0 rfl)) i39x10b i55x1 ((in_c 1 rfl)); have a7 := tx_i2l e34; have oc := oc_284_109; omega)), (gvR_cg (L := ([], [], [(109, 0)], [])) (fr_sF rfl fr_rf) rfl)⟩ | exact Or.inr (Or.inl ⟨rfl, ⟨⟨by have a0 := oa7 i30 ((inv_F hI 0 2 rfl e_109_0)) i78 ((in_c 0 rfl)) i39x10b i55x1 ((in_c 1 rfl)); have a7 := tx_i2l e34; have oc := oc_284_109; omega, by have a0 := oa7 i30 ((inv_F hI 0 2 rfl e_109_0)) i78 ((in_c 0 rfl)) i39x10b i55x1 ((in_c 1 rfl)); have a7 := tx_i2l e34; have oc := oc_284_109; omega, by rw [← e55x16]; have a0 := oa7 i30 ((inv_F hI 0 2 rfl e_109_0)) i78 ((in_c 0 rfl)) i39x10b i55x1 ((in_c 1 rfl)); have a7 := tx_i2l e34; have oc := oc_284_109; omega⟩, (by unfold GVL In; have a0 := oa7 i30 ((inv_F hI 0 2 rfl e_109_0)) i78 ((in_c 0 rfl)) i39x10b i55x1 ((in_c 1 rfl)); have a7 := tx_i2l e34; have oc := oc_284_109; omega)⟩, (by rw [← e_109_9]; have a0 := oa7 i30 ((inv_F hI 0 2 rfl e_109_0)) i78 ((in_c 0 rfl)) i39x10b i55x1 ((in_c 1 rfl)); have a7 := tx_i2l e34; have oc := oc_284_109; omega), (gvR_cg (L := ([], [], [(109, 0)], [])) (fr_sF rfl fr_rf) rfl)⟩)
                          have n93a : LGX s (sF s 109 0 (Int32.ofInt 1)) (Int32.ofInt 3) x1 x2 x3 (Int32.ofInt 0) (Int32.ofInt 0) (Int32.ofInt 0) := by exact Or.inl ⟨rfl, rfl, rfl, rfl, rfl, rfl, rfl, rfl⟩
                          have n93b : GSE s → GSE (sF s 109 0 (Int32.ofInt 1)) := by exact fun h => gse_fr (L := ([], [], [(109, 0)], [])) h (fr_sF rfl fr_rf) rfl
                          have n93c : G1S s (sF s 109 0 (Int32.ofInt 1)) := by exact ⟨rfl, fun _ _ => rfl, fun _ _ _ => ⟨rfl, rfl, rfl, rfl, rfl, rfl⟩⟩
                          exact g_ireturn (gd rfl) rfl rfl (hP _ _ ⟨(sF s 109 0 (Int32.ofInt 1)), hI86x18, (fr_sF rfl fr_rf), (Int32.ofInt 0), rfl, rfl, in_w (-1000000) 1000000 (in_c 0 rfl) rfl, n93, n93a, n93b, n93c⟩)
                  · skip
                    have i78 := r_lt1 0 3999 c78 (inv_F hI 0 4000 rfl e_109_9) (in_c 4000 rfl) rfl
                    refine g_iconst 1 82 (gd rfl) rfl rfl ?_
                    refine g_goto 86 (gd rfl) rfl ?_
                    refine g_callv (X := _) (As := [.int (Int32.ofInt 0), .int (Int32.ofInt 1)]) (r := []) (b := A 109) (q := 109) 89 (gd rfl) rfl rfl rfl rfl rfl (ww_o rfl) (Nat.le_of_ble_eq_true rfl) (mc := 0) (ms := 0) (Nat.zero_le _) (Nat.zero_le _) (P := fun v u => _) ?_ (fun e u h => h) (fun v u h => h)
                    intro po86 xx86 hp86 hx86
                    refine g_enter2 (k := 270) (N := 300) (by first | exact dq1 hd rfl | exact dq0 hd rfl | exact dq2 hd rfl | exact dq3 hd rfl | omega) rfl (Nat.le_of_ble_eq_true rfl) ?_
                    refine g_aload_n 1 (gd rfl) rfl rfl ?_
                    refine g_iload_n 2 (gd rfl) rfl rfl ?_
                    refine g_if_ne 5 9 (gd rfl) rfl rfl (fun c86x2 => ?_) (fun c86x2 => ?_)
                    · skip
                      exact zn_ne c86x2 (in_c 0 rfl) rfl
                    · skip
                      refine g_iconst 1 6 (gd rfl) rfl rfl ?_
                      refine g_goto 18 (gd rfl) rfl ?_
                      refine g_putI 21 (gd rfl) rfl rfl rfl rfl ?_
                      have hI86x18 := inv_sF (q := 109) (j := 0) hI rfl (in_w 0 2 (in_c 1 rfl) rfl)
                      refine g_aload_n 22 (gd rfl) rfl rfl ?_
                      refine g_getI 25 (gd rfl) rfl rfl rfl (fun z86x22 e86x22 => ?_)
                      have q86x22 : (Int32.ofInt 1) = z86x22 := (sF_get).trans e86x22.symm
                      subst q86x22
                      refine g_if_le 28 32 (gd rfl) rfl rfl (fun c86x25 => ?_) (fun c86x25 => ?_)
                      · skip
                        exact zn_le c86x25 (in_c 1 rfl) rfl
                      · skip
                        refine g_iconst 1 29 (gd rfl) rfl rfl ?_
                        refine g_goto 33 (gd rfl) rfl ?_
                        refine g_ireturn (gd rfl) rfl (nb01 (in_w 0 1 (in_c 1 rfl) rfl)) (hp86 _ _ ?_)
                        show GG _ _ _ _ _ _ _ _ [.int (Int32.ofInt 1)] _ _ _
                        refine g_if_eq 92 94 (gd rfl) rfl rfl (fun c89 => ?_) (fun c89 => ?_)
                        · skip
                          exact zn_eq c89 (in_c 1 rfl) rfl
                        · skip
                          refine g_iconst 0 93 (gd rfl) rfl rfl ?_
                          have n93 : CDR s (sF s 109 0 (Int32.ofInt 1)) (HAR s x1 ∧ GVL x2 x3) ((s.2.2.1 109 9).toInt ≤ 3999) (((Int32.ofInt 0)) = (if (x2).toInt = 0 then s.1 115 (x1).toNatClampNeg else if (x2).toInt = 1 then s.1 116 (x1).toNatClampNeg else s.1 117 (x1).toNatClampNeg) ∧ gvR (sF s 109 0 (Int32.ofInt 1)) = gqW (gvR s) (x1).toNatClampNeg x2 x3) := by first | exact Or.inl ⟨rfl, (by first | (unfold HAR GVL In; have a0 := oa7 i30 ((inv_F hI 0 2 rfl e_109_0)) i78 ((in_c 0 rfl)) i39x10b i55x1 ((in_c 1 rfl)); have a7 := tx_i2l e34; have oc := oc_284_109; omega) | (unfold HAR GVL In; rw [← e55x16]; have a0 := oa7 i30 ((inv_F hI 0 2 rfl e_109_0)) i78 ((in_c 0 rfl)) i39x10b i55x1 ((in_c 1 rfl)); have a7 := tx_i2l e34; have oc := oc_284_109; omega)), (gvR_cg (L := ([], [], [(109, 0)], [])) (fr_sF rfl fr_rf) rfl)⟩ | exact Or.inr (Or.inl ⟨rfl, ⟨⟨by have a0 := oa7 i30 ((inv_F hI 0 2 rfl e_109_0)) i78 ((in_c 0 rfl)) i39x10b i55x1 ((in_c 1 rfl)); have a7 := tx_i2l e34; have oc := oc_284_109; omega, by have a0 := oa7 i30 ((inv_F hI 0 2 rfl e_109_0)) i78 ((in_c 0 rfl)) i39x10b i55x1 ((in_c 1 rfl)); have a7 := tx_i2l e34; have oc := oc_284_109; omega, by rw [← e55x16]; have a0 := oa7 i30 ((inv_F hI 0 2 rfl e_109_0)) i78 ((in_c 0 rfl)) i39x10b i55x1 ((in_c 1 rfl)); have a7 := tx_i2l e34; have oc := oc_284_109; omega⟩, (by unfold GVL In; have a0 := oa7 i30 ((inv_F hI 0 2 rfl e_109_0)) i78 ((in_c 0 rfl)) i39x10b i55x1 ((in_c 1 rfl)); have a7 := tx_i2l e34; have oc := oc_284_109; omega)⟩, (by rw [← e_109_9]; have a0 := oa7 i30 ((inv_F hI 0 2 rfl e_109_0)) i78 ((in_c 0 rfl)) i39x10b i55x1 ((in_c 1 rfl)); have a7 := tx_i2l e34; have oc := oc_284_109; omega), (gvR_cg (L := ([], [], [(109, 0)], [])) (fr_sF rfl fr_rf) rfl)⟩)
                          have n93a : LGX s (sF s 109 0 (Int32.ofInt 1)) (Int32.ofInt 3) x1 x2 x3 (Int32.ofInt 0) (Int32.ofInt 0) (Int32.ofInt 0) := by exact Or.inl ⟨rfl, rfl, rfl, rfl, rfl, rfl, rfl, rfl⟩
                          have n93b : GSE s → GSE (sF s 109 0 (Int32.ofInt 1)) := by exact fun h => gse_fr (L := ([], [], [(109, 0)], [])) h (fr_sF rfl fr_rf) rfl
                          have n93c : G1S s (sF s 109 0 (Int32.ofInt 1)) := by exact ⟨rfl, fun _ _ => rfl, fun _ _ _ => ⟨rfl, rfl, rfl, rfl, rfl, rfl⟩⟩
                          exact g_ireturn (gd rfl) rfl rfl (hP _ _ ⟨(sF s 109 0 (Int32.ofInt 1)), hI86x18, (fr_sF rfl fr_rf), (Int32.ofInt 0), rfl, rfl, in_w (-1000000) 1000000 (in_c 0 rfl) rfl, n93, n93a, n93b, n93c⟩)
                · skip
                  exact zn_ne c58 (in_c 0 rfl) rfl
              · skip
                have i55x1 := z_ge 0 2147483647 c55x1 (i_rng x1) rfl
                refine g_iload_n 5 (gd rfl) rfl rfl ?_
                refine g_sipush 160 8 (gd rfl) rfl rfl ?_
                refine g_cmp_ge 11 24 (gd rfl) rfl rfl (fun c55x8 => ?_) (fun c55x8 => ?_)
                · skip
                  have i55x8 := r_le2 160 2147483647 c55x8 (in_c 160 rfl) i55x1 rfl
                  refine g_iconst 0 25 (gd rfl) rfl rfl ?_
                  refine g_ireturn (gd rfl) rfl (nb01 (in_w 0 1 (in_c 0 rfl) rfl)) (hp55 _ _ ?_)
                  show GG _ _ _ _ _ _ _ _ [.int (Int32.ofInt 0), .ref (A 109)] _ _ _
                  refine g_if_eq 61 70 (gd rfl) rfl rfl (fun c58 => ?_) (fun c58 => ?_)
                  · skip
                    refine g_iconst 0 71 (gd rfl) rfl rfl ?_
                    refine g_aload_n 72 (gd rfl) rfl rfl ?_
                    refine g_getI 75 (gd rfl) rfl rfl rfl (fun z72 e72 => ?_)
                    have q72 : u_109_9 = z72 := (e_109_9).trans e72.symm
                    subst q72
                    refine g_sipush 4000 78 (gd rfl) rfl rfl ?_
                    refine g_cmp_ge 81 85 (gd rfl) rfl rfl (fun c78 => ?_) (fun c78 => ?_)
                    · skip
                      have i78 := r_le2 4000 4000 c78 (in_c 4000 rfl) (inv_F hI 0 4000 rfl e_109_9) rfl
                      refine g_iconst 0 86 (gd rfl) rfl rfl ?_
                      refine g_callv (X := _) (As := [.int (Int32.ofInt 0), .int (Int32.ofInt 0)]) (r := []) (b := A 109) (q := 109) 89 (gd rfl) rfl rfl rfl rfl rfl (ww_o rfl) (Nat.le_of_ble_eq_true rfl) (mc := 0) (ms := 0) (Nat.zero_le _) (Nat.zero_le _) (P := fun v u => _) ?_ (fun e u h => h) (fun v u h => h)
                      intro po86 xx86 hp86 hx86
                      refine g_enter2 (k := 270) (N := 300) (by first | exact dq1 hd rfl | exact dq0 hd rfl | exact dq2 hd rfl | exact dq3 hd rfl | omega) rfl (Nat.le_of_ble_eq_true rfl) ?_
                      refine g_aload_n 1 (gd rfl) rfl rfl ?_
                      refine g_iload_n 2 (gd rfl) rfl rfl ?_
                      refine g_if_ne 5 9 (gd rfl) rfl rfl (fun c86x2 => ?_) (fun c86x2 => ?_)
                      · skip
                        exact zn_ne c86x2 (in_c 0 rfl) rfl
                      · skip
                        refine g_iconst 1 6 (gd rfl) rfl rfl ?_
                        refine g_goto 18 (gd rfl) rfl ?_
                        refine g_putI 21 (gd rfl) rfl rfl rfl rfl ?_
                        have hI86x18 := inv_sF (q := 109) (j := 0) hI rfl (in_w 0 2 (in_c 1 rfl) rfl)
                        refine g_aload_n 22 (gd rfl) rfl rfl ?_
                        refine g_getI 25 (gd rfl) rfl rfl rfl (fun z86x22 e86x22 => ?_)
                        have q86x22 : (Int32.ofInt 1) = z86x22 := (sF_get).trans e86x22.symm
                        subst q86x22
                        refine g_if_le 28 32 (gd rfl) rfl rfl (fun c86x25 => ?_) (fun c86x25 => ?_)
                        · skip
                          exact zn_le c86x25 (in_c 1 rfl) rfl
                        · skip
                          refine g_iconst 1 29 (gd rfl) rfl rfl ?_
                          refine g_goto 33 (gd rfl) rfl ?_
                          refine g_ireturn (gd rfl) rfl (nb01 (in_w 0 1 (in_c 1 rfl) rfl)) (hp86 _ _ ?_)
                          show GG _ _ _ _ _ _ _ _ [.int (Int32.ofInt 1)] _ _ _
                          refine g_if_eq 92 94 (gd rfl) rfl rfl (fun c89 => ?_) (fun c89 => ?_)
                          · skip
                            exact zn_eq c89 (in_c 1 rfl) rfl
                          · skip
                            refine g_iconst 0 93 (gd rfl) rfl rfl ?_
                            have n93 : CDR s (sF s 109 0 (Int32.ofInt 1)) (HAR s x1 ∧ GVL x2 x3) ((s.2.2.1 109 9).toInt ≤ 3999) (((Int32.ofInt 0)) = (if (x2).toInt = 0 then s.1 115 (x1).toNatClampNeg else if (x2).toInt = 1 then s.1 116 (x1).toNatClampNeg else s.1 117 (x1).toNatClampNeg) ∧ gvR (sF s 109 0 (Int32.ofInt 1)) = gqW (gvR s) (x1).toNatClampNeg x2 x3) := by first | exact Or.inl ⟨rfl, (by first | (unfold HAR GVL In; have a0 := oa7 i30 ((inv_F hI 0 2 rfl e_109_0)) i78 ((in_c 0 rfl)) i39x10b i55x8 ((in_c 1 rfl)); have a7 := tx_i2l e34; have oc := oc_284_109; omega) | (unfold HAR GVL In; rw [← e55x16]; have a0 := oa7 i30 ((inv_F hI 0 2 rfl e_109_0)) i78 ((in_c 0 rfl)) i39x10b i55x8 ((in_c 1 rfl)); have a7 := tx_i2l e34; have oc := oc_284_109; omega)), (gvR_cg (L := ([], [], [(109, 0)], [])) (fr_sF rfl fr_rf) rfl)⟩ | exact Or.inr (Or.inl ⟨rfl, ⟨⟨by have a0 := oa7 i30 ((inv_F hI 0 2 rfl e_109_0)) i78 ((in_c 0 rfl)) i39x10b i55x8 ((in_c 1 rfl)); have a7 := tx_i2l e34; have oc := oc_284_109; omega, by have a0 := oa7 i30 ((inv_F hI 0 2 rfl e_109_0)) i78 ((in_c 0 rfl)) i39x10b i55x8 ((in_c 1 rfl)); have a7 := tx_i2l e34; have oc := oc_284_109; omega, by rw [← e55x16]; have a0 := oa7 i30 ((inv_F hI 0 2 rfl e_109_0)) i78 ((in_c 0 rfl)) i39x10b i55x8 ((in_c 1 rfl)); have a7 := tx_i2l e34; have oc := oc_284_109; omega⟩, (by unfold GVL In; have a0 := oa7 i30 ((inv_F hI 0 2 rfl e_109_0)) i78 ((in_c 0 rfl)) i39x10b i55x8 ((in_c 1 rfl)); have a7 := tx_i2l e34; have oc := oc_284_109; omega)⟩, (by rw [← e_109_9]; have a0 := oa7 i30 ((inv_F hI 0 2 rfl e_109_0)) i78 ((in_c 0 rfl)) i39x10b i55x8 ((in_c 1 rfl)); have a7 := tx_i2l e34; have oc := oc_284_109; omega), (gvR_cg (L := ([], [], [(109, 0)], [])) (fr_sF rfl fr_rf) rfl)⟩)
                            have n93a : LGX s (sF s 109 0 (Int32.ofInt 1)) (Int32.ofInt 3) x1 x2 x3 (Int32.ofInt 0) (Int32.ofInt 0) (Int32.ofInt 0) := by exact Or.inl ⟨rfl, rfl, rfl, rfl, rfl, rfl, rfl, rfl⟩
                            have n93b : GSE s → GSE (sF s 109 0 (Int32.ofInt 1)) := by exact fun h => gse_fr (L := ([], [], [(109, 0)], [])) h (fr_sF rfl fr_rf) rfl
                            have n93c : G1S s (sF s 109 0 (Int32.ofInt 1)) := by exact ⟨rfl, fun _ _ => rfl, fun _ _ _ => ⟨rfl, rfl, rfl, rfl, rfl, rfl⟩⟩
                            exact g_ireturn (gd rfl) rfl rfl (hP _ _ ⟨(sF s 109 0 (Int32.ofInt 1)), hI86x18, (fr_sF rfl fr_rf), (Int32.ofInt 0), rfl, rfl, in_w (-1000000) 1000000 (in_c 0 rfl) rfl, n93, n93a, n93b, n93c⟩)
                    · skip
                      have i78 := r_lt1 0 3999 c78 (inv_F hI 0 4000 rfl e_109_9) (in_c 4000 rfl) rfl
                      refine g_iconst 1 82 (gd rfl) rfl rfl ?_
                      refine g_goto 86 (gd rfl) rfl ?_
                      refine g_callv (X := _) (As := [.int (Int32.ofInt 0), .int (Int32.ofInt 1)]) (r := []) (b := A 109) (q := 109) 89 (gd rfl) rfl rfl rfl rfl rfl (ww_o rfl) (Nat.le_of_ble_eq_true rfl) (mc := 0) (ms := 0) (Nat.zero_le _) (Nat.zero_le _) (P := fun v u => _) ?_ (fun e u h => h) (fun v u h => h)
                      intro po86 xx86 hp86 hx86
                      refine g_enter2 (k := 270) (N := 300) (by first | exact dq1 hd rfl | exact dq0 hd rfl | exact dq2 hd rfl | exact dq3 hd rfl | omega) rfl (Nat.le_of_ble_eq_true rfl) ?_
                      refine g_aload_n 1 (gd rfl) rfl rfl ?_
                      refine g_iload_n 2 (gd rfl) rfl rfl ?_
                      refine g_if_ne 5 9 (gd rfl) rfl rfl (fun c86x2 => ?_) (fun c86x2 => ?_)
                      · skip
                        exact zn_ne c86x2 (in_c 0 rfl) rfl
                      · skip
                        refine g_iconst 1 6 (gd rfl) rfl rfl ?_
                        refine g_goto 18 (gd rfl) rfl ?_
                        refine g_putI 21 (gd rfl) rfl rfl rfl rfl ?_
                        have hI86x18 := inv_sF (q := 109) (j := 0) hI rfl (in_w 0 2 (in_c 1 rfl) rfl)
                        refine g_aload_n 22 (gd rfl) rfl rfl ?_
                        refine g_getI 25 (gd rfl) rfl rfl rfl (fun z86x22 e86x22 => ?_)
                        have q86x22 : (Int32.ofInt 1) = z86x22 := (sF_get).trans e86x22.symm
                        subst q86x22
                        refine g_if_le 28 32 (gd rfl) rfl rfl (fun c86x25 => ?_) (fun c86x25 => ?_)
                        · skip
                          exact zn_le c86x25 (in_c 1 rfl) rfl
                        · skip
                          refine g_iconst 1 29 (gd rfl) rfl rfl ?_
                          refine g_goto 33 (gd rfl) rfl ?_
                          refine g_ireturn (gd rfl) rfl (nb01 (in_w 0 1 (in_c 1 rfl) rfl)) (hp86 _ _ ?_)
                          show GG _ _ _ _ _ _ _ _ [.int (Int32.ofInt 1)] _ _ _
                          refine g_if_eq 92 94 (gd rfl) rfl rfl (fun c89 => ?_) (fun c89 => ?_)
                          · skip
                            exact zn_eq c89 (in_c 1 rfl) rfl
                          · skip
                            refine g_iconst 0 93 (gd rfl) rfl rfl ?_
                            have n93 : CDR s (sF s 109 0 (Int32.ofInt 1)) (HAR s x1 ∧ GVL x2 x3) ((s.2.2.1 109 9).toInt ≤ 3999) (((Int32.ofInt 0)) = (if (x2).toInt = 0 then s.1 115 (x1).toNatClampNeg else if (x2).toInt = 1 then s.1 116 (x1).toNatClampNeg else s.1 117 (x1).toNatClampNeg) ∧ gvR (sF s 109 0 (Int32.ofInt 1)) = gqW (gvR s) (x1).toNatClampNeg x2 x3) := by first | exact Or.inl ⟨rfl, (by first | (unfold HAR GVL In; have a0 := oa7 i30 ((inv_F hI 0 2 rfl e_109_0)) i78 ((in_c 0 rfl)) i39x10b i55x8 ((in_c 1 rfl)); have a7 := tx_i2l e34; have oc := oc_284_109; omega) | (unfold HAR GVL In; rw [← e55x16]; have a0 := oa7 i30 ((inv_F hI 0 2 rfl e_109_0)) i78 ((in_c 0 rfl)) i39x10b i55x8 ((in_c 1 rfl)); have a7 := tx_i2l e34; have oc := oc_284_109; omega)), (gvR_cg (L := ([], [], [(109, 0)], [])) (fr_sF rfl fr_rf) rfl)⟩ | exact Or.inr (Or.inl ⟨rfl, ⟨⟨by have a0 := oa7 i30 ((inv_F hI 0 2 rfl e_109_0)) i78 ((in_c 0 rfl)) i39x10b i55x8 ((in_c 1 rfl)); have a7 := tx_i2l e34; have oc := oc_284_109; omega, by have a0 := oa7 i30 ((inv_F hI 0 2 rfl e_109_0)) i78 ((in_c 0 rfl)) i39x10b i55x8 ((in_c 1 rfl)); have a7 := tx_i2l e34; have oc := oc_284_109; omega, by rw [← e55x16]; have a0 := oa7 i30 ((inv_F hI 0 2 rfl e_109_0)) i78 ((in_c 0 rfl)) i39x10b i55x8 ((in_c 1 rfl)); have a7 := tx_i2l e34; have oc := oc_284_109; omega⟩, (by unfold GVL In; have a0 := oa7 i30 ((inv_F hI 0 2 rfl e_109_0)) i78 ((in_c 0 rfl)) i39x10b i55x8 ((in_c 1 rfl)); have a7 := tx_i2l e34; have oc := oc_284_109; omega)⟩, (by rw [← e_109_9]; have a0 := oa7 i30 ((inv_F hI 0 2 rfl e_109_0)) i78 ((in_c 0 rfl)) i39x10b i55x8 ((in_c 1 rfl)); have a7 := tx_i2l e34; have oc := oc_284_109; omega), (gvR_cg (L := ([], [], [(109, 0)], [])) (fr_sF rfl fr_rf) rfl)⟩)
                            have n93a : LGX s (sF s 109 0 (Int32.ofInt 1)) (Int32.ofInt 3) x1 x2 x3 (Int32.ofInt 0) (Int32.ofInt 0) (Int32.ofInt 0) := by exact Or.inl ⟨rfl, rfl, rfl, rfl, rfl, rfl, rfl, rfl⟩
                            have n93b : GSE s → GSE (sF s 109 0 (Int32.ofInt 1)) := by exact fun h => gse_fr (L := ([], [], [(109, 0)], [])) h (fr_sF rfl fr_rf) rfl
                            have n93c : G1S s (sF s 109 0 (Int32.ofInt 1)) := by exact ⟨rfl, fun _ _ => rfl, fun _ _ _ => ⟨rfl, rfl, rfl, rfl, rfl, rfl⟩⟩
                            exact g_ireturn (gd rfl) rfl rfl (hP _ _ ⟨(sF s 109 0 (Int32.ofInt 1)), hI86x18, (fr_sF rfl fr_rf), (Int32.ofInt 0), rfl, rfl, in_w (-1000000) 1000000 (in_c 0 rfl) rfl, n93, n93a, n93b, n93c⟩)
                  · skip
                    exact zn_ne c58 (in_c 0 rfl) rfl
                · skip
                  have i55x8 := r_lt1 0 159 c55x8 i55x1 (in_c 160 rfl) rfl
                  refine g_aload_n 12 (gd rfl) rfl rfl ?_
                  refine g_getA (q2 := 112) 15 (gd rfl) rfl rfl rfl rfl ?_
                  refine g_iload_n 16 (gd rfl) rfl rfl ?_
                  refine g_baload 17 (gd rfl) rfl (n := 480) rfl (in_ix i55x8 rfl) (fun z55x16 e55x16 => ?_)
                  have i55x16 := inv_I hI (n := 480) (t := 3) 0 1 rfl (in_ix i55x8 rfl) rfl e55x16
                  refine g_if_eq 20 24 (gd rfl) rfl rfl (fun c55x17 => ?_) (fun c55x17 => ?_)
                  · skip
                    have i55x17 := z_eq 0 0 c55x17 i55x16 rfl
                    refine g_iconst 0 25 (gd rfl) rfl rfl ?_
                    refine g_ireturn (gd rfl) rfl (nb01 (in_w 0 1 (in_c 0 rfl) rfl)) (hp55 _ _ ?_)
                    show GG _ _ _ _ _ _ _ _ [.int (Int32.ofInt 0), .ref (A 109)] _ _ _
                    refine g_if_eq 61 70 (gd rfl) rfl rfl (fun c58 => ?_) (fun c58 => ?_)
                    · skip
                      refine g_iconst 0 71 (gd rfl) rfl rfl ?_
                      refine g_aload_n 72 (gd rfl) rfl rfl ?_
                      refine g_getI 75 (gd rfl) rfl rfl rfl (fun z72 e72 => ?_)
                      have q72 : u_109_9 = z72 := (e_109_9).trans e72.symm
                      subst q72
                      refine g_sipush 4000 78 (gd rfl) rfl rfl ?_
                      refine g_cmp_ge 81 85 (gd rfl) rfl rfl (fun c78 => ?_) (fun c78 => ?_)
                      · skip
                        have i78 := r_le2 4000 4000 c78 (in_c 4000 rfl) (inv_F hI 0 4000 rfl e_109_9) rfl
                        refine g_iconst 0 86 (gd rfl) rfl rfl ?_
                        refine g_callv (X := _) (As := [.int (Int32.ofInt 0), .int (Int32.ofInt 0)]) (r := []) (b := A 109) (q := 109) 89 (gd rfl) rfl rfl rfl rfl rfl (ww_o rfl) (Nat.le_of_ble_eq_true rfl) (mc := 0) (ms := 0) (Nat.zero_le _) (Nat.zero_le _) (P := fun v u => _) ?_ (fun e u h => h) (fun v u h => h)
                        intro po86 xx86 hp86 hx86
                        refine g_enter2 (k := 270) (N := 300) (by first | exact dq1 hd rfl | exact dq0 hd rfl | exact dq2 hd rfl | exact dq3 hd rfl | omega) rfl (Nat.le_of_ble_eq_true rfl) ?_
                        refine g_aload_n 1 (gd rfl) rfl rfl ?_
                        refine g_iload_n 2 (gd rfl) rfl rfl ?_
                        refine g_if_ne 5 9 (gd rfl) rfl rfl (fun c86x2 => ?_) (fun c86x2 => ?_)
                        · skip
                          exact zn_ne c86x2 (in_c 0 rfl) rfl
                        · skip
                          refine g_iconst 1 6 (gd rfl) rfl rfl ?_
                          refine g_goto 18 (gd rfl) rfl ?_
                          refine g_putI 21 (gd rfl) rfl rfl rfl rfl ?_
                          have hI86x18 := inv_sF (q := 109) (j := 0) hI rfl (in_w 0 2 (in_c 1 rfl) rfl)
                          refine g_aload_n 22 (gd rfl) rfl rfl ?_
                          refine g_getI 25 (gd rfl) rfl rfl rfl (fun z86x22 e86x22 => ?_)
                          have q86x22 : (Int32.ofInt 1) = z86x22 := (sF_get).trans e86x22.symm
                          subst q86x22
                          refine g_if_le 28 32 (gd rfl) rfl rfl (fun c86x25 => ?_) (fun c86x25 => ?_)
                          · skip
                            exact zn_le c86x25 (in_c 1 rfl) rfl
                          · skip
                            refine g_iconst 1 29 (gd rfl) rfl rfl ?_
                            refine g_goto 33 (gd rfl) rfl ?_
                            refine g_ireturn (gd rfl) rfl (nb01 (in_w 0 1 (in_c 1 rfl) rfl)) (hp86 _ _ ?_)
                            show GG _ _ _ _ _ _ _ _ [.int (Int32.ofInt 1)] _ _ _
                            refine g_if_eq 92 94 (gd rfl) rfl rfl (fun c89 => ?_) (fun c89 => ?_)
                            · skip
                              exact zn_eq c89 (in_c 1 rfl) rfl
                            · skip
                              refine g_iconst 0 93 (gd rfl) rfl rfl ?_
                              have n93 : CDR s (sF s 109 0 (Int32.ofInt 1)) (HAR s x1 ∧ GVL x2 x3) ((s.2.2.1 109 9).toInt ≤ 3999) (((Int32.ofInt 0)) = (if (x2).toInt = 0 then s.1 115 (x1).toNatClampNeg else if (x2).toInt = 1 then s.1 116 (x1).toNatClampNeg else s.1 117 (x1).toNatClampNeg) ∧ gvR (sF s 109 0 (Int32.ofInt 1)) = gqW (gvR s) (x1).toNatClampNeg x2 x3) := by first | exact Or.inl ⟨rfl, (by first | (unfold HAR GVL In; have a0 := oa7 i55x8 i30 ((inv_F hI 0 2 rfl e_109_0)) i78 ((in_c 0 rfl)) i39x10b ((in_c 1 rfl)); have a7 := tx_i2l e34; have oc := oc_284_109; omega) | (unfold HAR GVL In; rw [← e55x16]; have a0 := oa7 i55x8 i30 ((inv_F hI 0 2 rfl e_109_0)) i78 ((in_c 0 rfl)) i39x10b ((in_c 1 rfl)); have a7 := tx_i2l e34; have oc := oc_284_109; omega)), (gvR_cg (L := ([], [], [(109, 0)], [])) (fr_sF rfl fr_rf) rfl)⟩ | exact Or.inr (Or.inl ⟨rfl, ⟨⟨by have a0 := oa7 i55x8 i30 ((inv_F hI 0 2 rfl e_109_0)) i78 ((in_c 0 rfl)) i39x10b ((in_c 1 rfl)); have a7 := tx_i2l e34; have oc := oc_284_109; omega, by have a0 := oa7 i55x8 i30 ((inv_F hI 0 2 rfl e_109_0)) i78 ((in_c 0 rfl)) i39x10b ((in_c 1 rfl)); have a7 := tx_i2l e34; have oc := oc_284_109; omega, by rw [← e55x16]; have a0 := oa7 i55x8 i30 ((inv_F hI 0 2 rfl e_109_0)) i78 ((in_c 0 rfl)) i39x10b ((in_c 1 rfl)); have a7 := tx_i2l e34; have oc := oc_284_109; omega⟩, (by unfold GVL In; have a0 := oa7 i55x8 i30 ((inv_F hI 0 2 rfl e_109_0)) i78 ((in_c 0 rfl)) i39x10b ((in_c 1 rfl)); have a7 := tx_i2l e34; have oc := oc_284_109; omega)⟩, (by rw [← e_109_9]; have a0 := oa7 i55x8 i30 ((inv_F hI 0 2 rfl e_109_0)) i78 ((in_c 0 rfl)) i39x10b ((in_c 1 rfl)); have a7 := tx_i2l e34; have oc := oc_284_109; omega), (gvR_cg (L := ([], [], [(109, 0)], [])) (fr_sF rfl fr_rf) rfl)⟩)
                              have n93a : LGX s (sF s 109 0 (Int32.ofInt 1)) (Int32.ofInt 3) x1 x2 x3 (Int32.ofInt 0) (Int32.ofInt 0) (Int32.ofInt 0) := by exact Or.inl ⟨rfl, rfl, rfl, rfl, rfl, rfl, rfl, rfl⟩
                              have n93b : GSE s → GSE (sF s 109 0 (Int32.ofInt 1)) := by exact fun h => gse_fr (L := ([], [], [(109, 0)], [])) h (fr_sF rfl fr_rf) rfl
                              have n93c : G1S s (sF s 109 0 (Int32.ofInt 1)) := by exact ⟨rfl, fun _ _ => rfl, fun _ _ _ => ⟨rfl, rfl, rfl, rfl, rfl, rfl⟩⟩
                              exact g_ireturn (gd rfl) rfl rfl (hP _ _ ⟨(sF s 109 0 (Int32.ofInt 1)), hI86x18, (fr_sF rfl fr_rf), (Int32.ofInt 0), rfl, rfl, in_w (-1000000) 1000000 (in_c 0 rfl) rfl, n93, n93a, n93b, n93c⟩)
                      · skip
                        have i78 := r_lt1 0 3999 c78 (inv_F hI 0 4000 rfl e_109_9) (in_c 4000 rfl) rfl
                        refine g_iconst 1 82 (gd rfl) rfl rfl ?_
                        refine g_goto 86 (gd rfl) rfl ?_
                        refine g_callv (X := _) (As := [.int (Int32.ofInt 0), .int (Int32.ofInt 1)]) (r := []) (b := A 109) (q := 109) 89 (gd rfl) rfl rfl rfl rfl rfl (ww_o rfl) (Nat.le_of_ble_eq_true rfl) (mc := 0) (ms := 0) (Nat.zero_le _) (Nat.zero_le _) (P := fun v u => _) ?_ (fun e u h => h) (fun v u h => h)
                        intro po86 xx86 hp86 hx86
                        refine g_enter2 (k := 270) (N := 300) (by first | exact dq1 hd rfl | exact dq0 hd rfl | exact dq2 hd rfl | exact dq3 hd rfl | omega) rfl (Nat.le_of_ble_eq_true rfl) ?_
                        refine g_aload_n 1 (gd rfl) rfl rfl ?_
                        refine g_iload_n 2 (gd rfl) rfl rfl ?_
                        refine g_if_ne 5 9 (gd rfl) rfl rfl (fun c86x2 => ?_) (fun c86x2 => ?_)
                        · skip
                          exact zn_ne c86x2 (in_c 0 rfl) rfl
                        · skip
                          refine g_iconst 1 6 (gd rfl) rfl rfl ?_
                          refine g_goto 18 (gd rfl) rfl ?_
                          refine g_putI 21 (gd rfl) rfl rfl rfl rfl ?_
                          have hI86x18 := inv_sF (q := 109) (j := 0) hI rfl (in_w 0 2 (in_c 1 rfl) rfl)
                          refine g_aload_n 22 (gd rfl) rfl rfl ?_
                          refine g_getI 25 (gd rfl) rfl rfl rfl (fun z86x22 e86x22 => ?_)
                          have q86x22 : (Int32.ofInt 1) = z86x22 := (sF_get).trans e86x22.symm
                          subst q86x22
                          refine g_if_le 28 32 (gd rfl) rfl rfl (fun c86x25 => ?_) (fun c86x25 => ?_)
                          · skip
                            exact zn_le c86x25 (in_c 1 rfl) rfl
                          · skip
                            refine g_iconst 1 29 (gd rfl) rfl rfl ?_
                            refine g_goto 33 (gd rfl) rfl ?_
                            refine g_ireturn (gd rfl) rfl (nb01 (in_w 0 1 (in_c 1 rfl) rfl)) (hp86 _ _ ?_)
                            show GG _ _ _ _ _ _ _ _ [.int (Int32.ofInt 1)] _ _ _
                            refine g_if_eq 92 94 (gd rfl) rfl rfl (fun c89 => ?_) (fun c89 => ?_)
                            · skip
                              exact zn_eq c89 (in_c 1 rfl) rfl
                            · skip
                              refine g_iconst 0 93 (gd rfl) rfl rfl ?_
                              have n93 : CDR s (sF s 109 0 (Int32.ofInt 1)) (HAR s x1 ∧ GVL x2 x3) ((s.2.2.1 109 9).toInt ≤ 3999) (((Int32.ofInt 0)) = (if (x2).toInt = 0 then s.1 115 (x1).toNatClampNeg else if (x2).toInt = 1 then s.1 116 (x1).toNatClampNeg else s.1 117 (x1).toNatClampNeg) ∧ gvR (sF s 109 0 (Int32.ofInt 1)) = gqW (gvR s) (x1).toNatClampNeg x2 x3) := by first | exact Or.inl ⟨rfl, (by first | (unfold HAR GVL In; have a0 := oa7 i55x8 i30 ((inv_F hI 0 2 rfl e_109_0)) i78 ((in_c 0 rfl)) i39x10b ((in_c 1 rfl)); have a7 := tx_i2l e34; have oc := oc_284_109; omega) | (unfold HAR GVL In; rw [← e55x16]; have a0 := oa7 i55x8 i30 ((inv_F hI 0 2 rfl e_109_0)) i78 ((in_c 0 rfl)) i39x10b ((in_c 1 rfl)); have a7 := tx_i2l e34; have oc := oc_284_109; omega)), (gvR_cg (L := ([], [], [(109, 0)], [])) (fr_sF rfl fr_rf) rfl)⟩ | exact Or.inr (Or.inl ⟨rfl, ⟨⟨by have a0 := oa7 i55x8 i30 ((inv_F hI 0 2 rfl e_109_0)) i78 ((in_c 0 rfl)) i39x10b ((in_c 1 rfl)); have a7 := tx_i2l e34; have oc := oc_284_109; omega, by have a0 := oa7 i55x8 i30 ((inv_F hI 0 2 rfl e_109_0)) i78 ((in_c 0 rfl)) i39x10b ((in_c 1 rfl)); have a7 := tx_i2l e34; have oc := oc_284_109; omega, by rw [← e55x16]; have a0 := oa7 i55x8 i30 ((inv_F hI 0 2 rfl e_109_0)) i78 ((in_c 0 rfl)) i39x10b ((in_c 1 rfl)); have a7 := tx_i2l e34; have oc := oc_284_109; omega⟩, (by unfold GVL In; have a0 := oa7 i55x8 i30 ((inv_F hI 0 2 rfl e_109_0)) i78 ((in_c 0 rfl)) i39x10b ((in_c 1 rfl)); have a7 := tx_i2l e34; have oc := oc_284_109; omega)⟩, (by rw [← e_109_9]; have a0 := oa7 i55x8 i30 ((inv_F hI 0 2 rfl e_109_0)) i78 ((in_c 0 rfl)) i39x10b ((in_c 1 rfl)); have a7 := tx_i2l e34; have oc := oc_284_109; omega), (gvR_cg (L := ([], [], [(109, 0)], [])) (fr_sF rfl fr_rf) rfl)⟩)
                              have n93a : LGX s (sF s 109 0 (Int32.ofInt 1)) (Int32.ofInt 3) x1 x2 x3 (Int32.ofInt 0) (Int32.ofInt 0) (Int32.ofInt 0) := by exact Or.inl ⟨rfl, rfl, rfl, rfl, rfl, rfl, rfl, rfl⟩
                              have n93b : GSE s → GSE (sF s 109 0 (Int32.ofInt 1)) := by exact fun h => gse_fr (L := ([], [], [(109, 0)], [])) h (fr_sF rfl fr_rf) rfl
                              have n93c : G1S s (sF s 109 0 (Int32.ofInt 1)) := by exact ⟨rfl, fun _ _ => rfl, fun _ _ _ => ⟨rfl, rfl, rfl, rfl, rfl, rfl⟩⟩
                              exact g_ireturn (gd rfl) rfl rfl (hP _ _ ⟨(sF s 109 0 (Int32.ofInt 1)), hI86x18, (fr_sF rfl fr_rf), (Int32.ofInt 0), rfl, rfl, in_w (-1000000) 1000000 (in_c 0 rfl) rfl, n93, n93a, n93b, n93c⟩)
                    · skip
                      exact zn_ne c58 (in_c 0 rfl) rfl
                  · skip
                    have i55x17 := z_ne 1 1 c55x17 i55x16 rfl
                    refine g_iconst 1 21 (gd rfl) rfl rfl ?_
                    refine g_goto 25 (gd rfl) rfl ?_
                    refine g_ireturn (gd rfl) rfl (nb01 (in_w 0 1 (in_c 1 rfl) rfl)) (hp55 _ _ ?_)
                    show GG _ _ _ _ _ _ _ _ [.int (Int32.ofInt 1), .ref (A 109)] _ _ _
                    refine g_if_eq 61 70 (gd rfl) rfl rfl (fun c58 => ?_) (fun c58 => ?_)
                    · skip
                      exact zn_eq c58 (in_c 1 rfl) rfl
                    · skip
                      refine g_iload 63 (gd rfl) rfl rfl ?_
                      refine g_if_eq 66 70 (gd rfl) rfl rfl (fun c63 => ?_) (fun c63 => ?_)
                      · skip
                        refine g_iconst 0 71 (gd rfl) rfl rfl ?_
                        refine g_aload_n 72 (gd rfl) rfl rfl ?_
                        refine g_getI 75 (gd rfl) rfl rfl rfl (fun z72 e72 => ?_)
                        have q72 : u_109_9 = z72 := (e_109_9).trans e72.symm
                        subst q72
                        refine g_sipush 4000 78 (gd rfl) rfl rfl ?_
                        refine g_cmp_ge 81 85 (gd rfl) rfl rfl (fun c78 => ?_) (fun c78 => ?_)
                        · skip
                          have i78 := r_le2 4000 4000 c78 (in_c 4000 rfl) (inv_F hI 0 4000 rfl e_109_9) rfl
                          refine g_iconst 0 86 (gd rfl) rfl rfl ?_
                          refine g_callv (X := _) (As := [.int (Int32.ofInt 0), .int (Int32.ofInt 0)]) (r := []) (b := A 109) (q := 109) 89 (gd rfl) rfl rfl rfl rfl rfl (ww_o rfl) (Nat.le_of_ble_eq_true rfl) (mc := 0) (ms := 0) (Nat.zero_le _) (Nat.zero_le _) (P := fun v u => _) ?_ (fun e u h => h) (fun v u h => h)
                          intro po86 xx86 hp86 hx86
                          refine g_enter2 (k := 270) (N := 300) (by first | exact dq1 hd rfl | exact dq0 hd rfl | exact dq2 hd rfl | exact dq3 hd rfl | omega) rfl (Nat.le_of_ble_eq_true rfl) ?_
                          refine g_aload_n 1 (gd rfl) rfl rfl ?_
                          refine g_iload_n 2 (gd rfl) rfl rfl ?_
                          refine g_if_ne 5 9 (gd rfl) rfl rfl (fun c86x2 => ?_) (fun c86x2 => ?_)
                          · skip
                            exact zn_ne c86x2 (in_c 0 rfl) rfl
                          · skip
                            refine g_iconst 1 6 (gd rfl) rfl rfl ?_
                            refine g_goto 18 (gd rfl) rfl ?_
                            refine g_putI 21 (gd rfl) rfl rfl rfl rfl ?_
                            have hI86x18 := inv_sF (q := 109) (j := 0) hI rfl (in_w 0 2 (in_c 1 rfl) rfl)
                            refine g_aload_n 22 (gd rfl) rfl rfl ?_
                            refine g_getI 25 (gd rfl) rfl rfl rfl (fun z86x22 e86x22 => ?_)
                            have q86x22 : (Int32.ofInt 1) = z86x22 := (sF_get).trans e86x22.symm
                            subst q86x22
                            refine g_if_le 28 32 (gd rfl) rfl rfl (fun c86x25 => ?_) (fun c86x25 => ?_)
                            · skip
                              exact zn_le c86x25 (in_c 1 rfl) rfl
                            · skip
                              refine g_iconst 1 29 (gd rfl) rfl rfl ?_
                              refine g_goto 33 (gd rfl) rfl ?_
                              refine g_ireturn (gd rfl) rfl (nb01 (in_w 0 1 (in_c 1 rfl) rfl)) (hp86 _ _ ?_)
                              show GG _ _ _ _ _ _ _ _ [.int (Int32.ofInt 1)] _ _ _
                              refine g_if_eq 92 94 (gd rfl) rfl rfl (fun c89 => ?_) (fun c89 => ?_)
                              · skip
                                exact zn_eq c89 (in_c 1 rfl) rfl
                              · skip
                                refine g_iconst 0 93 (gd rfl) rfl rfl ?_
                                have n93 : CDR s (sF s 109 0 (Int32.ofInt 1)) (HAR s x1 ∧ GVL x2 x3) ((s.2.2.1 109 9).toInt ≤ 3999) (((Int32.ofInt 0)) = (if (x2).toInt = 0 then s.1 115 (x1).toNatClampNeg else if (x2).toInt = 1 then s.1 116 (x1).toNatClampNeg else s.1 117 (x1).toNatClampNeg) ∧ gvR (sF s 109 0 (Int32.ofInt 1)) = gqW (gvR s) (x1).toNatClampNeg x2 x3) := by first | exact Or.inl ⟨rfl, (by first | (unfold HAR GVL In; have a0 := oa7 i55x8 i30 ((inv_F hI 0 2 rfl e_109_0)) i78 ((in_c 0 rfl)) i39x10b ((in_c 1 rfl)); have a7 := tx_i2l e34; have oc := oc_284_109; omega) | (unfold HAR GVL In; rw [← e55x16]; have a0 := oa7 i55x8 i30 ((inv_F hI 0 2 rfl e_109_0)) i78 ((in_c 0 rfl)) i39x10b ((in_c 1 rfl)); have a7 := tx_i2l e34; have oc := oc_284_109; omega)), (gvR_cg (L := ([], [], [(109, 0)], [])) (fr_sF rfl fr_rf) rfl)⟩ | exact Or.inr (Or.inl ⟨rfl, ⟨⟨by have a0 := oa7 i55x8 i30 ((inv_F hI 0 2 rfl e_109_0)) i78 ((in_c 0 rfl)) i39x10b ((in_c 1 rfl)); have a7 := tx_i2l e34; have oc := oc_284_109; omega, by have a0 := oa7 i55x8 i30 ((inv_F hI 0 2 rfl e_109_0)) i78 ((in_c 0 rfl)) i39x10b ((in_c 1 rfl)); have a7 := tx_i2l e34; have oc := oc_284_109; omega, by rw [← e55x16]; have a0 := oa7 i55x8 i30 ((inv_F hI 0 2 rfl e_109_0)) i78 ((in_c 0 rfl)) i39x10b ((in_c 1 rfl)); have a7 := tx_i2l e34; have oc := oc_284_109; omega⟩, (by unfold GVL In; have a0 := oa7 i55x8 i30 ((inv_F hI 0 2 rfl e_109_0)) i78 ((in_c 0 rfl)) i39x10b ((in_c 1 rfl)); have a7 := tx_i2l e34; have oc := oc_284_109; omega)⟩, (by rw [← e_109_9]; have a0 := oa7 i55x8 i30 ((inv_F hI 0 2 rfl e_109_0)) i78 ((in_c 0 rfl)) i39x10b ((in_c 1 rfl)); have a7 := tx_i2l e34; have oc := oc_284_109; omega), (gvR_cg (L := ([], [], [(109, 0)], [])) (fr_sF rfl fr_rf) rfl)⟩)
                                have n93a : LGX s (sF s 109 0 (Int32.ofInt 1)) (Int32.ofInt 3) x1 x2 x3 (Int32.ofInt 0) (Int32.ofInt 0) (Int32.ofInt 0) := by exact Or.inl ⟨rfl, rfl, rfl, rfl, rfl, rfl, rfl, rfl⟩
                                have n93b : GSE s → GSE (sF s 109 0 (Int32.ofInt 1)) := by exact fun h => gse_fr (L := ([], [], [(109, 0)], [])) h (fr_sF rfl fr_rf) rfl
                                have n93c : G1S s (sF s 109 0 (Int32.ofInt 1)) := by exact ⟨rfl, fun _ _ => rfl, fun _ _ _ => ⟨rfl, rfl, rfl, rfl, rfl, rfl⟩⟩
                                exact g_ireturn (gd rfl) rfl rfl (hP _ _ ⟨(sF s 109 0 (Int32.ofInt 1)), hI86x18, (fr_sF rfl fr_rf), (Int32.ofInt 0), rfl, rfl, in_w (-1000000) 1000000 (in_c 0 rfl) rfl, n93, n93a, n93b, n93c⟩)
                        · skip
                          have i78 := r_lt1 0 3999 c78 (inv_F hI 0 4000 rfl e_109_9) (in_c 4000 rfl) rfl
                          refine g_iconst 1 82 (gd rfl) rfl rfl ?_
                          refine g_goto 86 (gd rfl) rfl ?_
                          refine g_callv (X := _) (As := [.int (Int32.ofInt 0), .int (Int32.ofInt 1)]) (r := []) (b := A 109) (q := 109) 89 (gd rfl) rfl rfl rfl rfl rfl (ww_o rfl) (Nat.le_of_ble_eq_true rfl) (mc := 0) (ms := 0) (Nat.zero_le _) (Nat.zero_le _) (P := fun v u => _) ?_ (fun e u h => h) (fun v u h => h)
                          intro po86 xx86 hp86 hx86
                          refine g_enter2 (k := 270) (N := 300) (by first | exact dq1 hd rfl | exact dq0 hd rfl | exact dq2 hd rfl | exact dq3 hd rfl | omega) rfl (Nat.le_of_ble_eq_true rfl) ?_
                          refine g_aload_n 1 (gd rfl) rfl rfl ?_
                          refine g_iload_n 2 (gd rfl) rfl rfl ?_
                          refine g_if_ne 5 9 (gd rfl) rfl rfl (fun c86x2 => ?_) (fun c86x2 => ?_)
                          · skip
                            exact zn_ne c86x2 (in_c 0 rfl) rfl
                          · skip
                            refine g_iconst 1 6 (gd rfl) rfl rfl ?_
                            refine g_goto 18 (gd rfl) rfl ?_
                            refine g_putI 21 (gd rfl) rfl rfl rfl rfl ?_
                            have hI86x18 := inv_sF (q := 109) (j := 0) hI rfl (in_w 0 2 (in_c 1 rfl) rfl)
                            refine g_aload_n 22 (gd rfl) rfl rfl ?_
                            refine g_getI 25 (gd rfl) rfl rfl rfl (fun z86x22 e86x22 => ?_)
                            have q86x22 : (Int32.ofInt 1) = z86x22 := (sF_get).trans e86x22.symm
                            subst q86x22
                            refine g_if_le 28 32 (gd rfl) rfl rfl (fun c86x25 => ?_) (fun c86x25 => ?_)
                            · skip
                              exact zn_le c86x25 (in_c 1 rfl) rfl
                            · skip
                              refine g_iconst 1 29 (gd rfl) rfl rfl ?_
                              refine g_goto 33 (gd rfl) rfl ?_
                              refine g_ireturn (gd rfl) rfl (nb01 (in_w 0 1 (in_c 1 rfl) rfl)) (hp86 _ _ ?_)
                              show GG _ _ _ _ _ _ _ _ [.int (Int32.ofInt 1)] _ _ _
                              refine g_if_eq 92 94 (gd rfl) rfl rfl (fun c89 => ?_) (fun c89 => ?_)
                              · skip
                                exact zn_eq c89 (in_c 1 rfl) rfl
                              · skip
                                refine g_iconst 0 93 (gd rfl) rfl rfl ?_
                                have n93 : CDR s (sF s 109 0 (Int32.ofInt 1)) (HAR s x1 ∧ GVL x2 x3) ((s.2.2.1 109 9).toInt ≤ 3999) (((Int32.ofInt 0)) = (if (x2).toInt = 0 then s.1 115 (x1).toNatClampNeg else if (x2).toInt = 1 then s.1 116 (x1).toNatClampNeg else s.1 117 (x1).toNatClampNeg) ∧ gvR (sF s 109 0 (Int32.ofInt 1)) = gqW (gvR s) (x1).toNatClampNeg x2 x3) := by first | exact Or.inl ⟨rfl, (by first | (unfold HAR GVL In; have a0 := oa7 i55x8 i30 ((inv_F hI 0 2 rfl e_109_0)) i78 ((in_c 0 rfl)) i39x10b ((in_c 1 rfl)); have a7 := tx_i2l e34; have oc := oc_284_109; omega) | (unfold HAR GVL In; rw [← e55x16]; have a0 := oa7 i55x8 i30 ((inv_F hI 0 2 rfl e_109_0)) i78 ((in_c 0 rfl)) i39x10b ((in_c 1 rfl)); have a7 := tx_i2l e34; have oc := oc_284_109; omega)), (gvR_cg (L := ([], [], [(109, 0)], [])) (fr_sF rfl fr_rf) rfl)⟩ | exact Or.inr (Or.inl ⟨rfl, ⟨⟨by have a0 := oa7 i55x8 i30 ((inv_F hI 0 2 rfl e_109_0)) i78 ((in_c 0 rfl)) i39x10b ((in_c 1 rfl)); have a7 := tx_i2l e34; have oc := oc_284_109; omega, by have a0 := oa7 i55x8 i30 ((inv_F hI 0 2 rfl e_109_0)) i78 ((in_c 0 rfl)) i39x10b ((in_c 1 rfl)); have a7 := tx_i2l e34; have oc := oc_284_109; omega, by rw [← e55x16]; have a0 := oa7 i55x8 i30 ((inv_F hI 0 2 rfl e_109_0)) i78 ((in_c 0 rfl)) i39x10b ((in_c 1 rfl)); have a7 := tx_i2l e34; have oc := oc_284_109; omega⟩, (by unfold GVL In; have a0 := oa7 i55x8 i30 ((inv_F hI 0 2 rfl e_109_0)) i78 ((in_c 0 rfl)) i39x10b ((in_c 1 rfl)); have a7 := tx_i2l e34; have oc := oc_284_109; omega)⟩, (by rw [← e_109_9]; have a0 := oa7 i55x8 i30 ((inv_F hI 0 2 rfl e_109_0)) i78 ((in_c 0 rfl)) i39x10b ((in_c 1 rfl)); have a7 := tx_i2l e34; have oc := oc_284_109; omega), (gvR_cg (L := ([], [], [(109, 0)], [])) (fr_sF rfl fr_rf) rfl)⟩)
                                have n93a : LGX s (sF s 109 0 (Int32.ofInt 1)) (Int32.ofInt 3) x1 x2 x3 (Int32.ofInt 0) (Int32.ofInt 0) (Int32.ofInt 0) := by exact Or.inl ⟨rfl, rfl, rfl, rfl, rfl, rfl, rfl, rfl⟩
                                have n93b : GSE s → GSE (sF s 109 0 (Int32.ofInt 1)) := by exact fun h => gse_fr (L := ([], [], [(109, 0)], [])) h (fr_sF rfl fr_rf) rfl
                                have n93c : G1S s (sF s 109 0 (Int32.ofInt 1)) := by exact ⟨rfl, fun _ _ => rfl, fun _ _ _ => ⟨rfl, rfl, rfl, rfl, rfl, rfl⟩⟩
                                exact g_ireturn (gd rfl) rfl rfl (hP _ _ ⟨(sF s 109 0 (Int32.ofInt 1)), hI86x18, (fr_sF rfl fr_rf), (Int32.ofInt 0), rfl, rfl, in_w (-1000000) 1000000 (in_c 0 rfl) rfl, n93, n93a, n93b, n93c⟩)
                      · skip
                        exact zn_ne c63 (in_c 0 rfl) rfl
            · skip
              exact zn_ne c42 (in_c 0 rfl) rfl
          · skip
            have i39x10 := z_le (-1) 0 c39x10 i39x9 rfl
            have c39x10a := lc_le e39x9 c39x10
            have i39x10a := lr_le1 0 25 c39x10a i39x3a (l_c 25 rfl) rfl
            have i39x10b := l_b e34 i39x10a
            refine g_iconst 1 14 (gd rfl) rfl rfl ?_
            refine g_goto 18 (gd rfl) rfl ?_
            refine g_ireturn (gd rfl) rfl (nb01 (in_w 0 1 (in_c 1 rfl) rfl)) (hp39 _ _ ?_)
            show GG _ _ _ _ _ _ _ _ [.int (Int32.ofInt 1)] _ _ _
            refine g_if_eq 45 49 (gd rfl) rfl rfl (fun c42 => ?_) (fun c42 => ?_)
            · skip
              exact zn_eq c42 (in_c 1 rfl) rfl
            · skip
              refine g_iconst 1 46 (gd rfl) rfl rfl ?_
              refine g_goto 50 (gd rfl) rfl ?_
              refine g_istore 52 (gd rfl) rfl (Nat.le_of_ble_eq_true rfl) ?_
              refine g_aload_n 53 (gd rfl) rfl rfl ?_
              refine g_aload_n 54 (gd rfl) rfl rfl ?_
              refine g_iload_n 55 (gd rfl) rfl rfl ?_
              refine g_callv (X := _) (As := [.int x1]) (r := [.ref (A 109)]) (b := A 109) (q := 109) 58 (gd rfl) rfl rfl rfl rfl rfl (ww_o rfl) (Nat.le_of_ble_eq_true rfl) (mc := 0) (ms := 0) (Nat.zero_le _) (Nat.zero_le _) (P := fun v u => _) ?_ (fun e u h => h) (fun v u h => h)
              intro po55 xx55 hp55 hx55
              refine g_enter2 (k := 278) (N := 300) (by first | exact dq1 hd rfl | exact dq0 hd rfl | exact dq2 hd rfl | exact dq3 hd rfl | omega) rfl (Nat.le_of_ble_eq_true rfl) ?_
              refine g_iload_n 1 (gd rfl) rfl rfl ?_
              refine g_if_lt 4 24 (gd rfl) rfl rfl (fun c55x1 => ?_) (fun c55x1 => ?_)
              · skip
                have i55x1 := z_lt (-2147483648) (-1) c55x1 (i_rng x1) rfl
                refine g_iconst 0 25 (gd rfl) rfl rfl ?_
                refine g_ireturn (gd rfl) rfl (nb01 (in_w 0 1 (in_c 0 rfl) rfl)) (hp55 _ _ ?_)
                show GG _ _ _ _ _ _ _ _ [.int (Int32.ofInt 0), .ref (A 109)] _ _ _
                refine g_if_eq 61 70 (gd rfl) rfl rfl (fun c58 => ?_) (fun c58 => ?_)
                · skip
                  refine g_iconst 0 71 (gd rfl) rfl rfl ?_
                  refine g_aload_n 72 (gd rfl) rfl rfl ?_
                  refine g_getI 75 (gd rfl) rfl rfl rfl (fun z72 e72 => ?_)
                  have q72 : u_109_9 = z72 := (e_109_9).trans e72.symm
                  subst q72
                  refine g_sipush 4000 78 (gd rfl) rfl rfl ?_
                  refine g_cmp_ge 81 85 (gd rfl) rfl rfl (fun c78 => ?_) (fun c78 => ?_)
                  · skip
                    have i78 := r_le2 4000 4000 c78 (in_c 4000 rfl) (inv_F hI 0 4000 rfl e_109_9) rfl
                    refine g_iconst 0 86 (gd rfl) rfl rfl ?_
                    refine g_callv (X := _) (As := [.int (Int32.ofInt 0), .int (Int32.ofInt 0)]) (r := []) (b := A 109) (q := 109) 89 (gd rfl) rfl rfl rfl rfl rfl (ww_o rfl) (Nat.le_of_ble_eq_true rfl) (mc := 0) (ms := 0) (Nat.zero_le _) (Nat.zero_le _) (P := fun v u => _) ?_ (fun e u h => h) (fun v u h => h)
                    intro po86 xx86 hp86 hx86
                    refine g_enter2 (k := 270) (N := 300) (by first | exact dq1 hd rfl | exact dq0 hd rfl | exact dq2 hd rfl | exact dq3 hd rfl | omega) rfl (Nat.le_of_ble_eq_true rfl) ?_
                    refine g_aload_n 1 (gd rfl) rfl rfl ?_
                    refine g_iload_n 2 (gd rfl) rfl rfl ?_
                    refine g_if_ne 5 9 (gd rfl) rfl rfl (fun c86x2 => ?_) (fun c86x2 => ?_)
                    · skip
                      exact zn_ne c86x2 (in_c 0 rfl) rfl
                    · skip
                      refine g_iconst 1 6 (gd rfl) rfl rfl ?_
                      refine g_goto 18 (gd rfl) rfl ?_
                      refine g_putI 21 (gd rfl) rfl rfl rfl rfl ?_
                      have hI86x18 := inv_sF (q := 109) (j := 0) hI rfl (in_w 0 2 (in_c 1 rfl) rfl)
                      refine g_aload_n 22 (gd rfl) rfl rfl ?_
                      refine g_getI 25 (gd rfl) rfl rfl rfl (fun z86x22 e86x22 => ?_)
                      have q86x22 : (Int32.ofInt 1) = z86x22 := (sF_get).trans e86x22.symm
                      subst q86x22
                      refine g_if_le 28 32 (gd rfl) rfl rfl (fun c86x25 => ?_) (fun c86x25 => ?_)
                      · skip
                        exact zn_le c86x25 (in_c 1 rfl) rfl
                      · skip
                        refine g_iconst 1 29 (gd rfl) rfl rfl ?_
                        refine g_goto 33 (gd rfl) rfl ?_
                        refine g_ireturn (gd rfl) rfl (nb01 (in_w 0 1 (in_c 1 rfl) rfl)) (hp86 _ _ ?_)
                        show GG _ _ _ _ _ _ _ _ [.int (Int32.ofInt 1)] _ _ _
                        refine g_if_eq 92 94 (gd rfl) rfl rfl (fun c89 => ?_) (fun c89 => ?_)
                        · skip
                          exact zn_eq c89 (in_c 1 rfl) rfl
                        · skip
                          refine g_iconst 0 93 (gd rfl) rfl rfl ?_
                          have n93 : CDR s (sF s 109 0 (Int32.ofInt 1)) (HAR s x1 ∧ GVL x2 x3) ((s.2.2.1 109 9).toInt ≤ 3999) (((Int32.ofInt 0)) = (if (x2).toInt = 0 then s.1 115 (x1).toNatClampNeg else if (x2).toInt = 1 then s.1 116 (x1).toNatClampNeg else s.1 117 (x1).toNatClampNeg) ∧ gvR (sF s 109 0 (Int32.ofInt 1)) = gqW (gvR s) (x1).toNatClampNeg x2 x3) := by first | exact Or.inl ⟨rfl, (by first | (unfold HAR GVL In; have a0 := oa6 i39x10b i30 ((inv_F hI 0 2 rfl e_109_0)) i78 ((in_c 1 rfl)) i55x1; have a6 := tx_i2l e34; have oc := oc_284_109; omega) | (unfold HAR GVL In; rw [← e55x16]; have a0 := oa6 i39x10b i30 ((inv_F hI 0 2 rfl e_109_0)) i78 ((in_c 1 rfl)) i55x1; have a6 := tx_i2l e34; have oc := oc_284_109; omega)), (gvR_cg (L := ([], [], [(109, 0)], [])) (fr_sF rfl fr_rf) rfl)⟩ | exact Or.inr (Or.inl ⟨rfl, ⟨⟨by have a0 := oa6 i39x10b i30 ((inv_F hI 0 2 rfl e_109_0)) i78 ((in_c 1 rfl)) i55x1; have a6 := tx_i2l e34; have oc := oc_284_109; omega, by have a0 := oa6 i39x10b i30 ((inv_F hI 0 2 rfl e_109_0)) i78 ((in_c 1 rfl)) i55x1; have a6 := tx_i2l e34; have oc := oc_284_109; omega, by rw [← e55x16]; have a0 := oa6 i39x10b i30 ((inv_F hI 0 2 rfl e_109_0)) i78 ((in_c 1 rfl)) i55x1; have a6 := tx_i2l e34; have oc := oc_284_109; omega⟩, (by unfold GVL In; have a0 := oa6 i39x10b i30 ((inv_F hI 0 2 rfl e_109_0)) i78 ((in_c 1 rfl)) i55x1; have a6 := tx_i2l e34; have oc := oc_284_109; omega)⟩, (by rw [← e_109_9]; have a0 := oa6 i39x10b i30 ((inv_F hI 0 2 rfl e_109_0)) i78 ((in_c 1 rfl)) i55x1; have a6 := tx_i2l e34; have oc := oc_284_109; omega), (gvR_cg (L := ([], [], [(109, 0)], [])) (fr_sF rfl fr_rf) rfl)⟩)
                          have n93a : LGX s (sF s 109 0 (Int32.ofInt 1)) (Int32.ofInt 3) x1 x2 x3 (Int32.ofInt 0) (Int32.ofInt 0) (Int32.ofInt 0) := by exact Or.inl ⟨rfl, rfl, rfl, rfl, rfl, rfl, rfl, rfl⟩
                          have n93b : GSE s → GSE (sF s 109 0 (Int32.ofInt 1)) := by exact fun h => gse_fr (L := ([], [], [(109, 0)], [])) h (fr_sF rfl fr_rf) rfl
                          have n93c : G1S s (sF s 109 0 (Int32.ofInt 1)) := by exact ⟨rfl, fun _ _ => rfl, fun _ _ _ => ⟨rfl, rfl, rfl, rfl, rfl, rfl⟩⟩
                          exact g_ireturn (gd rfl) rfl rfl (hP _ _ ⟨(sF s 109 0 (Int32.ofInt 1)), hI86x18, (fr_sF rfl fr_rf), (Int32.ofInt 0), rfl, rfl, in_w (-1000000) 1000000 (in_c 0 rfl) rfl, n93, n93a, n93b, n93c⟩)
                  · skip
                    have i78 := r_lt1 0 3999 c78 (inv_F hI 0 4000 rfl e_109_9) (in_c 4000 rfl) rfl
                    refine g_iconst 1 82 (gd rfl) rfl rfl ?_
                    refine g_goto 86 (gd rfl) rfl ?_
                    refine g_callv (X := _) (As := [.int (Int32.ofInt 0), .int (Int32.ofInt 1)]) (r := []) (b := A 109) (q := 109) 89 (gd rfl) rfl rfl rfl rfl rfl (ww_o rfl) (Nat.le_of_ble_eq_true rfl) (mc := 0) (ms := 0) (Nat.zero_le _) (Nat.zero_le _) (P := fun v u => _) ?_ (fun e u h => h) (fun v u h => h)
                    intro po86 xx86 hp86 hx86
                    refine g_enter2 (k := 270) (N := 300) (by first | exact dq1 hd rfl | exact dq0 hd rfl | exact dq2 hd rfl | exact dq3 hd rfl | omega) rfl (Nat.le_of_ble_eq_true rfl) ?_
                    refine g_aload_n 1 (gd rfl) rfl rfl ?_
                    refine g_iload_n 2 (gd rfl) rfl rfl ?_
                    refine g_if_ne 5 9 (gd rfl) rfl rfl (fun c86x2 => ?_) (fun c86x2 => ?_)
                    · skip
                      exact zn_ne c86x2 (in_c 0 rfl) rfl
                    · skip
                      refine g_iconst 1 6 (gd rfl) rfl rfl ?_
                      refine g_goto 18 (gd rfl) rfl ?_
                      refine g_putI 21 (gd rfl) rfl rfl rfl rfl ?_
                      have hI86x18 := inv_sF (q := 109) (j := 0) hI rfl (in_w 0 2 (in_c 1 rfl) rfl)
                      refine g_aload_n 22 (gd rfl) rfl rfl ?_
                      refine g_getI 25 (gd rfl) rfl rfl rfl (fun z86x22 e86x22 => ?_)
                      have q86x22 : (Int32.ofInt 1) = z86x22 := (sF_get).trans e86x22.symm
                      subst q86x22
                      refine g_if_le 28 32 (gd rfl) rfl rfl (fun c86x25 => ?_) (fun c86x25 => ?_)
                      · skip
                        exact zn_le c86x25 (in_c 1 rfl) rfl
                      · skip
                        refine g_iconst 1 29 (gd rfl) rfl rfl ?_
                        refine g_goto 33 (gd rfl) rfl ?_
                        refine g_ireturn (gd rfl) rfl (nb01 (in_w 0 1 (in_c 1 rfl) rfl)) (hp86 _ _ ?_)
                        show GG _ _ _ _ _ _ _ _ [.int (Int32.ofInt 1)] _ _ _
                        refine g_if_eq 92 94 (gd rfl) rfl rfl (fun c89 => ?_) (fun c89 => ?_)
                        · skip
                          exact zn_eq c89 (in_c 1 rfl) rfl
                        · skip
                          refine g_iconst 0 93 (gd rfl) rfl rfl ?_
                          have n93 : CDR s (sF s 109 0 (Int32.ofInt 1)) (HAR s x1 ∧ GVL x2 x3) ((s.2.2.1 109 9).toInt ≤ 3999) (((Int32.ofInt 0)) = (if (x2).toInt = 0 then s.1 115 (x1).toNatClampNeg else if (x2).toInt = 1 then s.1 116 (x1).toNatClampNeg else s.1 117 (x1).toNatClampNeg) ∧ gvR (sF s 109 0 (Int32.ofInt 1)) = gqW (gvR s) (x1).toNatClampNeg x2 x3) := by first | exact Or.inl ⟨rfl, (by first | (unfold HAR GVL In; have a0 := oa6 i39x10b i30 ((inv_F hI 0 2 rfl e_109_0)) i78 ((in_c 1 rfl)) i55x1; have a6 := tx_i2l e34; have oc := oc_284_109; omega) | (unfold HAR GVL In; rw [← e55x16]; have a0 := oa6 i39x10b i30 ((inv_F hI 0 2 rfl e_109_0)) i78 ((in_c 1 rfl)) i55x1; have a6 := tx_i2l e34; have oc := oc_284_109; omega)), (gvR_cg (L := ([], [], [(109, 0)], [])) (fr_sF rfl fr_rf) rfl)⟩ | exact Or.inr (Or.inl ⟨rfl, ⟨⟨by have a0 := oa6 i39x10b i30 ((inv_F hI 0 2 rfl e_109_0)) i78 ((in_c 1 rfl)) i55x1; have a6 := tx_i2l e34; have oc := oc_284_109; omega, by have a0 := oa6 i39x10b i30 ((inv_F hI 0 2 rfl e_109_0)) i78 ((in_c 1 rfl)) i55x1; have a6 := tx_i2l e34; have oc := oc_284_109; omega, by rw [← e55x16]; have a0 := oa6 i39x10b i30 ((inv_F hI 0 2 rfl e_109_0)) i78 ((in_c 1 rfl)) i55x1; have a6 := tx_i2l e34; have oc := oc_284_109; omega⟩, (by unfold GVL In; have a0 := oa6 i39x10b i30 ((inv_F hI 0 2 rfl e_109_0)) i78 ((in_c 1 rfl)) i55x1; have a6 := tx_i2l e34; have oc := oc_284_109; omega)⟩, (by rw [← e_109_9]; have a0 := oa6 i39x10b i30 ((inv_F hI 0 2 rfl e_109_0)) i78 ((in_c 1 rfl)) i55x1; have a6 := tx_i2l e34; have oc := oc_284_109; omega), (gvR_cg (L := ([], [], [(109, 0)], [])) (fr_sF rfl fr_rf) rfl)⟩)
                          have n93a : LGX s (sF s 109 0 (Int32.ofInt 1)) (Int32.ofInt 3) x1 x2 x3 (Int32.ofInt 0) (Int32.ofInt 0) (Int32.ofInt 0) := by exact Or.inl ⟨rfl, rfl, rfl, rfl, rfl, rfl, rfl, rfl⟩
                          have n93b : GSE s → GSE (sF s 109 0 (Int32.ofInt 1)) := by exact fun h => gse_fr (L := ([], [], [(109, 0)], [])) h (fr_sF rfl fr_rf) rfl
                          have n93c : G1S s (sF s 109 0 (Int32.ofInt 1)) := by exact ⟨rfl, fun _ _ => rfl, fun _ _ _ => ⟨rfl, rfl, rfl, rfl, rfl, rfl⟩⟩
                          exact g_ireturn (gd rfl) rfl rfl (hP _ _ ⟨(sF s 109 0 (Int32.ofInt 1)), hI86x18, (fr_sF rfl fr_rf), (Int32.ofInt 0), rfl, rfl, in_w (-1000000) 1000000 (in_c 0 rfl) rfl, n93, n93a, n93b, n93c⟩)
                · skip
                  exact zn_ne c58 (in_c 0 rfl) rfl
              · skip
                have i55x1 := z_ge 0 2147483647 c55x1 (i_rng x1) rfl
                refine g_iload_n 5 (gd rfl) rfl rfl ?_
                refine g_sipush 160 8 (gd rfl) rfl rfl ?_
                refine g_cmp_ge 11 24 (gd rfl) rfl rfl (fun c55x8 => ?_) (fun c55x8 => ?_)
                · skip
                  have i55x8 := r_le2 160 2147483647 c55x8 (in_c 160 rfl) i55x1 rfl
                  refine g_iconst 0 25 (gd rfl) rfl rfl ?_
                  refine g_ireturn (gd rfl) rfl (nb01 (in_w 0 1 (in_c 0 rfl) rfl)) (hp55 _ _ ?_)
                  show GG _ _ _ _ _ _ _ _ [.int (Int32.ofInt 0), .ref (A 109)] _ _ _
                  refine g_if_eq 61 70 (gd rfl) rfl rfl (fun c58 => ?_) (fun c58 => ?_)
                  · skip
                    refine g_iconst 0 71 (gd rfl) rfl rfl ?_
                    refine g_aload_n 72 (gd rfl) rfl rfl ?_
                    refine g_getI 75 (gd rfl) rfl rfl rfl (fun z72 e72 => ?_)
                    have q72 : u_109_9 = z72 := (e_109_9).trans e72.symm
                    subst q72
                    refine g_sipush 4000 78 (gd rfl) rfl rfl ?_
                    refine g_cmp_ge 81 85 (gd rfl) rfl rfl (fun c78 => ?_) (fun c78 => ?_)
                    · skip
                      have i78 := r_le2 4000 4000 c78 (in_c 4000 rfl) (inv_F hI 0 4000 rfl e_109_9) rfl
                      refine g_iconst 0 86 (gd rfl) rfl rfl ?_
                      refine g_callv (X := _) (As := [.int (Int32.ofInt 0), .int (Int32.ofInt 0)]) (r := []) (b := A 109) (q := 109) 89 (gd rfl) rfl rfl rfl rfl rfl (ww_o rfl) (Nat.le_of_ble_eq_true rfl) (mc := 0) (ms := 0) (Nat.zero_le _) (Nat.zero_le _) (P := fun v u => _) ?_ (fun e u h => h) (fun v u h => h)
                      intro po86 xx86 hp86 hx86
                      refine g_enter2 (k := 270) (N := 300) (by first | exact dq1 hd rfl | exact dq0 hd rfl | exact dq2 hd rfl | exact dq3 hd rfl | omega) rfl (Nat.le_of_ble_eq_true rfl) ?_
                      refine g_aload_n 1 (gd rfl) rfl rfl ?_
                      refine g_iload_n 2 (gd rfl) rfl rfl ?_
                      refine g_if_ne 5 9 (gd rfl) rfl rfl (fun c86x2 => ?_) (fun c86x2 => ?_)
                      · skip
                        exact zn_ne c86x2 (in_c 0 rfl) rfl
                      · skip
                        refine g_iconst 1 6 (gd rfl) rfl rfl ?_
                        refine g_goto 18 (gd rfl) rfl ?_
                        refine g_putI 21 (gd rfl) rfl rfl rfl rfl ?_
                        have hI86x18 := inv_sF (q := 109) (j := 0) hI rfl (in_w 0 2 (in_c 1 rfl) rfl)
                        refine g_aload_n 22 (gd rfl) rfl rfl ?_
                        refine g_getI 25 (gd rfl) rfl rfl rfl (fun z86x22 e86x22 => ?_)
                        have q86x22 : (Int32.ofInt 1) = z86x22 := (sF_get).trans e86x22.symm
                        subst q86x22
                        refine g_if_le 28 32 (gd rfl) rfl rfl (fun c86x25 => ?_) (fun c86x25 => ?_)
                        · skip
                          exact zn_le c86x25 (in_c 1 rfl) rfl
                        · skip
                          refine g_iconst 1 29 (gd rfl) rfl rfl ?_
                          refine g_goto 33 (gd rfl) rfl ?_
                          refine g_ireturn (gd rfl) rfl (nb01 (in_w 0 1 (in_c 1 rfl) rfl)) (hp86 _ _ ?_)
                          show GG _ _ _ _ _ _ _ _ [.int (Int32.ofInt 1)] _ _ _
                          refine g_if_eq 92 94 (gd rfl) rfl rfl (fun c89 => ?_) (fun c89 => ?_)
                          · skip
                            exact zn_eq c89 (in_c 1 rfl) rfl
                          · skip
                            refine g_iconst 0 93 (gd rfl) rfl rfl ?_
                            have n93 : CDR s (sF s 109 0 (Int32.ofInt 1)) (HAR s x1 ∧ GVL x2 x3) ((s.2.2.1 109 9).toInt ≤ 3999) (((Int32.ofInt 0)) = (if (x2).toInt = 0 then s.1 115 (x1).toNatClampNeg else if (x2).toInt = 1 then s.1 116 (x1).toNatClampNeg else s.1 117 (x1).toNatClampNeg) ∧ gvR (sF s 109 0 (Int32.ofInt 1)) = gqW (gvR s) (x1).toNatClampNeg x2 x3) := by first | exact Or.inl ⟨rfl, (by first | (unfold HAR GVL In; have a0 := oa6 i39x10b i30 ((inv_F hI 0 2 rfl e_109_0)) i78 ((in_c 1 rfl)) i55x8; have a6 := tx_i2l e34; have oc := oc_284_109; omega) | (unfold HAR GVL In; rw [← e55x16]; have a0 := oa6 i39x10b i30 ((inv_F hI 0 2 rfl e_109_0)) i78 ((in_c 1 rfl)) i55x8; have a6 := tx_i2l e34; have oc := oc_284_109; omega)), (gvR_cg (L := ([], [], [(109, 0)], [])) (fr_sF rfl fr_rf) rfl)⟩ | exact Or.inr (Or.inl ⟨rfl, ⟨⟨by have a0 := oa6 i39x10b i30 ((inv_F hI 0 2 rfl e_109_0)) i78 ((in_c 1 rfl)) i55x8; have a6 := tx_i2l e34; have oc := oc_284_109; omega, by have a0 := oa6 i39x10b i30 ((inv_F hI 0 2 rfl e_109_0)) i78 ((in_c 1 rfl)) i55x8; have a6 := tx_i2l e34; have oc := oc_284_109; omega, by rw [← e55x16]; have a0 := oa6 i39x10b i30 ((inv_F hI 0 2 rfl e_109_0)) i78 ((in_c 1 rfl)) i55x8; have a6 := tx_i2l e34; have oc := oc_284_109; omega⟩, (by unfold GVL In; have a0 := oa6 i39x10b i30 ((inv_F hI 0 2 rfl e_109_0)) i78 ((in_c 1 rfl)) i55x8; have a6 := tx_i2l e34; have oc := oc_284_109; omega)⟩, (by rw [← e_109_9]; have a0 := oa6 i39x10b i30 ((inv_F hI 0 2 rfl e_109_0)) i78 ((in_c 1 rfl)) i55x8; have a6 := tx_i2l e34; have oc := oc_284_109; omega), (gvR_cg (L := ([], [], [(109, 0)], [])) (fr_sF rfl fr_rf) rfl)⟩)
                            have n93a : LGX s (sF s 109 0 (Int32.ofInt 1)) (Int32.ofInt 3) x1 x2 x3 (Int32.ofInt 0) (Int32.ofInt 0) (Int32.ofInt 0) := by exact Or.inl ⟨rfl, rfl, rfl, rfl, rfl, rfl, rfl, rfl⟩
                            have n93b : GSE s → GSE (sF s 109 0 (Int32.ofInt 1)) := by exact fun h => gse_fr (L := ([], [], [(109, 0)], [])) h (fr_sF rfl fr_rf) rfl
                            have n93c : G1S s (sF s 109 0 (Int32.ofInt 1)) := by exact ⟨rfl, fun _ _ => rfl, fun _ _ _ => ⟨rfl, rfl, rfl, rfl, rfl, rfl⟩⟩
                            exact g_ireturn (gd rfl) rfl rfl (hP _ _ ⟨(sF s 109 0 (Int32.ofInt 1)), hI86x18, (fr_sF rfl fr_rf), (Int32.ofInt 0), rfl, rfl, in_w (-1000000) 1000000 (in_c 0 rfl) rfl, n93, n93a, n93b, n93c⟩)
                    · skip
                      have i78 := r_lt1 0 3999 c78 (inv_F hI 0 4000 rfl e_109_9) (in_c 4000 rfl) rfl
                      refine g_iconst 1 82 (gd rfl) rfl rfl ?_
                      refine g_goto 86 (gd rfl) rfl ?_
                      refine g_callv (X := _) (As := [.int (Int32.ofInt 0), .int (Int32.ofInt 1)]) (r := []) (b := A 109) (q := 109) 89 (gd rfl) rfl rfl rfl rfl rfl (ww_o rfl) (Nat.le_of_ble_eq_true rfl) (mc := 0) (ms := 0) (Nat.zero_le _) (Nat.zero_le _) (P := fun v u => _) ?_ (fun e u h => h) (fun v u h => h)
                      intro po86 xx86 hp86 hx86
                      refine g_enter2 (k := 270) (N := 300) (by first | exact dq1 hd rfl | exact dq0 hd rfl | exact dq2 hd rfl | exact dq3 hd rfl | omega) rfl (Nat.le_of_ble_eq_true rfl) ?_
                      refine g_aload_n 1 (gd rfl) rfl rfl ?_
                      refine g_iload_n 2 (gd rfl) rfl rfl ?_
                      refine g_if_ne 5 9 (gd rfl) rfl rfl (fun c86x2 => ?_) (fun c86x2 => ?_)
                      · skip
                        exact zn_ne c86x2 (in_c 0 rfl) rfl
                      · skip
                        refine g_iconst 1 6 (gd rfl) rfl rfl ?_
                        refine g_goto 18 (gd rfl) rfl ?_
                        refine g_putI 21 (gd rfl) rfl rfl rfl rfl ?_
                        have hI86x18 := inv_sF (q := 109) (j := 0) hI rfl (in_w 0 2 (in_c 1 rfl) rfl)
                        refine g_aload_n 22 (gd rfl) rfl rfl ?_
                        refine g_getI 25 (gd rfl) rfl rfl rfl (fun z86x22 e86x22 => ?_)
                        have q86x22 : (Int32.ofInt 1) = z86x22 := (sF_get).trans e86x22.symm
                        subst q86x22
                        refine g_if_le 28 32 (gd rfl) rfl rfl (fun c86x25 => ?_) (fun c86x25 => ?_)
                        · skip
                          exact zn_le c86x25 (in_c 1 rfl) rfl
                        · skip
                          refine g_iconst 1 29 (gd rfl) rfl rfl ?_
                          refine g_goto 33 (gd rfl) rfl ?_
                          refine g_ireturn (gd rfl) rfl (nb01 (in_w 0 1 (in_c 1 rfl) rfl)) (hp86 _ _ ?_)
                          show GG _ _ _ _ _ _ _ _ [.int (Int32.ofInt 1)] _ _ _
                          refine g_if_eq 92 94 (gd rfl) rfl rfl (fun c89 => ?_) (fun c89 => ?_)
                          · skip
                            exact zn_eq c89 (in_c 1 rfl) rfl
                          · skip
                            refine g_iconst 0 93 (gd rfl) rfl rfl ?_
                            have n93 : CDR s (sF s 109 0 (Int32.ofInt 1)) (HAR s x1 ∧ GVL x2 x3) ((s.2.2.1 109 9).toInt ≤ 3999) (((Int32.ofInt 0)) = (if (x2).toInt = 0 then s.1 115 (x1).toNatClampNeg else if (x2).toInt = 1 then s.1 116 (x1).toNatClampNeg else s.1 117 (x1).toNatClampNeg) ∧ gvR (sF s 109 0 (Int32.ofInt 1)) = gqW (gvR s) (x1).toNatClampNeg x2 x3) := by first | exact Or.inl ⟨rfl, (by first | (unfold HAR GVL In; have a0 := oa6 i39x10b i30 ((inv_F hI 0 2 rfl e_109_0)) i78 ((in_c 1 rfl)) i55x8; have a6 := tx_i2l e34; have oc := oc_284_109; omega) | (unfold HAR GVL In; rw [← e55x16]; have a0 := oa6 i39x10b i30 ((inv_F hI 0 2 rfl e_109_0)) i78 ((in_c 1 rfl)) i55x8; have a6 := tx_i2l e34; have oc := oc_284_109; omega)), (gvR_cg (L := ([], [], [(109, 0)], [])) (fr_sF rfl fr_rf) rfl)⟩ | exact Or.inr (Or.inl ⟨rfl, ⟨⟨by have a0 := oa6 i39x10b i30 ((inv_F hI 0 2 rfl e_109_0)) i78 ((in_c 1 rfl)) i55x8; have a6 := tx_i2l e34; have oc := oc_284_109; omega, by have a0 := oa6 i39x10b i30 ((inv_F hI 0 2 rfl e_109_0)) i78 ((in_c 1 rfl)) i55x8; have a6 := tx_i2l e34; have oc := oc_284_109; omega, by rw [← e55x16]; have a0 := oa6 i39x10b i30 ((inv_F hI 0 2 rfl e_109_0)) i78 ((in_c 1 rfl)) i55x8; have a6 := tx_i2l e34; have oc := oc_284_109; omega⟩, (by unfold GVL In; have a0 := oa6 i39x10b i30 ((inv_F hI 0 2 rfl e_109_0)) i78 ((in_c 1 rfl)) i55x8; have a6 := tx_i2l e34; have oc := oc_284_109; omega)⟩, (by rw [← e_109_9]; have a0 := oa6 i39x10b i30 ((inv_F hI 0 2 rfl e_109_0)) i78 ((in_c 1 rfl)) i55x8; have a6 := tx_i2l e34; have oc := oc_284_109; omega), (gvR_cg (L := ([], [], [(109, 0)], [])) (fr_sF rfl fr_rf) rfl)⟩)
                            have n93a : LGX s (sF s 109 0 (Int32.ofInt 1)) (Int32.ofInt 3) x1 x2 x3 (Int32.ofInt 0) (Int32.ofInt 0) (Int32.ofInt 0) := by exact Or.inl ⟨rfl, rfl, rfl, rfl, rfl, rfl, rfl, rfl⟩
                            have n93b : GSE s → GSE (sF s 109 0 (Int32.ofInt 1)) := by exact fun h => gse_fr (L := ([], [], [(109, 0)], [])) h (fr_sF rfl fr_rf) rfl
                            have n93c : G1S s (sF s 109 0 (Int32.ofInt 1)) := by exact ⟨rfl, fun _ _ => rfl, fun _ _ _ => ⟨rfl, rfl, rfl, rfl, rfl, rfl⟩⟩
                            exact g_ireturn (gd rfl) rfl rfl (hP _ _ ⟨(sF s 109 0 (Int32.ofInt 1)), hI86x18, (fr_sF rfl fr_rf), (Int32.ofInt 0), rfl, rfl, in_w (-1000000) 1000000 (in_c 0 rfl) rfl, n93, n93a, n93b, n93c⟩)
                  · skip
                    exact zn_ne c58 (in_c 0 rfl) rfl
                · skip
                  have i55x8 := r_lt1 0 159 c55x8 i55x1 (in_c 160 rfl) rfl
                  refine g_aload_n 12 (gd rfl) rfl rfl ?_
                  refine g_getA (q2 := 112) 15 (gd rfl) rfl rfl rfl rfl ?_
                  refine g_iload_n 16 (gd rfl) rfl rfl ?_
                  refine g_baload 17 (gd rfl) rfl (n := 480) rfl (in_ix i55x8 rfl) (fun z55x16 e55x16 => ?_)
                  have i55x16 := inv_I hI (n := 480) (t := 3) 0 1 rfl (in_ix i55x8 rfl) rfl e55x16
                  refine g_if_eq 20 24 (gd rfl) rfl rfl (fun c55x17 => ?_) (fun c55x17 => ?_)
                  · skip
                    have i55x17 := z_eq 0 0 c55x17 i55x16 rfl
                    refine g_iconst 0 25 (gd rfl) rfl rfl ?_
                    refine g_ireturn (gd rfl) rfl (nb01 (in_w 0 1 (in_c 0 rfl) rfl)) (hp55 _ _ ?_)
                    show GG _ _ _ _ _ _ _ _ [.int (Int32.ofInt 0), .ref (A 109)] _ _ _
                    refine g_if_eq 61 70 (gd rfl) rfl rfl (fun c58 => ?_) (fun c58 => ?_)
                    · skip
                      refine g_iconst 0 71 (gd rfl) rfl rfl ?_
                      refine g_aload_n 72 (gd rfl) rfl rfl ?_
                      refine g_getI 75 (gd rfl) rfl rfl rfl (fun z72 e72 => ?_)
                      have q72 : u_109_9 = z72 := (e_109_9).trans e72.symm
                      subst q72
                      refine g_sipush 4000 78 (gd rfl) rfl rfl ?_
                      refine g_cmp_ge 81 85 (gd rfl) rfl rfl (fun c78 => ?_) (fun c78 => ?_)
                      · skip
                        have i78 := r_le2 4000 4000 c78 (in_c 4000 rfl) (inv_F hI 0 4000 rfl e_109_9) rfl
                        refine g_iconst 0 86 (gd rfl) rfl rfl ?_
                        refine g_callv (X := _) (As := [.int (Int32.ofInt 0), .int (Int32.ofInt 0)]) (r := []) (b := A 109) (q := 109) 89 (gd rfl) rfl rfl rfl rfl rfl (ww_o rfl) (Nat.le_of_ble_eq_true rfl) (mc := 0) (ms := 0) (Nat.zero_le _) (Nat.zero_le _) (P := fun v u => _) ?_ (fun e u h => h) (fun v u h => h)
                        intro po86 xx86 hp86 hx86
                        refine g_enter2 (k := 270) (N := 300) (by first | exact dq1 hd rfl | exact dq0 hd rfl | exact dq2 hd rfl | exact dq3 hd rfl | omega) rfl (Nat.le_of_ble_eq_true rfl) ?_
                        refine g_aload_n 1 (gd rfl) rfl rfl ?_
                        refine g_iload_n 2 (gd rfl) rfl rfl ?_
                        refine g_if_ne 5 9 (gd rfl) rfl rfl (fun c86x2 => ?_) (fun c86x2 => ?_)
                        · skip
                          exact zn_ne c86x2 (in_c 0 rfl) rfl
                        · skip
                          refine g_iconst 1 6 (gd rfl) rfl rfl ?_
                          refine g_goto 18 (gd rfl) rfl ?_
                          refine g_putI 21 (gd rfl) rfl rfl rfl rfl ?_
                          have hI86x18 := inv_sF (q := 109) (j := 0) hI rfl (in_w 0 2 (in_c 1 rfl) rfl)
                          refine g_aload_n 22 (gd rfl) rfl rfl ?_
                          refine g_getI 25 (gd rfl) rfl rfl rfl (fun z86x22 e86x22 => ?_)
                          have q86x22 : (Int32.ofInt 1) = z86x22 := (sF_get).trans e86x22.symm
                          subst q86x22
                          refine g_if_le 28 32 (gd rfl) rfl rfl (fun c86x25 => ?_) (fun c86x25 => ?_)
                          · skip
                            exact zn_le c86x25 (in_c 1 rfl) rfl
                          · skip
                            refine g_iconst 1 29 (gd rfl) rfl rfl ?_
                            refine g_goto 33 (gd rfl) rfl ?_
                            refine g_ireturn (gd rfl) rfl (nb01 (in_w 0 1 (in_c 1 rfl) rfl)) (hp86 _ _ ?_)
                            show GG _ _ _ _ _ _ _ _ [.int (Int32.ofInt 1)] _ _ _
                            refine g_if_eq 92 94 (gd rfl) rfl rfl (fun c89 => ?_) (fun c89 => ?_)
                            · skip
                              exact zn_eq c89 (in_c 1 rfl) rfl
                            · skip
                              refine g_iconst 0 93 (gd rfl) rfl rfl ?_
                              have n93 : CDR s (sF s 109 0 (Int32.ofInt 1)) (HAR s x1 ∧ GVL x2 x3) ((s.2.2.1 109 9).toInt ≤ 3999) (((Int32.ofInt 0)) = (if (x2).toInt = 0 then s.1 115 (x1).toNatClampNeg else if (x2).toInt = 1 then s.1 116 (x1).toNatClampNeg else s.1 117 (x1).toNatClampNeg) ∧ gvR (sF s 109 0 (Int32.ofInt 1)) = gqW (gvR s) (x1).toNatClampNeg x2 x3) := by first | exact Or.inl ⟨rfl, (by first | (unfold HAR GVL In; have a0 := oa6 i55x8 i39x10b i30 ((inv_F hI 0 2 rfl e_109_0)) i78 ((in_c 1 rfl)); have a6 := tx_i2l e34; have oc := oc_284_109; omega) | (unfold HAR GVL In; rw [← e55x16]; have a0 := oa6 i55x8 i39x10b i30 ((inv_F hI 0 2 rfl e_109_0)) i78 ((in_c 1 rfl)); have a6 := tx_i2l e34; have oc := oc_284_109; omega)), (gvR_cg (L := ([], [], [(109, 0)], [])) (fr_sF rfl fr_rf) rfl)⟩ | exact Or.inr (Or.inl ⟨rfl, ⟨⟨by have a0 := oa6 i55x8 i39x10b i30 ((inv_F hI 0 2 rfl e_109_0)) i78 ((in_c 1 rfl)); have a6 := tx_i2l e34; have oc := oc_284_109; omega, by have a0 := oa6 i55x8 i39x10b i30 ((inv_F hI 0 2 rfl e_109_0)) i78 ((in_c 1 rfl)); have a6 := tx_i2l e34; have oc := oc_284_109; omega, by rw [← e55x16]; have a0 := oa6 i55x8 i39x10b i30 ((inv_F hI 0 2 rfl e_109_0)) i78 ((in_c 1 rfl)); have a6 := tx_i2l e34; have oc := oc_284_109; omega⟩, (by unfold GVL In; have a0 := oa6 i55x8 i39x10b i30 ((inv_F hI 0 2 rfl e_109_0)) i78 ((in_c 1 rfl)); have a6 := tx_i2l e34; have oc := oc_284_109; omega)⟩, (by rw [← e_109_9]; have a0 := oa6 i55x8 i39x10b i30 ((inv_F hI 0 2 rfl e_109_0)) i78 ((in_c 1 rfl)); have a6 := tx_i2l e34; have oc := oc_284_109; omega), (gvR_cg (L := ([], [], [(109, 0)], [])) (fr_sF rfl fr_rf) rfl)⟩)
                              have n93a : LGX s (sF s 109 0 (Int32.ofInt 1)) (Int32.ofInt 3) x1 x2 x3 (Int32.ofInt 0) (Int32.ofInt 0) (Int32.ofInt 0) := by exact Or.inl ⟨rfl, rfl, rfl, rfl, rfl, rfl, rfl, rfl⟩
                              have n93b : GSE s → GSE (sF s 109 0 (Int32.ofInt 1)) := by exact fun h => gse_fr (L := ([], [], [(109, 0)], [])) h (fr_sF rfl fr_rf) rfl
                              have n93c : G1S s (sF s 109 0 (Int32.ofInt 1)) := by exact ⟨rfl, fun _ _ => rfl, fun _ _ _ => ⟨rfl, rfl, rfl, rfl, rfl, rfl⟩⟩
                              exact g_ireturn (gd rfl) rfl rfl (hP _ _ ⟨(sF s 109 0 (Int32.ofInt 1)), hI86x18, (fr_sF rfl fr_rf), (Int32.ofInt 0), rfl, rfl, in_w (-1000000) 1000000 (in_c 0 rfl) rfl, n93, n93a, n93b, n93c⟩)
                      · skip
                        have i78 := r_lt1 0 3999 c78 (inv_F hI 0 4000 rfl e_109_9) (in_c 4000 rfl) rfl
                        refine g_iconst 1 82 (gd rfl) rfl rfl ?_
                        refine g_goto 86 (gd rfl) rfl ?_
                        refine g_callv (X := _) (As := [.int (Int32.ofInt 0), .int (Int32.ofInt 1)]) (r := []) (b := A 109) (q := 109) 89 (gd rfl) rfl rfl rfl rfl rfl (ww_o rfl) (Nat.le_of_ble_eq_true rfl) (mc := 0) (ms := 0) (Nat.zero_le _) (Nat.zero_le _) (P := fun v u => _) ?_ (fun e u h => h) (fun v u h => h)
                        intro po86 xx86 hp86 hx86
                        refine g_enter2 (k := 270) (N := 300) (by first | exact dq1 hd rfl | exact dq0 hd rfl | exact dq2 hd rfl | exact dq3 hd rfl | omega) rfl (Nat.le_of_ble_eq_true rfl) ?_
                        refine g_aload_n 1 (gd rfl) rfl rfl ?_
                        refine g_iload_n 2 (gd rfl) rfl rfl ?_
                        refine g_if_ne 5 9 (gd rfl) rfl rfl (fun c86x2 => ?_) (fun c86x2 => ?_)
                        · skip
                          exact zn_ne c86x2 (in_c 0 rfl) rfl
                        · skip
                          refine g_iconst 1 6 (gd rfl) rfl rfl ?_
                          refine g_goto 18 (gd rfl) rfl ?_
                          refine g_putI 21 (gd rfl) rfl rfl rfl rfl ?_
                          have hI86x18 := inv_sF (q := 109) (j := 0) hI rfl (in_w 0 2 (in_c 1 rfl) rfl)
                          refine g_aload_n 22 (gd rfl) rfl rfl ?_
                          refine g_getI 25 (gd rfl) rfl rfl rfl (fun z86x22 e86x22 => ?_)
                          have q86x22 : (Int32.ofInt 1) = z86x22 := (sF_get).trans e86x22.symm
                          subst q86x22
                          refine g_if_le 28 32 (gd rfl) rfl rfl (fun c86x25 => ?_) (fun c86x25 => ?_)
                          · skip
                            exact zn_le c86x25 (in_c 1 rfl) rfl
                          · skip
                            refine g_iconst 1 29 (gd rfl) rfl rfl ?_
                            refine g_goto 33 (gd rfl) rfl ?_
                            refine g_ireturn (gd rfl) rfl (nb01 (in_w 0 1 (in_c 1 rfl) rfl)) (hp86 _ _ ?_)
                            show GG _ _ _ _ _ _ _ _ [.int (Int32.ofInt 1)] _ _ _
                            refine g_if_eq 92 94 (gd rfl) rfl rfl (fun c89 => ?_) (fun c89 => ?_)
                            · skip
                              exact zn_eq c89 (in_c 1 rfl) rfl
                            · skip
                              refine g_iconst 0 93 (gd rfl) rfl rfl ?_
                              have n93 : CDR s (sF s 109 0 (Int32.ofInt 1)) (HAR s x1 ∧ GVL x2 x3) ((s.2.2.1 109 9).toInt ≤ 3999) (((Int32.ofInt 0)) = (if (x2).toInt = 0 then s.1 115 (x1).toNatClampNeg else if (x2).toInt = 1 then s.1 116 (x1).toNatClampNeg else s.1 117 (x1).toNatClampNeg) ∧ gvR (sF s 109 0 (Int32.ofInt 1)) = gqW (gvR s) (x1).toNatClampNeg x2 x3) := by first | exact Or.inl ⟨rfl, (by first | (unfold HAR GVL In; have a0 := oa6 i55x8 i39x10b i30 ((inv_F hI 0 2 rfl e_109_0)) i78 ((in_c 1 rfl)); have a6 := tx_i2l e34; have oc := oc_284_109; omega) | (unfold HAR GVL In; rw [← e55x16]; have a0 := oa6 i55x8 i39x10b i30 ((inv_F hI 0 2 rfl e_109_0)) i78 ((in_c 1 rfl)); have a6 := tx_i2l e34; have oc := oc_284_109; omega)), (gvR_cg (L := ([], [], [(109, 0)], [])) (fr_sF rfl fr_rf) rfl)⟩ | exact Or.inr (Or.inl ⟨rfl, ⟨⟨by have a0 := oa6 i55x8 i39x10b i30 ((inv_F hI 0 2 rfl e_109_0)) i78 ((in_c 1 rfl)); have a6 := tx_i2l e34; have oc := oc_284_109; omega, by have a0 := oa6 i55x8 i39x10b i30 ((inv_F hI 0 2 rfl e_109_0)) i78 ((in_c 1 rfl)); have a6 := tx_i2l e34; have oc := oc_284_109; omega, by rw [← e55x16]; have a0 := oa6 i55x8 i39x10b i30 ((inv_F hI 0 2 rfl e_109_0)) i78 ((in_c 1 rfl)); have a6 := tx_i2l e34; have oc := oc_284_109; omega⟩, (by unfold GVL In; have a0 := oa6 i55x8 i39x10b i30 ((inv_F hI 0 2 rfl e_109_0)) i78 ((in_c 1 rfl)); have a6 := tx_i2l e34; have oc := oc_284_109; omega)⟩, (by rw [← e_109_9]; have a0 := oa6 i55x8 i39x10b i30 ((inv_F hI 0 2 rfl e_109_0)) i78 ((in_c 1 rfl)); have a6 := tx_i2l e34; have oc := oc_284_109; omega), (gvR_cg (L := ([], [], [(109, 0)], [])) (fr_sF rfl fr_rf) rfl)⟩)
                              have n93a : LGX s (sF s 109 0 (Int32.ofInt 1)) (Int32.ofInt 3) x1 x2 x3 (Int32.ofInt 0) (Int32.ofInt 0) (Int32.ofInt 0) := by exact Or.inl ⟨rfl, rfl, rfl, rfl, rfl, rfl, rfl, rfl⟩
                              have n93b : GSE s → GSE (sF s 109 0 (Int32.ofInt 1)) := by exact fun h => gse_fr (L := ([], [], [(109, 0)], [])) h (fr_sF rfl fr_rf) rfl
                              have n93c : G1S s (sF s 109 0 (Int32.ofInt 1)) := by exact ⟨rfl, fun _ _ => rfl, fun _ _ _ => ⟨rfl, rfl, rfl, rfl, rfl, rfl⟩⟩
                              exact g_ireturn (gd rfl) rfl rfl (hP _ _ ⟨(sF s 109 0 (Int32.ofInt 1)), hI86x18, (fr_sF rfl fr_rf), (Int32.ofInt 0), rfl, rfl, in_w (-1000000) 1000000 (in_c 0 rfl) rfl, n93, n93a, n93b, n93c⟩)
                    · skip
                      exact zn_ne c58 (in_c 0 rfl) rfl
                  · skip
                    have i55x17 := z_ne 1 1 c55x17 i55x16 rfl
                    refine g_iconst 1 21 (gd rfl) rfl rfl ?_
                    refine g_goto 25 (gd rfl) rfl ?_
                    refine g_ireturn (gd rfl) rfl (nb01 (in_w 0 1 (in_c 1 rfl) rfl)) (hp55 _ _ ?_)
                    show GG _ _ _ _ _ _ _ _ [.int (Int32.ofInt 1), .ref (A 109)] _ _ _
                    refine g_if_eq 61 70 (gd rfl) rfl rfl (fun c58 => ?_) (fun c58 => ?_)
                    · skip
                      exact zn_eq c58 (in_c 1 rfl) rfl
                    · skip
                      refine g_iload 63 (gd rfl) rfl rfl ?_
                      refine g_if_eq 66 70 (gd rfl) rfl rfl (fun c63 => ?_) (fun c63 => ?_)
                      · skip
                        exact zn_eq c63 (in_c 1 rfl) rfl
                      · skip
                        refine g_iconst 1 67 (gd rfl) rfl rfl ?_
                        refine g_goto 71 (gd rfl) rfl ?_
                        refine g_aload_n 72 (gd rfl) rfl rfl ?_
                        refine g_getI 75 (gd rfl) rfl rfl rfl (fun z72 e72 => ?_)
                        have q72 : u_109_9 = z72 := (e_109_9).trans e72.symm
                        subst q72
                        refine g_sipush 4000 78 (gd rfl) rfl rfl ?_
                        refine g_cmp_ge 81 85 (gd rfl) rfl rfl (fun c78 => ?_) (fun c78 => ?_)
                        · skip
                          have i78 := r_le2 4000 4000 c78 (in_c 4000 rfl) (inv_F hI 0 4000 rfl e_109_9) rfl
                          refine g_iconst 0 86 (gd rfl) rfl rfl ?_
                          refine g_callv (X := _) (As := [.int (Int32.ofInt 1), .int (Int32.ofInt 0)]) (r := []) (b := A 109) (q := 109) 89 (gd rfl) rfl rfl rfl rfl rfl (ww_o rfl) (Nat.le_of_ble_eq_true rfl) (mc := 0) (ms := 0) (Nat.zero_le _) (Nat.zero_le _) (P := fun v u => _) ?_ (fun e u h => h) (fun v u h => h)
                          intro po86 xx86 hp86 hx86
                          refine g_enter2 (k := 270) (N := 300) (by first | exact dq1 hd rfl | exact dq0 hd rfl | exact dq2 hd rfl | exact dq3 hd rfl | omega) rfl (Nat.le_of_ble_eq_true rfl) ?_
                          refine g_aload_n 1 (gd rfl) rfl rfl ?_
                          refine g_iload_n 2 (gd rfl) rfl rfl ?_
                          refine g_if_ne 5 9 (gd rfl) rfl rfl (fun c86x2 => ?_) (fun c86x2 => ?_)
                          · skip
                            refine g_iload_n 10 (gd rfl) rfl rfl ?_
                            refine g_if_ne 13 17 (gd rfl) rfl rfl (fun c86x10 => ?_) (fun c86x10 => ?_)
                            · skip
                              exact zn_ne c86x10 (in_c 0 rfl) rfl
                            · skip
                              refine g_iconst 2 14 (gd rfl) rfl rfl ?_
                              refine g_goto 18 (gd rfl) rfl ?_
                              refine g_putI 21 (gd rfl) rfl rfl rfl rfl ?_
                              have hI86x18 := inv_sF (q := 109) (j := 0) hI rfl (in_w 0 2 (in_c 2 rfl) rfl)
                              refine g_aload_n 22 (gd rfl) rfl rfl ?_
                              refine g_getI 25 (gd rfl) rfl rfl rfl (fun z86x22 e86x22 => ?_)
                              have q86x22 : (Int32.ofInt 2) = z86x22 := (sF_get).trans e86x22.symm
                              subst q86x22
                              refine g_if_le 28 32 (gd rfl) rfl rfl (fun c86x25 => ?_) (fun c86x25 => ?_)
                              · skip
                                exact zn_le c86x25 (in_c 2 rfl) rfl
                              · skip
                                refine g_iconst 1 29 (gd rfl) rfl rfl ?_
                                refine g_goto 33 (gd rfl) rfl ?_
                                refine g_ireturn (gd rfl) rfl (nb01 (in_w 0 1 (in_c 1 rfl) rfl)) (hp86 _ _ ?_)
                                show GG _ _ _ _ _ _ _ _ [.int (Int32.ofInt 1)] _ _ _
                                refine g_if_eq 92 94 (gd rfl) rfl rfl (fun c89 => ?_) (fun c89 => ?_)
                                · skip
                                  exact zn_eq c89 (in_c 1 rfl) rfl
                                · skip
                                  refine g_iconst 0 93 (gd rfl) rfl rfl ?_
                                  have n93 : CDR s (sF s 109 0 (Int32.ofInt 2)) (HAR s x1 ∧ GVL x2 x3) ((s.2.2.1 109 9).toInt ≤ 3999) (((Int32.ofInt 0)) = (if (x2).toInt = 0 then s.1 115 (x1).toNatClampNeg else if (x2).toInt = 1 then s.1 116 (x1).toNatClampNeg else s.1 117 (x1).toNatClampNeg) ∧ gvR (sF s 109 0 (Int32.ofInt 2)) = gqW (gvR s) (x1).toNatClampNeg x2 x3) := by first | exact Or.inl ⟨rfl, (by first | (unfold HAR GVL In; have a0 := oa7 i55x8 i39x10b i30 ((inv_F hI 0 2 rfl e_109_0)) i78 ((in_c 1 rfl)) ((in_c 2 rfl)); have a7 := tx_i2l e34; have oc := oc_284_109; omega) | (unfold HAR GVL In; rw [← e55x16]; have a0 := oa7 i55x8 i39x10b i30 ((inv_F hI 0 2 rfl e_109_0)) i78 ((in_c 1 rfl)) ((in_c 2 rfl)); have a7 := tx_i2l e34; have oc := oc_284_109; omega)), (gvR_cg (L := ([], [], [(109, 0)], [])) (fr_sF rfl fr_rf) rfl)⟩ | exact Or.inr (Or.inl ⟨rfl, ⟨⟨by have a0 := oa7 i55x8 i39x10b i30 ((inv_F hI 0 2 rfl e_109_0)) i78 ((in_c 1 rfl)) ((in_c 2 rfl)); have a7 := tx_i2l e34; have oc := oc_284_109; omega, by have a0 := oa7 i55x8 i39x10b i30 ((inv_F hI 0 2 rfl e_109_0)) i78 ((in_c 1 rfl)) ((in_c 2 rfl)); have a7 := tx_i2l e34; have oc := oc_284_109; omega, by rw [← e55x16]; have a0 := oa7 i55x8 i39x10b i30 ((inv_F hI 0 2 rfl e_109_0)) i78 ((in_c 1 rfl)) ((in_c 2 rfl)); have a7 := tx_i2l e34; have oc := oc_284_109; omega⟩, (by unfold GVL In; have a0 := oa7 i55x8 i39x10b i30 ((inv_F hI 0 2 rfl e_109_0)) i78 ((in_c 1 rfl)) ((in_c 2 rfl)); have a7 := tx_i2l e34; have oc := oc_284_109; omega)⟩, (by rw [← e_109_9]; have a0 := oa7 i55x8 i39x10b i30 ((inv_F hI 0 2 rfl e_109_0)) i78 ((in_c 1 rfl)) ((in_c 2 rfl)); have a7 := tx_i2l e34; have oc := oc_284_109; omega), (gvR_cg (L := ([], [], [(109, 0)], [])) (fr_sF rfl fr_rf) rfl)⟩)
                                  have n93a : LGX s (sF s 109 0 (Int32.ofInt 2)) (Int32.ofInt 3) x1 x2 x3 (Int32.ofInt 0) (Int32.ofInt 0) (Int32.ofInt 0) := by exact Or.inl ⟨rfl, rfl, rfl, rfl, rfl, rfl, rfl, rfl⟩
                                  have n93b : GSE s → GSE (sF s 109 0 (Int32.ofInt 2)) := by exact fun h => gse_fr (L := ([], [], [(109, 0)], [])) h (fr_sF rfl fr_rf) rfl
                                  have n93c : G1S s (sF s 109 0 (Int32.ofInt 2)) := by exact ⟨rfl, fun _ _ => rfl, fun _ _ _ => ⟨rfl, rfl, rfl, rfl, rfl, rfl⟩⟩
                                  exact g_ireturn (gd rfl) rfl rfl (hP _ _ ⟨(sF s 109 0 (Int32.ofInt 2)), hI86x18, (fr_sF rfl fr_rf), (Int32.ofInt 0), rfl, rfl, in_w (-1000000) 1000000 (in_c 0 rfl) rfl, n93, n93a, n93b, n93c⟩)
                          · skip
                            exact zn_eq c86x2 (in_c 1 rfl) rfl
                        · skip
                          have i78 := r_lt1 0 3999 c78 (inv_F hI 0 4000 rfl e_109_9) (in_c 4000 rfl) rfl
                          refine g_iconst 1 82 (gd rfl) rfl rfl ?_
                          refine g_goto 86 (gd rfl) rfl ?_
                          refine g_callv (X := _) (As := [.int (Int32.ofInt 1), .int (Int32.ofInt 1)]) (r := []) (b := A 109) (q := 109) 89 (gd rfl) rfl rfl rfl rfl rfl (ww_o rfl) (Nat.le_of_ble_eq_true rfl) (mc := 0) (ms := 0) (Nat.zero_le _) (Nat.zero_le _) (P := fun v u => _) ?_ (fun e u h => h) (fun v u h => h)
                          intro po86 xx86 hp86 hx86
                          refine g_enter2 (k := 270) (N := 300) (by first | exact dq1 hd rfl | exact dq0 hd rfl | exact dq2 hd rfl | exact dq3 hd rfl | omega) rfl (Nat.le_of_ble_eq_true rfl) ?_
                          refine g_aload_n 1 (gd rfl) rfl rfl ?_
                          refine g_iload_n 2 (gd rfl) rfl rfl ?_
                          refine g_if_ne 5 9 (gd rfl) rfl rfl (fun c86x2 => ?_) (fun c86x2 => ?_)
                          · skip
                            refine g_iload_n 10 (gd rfl) rfl rfl ?_
                            refine g_if_ne 13 17 (gd rfl) rfl rfl (fun c86x10 => ?_) (fun c86x10 => ?_)
                            · skip
                              refine g_iconst 0 18 (gd rfl) rfl rfl ?_
                              refine g_putI 21 (gd rfl) rfl rfl rfl rfl ?_
                              have hI86x18 := inv_sF (q := 109) (j := 0) hI rfl (in_w 0 2 (in_c 0 rfl) rfl)
                              refine g_aload_n 22 (gd rfl) rfl rfl ?_
                              refine g_getI 25 (gd rfl) rfl rfl rfl (fun z86x22 e86x22 => ?_)
                              have q86x22 : (Int32.ofInt 0) = z86x22 := (sF_get).trans e86x22.symm
                              subst q86x22
                              refine g_if_le 28 32 (gd rfl) rfl rfl (fun c86x25 => ?_) (fun c86x25 => ?_)
                              · skip
                                refine g_iconst 0 33 (gd rfl) rfl rfl ?_
                                refine g_ireturn (gd rfl) rfl (nb01 (in_w 0 1 (in_c 0 rfl) rfl)) (hp86 _ _ ?_)
                                show GG _ _ _ _ _ _ _ _ [.int (Int32.ofInt 0)] _ _ _
                                refine g_if_eq 92 94 (gd rfl) rfl rfl (fun c89 => ?_) (fun c89 => ?_)
                                · skip
                                  refine g_iload_n 95 (gd rfl) rfl rfl ?_
                                  refine g_if_ne 98 107 (gd rfl) rfl rfl (fun c95 => ?_) (fun c95 => ?_)
                                  · skip
                                    refine g_iload_n 108 (gd rfl) rfl rfl ?_
                                    refine g_iconst 1 109 (gd rfl) rfl rfl ?_
                                    refine g_cmp_ne 112 121 (gd rfl) rfl rfl (fun c109 => ?_) (fun c109 => ?_)
                                    · skip
                                      refine g_aload_n 122 (gd rfl) rfl rfl ?_
                                      refine g_getA (q2 := 117) 125 (gd rfl) rfl rfl rfl rfl ?_
                                      refine g_iload_n 126 (gd rfl) rfl rfl ?_
                                      refine g_iaload 127 (gd rfl) rfl (n := 480) rfl (in_ix i55x8 rfl) (fun z126 e126 => ?_)
                                      have i126 := inv_I hI86x18 (n := 480) (t := 0) 0 25 rfl (in_ix i55x8 rfl) rfl e126
                                      refine g_istore 129 (gd rfl) rfl (Nat.le_of_ble_eq_true rfl) ?_
                                      refine g_aload_n 130 (gd rfl) rfl rfl ?_
                                      refine g_iconst 3 131 (gd rfl) rfl rfl ?_
                                      refine g_iload_n 132 (gd rfl) rfl rfl ?_
                                      refine g_iload_n 133 (gd rfl) rfl rfl ?_
                                      refine g_iload_n 134 (gd rfl) rfl rfl ?_
                                      refine g_iconst 0 135 (gd rfl) rfl rfl ?_
                                      refine g_iconst 0 136 (gd rfl) rfl rfl ?_
                                      refine g_iconst 0 137 (gd rfl) rfl rfl ?_
                                      have v137 : u_109_9 = (sF s 109 0 (Int32.ofInt 0)).2.2.1 109 9 := sF_ne rfl (e_109_9)
                                      have p137 : MK (sF s 109 0 (Int32.ofInt 0)) (Int32.ofInt 3) x1 x2 x3 := by refine ⟨fun h => absurd h (by decide), fun h => absurd h (by decide), fun _ hb => ?_, fun _ hb hc => ?_, fun h => absurd h (by decide)⟩; (have a0 := oa8 i55x8 i39x10b i30 ((inv_F hI 0 2 rfl e_109_0)) i78 i126 ((in_c 1 rfl)) ((in_c 0 rfl)); have a8 := tx_i2l e34; have oc := oc_284_109; omega); (have a0 := oa8 i55x8 i39x10b i30 ((inv_F hI 0 2 rfl e_109_0)) i78 i126 ((in_c 1 rfl)) ((in_c 0 rfl)); have a8 := tx_i2l e34; have oc := oc_284_109; omega)
                                      refine g_callv (X := _) (As := [.int (Int32.ofInt 3), .int x1, .int x2, .int x3, .int (Int32.ofInt 0), .int (Int32.ofInt 0), .int (Int32.ofInt 0)]) (r := []) (b := A 109) (q := 109) 140 (gd rfl) rfl rfl rfl rfl rfl (ww_o rfl) (Nat.le_of_ble_eq_true rfl) (Nat.zero_le _) (Nat.zero_le _) (f_274 (by first | exact dq1 hd rfl | exact dq0 hd rfl | exact dq2 hd rfl | exact dq3 hd rfl | omega) hI86x18 (in_w 0 4 (in_c 3 rfl) rfl) (in_w 0 159 i55x8 rfl) (in_w 0 31 i30 rfl) (in_w (-1000000) 1000000 i39x10b rfl) (in_w (-1000000) 1000000 (in_c 0 rfl) rfl) (in_w 0 1000000 (in_c 0 rfl) rfl) (in_w 0 25 (in_c 0 rfl) rfl) v137 (in_w 0 3999 i78 rfl) p137) (fun e u h => h) (fun v u h => ?_)
                                      obtain ⟨s137, hI137, hF137, n137, rfl, rfl, p137a, p137b, p137c, p137d, p137e⟩ := h
                                      obtain ⟨z137a, e137⟩ : ∃ w, w = s137.2.2.1 109 9 := ⟨_, rfl⟩
                                      have i137a := inv_F hI137 0 4000 rfl e137
                                      rw [← (show u_109_9 = (sF s 109 0 (Int32.ofInt 0)).2.2.1 109 9 from sF_ne rfl (e_109_9))] at n137
                                      rw [← (show z137a = s137.2.2.1 109 9 from e137)] at n137
                                      show GG _ _ _ _ _ _ _ _ [] _ _ _
                                      refine g_iload 142 (gd rfl) rfl rfl ?_
                                      have n142 : CDR s s137 (HAR s x1 ∧ GVL x2 x3) ((s.2.2.1 109 9).toInt ≤ 3999) ((z126) = (if (x2).toInt = 0 then s.1 115 (x1).toNatClampNeg else if (x2).toInt = 1 then s.1 116 (x1).toNatClampNeg else s.1 117 (x1).toNatClampNeg) ∧ gvR s137 = gqW (gvR s) (x1).toNatClampNeg x2 x3) := by exact Or.inr (Or.inr ⟨(by have hc9 : s137.2.2.1 109 0 = Int32.ofInt 0 := (hF137.2.2.1 109 0 rfl).trans rfl; rw [hc9]; rfl), ⟨⟨by have a0 := oa9 i55x8 i39x10b i30 ((inv_F hI 0 2 rfl e_109_0)) i78 i126 ((in_c 1 rfl)) i137a ((in_c 0 rfl)); have a9 := tx_i2l e34; have oc := oc_284_109; omega, by have a0 := oa9 i55x8 i39x10b i30 ((inv_F hI 0 2 rfl e_109_0)) i78 i126 ((in_c 1 rfl)) i137a ((in_c 0 rfl)); have a9 := tx_i2l e34; have oc := oc_284_109; omega, by rw [← e55x16]; have a0 := oa9 i55x8 i39x10b i30 ((inv_F hI 0 2 rfl e_109_0)) i78 i126 ((in_c 1 rfl)) i137a ((in_c 0 rfl)); have a9 := tx_i2l e34; have oc := oc_284_109; omega⟩, (by unfold GVL In; have a0 := oa9 i55x8 i39x10b i30 ((inv_F hI 0 2 rfl e_109_0)) i78 i126 ((in_c 1 rfl)) i137a ((in_c 0 rfl)); have a9 := tx_i2l e34; have oc := oc_284_109; omega)⟩, (by rw [← e_109_9]; have a0 := oa9 i55x8 i39x10b i30 ((inv_F hI 0 2 rfl e_109_0)) i78 i126 ((in_c 1 rfl)) i137a ((in_c 0 rfl)); have a9 := tx_i2l e34; have oc := oc_284_109; omega), (by first | (rw [if_pos (by have a0 := oa9 i55x8 i39x10b i30 ((inv_F hI 0 2 rfl e_109_0)) i78 i126 ((in_c 1 rfl)) i137a ((in_c 0 rfl)); have a9 := tx_i2l e34; have oc := oc_284_109; omega)]; exact e103) | (rw [if_neg (by have a0 := oa9 i55x8 i39x10b i30 ((inv_F hI 0 2 rfl e_109_0)) i78 i126 ((in_c 1 rfl)) i137a ((in_c 0 rfl)); have a9 := tx_i2l e34; have oc := oc_284_109; omega), if_pos (by have a0 := oa9 i55x8 i39x10b i30 ((inv_F hI 0 2 rfl e_109_0)) i78 i126 ((in_c 1 rfl)) i137a ((in_c 0 rfl)); have a9 := tx_i2l e34; have oc := oc_284_109; omega)]; exact e117) | (rw [if_neg (by have a0 := oa9 i55x8 i39x10b i30 ((inv_F hI 0 2 rfl e_109_0)) i78 i126 ((in_c 1 rfl)) i137a ((in_c 0 rfl)); have a9 := tx_i2l e34; have oc := oc_284_109; omega), if_neg (by have a0 := oa9 i55x8 i39x10b i30 ((inv_F hI 0 2 rfl e_109_0)) i78 i126 ((in_c 1 rfl)) i137a ((in_c 0 rfl)); have a9 := tx_i2l e34; have oc := oc_284_109; omega)]; exact e126)), (by have hm := (p137b).2.2.2.1 rfl; rw [hm, gvR_cg (L := ([], [], [(109, 0)], [])) (fr_sF rfl fr_rf) rfl] <;> rfl)⟩)
                                      have n142a : LGX s s137 (Int32.ofInt 3) x1 x2 x3 (Int32.ofInt 0) (Int32.ofInt 0) (Int32.ofInt 0) := by exact Or.inr p137c
                                      have n142b : GSE s → GSE s137 := by exact fun _ => p137d
                                      have n142c : G1S s s137 := by exact p137e
                                      exact g_ireturn (gd rfl) rfl rfl (hP _ _ ⟨s137, hI137, (fr_tr rfl (fr_sF rfl fr_rf) hF137), z126, rfl, rfl, in_w (-1000000) 1000000 i126 rfl, n142, n142a, n142b, n142c⟩)
                                    · skip
                                      exact absurd c109 c13
                                  · skip
                                    exact zn_eq c95 i30 rfl
                                · skip
                                  exact zn_ne c89 (in_c 0 rfl) rfl
                              · skip
                                exact zn_gt c86x25 (in_c 0 rfl) rfl
                            · skip
                              exact zn_eq c86x10 (in_c 1 rfl) rfl
                          · skip
                            exact zn_eq c86x2 (in_c 1 rfl) rfl
    · skip
      have i13 := r_eq1 1 1 c13 (i_rng x2) (in_c 1 rfl) rfl
      refine g_iload_n 17 (gd rfl) rfl rfl ?_
      refine g_i2l 18 (gd rfl) rfl (fun z17 e17 => ?_)
      have i17 := l_i e17 (i_rng x3)
      refine g_lconst 0 19 (gd rfl) rfl rfl ?_
      refine g_ldc2_w 1000000 22 (gd rfl) rfl rfl ?_
      refine g_calls (As := [.long z17, .long (Int64.ofInt 0), .long (Int64.ofInt 1000000)]) (r := []) 25 (gd rfl) rfl rfl rfl rfl rfl (Nat.le_of_ble_eq_true rfl) (mc := 0) (ms := 0) (Nat.zero_le _) (Nat.zero_le _) (P := fun v u => _) ?_ (fun v u h => h)
      intro po22 xx22 hp22 hx22
      refine g_enter2 (k := 269) (N := 300) (by first | exact dq1 hd rfl | exact dq0 hd rfl | exact dq2 hd rfl | exact dq3 hd rfl | omega) rfl (Nat.le_of_ble_eq_true rfl) ?_
      refine g_lload_n 1 (gd rfl) rfl rfl ?_
      refine g_lload_n 2 (gd rfl) rfl rfl ?_
      refine g_lcmp 3 (gd rfl) rfl (fun z22x2 e22x2 => ?_)
      have i22x2 := lc_in e22x2
      refine g_if_lt 6 17 (gd rfl) rfl rfl (fun c22x3 => ?_) (fun c22x3 => ?_)
      · skip
        have i22x3 := z_lt (-1) (-1) c22x3 i22x2 rfl
        have c22x3a := lc_lt e22x2 c22x3
        have i22x3a := lr_lt1 (-2147483648) (-1) c22x3a i17 (l_c 0 rfl) rfl
        have i22x3b := l_b e17 i22x3a
        refine g_iconst 0 18 (gd rfl) rfl rfl ?_
        refine g_ireturn (gd rfl) rfl (nb01 (in_w 0 1 (in_c 0 rfl) rfl)) (hp22 _ _ ?_)
        show GG _ _ _ _ _ _ _ _ [.int (Int32.ofInt 0)] _ _ _
        refine g_goto 50 (gd rfl) rfl ?_
        refine g_istore 52 (gd rfl) rfl (Nat.le_of_ble_eq_true rfl) ?_
        refine g_aload_n 53 (gd rfl) rfl rfl ?_
        refine g_aload_n 54 (gd rfl) rfl rfl ?_
        refine g_iload_n 55 (gd rfl) rfl rfl ?_
        refine g_callv (X := _) (As := [.int x1]) (r := [.ref (A 109)]) (b := A 109) (q := 109) 58 (gd rfl) rfl rfl rfl rfl rfl (ww_o rfl) (Nat.le_of_ble_eq_true rfl) (mc := 0) (ms := 0) (Nat.zero_le _) (Nat.zero_le _) (P := fun v u => _) ?_ (fun e u h => h) (fun v u h => h)
        intro po55 xx55 hp55 hx55
        refine g_enter2 (k := 278) (N := 300) (by first | exact dq1 hd rfl | exact dq0 hd rfl | exact dq2 hd rfl | exact dq3 hd rfl | omega) rfl (Nat.le_of_ble_eq_true rfl) ?_
        refine g_iload_n 1 (gd rfl) rfl rfl ?_
        refine g_if_lt 4 24 (gd rfl) rfl rfl (fun c55x1 => ?_) (fun c55x1 => ?_)
        · skip
          have i55x1 := z_lt (-2147483648) (-1) c55x1 (i_rng x1) rfl
          refine g_iconst 0 25 (gd rfl) rfl rfl ?_
          refine g_ireturn (gd rfl) rfl (nb01 (in_w 0 1 (in_c 0 rfl) rfl)) (hp55 _ _ ?_)
          show GG _ _ _ _ _ _ _ _ [.int (Int32.ofInt 0), .ref (A 109)] _ _ _
          refine g_if_eq 61 70 (gd rfl) rfl rfl (fun c58 => ?_) (fun c58 => ?_)
          · skip
            refine g_iconst 0 71 (gd rfl) rfl rfl ?_
            refine g_aload_n 72 (gd rfl) rfl rfl ?_
            refine g_getI 75 (gd rfl) rfl rfl rfl (fun z72 e72 => ?_)
            have q72 : u_109_9 = z72 := (e_109_9).trans e72.symm
            subst q72
            refine g_sipush 4000 78 (gd rfl) rfl rfl ?_
            refine g_cmp_ge 81 85 (gd rfl) rfl rfl (fun c78 => ?_) (fun c78 => ?_)
            · skip
              have i78 := r_le2 4000 4000 c78 (in_c 4000 rfl) (inv_F hI 0 4000 rfl e_109_9) rfl
              refine g_iconst 0 86 (gd rfl) rfl rfl ?_
              refine g_callv (X := _) (As := [.int (Int32.ofInt 0), .int (Int32.ofInt 0)]) (r := []) (b := A 109) (q := 109) 89 (gd rfl) rfl rfl rfl rfl rfl (ww_o rfl) (Nat.le_of_ble_eq_true rfl) (mc := 0) (ms := 0) (Nat.zero_le _) (Nat.zero_le _) (P := fun v u => _) ?_ (fun e u h => h) (fun v u h => h)
              intro po86 xx86 hp86 hx86
              refine g_enter2 (k := 270) (N := 300) (by first | exact dq1 hd rfl | exact dq0 hd rfl | exact dq2 hd rfl | exact dq3 hd rfl | omega) rfl (Nat.le_of_ble_eq_true rfl) ?_
              refine g_aload_n 1 (gd rfl) rfl rfl ?_
              refine g_iload_n 2 (gd rfl) rfl rfl ?_
              refine g_if_ne 5 9 (gd rfl) rfl rfl (fun c86x2 => ?_) (fun c86x2 => ?_)
              · skip
                exact zn_ne c86x2 (in_c 0 rfl) rfl
              · skip
                refine g_iconst 1 6 (gd rfl) rfl rfl ?_
                refine g_goto 18 (gd rfl) rfl ?_
                refine g_putI 21 (gd rfl) rfl rfl rfl rfl ?_
                have hI86x18 := inv_sF (q := 109) (j := 0) hI rfl (in_w 0 2 (in_c 1 rfl) rfl)
                refine g_aload_n 22 (gd rfl) rfl rfl ?_
                refine g_getI 25 (gd rfl) rfl rfl rfl (fun z86x22 e86x22 => ?_)
                have q86x22 : (Int32.ofInt 1) = z86x22 := (sF_get).trans e86x22.symm
                subst q86x22
                refine g_if_le 28 32 (gd rfl) rfl rfl (fun c86x25 => ?_) (fun c86x25 => ?_)
                · skip
                  exact zn_le c86x25 (in_c 1 rfl) rfl
                · skip
                  refine g_iconst 1 29 (gd rfl) rfl rfl ?_
                  refine g_goto 33 (gd rfl) rfl ?_
                  refine g_ireturn (gd rfl) rfl (nb01 (in_w 0 1 (in_c 1 rfl) rfl)) (hp86 _ _ ?_)
                  show GG _ _ _ _ _ _ _ _ [.int (Int32.ofInt 1)] _ _ _
                  refine g_if_eq 92 94 (gd rfl) rfl rfl (fun c89 => ?_) (fun c89 => ?_)
                  · skip
                    exact zn_eq c89 (in_c 1 rfl) rfl
                  · skip
                    refine g_iconst 0 93 (gd rfl) rfl rfl ?_
                    have n93 : CDR s (sF s 109 0 (Int32.ofInt 1)) (HAR s x1 ∧ GVL x2 x3) ((s.2.2.1 109 9).toInt ≤ 3999) (((Int32.ofInt 0)) = (if (x2).toInt = 0 then s.1 115 (x1).toNatClampNeg else if (x2).toInt = 1 then s.1 116 (x1).toNatClampNeg else s.1 117 (x1).toNatClampNeg) ∧ gvR (sF s 109 0 (Int32.ofInt 1)) = gqW (gvR s) (x1).toNatClampNeg x2 x3) := by first | exact Or.inl ⟨rfl, (by first | (unfold HAR GVL In; have a0 := oa7 i13 ((inv_F hI 0 2 rfl e_109_0)) i78 ((in_c 0 rfl)) i22x3b i55x1 ((in_c 1 rfl)); have a7 := tx_i2l e17; have oc := oc_284_109; omega) | (unfold HAR GVL In; rw [← e55x16]; have a0 := oa7 i13 ((inv_F hI 0 2 rfl e_109_0)) i78 ((in_c 0 rfl)) i22x3b i55x1 ((in_c 1 rfl)); have a7 := tx_i2l e17; have oc := oc_284_109; omega)), (gvR_cg (L := ([], [], [(109, 0)], [])) (fr_sF rfl fr_rf) rfl)⟩ | exact Or.inr (Or.inl ⟨rfl, ⟨⟨by have a0 := oa7 i13 ((inv_F hI 0 2 rfl e_109_0)) i78 ((in_c 0 rfl)) i22x3b i55x1 ((in_c 1 rfl)); have a7 := tx_i2l e17; have oc := oc_284_109; omega, by have a0 := oa7 i13 ((inv_F hI 0 2 rfl e_109_0)) i78 ((in_c 0 rfl)) i22x3b i55x1 ((in_c 1 rfl)); have a7 := tx_i2l e17; have oc := oc_284_109; omega, by rw [← e55x16]; have a0 := oa7 i13 ((inv_F hI 0 2 rfl e_109_0)) i78 ((in_c 0 rfl)) i22x3b i55x1 ((in_c 1 rfl)); have a7 := tx_i2l e17; have oc := oc_284_109; omega⟩, (by unfold GVL In; have a0 := oa7 i13 ((inv_F hI 0 2 rfl e_109_0)) i78 ((in_c 0 rfl)) i22x3b i55x1 ((in_c 1 rfl)); have a7 := tx_i2l e17; have oc := oc_284_109; omega)⟩, (by rw [← e_109_9]; have a0 := oa7 i13 ((inv_F hI 0 2 rfl e_109_0)) i78 ((in_c 0 rfl)) i22x3b i55x1 ((in_c 1 rfl)); have a7 := tx_i2l e17; have oc := oc_284_109; omega), (gvR_cg (L := ([], [], [(109, 0)], [])) (fr_sF rfl fr_rf) rfl)⟩)
                    have n93a : LGX s (sF s 109 0 (Int32.ofInt 1)) (Int32.ofInt 3) x1 x2 x3 (Int32.ofInt 0) (Int32.ofInt 0) (Int32.ofInt 0) := by exact Or.inl ⟨rfl, rfl, rfl, rfl, rfl, rfl, rfl, rfl⟩
                    have n93b : GSE s → GSE (sF s 109 0 (Int32.ofInt 1)) := by exact fun h => gse_fr (L := ([], [], [(109, 0)], [])) h (fr_sF rfl fr_rf) rfl
                    have n93c : G1S s (sF s 109 0 (Int32.ofInt 1)) := by exact ⟨rfl, fun _ _ => rfl, fun _ _ _ => ⟨rfl, rfl, rfl, rfl, rfl, rfl⟩⟩
                    exact g_ireturn (gd rfl) rfl rfl (hP _ _ ⟨(sF s 109 0 (Int32.ofInt 1)), hI86x18, (fr_sF rfl fr_rf), (Int32.ofInt 0), rfl, rfl, in_w (-1000000) 1000000 (in_c 0 rfl) rfl, n93, n93a, n93b, n93c⟩)
            · skip
              have i78 := r_lt1 0 3999 c78 (inv_F hI 0 4000 rfl e_109_9) (in_c 4000 rfl) rfl
              refine g_iconst 1 82 (gd rfl) rfl rfl ?_
              refine g_goto 86 (gd rfl) rfl ?_
              refine g_callv (X := _) (As := [.int (Int32.ofInt 0), .int (Int32.ofInt 1)]) (r := []) (b := A 109) (q := 109) 89 (gd rfl) rfl rfl rfl rfl rfl (ww_o rfl) (Nat.le_of_ble_eq_true rfl) (mc := 0) (ms := 0) (Nat.zero_le _) (Nat.zero_le _) (P := fun v u => _) ?_ (fun e u h => h) (fun v u h => h)
              intro po86 xx86 hp86 hx86
              refine g_enter2 (k := 270) (N := 300) (by first | exact dq1 hd rfl | exact dq0 hd rfl | exact dq2 hd rfl | exact dq3 hd rfl | omega) rfl (Nat.le_of_ble_eq_true rfl) ?_
              refine g_aload_n 1 (gd rfl) rfl rfl ?_
              refine g_iload_n 2 (gd rfl) rfl rfl ?_
              refine g_if_ne 5 9 (gd rfl) rfl rfl (fun c86x2 => ?_) (fun c86x2 => ?_)
              · skip
                exact zn_ne c86x2 (in_c 0 rfl) rfl
              · skip
                refine g_iconst 1 6 (gd rfl) rfl rfl ?_
                refine g_goto 18 (gd rfl) rfl ?_
                refine g_putI 21 (gd rfl) rfl rfl rfl rfl ?_
                have hI86x18 := inv_sF (q := 109) (j := 0) hI rfl (in_w 0 2 (in_c 1 rfl) rfl)
                refine g_aload_n 22 (gd rfl) rfl rfl ?_
                refine g_getI 25 (gd rfl) rfl rfl rfl (fun z86x22 e86x22 => ?_)
                have q86x22 : (Int32.ofInt 1) = z86x22 := (sF_get).trans e86x22.symm
                subst q86x22
                refine g_if_le 28 32 (gd rfl) rfl rfl (fun c86x25 => ?_) (fun c86x25 => ?_)
                · skip
                  exact zn_le c86x25 (in_c 1 rfl) rfl
                · skip
                  refine g_iconst 1 29 (gd rfl) rfl rfl ?_
                  refine g_goto 33 (gd rfl) rfl ?_
                  refine g_ireturn (gd rfl) rfl (nb01 (in_w 0 1 (in_c 1 rfl) rfl)) (hp86 _ _ ?_)
                  show GG _ _ _ _ _ _ _ _ [.int (Int32.ofInt 1)] _ _ _
                  refine g_if_eq 92 94 (gd rfl) rfl rfl (fun c89 => ?_) (fun c89 => ?_)
                  · skip
                    exact zn_eq c89 (in_c 1 rfl) rfl
                  · skip
                    refine g_iconst 0 93 (gd rfl) rfl rfl ?_
                    have n93 : CDR s (sF s 109 0 (Int32.ofInt 1)) (HAR s x1 ∧ GVL x2 x3) ((s.2.2.1 109 9).toInt ≤ 3999) (((Int32.ofInt 0)) = (if (x2).toInt = 0 then s.1 115 (x1).toNatClampNeg else if (x2).toInt = 1 then s.1 116 (x1).toNatClampNeg else s.1 117 (x1).toNatClampNeg) ∧ gvR (sF s 109 0 (Int32.ofInt 1)) = gqW (gvR s) (x1).toNatClampNeg x2 x3) := by first | exact Or.inl ⟨rfl, (by first | (unfold HAR GVL In; have a0 := oa7 i13 ((inv_F hI 0 2 rfl e_109_0)) i78 ((in_c 0 rfl)) i22x3b i55x1 ((in_c 1 rfl)); have a7 := tx_i2l e17; have oc := oc_284_109; omega) | (unfold HAR GVL In; rw [← e55x16]; have a0 := oa7 i13 ((inv_F hI 0 2 rfl e_109_0)) i78 ((in_c 0 rfl)) i22x3b i55x1 ((in_c 1 rfl)); have a7 := tx_i2l e17; have oc := oc_284_109; omega)), (gvR_cg (L := ([], [], [(109, 0)], [])) (fr_sF rfl fr_rf) rfl)⟩ | exact Or.inr (Or.inl ⟨rfl, ⟨⟨by have a0 := oa7 i13 ((inv_F hI 0 2 rfl e_109_0)) i78 ((in_c 0 rfl)) i22x3b i55x1 ((in_c 1 rfl)); have a7 := tx_i2l e17; have oc := oc_284_109; omega, by have a0 := oa7 i13 ((inv_F hI 0 2 rfl e_109_0)) i78 ((in_c 0 rfl)) i22x3b i55x1 ((in_c 1 rfl)); have a7 := tx_i2l e17; have oc := oc_284_109; omega, by rw [← e55x16]; have a0 := oa7 i13 ((inv_F hI 0 2 rfl e_109_0)) i78 ((in_c 0 rfl)) i22x3b i55x1 ((in_c 1 rfl)); have a7 := tx_i2l e17; have oc := oc_284_109; omega⟩, (by unfold GVL In; have a0 := oa7 i13 ((inv_F hI 0 2 rfl e_109_0)) i78 ((in_c 0 rfl)) i22x3b i55x1 ((in_c 1 rfl)); have a7 := tx_i2l e17; have oc := oc_284_109; omega)⟩, (by rw [← e_109_9]; have a0 := oa7 i13 ((inv_F hI 0 2 rfl e_109_0)) i78 ((in_c 0 rfl)) i22x3b i55x1 ((in_c 1 rfl)); have a7 := tx_i2l e17; have oc := oc_284_109; omega), (gvR_cg (L := ([], [], [(109, 0)], [])) (fr_sF rfl fr_rf) rfl)⟩)
                    have n93a : LGX s (sF s 109 0 (Int32.ofInt 1)) (Int32.ofInt 3) x1 x2 x3 (Int32.ofInt 0) (Int32.ofInt 0) (Int32.ofInt 0) := by exact Or.inl ⟨rfl, rfl, rfl, rfl, rfl, rfl, rfl, rfl⟩
                    have n93b : GSE s → GSE (sF s 109 0 (Int32.ofInt 1)) := by exact fun h => gse_fr (L := ([], [], [(109, 0)], [])) h (fr_sF rfl fr_rf) rfl
                    have n93c : G1S s (sF s 109 0 (Int32.ofInt 1)) := by exact ⟨rfl, fun _ _ => rfl, fun _ _ _ => ⟨rfl, rfl, rfl, rfl, rfl, rfl⟩⟩
                    exact g_ireturn (gd rfl) rfl rfl (hP _ _ ⟨(sF s 109 0 (Int32.ofInt 1)), hI86x18, (fr_sF rfl fr_rf), (Int32.ofInt 0), rfl, rfl, in_w (-1000000) 1000000 (in_c 0 rfl) rfl, n93, n93a, n93b, n93c⟩)
          · skip
            exact zn_ne c58 (in_c 0 rfl) rfl
        · skip
          have i55x1 := z_ge 0 2147483647 c55x1 (i_rng x1) rfl
          refine g_iload_n 5 (gd rfl) rfl rfl ?_
          refine g_sipush 160 8 (gd rfl) rfl rfl ?_
          refine g_cmp_ge 11 24 (gd rfl) rfl rfl (fun c55x8 => ?_) (fun c55x8 => ?_)
          · skip
            have i55x8 := r_le2 160 2147483647 c55x8 (in_c 160 rfl) i55x1 rfl
            refine g_iconst 0 25 (gd rfl) rfl rfl ?_
            refine g_ireturn (gd rfl) rfl (nb01 (in_w 0 1 (in_c 0 rfl) rfl)) (hp55 _ _ ?_)
            show GG _ _ _ _ _ _ _ _ [.int (Int32.ofInt 0), .ref (A 109)] _ _ _
            refine g_if_eq 61 70 (gd rfl) rfl rfl (fun c58 => ?_) (fun c58 => ?_)
            · skip
              refine g_iconst 0 71 (gd rfl) rfl rfl ?_
              refine g_aload_n 72 (gd rfl) rfl rfl ?_
              refine g_getI 75 (gd rfl) rfl rfl rfl (fun z72 e72 => ?_)
              have q72 : u_109_9 = z72 := (e_109_9).trans e72.symm
              subst q72
              refine g_sipush 4000 78 (gd rfl) rfl rfl ?_
              refine g_cmp_ge 81 85 (gd rfl) rfl rfl (fun c78 => ?_) (fun c78 => ?_)
              · skip
                have i78 := r_le2 4000 4000 c78 (in_c 4000 rfl) (inv_F hI 0 4000 rfl e_109_9) rfl
                refine g_iconst 0 86 (gd rfl) rfl rfl ?_
                refine g_callv (X := _) (As := [.int (Int32.ofInt 0), .int (Int32.ofInt 0)]) (r := []) (b := A 109) (q := 109) 89 (gd rfl) rfl rfl rfl rfl rfl (ww_o rfl) (Nat.le_of_ble_eq_true rfl) (mc := 0) (ms := 0) (Nat.zero_le _) (Nat.zero_le _) (P := fun v u => _) ?_ (fun e u h => h) (fun v u h => h)
                intro po86 xx86 hp86 hx86
                refine g_enter2 (k := 270) (N := 300) (by first | exact dq1 hd rfl | exact dq0 hd rfl | exact dq2 hd rfl | exact dq3 hd rfl | omega) rfl (Nat.le_of_ble_eq_true rfl) ?_
                refine g_aload_n 1 (gd rfl) rfl rfl ?_
                refine g_iload_n 2 (gd rfl) rfl rfl ?_
                refine g_if_ne 5 9 (gd rfl) rfl rfl (fun c86x2 => ?_) (fun c86x2 => ?_)
                · skip
                  exact zn_ne c86x2 (in_c 0 rfl) rfl
                · skip
                  refine g_iconst 1 6 (gd rfl) rfl rfl ?_
                  refine g_goto 18 (gd rfl) rfl ?_
                  refine g_putI 21 (gd rfl) rfl rfl rfl rfl ?_
                  have hI86x18 := inv_sF (q := 109) (j := 0) hI rfl (in_w 0 2 (in_c 1 rfl) rfl)
                  refine g_aload_n 22 (gd rfl) rfl rfl ?_
                  refine g_getI 25 (gd rfl) rfl rfl rfl (fun z86x22 e86x22 => ?_)
                  have q86x22 : (Int32.ofInt 1) = z86x22 := (sF_get).trans e86x22.symm
                  subst q86x22
                  refine g_if_le 28 32 (gd rfl) rfl rfl (fun c86x25 => ?_) (fun c86x25 => ?_)
                  · skip
                    exact zn_le c86x25 (in_c 1 rfl) rfl
                  · skip
                    refine g_iconst 1 29 (gd rfl) rfl rfl ?_
                    refine g_goto 33 (gd rfl) rfl ?_
                    refine g_ireturn (gd rfl) rfl (nb01 (in_w 0 1 (in_c 1 rfl) rfl)) (hp86 _ _ ?_)
                    show GG _ _ _ _ _ _ _ _ [.int (Int32.ofInt 1)] _ _ _
                    refine g_if_eq 92 94 (gd rfl) rfl rfl (fun c89 => ?_) (fun c89 => ?_)
                    · skip
                      exact zn_eq c89 (in_c 1 rfl) rfl
                    · skip
                      refine g_iconst 0 93 (gd rfl) rfl rfl ?_
                      have n93 : CDR s (sF s 109 0 (Int32.ofInt 1)) (HAR s x1 ∧ GVL x2 x3) ((s.2.2.1 109 9).toInt ≤ 3999) (((Int32.ofInt 0)) = (if (x2).toInt = 0 then s.1 115 (x1).toNatClampNeg else if (x2).toInt = 1 then s.1 116 (x1).toNatClampNeg else s.1 117 (x1).toNatClampNeg) ∧ gvR (sF s 109 0 (Int32.ofInt 1)) = gqW (gvR s) (x1).toNatClampNeg x2 x3) := by first | exact Or.inl ⟨rfl, (by first | (unfold HAR GVL In; have a0 := oa7 i13 ((inv_F hI 0 2 rfl e_109_0)) i78 ((in_c 0 rfl)) i22x3b i55x8 ((in_c 1 rfl)); have a7 := tx_i2l e17; have oc := oc_284_109; omega) | (unfold HAR GVL In; rw [← e55x16]; have a0 := oa7 i13 ((inv_F hI 0 2 rfl e_109_0)) i78 ((in_c 0 rfl)) i22x3b i55x8 ((in_c 1 rfl)); have a7 := tx_i2l e17; have oc := oc_284_109; omega)), (gvR_cg (L := ([], [], [(109, 0)], [])) (fr_sF rfl fr_rf) rfl)⟩ | exact Or.inr (Or.inl ⟨rfl, ⟨⟨by have a0 := oa7 i13 ((inv_F hI 0 2 rfl e_109_0)) i78 ((in_c 0 rfl)) i22x3b i55x8 ((in_c 1 rfl)); have a7 := tx_i2l e17; have oc := oc_284_109; omega, by have a0 := oa7 i13 ((inv_F hI 0 2 rfl e_109_0)) i78 ((in_c 0 rfl)) i22x3b i55x8 ((in_c 1 rfl)); have a7 := tx_i2l e17; have oc := oc_284_109; omega, by rw [← e55x16]; have a0 := oa7 i13 ((inv_F hI 0 2 rfl e_109_0)) i78 ((in_c 0 rfl)) i22x3b i55x8 ((in_c 1 rfl)); have a7 := tx_i2l e17; have oc := oc_284_109; omega⟩, (by unfold GVL In; have a0 := oa7 i13 ((inv_F hI 0 2 rfl e_109_0)) i78 ((in_c 0 rfl)) i22x3b i55x8 ((in_c 1 rfl)); have a7 := tx_i2l e17; have oc := oc_284_109; omega)⟩, (by rw [← e_109_9]; have a0 := oa7 i13 ((inv_F hI 0 2 rfl e_109_0)) i78 ((in_c 0 rfl)) i22x3b i55x8 ((in_c 1 rfl)); have a7 := tx_i2l e17; have oc := oc_284_109; omega), (gvR_cg (L := ([], [], [(109, 0)], [])) (fr_sF rfl fr_rf) rfl)⟩)
                      have n93a : LGX s (sF s 109 0 (Int32.ofInt 1)) (Int32.ofInt 3) x1 x2 x3 (Int32.ofInt 0) (Int32.ofInt 0) (Int32.ofInt 0) := by exact Or.inl ⟨rfl, rfl, rfl, rfl, rfl, rfl, rfl, rfl⟩
                      have n93b : GSE s → GSE (sF s 109 0 (Int32.ofInt 1)) := by exact fun h => gse_fr (L := ([], [], [(109, 0)], [])) h (fr_sF rfl fr_rf) rfl
                      have n93c : G1S s (sF s 109 0 (Int32.ofInt 1)) := by exact ⟨rfl, fun _ _ => rfl, fun _ _ _ => ⟨rfl, rfl, rfl, rfl, rfl, rfl⟩⟩
                      exact g_ireturn (gd rfl) rfl rfl (hP _ _ ⟨(sF s 109 0 (Int32.ofInt 1)), hI86x18, (fr_sF rfl fr_rf), (Int32.ofInt 0), rfl, rfl, in_w (-1000000) 1000000 (in_c 0 rfl) rfl, n93, n93a, n93b, n93c⟩)
              · skip
                have i78 := r_lt1 0 3999 c78 (inv_F hI 0 4000 rfl e_109_9) (in_c 4000 rfl) rfl
                refine g_iconst 1 82 (gd rfl) rfl rfl ?_
                refine g_goto 86 (gd rfl) rfl ?_
                refine g_callv (X := _) (As := [.int (Int32.ofInt 0), .int (Int32.ofInt 1)]) (r := []) (b := A 109) (q := 109) 89 (gd rfl) rfl rfl rfl rfl rfl (ww_o rfl) (Nat.le_of_ble_eq_true rfl) (mc := 0) (ms := 0) (Nat.zero_le _) (Nat.zero_le _) (P := fun v u => _) ?_ (fun e u h => h) (fun v u h => h)
                intro po86 xx86 hp86 hx86
                refine g_enter2 (k := 270) (N := 300) (by first | exact dq1 hd rfl | exact dq0 hd rfl | exact dq2 hd rfl | exact dq3 hd rfl | omega) rfl (Nat.le_of_ble_eq_true rfl) ?_
                refine g_aload_n 1 (gd rfl) rfl rfl ?_
                refine g_iload_n 2 (gd rfl) rfl rfl ?_
                refine g_if_ne 5 9 (gd rfl) rfl rfl (fun c86x2 => ?_) (fun c86x2 => ?_)
                · skip
                  exact zn_ne c86x2 (in_c 0 rfl) rfl
                · skip
                  refine g_iconst 1 6 (gd rfl) rfl rfl ?_
                  refine g_goto 18 (gd rfl) rfl ?_
                  refine g_putI 21 (gd rfl) rfl rfl rfl rfl ?_
                  have hI86x18 := inv_sF (q := 109) (j := 0) hI rfl (in_w 0 2 (in_c 1 rfl) rfl)
                  refine g_aload_n 22 (gd rfl) rfl rfl ?_
                  refine g_getI 25 (gd rfl) rfl rfl rfl (fun z86x22 e86x22 => ?_)
                  have q86x22 : (Int32.ofInt 1) = z86x22 := (sF_get).trans e86x22.symm
                  subst q86x22
                  refine g_if_le 28 32 (gd rfl) rfl rfl (fun c86x25 => ?_) (fun c86x25 => ?_)
                  · skip
                    exact zn_le c86x25 (in_c 1 rfl) rfl
                  · skip
                    refine g_iconst 1 29 (gd rfl) rfl rfl ?_
                    refine g_goto 33 (gd rfl) rfl ?_
                    refine g_ireturn (gd rfl) rfl (nb01 (in_w 0 1 (in_c 1 rfl) rfl)) (hp86 _ _ ?_)
                    show GG _ _ _ _ _ _ _ _ [.int (Int32.ofInt 1)] _ _ _
                    refine g_if_eq 92 94 (gd rfl) rfl rfl (fun c89 => ?_) (fun c89 => ?_)
                    · skip
                      exact zn_eq c89 (in_c 1 rfl) rfl
                    · skip
                      refine g_iconst 0 93 (gd rfl) rfl rfl ?_
                      have n93 : CDR s (sF s 109 0 (Int32.ofInt 1)) (HAR s x1 ∧ GVL x2 x3) ((s.2.2.1 109 9).toInt ≤ 3999) (((Int32.ofInt 0)) = (if (x2).toInt = 0 then s.1 115 (x1).toNatClampNeg else if (x2).toInt = 1 then s.1 116 (x1).toNatClampNeg else s.1 117 (x1).toNatClampNeg) ∧ gvR (sF s 109 0 (Int32.ofInt 1)) = gqW (gvR s) (x1).toNatClampNeg x2 x3) := by first | exact Or.inl ⟨rfl, (by first | (unfold HAR GVL In; have a0 := oa7 i13 ((inv_F hI 0 2 rfl e_109_0)) i78 ((in_c 0 rfl)) i22x3b i55x8 ((in_c 1 rfl)); have a7 := tx_i2l e17; have oc := oc_284_109; omega) | (unfold HAR GVL In; rw [← e55x16]; have a0 := oa7 i13 ((inv_F hI 0 2 rfl e_109_0)) i78 ((in_c 0 rfl)) i22x3b i55x8 ((in_c 1 rfl)); have a7 := tx_i2l e17; have oc := oc_284_109; omega)), (gvR_cg (L := ([], [], [(109, 0)], [])) (fr_sF rfl fr_rf) rfl)⟩ | exact Or.inr (Or.inl ⟨rfl, ⟨⟨by have a0 := oa7 i13 ((inv_F hI 0 2 rfl e_109_0)) i78 ((in_c 0 rfl)) i22x3b i55x8 ((in_c 1 rfl)); have a7 := tx_i2l e17; have oc := oc_284_109; omega, by have a0 := oa7 i13 ((inv_F hI 0 2 rfl e_109_0)) i78 ((in_c 0 rfl)) i22x3b i55x8 ((in_c 1 rfl)); have a7 := tx_i2l e17; have oc := oc_284_109; omega, by rw [← e55x16]; have a0 := oa7 i13 ((inv_F hI 0 2 rfl e_109_0)) i78 ((in_c 0 rfl)) i22x3b i55x8 ((in_c 1 rfl)); have a7 := tx_i2l e17; have oc := oc_284_109; omega⟩, (by unfold GVL In; have a0 := oa7 i13 ((inv_F hI 0 2 rfl e_109_0)) i78 ((in_c 0 rfl)) i22x3b i55x8 ((in_c 1 rfl)); have a7 := tx_i2l e17; have oc := oc_284_109; omega)⟩, (by rw [← e_109_9]; have a0 := oa7 i13 ((inv_F hI 0 2 rfl e_109_0)) i78 ((in_c 0 rfl)) i22x3b i55x8 ((in_c 1 rfl)); have a7 := tx_i2l e17; have oc := oc_284_109; omega), (gvR_cg (L := ([], [], [(109, 0)], [])) (fr_sF rfl fr_rf) rfl)⟩)
                      have n93a : LGX s (sF s 109 0 (Int32.ofInt 1)) (Int32.ofInt 3) x1 x2 x3 (Int32.ofInt 0) (Int32.ofInt 0) (Int32.ofInt 0) := by exact Or.inl ⟨rfl, rfl, rfl, rfl, rfl, rfl, rfl, rfl⟩
                      have n93b : GSE s → GSE (sF s 109 0 (Int32.ofInt 1)) := by exact fun h => gse_fr (L := ([], [], [(109, 0)], [])) h (fr_sF rfl fr_rf) rfl
                      have n93c : G1S s (sF s 109 0 (Int32.ofInt 1)) := by exact ⟨rfl, fun _ _ => rfl, fun _ _ _ => ⟨rfl, rfl, rfl, rfl, rfl, rfl⟩⟩
                      exact g_ireturn (gd rfl) rfl rfl (hP _ _ ⟨(sF s 109 0 (Int32.ofInt 1)), hI86x18, (fr_sF rfl fr_rf), (Int32.ofInt 0), rfl, rfl, in_w (-1000000) 1000000 (in_c 0 rfl) rfl, n93, n93a, n93b, n93c⟩)
            · skip
              exact zn_ne c58 (in_c 0 rfl) rfl
          · skip
            have i55x8 := r_lt1 0 159 c55x8 i55x1 (in_c 160 rfl) rfl
            refine g_aload_n 12 (gd rfl) rfl rfl ?_
            refine g_getA (q2 := 112) 15 (gd rfl) rfl rfl rfl rfl ?_
            refine g_iload_n 16 (gd rfl) rfl rfl ?_
            refine g_baload 17 (gd rfl) rfl (n := 480) rfl (in_ix i55x8 rfl) (fun z55x16 e55x16 => ?_)
            have i55x16 := inv_I hI (n := 480) (t := 3) 0 1 rfl (in_ix i55x8 rfl) rfl e55x16
            refine g_if_eq 20 24 (gd rfl) rfl rfl (fun c55x17 => ?_) (fun c55x17 => ?_)
            · skip
              have i55x17 := z_eq 0 0 c55x17 i55x16 rfl
              refine g_iconst 0 25 (gd rfl) rfl rfl ?_
              refine g_ireturn (gd rfl) rfl (nb01 (in_w 0 1 (in_c 0 rfl) rfl)) (hp55 _ _ ?_)
              show GG _ _ _ _ _ _ _ _ [.int (Int32.ofInt 0), .ref (A 109)] _ _ _
              refine g_if_eq 61 70 (gd rfl) rfl rfl (fun c58 => ?_) (fun c58 => ?_)
              · skip
                refine g_iconst 0 71 (gd rfl) rfl rfl ?_
                refine g_aload_n 72 (gd rfl) rfl rfl ?_
                refine g_getI 75 (gd rfl) rfl rfl rfl (fun z72 e72 => ?_)
                have q72 : u_109_9 = z72 := (e_109_9).trans e72.symm
                subst q72
                refine g_sipush 4000 78 (gd rfl) rfl rfl ?_
                refine g_cmp_ge 81 85 (gd rfl) rfl rfl (fun c78 => ?_) (fun c78 => ?_)
                · skip
                  have i78 := r_le2 4000 4000 c78 (in_c 4000 rfl) (inv_F hI 0 4000 rfl e_109_9) rfl
                  refine g_iconst 0 86 (gd rfl) rfl rfl ?_
                  refine g_callv (X := _) (As := [.int (Int32.ofInt 0), .int (Int32.ofInt 0)]) (r := []) (b := A 109) (q := 109) 89 (gd rfl) rfl rfl rfl rfl rfl (ww_o rfl) (Nat.le_of_ble_eq_true rfl) (mc := 0) (ms := 0) (Nat.zero_le _) (Nat.zero_le _) (P := fun v u => _) ?_ (fun e u h => h) (fun v u h => h)
                  intro po86 xx86 hp86 hx86
                  refine g_enter2 (k := 270) (N := 300) (by first | exact dq1 hd rfl | exact dq0 hd rfl | exact dq2 hd rfl | exact dq3 hd rfl | omega) rfl (Nat.le_of_ble_eq_true rfl) ?_
                  refine g_aload_n 1 (gd rfl) rfl rfl ?_
                  refine g_iload_n 2 (gd rfl) rfl rfl ?_
                  refine g_if_ne 5 9 (gd rfl) rfl rfl (fun c86x2 => ?_) (fun c86x2 => ?_)
                  · skip
                    exact zn_ne c86x2 (in_c 0 rfl) rfl
                  · skip
                    refine g_iconst 1 6 (gd rfl) rfl rfl ?_
                    refine g_goto 18 (gd rfl) rfl ?_
                    refine g_putI 21 (gd rfl) rfl rfl rfl rfl ?_
                    have hI86x18 := inv_sF (q := 109) (j := 0) hI rfl (in_w 0 2 (in_c 1 rfl) rfl)
                    refine g_aload_n 22 (gd rfl) rfl rfl ?_
                    refine g_getI 25 (gd rfl) rfl rfl rfl (fun z86x22 e86x22 => ?_)
                    have q86x22 : (Int32.ofInt 1) = z86x22 := (sF_get).trans e86x22.symm
                    subst q86x22
                    refine g_if_le 28 32 (gd rfl) rfl rfl (fun c86x25 => ?_) (fun c86x25 => ?_)
                    · skip
                      exact zn_le c86x25 (in_c 1 rfl) rfl
                    · skip
                      refine g_iconst 1 29 (gd rfl) rfl rfl ?_
                      refine g_goto 33 (gd rfl) rfl ?_
                      refine g_ireturn (gd rfl) rfl (nb01 (in_w 0 1 (in_c 1 rfl) rfl)) (hp86 _ _ ?_)
                      show GG _ _ _ _ _ _ _ _ [.int (Int32.ofInt 1)] _ _ _
                      refine g_if_eq 92 94 (gd rfl) rfl rfl (fun c89 => ?_) (fun c89 => ?_)
                      · skip
                        exact zn_eq c89 (in_c 1 rfl) rfl
                      · skip
                        refine g_iconst 0 93 (gd rfl) rfl rfl ?_
                        have n93 : CDR s (sF s 109 0 (Int32.ofInt 1)) (HAR s x1 ∧ GVL x2 x3) ((s.2.2.1 109 9).toInt ≤ 3999) (((Int32.ofInt 0)) = (if (x2).toInt = 0 then s.1 115 (x1).toNatClampNeg else if (x2).toInt = 1 then s.1 116 (x1).toNatClampNeg else s.1 117 (x1).toNatClampNeg) ∧ gvR (sF s 109 0 (Int32.ofInt 1)) = gqW (gvR s) (x1).toNatClampNeg x2 x3) := by first | exact Or.inl ⟨rfl, (by first | (unfold HAR GVL In; have a0 := oa7 i55x8 i13 ((inv_F hI 0 2 rfl e_109_0)) i78 ((in_c 0 rfl)) i22x3b ((in_c 1 rfl)); have a7 := tx_i2l e17; have oc := oc_284_109; omega) | (unfold HAR GVL In; rw [← e55x16]; have a0 := oa7 i55x8 i13 ((inv_F hI 0 2 rfl e_109_0)) i78 ((in_c 0 rfl)) i22x3b ((in_c 1 rfl)); have a7 := tx_i2l e17; have oc := oc_284_109; omega)), (gvR_cg (L := ([], [], [(109, 0)], [])) (fr_sF rfl fr_rf) rfl)⟩ | exact Or.inr (Or.inl ⟨rfl, ⟨⟨by have a0 := oa7 i55x8 i13 ((inv_F hI 0 2 rfl e_109_0)) i78 ((in_c 0 rfl)) i22x3b ((in_c 1 rfl)); have a7 := tx_i2l e17; have oc := oc_284_109; omega, by have a0 := oa7 i55x8 i13 ((inv_F hI 0 2 rfl e_109_0)) i78 ((in_c 0 rfl)) i22x3b ((in_c 1 rfl)); have a7 := tx_i2l e17; have oc := oc_284_109; omega, by rw [← e55x16]; have a0 := oa7 i55x8 i13 ((inv_F hI 0 2 rfl e_109_0)) i78 ((in_c 0 rfl)) i22x3b ((in_c 1 rfl)); have a7 := tx_i2l e17; have oc := oc_284_109; omega⟩, (by unfold GVL In; have a0 := oa7 i55x8 i13 ((inv_F hI 0 2 rfl e_109_0)) i78 ((in_c 0 rfl)) i22x3b ((in_c 1 rfl)); have a7 := tx_i2l e17; have oc := oc_284_109; omega)⟩, (by rw [← e_109_9]; have a0 := oa7 i55x8 i13 ((inv_F hI 0 2 rfl e_109_0)) i78 ((in_c 0 rfl)) i22x3b ((in_c 1 rfl)); have a7 := tx_i2l e17; have oc := oc_284_109; omega), (gvR_cg (L := ([], [], [(109, 0)], [])) (fr_sF rfl fr_rf) rfl)⟩)
                        have n93a : LGX s (sF s 109 0 (Int32.ofInt 1)) (Int32.ofInt 3) x1 x2 x3 (Int32.ofInt 0) (Int32.ofInt 0) (Int32.ofInt 0) := by exact Or.inl ⟨rfl, rfl, rfl, rfl, rfl, rfl, rfl, rfl⟩
                        have n93b : GSE s → GSE (sF s 109 0 (Int32.ofInt 1)) := by exact fun h => gse_fr (L := ([], [], [(109, 0)], [])) h (fr_sF rfl fr_rf) rfl
                        have n93c : G1S s (sF s 109 0 (Int32.ofInt 1)) := by exact ⟨rfl, fun _ _ => rfl, fun _ _ _ => ⟨rfl, rfl, rfl, rfl, rfl, rfl⟩⟩
                        exact g_ireturn (gd rfl) rfl rfl (hP _ _ ⟨(sF s 109 0 (Int32.ofInt 1)), hI86x18, (fr_sF rfl fr_rf), (Int32.ofInt 0), rfl, rfl, in_w (-1000000) 1000000 (in_c 0 rfl) rfl, n93, n93a, n93b, n93c⟩)
                · skip
                  have i78 := r_lt1 0 3999 c78 (inv_F hI 0 4000 rfl e_109_9) (in_c 4000 rfl) rfl
                  refine g_iconst 1 82 (gd rfl) rfl rfl ?_
                  refine g_goto 86 (gd rfl) rfl ?_
                  refine g_callv (X := _) (As := [.int (Int32.ofInt 0), .int (Int32.ofInt 1)]) (r := []) (b := A 109) (q := 109) 89 (gd rfl) rfl rfl rfl rfl rfl (ww_o rfl) (Nat.le_of_ble_eq_true rfl) (mc := 0) (ms := 0) (Nat.zero_le _) (Nat.zero_le _) (P := fun v u => _) ?_ (fun e u h => h) (fun v u h => h)
                  intro po86 xx86 hp86 hx86
                  refine g_enter2 (k := 270) (N := 300) (by first | exact dq1 hd rfl | exact dq0 hd rfl | exact dq2 hd rfl | exact dq3 hd rfl | omega) rfl (Nat.le_of_ble_eq_true rfl) ?_
                  refine g_aload_n 1 (gd rfl) rfl rfl ?_
                  refine g_iload_n 2 (gd rfl) rfl rfl ?_
                  refine g_if_ne 5 9 (gd rfl) rfl rfl (fun c86x2 => ?_) (fun c86x2 => ?_)
                  · skip
                    exact zn_ne c86x2 (in_c 0 rfl) rfl
                  · skip
                    refine g_iconst 1 6 (gd rfl) rfl rfl ?_
                    refine g_goto 18 (gd rfl) rfl ?_
                    refine g_putI 21 (gd rfl) rfl rfl rfl rfl ?_
                    have hI86x18 := inv_sF (q := 109) (j := 0) hI rfl (in_w 0 2 (in_c 1 rfl) rfl)
                    refine g_aload_n 22 (gd rfl) rfl rfl ?_
                    refine g_getI 25 (gd rfl) rfl rfl rfl (fun z86x22 e86x22 => ?_)
                    have q86x22 : (Int32.ofInt 1) = z86x22 := (sF_get).trans e86x22.symm
                    subst q86x22
                    refine g_if_le 28 32 (gd rfl) rfl rfl (fun c86x25 => ?_) (fun c86x25 => ?_)
                    · skip
                      exact zn_le c86x25 (in_c 1 rfl) rfl
                    · skip
                      refine g_iconst 1 29 (gd rfl) rfl rfl ?_
                      refine g_goto 33 (gd rfl) rfl ?_
                      refine g_ireturn (gd rfl) rfl (nb01 (in_w 0 1 (in_c 1 rfl) rfl)) (hp86 _ _ ?_)
                      show GG _ _ _ _ _ _ _ _ [.int (Int32.ofInt 1)] _ _ _
                      refine g_if_eq 92 94 (gd rfl) rfl rfl (fun c89 => ?_) (fun c89 => ?_)
                      · skip
                        exact zn_eq c89 (in_c 1 rfl) rfl
                      · skip
                        refine g_iconst 0 93 (gd rfl) rfl rfl ?_
                        have n93 : CDR s (sF s 109 0 (Int32.ofInt 1)) (HAR s x1 ∧ GVL x2 x3) ((s.2.2.1 109 9).toInt ≤ 3999) (((Int32.ofInt 0)) = (if (x2).toInt = 0 then s.1 115 (x1).toNatClampNeg else if (x2).toInt = 1 then s.1 116 (x1).toNatClampNeg else s.1 117 (x1).toNatClampNeg) ∧ gvR (sF s 109 0 (Int32.ofInt 1)) = gqW (gvR s) (x1).toNatClampNeg x2 x3) := by first | exact Or.inl ⟨rfl, (by first | (unfold HAR GVL In; have a0 := oa7 i55x8 i13 ((inv_F hI 0 2 rfl e_109_0)) i78 ((in_c 0 rfl)) i22x3b ((in_c 1 rfl)); have a7 := tx_i2l e17; have oc := oc_284_109; omega) | (unfold HAR GVL In; rw [← e55x16]; have a0 := oa7 i55x8 i13 ((inv_F hI 0 2 rfl e_109_0)) i78 ((in_c 0 rfl)) i22x3b ((in_c 1 rfl)); have a7 := tx_i2l e17; have oc := oc_284_109; omega)), (gvR_cg (L := ([], [], [(109, 0)], [])) (fr_sF rfl fr_rf) rfl)⟩ | exact Or.inr (Or.inl ⟨rfl, ⟨⟨by have a0 := oa7 i55x8 i13 ((inv_F hI 0 2 rfl e_109_0)) i78 ((in_c 0 rfl)) i22x3b ((in_c 1 rfl)); have a7 := tx_i2l e17; have oc := oc_284_109; omega, by have a0 := oa7 i55x8 i13 ((inv_F hI 0 2 rfl e_109_0)) i78 ((in_c 0 rfl)) i22x3b ((in_c 1 rfl)); have a7 := tx_i2l e17; have oc := oc_284_109; omega, by rw [← e55x16]; have a0 := oa7 i55x8 i13 ((inv_F hI 0 2 rfl e_109_0)) i78 ((in_c 0 rfl)) i22x3b ((in_c 1 rfl)); have a7 := tx_i2l e17; have oc := oc_284_109; omega⟩, (by unfold GVL In; have a0 := oa7 i55x8 i13 ((inv_F hI 0 2 rfl e_109_0)) i78 ((in_c 0 rfl)) i22x3b ((in_c 1 rfl)); have a7 := tx_i2l e17; have oc := oc_284_109; omega)⟩, (by rw [← e_109_9]; have a0 := oa7 i55x8 i13 ((inv_F hI 0 2 rfl e_109_0)) i78 ((in_c 0 rfl)) i22x3b ((in_c 1 rfl)); have a7 := tx_i2l e17; have oc := oc_284_109; omega), (gvR_cg (L := ([], [], [(109, 0)], [])) (fr_sF rfl fr_rf) rfl)⟩)
                        have n93a : LGX s (sF s 109 0 (Int32.ofInt 1)) (Int32.ofInt 3) x1 x2 x3 (Int32.ofInt 0) (Int32.ofInt 0) (Int32.ofInt 0) := by exact Or.inl ⟨rfl, rfl, rfl, rfl, rfl, rfl, rfl, rfl⟩
                        have n93b : GSE s → GSE (sF s 109 0 (Int32.ofInt 1)) := by exact fun h => gse_fr (L := ([], [], [(109, 0)], [])) h (fr_sF rfl fr_rf) rfl
                        have n93c : G1S s (sF s 109 0 (Int32.ofInt 1)) := by exact ⟨rfl, fun _ _ => rfl, fun _ _ _ => ⟨rfl, rfl, rfl, rfl, rfl, rfl⟩⟩
                        exact g_ireturn (gd rfl) rfl rfl (hP _ _ ⟨(sF s 109 0 (Int32.ofInt 1)), hI86x18, (fr_sF rfl fr_rf), (Int32.ofInt 0), rfl, rfl, in_w (-1000000) 1000000 (in_c 0 rfl) rfl, n93, n93a, n93b, n93c⟩)
              · skip
                exact zn_ne c58 (in_c 0 rfl) rfl
            · skip
              have i55x17 := z_ne 1 1 c55x17 i55x16 rfl
              refine g_iconst 1 21 (gd rfl) rfl rfl ?_
              refine g_goto 25 (gd rfl) rfl ?_
              refine g_ireturn (gd rfl) rfl (nb01 (in_w 0 1 (in_c 1 rfl) rfl)) (hp55 _ _ ?_)
              show GG _ _ _ _ _ _ _ _ [.int (Int32.ofInt 1), .ref (A 109)] _ _ _
              refine g_if_eq 61 70 (gd rfl) rfl rfl (fun c58 => ?_) (fun c58 => ?_)
              · skip
                exact zn_eq c58 (in_c 1 rfl) rfl
              · skip
                refine g_iload 63 (gd rfl) rfl rfl ?_
                refine g_if_eq 66 70 (gd rfl) rfl rfl (fun c63 => ?_) (fun c63 => ?_)
                · skip
                  refine g_iconst 0 71 (gd rfl) rfl rfl ?_
                  refine g_aload_n 72 (gd rfl) rfl rfl ?_
                  refine g_getI 75 (gd rfl) rfl rfl rfl (fun z72 e72 => ?_)
                  have q72 : u_109_9 = z72 := (e_109_9).trans e72.symm
                  subst q72
                  refine g_sipush 4000 78 (gd rfl) rfl rfl ?_
                  refine g_cmp_ge 81 85 (gd rfl) rfl rfl (fun c78 => ?_) (fun c78 => ?_)
                  · skip
                    have i78 := r_le2 4000 4000 c78 (in_c 4000 rfl) (inv_F hI 0 4000 rfl e_109_9) rfl
                    refine g_iconst 0 86 (gd rfl) rfl rfl ?_
                    refine g_callv (X := _) (As := [.int (Int32.ofInt 0), .int (Int32.ofInt 0)]) (r := []) (b := A 109) (q := 109) 89 (gd rfl) rfl rfl rfl rfl rfl (ww_o rfl) (Nat.le_of_ble_eq_true rfl) (mc := 0) (ms := 0) (Nat.zero_le _) (Nat.zero_le _) (P := fun v u => _) ?_ (fun e u h => h) (fun v u h => h)
                    intro po86 xx86 hp86 hx86
                    refine g_enter2 (k := 270) (N := 300) (by first | exact dq1 hd rfl | exact dq0 hd rfl | exact dq2 hd rfl | exact dq3 hd rfl | omega) rfl (Nat.le_of_ble_eq_true rfl) ?_
                    refine g_aload_n 1 (gd rfl) rfl rfl ?_
                    refine g_iload_n 2 (gd rfl) rfl rfl ?_
                    refine g_if_ne 5 9 (gd rfl) rfl rfl (fun c86x2 => ?_) (fun c86x2 => ?_)
                    · skip
                      exact zn_ne c86x2 (in_c 0 rfl) rfl
                    · skip
                      refine g_iconst 1 6 (gd rfl) rfl rfl ?_
                      refine g_goto 18 (gd rfl) rfl ?_
                      refine g_putI 21 (gd rfl) rfl rfl rfl rfl ?_
                      have hI86x18 := inv_sF (q := 109) (j := 0) hI rfl (in_w 0 2 (in_c 1 rfl) rfl)
                      refine g_aload_n 22 (gd rfl) rfl rfl ?_
                      refine g_getI 25 (gd rfl) rfl rfl rfl (fun z86x22 e86x22 => ?_)
                      have q86x22 : (Int32.ofInt 1) = z86x22 := (sF_get).trans e86x22.symm
                      subst q86x22
                      refine g_if_le 28 32 (gd rfl) rfl rfl (fun c86x25 => ?_) (fun c86x25 => ?_)
                      · skip
                        exact zn_le c86x25 (in_c 1 rfl) rfl
                      · skip
                        refine g_iconst 1 29 (gd rfl) rfl rfl ?_
                        refine g_goto 33 (gd rfl) rfl ?_
                        refine g_ireturn (gd rfl) rfl (nb01 (in_w 0 1 (in_c 1 rfl) rfl)) (hp86 _ _ ?_)
                        show GG _ _ _ _ _ _ _ _ [.int (Int32.ofInt 1)] _ _ _
                        refine g_if_eq 92 94 (gd rfl) rfl rfl (fun c89 => ?_) (fun c89 => ?_)
                        · skip
                          exact zn_eq c89 (in_c 1 rfl) rfl
                        · skip
                          refine g_iconst 0 93 (gd rfl) rfl rfl ?_
                          have n93 : CDR s (sF s 109 0 (Int32.ofInt 1)) (HAR s x1 ∧ GVL x2 x3) ((s.2.2.1 109 9).toInt ≤ 3999) (((Int32.ofInt 0)) = (if (x2).toInt = 0 then s.1 115 (x1).toNatClampNeg else if (x2).toInt = 1 then s.1 116 (x1).toNatClampNeg else s.1 117 (x1).toNatClampNeg) ∧ gvR (sF s 109 0 (Int32.ofInt 1)) = gqW (gvR s) (x1).toNatClampNeg x2 x3) := by first | exact Or.inl ⟨rfl, (by first | (unfold HAR GVL In; have a0 := oa7 i55x8 i13 ((inv_F hI 0 2 rfl e_109_0)) i78 ((in_c 0 rfl)) i22x3b ((in_c 1 rfl)); have a7 := tx_i2l e17; have oc := oc_284_109; omega) | (unfold HAR GVL In; rw [← e55x16]; have a0 := oa7 i55x8 i13 ((inv_F hI 0 2 rfl e_109_0)) i78 ((in_c 0 rfl)) i22x3b ((in_c 1 rfl)); have a7 := tx_i2l e17; have oc := oc_284_109; omega)), (gvR_cg (L := ([], [], [(109, 0)], [])) (fr_sF rfl fr_rf) rfl)⟩ | exact Or.inr (Or.inl ⟨rfl, ⟨⟨by have a0 := oa7 i55x8 i13 ((inv_F hI 0 2 rfl e_109_0)) i78 ((in_c 0 rfl)) i22x3b ((in_c 1 rfl)); have a7 := tx_i2l e17; have oc := oc_284_109; omega, by have a0 := oa7 i55x8 i13 ((inv_F hI 0 2 rfl e_109_0)) i78 ((in_c 0 rfl)) i22x3b ((in_c 1 rfl)); have a7 := tx_i2l e17; have oc := oc_284_109; omega, by rw [← e55x16]; have a0 := oa7 i55x8 i13 ((inv_F hI 0 2 rfl e_109_0)) i78 ((in_c 0 rfl)) i22x3b ((in_c 1 rfl)); have a7 := tx_i2l e17; have oc := oc_284_109; omega⟩, (by unfold GVL In; have a0 := oa7 i55x8 i13 ((inv_F hI 0 2 rfl e_109_0)) i78 ((in_c 0 rfl)) i22x3b ((in_c 1 rfl)); have a7 := tx_i2l e17; have oc := oc_284_109; omega)⟩, (by rw [← e_109_9]; have a0 := oa7 i55x8 i13 ((inv_F hI 0 2 rfl e_109_0)) i78 ((in_c 0 rfl)) i22x3b ((in_c 1 rfl)); have a7 := tx_i2l e17; have oc := oc_284_109; omega), (gvR_cg (L := ([], [], [(109, 0)], [])) (fr_sF rfl fr_rf) rfl)⟩)
                          have n93a : LGX s (sF s 109 0 (Int32.ofInt 1)) (Int32.ofInt 3) x1 x2 x3 (Int32.ofInt 0) (Int32.ofInt 0) (Int32.ofInt 0) := by exact Or.inl ⟨rfl, rfl, rfl, rfl, rfl, rfl, rfl, rfl⟩
                          have n93b : GSE s → GSE (sF s 109 0 (Int32.ofInt 1)) := by exact fun h => gse_fr (L := ([], [], [(109, 0)], [])) h (fr_sF rfl fr_rf) rfl
                          have n93c : G1S s (sF s 109 0 (Int32.ofInt 1)) := by exact ⟨rfl, fun _ _ => rfl, fun _ _ _ => ⟨rfl, rfl, rfl, rfl, rfl, rfl⟩⟩
                          exact g_ireturn (gd rfl) rfl rfl (hP _ _ ⟨(sF s 109 0 (Int32.ofInt 1)), hI86x18, (fr_sF rfl fr_rf), (Int32.ofInt 0), rfl, rfl, in_w (-1000000) 1000000 (in_c 0 rfl) rfl, n93, n93a, n93b, n93c⟩)
                  · skip
                    have i78 := r_lt1 0 3999 c78 (inv_F hI 0 4000 rfl e_109_9) (in_c 4000 rfl) rfl
                    refine g_iconst 1 82 (gd rfl) rfl rfl ?_
                    refine g_goto 86 (gd rfl) rfl ?_
                    refine g_callv (X := _) (As := [.int (Int32.ofInt 0), .int (Int32.ofInt 1)]) (r := []) (b := A 109) (q := 109) 89 (gd rfl) rfl rfl rfl rfl rfl (ww_o rfl) (Nat.le_of_ble_eq_true rfl) (mc := 0) (ms := 0) (Nat.zero_le _) (Nat.zero_le _) (P := fun v u => _) ?_ (fun e u h => h) (fun v u h => h)
                    intro po86 xx86 hp86 hx86
                    refine g_enter2 (k := 270) (N := 300) (by first | exact dq1 hd rfl | exact dq0 hd rfl | exact dq2 hd rfl | exact dq3 hd rfl | omega) rfl (Nat.le_of_ble_eq_true rfl) ?_
                    refine g_aload_n 1 (gd rfl) rfl rfl ?_
                    refine g_iload_n 2 (gd rfl) rfl rfl ?_
                    refine g_if_ne 5 9 (gd rfl) rfl rfl (fun c86x2 => ?_) (fun c86x2 => ?_)
                    · skip
                      exact zn_ne c86x2 (in_c 0 rfl) rfl
                    · skip
                      refine g_iconst 1 6 (gd rfl) rfl rfl ?_
                      refine g_goto 18 (gd rfl) rfl ?_
                      refine g_putI 21 (gd rfl) rfl rfl rfl rfl ?_
                      have hI86x18 := inv_sF (q := 109) (j := 0) hI rfl (in_w 0 2 (in_c 1 rfl) rfl)
                      refine g_aload_n 22 (gd rfl) rfl rfl ?_
                      refine g_getI 25 (gd rfl) rfl rfl rfl (fun z86x22 e86x22 => ?_)
                      have q86x22 : (Int32.ofInt 1) = z86x22 := (sF_get).trans e86x22.symm
                      subst q86x22
                      refine g_if_le 28 32 (gd rfl) rfl rfl (fun c86x25 => ?_) (fun c86x25 => ?_)
                      · skip
                        exact zn_le c86x25 (in_c 1 rfl) rfl
                      · skip
                        refine g_iconst 1 29 (gd rfl) rfl rfl ?_
                        refine g_goto 33 (gd rfl) rfl ?_
                        refine g_ireturn (gd rfl) rfl (nb01 (in_w 0 1 (in_c 1 rfl) rfl)) (hp86 _ _ ?_)
                        show GG _ _ _ _ _ _ _ _ [.int (Int32.ofInt 1)] _ _ _
                        refine g_if_eq 92 94 (gd rfl) rfl rfl (fun c89 => ?_) (fun c89 => ?_)
                        · skip
                          exact zn_eq c89 (in_c 1 rfl) rfl
                        · skip
                          refine g_iconst 0 93 (gd rfl) rfl rfl ?_
                          have n93 : CDR s (sF s 109 0 (Int32.ofInt 1)) (HAR s x1 ∧ GVL x2 x3) ((s.2.2.1 109 9).toInt ≤ 3999) (((Int32.ofInt 0)) = (if (x2).toInt = 0 then s.1 115 (x1).toNatClampNeg else if (x2).toInt = 1 then s.1 116 (x1).toNatClampNeg else s.1 117 (x1).toNatClampNeg) ∧ gvR (sF s 109 0 (Int32.ofInt 1)) = gqW (gvR s) (x1).toNatClampNeg x2 x3) := by first | exact Or.inl ⟨rfl, (by first | (unfold HAR GVL In; have a0 := oa7 i55x8 i13 ((inv_F hI 0 2 rfl e_109_0)) i78 ((in_c 0 rfl)) i22x3b ((in_c 1 rfl)); have a7 := tx_i2l e17; have oc := oc_284_109; omega) | (unfold HAR GVL In; rw [← e55x16]; have a0 := oa7 i55x8 i13 ((inv_F hI 0 2 rfl e_109_0)) i78 ((in_c 0 rfl)) i22x3b ((in_c 1 rfl)); have a7 := tx_i2l e17; have oc := oc_284_109; omega)), (gvR_cg (L := ([], [], [(109, 0)], [])) (fr_sF rfl fr_rf) rfl)⟩ | exact Or.inr (Or.inl ⟨rfl, ⟨⟨by have a0 := oa7 i55x8 i13 ((inv_F hI 0 2 rfl e_109_0)) i78 ((in_c 0 rfl)) i22x3b ((in_c 1 rfl)); have a7 := tx_i2l e17; have oc := oc_284_109; omega, by have a0 := oa7 i55x8 i13 ((inv_F hI 0 2 rfl e_109_0)) i78 ((in_c 0 rfl)) i22x3b ((in_c 1 rfl)); have a7 := tx_i2l e17; have oc := oc_284_109; omega, by rw [← e55x16]; have a0 := oa7 i55x8 i13 ((inv_F hI 0 2 rfl e_109_0)) i78 ((in_c 0 rfl)) i22x3b ((in_c 1 rfl)); have a7 := tx_i2l e17; have oc := oc_284_109; omega⟩, (by unfold GVL In; have a0 := oa7 i55x8 i13 ((inv_F hI 0 2 rfl e_109_0)) i78 ((in_c 0 rfl)) i22x3b ((in_c 1 rfl)); have a7 := tx_i2l e17; have oc := oc_284_109; omega)⟩, (by rw [← e_109_9]; have a0 := oa7 i55x8 i13 ((inv_F hI 0 2 rfl e_109_0)) i78 ((in_c 0 rfl)) i22x3b ((in_c 1 rfl)); have a7 := tx_i2l e17; have oc := oc_284_109; omega), (gvR_cg (L := ([], [], [(109, 0)], [])) (fr_sF rfl fr_rf) rfl)⟩)
                          have n93a : LGX s (sF s 109 0 (Int32.ofInt 1)) (Int32.ofInt 3) x1 x2 x3 (Int32.ofInt 0) (Int32.ofInt 0) (Int32.ofInt 0) := by exact Or.inl ⟨rfl, rfl, rfl, rfl, rfl, rfl, rfl, rfl⟩
                          have n93b : GSE s → GSE (sF s 109 0 (Int32.ofInt 1)) := by exact fun h => gse_fr (L := ([], [], [(109, 0)], [])) h (fr_sF rfl fr_rf) rfl
                          have n93c : G1S s (sF s 109 0 (Int32.ofInt 1)) := by exact ⟨rfl, fun _ _ => rfl, fun _ _ _ => ⟨rfl, rfl, rfl, rfl, rfl, rfl⟩⟩
                          exact g_ireturn (gd rfl) rfl rfl (hP _ _ ⟨(sF s 109 0 (Int32.ofInt 1)), hI86x18, (fr_sF rfl fr_rf), (Int32.ofInt 0), rfl, rfl, in_w (-1000000) 1000000 (in_c 0 rfl) rfl, n93, n93a, n93b, n93c⟩)
                · skip
                  exact zn_ne c63 (in_c 0 rfl) rfl
      · skip
        have i22x3 := z_ge 0 1 c22x3 i22x2 rfl
        have c22x3a := lc_ge e22x2 c22x3
        have i22x3a := lr_le2 0 2147483647 c22x3a (l_c 0 rfl) i17 rfl
        have i22x3b := l_b e17 i22x3a
        refine g_lload_n 7 (gd rfl) rfl rfl ?_
        refine g_lload 9 (gd rfl) rfl rfl ?_
        refine g_lcmp 10 (gd rfl) rfl (fun z22x9 e22x9 => ?_)
        have i22x9 := lc_in e22x9
        refine g_if_gt 13 17 (gd rfl) rfl rfl (fun c22x10 => ?_) (fun c22x10 => ?_)
        · skip
          have i22x10 := z_gt 1 1 c22x10 i22x9 rfl
          have c22x10a := lc_gt e22x9 c22x10
          have i22x10a := lr_lt2 1000001 2147483647 c22x10a (l_c 1000000 rfl) i22x3a rfl
          have i22x10b := l_b e17 i22x10a
          refine g_iconst 0 18 (gd rfl) rfl rfl ?_
          refine g_ireturn (gd rfl) rfl (nb01 (in_w 0 1 (in_c 0 rfl) rfl)) (hp22 _ _ ?_)
          show GG _ _ _ _ _ _ _ _ [.int (Int32.ofInt 0)] _ _ _
          refine g_goto 50 (gd rfl) rfl ?_
          refine g_istore 52 (gd rfl) rfl (Nat.le_of_ble_eq_true rfl) ?_
          refine g_aload_n 53 (gd rfl) rfl rfl ?_
          refine g_aload_n 54 (gd rfl) rfl rfl ?_
          refine g_iload_n 55 (gd rfl) rfl rfl ?_
          refine g_callv (X := _) (As := [.int x1]) (r := [.ref (A 109)]) (b := A 109) (q := 109) 58 (gd rfl) rfl rfl rfl rfl rfl (ww_o rfl) (Nat.le_of_ble_eq_true rfl) (mc := 0) (ms := 0) (Nat.zero_le _) (Nat.zero_le _) (P := fun v u => _) ?_ (fun e u h => h) (fun v u h => h)
          intro po55 xx55 hp55 hx55
          refine g_enter2 (k := 278) (N := 300) (by first | exact dq1 hd rfl | exact dq0 hd rfl | exact dq2 hd rfl | exact dq3 hd rfl | omega) rfl (Nat.le_of_ble_eq_true rfl) ?_
          refine g_iload_n 1 (gd rfl) rfl rfl ?_
          refine g_if_lt 4 24 (gd rfl) rfl rfl (fun c55x1 => ?_) (fun c55x1 => ?_)
          · skip
            have i55x1 := z_lt (-2147483648) (-1) c55x1 (i_rng x1) rfl
            refine g_iconst 0 25 (gd rfl) rfl rfl ?_
            refine g_ireturn (gd rfl) rfl (nb01 (in_w 0 1 (in_c 0 rfl) rfl)) (hp55 _ _ ?_)
            show GG _ _ _ _ _ _ _ _ [.int (Int32.ofInt 0), .ref (A 109)] _ _ _
            refine g_if_eq 61 70 (gd rfl) rfl rfl (fun c58 => ?_) (fun c58 => ?_)
            · skip
              refine g_iconst 0 71 (gd rfl) rfl rfl ?_
              refine g_aload_n 72 (gd rfl) rfl rfl ?_
              refine g_getI 75 (gd rfl) rfl rfl rfl (fun z72 e72 => ?_)
              have q72 : u_109_9 = z72 := (e_109_9).trans e72.symm
              subst q72
              refine g_sipush 4000 78 (gd rfl) rfl rfl ?_
              refine g_cmp_ge 81 85 (gd rfl) rfl rfl (fun c78 => ?_) (fun c78 => ?_)
              · skip
                have i78 := r_le2 4000 4000 c78 (in_c 4000 rfl) (inv_F hI 0 4000 rfl e_109_9) rfl
                refine g_iconst 0 86 (gd rfl) rfl rfl ?_
                refine g_callv (X := _) (As := [.int (Int32.ofInt 0), .int (Int32.ofInt 0)]) (r := []) (b := A 109) (q := 109) 89 (gd rfl) rfl rfl rfl rfl rfl (ww_o rfl) (Nat.le_of_ble_eq_true rfl) (mc := 0) (ms := 0) (Nat.zero_le _) (Nat.zero_le _) (P := fun v u => _) ?_ (fun e u h => h) (fun v u h => h)
                intro po86 xx86 hp86 hx86
                refine g_enter2 (k := 270) (N := 300) (by first | exact dq1 hd rfl | exact dq0 hd rfl | exact dq2 hd rfl | exact dq3 hd rfl | omega) rfl (Nat.le_of_ble_eq_true rfl) ?_
                refine g_aload_n 1 (gd rfl) rfl rfl ?_
                refine g_iload_n 2 (gd rfl) rfl rfl ?_
                refine g_if_ne 5 9 (gd rfl) rfl rfl (fun c86x2 => ?_) (fun c86x2 => ?_)
                · skip
                  exact zn_ne c86x2 (in_c 0 rfl) rfl
                · skip
                  refine g_iconst 1 6 (gd rfl) rfl rfl ?_
                  refine g_goto 18 (gd rfl) rfl ?_
                  refine g_putI 21 (gd rfl) rfl rfl rfl rfl ?_
                  have hI86x18 := inv_sF (q := 109) (j := 0) hI rfl (in_w 0 2 (in_c 1 rfl) rfl)
                  refine g_aload_n 22 (gd rfl) rfl rfl ?_
                  refine g_getI 25 (gd rfl) rfl rfl rfl (fun z86x22 e86x22 => ?_)
                  have q86x22 : (Int32.ofInt 1) = z86x22 := (sF_get).trans e86x22.symm
                  subst q86x22
                  refine g_if_le 28 32 (gd rfl) rfl rfl (fun c86x25 => ?_) (fun c86x25 => ?_)
                  · skip
                    exact zn_le c86x25 (in_c 1 rfl) rfl
                  · skip
                    refine g_iconst 1 29 (gd rfl) rfl rfl ?_
                    refine g_goto 33 (gd rfl) rfl ?_
                    refine g_ireturn (gd rfl) rfl (nb01 (in_w 0 1 (in_c 1 rfl) rfl)) (hp86 _ _ ?_)
                    show GG _ _ _ _ _ _ _ _ [.int (Int32.ofInt 1)] _ _ _
                    refine g_if_eq 92 94 (gd rfl) rfl rfl (fun c89 => ?_) (fun c89 => ?_)
                    · skip
                      exact zn_eq c89 (in_c 1 rfl) rfl
                    · skip
                      refine g_iconst 0 93 (gd rfl) rfl rfl ?_
                      have n93 : CDR s (sF s 109 0 (Int32.ofInt 1)) (HAR s x1 ∧ GVL x2 x3) ((s.2.2.1 109 9).toInt ≤ 3999) (((Int32.ofInt 0)) = (if (x2).toInt = 0 then s.1 115 (x1).toNatClampNeg else if (x2).toInt = 1 then s.1 116 (x1).toNatClampNeg else s.1 117 (x1).toNatClampNeg) ∧ gvR (sF s 109 0 (Int32.ofInt 1)) = gqW (gvR s) (x1).toNatClampNeg x2 x3) := by first | exact Or.inl ⟨rfl, (by first | (unfold HAR GVL In; have a0 := oa7 i13 ((inv_F hI 0 2 rfl e_109_0)) i78 ((in_c 0 rfl)) i22x10b i55x1 ((in_c 1 rfl)); have a7 := tx_i2l e17; have oc := oc_284_109; omega) | (unfold HAR GVL In; rw [← e55x16]; have a0 := oa7 i13 ((inv_F hI 0 2 rfl e_109_0)) i78 ((in_c 0 rfl)) i22x10b i55x1 ((in_c 1 rfl)); have a7 := tx_i2l e17; have oc := oc_284_109; omega)), (gvR_cg (L := ([], [], [(109, 0)], [])) (fr_sF rfl fr_rf) rfl)⟩ | exact Or.inr (Or.inl ⟨rfl, ⟨⟨by have a0 := oa7 i13 ((inv_F hI 0 2 rfl e_109_0)) i78 ((in_c 0 rfl)) i22x10b i55x1 ((in_c 1 rfl)); have a7 := tx_i2l e17; have oc := oc_284_109; omega, by have a0 := oa7 i13 ((inv_F hI 0 2 rfl e_109_0)) i78 ((in_c 0 rfl)) i22x10b i55x1 ((in_c 1 rfl)); have a7 := tx_i2l e17; have oc := oc_284_109; omega, by rw [← e55x16]; have a0 := oa7 i13 ((inv_F hI 0 2 rfl e_109_0)) i78 ((in_c 0 rfl)) i22x10b i55x1 ((in_c 1 rfl)); have a7 := tx_i2l e17; have oc := oc_284_109; omega⟩, (by unfold GVL In; have a0 := oa7 i13 ((inv_F hI 0 2 rfl e_109_0)) i78 ((in_c 0 rfl)) i22x10b i55x1 ((in_c 1 rfl)); have a7 := tx_i2l e17; have oc := oc_284_109; omega)⟩, (by rw [← e_109_9]; have a0 := oa7 i13 ((inv_F hI 0 2 rfl e_109_0)) i78 ((in_c 0 rfl)) i22x10b i55x1 ((in_c 1 rfl)); have a7 := tx_i2l e17; have oc := oc_284_109; omega), (gvR_cg (L := ([], [], [(109, 0)], [])) (fr_sF rfl fr_rf) rfl)⟩)
                      have n93a : LGX s (sF s 109 0 (Int32.ofInt 1)) (Int32.ofInt 3) x1 x2 x3 (Int32.ofInt 0) (Int32.ofInt 0) (Int32.ofInt 0) := by exact Or.inl ⟨rfl, rfl, rfl, rfl, rfl, rfl, rfl, rfl⟩
                      have n93b : GSE s → GSE (sF s 109 0 (Int32.ofInt 1)) := by exact fun h => gse_fr (L := ([], [], [(109, 0)], [])) h (fr_sF rfl fr_rf) rfl
                      have n93c : G1S s (sF s 109 0 (Int32.ofInt 1)) := by exact ⟨rfl, fun _ _ => rfl, fun _ _ _ => ⟨rfl, rfl, rfl, rfl, rfl, rfl⟩⟩
                      exact g_ireturn (gd rfl) rfl rfl (hP _ _ ⟨(sF s 109 0 (Int32.ofInt 1)), hI86x18, (fr_sF rfl fr_rf), (Int32.ofInt 0), rfl, rfl, in_w (-1000000) 1000000 (in_c 0 rfl) rfl, n93, n93a, n93b, n93c⟩)
              · skip
                have i78 := r_lt1 0 3999 c78 (inv_F hI 0 4000 rfl e_109_9) (in_c 4000 rfl) rfl
                refine g_iconst 1 82 (gd rfl) rfl rfl ?_
                refine g_goto 86 (gd rfl) rfl ?_
                refine g_callv (X := _) (As := [.int (Int32.ofInt 0), .int (Int32.ofInt 1)]) (r := []) (b := A 109) (q := 109) 89 (gd rfl) rfl rfl rfl rfl rfl (ww_o rfl) (Nat.le_of_ble_eq_true rfl) (mc := 0) (ms := 0) (Nat.zero_le _) (Nat.zero_le _) (P := fun v u => _) ?_ (fun e u h => h) (fun v u h => h)
                intro po86 xx86 hp86 hx86
                refine g_enter2 (k := 270) (N := 300) (by first | exact dq1 hd rfl | exact dq0 hd rfl | exact dq2 hd rfl | exact dq3 hd rfl | omega) rfl (Nat.le_of_ble_eq_true rfl) ?_
                refine g_aload_n 1 (gd rfl) rfl rfl ?_
                refine g_iload_n 2 (gd rfl) rfl rfl ?_
                refine g_if_ne 5 9 (gd rfl) rfl rfl (fun c86x2 => ?_) (fun c86x2 => ?_)
                · skip
                  exact zn_ne c86x2 (in_c 0 rfl) rfl
                · skip
                  refine g_iconst 1 6 (gd rfl) rfl rfl ?_
                  refine g_goto 18 (gd rfl) rfl ?_
                  refine g_putI 21 (gd rfl) rfl rfl rfl rfl ?_
                  have hI86x18 := inv_sF (q := 109) (j := 0) hI rfl (in_w 0 2 (in_c 1 rfl) rfl)
                  refine g_aload_n 22 (gd rfl) rfl rfl ?_
                  refine g_getI 25 (gd rfl) rfl rfl rfl (fun z86x22 e86x22 => ?_)
                  have q86x22 : (Int32.ofInt 1) = z86x22 := (sF_get).trans e86x22.symm
                  subst q86x22
                  refine g_if_le 28 32 (gd rfl) rfl rfl (fun c86x25 => ?_) (fun c86x25 => ?_)
                  · skip
                    exact zn_le c86x25 (in_c 1 rfl) rfl
                  · skip
                    refine g_iconst 1 29 (gd rfl) rfl rfl ?_
                    refine g_goto 33 (gd rfl) rfl ?_
                    refine g_ireturn (gd rfl) rfl (nb01 (in_w 0 1 (in_c 1 rfl) rfl)) (hp86 _ _ ?_)
                    show GG _ _ _ _ _ _ _ _ [.int (Int32.ofInt 1)] _ _ _
                    refine g_if_eq 92 94 (gd rfl) rfl rfl (fun c89 => ?_) (fun c89 => ?_)
                    · skip
                      exact zn_eq c89 (in_c 1 rfl) rfl
                    · skip
                      refine g_iconst 0 93 (gd rfl) rfl rfl ?_
                      have n93 : CDR s (sF s 109 0 (Int32.ofInt 1)) (HAR s x1 ∧ GVL x2 x3) ((s.2.2.1 109 9).toInt ≤ 3999) (((Int32.ofInt 0)) = (if (x2).toInt = 0 then s.1 115 (x1).toNatClampNeg else if (x2).toInt = 1 then s.1 116 (x1).toNatClampNeg else s.1 117 (x1).toNatClampNeg) ∧ gvR (sF s 109 0 (Int32.ofInt 1)) = gqW (gvR s) (x1).toNatClampNeg x2 x3) := by first | exact Or.inl ⟨rfl, (by first | (unfold HAR GVL In; have a0 := oa7 i13 ((inv_F hI 0 2 rfl e_109_0)) i78 ((in_c 0 rfl)) i22x10b i55x1 ((in_c 1 rfl)); have a7 := tx_i2l e17; have oc := oc_284_109; omega) | (unfold HAR GVL In; rw [← e55x16]; have a0 := oa7 i13 ((inv_F hI 0 2 rfl e_109_0)) i78 ((in_c 0 rfl)) i22x10b i55x1 ((in_c 1 rfl)); have a7 := tx_i2l e17; have oc := oc_284_109; omega)), (gvR_cg (L := ([], [], [(109, 0)], [])) (fr_sF rfl fr_rf) rfl)⟩ | exact Or.inr (Or.inl ⟨rfl, ⟨⟨by have a0 := oa7 i13 ((inv_F hI 0 2 rfl e_109_0)) i78 ((in_c 0 rfl)) i22x10b i55x1 ((in_c 1 rfl)); have a7 := tx_i2l e17; have oc := oc_284_109; omega, by have a0 := oa7 i13 ((inv_F hI 0 2 rfl e_109_0)) i78 ((in_c 0 rfl)) i22x10b i55x1 ((in_c 1 rfl)); have a7 := tx_i2l e17; have oc := oc_284_109; omega, by rw [← e55x16]; have a0 := oa7 i13 ((inv_F hI 0 2 rfl e_109_0)) i78 ((in_c 0 rfl)) i22x10b i55x1 ((in_c 1 rfl)); have a7 := tx_i2l e17; have oc := oc_284_109; omega⟩, (by unfold GVL In; have a0 := oa7 i13 ((inv_F hI 0 2 rfl e_109_0)) i78 ((in_c 0 rfl)) i22x10b i55x1 ((in_c 1 rfl)); have a7 := tx_i2l e17; have oc := oc_284_109; omega)⟩, (by rw [← e_109_9]; have a0 := oa7 i13 ((inv_F hI 0 2 rfl e_109_0)) i78 ((in_c 0 rfl)) i22x10b i55x1 ((in_c 1 rfl)); have a7 := tx_i2l e17; have oc := oc_284_109; omega), (gvR_cg (L := ([], [], [(109, 0)], [])) (fr_sF rfl fr_rf) rfl)⟩)
                      have n93a : LGX s (sF s 109 0 (Int32.ofInt 1)) (Int32.ofInt 3) x1 x2 x3 (Int32.ofInt 0) (Int32.ofInt 0) (Int32.ofInt 0) := by exact Or.inl ⟨rfl, rfl, rfl, rfl, rfl, rfl, rfl, rfl⟩
                      have n93b : GSE s → GSE (sF s 109 0 (Int32.ofInt 1)) := by exact fun h => gse_fr (L := ([], [], [(109, 0)], [])) h (fr_sF rfl fr_rf) rfl
                      have n93c : G1S s (sF s 109 0 (Int32.ofInt 1)) := by exact ⟨rfl, fun _ _ => rfl, fun _ _ _ => ⟨rfl, rfl, rfl, rfl, rfl, rfl⟩⟩
                      exact g_ireturn (gd rfl) rfl rfl (hP _ _ ⟨(sF s 109 0 (Int32.ofInt 1)), hI86x18, (fr_sF rfl fr_rf), (Int32.ofInt 0), rfl, rfl, in_w (-1000000) 1000000 (in_c 0 rfl) rfl, n93, n93a, n93b, n93c⟩)
            · skip
              exact zn_ne c58 (in_c 0 rfl) rfl
          · skip
            have i55x1 := z_ge 0 2147483647 c55x1 (i_rng x1) rfl
            refine g_iload_n 5 (gd rfl) rfl rfl ?_
            refine g_sipush 160 8 (gd rfl) rfl rfl ?_
            refine g_cmp_ge 11 24 (gd rfl) rfl rfl (fun c55x8 => ?_) (fun c55x8 => ?_)
            · skip
              have i55x8 := r_le2 160 2147483647 c55x8 (in_c 160 rfl) i55x1 rfl
              refine g_iconst 0 25 (gd rfl) rfl rfl ?_
              refine g_ireturn (gd rfl) rfl (nb01 (in_w 0 1 (in_c 0 rfl) rfl)) (hp55 _ _ ?_)
              show GG _ _ _ _ _ _ _ _ [.int (Int32.ofInt 0), .ref (A 109)] _ _ _
              refine g_if_eq 61 70 (gd rfl) rfl rfl (fun c58 => ?_) (fun c58 => ?_)
              · skip
                refine g_iconst 0 71 (gd rfl) rfl rfl ?_
                refine g_aload_n 72 (gd rfl) rfl rfl ?_
                refine g_getI 75 (gd rfl) rfl rfl rfl (fun z72 e72 => ?_)
                have q72 : u_109_9 = z72 := (e_109_9).trans e72.symm
                subst q72
                refine g_sipush 4000 78 (gd rfl) rfl rfl ?_
                refine g_cmp_ge 81 85 (gd rfl) rfl rfl (fun c78 => ?_) (fun c78 => ?_)
                · skip
                  have i78 := r_le2 4000 4000 c78 (in_c 4000 rfl) (inv_F hI 0 4000 rfl e_109_9) rfl
                  refine g_iconst 0 86 (gd rfl) rfl rfl ?_
                  refine g_callv (X := _) (As := [.int (Int32.ofInt 0), .int (Int32.ofInt 0)]) (r := []) (b := A 109) (q := 109) 89 (gd rfl) rfl rfl rfl rfl rfl (ww_o rfl) (Nat.le_of_ble_eq_true rfl) (mc := 0) (ms := 0) (Nat.zero_le _) (Nat.zero_le _) (P := fun v u => _) ?_ (fun e u h => h) (fun v u h => h)
                  intro po86 xx86 hp86 hx86
                  refine g_enter2 (k := 270) (N := 300) (by first | exact dq1 hd rfl | exact dq0 hd rfl | exact dq2 hd rfl | exact dq3 hd rfl | omega) rfl (Nat.le_of_ble_eq_true rfl) ?_
                  refine g_aload_n 1 (gd rfl) rfl rfl ?_
                  refine g_iload_n 2 (gd rfl) rfl rfl ?_
                  refine g_if_ne 5 9 (gd rfl) rfl rfl (fun c86x2 => ?_) (fun c86x2 => ?_)
                  · skip
                    exact zn_ne c86x2 (in_c 0 rfl) rfl
                  · skip
                    refine g_iconst 1 6 (gd rfl) rfl rfl ?_
                    refine g_goto 18 (gd rfl) rfl ?_
                    refine g_putI 21 (gd rfl) rfl rfl rfl rfl ?_
                    have hI86x18 := inv_sF (q := 109) (j := 0) hI rfl (in_w 0 2 (in_c 1 rfl) rfl)
                    refine g_aload_n 22 (gd rfl) rfl rfl ?_
                    refine g_getI 25 (gd rfl) rfl rfl rfl (fun z86x22 e86x22 => ?_)
                    have q86x22 : (Int32.ofInt 1) = z86x22 := (sF_get).trans e86x22.symm
                    subst q86x22
                    refine g_if_le 28 32 (gd rfl) rfl rfl (fun c86x25 => ?_) (fun c86x25 => ?_)
                    · skip
                      exact zn_le c86x25 (in_c 1 rfl) rfl
                    · skip
                      refine g_iconst 1 29 (gd rfl) rfl rfl ?_
                      refine g_goto 33 (gd rfl) rfl ?_
                      refine g_ireturn (gd rfl) rfl (nb01 (in_w 0 1 (in_c 1 rfl) rfl)) (hp86 _ _ ?_)
                      show GG _ _ _ _ _ _ _ _ [.int (Int32.ofInt 1)] _ _ _
                      refine g_if_eq 92 94 (gd rfl) rfl rfl (fun c89 => ?_) (fun c89 => ?_)
                      · skip
                        exact zn_eq c89 (in_c 1 rfl) rfl
                      · skip
                        refine g_iconst 0 93 (gd rfl) rfl rfl ?_
                        have n93 : CDR s (sF s 109 0 (Int32.ofInt 1)) (HAR s x1 ∧ GVL x2 x3) ((s.2.2.1 109 9).toInt ≤ 3999) (((Int32.ofInt 0)) = (if (x2).toInt = 0 then s.1 115 (x1).toNatClampNeg else if (x2).toInt = 1 then s.1 116 (x1).toNatClampNeg else s.1 117 (x1).toNatClampNeg) ∧ gvR (sF s 109 0 (Int32.ofInt 1)) = gqW (gvR s) (x1).toNatClampNeg x2 x3) := by first | exact Or.inl ⟨rfl, (by first | (unfold HAR GVL In; have a0 := oa7 i13 ((inv_F hI 0 2 rfl e_109_0)) i78 ((in_c 0 rfl)) i22x10b i55x8 ((in_c 1 rfl)); have a7 := tx_i2l e17; have oc := oc_284_109; omega) | (unfold HAR GVL In; rw [← e55x16]; have a0 := oa7 i13 ((inv_F hI 0 2 rfl e_109_0)) i78 ((in_c 0 rfl)) i22x10b i55x8 ((in_c 1 rfl)); have a7 := tx_i2l e17; have oc := oc_284_109; omega)), (gvR_cg (L := ([], [], [(109, 0)], [])) (fr_sF rfl fr_rf) rfl)⟩ | exact Or.inr (Or.inl ⟨rfl, ⟨⟨by have a0 := oa7 i13 ((inv_F hI 0 2 rfl e_109_0)) i78 ((in_c 0 rfl)) i22x10b i55x8 ((in_c 1 rfl)); have a7 := tx_i2l e17; have oc := oc_284_109; omega, by have a0 := oa7 i13 ((inv_F hI 0 2 rfl e_109_0)) i78 ((in_c 0 rfl)) i22x10b i55x8 ((in_c 1 rfl)); have a7 := tx_i2l e17; have oc := oc_284_109; omega, by rw [← e55x16]; have a0 := oa7 i13 ((inv_F hI 0 2 rfl e_109_0)) i78 ((in_c 0 rfl)) i22x10b i55x8 ((in_c 1 rfl)); have a7 := tx_i2l e17; have oc := oc_284_109; omega⟩, (by unfold GVL In; have a0 := oa7 i13 ((inv_F hI 0 2 rfl e_109_0)) i78 ((in_c 0 rfl)) i22x10b i55x8 ((in_c 1 rfl)); have a7 := tx_i2l e17; have oc := oc_284_109; omega)⟩, (by rw [← e_109_9]; have a0 := oa7 i13 ((inv_F hI 0 2 rfl e_109_0)) i78 ((in_c 0 rfl)) i22x10b i55x8 ((in_c 1 rfl)); have a7 := tx_i2l e17; have oc := oc_284_109; omega), (gvR_cg (L := ([], [], [(109, 0)], [])) (fr_sF rfl fr_rf) rfl)⟩)
                        have n93a : LGX s (sF s 109 0 (Int32.ofInt 1)) (Int32.ofInt 3) x1 x2 x3 (Int32.ofInt 0) (Int32.ofInt 0) (Int32.ofInt 0) := by exact Or.inl ⟨rfl, rfl, rfl, rfl, rfl, rfl, rfl, rfl⟩
                        have n93b : GSE s → GSE (sF s 109 0 (Int32.ofInt 1)) := by exact fun h => gse_fr (L := ([], [], [(109, 0)], [])) h (fr_sF rfl fr_rf) rfl
                        have n93c : G1S s (sF s 109 0 (Int32.ofInt 1)) := by exact ⟨rfl, fun _ _ => rfl, fun _ _ _ => ⟨rfl, rfl, rfl, rfl, rfl, rfl⟩⟩
                        exact g_ireturn (gd rfl) rfl rfl (hP _ _ ⟨(sF s 109 0 (Int32.ofInt 1)), hI86x18, (fr_sF rfl fr_rf), (Int32.ofInt 0), rfl, rfl, in_w (-1000000) 1000000 (in_c 0 rfl) rfl, n93, n93a, n93b, n93c⟩)
                · skip
                  have i78 := r_lt1 0 3999 c78 (inv_F hI 0 4000 rfl e_109_9) (in_c 4000 rfl) rfl
                  refine g_iconst 1 82 (gd rfl) rfl rfl ?_
                  refine g_goto 86 (gd rfl) rfl ?_
                  refine g_callv (X := _) (As := [.int (Int32.ofInt 0), .int (Int32.ofInt 1)]) (r := []) (b := A 109) (q := 109) 89 (gd rfl) rfl rfl rfl rfl rfl (ww_o rfl) (Nat.le_of_ble_eq_true rfl) (mc := 0) (ms := 0) (Nat.zero_le _) (Nat.zero_le _) (P := fun v u => _) ?_ (fun e u h => h) (fun v u h => h)
                  intro po86 xx86 hp86 hx86
                  refine g_enter2 (k := 270) (N := 300) (by first | exact dq1 hd rfl | exact dq0 hd rfl | exact dq2 hd rfl | exact dq3 hd rfl | omega) rfl (Nat.le_of_ble_eq_true rfl) ?_
                  refine g_aload_n 1 (gd rfl) rfl rfl ?_
                  refine g_iload_n 2 (gd rfl) rfl rfl ?_
                  refine g_if_ne 5 9 (gd rfl) rfl rfl (fun c86x2 => ?_) (fun c86x2 => ?_)
                  · skip
                    exact zn_ne c86x2 (in_c 0 rfl) rfl
                  · skip
                    refine g_iconst 1 6 (gd rfl) rfl rfl ?_
                    refine g_goto 18 (gd rfl) rfl ?_
                    refine g_putI 21 (gd rfl) rfl rfl rfl rfl ?_
                    have hI86x18 := inv_sF (q := 109) (j := 0) hI rfl (in_w 0 2 (in_c 1 rfl) rfl)
                    refine g_aload_n 22 (gd rfl) rfl rfl ?_
                    refine g_getI 25 (gd rfl) rfl rfl rfl (fun z86x22 e86x22 => ?_)
                    have q86x22 : (Int32.ofInt 1) = z86x22 := (sF_get).trans e86x22.symm
                    subst q86x22
                    refine g_if_le 28 32 (gd rfl) rfl rfl (fun c86x25 => ?_) (fun c86x25 => ?_)
                    · skip
                      exact zn_le c86x25 (in_c 1 rfl) rfl
                    · skip
                      refine g_iconst 1 29 (gd rfl) rfl rfl ?_
                      refine g_goto 33 (gd rfl) rfl ?_
                      refine g_ireturn (gd rfl) rfl (nb01 (in_w 0 1 (in_c 1 rfl) rfl)) (hp86 _ _ ?_)
                      show GG _ _ _ _ _ _ _ _ [.int (Int32.ofInt 1)] _ _ _
                      refine g_if_eq 92 94 (gd rfl) rfl rfl (fun c89 => ?_) (fun c89 => ?_)
                      · skip
                        exact zn_eq c89 (in_c 1 rfl) rfl
                      · skip
                        refine g_iconst 0 93 (gd rfl) rfl rfl ?_
                        have n93 : CDR s (sF s 109 0 (Int32.ofInt 1)) (HAR s x1 ∧ GVL x2 x3) ((s.2.2.1 109 9).toInt ≤ 3999) (((Int32.ofInt 0)) = (if (x2).toInt = 0 then s.1 115 (x1).toNatClampNeg else if (x2).toInt = 1 then s.1 116 (x1).toNatClampNeg else s.1 117 (x1).toNatClampNeg) ∧ gvR (sF s 109 0 (Int32.ofInt 1)) = gqW (gvR s) (x1).toNatClampNeg x2 x3) := by first | exact Or.inl ⟨rfl, (by first | (unfold HAR GVL In; have a0 := oa7 i13 ((inv_F hI 0 2 rfl e_109_0)) i78 ((in_c 0 rfl)) i22x10b i55x8 ((in_c 1 rfl)); have a7 := tx_i2l e17; have oc := oc_284_109; omega) | (unfold HAR GVL In; rw [← e55x16]; have a0 := oa7 i13 ((inv_F hI 0 2 rfl e_109_0)) i78 ((in_c 0 rfl)) i22x10b i55x8 ((in_c 1 rfl)); have a7 := tx_i2l e17; have oc := oc_284_109; omega)), (gvR_cg (L := ([], [], [(109, 0)], [])) (fr_sF rfl fr_rf) rfl)⟩ | exact Or.inr (Or.inl ⟨rfl, ⟨⟨by have a0 := oa7 i13 ((inv_F hI 0 2 rfl e_109_0)) i78 ((in_c 0 rfl)) i22x10b i55x8 ((in_c 1 rfl)); have a7 := tx_i2l e17; have oc := oc_284_109; omega, by have a0 := oa7 i13 ((inv_F hI 0 2 rfl e_109_0)) i78 ((in_c 0 rfl)) i22x10b i55x8 ((in_c 1 rfl)); have a7 := tx_i2l e17; have oc := oc_284_109; omega, by rw [← e55x16]; have a0 := oa7 i13 ((inv_F hI 0 2 rfl e_109_0)) i78 ((in_c 0 rfl)) i22x10b i55x8 ((in_c 1 rfl)); have a7 := tx_i2l e17; have oc := oc_284_109; omega⟩, (by unfold GVL In; have a0 := oa7 i13 ((inv_F hI 0 2 rfl e_109_0)) i78 ((in_c 0 rfl)) i22x10b i55x8 ((in_c 1 rfl)); have a7 := tx_i2l e17; have oc := oc_284_109; omega)⟩, (by rw [← e_109_9]; have a0 := oa7 i13 ((inv_F hI 0 2 rfl e_109_0)) i78 ((in_c 0 rfl)) i22x10b i55x8 ((in_c 1 rfl)); have a7 := tx_i2l e17; have oc := oc_284_109; omega), (gvR_cg (L := ([], [], [(109, 0)], [])) (fr_sF rfl fr_rf) rfl)⟩)
                        have n93a : LGX s (sF s 109 0 (Int32.ofInt 1)) (Int32.ofInt 3) x1 x2 x3 (Int32.ofInt 0) (Int32.ofInt 0) (Int32.ofInt 0) := by exact Or.inl ⟨rfl, rfl, rfl, rfl, rfl, rfl, rfl, rfl⟩
                        have n93b : GSE s → GSE (sF s 109 0 (Int32.ofInt 1)) := by exact fun h => gse_fr (L := ([], [], [(109, 0)], [])) h (fr_sF rfl fr_rf) rfl
                        have n93c : G1S s (sF s 109 0 (Int32.ofInt 1)) := by exact ⟨rfl, fun _ _ => rfl, fun _ _ _ => ⟨rfl, rfl, rfl, rfl, rfl, rfl⟩⟩
                        exact g_ireturn (gd rfl) rfl rfl (hP _ _ ⟨(sF s 109 0 (Int32.ofInt 1)), hI86x18, (fr_sF rfl fr_rf), (Int32.ofInt 0), rfl, rfl, in_w (-1000000) 1000000 (in_c 0 rfl) rfl, n93, n93a, n93b, n93c⟩)
              · skip
                exact zn_ne c58 (in_c 0 rfl) rfl
            · skip
              have i55x8 := r_lt1 0 159 c55x8 i55x1 (in_c 160 rfl) rfl
              refine g_aload_n 12 (gd rfl) rfl rfl ?_
              refine g_getA (q2 := 112) 15 (gd rfl) rfl rfl rfl rfl ?_
              refine g_iload_n 16 (gd rfl) rfl rfl ?_
              refine g_baload 17 (gd rfl) rfl (n := 480) rfl (in_ix i55x8 rfl) (fun z55x16 e55x16 => ?_)
              have i55x16 := inv_I hI (n := 480) (t := 3) 0 1 rfl (in_ix i55x8 rfl) rfl e55x16
              refine g_if_eq 20 24 (gd rfl) rfl rfl (fun c55x17 => ?_) (fun c55x17 => ?_)
              · skip
                have i55x17 := z_eq 0 0 c55x17 i55x16 rfl
                refine g_iconst 0 25 (gd rfl) rfl rfl ?_
                refine g_ireturn (gd rfl) rfl (nb01 (in_w 0 1 (in_c 0 rfl) rfl)) (hp55 _ _ ?_)
                show GG _ _ _ _ _ _ _ _ [.int (Int32.ofInt 0), .ref (A 109)] _ _ _
                refine g_if_eq 61 70 (gd rfl) rfl rfl (fun c58 => ?_) (fun c58 => ?_)
                · skip
                  refine g_iconst 0 71 (gd rfl) rfl rfl ?_
                  refine g_aload_n 72 (gd rfl) rfl rfl ?_
                  refine g_getI 75 (gd rfl) rfl rfl rfl (fun z72 e72 => ?_)
                  have q72 : u_109_9 = z72 := (e_109_9).trans e72.symm
                  subst q72
                  refine g_sipush 4000 78 (gd rfl) rfl rfl ?_
                  refine g_cmp_ge 81 85 (gd rfl) rfl rfl (fun c78 => ?_) (fun c78 => ?_)
                  · skip
                    have i78 := r_le2 4000 4000 c78 (in_c 4000 rfl) (inv_F hI 0 4000 rfl e_109_9) rfl
                    refine g_iconst 0 86 (gd rfl) rfl rfl ?_
                    refine g_callv (X := _) (As := [.int (Int32.ofInt 0), .int (Int32.ofInt 0)]) (r := []) (b := A 109) (q := 109) 89 (gd rfl) rfl rfl rfl rfl rfl (ww_o rfl) (Nat.le_of_ble_eq_true rfl) (mc := 0) (ms := 0) (Nat.zero_le _) (Nat.zero_le _) (P := fun v u => _) ?_ (fun e u h => h) (fun v u h => h)
                    intro po86 xx86 hp86 hx86
                    refine g_enter2 (k := 270) (N := 300) (by first | exact dq1 hd rfl | exact dq0 hd rfl | exact dq2 hd rfl | exact dq3 hd rfl | omega) rfl (Nat.le_of_ble_eq_true rfl) ?_
                    refine g_aload_n 1 (gd rfl) rfl rfl ?_
                    refine g_iload_n 2 (gd rfl) rfl rfl ?_
                    refine g_if_ne 5 9 (gd rfl) rfl rfl (fun c86x2 => ?_) (fun c86x2 => ?_)
                    · skip
                      exact zn_ne c86x2 (in_c 0 rfl) rfl
                    · skip
                      refine g_iconst 1 6 (gd rfl) rfl rfl ?_
                      refine g_goto 18 (gd rfl) rfl ?_
                      refine g_putI 21 (gd rfl) rfl rfl rfl rfl ?_
                      have hI86x18 := inv_sF (q := 109) (j := 0) hI rfl (in_w 0 2 (in_c 1 rfl) rfl)
                      refine g_aload_n 22 (gd rfl) rfl rfl ?_
                      refine g_getI 25 (gd rfl) rfl rfl rfl (fun z86x22 e86x22 => ?_)
                      have q86x22 : (Int32.ofInt 1) = z86x22 := (sF_get).trans e86x22.symm
                      subst q86x22
                      refine g_if_le 28 32 (gd rfl) rfl rfl (fun c86x25 => ?_) (fun c86x25 => ?_)
                      · skip
                        exact zn_le c86x25 (in_c 1 rfl) rfl
                      · skip
                        refine g_iconst 1 29 (gd rfl) rfl rfl ?_
                        refine g_goto 33 (gd rfl) rfl ?_
                        refine g_ireturn (gd rfl) rfl (nb01 (in_w 0 1 (in_c 1 rfl) rfl)) (hp86 _ _ ?_)
                        show GG _ _ _ _ _ _ _ _ [.int (Int32.ofInt 1)] _ _ _
                        refine g_if_eq 92 94 (gd rfl) rfl rfl (fun c89 => ?_) (fun c89 => ?_)
                        · skip
                          exact zn_eq c89 (in_c 1 rfl) rfl
                        · skip
                          refine g_iconst 0 93 (gd rfl) rfl rfl ?_
                          have n93 : CDR s (sF s 109 0 (Int32.ofInt 1)) (HAR s x1 ∧ GVL x2 x3) ((s.2.2.1 109 9).toInt ≤ 3999) (((Int32.ofInt 0)) = (if (x2).toInt = 0 then s.1 115 (x1).toNatClampNeg else if (x2).toInt = 1 then s.1 116 (x1).toNatClampNeg else s.1 117 (x1).toNatClampNeg) ∧ gvR (sF s 109 0 (Int32.ofInt 1)) = gqW (gvR s) (x1).toNatClampNeg x2 x3) := by first | exact Or.inl ⟨rfl, (by first | (unfold HAR GVL In; have a0 := oa7 i55x8 i13 ((inv_F hI 0 2 rfl e_109_0)) i78 ((in_c 0 rfl)) i22x10b ((in_c 1 rfl)); have a7 := tx_i2l e17; have oc := oc_284_109; omega) | (unfold HAR GVL In; rw [← e55x16]; have a0 := oa7 i55x8 i13 ((inv_F hI 0 2 rfl e_109_0)) i78 ((in_c 0 rfl)) i22x10b ((in_c 1 rfl)); have a7 := tx_i2l e17; have oc := oc_284_109; omega)), (gvR_cg (L := ([], [], [(109, 0)], [])) (fr_sF rfl fr_rf) rfl)⟩ | exact Or.inr (Or.inl ⟨rfl, ⟨⟨by have a0 := oa7 i55x8 i13 ((inv_F hI 0 2 rfl e_109_0)) i78 ((in_c 0 rfl)) i22x10b ((in_c 1 rfl)); have a7 := tx_i2l e17; have oc := oc_284_109; omega, by have a0 := oa7 i55x8 i13 ((inv_F hI 0 2 rfl e_109_0)) i78 ((in_c 0 rfl)) i22x10b ((in_c 1 rfl)); have a7 := tx_i2l e17; have oc := oc_284_109; omega, by rw [← e55x16]; have a0 := oa7 i55x8 i13 ((inv_F hI 0 2 rfl e_109_0)) i78 ((in_c 0 rfl)) i22x10b ((in_c 1 rfl)); have a7 := tx_i2l e17; have oc := oc_284_109; omega⟩, (by unfold GVL In; have a0 := oa7 i55x8 i13 ((inv_F hI 0 2 rfl e_109_0)) i78 ((in_c 0 rfl)) i22x10b ((in_c 1 rfl)); have a7 := tx_i2l e17; have oc := oc_284_109; omega)⟩, (by rw [← e_109_9]; have a0 := oa7 i55x8 i13 ((inv_F hI 0 2 rfl e_109_0)) i78 ((in_c 0 rfl)) i22x10b ((in_c 1 rfl)); have a7 := tx_i2l e17; have oc := oc_284_109; omega), (gvR_cg (L := ([], [], [(109, 0)], [])) (fr_sF rfl fr_rf) rfl)⟩)
                          have n93a : LGX s (sF s 109 0 (Int32.ofInt 1)) (Int32.ofInt 3) x1 x2 x3 (Int32.ofInt 0) (Int32.ofInt 0) (Int32.ofInt 0) := by exact Or.inl ⟨rfl, rfl, rfl, rfl, rfl, rfl, rfl, rfl⟩
                          have n93b : GSE s → GSE (sF s 109 0 (Int32.ofInt 1)) := by exact fun h => gse_fr (L := ([], [], [(109, 0)], [])) h (fr_sF rfl fr_rf) rfl
                          have n93c : G1S s (sF s 109 0 (Int32.ofInt 1)) := by exact ⟨rfl, fun _ _ => rfl, fun _ _ _ => ⟨rfl, rfl, rfl, rfl, rfl, rfl⟩⟩
                          exact g_ireturn (gd rfl) rfl rfl (hP _ _ ⟨(sF s 109 0 (Int32.ofInt 1)), hI86x18, (fr_sF rfl fr_rf), (Int32.ofInt 0), rfl, rfl, in_w (-1000000) 1000000 (in_c 0 rfl) rfl, n93, n93a, n93b, n93c⟩)
                  · skip
                    have i78 := r_lt1 0 3999 c78 (inv_F hI 0 4000 rfl e_109_9) (in_c 4000 rfl) rfl
                    refine g_iconst 1 82 (gd rfl) rfl rfl ?_
                    refine g_goto 86 (gd rfl) rfl ?_
                    refine g_callv (X := _) (As := [.int (Int32.ofInt 0), .int (Int32.ofInt 1)]) (r := []) (b := A 109) (q := 109) 89 (gd rfl) rfl rfl rfl rfl rfl (ww_o rfl) (Nat.le_of_ble_eq_true rfl) (mc := 0) (ms := 0) (Nat.zero_le _) (Nat.zero_le _) (P := fun v u => _) ?_ (fun e u h => h) (fun v u h => h)
                    intro po86 xx86 hp86 hx86
                    refine g_enter2 (k := 270) (N := 300) (by first | exact dq1 hd rfl | exact dq0 hd rfl | exact dq2 hd rfl | exact dq3 hd rfl | omega) rfl (Nat.le_of_ble_eq_true rfl) ?_
                    refine g_aload_n 1 (gd rfl) rfl rfl ?_
                    refine g_iload_n 2 (gd rfl) rfl rfl ?_
                    refine g_if_ne 5 9 (gd rfl) rfl rfl (fun c86x2 => ?_) (fun c86x2 => ?_)
                    · skip
                      exact zn_ne c86x2 (in_c 0 rfl) rfl
                    · skip
                      refine g_iconst 1 6 (gd rfl) rfl rfl ?_
                      refine g_goto 18 (gd rfl) rfl ?_
                      refine g_putI 21 (gd rfl) rfl rfl rfl rfl ?_
                      have hI86x18 := inv_sF (q := 109) (j := 0) hI rfl (in_w 0 2 (in_c 1 rfl) rfl)
                      refine g_aload_n 22 (gd rfl) rfl rfl ?_
                      refine g_getI 25 (gd rfl) rfl rfl rfl (fun z86x22 e86x22 => ?_)
                      have q86x22 : (Int32.ofInt 1) = z86x22 := (sF_get).trans e86x22.symm
                      subst q86x22
                      refine g_if_le 28 32 (gd rfl) rfl rfl (fun c86x25 => ?_) (fun c86x25 => ?_)
                      · skip
                        exact zn_le c86x25 (in_c 1 rfl) rfl
                      · skip
                        refine g_iconst 1 29 (gd rfl) rfl rfl ?_
                        refine g_goto 33 (gd rfl) rfl ?_
                        refine g_ireturn (gd rfl) rfl (nb01 (in_w 0 1 (in_c 1 rfl) rfl)) (hp86 _ _ ?_)
                        show GG _ _ _ _ _ _ _ _ [.int (Int32.ofInt 1)] _ _ _
                        refine g_if_eq 92 94 (gd rfl) rfl rfl (fun c89 => ?_) (fun c89 => ?_)
                        · skip
                          exact zn_eq c89 (in_c 1 rfl) rfl
                        · skip
                          refine g_iconst 0 93 (gd rfl) rfl rfl ?_
                          have n93 : CDR s (sF s 109 0 (Int32.ofInt 1)) (HAR s x1 ∧ GVL x2 x3) ((s.2.2.1 109 9).toInt ≤ 3999) (((Int32.ofInt 0)) = (if (x2).toInt = 0 then s.1 115 (x1).toNatClampNeg else if (x2).toInt = 1 then s.1 116 (x1).toNatClampNeg else s.1 117 (x1).toNatClampNeg) ∧ gvR (sF s 109 0 (Int32.ofInt 1)) = gqW (gvR s) (x1).toNatClampNeg x2 x3) := by first | exact Or.inl ⟨rfl, (by first | (unfold HAR GVL In; have a0 := oa7 i55x8 i13 ((inv_F hI 0 2 rfl e_109_0)) i78 ((in_c 0 rfl)) i22x10b ((in_c 1 rfl)); have a7 := tx_i2l e17; have oc := oc_284_109; omega) | (unfold HAR GVL In; rw [← e55x16]; have a0 := oa7 i55x8 i13 ((inv_F hI 0 2 rfl e_109_0)) i78 ((in_c 0 rfl)) i22x10b ((in_c 1 rfl)); have a7 := tx_i2l e17; have oc := oc_284_109; omega)), (gvR_cg (L := ([], [], [(109, 0)], [])) (fr_sF rfl fr_rf) rfl)⟩ | exact Or.inr (Or.inl ⟨rfl, ⟨⟨by have a0 := oa7 i55x8 i13 ((inv_F hI 0 2 rfl e_109_0)) i78 ((in_c 0 rfl)) i22x10b ((in_c 1 rfl)); have a7 := tx_i2l e17; have oc := oc_284_109; omega, by have a0 := oa7 i55x8 i13 ((inv_F hI 0 2 rfl e_109_0)) i78 ((in_c 0 rfl)) i22x10b ((in_c 1 rfl)); have a7 := tx_i2l e17; have oc := oc_284_109; omega, by rw [← e55x16]; have a0 := oa7 i55x8 i13 ((inv_F hI 0 2 rfl e_109_0)) i78 ((in_c 0 rfl)) i22x10b ((in_c 1 rfl)); have a7 := tx_i2l e17; have oc := oc_284_109; omega⟩, (by unfold GVL In; have a0 := oa7 i55x8 i13 ((inv_F hI 0 2 rfl e_109_0)) i78 ((in_c 0 rfl)) i22x10b ((in_c 1 rfl)); have a7 := tx_i2l e17; have oc := oc_284_109; omega)⟩, (by rw [← e_109_9]; have a0 := oa7 i55x8 i13 ((inv_F hI 0 2 rfl e_109_0)) i78 ((in_c 0 rfl)) i22x10b ((in_c 1 rfl)); have a7 := tx_i2l e17; have oc := oc_284_109; omega), (gvR_cg (L := ([], [], [(109, 0)], [])) (fr_sF rfl fr_rf) rfl)⟩)
                          have n93a : LGX s (sF s 109 0 (Int32.ofInt 1)) (Int32.ofInt 3) x1 x2 x3 (Int32.ofInt 0) (Int32.ofInt 0) (Int32.ofInt 0) := by exact Or.inl ⟨rfl, rfl, rfl, rfl, rfl, rfl, rfl, rfl⟩
                          have n93b : GSE s → GSE (sF s 109 0 (Int32.ofInt 1)) := by exact fun h => gse_fr (L := ([], [], [(109, 0)], [])) h (fr_sF rfl fr_rf) rfl
                          have n93c : G1S s (sF s 109 0 (Int32.ofInt 1)) := by exact ⟨rfl, fun _ _ => rfl, fun _ _ _ => ⟨rfl, rfl, rfl, rfl, rfl, rfl⟩⟩
                          exact g_ireturn (gd rfl) rfl rfl (hP _ _ ⟨(sF s 109 0 (Int32.ofInt 1)), hI86x18, (fr_sF rfl fr_rf), (Int32.ofInt 0), rfl, rfl, in_w (-1000000) 1000000 (in_c 0 rfl) rfl, n93, n93a, n93b, n93c⟩)
                · skip
                  exact zn_ne c58 (in_c 0 rfl) rfl
              · skip
                have i55x17 := z_ne 1 1 c55x17 i55x16 rfl
                refine g_iconst 1 21 (gd rfl) rfl rfl ?_
                refine g_goto 25 (gd rfl) rfl ?_
                refine g_ireturn (gd rfl) rfl (nb01 (in_w 0 1 (in_c 1 rfl) rfl)) (hp55 _ _ ?_)
                show GG _ _ _ _ _ _ _ _ [.int (Int32.ofInt 1), .ref (A 109)] _ _ _
                refine g_if_eq 61 70 (gd rfl) rfl rfl (fun c58 => ?_) (fun c58 => ?_)
                · skip
                  exact zn_eq c58 (in_c 1 rfl) rfl
                · skip
                  refine g_iload 63 (gd rfl) rfl rfl ?_
                  refine g_if_eq 66 70 (gd rfl) rfl rfl (fun c63 => ?_) (fun c63 => ?_)
                  · skip
                    refine g_iconst 0 71 (gd rfl) rfl rfl ?_
                    refine g_aload_n 72 (gd rfl) rfl rfl ?_
                    refine g_getI 75 (gd rfl) rfl rfl rfl (fun z72 e72 => ?_)
                    have q72 : u_109_9 = z72 := (e_109_9).trans e72.symm
                    subst q72
                    refine g_sipush 4000 78 (gd rfl) rfl rfl ?_
                    refine g_cmp_ge 81 85 (gd rfl) rfl rfl (fun c78 => ?_) (fun c78 => ?_)
                    · skip
                      have i78 := r_le2 4000 4000 c78 (in_c 4000 rfl) (inv_F hI 0 4000 rfl e_109_9) rfl
                      refine g_iconst 0 86 (gd rfl) rfl rfl ?_
                      refine g_callv (X := _) (As := [.int (Int32.ofInt 0), .int (Int32.ofInt 0)]) (r := []) (b := A 109) (q := 109) 89 (gd rfl) rfl rfl rfl rfl rfl (ww_o rfl) (Nat.le_of_ble_eq_true rfl) (mc := 0) (ms := 0) (Nat.zero_le _) (Nat.zero_le _) (P := fun v u => _) ?_ (fun e u h => h) (fun v u h => h)
                      intro po86 xx86 hp86 hx86
                      refine g_enter2 (k := 270) (N := 300) (by first | exact dq1 hd rfl | exact dq0 hd rfl | exact dq2 hd rfl | exact dq3 hd rfl | omega) rfl (Nat.le_of_ble_eq_true rfl) ?_
                      refine g_aload_n 1 (gd rfl) rfl rfl ?_
                      refine g_iload_n 2 (gd rfl) rfl rfl ?_
                      refine g_if_ne 5 9 (gd rfl) rfl rfl (fun c86x2 => ?_) (fun c86x2 => ?_)
                      · skip
                        exact zn_ne c86x2 (in_c 0 rfl) rfl
                      · skip
                        refine g_iconst 1 6 (gd rfl) rfl rfl ?_
                        refine g_goto 18 (gd rfl) rfl ?_
                        refine g_putI 21 (gd rfl) rfl rfl rfl rfl ?_
                        have hI86x18 := inv_sF (q := 109) (j := 0) hI rfl (in_w 0 2 (in_c 1 rfl) rfl)
                        refine g_aload_n 22 (gd rfl) rfl rfl ?_
                        refine g_getI 25 (gd rfl) rfl rfl rfl (fun z86x22 e86x22 => ?_)
                        have q86x22 : (Int32.ofInt 1) = z86x22 := (sF_get).trans e86x22.symm
                        subst q86x22
                        refine g_if_le 28 32 (gd rfl) rfl rfl (fun c86x25 => ?_) (fun c86x25 => ?_)
                        · skip
                          exact zn_le c86x25 (in_c 1 rfl) rfl
                        · skip
                          refine g_iconst 1 29 (gd rfl) rfl rfl ?_
                          refine g_goto 33 (gd rfl) rfl ?_
                          refine g_ireturn (gd rfl) rfl (nb01 (in_w 0 1 (in_c 1 rfl) rfl)) (hp86 _ _ ?_)
                          show GG _ _ _ _ _ _ _ _ [.int (Int32.ofInt 1)] _ _ _
                          refine g_if_eq 92 94 (gd rfl) rfl rfl (fun c89 => ?_) (fun c89 => ?_)
                          · skip
                            exact zn_eq c89 (in_c 1 rfl) rfl
                          · skip
                            refine g_iconst 0 93 (gd rfl) rfl rfl ?_
                            have n93 : CDR s (sF s 109 0 (Int32.ofInt 1)) (HAR s x1 ∧ GVL x2 x3) ((s.2.2.1 109 9).toInt ≤ 3999) (((Int32.ofInt 0)) = (if (x2).toInt = 0 then s.1 115 (x1).toNatClampNeg else if (x2).toInt = 1 then s.1 116 (x1).toNatClampNeg else s.1 117 (x1).toNatClampNeg) ∧ gvR (sF s 109 0 (Int32.ofInt 1)) = gqW (gvR s) (x1).toNatClampNeg x2 x3) := by first | exact Or.inl ⟨rfl, (by first | (unfold HAR GVL In; have a0 := oa7 i55x8 i13 ((inv_F hI 0 2 rfl e_109_0)) i78 ((in_c 0 rfl)) i22x10b ((in_c 1 rfl)); have a7 := tx_i2l e17; have oc := oc_284_109; omega) | (unfold HAR GVL In; rw [← e55x16]; have a0 := oa7 i55x8 i13 ((inv_F hI 0 2 rfl e_109_0)) i78 ((in_c 0 rfl)) i22x10b ((in_c 1 rfl)); have a7 := tx_i2l e17; have oc := oc_284_109; omega)), (gvR_cg (L := ([], [], [(109, 0)], [])) (fr_sF rfl fr_rf) rfl)⟩ | exact Or.inr (Or.inl ⟨rfl, ⟨⟨by have a0 := oa7 i55x8 i13 ((inv_F hI 0 2 rfl e_109_0)) i78 ((in_c 0 rfl)) i22x10b ((in_c 1 rfl)); have a7 := tx_i2l e17; have oc := oc_284_109; omega, by have a0 := oa7 i55x8 i13 ((inv_F hI 0 2 rfl e_109_0)) i78 ((in_c 0 rfl)) i22x10b ((in_c 1 rfl)); have a7 := tx_i2l e17; have oc := oc_284_109; omega, by rw [← e55x16]; have a0 := oa7 i55x8 i13 ((inv_F hI 0 2 rfl e_109_0)) i78 ((in_c 0 rfl)) i22x10b ((in_c 1 rfl)); have a7 := tx_i2l e17; have oc := oc_284_109; omega⟩, (by unfold GVL In; have a0 := oa7 i55x8 i13 ((inv_F hI 0 2 rfl e_109_0)) i78 ((in_c 0 rfl)) i22x10b ((in_c 1 rfl)); have a7 := tx_i2l e17; have oc := oc_284_109; omega)⟩, (by rw [← e_109_9]; have a0 := oa7 i55x8 i13 ((inv_F hI 0 2 rfl e_109_0)) i78 ((in_c 0 rfl)) i22x10b ((in_c 1 rfl)); have a7 := tx_i2l e17; have oc := oc_284_109; omega), (gvR_cg (L := ([], [], [(109, 0)], [])) (fr_sF rfl fr_rf) rfl)⟩)
                            have n93a : LGX s (sF s 109 0 (Int32.ofInt 1)) (Int32.ofInt 3) x1 x2 x3 (Int32.ofInt 0) (Int32.ofInt 0) (Int32.ofInt 0) := by exact Or.inl ⟨rfl, rfl, rfl, rfl, rfl, rfl, rfl, rfl⟩
                            have n93b : GSE s → GSE (sF s 109 0 (Int32.ofInt 1)) := by exact fun h => gse_fr (L := ([], [], [(109, 0)], [])) h (fr_sF rfl fr_rf) rfl
                            have n93c : G1S s (sF s 109 0 (Int32.ofInt 1)) := by exact ⟨rfl, fun _ _ => rfl, fun _ _ _ => ⟨rfl, rfl, rfl, rfl, rfl, rfl⟩⟩
                            exact g_ireturn (gd rfl) rfl rfl (hP _ _ ⟨(sF s 109 0 (Int32.ofInt 1)), hI86x18, (fr_sF rfl fr_rf), (Int32.ofInt 0), rfl, rfl, in_w (-1000000) 1000000 (in_c 0 rfl) rfl, n93, n93a, n93b, n93c⟩)
                    · skip
                      have i78 := r_lt1 0 3999 c78 (inv_F hI 0 4000 rfl e_109_9) (in_c 4000 rfl) rfl
                      refine g_iconst 1 82 (gd rfl) rfl rfl ?_
                      refine g_goto 86 (gd rfl) rfl ?_
                      refine g_callv (X := _) (As := [.int (Int32.ofInt 0), .int (Int32.ofInt 1)]) (r := []) (b := A 109) (q := 109) 89 (gd rfl) rfl rfl rfl rfl rfl (ww_o rfl) (Nat.le_of_ble_eq_true rfl) (mc := 0) (ms := 0) (Nat.zero_le _) (Nat.zero_le _) (P := fun v u => _) ?_ (fun e u h => h) (fun v u h => h)
                      intro po86 xx86 hp86 hx86
                      refine g_enter2 (k := 270) (N := 300) (by first | exact dq1 hd rfl | exact dq0 hd rfl | exact dq2 hd rfl | exact dq3 hd rfl | omega) rfl (Nat.le_of_ble_eq_true rfl) ?_
                      refine g_aload_n 1 (gd rfl) rfl rfl ?_
                      refine g_iload_n 2 (gd rfl) rfl rfl ?_
                      refine g_if_ne 5 9 (gd rfl) rfl rfl (fun c86x2 => ?_) (fun c86x2 => ?_)
                      · skip
                        exact zn_ne c86x2 (in_c 0 rfl) rfl
                      · skip
                        refine g_iconst 1 6 (gd rfl) rfl rfl ?_
                        refine g_goto 18 (gd rfl) rfl ?_
                        refine g_putI 21 (gd rfl) rfl rfl rfl rfl ?_
                        have hI86x18 := inv_sF (q := 109) (j := 0) hI rfl (in_w 0 2 (in_c 1 rfl) rfl)
                        refine g_aload_n 22 (gd rfl) rfl rfl ?_
                        refine g_getI 25 (gd rfl) rfl rfl rfl (fun z86x22 e86x22 => ?_)
                        have q86x22 : (Int32.ofInt 1) = z86x22 := (sF_get).trans e86x22.symm
                        subst q86x22
                        refine g_if_le 28 32 (gd rfl) rfl rfl (fun c86x25 => ?_) (fun c86x25 => ?_)
                        · skip
                          exact zn_le c86x25 (in_c 1 rfl) rfl
                        · skip
                          refine g_iconst 1 29 (gd rfl) rfl rfl ?_
                          refine g_goto 33 (gd rfl) rfl ?_
                          refine g_ireturn (gd rfl) rfl (nb01 (in_w 0 1 (in_c 1 rfl) rfl)) (hp86 _ _ ?_)
                          show GG _ _ _ _ _ _ _ _ [.int (Int32.ofInt 1)] _ _ _
                          refine g_if_eq 92 94 (gd rfl) rfl rfl (fun c89 => ?_) (fun c89 => ?_)
                          · skip
                            exact zn_eq c89 (in_c 1 rfl) rfl
                          · skip
                            refine g_iconst 0 93 (gd rfl) rfl rfl ?_
                            have n93 : CDR s (sF s 109 0 (Int32.ofInt 1)) (HAR s x1 ∧ GVL x2 x3) ((s.2.2.1 109 9).toInt ≤ 3999) (((Int32.ofInt 0)) = (if (x2).toInt = 0 then s.1 115 (x1).toNatClampNeg else if (x2).toInt = 1 then s.1 116 (x1).toNatClampNeg else s.1 117 (x1).toNatClampNeg) ∧ gvR (sF s 109 0 (Int32.ofInt 1)) = gqW (gvR s) (x1).toNatClampNeg x2 x3) := by first | exact Or.inl ⟨rfl, (by first | (unfold HAR GVL In; have a0 := oa7 i55x8 i13 ((inv_F hI 0 2 rfl e_109_0)) i78 ((in_c 0 rfl)) i22x10b ((in_c 1 rfl)); have a7 := tx_i2l e17; have oc := oc_284_109; omega) | (unfold HAR GVL In; rw [← e55x16]; have a0 := oa7 i55x8 i13 ((inv_F hI 0 2 rfl e_109_0)) i78 ((in_c 0 rfl)) i22x10b ((in_c 1 rfl)); have a7 := tx_i2l e17; have oc := oc_284_109; omega)), (gvR_cg (L := ([], [], [(109, 0)], [])) (fr_sF rfl fr_rf) rfl)⟩ | exact Or.inr (Or.inl ⟨rfl, ⟨⟨by have a0 := oa7 i55x8 i13 ((inv_F hI 0 2 rfl e_109_0)) i78 ((in_c 0 rfl)) i22x10b ((in_c 1 rfl)); have a7 := tx_i2l e17; have oc := oc_284_109; omega, by have a0 := oa7 i55x8 i13 ((inv_F hI 0 2 rfl e_109_0)) i78 ((in_c 0 rfl)) i22x10b ((in_c 1 rfl)); have a7 := tx_i2l e17; have oc := oc_284_109; omega, by rw [← e55x16]; have a0 := oa7 i55x8 i13 ((inv_F hI 0 2 rfl e_109_0)) i78 ((in_c 0 rfl)) i22x10b ((in_c 1 rfl)); have a7 := tx_i2l e17; have oc := oc_284_109; omega⟩, (by unfold GVL In; have a0 := oa7 i55x8 i13 ((inv_F hI 0 2 rfl e_109_0)) i78 ((in_c 0 rfl)) i22x10b ((in_c 1 rfl)); have a7 := tx_i2l e17; have oc := oc_284_109; omega)⟩, (by rw [← e_109_9]; have a0 := oa7 i55x8 i13 ((inv_F hI 0 2 rfl e_109_0)) i78 ((in_c 0 rfl)) i22x10b ((in_c 1 rfl)); have a7 := tx_i2l e17; have oc := oc_284_109; omega), (gvR_cg (L := ([], [], [(109, 0)], [])) (fr_sF rfl fr_rf) rfl)⟩)
                            have n93a : LGX s (sF s 109 0 (Int32.ofInt 1)) (Int32.ofInt 3) x1 x2 x3 (Int32.ofInt 0) (Int32.ofInt 0) (Int32.ofInt 0) := by exact Or.inl ⟨rfl, rfl, rfl, rfl, rfl, rfl, rfl, rfl⟩
                            have n93b : GSE s → GSE (sF s 109 0 (Int32.ofInt 1)) := by exact fun h => gse_fr (L := ([], [], [(109, 0)], [])) h (fr_sF rfl fr_rf) rfl
                            have n93c : G1S s (sF s 109 0 (Int32.ofInt 1)) := by exact ⟨rfl, fun _ _ => rfl, fun _ _ _ => ⟨rfl, rfl, rfl, rfl, rfl, rfl⟩⟩
                            exact g_ireturn (gd rfl) rfl rfl (hP _ _ ⟨(sF s 109 0 (Int32.ofInt 1)), hI86x18, (fr_sF rfl fr_rf), (Int32.ofInt 0), rfl, rfl, in_w (-1000000) 1000000 (in_c 0 rfl) rfl, n93, n93a, n93b, n93c⟩)
                  · skip
                    exact zn_ne c63 (in_c 0 rfl) rfl
        · skip
          have i22x10 := z_le (-1) 0 c22x10 i22x9 rfl
          have c22x10a := lc_le e22x9 c22x10
          have i22x10a := lr_le1 0 1000000 c22x10a i22x3a (l_c 1000000 rfl) rfl
          have i22x10b := l_b e17 i22x10a
          refine g_iconst 1 14 (gd rfl) rfl rfl ?_
          refine g_goto 18 (gd rfl) rfl ?_
          refine g_ireturn (gd rfl) rfl (nb01 (in_w 0 1 (in_c 1 rfl) rfl)) (hp22 _ _ ?_)
          show GG _ _ _ _ _ _ _ _ [.int (Int32.ofInt 1)] _ _ _
          refine g_goto 50 (gd rfl) rfl ?_
          refine g_istore 52 (gd rfl) rfl (Nat.le_of_ble_eq_true rfl) ?_
          refine g_aload_n 53 (gd rfl) rfl rfl ?_
          refine g_aload_n 54 (gd rfl) rfl rfl ?_
          refine g_iload_n 55 (gd rfl) rfl rfl ?_
          refine g_callv (X := _) (As := [.int x1]) (r := [.ref (A 109)]) (b := A 109) (q := 109) 58 (gd rfl) rfl rfl rfl rfl rfl (ww_o rfl) (Nat.le_of_ble_eq_true rfl) (mc := 0) (ms := 0) (Nat.zero_le _) (Nat.zero_le _) (P := fun v u => _) ?_ (fun e u h => h) (fun v u h => h)
          intro po55 xx55 hp55 hx55
          refine g_enter2 (k := 278) (N := 300) (by first | exact dq1 hd rfl | exact dq0 hd rfl | exact dq2 hd rfl | exact dq3 hd rfl | omega) rfl (Nat.le_of_ble_eq_true rfl) ?_
          refine g_iload_n 1 (gd rfl) rfl rfl ?_
          refine g_if_lt 4 24 (gd rfl) rfl rfl (fun c55x1 => ?_) (fun c55x1 => ?_)
          · skip
            have i55x1 := z_lt (-2147483648) (-1) c55x1 (i_rng x1) rfl
            refine g_iconst 0 25 (gd rfl) rfl rfl ?_
            refine g_ireturn (gd rfl) rfl (nb01 (in_w 0 1 (in_c 0 rfl) rfl)) (hp55 _ _ ?_)
            show GG _ _ _ _ _ _ _ _ [.int (Int32.ofInt 0), .ref (A 109)] _ _ _
            refine g_if_eq 61 70 (gd rfl) rfl rfl (fun c58 => ?_) (fun c58 => ?_)
            · skip
              refine g_iconst 0 71 (gd rfl) rfl rfl ?_
              refine g_aload_n 72 (gd rfl) rfl rfl ?_
              refine g_getI 75 (gd rfl) rfl rfl rfl (fun z72 e72 => ?_)
              have q72 : u_109_9 = z72 := (e_109_9).trans e72.symm
              subst q72
              refine g_sipush 4000 78 (gd rfl) rfl rfl ?_
              refine g_cmp_ge 81 85 (gd rfl) rfl rfl (fun c78 => ?_) (fun c78 => ?_)
              · skip
                have i78 := r_le2 4000 4000 c78 (in_c 4000 rfl) (inv_F hI 0 4000 rfl e_109_9) rfl
                refine g_iconst 0 86 (gd rfl) rfl rfl ?_
                refine g_callv (X := _) (As := [.int (Int32.ofInt 0), .int (Int32.ofInt 0)]) (r := []) (b := A 109) (q := 109) 89 (gd rfl) rfl rfl rfl rfl rfl (ww_o rfl) (Nat.le_of_ble_eq_true rfl) (mc := 0) (ms := 0) (Nat.zero_le _) (Nat.zero_le _) (P := fun v u => _) ?_ (fun e u h => h) (fun v u h => h)
                intro po86 xx86 hp86 hx86
                refine g_enter2 (k := 270) (N := 300) (by first | exact dq1 hd rfl | exact dq0 hd rfl | exact dq2 hd rfl | exact dq3 hd rfl | omega) rfl (Nat.le_of_ble_eq_true rfl) ?_
                refine g_aload_n 1 (gd rfl) rfl rfl ?_
                refine g_iload_n 2 (gd rfl) rfl rfl ?_
                refine g_if_ne 5 9 (gd rfl) rfl rfl (fun c86x2 => ?_) (fun c86x2 => ?_)
                · skip
                  exact zn_ne c86x2 (in_c 0 rfl) rfl
                · skip
                  refine g_iconst 1 6 (gd rfl) rfl rfl ?_
                  refine g_goto 18 (gd rfl) rfl ?_
                  refine g_putI 21 (gd rfl) rfl rfl rfl rfl ?_
                  have hI86x18 := inv_sF (q := 109) (j := 0) hI rfl (in_w 0 2 (in_c 1 rfl) rfl)
                  refine g_aload_n 22 (gd rfl) rfl rfl ?_
                  refine g_getI 25 (gd rfl) rfl rfl rfl (fun z86x22 e86x22 => ?_)
                  have q86x22 : (Int32.ofInt 1) = z86x22 := (sF_get).trans e86x22.symm
                  subst q86x22
                  refine g_if_le 28 32 (gd rfl) rfl rfl (fun c86x25 => ?_) (fun c86x25 => ?_)
                  · skip
                    exact zn_le c86x25 (in_c 1 rfl) rfl
                  · skip
                    refine g_iconst 1 29 (gd rfl) rfl rfl ?_
                    refine g_goto 33 (gd rfl) rfl ?_
                    refine g_ireturn (gd rfl) rfl (nb01 (in_w 0 1 (in_c 1 rfl) rfl)) (hp86 _ _ ?_)
                    show GG _ _ _ _ _ _ _ _ [.int (Int32.ofInt 1)] _ _ _
                    refine g_if_eq 92 94 (gd rfl) rfl rfl (fun c89 => ?_) (fun c89 => ?_)
                    · skip
                      exact zn_eq c89 (in_c 1 rfl) rfl
                    · skip
                      refine g_iconst 0 93 (gd rfl) rfl rfl ?_
                      have n93 : CDR s (sF s 109 0 (Int32.ofInt 1)) (HAR s x1 ∧ GVL x2 x3) ((s.2.2.1 109 9).toInt ≤ 3999) (((Int32.ofInt 0)) = (if (x2).toInt = 0 then s.1 115 (x1).toNatClampNeg else if (x2).toInt = 1 then s.1 116 (x1).toNatClampNeg else s.1 117 (x1).toNatClampNeg) ∧ gvR (sF s 109 0 (Int32.ofInt 1)) = gqW (gvR s) (x1).toNatClampNeg x2 x3) := by first | exact Or.inl ⟨rfl, (by first | (unfold HAR GVL In; have a0 := oa6 i22x10b i13 ((inv_F hI 0 2 rfl e_109_0)) i78 ((in_c 1 rfl)) i55x1; have a6 := tx_i2l e17; have oc := oc_284_109; omega) | (unfold HAR GVL In; rw [← e55x16]; have a0 := oa6 i22x10b i13 ((inv_F hI 0 2 rfl e_109_0)) i78 ((in_c 1 rfl)) i55x1; have a6 := tx_i2l e17; have oc := oc_284_109; omega)), (gvR_cg (L := ([], [], [(109, 0)], [])) (fr_sF rfl fr_rf) rfl)⟩ | exact Or.inr (Or.inl ⟨rfl, ⟨⟨by have a0 := oa6 i22x10b i13 ((inv_F hI 0 2 rfl e_109_0)) i78 ((in_c 1 rfl)) i55x1; have a6 := tx_i2l e17; have oc := oc_284_109; omega, by have a0 := oa6 i22x10b i13 ((inv_F hI 0 2 rfl e_109_0)) i78 ((in_c 1 rfl)) i55x1; have a6 := tx_i2l e17; have oc := oc_284_109; omega, by rw [← e55x16]; have a0 := oa6 i22x10b i13 ((inv_F hI 0 2 rfl e_109_0)) i78 ((in_c 1 rfl)) i55x1; have a6 := tx_i2l e17; have oc := oc_284_109; omega⟩, (by unfold GVL In; have a0 := oa6 i22x10b i13 ((inv_F hI 0 2 rfl e_109_0)) i78 ((in_c 1 rfl)) i55x1; have a6 := tx_i2l e17; have oc := oc_284_109; omega)⟩, (by rw [← e_109_9]; have a0 := oa6 i22x10b i13 ((inv_F hI 0 2 rfl e_109_0)) i78 ((in_c 1 rfl)) i55x1; have a6 := tx_i2l e17; have oc := oc_284_109; omega), (gvR_cg (L := ([], [], [(109, 0)], [])) (fr_sF rfl fr_rf) rfl)⟩)
                      have n93a : LGX s (sF s 109 0 (Int32.ofInt 1)) (Int32.ofInt 3) x1 x2 x3 (Int32.ofInt 0) (Int32.ofInt 0) (Int32.ofInt 0) := by exact Or.inl ⟨rfl, rfl, rfl, rfl, rfl, rfl, rfl, rfl⟩
                      have n93b : GSE s → GSE (sF s 109 0 (Int32.ofInt 1)) := by exact fun h => gse_fr (L := ([], [], [(109, 0)], [])) h (fr_sF rfl fr_rf) rfl
                      have n93c : G1S s (sF s 109 0 (Int32.ofInt 1)) := by exact ⟨rfl, fun _ _ => rfl, fun _ _ _ => ⟨rfl, rfl, rfl, rfl, rfl, rfl⟩⟩
                      exact g_ireturn (gd rfl) rfl rfl (hP _ _ ⟨(sF s 109 0 (Int32.ofInt 1)), hI86x18, (fr_sF rfl fr_rf), (Int32.ofInt 0), rfl, rfl, in_w (-1000000) 1000000 (in_c 0 rfl) rfl, n93, n93a, n93b, n93c⟩)
              · skip
                have i78 := r_lt1 0 3999 c78 (inv_F hI 0 4000 rfl e_109_9) (in_c 4000 rfl) rfl
                refine g_iconst 1 82 (gd rfl) rfl rfl ?_
                refine g_goto 86 (gd rfl) rfl ?_
                refine g_callv (X := _) (As := [.int (Int32.ofInt 0), .int (Int32.ofInt 1)]) (r := []) (b := A 109) (q := 109) 89 (gd rfl) rfl rfl rfl rfl rfl (ww_o rfl) (Nat.le_of_ble_eq_true rfl) (mc := 0) (ms := 0) (Nat.zero_le _) (Nat.zero_le _) (P := fun v u => _) ?_ (fun e u h => h) (fun v u h => h)
                intro po86 xx86 hp86 hx86
                refine g_enter2 (k := 270) (N := 300) (by first | exact dq1 hd rfl | exact dq0 hd rfl | exact dq2 hd rfl | exact dq3 hd rfl | omega) rfl (Nat.le_of_ble_eq_true rfl) ?_
                refine g_aload_n 1 (gd rfl) rfl rfl ?_
                refine g_iload_n 2 (gd rfl) rfl rfl ?_
                refine g_if_ne 5 9 (gd rfl) rfl rfl (fun c86x2 => ?_) (fun c86x2 => ?_)
                · skip
                  exact zn_ne c86x2 (in_c 0 rfl) rfl
                · skip
                  refine g_iconst 1 6 (gd rfl) rfl rfl ?_
                  refine g_goto 18 (gd rfl) rfl ?_
                  refine g_putI 21 (gd rfl) rfl rfl rfl rfl ?_
                  have hI86x18 := inv_sF (q := 109) (j := 0) hI rfl (in_w 0 2 (in_c 1 rfl) rfl)
                  refine g_aload_n 22 (gd rfl) rfl rfl ?_
                  refine g_getI 25 (gd rfl) rfl rfl rfl (fun z86x22 e86x22 => ?_)
                  have q86x22 : (Int32.ofInt 1) = z86x22 := (sF_get).trans e86x22.symm
                  subst q86x22
                  refine g_if_le 28 32 (gd rfl) rfl rfl (fun c86x25 => ?_) (fun c86x25 => ?_)
                  · skip
                    exact zn_le c86x25 (in_c 1 rfl) rfl
                  · skip
                    refine g_iconst 1 29 (gd rfl) rfl rfl ?_
                    refine g_goto 33 (gd rfl) rfl ?_
                    refine g_ireturn (gd rfl) rfl (nb01 (in_w 0 1 (in_c 1 rfl) rfl)) (hp86 _ _ ?_)
                    show GG _ _ _ _ _ _ _ _ [.int (Int32.ofInt 1)] _ _ _
                    refine g_if_eq 92 94 (gd rfl) rfl rfl (fun c89 => ?_) (fun c89 => ?_)
                    · skip
                      exact zn_eq c89 (in_c 1 rfl) rfl
                    · skip
                      refine g_iconst 0 93 (gd rfl) rfl rfl ?_
                      have n93 : CDR s (sF s 109 0 (Int32.ofInt 1)) (HAR s x1 ∧ GVL x2 x3) ((s.2.2.1 109 9).toInt ≤ 3999) (((Int32.ofInt 0)) = (if (x2).toInt = 0 then s.1 115 (x1).toNatClampNeg else if (x2).toInt = 1 then s.1 116 (x1).toNatClampNeg else s.1 117 (x1).toNatClampNeg) ∧ gvR (sF s 109 0 (Int32.ofInt 1)) = gqW (gvR s) (x1).toNatClampNeg x2 x3) := by first | exact Or.inl ⟨rfl, (by first | (unfold HAR GVL In; have a0 := oa6 i22x10b i13 ((inv_F hI 0 2 rfl e_109_0)) i78 ((in_c 1 rfl)) i55x1; have a6 := tx_i2l e17; have oc := oc_284_109; omega) | (unfold HAR GVL In; rw [← e55x16]; have a0 := oa6 i22x10b i13 ((inv_F hI 0 2 rfl e_109_0)) i78 ((in_c 1 rfl)) i55x1; have a6 := tx_i2l e17; have oc := oc_284_109; omega)), (gvR_cg (L := ([], [], [(109, 0)], [])) (fr_sF rfl fr_rf) rfl)⟩ | exact Or.inr (Or.inl ⟨rfl, ⟨⟨by have a0 := oa6 i22x10b i13 ((inv_F hI 0 2 rfl e_109_0)) i78 ((in_c 1 rfl)) i55x1; have a6 := tx_i2l e17; have oc := oc_284_109; omega, by have a0 := oa6 i22x10b i13 ((inv_F hI 0 2 rfl e_109_0)) i78 ((in_c 1 rfl)) i55x1; have a6 := tx_i2l e17; have oc := oc_284_109; omega, by rw [← e55x16]; have a0 := oa6 i22x10b i13 ((inv_F hI 0 2 rfl e_109_0)) i78 ((in_c 1 rfl)) i55x1; have a6 := tx_i2l e17; have oc := oc_284_109; omega⟩, (by unfold GVL In; have a0 := oa6 i22x10b i13 ((inv_F hI 0 2 rfl e_109_0)) i78 ((in_c 1 rfl)) i55x1; have a6 := tx_i2l e17; have oc := oc_284_109; omega)⟩, (by rw [← e_109_9]; have a0 := oa6 i22x10b i13 ((inv_F hI 0 2 rfl e_109_0)) i78 ((in_c 1 rfl)) i55x1; have a6 := tx_i2l e17; have oc := oc_284_109; omega), (gvR_cg (L := ([], [], [(109, 0)], [])) (fr_sF rfl fr_rf) rfl)⟩)
                      have n93a : LGX s (sF s 109 0 (Int32.ofInt 1)) (Int32.ofInt 3) x1 x2 x3 (Int32.ofInt 0) (Int32.ofInt 0) (Int32.ofInt 0) := by exact Or.inl ⟨rfl, rfl, rfl, rfl, rfl, rfl, rfl, rfl⟩
                      have n93b : GSE s → GSE (sF s 109 0 (Int32.ofInt 1)) := by exact fun h => gse_fr (L := ([], [], [(109, 0)], [])) h (fr_sF rfl fr_rf) rfl
                      have n93c : G1S s (sF s 109 0 (Int32.ofInt 1)) := by exact ⟨rfl, fun _ _ => rfl, fun _ _ _ => ⟨rfl, rfl, rfl, rfl, rfl, rfl⟩⟩
                      exact g_ireturn (gd rfl) rfl rfl (hP _ _ ⟨(sF s 109 0 (Int32.ofInt 1)), hI86x18, (fr_sF rfl fr_rf), (Int32.ofInt 0), rfl, rfl, in_w (-1000000) 1000000 (in_c 0 rfl) rfl, n93, n93a, n93b, n93c⟩)
            · skip
              exact zn_ne c58 (in_c 0 rfl) rfl
          · skip
            have i55x1 := z_ge 0 2147483647 c55x1 (i_rng x1) rfl
            refine g_iload_n 5 (gd rfl) rfl rfl ?_
            refine g_sipush 160 8 (gd rfl) rfl rfl ?_
            refine g_cmp_ge 11 24 (gd rfl) rfl rfl (fun c55x8 => ?_) (fun c55x8 => ?_)
            · skip
              have i55x8 := r_le2 160 2147483647 c55x8 (in_c 160 rfl) i55x1 rfl
              refine g_iconst 0 25 (gd rfl) rfl rfl ?_
              refine g_ireturn (gd rfl) rfl (nb01 (in_w 0 1 (in_c 0 rfl) rfl)) (hp55 _ _ ?_)
              show GG _ _ _ _ _ _ _ _ [.int (Int32.ofInt 0), .ref (A 109)] _ _ _
              refine g_if_eq 61 70 (gd rfl) rfl rfl (fun c58 => ?_) (fun c58 => ?_)
              · skip
                refine g_iconst 0 71 (gd rfl) rfl rfl ?_
                refine g_aload_n 72 (gd rfl) rfl rfl ?_
                refine g_getI 75 (gd rfl) rfl rfl rfl (fun z72 e72 => ?_)
                have q72 : u_109_9 = z72 := (e_109_9).trans e72.symm
                subst q72
                refine g_sipush 4000 78 (gd rfl) rfl rfl ?_
                refine g_cmp_ge 81 85 (gd rfl) rfl rfl (fun c78 => ?_) (fun c78 => ?_)
                · skip
                  have i78 := r_le2 4000 4000 c78 (in_c 4000 rfl) (inv_F hI 0 4000 rfl e_109_9) rfl
                  refine g_iconst 0 86 (gd rfl) rfl rfl ?_
                  refine g_callv (X := _) (As := [.int (Int32.ofInt 0), .int (Int32.ofInt 0)]) (r := []) (b := A 109) (q := 109) 89 (gd rfl) rfl rfl rfl rfl rfl (ww_o rfl) (Nat.le_of_ble_eq_true rfl) (mc := 0) (ms := 0) (Nat.zero_le _) (Nat.zero_le _) (P := fun v u => _) ?_ (fun e u h => h) (fun v u h => h)
                  intro po86 xx86 hp86 hx86
                  refine g_enter2 (k := 270) (N := 300) (by first | exact dq1 hd rfl | exact dq0 hd rfl | exact dq2 hd rfl | exact dq3 hd rfl | omega) rfl (Nat.le_of_ble_eq_true rfl) ?_
                  refine g_aload_n 1 (gd rfl) rfl rfl ?_
                  refine g_iload_n 2 (gd rfl) rfl rfl ?_
                  refine g_if_ne 5 9 (gd rfl) rfl rfl (fun c86x2 => ?_) (fun c86x2 => ?_)
                  · skip
                    exact zn_ne c86x2 (in_c 0 rfl) rfl
                  · skip
                    refine g_iconst 1 6 (gd rfl) rfl rfl ?_
                    refine g_goto 18 (gd rfl) rfl ?_
                    refine g_putI 21 (gd rfl) rfl rfl rfl rfl ?_
                    have hI86x18 := inv_sF (q := 109) (j := 0) hI rfl (in_w 0 2 (in_c 1 rfl) rfl)
                    refine g_aload_n 22 (gd rfl) rfl rfl ?_
                    refine g_getI 25 (gd rfl) rfl rfl rfl (fun z86x22 e86x22 => ?_)
                    have q86x22 : (Int32.ofInt 1) = z86x22 := (sF_get).trans e86x22.symm
                    subst q86x22
                    refine g_if_le 28 32 (gd rfl) rfl rfl (fun c86x25 => ?_) (fun c86x25 => ?_)
                    · skip
                      exact zn_le c86x25 (in_c 1 rfl) rfl
                    · skip
                      refine g_iconst 1 29 (gd rfl) rfl rfl ?_
                      refine g_goto 33 (gd rfl) rfl ?_
                      refine g_ireturn (gd rfl) rfl (nb01 (in_w 0 1 (in_c 1 rfl) rfl)) (hp86 _ _ ?_)
                      show GG _ _ _ _ _ _ _ _ [.int (Int32.ofInt 1)] _ _ _
                      refine g_if_eq 92 94 (gd rfl) rfl rfl (fun c89 => ?_) (fun c89 => ?_)
                      · skip
                        exact zn_eq c89 (in_c 1 rfl) rfl
                      · skip
                        refine g_iconst 0 93 (gd rfl) rfl rfl ?_
                        have n93 : CDR s (sF s 109 0 (Int32.ofInt 1)) (HAR s x1 ∧ GVL x2 x3) ((s.2.2.1 109 9).toInt ≤ 3999) (((Int32.ofInt 0)) = (if (x2).toInt = 0 then s.1 115 (x1).toNatClampNeg else if (x2).toInt = 1 then s.1 116 (x1).toNatClampNeg else s.1 117 (x1).toNatClampNeg) ∧ gvR (sF s 109 0 (Int32.ofInt 1)) = gqW (gvR s) (x1).toNatClampNeg x2 x3) := by first | exact Or.inl ⟨rfl, (by first | (unfold HAR GVL In; have a0 := oa6 i22x10b i13 ((inv_F hI 0 2 rfl e_109_0)) i78 ((in_c 1 rfl)) i55x8; have a6 := tx_i2l e17; have oc := oc_284_109; omega) | (unfold HAR GVL In; rw [← e55x16]; have a0 := oa6 i22x10b i13 ((inv_F hI 0 2 rfl e_109_0)) i78 ((in_c 1 rfl)) i55x8; have a6 := tx_i2l e17; have oc := oc_284_109; omega)), (gvR_cg (L := ([], [], [(109, 0)], [])) (fr_sF rfl fr_rf) rfl)⟩ | exact Or.inr (Or.inl ⟨rfl, ⟨⟨by have a0 := oa6 i22x10b i13 ((inv_F hI 0 2 rfl e_109_0)) i78 ((in_c 1 rfl)) i55x8; have a6 := tx_i2l e17; have oc := oc_284_109; omega, by have a0 := oa6 i22x10b i13 ((inv_F hI 0 2 rfl e_109_0)) i78 ((in_c 1 rfl)) i55x8; have a6 := tx_i2l e17; have oc := oc_284_109; omega, by rw [← e55x16]; have a0 := oa6 i22x10b i13 ((inv_F hI 0 2 rfl e_109_0)) i78 ((in_c 1 rfl)) i55x8; have a6 := tx_i2l e17; have oc := oc_284_109; omega⟩, (by unfold GVL In; have a0 := oa6 i22x10b i13 ((inv_F hI 0 2 rfl e_109_0)) i78 ((in_c 1 rfl)) i55x8; have a6 := tx_i2l e17; have oc := oc_284_109; omega)⟩, (by rw [← e_109_9]; have a0 := oa6 i22x10b i13 ((inv_F hI 0 2 rfl e_109_0)) i78 ((in_c 1 rfl)) i55x8; have a6 := tx_i2l e17; have oc := oc_284_109; omega), (gvR_cg (L := ([], [], [(109, 0)], [])) (fr_sF rfl fr_rf) rfl)⟩)
                        have n93a : LGX s (sF s 109 0 (Int32.ofInt 1)) (Int32.ofInt 3) x1 x2 x3 (Int32.ofInt 0) (Int32.ofInt 0) (Int32.ofInt 0) := by exact Or.inl ⟨rfl, rfl, rfl, rfl, rfl, rfl, rfl, rfl⟩
                        have n93b : GSE s → GSE (sF s 109 0 (Int32.ofInt 1)) := by exact fun h => gse_fr (L := ([], [], [(109, 0)], [])) h (fr_sF rfl fr_rf) rfl
                        have n93c : G1S s (sF s 109 0 (Int32.ofInt 1)) := by exact ⟨rfl, fun _ _ => rfl, fun _ _ _ => ⟨rfl, rfl, rfl, rfl, rfl, rfl⟩⟩
                        exact g_ireturn (gd rfl) rfl rfl (hP _ _ ⟨(sF s 109 0 (Int32.ofInt 1)), hI86x18, (fr_sF rfl fr_rf), (Int32.ofInt 0), rfl, rfl, in_w (-1000000) 1000000 (in_c 0 rfl) rfl, n93, n93a, n93b, n93c⟩)
                · skip
                  have i78 := r_lt1 0 3999 c78 (inv_F hI 0 4000 rfl e_109_9) (in_c 4000 rfl) rfl
                  refine g_iconst 1 82 (gd rfl) rfl rfl ?_
                  refine g_goto 86 (gd rfl) rfl ?_
                  refine g_callv (X := _) (As := [.int (Int32.ofInt 0), .int (Int32.ofInt 1)]) (r := []) (b := A 109) (q := 109) 89 (gd rfl) rfl rfl rfl rfl rfl (ww_o rfl) (Nat.le_of_ble_eq_true rfl) (mc := 0) (ms := 0) (Nat.zero_le _) (Nat.zero_le _) (P := fun v u => _) ?_ (fun e u h => h) (fun v u h => h)
                  intro po86 xx86 hp86 hx86
                  refine g_enter2 (k := 270) (N := 300) (by first | exact dq1 hd rfl | exact dq0 hd rfl | exact dq2 hd rfl | exact dq3 hd rfl | omega) rfl (Nat.le_of_ble_eq_true rfl) ?_
                  refine g_aload_n 1 (gd rfl) rfl rfl ?_
                  refine g_iload_n 2 (gd rfl) rfl rfl ?_
                  refine g_if_ne 5 9 (gd rfl) rfl rfl (fun c86x2 => ?_) (fun c86x2 => ?_)
                  · skip
                    exact zn_ne c86x2 (in_c 0 rfl) rfl
                  · skip
                    refine g_iconst 1 6 (gd rfl) rfl rfl ?_
                    refine g_goto 18 (gd rfl) rfl ?_
                    refine g_putI 21 (gd rfl) rfl rfl rfl rfl ?_
                    have hI86x18 := inv_sF (q := 109) (j := 0) hI rfl (in_w 0 2 (in_c 1 rfl) rfl)
                    refine g_aload_n 22 (gd rfl) rfl rfl ?_
                    refine g_getI 25 (gd rfl) rfl rfl rfl (fun z86x22 e86x22 => ?_)
                    have q86x22 : (Int32.ofInt 1) = z86x22 := (sF_get).trans e86x22.symm
                    subst q86x22
                    refine g_if_le 28 32 (gd rfl) rfl rfl (fun c86x25 => ?_) (fun c86x25 => ?_)
                    · skip
                      exact zn_le c86x25 (in_c 1 rfl) rfl
                    · skip
                      refine g_iconst 1 29 (gd rfl) rfl rfl ?_
                      refine g_goto 33 (gd rfl) rfl ?_
                      refine g_ireturn (gd rfl) rfl (nb01 (in_w 0 1 (in_c 1 rfl) rfl)) (hp86 _ _ ?_)
                      show GG _ _ _ _ _ _ _ _ [.int (Int32.ofInt 1)] _ _ _
                      refine g_if_eq 92 94 (gd rfl) rfl rfl (fun c89 => ?_) (fun c89 => ?_)
                      · skip
                        exact zn_eq c89 (in_c 1 rfl) rfl
                      · skip
                        refine g_iconst 0 93 (gd rfl) rfl rfl ?_
                        have n93 : CDR s (sF s 109 0 (Int32.ofInt 1)) (HAR s x1 ∧ GVL x2 x3) ((s.2.2.1 109 9).toInt ≤ 3999) (((Int32.ofInt 0)) = (if (x2).toInt = 0 then s.1 115 (x1).toNatClampNeg else if (x2).toInt = 1 then s.1 116 (x1).toNatClampNeg else s.1 117 (x1).toNatClampNeg) ∧ gvR (sF s 109 0 (Int32.ofInt 1)) = gqW (gvR s) (x1).toNatClampNeg x2 x3) := by first | exact Or.inl ⟨rfl, (by first | (unfold HAR GVL In; have a0 := oa6 i22x10b i13 ((inv_F hI 0 2 rfl e_109_0)) i78 ((in_c 1 rfl)) i55x8; have a6 := tx_i2l e17; have oc := oc_284_109; omega) | (unfold HAR GVL In; rw [← e55x16]; have a0 := oa6 i22x10b i13 ((inv_F hI 0 2 rfl e_109_0)) i78 ((in_c 1 rfl)) i55x8; have a6 := tx_i2l e17; have oc := oc_284_109; omega)), (gvR_cg (L := ([], [], [(109, 0)], [])) (fr_sF rfl fr_rf) rfl)⟩ | exact Or.inr (Or.inl ⟨rfl, ⟨⟨by have a0 := oa6 i22x10b i13 ((inv_F hI 0 2 rfl e_109_0)) i78 ((in_c 1 rfl)) i55x8; have a6 := tx_i2l e17; have oc := oc_284_109; omega, by have a0 := oa6 i22x10b i13 ((inv_F hI 0 2 rfl e_109_0)) i78 ((in_c 1 rfl)) i55x8; have a6 := tx_i2l e17; have oc := oc_284_109; omega, by rw [← e55x16]; have a0 := oa6 i22x10b i13 ((inv_F hI 0 2 rfl e_109_0)) i78 ((in_c 1 rfl)) i55x8; have a6 := tx_i2l e17; have oc := oc_284_109; omega⟩, (by unfold GVL In; have a0 := oa6 i22x10b i13 ((inv_F hI 0 2 rfl e_109_0)) i78 ((in_c 1 rfl)) i55x8; have a6 := tx_i2l e17; have oc := oc_284_109; omega)⟩, (by rw [← e_109_9]; have a0 := oa6 i22x10b i13 ((inv_F hI 0 2 rfl e_109_0)) i78 ((in_c 1 rfl)) i55x8; have a6 := tx_i2l e17; have oc := oc_284_109; omega), (gvR_cg (L := ([], [], [(109, 0)], [])) (fr_sF rfl fr_rf) rfl)⟩)
                        have n93a : LGX s (sF s 109 0 (Int32.ofInt 1)) (Int32.ofInt 3) x1 x2 x3 (Int32.ofInt 0) (Int32.ofInt 0) (Int32.ofInt 0) := by exact Or.inl ⟨rfl, rfl, rfl, rfl, rfl, rfl, rfl, rfl⟩
                        have n93b : GSE s → GSE (sF s 109 0 (Int32.ofInt 1)) := by exact fun h => gse_fr (L := ([], [], [(109, 0)], [])) h (fr_sF rfl fr_rf) rfl
                        have n93c : G1S s (sF s 109 0 (Int32.ofInt 1)) := by exact ⟨rfl, fun _ _ => rfl, fun _ _ _ => ⟨rfl, rfl, rfl, rfl, rfl, rfl⟩⟩
                        exact g_ireturn (gd rfl) rfl rfl (hP _ _ ⟨(sF s 109 0 (Int32.ofInt 1)), hI86x18, (fr_sF rfl fr_rf), (Int32.ofInt 0), rfl, rfl, in_w (-1000000) 1000000 (in_c 0 rfl) rfl, n93, n93a, n93b, n93c⟩)
              · skip
                exact zn_ne c58 (in_c 0 rfl) rfl
            · skip
              have i55x8 := r_lt1 0 159 c55x8 i55x1 (in_c 160 rfl) rfl
              refine g_aload_n 12 (gd rfl) rfl rfl ?_
              refine g_getA (q2 := 112) 15 (gd rfl) rfl rfl rfl rfl ?_
              refine g_iload_n 16 (gd rfl) rfl rfl ?_
              refine g_baload 17 (gd rfl) rfl (n := 480) rfl (in_ix i55x8 rfl) (fun z55x16 e55x16 => ?_)
              have i55x16 := inv_I hI (n := 480) (t := 3) 0 1 rfl (in_ix i55x8 rfl) rfl e55x16
              refine g_if_eq 20 24 (gd rfl) rfl rfl (fun c55x17 => ?_) (fun c55x17 => ?_)
              · skip
                have i55x17 := z_eq 0 0 c55x17 i55x16 rfl
                refine g_iconst 0 25 (gd rfl) rfl rfl ?_
                refine g_ireturn (gd rfl) rfl (nb01 (in_w 0 1 (in_c 0 rfl) rfl)) (hp55 _ _ ?_)
                show GG _ _ _ _ _ _ _ _ [.int (Int32.ofInt 0), .ref (A 109)] _ _ _
                refine g_if_eq 61 70 (gd rfl) rfl rfl (fun c58 => ?_) (fun c58 => ?_)
                · skip
                  refine g_iconst 0 71 (gd rfl) rfl rfl ?_
                  refine g_aload_n 72 (gd rfl) rfl rfl ?_
                  refine g_getI 75 (gd rfl) rfl rfl rfl (fun z72 e72 => ?_)
                  have q72 : u_109_9 = z72 := (e_109_9).trans e72.symm
                  subst q72
                  refine g_sipush 4000 78 (gd rfl) rfl rfl ?_
                  refine g_cmp_ge 81 85 (gd rfl) rfl rfl (fun c78 => ?_) (fun c78 => ?_)
                  · skip
                    have i78 := r_le2 4000 4000 c78 (in_c 4000 rfl) (inv_F hI 0 4000 rfl e_109_9) rfl
                    refine g_iconst 0 86 (gd rfl) rfl rfl ?_
                    refine g_callv (X := _) (As := [.int (Int32.ofInt 0), .int (Int32.ofInt 0)]) (r := []) (b := A 109) (q := 109) 89 (gd rfl) rfl rfl rfl rfl rfl (ww_o rfl) (Nat.le_of_ble_eq_true rfl) (mc := 0) (ms := 0) (Nat.zero_le _) (Nat.zero_le _) (P := fun v u => _) ?_ (fun e u h => h) (fun v u h => h)
                    intro po86 xx86 hp86 hx86
                    refine g_enter2 (k := 270) (N := 300) (by first | exact dq1 hd rfl | exact dq0 hd rfl | exact dq2 hd rfl | exact dq3 hd rfl | omega) rfl (Nat.le_of_ble_eq_true rfl) ?_
                    refine g_aload_n 1 (gd rfl) rfl rfl ?_
                    refine g_iload_n 2 (gd rfl) rfl rfl ?_
                    refine g_if_ne 5 9 (gd rfl) rfl rfl (fun c86x2 => ?_) (fun c86x2 => ?_)
                    · skip
                      exact zn_ne c86x2 (in_c 0 rfl) rfl
                    · skip
                      refine g_iconst 1 6 (gd rfl) rfl rfl ?_
                      refine g_goto 18 (gd rfl) rfl ?_
                      refine g_putI 21 (gd rfl) rfl rfl rfl rfl ?_
                      have hI86x18 := inv_sF (q := 109) (j := 0) hI rfl (in_w 0 2 (in_c 1 rfl) rfl)
                      refine g_aload_n 22 (gd rfl) rfl rfl ?_
                      refine g_getI 25 (gd rfl) rfl rfl rfl (fun z86x22 e86x22 => ?_)
                      have q86x22 : (Int32.ofInt 1) = z86x22 := (sF_get).trans e86x22.symm
                      subst q86x22
                      refine g_if_le 28 32 (gd rfl) rfl rfl (fun c86x25 => ?_) (fun c86x25 => ?_)
                      · skip
                        exact zn_le c86x25 (in_c 1 rfl) rfl
                      · skip
                        refine g_iconst 1 29 (gd rfl) rfl rfl ?_
                        refine g_goto 33 (gd rfl) rfl ?_
                        refine g_ireturn (gd rfl) rfl (nb01 (in_w 0 1 (in_c 1 rfl) rfl)) (hp86 _ _ ?_)
                        show GG _ _ _ _ _ _ _ _ [.int (Int32.ofInt 1)] _ _ _
                        refine g_if_eq 92 94 (gd rfl) rfl rfl (fun c89 => ?_) (fun c89 => ?_)
                        · skip
                          exact zn_eq c89 (in_c 1 rfl) rfl
                        · skip
                          refine g_iconst 0 93 (gd rfl) rfl rfl ?_
                          have n93 : CDR s (sF s 109 0 (Int32.ofInt 1)) (HAR s x1 ∧ GVL x2 x3) ((s.2.2.1 109 9).toInt ≤ 3999) (((Int32.ofInt 0)) = (if (x2).toInt = 0 then s.1 115 (x1).toNatClampNeg else if (x2).toInt = 1 then s.1 116 (x1).toNatClampNeg else s.1 117 (x1).toNatClampNeg) ∧ gvR (sF s 109 0 (Int32.ofInt 1)) = gqW (gvR s) (x1).toNatClampNeg x2 x3) := by first | exact Or.inl ⟨rfl, (by first | (unfold HAR GVL In; have a0 := oa6 i55x8 i22x10b i13 ((inv_F hI 0 2 rfl e_109_0)) i78 ((in_c 1 rfl)); have a6 := tx_i2l e17; have oc := oc_284_109; omega) | (unfold HAR GVL In; rw [← e55x16]; have a0 := oa6 i55x8 i22x10b i13 ((inv_F hI 0 2 rfl e_109_0)) i78 ((in_c 1 rfl)); have a6 := tx_i2l e17; have oc := oc_284_109; omega)), (gvR_cg (L := ([], [], [(109, 0)], [])) (fr_sF rfl fr_rf) rfl)⟩ | exact Or.inr (Or.inl ⟨rfl, ⟨⟨by have a0 := oa6 i55x8 i22x10b i13 ((inv_F hI 0 2 rfl e_109_0)) i78 ((in_c 1 rfl)); have a6 := tx_i2l e17; have oc := oc_284_109; omega, by have a0 := oa6 i55x8 i22x10b i13 ((inv_F hI 0 2 rfl e_109_0)) i78 ((in_c 1 rfl)); have a6 := tx_i2l e17; have oc := oc_284_109; omega, by rw [← e55x16]; have a0 := oa6 i55x8 i22x10b i13 ((inv_F hI 0 2 rfl e_109_0)) i78 ((in_c 1 rfl)); have a6 := tx_i2l e17; have oc := oc_284_109; omega⟩, (by unfold GVL In; have a0 := oa6 i55x8 i22x10b i13 ((inv_F hI 0 2 rfl e_109_0)) i78 ((in_c 1 rfl)); have a6 := tx_i2l e17; have oc := oc_284_109; omega)⟩, (by rw [← e_109_9]; have a0 := oa6 i55x8 i22x10b i13 ((inv_F hI 0 2 rfl e_109_0)) i78 ((in_c 1 rfl)); have a6 := tx_i2l e17; have oc := oc_284_109; omega), (gvR_cg (L := ([], [], [(109, 0)], [])) (fr_sF rfl fr_rf) rfl)⟩)
                          have n93a : LGX s (sF s 109 0 (Int32.ofInt 1)) (Int32.ofInt 3) x1 x2 x3 (Int32.ofInt 0) (Int32.ofInt 0) (Int32.ofInt 0) := by exact Or.inl ⟨rfl, rfl, rfl, rfl, rfl, rfl, rfl, rfl⟩
                          have n93b : GSE s → GSE (sF s 109 0 (Int32.ofInt 1)) := by exact fun h => gse_fr (L := ([], [], [(109, 0)], [])) h (fr_sF rfl fr_rf) rfl
                          have n93c : G1S s (sF s 109 0 (Int32.ofInt 1)) := by exact ⟨rfl, fun _ _ => rfl, fun _ _ _ => ⟨rfl, rfl, rfl, rfl, rfl, rfl⟩⟩
                          exact g_ireturn (gd rfl) rfl rfl (hP _ _ ⟨(sF s 109 0 (Int32.ofInt 1)), hI86x18, (fr_sF rfl fr_rf), (Int32.ofInt 0), rfl, rfl, in_w (-1000000) 1000000 (in_c 0 rfl) rfl, n93, n93a, n93b, n93c⟩)
                  · skip
                    have i78 := r_lt1 0 3999 c78 (inv_F hI 0 4000 rfl e_109_9) (in_c 4000 rfl) rfl
                    refine g_iconst 1 82 (gd rfl) rfl rfl ?_
                    refine g_goto 86 (gd rfl) rfl ?_
                    refine g_callv (X := _) (As := [.int (Int32.ofInt 0), .int (Int32.ofInt 1)]) (r := []) (b := A 109) (q := 109) 89 (gd rfl) rfl rfl rfl rfl rfl (ww_o rfl) (Nat.le_of_ble_eq_true rfl) (mc := 0) (ms := 0) (Nat.zero_le _) (Nat.zero_le _) (P := fun v u => _) ?_ (fun e u h => h) (fun v u h => h)
                    intro po86 xx86 hp86 hx86
                    refine g_enter2 (k := 270) (N := 300) (by first | exact dq1 hd rfl | exact dq0 hd rfl | exact dq2 hd rfl | exact dq3 hd rfl | omega) rfl (Nat.le_of_ble_eq_true rfl) ?_
                    refine g_aload_n 1 (gd rfl) rfl rfl ?_
                    refine g_iload_n 2 (gd rfl) rfl rfl ?_
                    refine g_if_ne 5 9 (gd rfl) rfl rfl (fun c86x2 => ?_) (fun c86x2 => ?_)
                    · skip
                      exact zn_ne c86x2 (in_c 0 rfl) rfl
                    · skip
                      refine g_iconst 1 6 (gd rfl) rfl rfl ?_
                      refine g_goto 18 (gd rfl) rfl ?_
                      refine g_putI 21 (gd rfl) rfl rfl rfl rfl ?_
                      have hI86x18 := inv_sF (q := 109) (j := 0) hI rfl (in_w 0 2 (in_c 1 rfl) rfl)
                      refine g_aload_n 22 (gd rfl) rfl rfl ?_
                      refine g_getI 25 (gd rfl) rfl rfl rfl (fun z86x22 e86x22 => ?_)
                      have q86x22 : (Int32.ofInt 1) = z86x22 := (sF_get).trans e86x22.symm
                      subst q86x22
                      refine g_if_le 28 32 (gd rfl) rfl rfl (fun c86x25 => ?_) (fun c86x25 => ?_)
                      · skip
                        exact zn_le c86x25 (in_c 1 rfl) rfl
                      · skip
                        refine g_iconst 1 29 (gd rfl) rfl rfl ?_
                        refine g_goto 33 (gd rfl) rfl ?_
                        refine g_ireturn (gd rfl) rfl (nb01 (in_w 0 1 (in_c 1 rfl) rfl)) (hp86 _ _ ?_)
                        show GG _ _ _ _ _ _ _ _ [.int (Int32.ofInt 1)] _ _ _
                        refine g_if_eq 92 94 (gd rfl) rfl rfl (fun c89 => ?_) (fun c89 => ?_)
                        · skip
                          exact zn_eq c89 (in_c 1 rfl) rfl
                        · skip
                          refine g_iconst 0 93 (gd rfl) rfl rfl ?_
                          have n93 : CDR s (sF s 109 0 (Int32.ofInt 1)) (HAR s x1 ∧ GVL x2 x3) ((s.2.2.1 109 9).toInt ≤ 3999) (((Int32.ofInt 0)) = (if (x2).toInt = 0 then s.1 115 (x1).toNatClampNeg else if (x2).toInt = 1 then s.1 116 (x1).toNatClampNeg else s.1 117 (x1).toNatClampNeg) ∧ gvR (sF s 109 0 (Int32.ofInt 1)) = gqW (gvR s) (x1).toNatClampNeg x2 x3) := by first | exact Or.inl ⟨rfl, (by first | (unfold HAR GVL In; have a0 := oa6 i55x8 i22x10b i13 ((inv_F hI 0 2 rfl e_109_0)) i78 ((in_c 1 rfl)); have a6 := tx_i2l e17; have oc := oc_284_109; omega) | (unfold HAR GVL In; rw [← e55x16]; have a0 := oa6 i55x8 i22x10b i13 ((inv_F hI 0 2 rfl e_109_0)) i78 ((in_c 1 rfl)); have a6 := tx_i2l e17; have oc := oc_284_109; omega)), (gvR_cg (L := ([], [], [(109, 0)], [])) (fr_sF rfl fr_rf) rfl)⟩ | exact Or.inr (Or.inl ⟨rfl, ⟨⟨by have a0 := oa6 i55x8 i22x10b i13 ((inv_F hI 0 2 rfl e_109_0)) i78 ((in_c 1 rfl)); have a6 := tx_i2l e17; have oc := oc_284_109; omega, by have a0 := oa6 i55x8 i22x10b i13 ((inv_F hI 0 2 rfl e_109_0)) i78 ((in_c 1 rfl)); have a6 := tx_i2l e17; have oc := oc_284_109; omega, by rw [← e55x16]; have a0 := oa6 i55x8 i22x10b i13 ((inv_F hI 0 2 rfl e_109_0)) i78 ((in_c 1 rfl)); have a6 := tx_i2l e17; have oc := oc_284_109; omega⟩, (by unfold GVL In; have a0 := oa6 i55x8 i22x10b i13 ((inv_F hI 0 2 rfl e_109_0)) i78 ((in_c 1 rfl)); have a6 := tx_i2l e17; have oc := oc_284_109; omega)⟩, (by rw [← e_109_9]; have a0 := oa6 i55x8 i22x10b i13 ((inv_F hI 0 2 rfl e_109_0)) i78 ((in_c 1 rfl)); have a6 := tx_i2l e17; have oc := oc_284_109; omega), (gvR_cg (L := ([], [], [(109, 0)], [])) (fr_sF rfl fr_rf) rfl)⟩)
                          have n93a : LGX s (sF s 109 0 (Int32.ofInt 1)) (Int32.ofInt 3) x1 x2 x3 (Int32.ofInt 0) (Int32.ofInt 0) (Int32.ofInt 0) := by exact Or.inl ⟨rfl, rfl, rfl, rfl, rfl, rfl, rfl, rfl⟩
                          have n93b : GSE s → GSE (sF s 109 0 (Int32.ofInt 1)) := by exact fun h => gse_fr (L := ([], [], [(109, 0)], [])) h (fr_sF rfl fr_rf) rfl
                          have n93c : G1S s (sF s 109 0 (Int32.ofInt 1)) := by exact ⟨rfl, fun _ _ => rfl, fun _ _ _ => ⟨rfl, rfl, rfl, rfl, rfl, rfl⟩⟩
                          exact g_ireturn (gd rfl) rfl rfl (hP _ _ ⟨(sF s 109 0 (Int32.ofInt 1)), hI86x18, (fr_sF rfl fr_rf), (Int32.ofInt 0), rfl, rfl, in_w (-1000000) 1000000 (in_c 0 rfl) rfl, n93, n93a, n93b, n93c⟩)
                · skip
                  exact zn_ne c58 (in_c 0 rfl) rfl
              · skip
                have i55x17 := z_ne 1 1 c55x17 i55x16 rfl
                refine g_iconst 1 21 (gd rfl) rfl rfl ?_
                refine g_goto 25 (gd rfl) rfl ?_
                refine g_ireturn (gd rfl) rfl (nb01 (in_w 0 1 (in_c 1 rfl) rfl)) (hp55 _ _ ?_)
                show GG _ _ _ _ _ _ _ _ [.int (Int32.ofInt 1), .ref (A 109)] _ _ _
                refine g_if_eq 61 70 (gd rfl) rfl rfl (fun c58 => ?_) (fun c58 => ?_)
                · skip
                  exact zn_eq c58 (in_c 1 rfl) rfl
                · skip
                  refine g_iload 63 (gd rfl) rfl rfl ?_
                  refine g_if_eq 66 70 (gd rfl) rfl rfl (fun c63 => ?_) (fun c63 => ?_)
                  · skip
                    exact zn_eq c63 (in_c 1 rfl) rfl
                  · skip
                    refine g_iconst 1 67 (gd rfl) rfl rfl ?_
                    refine g_goto 71 (gd rfl) rfl ?_
                    refine g_aload_n 72 (gd rfl) rfl rfl ?_
                    refine g_getI 75 (gd rfl) rfl rfl rfl (fun z72 e72 => ?_)
                    have q72 : u_109_9 = z72 := (e_109_9).trans e72.symm
                    subst q72
                    refine g_sipush 4000 78 (gd rfl) rfl rfl ?_
                    refine g_cmp_ge 81 85 (gd rfl) rfl rfl (fun c78 => ?_) (fun c78 => ?_)
                    · skip
                      have i78 := r_le2 4000 4000 c78 (in_c 4000 rfl) (inv_F hI 0 4000 rfl e_109_9) rfl
                      refine g_iconst 0 86 (gd rfl) rfl rfl ?_
                      refine g_callv (X := _) (As := [.int (Int32.ofInt 1), .int (Int32.ofInt 0)]) (r := []) (b := A 109) (q := 109) 89 (gd rfl) rfl rfl rfl rfl rfl (ww_o rfl) (Nat.le_of_ble_eq_true rfl) (mc := 0) (ms := 0) (Nat.zero_le _) (Nat.zero_le _) (P := fun v u => _) ?_ (fun e u h => h) (fun v u h => h)
                      intro po86 xx86 hp86 hx86
                      refine g_enter2 (k := 270) (N := 300) (by first | exact dq1 hd rfl | exact dq0 hd rfl | exact dq2 hd rfl | exact dq3 hd rfl | omega) rfl (Nat.le_of_ble_eq_true rfl) ?_
                      refine g_aload_n 1 (gd rfl) rfl rfl ?_
                      refine g_iload_n 2 (gd rfl) rfl rfl ?_
                      refine g_if_ne 5 9 (gd rfl) rfl rfl (fun c86x2 => ?_) (fun c86x2 => ?_)
                      · skip
                        refine g_iload_n 10 (gd rfl) rfl rfl ?_
                        refine g_if_ne 13 17 (gd rfl) rfl rfl (fun c86x10 => ?_) (fun c86x10 => ?_)
                        · skip
                          exact zn_ne c86x10 (in_c 0 rfl) rfl
                        · skip
                          refine g_iconst 2 14 (gd rfl) rfl rfl ?_
                          refine g_goto 18 (gd rfl) rfl ?_
                          refine g_putI 21 (gd rfl) rfl rfl rfl rfl ?_
                          have hI86x18 := inv_sF (q := 109) (j := 0) hI rfl (in_w 0 2 (in_c 2 rfl) rfl)
                          refine g_aload_n 22 (gd rfl) rfl rfl ?_
                          refine g_getI 25 (gd rfl) rfl rfl rfl (fun z86x22 e86x22 => ?_)
                          have q86x22 : (Int32.ofInt 2) = z86x22 := (sF_get).trans e86x22.symm
                          subst q86x22
                          refine g_if_le 28 32 (gd rfl) rfl rfl (fun c86x25 => ?_) (fun c86x25 => ?_)
                          · skip
                            exact zn_le c86x25 (in_c 2 rfl) rfl
                          · skip
                            refine g_iconst 1 29 (gd rfl) rfl rfl ?_
                            refine g_goto 33 (gd rfl) rfl ?_
                            refine g_ireturn (gd rfl) rfl (nb01 (in_w 0 1 (in_c 1 rfl) rfl)) (hp86 _ _ ?_)
                            show GG _ _ _ _ _ _ _ _ [.int (Int32.ofInt 1)] _ _ _
                            refine g_if_eq 92 94 (gd rfl) rfl rfl (fun c89 => ?_) (fun c89 => ?_)
                            · skip
                              exact zn_eq c89 (in_c 1 rfl) rfl
                            · skip
                              refine g_iconst 0 93 (gd rfl) rfl rfl ?_
                              have n93 : CDR s (sF s 109 0 (Int32.ofInt 2)) (HAR s x1 ∧ GVL x2 x3) ((s.2.2.1 109 9).toInt ≤ 3999) (((Int32.ofInt 0)) = (if (x2).toInt = 0 then s.1 115 (x1).toNatClampNeg else if (x2).toInt = 1 then s.1 116 (x1).toNatClampNeg else s.1 117 (x1).toNatClampNeg) ∧ gvR (sF s 109 0 (Int32.ofInt 2)) = gqW (gvR s) (x1).toNatClampNeg x2 x3) := by first | exact Or.inl ⟨rfl, (by first | (unfold HAR GVL In; have a0 := oa7 i55x8 i22x10b i13 ((inv_F hI 0 2 rfl e_109_0)) i78 ((in_c 1 rfl)) ((in_c 2 rfl)); have a7 := tx_i2l e17; have oc := oc_284_109; omega) | (unfold HAR GVL In; rw [← e55x16]; have a0 := oa7 i55x8 i22x10b i13 ((inv_F hI 0 2 rfl e_109_0)) i78 ((in_c 1 rfl)) ((in_c 2 rfl)); have a7 := tx_i2l e17; have oc := oc_284_109; omega)), (gvR_cg (L := ([], [], [(109, 0)], [])) (fr_sF rfl fr_rf) rfl)⟩ | exact Or.inr (Or.inl ⟨rfl, ⟨⟨by have a0 := oa7 i55x8 i22x10b i13 ((inv_F hI 0 2 rfl e_109_0)) i78 ((in_c 1 rfl)) ((in_c 2 rfl)); have a7 := tx_i2l e17; have oc := oc_284_109; omega, by have a0 := oa7 i55x8 i22x10b i13 ((inv_F hI 0 2 rfl e_109_0)) i78 ((in_c 1 rfl)) ((in_c 2 rfl)); have a7 := tx_i2l e17; have oc := oc_284_109; omega, by rw [← e55x16]; have a0 := oa7 i55x8 i22x10b i13 ((inv_F hI 0 2 rfl e_109_0)) i78 ((in_c 1 rfl)) ((in_c 2 rfl)); have a7 := tx_i2l e17; have oc := oc_284_109; omega⟩, (by unfold GVL In; have a0 := oa7 i55x8 i22x10b i13 ((inv_F hI 0 2 rfl e_109_0)) i78 ((in_c 1 rfl)) ((in_c 2 rfl)); have a7 := tx_i2l e17; have oc := oc_284_109; omega)⟩, (by rw [← e_109_9]; have a0 := oa7 i55x8 i22x10b i13 ((inv_F hI 0 2 rfl e_109_0)) i78 ((in_c 1 rfl)) ((in_c 2 rfl)); have a7 := tx_i2l e17; have oc := oc_284_109; omega), (gvR_cg (L := ([], [], [(109, 0)], [])) (fr_sF rfl fr_rf) rfl)⟩)
                              have n93a : LGX s (sF s 109 0 (Int32.ofInt 2)) (Int32.ofInt 3) x1 x2 x3 (Int32.ofInt 0) (Int32.ofInt 0) (Int32.ofInt 0) := by exact Or.inl ⟨rfl, rfl, rfl, rfl, rfl, rfl, rfl, rfl⟩
                              have n93b : GSE s → GSE (sF s 109 0 (Int32.ofInt 2)) := by exact fun h => gse_fr (L := ([], [], [(109, 0)], [])) h (fr_sF rfl fr_rf) rfl
                              have n93c : G1S s (sF s 109 0 (Int32.ofInt 2)) := by exact ⟨rfl, fun _ _ => rfl, fun _ _ _ => ⟨rfl, rfl, rfl, rfl, rfl, rfl⟩⟩
                              exact g_ireturn (gd rfl) rfl rfl (hP _ _ ⟨(sF s 109 0 (Int32.ofInt 2)), hI86x18, (fr_sF rfl fr_rf), (Int32.ofInt 0), rfl, rfl, in_w (-1000000) 1000000 (in_c 0 rfl) rfl, n93, n93a, n93b, n93c⟩)
                      · skip
                        exact zn_eq c86x2 (in_c 1 rfl) rfl
                    · skip
                      have i78 := r_lt1 0 3999 c78 (inv_F hI 0 4000 rfl e_109_9) (in_c 4000 rfl) rfl
                      refine g_iconst 1 82 (gd rfl) rfl rfl ?_
                      refine g_goto 86 (gd rfl) rfl ?_
                      refine g_callv (X := _) (As := [.int (Int32.ofInt 1), .int (Int32.ofInt 1)]) (r := []) (b := A 109) (q := 109) 89 (gd rfl) rfl rfl rfl rfl rfl (ww_o rfl) (Nat.le_of_ble_eq_true rfl) (mc := 0) (ms := 0) (Nat.zero_le _) (Nat.zero_le _) (P := fun v u => _) ?_ (fun e u h => h) (fun v u h => h)
                      intro po86 xx86 hp86 hx86
                      refine g_enter2 (k := 270) (N := 300) (by first | exact dq1 hd rfl | exact dq0 hd rfl | exact dq2 hd rfl | exact dq3 hd rfl | omega) rfl (Nat.le_of_ble_eq_true rfl) ?_
                      refine g_aload_n 1 (gd rfl) rfl rfl ?_
                      refine g_iload_n 2 (gd rfl) rfl rfl ?_
                      refine g_if_ne 5 9 (gd rfl) rfl rfl (fun c86x2 => ?_) (fun c86x2 => ?_)
                      · skip
                        refine g_iload_n 10 (gd rfl) rfl rfl ?_
                        refine g_if_ne 13 17 (gd rfl) rfl rfl (fun c86x10 => ?_) (fun c86x10 => ?_)
                        · skip
                          refine g_iconst 0 18 (gd rfl) rfl rfl ?_
                          refine g_putI 21 (gd rfl) rfl rfl rfl rfl ?_
                          have hI86x18 := inv_sF (q := 109) (j := 0) hI rfl (in_w 0 2 (in_c 0 rfl) rfl)
                          refine g_aload_n 22 (gd rfl) rfl rfl ?_
                          refine g_getI 25 (gd rfl) rfl rfl rfl (fun z86x22 e86x22 => ?_)
                          have q86x22 : (Int32.ofInt 0) = z86x22 := (sF_get).trans e86x22.symm
                          subst q86x22
                          refine g_if_le 28 32 (gd rfl) rfl rfl (fun c86x25 => ?_) (fun c86x25 => ?_)
                          · skip
                            refine g_iconst 0 33 (gd rfl) rfl rfl ?_
                            refine g_ireturn (gd rfl) rfl (nb01 (in_w 0 1 (in_c 0 rfl) rfl)) (hp86 _ _ ?_)
                            show GG _ _ _ _ _ _ _ _ [.int (Int32.ofInt 0)] _ _ _
                            refine g_if_eq 92 94 (gd rfl) rfl rfl (fun c89 => ?_) (fun c89 => ?_)
                            · skip
                              refine g_iload_n 95 (gd rfl) rfl rfl ?_
                              refine g_if_ne 98 107 (gd rfl) rfl rfl (fun c95 => ?_) (fun c95 => ?_)
                              · skip
                                refine g_iload_n 108 (gd rfl) rfl rfl ?_
                                refine g_iconst 1 109 (gd rfl) rfl rfl ?_
                                refine g_cmp_ne 112 121 (gd rfl) rfl rfl (fun c109 => ?_) (fun c109 => ?_)
                                · skip
                                  exact n_ne c109 i13 (in_c 1 rfl) rfl
                                · skip
                                  refine g_aload_n 113 (gd rfl) rfl rfl ?_
                                  refine g_getA (q2 := 116) 116 (gd rfl) rfl rfl rfl rfl ?_
                                  refine g_iload_n 117 (gd rfl) rfl rfl ?_
                                  refine g_iaload 118 (gd rfl) rfl (n := 480) rfl (in_ix i55x8 rfl) (fun z117 e117 => ?_)
                                  have i117 := inv_I hI86x18 (n := 480) (t := 0) 0 1000000 rfl (in_ix i55x8 rfl) rfl e117
                                  refine g_goto 127 (gd rfl) rfl ?_
                                  refine g_istore 129 (gd rfl) rfl (Nat.le_of_ble_eq_true rfl) ?_
                                  refine g_aload_n 130 (gd rfl) rfl rfl ?_
                                  refine g_iconst 3 131 (gd rfl) rfl rfl ?_
                                  refine g_iload_n 132 (gd rfl) rfl rfl ?_
                                  refine g_iload_n 133 (gd rfl) rfl rfl ?_
                                  refine g_iload_n 134 (gd rfl) rfl rfl ?_
                                  refine g_iconst 0 135 (gd rfl) rfl rfl ?_
                                  refine g_iconst 0 136 (gd rfl) rfl rfl ?_
                                  refine g_iconst 0 137 (gd rfl) rfl rfl ?_
                                  have v137 : u_109_9 = (sF s 109 0 (Int32.ofInt 0)).2.2.1 109 9 := sF_ne rfl (e_109_9)
                                  have p137 : MK (sF s 109 0 (Int32.ofInt 0)) (Int32.ofInt 3) x1 x2 x3 := by refine ⟨fun h => absurd h (by decide), fun h => absurd h (by decide), fun _ hb => ?_, fun _ hb hc => ?_, fun h => absurd h (by decide)⟩; (have a0 := oa8 i55x8 i22x10b i13 ((inv_F hI 0 2 rfl e_109_0)) i78 i117 ((in_c 1 rfl)) ((in_c 0 rfl)); have a8 := tx_i2l e17; have oc := oc_284_109; omega); (have a0 := oa8 i55x8 i22x10b i13 ((inv_F hI 0 2 rfl e_109_0)) i78 i117 ((in_c 1 rfl)) ((in_c 0 rfl)); have a8 := tx_i2l e17; have oc := oc_284_109; omega)
                                  refine g_callv (X := _) (As := [.int (Int32.ofInt 3), .int x1, .int x2, .int x3, .int (Int32.ofInt 0), .int (Int32.ofInt 0), .int (Int32.ofInt 0)]) (r := []) (b := A 109) (q := 109) 140 (gd rfl) rfl rfl rfl rfl rfl (ww_o rfl) (Nat.le_of_ble_eq_true rfl) (Nat.zero_le _) (Nat.zero_le _) (f_274 (by first | exact dq1 hd rfl | exact dq0 hd rfl | exact dq2 hd rfl | exact dq3 hd rfl | omega) hI86x18 (in_w 0 4 (in_c 3 rfl) rfl) (in_w 0 159 i55x8 rfl) (in_w 0 31 i13 rfl) (in_w (-1000000) 1000000 i22x10b rfl) (in_w (-1000000) 1000000 (in_c 0 rfl) rfl) (in_w 0 1000000 (in_c 0 rfl) rfl) (in_w 0 25 (in_c 0 rfl) rfl) v137 (in_w 0 3999 i78 rfl) p137) (fun e u h => h) (fun v u h => ?_)
                                  obtain ⟨s137, hI137, hF137, n137, rfl, rfl, p137a, p137b, p137c, p137d, p137e⟩ := h
                                  obtain ⟨z137a, e137⟩ : ∃ w, w = s137.2.2.1 109 9 := ⟨_, rfl⟩
                                  have i137a := inv_F hI137 0 4000 rfl e137
                                  rw [← (show u_109_9 = (sF s 109 0 (Int32.ofInt 0)).2.2.1 109 9 from sF_ne rfl (e_109_9))] at n137
                                  rw [← (show z137a = s137.2.2.1 109 9 from e137)] at n137
                                  show GG _ _ _ _ _ _ _ _ [] _ _ _
                                  refine g_iload 142 (gd rfl) rfl rfl ?_
                                  have n142 : CDR s s137 (HAR s x1 ∧ GVL x2 x3) ((s.2.2.1 109 9).toInt ≤ 3999) ((z117) = (if (x2).toInt = 0 then s.1 115 (x1).toNatClampNeg else if (x2).toInt = 1 then s.1 116 (x1).toNatClampNeg else s.1 117 (x1).toNatClampNeg) ∧ gvR s137 = gqW (gvR s) (x1).toNatClampNeg x2 x3) := by exact Or.inr (Or.inr ⟨(by have hc9 : s137.2.2.1 109 0 = Int32.ofInt 0 := (hF137.2.2.1 109 0 rfl).trans rfl; rw [hc9]; rfl), ⟨⟨by have a0 := oa9 i55x8 i22x10b i13 ((inv_F hI 0 2 rfl e_109_0)) i78 i117 ((in_c 1 rfl)) i137a ((in_c 0 rfl)); have a9 := tx_i2l e17; have oc := oc_284_109; omega, by have a0 := oa9 i55x8 i22x10b i13 ((inv_F hI 0 2 rfl e_109_0)) i78 i117 ((in_c 1 rfl)) i137a ((in_c 0 rfl)); have a9 := tx_i2l e17; have oc := oc_284_109; omega, by rw [← e55x16]; have a0 := oa9 i55x8 i22x10b i13 ((inv_F hI 0 2 rfl e_109_0)) i78 i117 ((in_c 1 rfl)) i137a ((in_c 0 rfl)); have a9 := tx_i2l e17; have oc := oc_284_109; omega⟩, (by unfold GVL In; have a0 := oa9 i55x8 i22x10b i13 ((inv_F hI 0 2 rfl e_109_0)) i78 i117 ((in_c 1 rfl)) i137a ((in_c 0 rfl)); have a9 := tx_i2l e17; have oc := oc_284_109; omega)⟩, (by rw [← e_109_9]; have a0 := oa9 i55x8 i22x10b i13 ((inv_F hI 0 2 rfl e_109_0)) i78 i117 ((in_c 1 rfl)) i137a ((in_c 0 rfl)); have a9 := tx_i2l e17; have oc := oc_284_109; omega), (by first | (rw [if_pos (by have a0 := oa9 i55x8 i22x10b i13 ((inv_F hI 0 2 rfl e_109_0)) i78 i117 ((in_c 1 rfl)) i137a ((in_c 0 rfl)); have a9 := tx_i2l e17; have oc := oc_284_109; omega)]; exact e103) | (rw [if_neg (by have a0 := oa9 i55x8 i22x10b i13 ((inv_F hI 0 2 rfl e_109_0)) i78 i117 ((in_c 1 rfl)) i137a ((in_c 0 rfl)); have a9 := tx_i2l e17; have oc := oc_284_109; omega), if_pos (by have a0 := oa9 i55x8 i22x10b i13 ((inv_F hI 0 2 rfl e_109_0)) i78 i117 ((in_c 1 rfl)) i137a ((in_c 0 rfl)); have a9 := tx_i2l e17; have oc := oc_284_109; omega)]; exact e117) | (rw [if_neg (by have a0 := oa9 i55x8 i22x10b i13 ((inv_F hI 0 2 rfl e_109_0)) i78 i117 ((in_c 1 rfl)) i137a ((in_c 0 rfl)); have a9 := tx_i2l e17; have oc := oc_284_109; omega), if_neg (by have a0 := oa9 i55x8 i22x10b i13 ((inv_F hI 0 2 rfl e_109_0)) i78 i117 ((in_c 1 rfl)) i137a ((in_c 0 rfl)); have a9 := tx_i2l e17; have oc := oc_284_109; omega)]; exact e126)), (by have hm := (p137b).2.2.2.1 rfl; rw [hm, gvR_cg (L := ([], [], [(109, 0)], [])) (fr_sF rfl fr_rf) rfl] <;> rfl)⟩)
                                  have n142a : LGX s s137 (Int32.ofInt 3) x1 x2 x3 (Int32.ofInt 0) (Int32.ofInt 0) (Int32.ofInt 0) := by exact Or.inr p137c
                                  have n142b : GSE s → GSE s137 := by exact fun _ => p137d
                                  have n142c : G1S s s137 := by exact p137e
                                  exact g_ireturn (gd rfl) rfl rfl (hP _ _ ⟨s137, hI137, (fr_tr rfl (fr_sF rfl fr_rf) hF137), z117, rfl, rfl, in_w (-1000000) 1000000 i117 rfl, n142, n142a, n142b, n142c⟩)
                              · skip
                                exact zn_eq c95 i13 rfl
                            · skip
                              exact zn_ne c89 (in_c 0 rfl) rfl
                          · skip
                            exact zn_gt c86x25 (in_c 0 rfl) rfl
                        · skip
                          exact zn_eq c86x10 (in_c 1 rfl) rfl
                      · skip
                        exact zn_eq c86x2 (in_c 1 rfl) rfl
  · skip
    have i1 := z_eq 0 0 c1 (i_rng x2) rfl
    refine g_iload_n 5 (gd rfl) rfl rfl ?_
    refine g_calls (As := [.int x3]) (r := []) 8 (gd rfl) rfl rfl rfl rfl rfl (Nat.le_of_ble_eq_true rfl) (mc := 0) (ms := 0) (Nat.zero_le _) (Nat.zero_le _) (P := fun v u => _) ?_ (fun v u h => h)
    intro po5 xx5 hp5 hx5
    refine g_enter2 (k := 279) (N := 300) (by first | exact dq1 hd rfl | exact dq0 hd rfl | exact dq2 hd rfl | exact dq3 hd rfl | omega) rfl (Nat.le_of_ble_eq_true rfl) ?_
    refine g_iload_n 1 (gd rfl) rfl rfl ?_
    refine g_i2l 2 (gd rfl) rfl (fun z5x1 e5x1 => ?_)
    have i5x1 := l_i e5x1 (i_rng x3)
    refine g_ldc2_w (-1000000) 5 (gd rfl) rfl rfl ?_
    refine g_ldc2_w 1000000 8 (gd rfl) rfl rfl ?_
    refine g_calls (As := [.long z5x1, .long (Int64.ofInt (-1000000)), .long (Int64.ofInt 1000000)]) (r := []) 11 (gd rfl) rfl rfl rfl rfl rfl (Nat.le_of_ble_eq_true rfl) (mc := 0) (ms := 0) (Nat.zero_le _) (Nat.zero_le _) (P := fun v u => _) ?_ (fun v u h => h)
    intro po5x8 xx5x8 hp5x8 hx5x8
    refine g_enter2 (k := 269) (N := 300) (by first | exact dq1 hd rfl | exact dq0 hd rfl | exact dq2 hd rfl | exact dq3 hd rfl | omega) rfl (Nat.le_of_ble_eq_true rfl) ?_
    refine g_lload_n 1 (gd rfl) rfl rfl ?_
    refine g_lload_n 2 (gd rfl) rfl rfl ?_
    refine g_lcmp 3 (gd rfl) rfl (fun z5x8x2 e5x8x2 => ?_)
    have i5x8x2 := lc_in e5x8x2
    refine g_if_lt 6 17 (gd rfl) rfl rfl (fun c5x8x3 => ?_) (fun c5x8x3 => ?_)
    · skip
      have i5x8x3 := z_lt (-1) (-1) c5x8x3 i5x8x2 rfl
      have c5x8x3a := lc_lt e5x8x2 c5x8x3
      have i5x8x3a := lr_lt1 (-2147483648) (-1000001) c5x8x3a i5x1 (l_c (-1000000) rfl) rfl
      have i5x8x3b := l_b e5x1 i5x8x3a
      refine g_iconst 0 18 (gd rfl) rfl rfl ?_
      refine g_ireturn (gd rfl) rfl (nb01 (in_w 0 1 (in_c 0 rfl) rfl)) (hp5x8 _ _ ?_)
      show GG _ _ _ _ _ _ _ _ [.int (Int32.ofInt 0)] _ _ _
      refine g_ireturn (gd rfl) rfl (nb01 (in_w 0 1 (in_c 0 rfl) rfl)) (hp5 _ _ ?_)
      show GG _ _ _ _ _ _ _ _ [.int (Int32.ofInt 0)] _ _ _
      refine g_goto 50 (gd rfl) rfl ?_
      refine g_istore 52 (gd rfl) rfl (Nat.le_of_ble_eq_true rfl) ?_
      refine g_aload_n 53 (gd rfl) rfl rfl ?_
      refine g_aload_n 54 (gd rfl) rfl rfl ?_
      refine g_iload_n 55 (gd rfl) rfl rfl ?_
      refine g_callv (X := _) (As := [.int x1]) (r := [.ref (A 109)]) (b := A 109) (q := 109) 58 (gd rfl) rfl rfl rfl rfl rfl (ww_o rfl) (Nat.le_of_ble_eq_true rfl) (mc := 0) (ms := 0) (Nat.zero_le _) (Nat.zero_le _) (P := fun v u => _) ?_ (fun e u h => h) (fun v u h => h)
      intro po55 xx55 hp55 hx55
      refine g_enter2 (k := 278) (N := 300) (by first | exact dq1 hd rfl | exact dq0 hd rfl | exact dq2 hd rfl | exact dq3 hd rfl | omega) rfl (Nat.le_of_ble_eq_true rfl) ?_
      refine g_iload_n 1 (gd rfl) rfl rfl ?_
      refine g_if_lt 4 24 (gd rfl) rfl rfl (fun c55x1 => ?_) (fun c55x1 => ?_)
      · skip
        have i55x1 := z_lt (-2147483648) (-1) c55x1 (i_rng x1) rfl
        refine g_iconst 0 25 (gd rfl) rfl rfl ?_
        refine g_ireturn (gd rfl) rfl (nb01 (in_w 0 1 (in_c 0 rfl) rfl)) (hp55 _ _ ?_)
        show GG _ _ _ _ _ _ _ _ [.int (Int32.ofInt 0), .ref (A 109)] _ _ _
        refine g_if_eq 61 70 (gd rfl) rfl rfl (fun c58 => ?_) (fun c58 => ?_)
        · skip
          refine g_iconst 0 71 (gd rfl) rfl rfl ?_
          refine g_aload_n 72 (gd rfl) rfl rfl ?_
          refine g_getI 75 (gd rfl) rfl rfl rfl (fun z72 e72 => ?_)
          have q72 : u_109_9 = z72 := (e_109_9).trans e72.symm
          subst q72
          refine g_sipush 4000 78 (gd rfl) rfl rfl ?_
          refine g_cmp_ge 81 85 (gd rfl) rfl rfl (fun c78 => ?_) (fun c78 => ?_)
          · skip
            have i78 := r_le2 4000 4000 c78 (in_c 4000 rfl) (inv_F hI 0 4000 rfl e_109_9) rfl
            refine g_iconst 0 86 (gd rfl) rfl rfl ?_
            refine g_callv (X := _) (As := [.int (Int32.ofInt 0), .int (Int32.ofInt 0)]) (r := []) (b := A 109) (q := 109) 89 (gd rfl) rfl rfl rfl rfl rfl (ww_o rfl) (Nat.le_of_ble_eq_true rfl) (mc := 0) (ms := 0) (Nat.zero_le _) (Nat.zero_le _) (P := fun v u => _) ?_ (fun e u h => h) (fun v u h => h)
            intro po86 xx86 hp86 hx86
            refine g_enter2 (k := 270) (N := 300) (by first | exact dq1 hd rfl | exact dq0 hd rfl | exact dq2 hd rfl | exact dq3 hd rfl | omega) rfl (Nat.le_of_ble_eq_true rfl) ?_
            refine g_aload_n 1 (gd rfl) rfl rfl ?_
            refine g_iload_n 2 (gd rfl) rfl rfl ?_
            refine g_if_ne 5 9 (gd rfl) rfl rfl (fun c86x2 => ?_) (fun c86x2 => ?_)
            · skip
              exact zn_ne c86x2 (in_c 0 rfl) rfl
            · skip
              refine g_iconst 1 6 (gd rfl) rfl rfl ?_
              refine g_goto 18 (gd rfl) rfl ?_
              refine g_putI 21 (gd rfl) rfl rfl rfl rfl ?_
              have hI86x18 := inv_sF (q := 109) (j := 0) hI rfl (in_w 0 2 (in_c 1 rfl) rfl)
              refine g_aload_n 22 (gd rfl) rfl rfl ?_
              refine g_getI 25 (gd rfl) rfl rfl rfl (fun z86x22 e86x22 => ?_)
              have q86x22 : (Int32.ofInt 1) = z86x22 := (sF_get).trans e86x22.symm
              subst q86x22
              refine g_if_le 28 32 (gd rfl) rfl rfl (fun c86x25 => ?_) (fun c86x25 => ?_)
              · skip
                exact zn_le c86x25 (in_c 1 rfl) rfl
              · skip
                refine g_iconst 1 29 (gd rfl) rfl rfl ?_
                refine g_goto 33 (gd rfl) rfl ?_
                refine g_ireturn (gd rfl) rfl (nb01 (in_w 0 1 (in_c 1 rfl) rfl)) (hp86 _ _ ?_)
                show GG _ _ _ _ _ _ _ _ [.int (Int32.ofInt 1)] _ _ _
                refine g_if_eq 92 94 (gd rfl) rfl rfl (fun c89 => ?_) (fun c89 => ?_)
                · skip
                  exact zn_eq c89 (in_c 1 rfl) rfl
                · skip
                  refine g_iconst 0 93 (gd rfl) rfl rfl ?_
                  have n93 : CDR s (sF s 109 0 (Int32.ofInt 1)) (HAR s x1 ∧ GVL x2 x3) ((s.2.2.1 109 9).toInt ≤ 3999) (((Int32.ofInt 0)) = (if (x2).toInt = 0 then s.1 115 (x1).toNatClampNeg else if (x2).toInt = 1 then s.1 116 (x1).toNatClampNeg else s.1 117 (x1).toNatClampNeg) ∧ gvR (sF s 109 0 (Int32.ofInt 1)) = gqW (gvR s) (x1).toNatClampNeg x2 x3) := by first | exact Or.inl ⟨rfl, (by first | (unfold HAR GVL In; have a0 := oa7 i1 ((inv_F hI 0 2 rfl e_109_0)) i78 ((in_c 0 rfl)) i5x8x3b i55x1 ((in_c 1 rfl)); have a7 := tx_i2l e5x1; have oc := oc_284_109; omega) | (unfold HAR GVL In; rw [← e55x16]; have a0 := oa7 i1 ((inv_F hI 0 2 rfl e_109_0)) i78 ((in_c 0 rfl)) i5x8x3b i55x1 ((in_c 1 rfl)); have a7 := tx_i2l e5x1; have oc := oc_284_109; omega)), (gvR_cg (L := ([], [], [(109, 0)], [])) (fr_sF rfl fr_rf) rfl)⟩ | exact Or.inr (Or.inl ⟨rfl, ⟨⟨by have a0 := oa7 i1 ((inv_F hI 0 2 rfl e_109_0)) i78 ((in_c 0 rfl)) i5x8x3b i55x1 ((in_c 1 rfl)); have a7 := tx_i2l e5x1; have oc := oc_284_109; omega, by have a0 := oa7 i1 ((inv_F hI 0 2 rfl e_109_0)) i78 ((in_c 0 rfl)) i5x8x3b i55x1 ((in_c 1 rfl)); have a7 := tx_i2l e5x1; have oc := oc_284_109; omega, by rw [← e55x16]; have a0 := oa7 i1 ((inv_F hI 0 2 rfl e_109_0)) i78 ((in_c 0 rfl)) i5x8x3b i55x1 ((in_c 1 rfl)); have a7 := tx_i2l e5x1; have oc := oc_284_109; omega⟩, (by unfold GVL In; have a0 := oa7 i1 ((inv_F hI 0 2 rfl e_109_0)) i78 ((in_c 0 rfl)) i5x8x3b i55x1 ((in_c 1 rfl)); have a7 := tx_i2l e5x1; have oc := oc_284_109; omega)⟩, (by rw [← e_109_9]; have a0 := oa7 i1 ((inv_F hI 0 2 rfl e_109_0)) i78 ((in_c 0 rfl)) i5x8x3b i55x1 ((in_c 1 rfl)); have a7 := tx_i2l e5x1; have oc := oc_284_109; omega), (gvR_cg (L := ([], [], [(109, 0)], [])) (fr_sF rfl fr_rf) rfl)⟩)
                  have n93a : LGX s (sF s 109 0 (Int32.ofInt 1)) (Int32.ofInt 3) x1 x2 x3 (Int32.ofInt 0) (Int32.ofInt 0) (Int32.ofInt 0) := by exact Or.inl ⟨rfl, rfl, rfl, rfl, rfl, rfl, rfl, rfl⟩
                  have n93b : GSE s → GSE (sF s 109 0 (Int32.ofInt 1)) := by exact fun h => gse_fr (L := ([], [], [(109, 0)], [])) h (fr_sF rfl fr_rf) rfl
                  have n93c : G1S s (sF s 109 0 (Int32.ofInt 1)) := by exact ⟨rfl, fun _ _ => rfl, fun _ _ _ => ⟨rfl, rfl, rfl, rfl, rfl, rfl⟩⟩
                  exact g_ireturn (gd rfl) rfl rfl (hP _ _ ⟨(sF s 109 0 (Int32.ofInt 1)), hI86x18, (fr_sF rfl fr_rf), (Int32.ofInt 0), rfl, rfl, in_w (-1000000) 1000000 (in_c 0 rfl) rfl, n93, n93a, n93b, n93c⟩)
          · skip
            have i78 := r_lt1 0 3999 c78 (inv_F hI 0 4000 rfl e_109_9) (in_c 4000 rfl) rfl
            refine g_iconst 1 82 (gd rfl) rfl rfl ?_
            refine g_goto 86 (gd rfl) rfl ?_
            refine g_callv (X := _) (As := [.int (Int32.ofInt 0), .int (Int32.ofInt 1)]) (r := []) (b := A 109) (q := 109) 89 (gd rfl) rfl rfl rfl rfl rfl (ww_o rfl) (Nat.le_of_ble_eq_true rfl) (mc := 0) (ms := 0) (Nat.zero_le _) (Nat.zero_le _) (P := fun v u => _) ?_ (fun e u h => h) (fun v u h => h)
            intro po86 xx86 hp86 hx86
            refine g_enter2 (k := 270) (N := 300) (by first | exact dq1 hd rfl | exact dq0 hd rfl | exact dq2 hd rfl | exact dq3 hd rfl | omega) rfl (Nat.le_of_ble_eq_true rfl) ?_
            refine g_aload_n 1 (gd rfl) rfl rfl ?_
            refine g_iload_n 2 (gd rfl) rfl rfl ?_
            refine g_if_ne 5 9 (gd rfl) rfl rfl (fun c86x2 => ?_) (fun c86x2 => ?_)
            · skip
              exact zn_ne c86x2 (in_c 0 rfl) rfl
            · skip
              refine g_iconst 1 6 (gd rfl) rfl rfl ?_
              refine g_goto 18 (gd rfl) rfl ?_
              refine g_putI 21 (gd rfl) rfl rfl rfl rfl ?_
              have hI86x18 := inv_sF (q := 109) (j := 0) hI rfl (in_w 0 2 (in_c 1 rfl) rfl)
              refine g_aload_n 22 (gd rfl) rfl rfl ?_
              refine g_getI 25 (gd rfl) rfl rfl rfl (fun z86x22 e86x22 => ?_)
              have q86x22 : (Int32.ofInt 1) = z86x22 := (sF_get).trans e86x22.symm
              subst q86x22
              refine g_if_le 28 32 (gd rfl) rfl rfl (fun c86x25 => ?_) (fun c86x25 => ?_)
              · skip
                exact zn_le c86x25 (in_c 1 rfl) rfl
              · skip
                refine g_iconst 1 29 (gd rfl) rfl rfl ?_
                refine g_goto 33 (gd rfl) rfl ?_
                refine g_ireturn (gd rfl) rfl (nb01 (in_w 0 1 (in_c 1 rfl) rfl)) (hp86 _ _ ?_)
                show GG _ _ _ _ _ _ _ _ [.int (Int32.ofInt 1)] _ _ _
                refine g_if_eq 92 94 (gd rfl) rfl rfl (fun c89 => ?_) (fun c89 => ?_)
                · skip
                  exact zn_eq c89 (in_c 1 rfl) rfl
                · skip
                  refine g_iconst 0 93 (gd rfl) rfl rfl ?_
                  have n93 : CDR s (sF s 109 0 (Int32.ofInt 1)) (HAR s x1 ∧ GVL x2 x3) ((s.2.2.1 109 9).toInt ≤ 3999) (((Int32.ofInt 0)) = (if (x2).toInt = 0 then s.1 115 (x1).toNatClampNeg else if (x2).toInt = 1 then s.1 116 (x1).toNatClampNeg else s.1 117 (x1).toNatClampNeg) ∧ gvR (sF s 109 0 (Int32.ofInt 1)) = gqW (gvR s) (x1).toNatClampNeg x2 x3) := by first | exact Or.inl ⟨rfl, (by first | (unfold HAR GVL In; have a0 := oa7 i1 ((inv_F hI 0 2 rfl e_109_0)) i78 ((in_c 0 rfl)) i5x8x3b i55x1 ((in_c 1 rfl)); have a7 := tx_i2l e5x1; have oc := oc_284_109; omega) | (unfold HAR GVL In; rw [← e55x16]; have a0 := oa7 i1 ((inv_F hI 0 2 rfl e_109_0)) i78 ((in_c 0 rfl)) i5x8x3b i55x1 ((in_c 1 rfl)); have a7 := tx_i2l e5x1; have oc := oc_284_109; omega)), (gvR_cg (L := ([], [], [(109, 0)], [])) (fr_sF rfl fr_rf) rfl)⟩ | exact Or.inr (Or.inl ⟨rfl, ⟨⟨by have a0 := oa7 i1 ((inv_F hI 0 2 rfl e_109_0)) i78 ((in_c 0 rfl)) i5x8x3b i55x1 ((in_c 1 rfl)); have a7 := tx_i2l e5x1; have oc := oc_284_109; omega, by have a0 := oa7 i1 ((inv_F hI 0 2 rfl e_109_0)) i78 ((in_c 0 rfl)) i5x8x3b i55x1 ((in_c 1 rfl)); have a7 := tx_i2l e5x1; have oc := oc_284_109; omega, by rw [← e55x16]; have a0 := oa7 i1 ((inv_F hI 0 2 rfl e_109_0)) i78 ((in_c 0 rfl)) i5x8x3b i55x1 ((in_c 1 rfl)); have a7 := tx_i2l e5x1; have oc := oc_284_109; omega⟩, (by unfold GVL In; have a0 := oa7 i1 ((inv_F hI 0 2 rfl e_109_0)) i78 ((in_c 0 rfl)) i5x8x3b i55x1 ((in_c 1 rfl)); have a7 := tx_i2l e5x1; have oc := oc_284_109; omega)⟩, (by rw [← e_109_9]; have a0 := oa7 i1 ((inv_F hI 0 2 rfl e_109_0)) i78 ((in_c 0 rfl)) i5x8x3b i55x1 ((in_c 1 rfl)); have a7 := tx_i2l e5x1; have oc := oc_284_109; omega), (gvR_cg (L := ([], [], [(109, 0)], [])) (fr_sF rfl fr_rf) rfl)⟩)
                  have n93a : LGX s (sF s 109 0 (Int32.ofInt 1)) (Int32.ofInt 3) x1 x2 x3 (Int32.ofInt 0) (Int32.ofInt 0) (Int32.ofInt 0) := by exact Or.inl ⟨rfl, rfl, rfl, rfl, rfl, rfl, rfl, rfl⟩
                  have n93b : GSE s → GSE (sF s 109 0 (Int32.ofInt 1)) := by exact fun h => gse_fr (L := ([], [], [(109, 0)], [])) h (fr_sF rfl fr_rf) rfl
                  have n93c : G1S s (sF s 109 0 (Int32.ofInt 1)) := by exact ⟨rfl, fun _ _ => rfl, fun _ _ _ => ⟨rfl, rfl, rfl, rfl, rfl, rfl⟩⟩
                  exact g_ireturn (gd rfl) rfl rfl (hP _ _ ⟨(sF s 109 0 (Int32.ofInt 1)), hI86x18, (fr_sF rfl fr_rf), (Int32.ofInt 0), rfl, rfl, in_w (-1000000) 1000000 (in_c 0 rfl) rfl, n93, n93a, n93b, n93c⟩)
        · skip
          exact zn_ne c58 (in_c 0 rfl) rfl
      · skip
        have i55x1 := z_ge 0 2147483647 c55x1 (i_rng x1) rfl
        refine g_iload_n 5 (gd rfl) rfl rfl ?_
        refine g_sipush 160 8 (gd rfl) rfl rfl ?_
        refine g_cmp_ge 11 24 (gd rfl) rfl rfl (fun c55x8 => ?_) (fun c55x8 => ?_)
        · skip
          have i55x8 := r_le2 160 2147483647 c55x8 (in_c 160 rfl) i55x1 rfl
          refine g_iconst 0 25 (gd rfl) rfl rfl ?_
          refine g_ireturn (gd rfl) rfl (nb01 (in_w 0 1 (in_c 0 rfl) rfl)) (hp55 _ _ ?_)
          show GG _ _ _ _ _ _ _ _ [.int (Int32.ofInt 0), .ref (A 109)] _ _ _
          refine g_if_eq 61 70 (gd rfl) rfl rfl (fun c58 => ?_) (fun c58 => ?_)
          · skip
            refine g_iconst 0 71 (gd rfl) rfl rfl ?_
            refine g_aload_n 72 (gd rfl) rfl rfl ?_
            refine g_getI 75 (gd rfl) rfl rfl rfl (fun z72 e72 => ?_)
            have q72 : u_109_9 = z72 := (e_109_9).trans e72.symm
            subst q72
            refine g_sipush 4000 78 (gd rfl) rfl rfl ?_
            refine g_cmp_ge 81 85 (gd rfl) rfl rfl (fun c78 => ?_) (fun c78 => ?_)
            · skip
              have i78 := r_le2 4000 4000 c78 (in_c 4000 rfl) (inv_F hI 0 4000 rfl e_109_9) rfl
              refine g_iconst 0 86 (gd rfl) rfl rfl ?_
              refine g_callv (X := _) (As := [.int (Int32.ofInt 0), .int (Int32.ofInt 0)]) (r := []) (b := A 109) (q := 109) 89 (gd rfl) rfl rfl rfl rfl rfl (ww_o rfl) (Nat.le_of_ble_eq_true rfl) (mc := 0) (ms := 0) (Nat.zero_le _) (Nat.zero_le _) (P := fun v u => _) ?_ (fun e u h => h) (fun v u h => h)
              intro po86 xx86 hp86 hx86
              refine g_enter2 (k := 270) (N := 300) (by first | exact dq1 hd rfl | exact dq0 hd rfl | exact dq2 hd rfl | exact dq3 hd rfl | omega) rfl (Nat.le_of_ble_eq_true rfl) ?_
              refine g_aload_n 1 (gd rfl) rfl rfl ?_
              refine g_iload_n 2 (gd rfl) rfl rfl ?_
              refine g_if_ne 5 9 (gd rfl) rfl rfl (fun c86x2 => ?_) (fun c86x2 => ?_)
              · skip
                exact zn_ne c86x2 (in_c 0 rfl) rfl
              · skip
                refine g_iconst 1 6 (gd rfl) rfl rfl ?_
                refine g_goto 18 (gd rfl) rfl ?_
                refine g_putI 21 (gd rfl) rfl rfl rfl rfl ?_
                have hI86x18 := inv_sF (q := 109) (j := 0) hI rfl (in_w 0 2 (in_c 1 rfl) rfl)
                refine g_aload_n 22 (gd rfl) rfl rfl ?_
                refine g_getI 25 (gd rfl) rfl rfl rfl (fun z86x22 e86x22 => ?_)
                have q86x22 : (Int32.ofInt 1) = z86x22 := (sF_get).trans e86x22.symm
                subst q86x22
                refine g_if_le 28 32 (gd rfl) rfl rfl (fun c86x25 => ?_) (fun c86x25 => ?_)
                · skip
                  exact zn_le c86x25 (in_c 1 rfl) rfl
                · skip
                  refine g_iconst 1 29 (gd rfl) rfl rfl ?_
                  refine g_goto 33 (gd rfl) rfl ?_
                  refine g_ireturn (gd rfl) rfl (nb01 (in_w 0 1 (in_c 1 rfl) rfl)) (hp86 _ _ ?_)
                  show GG _ _ _ _ _ _ _ _ [.int (Int32.ofInt 1)] _ _ _
                  refine g_if_eq 92 94 (gd rfl) rfl rfl (fun c89 => ?_) (fun c89 => ?_)
                  · skip
                    exact zn_eq c89 (in_c 1 rfl) rfl
                  · skip
                    refine g_iconst 0 93 (gd rfl) rfl rfl ?_
                    have n93 : CDR s (sF s 109 0 (Int32.ofInt 1)) (HAR s x1 ∧ GVL x2 x3) ((s.2.2.1 109 9).toInt ≤ 3999) (((Int32.ofInt 0)) = (if (x2).toInt = 0 then s.1 115 (x1).toNatClampNeg else if (x2).toInt = 1 then s.1 116 (x1).toNatClampNeg else s.1 117 (x1).toNatClampNeg) ∧ gvR (sF s 109 0 (Int32.ofInt 1)) = gqW (gvR s) (x1).toNatClampNeg x2 x3) := by first | exact Or.inl ⟨rfl, (by first | (unfold HAR GVL In; have a0 := oa7 i1 ((inv_F hI 0 2 rfl e_109_0)) i78 ((in_c 0 rfl)) i5x8x3b i55x8 ((in_c 1 rfl)); have a7 := tx_i2l e5x1; have oc := oc_284_109; omega) | (unfold HAR GVL In; rw [← e55x16]; have a0 := oa7 i1 ((inv_F hI 0 2 rfl e_109_0)) i78 ((in_c 0 rfl)) i5x8x3b i55x8 ((in_c 1 rfl)); have a7 := tx_i2l e5x1; have oc := oc_284_109; omega)), (gvR_cg (L := ([], [], [(109, 0)], [])) (fr_sF rfl fr_rf) rfl)⟩ | exact Or.inr (Or.inl ⟨rfl, ⟨⟨by have a0 := oa7 i1 ((inv_F hI 0 2 rfl e_109_0)) i78 ((in_c 0 rfl)) i5x8x3b i55x8 ((in_c 1 rfl)); have a7 := tx_i2l e5x1; have oc := oc_284_109; omega, by have a0 := oa7 i1 ((inv_F hI 0 2 rfl e_109_0)) i78 ((in_c 0 rfl)) i5x8x3b i55x8 ((in_c 1 rfl)); have a7 := tx_i2l e5x1; have oc := oc_284_109; omega, by rw [← e55x16]; have a0 := oa7 i1 ((inv_F hI 0 2 rfl e_109_0)) i78 ((in_c 0 rfl)) i5x8x3b i55x8 ((in_c 1 rfl)); have a7 := tx_i2l e5x1; have oc := oc_284_109; omega⟩, (by unfold GVL In; have a0 := oa7 i1 ((inv_F hI 0 2 rfl e_109_0)) i78 ((in_c 0 rfl)) i5x8x3b i55x8 ((in_c 1 rfl)); have a7 := tx_i2l e5x1; have oc := oc_284_109; omega)⟩, (by rw [← e_109_9]; have a0 := oa7 i1 ((inv_F hI 0 2 rfl e_109_0)) i78 ((in_c 0 rfl)) i5x8x3b i55x8 ((in_c 1 rfl)); have a7 := tx_i2l e5x1; have oc := oc_284_109; omega), (gvR_cg (L := ([], [], [(109, 0)], [])) (fr_sF rfl fr_rf) rfl)⟩)
                    have n93a : LGX s (sF s 109 0 (Int32.ofInt 1)) (Int32.ofInt 3) x1 x2 x3 (Int32.ofInt 0) (Int32.ofInt 0) (Int32.ofInt 0) := by exact Or.inl ⟨rfl, rfl, rfl, rfl, rfl, rfl, rfl, rfl⟩
                    have n93b : GSE s → GSE (sF s 109 0 (Int32.ofInt 1)) := by exact fun h => gse_fr (L := ([], [], [(109, 0)], [])) h (fr_sF rfl fr_rf) rfl
                    have n93c : G1S s (sF s 109 0 (Int32.ofInt 1)) := by exact ⟨rfl, fun _ _ => rfl, fun _ _ _ => ⟨rfl, rfl, rfl, rfl, rfl, rfl⟩⟩
                    exact g_ireturn (gd rfl) rfl rfl (hP _ _ ⟨(sF s 109 0 (Int32.ofInt 1)), hI86x18, (fr_sF rfl fr_rf), (Int32.ofInt 0), rfl, rfl, in_w (-1000000) 1000000 (in_c 0 rfl) rfl, n93, n93a, n93b, n93c⟩)
            · skip
              have i78 := r_lt1 0 3999 c78 (inv_F hI 0 4000 rfl e_109_9) (in_c 4000 rfl) rfl
              refine g_iconst 1 82 (gd rfl) rfl rfl ?_
              refine g_goto 86 (gd rfl) rfl ?_
              refine g_callv (X := _) (As := [.int (Int32.ofInt 0), .int (Int32.ofInt 1)]) (r := []) (b := A 109) (q := 109) 89 (gd rfl) rfl rfl rfl rfl rfl (ww_o rfl) (Nat.le_of_ble_eq_true rfl) (mc := 0) (ms := 0) (Nat.zero_le _) (Nat.zero_le _) (P := fun v u => _) ?_ (fun e u h => h) (fun v u h => h)
              intro po86 xx86 hp86 hx86
              refine g_enter2 (k := 270) (N := 300) (by first | exact dq1 hd rfl | exact dq0 hd rfl | exact dq2 hd rfl | exact dq3 hd rfl | omega) rfl (Nat.le_of_ble_eq_true rfl) ?_
              refine g_aload_n 1 (gd rfl) rfl rfl ?_
              refine g_iload_n 2 (gd rfl) rfl rfl ?_
              refine g_if_ne 5 9 (gd rfl) rfl rfl (fun c86x2 => ?_) (fun c86x2 => ?_)
              · skip
                exact zn_ne c86x2 (in_c 0 rfl) rfl
              · skip
                refine g_iconst 1 6 (gd rfl) rfl rfl ?_
                refine g_goto 18 (gd rfl) rfl ?_
                refine g_putI 21 (gd rfl) rfl rfl rfl rfl ?_
                have hI86x18 := inv_sF (q := 109) (j := 0) hI rfl (in_w 0 2 (in_c 1 rfl) rfl)
                refine g_aload_n 22 (gd rfl) rfl rfl ?_
                refine g_getI 25 (gd rfl) rfl rfl rfl (fun z86x22 e86x22 => ?_)
                have q86x22 : (Int32.ofInt 1) = z86x22 := (sF_get).trans e86x22.symm
                subst q86x22
                refine g_if_le 28 32 (gd rfl) rfl rfl (fun c86x25 => ?_) (fun c86x25 => ?_)
                · skip
                  exact zn_le c86x25 (in_c 1 rfl) rfl
                · skip
                  refine g_iconst 1 29 (gd rfl) rfl rfl ?_
                  refine g_goto 33 (gd rfl) rfl ?_
                  refine g_ireturn (gd rfl) rfl (nb01 (in_w 0 1 (in_c 1 rfl) rfl)) (hp86 _ _ ?_)
                  show GG _ _ _ _ _ _ _ _ [.int (Int32.ofInt 1)] _ _ _
                  refine g_if_eq 92 94 (gd rfl) rfl rfl (fun c89 => ?_) (fun c89 => ?_)
                  · skip
                    exact zn_eq c89 (in_c 1 rfl) rfl
                  · skip
                    refine g_iconst 0 93 (gd rfl) rfl rfl ?_
                    have n93 : CDR s (sF s 109 0 (Int32.ofInt 1)) (HAR s x1 ∧ GVL x2 x3) ((s.2.2.1 109 9).toInt ≤ 3999) (((Int32.ofInt 0)) = (if (x2).toInt = 0 then s.1 115 (x1).toNatClampNeg else if (x2).toInt = 1 then s.1 116 (x1).toNatClampNeg else s.1 117 (x1).toNatClampNeg) ∧ gvR (sF s 109 0 (Int32.ofInt 1)) = gqW (gvR s) (x1).toNatClampNeg x2 x3) := by first | exact Or.inl ⟨rfl, (by first | (unfold HAR GVL In; have a0 := oa7 i1 ((inv_F hI 0 2 rfl e_109_0)) i78 ((in_c 0 rfl)) i5x8x3b i55x8 ((in_c 1 rfl)); have a7 := tx_i2l e5x1; have oc := oc_284_109; omega) | (unfold HAR GVL In; rw [← e55x16]; have a0 := oa7 i1 ((inv_F hI 0 2 rfl e_109_0)) i78 ((in_c 0 rfl)) i5x8x3b i55x8 ((in_c 1 rfl)); have a7 := tx_i2l e5x1; have oc := oc_284_109; omega)), (gvR_cg (L := ([], [], [(109, 0)], [])) (fr_sF rfl fr_rf) rfl)⟩ | exact Or.inr (Or.inl ⟨rfl, ⟨⟨by have a0 := oa7 i1 ((inv_F hI 0 2 rfl e_109_0)) i78 ((in_c 0 rfl)) i5x8x3b i55x8 ((in_c 1 rfl)); have a7 := tx_i2l e5x1; have oc := oc_284_109; omega, by have a0 := oa7 i1 ((inv_F hI 0 2 rfl e_109_0)) i78 ((in_c 0 rfl)) i5x8x3b i55x8 ((in_c 1 rfl)); have a7 := tx_i2l e5x1; have oc := oc_284_109; omega, by rw [← e55x16]; have a0 := oa7 i1 ((inv_F hI 0 2 rfl e_109_0)) i78 ((in_c 0 rfl)) i5x8x3b i55x8 ((in_c 1 rfl)); have a7 := tx_i2l e5x1; have oc := oc_284_109; omega⟩, (by unfold GVL In; have a0 := oa7 i1 ((inv_F hI 0 2 rfl e_109_0)) i78 ((in_c 0 rfl)) i5x8x3b i55x8 ((in_c 1 rfl)); have a7 := tx_i2l e5x1; have oc := oc_284_109; omega)⟩, (by rw [← e_109_9]; have a0 := oa7 i1 ((inv_F hI 0 2 rfl e_109_0)) i78 ((in_c 0 rfl)) i5x8x3b i55x8 ((in_c 1 rfl)); have a7 := tx_i2l e5x1; have oc := oc_284_109; omega), (gvR_cg (L := ([], [], [(109, 0)], [])) (fr_sF rfl fr_rf) rfl)⟩)
                    have n93a : LGX s (sF s 109 0 (Int32.ofInt 1)) (Int32.ofInt 3) x1 x2 x3 (Int32.ofInt 0) (Int32.ofInt 0) (Int32.ofInt 0) := by exact Or.inl ⟨rfl, rfl, rfl, rfl, rfl, rfl, rfl, rfl⟩
                    have n93b : GSE s → GSE (sF s 109 0 (Int32.ofInt 1)) := by exact fun h => gse_fr (L := ([], [], [(109, 0)], [])) h (fr_sF rfl fr_rf) rfl
                    have n93c : G1S s (sF s 109 0 (Int32.ofInt 1)) := by exact ⟨rfl, fun _ _ => rfl, fun _ _ _ => ⟨rfl, rfl, rfl, rfl, rfl, rfl⟩⟩
                    exact g_ireturn (gd rfl) rfl rfl (hP _ _ ⟨(sF s 109 0 (Int32.ofInt 1)), hI86x18, (fr_sF rfl fr_rf), (Int32.ofInt 0), rfl, rfl, in_w (-1000000) 1000000 (in_c 0 rfl) rfl, n93, n93a, n93b, n93c⟩)
          · skip
            exact zn_ne c58 (in_c 0 rfl) rfl
        · skip
          have i55x8 := r_lt1 0 159 c55x8 i55x1 (in_c 160 rfl) rfl
          refine g_aload_n 12 (gd rfl) rfl rfl ?_
          refine g_getA (q2 := 112) 15 (gd rfl) rfl rfl rfl rfl ?_
          refine g_iload_n 16 (gd rfl) rfl rfl ?_
          refine g_baload 17 (gd rfl) rfl (n := 480) rfl (in_ix i55x8 rfl) (fun z55x16 e55x16 => ?_)
          have i55x16 := inv_I hI (n := 480) (t := 3) 0 1 rfl (in_ix i55x8 rfl) rfl e55x16
          refine g_if_eq 20 24 (gd rfl) rfl rfl (fun c55x17 => ?_) (fun c55x17 => ?_)
          · skip
            have i55x17 := z_eq 0 0 c55x17 i55x16 rfl
            refine g_iconst 0 25 (gd rfl) rfl rfl ?_
            refine g_ireturn (gd rfl) rfl (nb01 (in_w 0 1 (in_c 0 rfl) rfl)) (hp55 _ _ ?_)
            show GG _ _ _ _ _ _ _ _ [.int (Int32.ofInt 0), .ref (A 109)] _ _ _
            refine g_if_eq 61 70 (gd rfl) rfl rfl (fun c58 => ?_) (fun c58 => ?_)
            · skip
              refine g_iconst 0 71 (gd rfl) rfl rfl ?_
              refine g_aload_n 72 (gd rfl) rfl rfl ?_
              refine g_getI 75 (gd rfl) rfl rfl rfl (fun z72 e72 => ?_)
              have q72 : u_109_9 = z72 := (e_109_9).trans e72.symm
              subst q72
              refine g_sipush 4000 78 (gd rfl) rfl rfl ?_
              refine g_cmp_ge 81 85 (gd rfl) rfl rfl (fun c78 => ?_) (fun c78 => ?_)
              · skip
                have i78 := r_le2 4000 4000 c78 (in_c 4000 rfl) (inv_F hI 0 4000 rfl e_109_9) rfl
                refine g_iconst 0 86 (gd rfl) rfl rfl ?_
                refine g_callv (X := _) (As := [.int (Int32.ofInt 0), .int (Int32.ofInt 0)]) (r := []) (b := A 109) (q := 109) 89 (gd rfl) rfl rfl rfl rfl rfl (ww_o rfl) (Nat.le_of_ble_eq_true rfl) (mc := 0) (ms := 0) (Nat.zero_le _) (Nat.zero_le _) (P := fun v u => _) ?_ (fun e u h => h) (fun v u h => h)
                intro po86 xx86 hp86 hx86
                refine g_enter2 (k := 270) (N := 300) (by first | exact dq1 hd rfl | exact dq0 hd rfl | exact dq2 hd rfl | exact dq3 hd rfl | omega) rfl (Nat.le_of_ble_eq_true rfl) ?_
                refine g_aload_n 1 (gd rfl) rfl rfl ?_
                refine g_iload_n 2 (gd rfl) rfl rfl ?_
                refine g_if_ne 5 9 (gd rfl) rfl rfl (fun c86x2 => ?_) (fun c86x2 => ?_)
                · skip
                  exact zn_ne c86x2 (in_c 0 rfl) rfl
                · skip
                  refine g_iconst 1 6 (gd rfl) rfl rfl ?_
                  refine g_goto 18 (gd rfl) rfl ?_
                  refine g_putI 21 (gd rfl) rfl rfl rfl rfl ?_
                  have hI86x18 := inv_sF (q := 109) (j := 0) hI rfl (in_w 0 2 (in_c 1 rfl) rfl)
                  refine g_aload_n 22 (gd rfl) rfl rfl ?_
                  refine g_getI 25 (gd rfl) rfl rfl rfl (fun z86x22 e86x22 => ?_)
                  have q86x22 : (Int32.ofInt 1) = z86x22 := (sF_get).trans e86x22.symm
                  subst q86x22
                  refine g_if_le 28 32 (gd rfl) rfl rfl (fun c86x25 => ?_) (fun c86x25 => ?_)
                  · skip
                    exact zn_le c86x25 (in_c 1 rfl) rfl
                  · skip
                    refine g_iconst 1 29 (gd rfl) rfl rfl ?_
                    refine g_goto 33 (gd rfl) rfl ?_
                    refine g_ireturn (gd rfl) rfl (nb01 (in_w 0 1 (in_c 1 rfl) rfl)) (hp86 _ _ ?_)
                    show GG _ _ _ _ _ _ _ _ [.int (Int32.ofInt 1)] _ _ _
                    refine g_if_eq 92 94 (gd rfl) rfl rfl (fun c89 => ?_) (fun c89 => ?_)
                    · skip
                      exact zn_eq c89 (in_c 1 rfl) rfl
                    · skip
                      refine g_iconst 0 93 (gd rfl) rfl rfl ?_
                      have n93 : CDR s (sF s 109 0 (Int32.ofInt 1)) (HAR s x1 ∧ GVL x2 x3) ((s.2.2.1 109 9).toInt ≤ 3999) (((Int32.ofInt 0)) = (if (x2).toInt = 0 then s.1 115 (x1).toNatClampNeg else if (x2).toInt = 1 then s.1 116 (x1).toNatClampNeg else s.1 117 (x1).toNatClampNeg) ∧ gvR (sF s 109 0 (Int32.ofInt 1)) = gqW (gvR s) (x1).toNatClampNeg x2 x3) := by first | exact Or.inl ⟨rfl, (by first | (unfold HAR GVL In; have a0 := oa7 i55x8 i1 ((inv_F hI 0 2 rfl e_109_0)) i78 ((in_c 0 rfl)) i5x8x3b ((in_c 1 rfl)); have a7 := tx_i2l e5x1; have oc := oc_284_109; omega) | (unfold HAR GVL In; rw [← e55x16]; have a0 := oa7 i55x8 i1 ((inv_F hI 0 2 rfl e_109_0)) i78 ((in_c 0 rfl)) i5x8x3b ((in_c 1 rfl)); have a7 := tx_i2l e5x1; have oc := oc_284_109; omega)), (gvR_cg (L := ([], [], [(109, 0)], [])) (fr_sF rfl fr_rf) rfl)⟩ | exact Or.inr (Or.inl ⟨rfl, ⟨⟨by have a0 := oa7 i55x8 i1 ((inv_F hI 0 2 rfl e_109_0)) i78 ((in_c 0 rfl)) i5x8x3b ((in_c 1 rfl)); have a7 := tx_i2l e5x1; have oc := oc_284_109; omega, by have a0 := oa7 i55x8 i1 ((inv_F hI 0 2 rfl e_109_0)) i78 ((in_c 0 rfl)) i5x8x3b ((in_c 1 rfl)); have a7 := tx_i2l e5x1; have oc := oc_284_109; omega, by rw [← e55x16]; have a0 := oa7 i55x8 i1 ((inv_F hI 0 2 rfl e_109_0)) i78 ((in_c 0 rfl)) i5x8x3b ((in_c 1 rfl)); have a7 := tx_i2l e5x1; have oc := oc_284_109; omega⟩, (by unfold GVL In; have a0 := oa7 i55x8 i1 ((inv_F hI 0 2 rfl e_109_0)) i78 ((in_c 0 rfl)) i5x8x3b ((in_c 1 rfl)); have a7 := tx_i2l e5x1; have oc := oc_284_109; omega)⟩, (by rw [← e_109_9]; have a0 := oa7 i55x8 i1 ((inv_F hI 0 2 rfl e_109_0)) i78 ((in_c 0 rfl)) i5x8x3b ((in_c 1 rfl)); have a7 := tx_i2l e5x1; have oc := oc_284_109; omega), (gvR_cg (L := ([], [], [(109, 0)], [])) (fr_sF rfl fr_rf) rfl)⟩)
                      have n93a : LGX s (sF s 109 0 (Int32.ofInt 1)) (Int32.ofInt 3) x1 x2 x3 (Int32.ofInt 0) (Int32.ofInt 0) (Int32.ofInt 0) := by exact Or.inl ⟨rfl, rfl, rfl, rfl, rfl, rfl, rfl, rfl⟩
                      have n93b : GSE s → GSE (sF s 109 0 (Int32.ofInt 1)) := by exact fun h => gse_fr (L := ([], [], [(109, 0)], [])) h (fr_sF rfl fr_rf) rfl
                      have n93c : G1S s (sF s 109 0 (Int32.ofInt 1)) := by exact ⟨rfl, fun _ _ => rfl, fun _ _ _ => ⟨rfl, rfl, rfl, rfl, rfl, rfl⟩⟩
                      exact g_ireturn (gd rfl) rfl rfl (hP _ _ ⟨(sF s 109 0 (Int32.ofInt 1)), hI86x18, (fr_sF rfl fr_rf), (Int32.ofInt 0), rfl, rfl, in_w (-1000000) 1000000 (in_c 0 rfl) rfl, n93, n93a, n93b, n93c⟩)
              · skip
                have i78 := r_lt1 0 3999 c78 (inv_F hI 0 4000 rfl e_109_9) (in_c 4000 rfl) rfl
                refine g_iconst 1 82 (gd rfl) rfl rfl ?_
                refine g_goto 86 (gd rfl) rfl ?_
                refine g_callv (X := _) (As := [.int (Int32.ofInt 0), .int (Int32.ofInt 1)]) (r := []) (b := A 109) (q := 109) 89 (gd rfl) rfl rfl rfl rfl rfl (ww_o rfl) (Nat.le_of_ble_eq_true rfl) (mc := 0) (ms := 0) (Nat.zero_le _) (Nat.zero_le _) (P := fun v u => _) ?_ (fun e u h => h) (fun v u h => h)
                intro po86 xx86 hp86 hx86
                refine g_enter2 (k := 270) (N := 300) (by first | exact dq1 hd rfl | exact dq0 hd rfl | exact dq2 hd rfl | exact dq3 hd rfl | omega) rfl (Nat.le_of_ble_eq_true rfl) ?_
                refine g_aload_n 1 (gd rfl) rfl rfl ?_
                refine g_iload_n 2 (gd rfl) rfl rfl ?_
                refine g_if_ne 5 9 (gd rfl) rfl rfl (fun c86x2 => ?_) (fun c86x2 => ?_)
                · skip
                  exact zn_ne c86x2 (in_c 0 rfl) rfl
                · skip
                  refine g_iconst 1 6 (gd rfl) rfl rfl ?_
                  refine g_goto 18 (gd rfl) rfl ?_
                  refine g_putI 21 (gd rfl) rfl rfl rfl rfl ?_
                  have hI86x18 := inv_sF (q := 109) (j := 0) hI rfl (in_w 0 2 (in_c 1 rfl) rfl)
                  refine g_aload_n 22 (gd rfl) rfl rfl ?_
                  refine g_getI 25 (gd rfl) rfl rfl rfl (fun z86x22 e86x22 => ?_)
                  have q86x22 : (Int32.ofInt 1) = z86x22 := (sF_get).trans e86x22.symm
                  subst q86x22
                  refine g_if_le 28 32 (gd rfl) rfl rfl (fun c86x25 => ?_) (fun c86x25 => ?_)
                  · skip
                    exact zn_le c86x25 (in_c 1 rfl) rfl
                  · skip
                    refine g_iconst 1 29 (gd rfl) rfl rfl ?_
                    refine g_goto 33 (gd rfl) rfl ?_
                    refine g_ireturn (gd rfl) rfl (nb01 (in_w 0 1 (in_c 1 rfl) rfl)) (hp86 _ _ ?_)
                    show GG _ _ _ _ _ _ _ _ [.int (Int32.ofInt 1)] _ _ _
                    refine g_if_eq 92 94 (gd rfl) rfl rfl (fun c89 => ?_) (fun c89 => ?_)
                    · skip
                      exact zn_eq c89 (in_c 1 rfl) rfl
                    · skip
                      refine g_iconst 0 93 (gd rfl) rfl rfl ?_
                      have n93 : CDR s (sF s 109 0 (Int32.ofInt 1)) (HAR s x1 ∧ GVL x2 x3) ((s.2.2.1 109 9).toInt ≤ 3999) (((Int32.ofInt 0)) = (if (x2).toInt = 0 then s.1 115 (x1).toNatClampNeg else if (x2).toInt = 1 then s.1 116 (x1).toNatClampNeg else s.1 117 (x1).toNatClampNeg) ∧ gvR (sF s 109 0 (Int32.ofInt 1)) = gqW (gvR s) (x1).toNatClampNeg x2 x3) := by first | exact Or.inl ⟨rfl, (by first | (unfold HAR GVL In; have a0 := oa7 i55x8 i1 ((inv_F hI 0 2 rfl e_109_0)) i78 ((in_c 0 rfl)) i5x8x3b ((in_c 1 rfl)); have a7 := tx_i2l e5x1; have oc := oc_284_109; omega) | (unfold HAR GVL In; rw [← e55x16]; have a0 := oa7 i55x8 i1 ((inv_F hI 0 2 rfl e_109_0)) i78 ((in_c 0 rfl)) i5x8x3b ((in_c 1 rfl)); have a7 := tx_i2l e5x1; have oc := oc_284_109; omega)), (gvR_cg (L := ([], [], [(109, 0)], [])) (fr_sF rfl fr_rf) rfl)⟩ | exact Or.inr (Or.inl ⟨rfl, ⟨⟨by have a0 := oa7 i55x8 i1 ((inv_F hI 0 2 rfl e_109_0)) i78 ((in_c 0 rfl)) i5x8x3b ((in_c 1 rfl)); have a7 := tx_i2l e5x1; have oc := oc_284_109; omega, by have a0 := oa7 i55x8 i1 ((inv_F hI 0 2 rfl e_109_0)) i78 ((in_c 0 rfl)) i5x8x3b ((in_c 1 rfl)); have a7 := tx_i2l e5x1; have oc := oc_284_109; omega, by rw [← e55x16]; have a0 := oa7 i55x8 i1 ((inv_F hI 0 2 rfl e_109_0)) i78 ((in_c 0 rfl)) i5x8x3b ((in_c 1 rfl)); have a7 := tx_i2l e5x1; have oc := oc_284_109; omega⟩, (by unfold GVL In; have a0 := oa7 i55x8 i1 ((inv_F hI 0 2 rfl e_109_0)) i78 ((in_c 0 rfl)) i5x8x3b ((in_c 1 rfl)); have a7 := tx_i2l e5x1; have oc := oc_284_109; omega)⟩, (by rw [← e_109_9]; have a0 := oa7 i55x8 i1 ((inv_F hI 0 2 rfl e_109_0)) i78 ((in_c 0 rfl)) i5x8x3b ((in_c 1 rfl)); have a7 := tx_i2l e5x1; have oc := oc_284_109; omega), (gvR_cg (L := ([], [], [(109, 0)], [])) (fr_sF rfl fr_rf) rfl)⟩)
                      have n93a : LGX s (sF s 109 0 (Int32.ofInt 1)) (Int32.ofInt 3) x1 x2 x3 (Int32.ofInt 0) (Int32.ofInt 0) (Int32.ofInt 0) := by exact Or.inl ⟨rfl, rfl, rfl, rfl, rfl, rfl, rfl, rfl⟩
                      have n93b : GSE s → GSE (sF s 109 0 (Int32.ofInt 1)) := by exact fun h => gse_fr (L := ([], [], [(109, 0)], [])) h (fr_sF rfl fr_rf) rfl
                      have n93c : G1S s (sF s 109 0 (Int32.ofInt 1)) := by exact ⟨rfl, fun _ _ => rfl, fun _ _ _ => ⟨rfl, rfl, rfl, rfl, rfl, rfl⟩⟩
                      exact g_ireturn (gd rfl) rfl rfl (hP _ _ ⟨(sF s 109 0 (Int32.ofInt 1)), hI86x18, (fr_sF rfl fr_rf), (Int32.ofInt 0), rfl, rfl, in_w (-1000000) 1000000 (in_c 0 rfl) rfl, n93, n93a, n93b, n93c⟩)
            · skip
              exact zn_ne c58 (in_c 0 rfl) rfl
          · skip
            have i55x17 := z_ne 1 1 c55x17 i55x16 rfl
            refine g_iconst 1 21 (gd rfl) rfl rfl ?_
            refine g_goto 25 (gd rfl) rfl ?_
            refine g_ireturn (gd rfl) rfl (nb01 (in_w 0 1 (in_c 1 rfl) rfl)) (hp55 _ _ ?_)
            show GG _ _ _ _ _ _ _ _ [.int (Int32.ofInt 1), .ref (A 109)] _ _ _
            refine g_if_eq 61 70 (gd rfl) rfl rfl (fun c58 => ?_) (fun c58 => ?_)
            · skip
              exact zn_eq c58 (in_c 1 rfl) rfl
            · skip
              refine g_iload 63 (gd rfl) rfl rfl ?_
              refine g_if_eq 66 70 (gd rfl) rfl rfl (fun c63 => ?_) (fun c63 => ?_)
              · skip
                refine g_iconst 0 71 (gd rfl) rfl rfl ?_
                refine g_aload_n 72 (gd rfl) rfl rfl ?_
                refine g_getI 75 (gd rfl) rfl rfl rfl (fun z72 e72 => ?_)
                have q72 : u_109_9 = z72 := (e_109_9).trans e72.symm
                subst q72
                refine g_sipush 4000 78 (gd rfl) rfl rfl ?_
                refine g_cmp_ge 81 85 (gd rfl) rfl rfl (fun c78 => ?_) (fun c78 => ?_)
                · skip
                  have i78 := r_le2 4000 4000 c78 (in_c 4000 rfl) (inv_F hI 0 4000 rfl e_109_9) rfl
                  refine g_iconst 0 86 (gd rfl) rfl rfl ?_
                  refine g_callv (X := _) (As := [.int (Int32.ofInt 0), .int (Int32.ofInt 0)]) (r := []) (b := A 109) (q := 109) 89 (gd rfl) rfl rfl rfl rfl rfl (ww_o rfl) (Nat.le_of_ble_eq_true rfl) (mc := 0) (ms := 0) (Nat.zero_le _) (Nat.zero_le _) (P := fun v u => _) ?_ (fun e u h => h) (fun v u h => h)
                  intro po86 xx86 hp86 hx86
                  refine g_enter2 (k := 270) (N := 300) (by first | exact dq1 hd rfl | exact dq0 hd rfl | exact dq2 hd rfl | exact dq3 hd rfl | omega) rfl (Nat.le_of_ble_eq_true rfl) ?_
                  refine g_aload_n 1 (gd rfl) rfl rfl ?_
                  refine g_iload_n 2 (gd rfl) rfl rfl ?_
                  refine g_if_ne 5 9 (gd rfl) rfl rfl (fun c86x2 => ?_) (fun c86x2 => ?_)
                  · skip
                    exact zn_ne c86x2 (in_c 0 rfl) rfl
                  · skip
                    refine g_iconst 1 6 (gd rfl) rfl rfl ?_
                    refine g_goto 18 (gd rfl) rfl ?_
                    refine g_putI 21 (gd rfl) rfl rfl rfl rfl ?_
                    have hI86x18 := inv_sF (q := 109) (j := 0) hI rfl (in_w 0 2 (in_c 1 rfl) rfl)
                    refine g_aload_n 22 (gd rfl) rfl rfl ?_
                    refine g_getI 25 (gd rfl) rfl rfl rfl (fun z86x22 e86x22 => ?_)
                    have q86x22 : (Int32.ofInt 1) = z86x22 := (sF_get).trans e86x22.symm
                    subst q86x22
                    refine g_if_le 28 32 (gd rfl) rfl rfl (fun c86x25 => ?_) (fun c86x25 => ?_)
                    · skip
                      exact zn_le c86x25 (in_c 1 rfl) rfl
                    · skip
                      refine g_iconst 1 29 (gd rfl) rfl rfl ?_
                      refine g_goto 33 (gd rfl) rfl ?_
                      refine g_ireturn (gd rfl) rfl (nb01 (in_w 0 1 (in_c 1 rfl) rfl)) (hp86 _ _ ?_)
                      show GG _ _ _ _ _ _ _ _ [.int (Int32.ofInt 1)] _ _ _
                      refine g_if_eq 92 94 (gd rfl) rfl rfl (fun c89 => ?_) (fun c89 => ?_)
                      · skip
                        exact zn_eq c89 (in_c 1 rfl) rfl
                      · skip
                        refine g_iconst 0 93 (gd rfl) rfl rfl ?_
                        have n93 : CDR s (sF s 109 0 (Int32.ofInt 1)) (HAR s x1 ∧ GVL x2 x3) ((s.2.2.1 109 9).toInt ≤ 3999) (((Int32.ofInt 0)) = (if (x2).toInt = 0 then s.1 115 (x1).toNatClampNeg else if (x2).toInt = 1 then s.1 116 (x1).toNatClampNeg else s.1 117 (x1).toNatClampNeg) ∧ gvR (sF s 109 0 (Int32.ofInt 1)) = gqW (gvR s) (x1).toNatClampNeg x2 x3) := by first | exact Or.inl ⟨rfl, (by first | (unfold HAR GVL In; have a0 := oa7 i55x8 i1 ((inv_F hI 0 2 rfl e_109_0)) i78 ((in_c 0 rfl)) i5x8x3b ((in_c 1 rfl)); have a7 := tx_i2l e5x1; have oc := oc_284_109; omega) | (unfold HAR GVL In; rw [← e55x16]; have a0 := oa7 i55x8 i1 ((inv_F hI 0 2 rfl e_109_0)) i78 ((in_c 0 rfl)) i5x8x3b ((in_c 1 rfl)); have a7 := tx_i2l e5x1; have oc := oc_284_109; omega)), (gvR_cg (L := ([], [], [(109, 0)], [])) (fr_sF rfl fr_rf) rfl)⟩ | exact Or.inr (Or.inl ⟨rfl, ⟨⟨by have a0 := oa7 i55x8 i1 ((inv_F hI 0 2 rfl e_109_0)) i78 ((in_c 0 rfl)) i5x8x3b ((in_c 1 rfl)); have a7 := tx_i2l e5x1; have oc := oc_284_109; omega, by have a0 := oa7 i55x8 i1 ((inv_F hI 0 2 rfl e_109_0)) i78 ((in_c 0 rfl)) i5x8x3b ((in_c 1 rfl)); have a7 := tx_i2l e5x1; have oc := oc_284_109; omega, by rw [← e55x16]; have a0 := oa7 i55x8 i1 ((inv_F hI 0 2 rfl e_109_0)) i78 ((in_c 0 rfl)) i5x8x3b ((in_c 1 rfl)); have a7 := tx_i2l e5x1; have oc := oc_284_109; omega⟩, (by unfold GVL In; have a0 := oa7 i55x8 i1 ((inv_F hI 0 2 rfl e_109_0)) i78 ((in_c 0 rfl)) i5x8x3b ((in_c 1 rfl)); have a7 := tx_i2l e5x1; have oc := oc_284_109; omega)⟩, (by rw [← e_109_9]; have a0 := oa7 i55x8 i1 ((inv_F hI 0 2 rfl e_109_0)) i78 ((in_c 0 rfl)) i5x8x3b ((in_c 1 rfl)); have a7 := tx_i2l e5x1; have oc := oc_284_109; omega), (gvR_cg (L := ([], [], [(109, 0)], [])) (fr_sF rfl fr_rf) rfl)⟩)
                        have n93a : LGX s (sF s 109 0 (Int32.ofInt 1)) (Int32.ofInt 3) x1 x2 x3 (Int32.ofInt 0) (Int32.ofInt 0) (Int32.ofInt 0) := by exact Or.inl ⟨rfl, rfl, rfl, rfl, rfl, rfl, rfl, rfl⟩
                        have n93b : GSE s → GSE (sF s 109 0 (Int32.ofInt 1)) := by exact fun h => gse_fr (L := ([], [], [(109, 0)], [])) h (fr_sF rfl fr_rf) rfl
                        have n93c : G1S s (sF s 109 0 (Int32.ofInt 1)) := by exact ⟨rfl, fun _ _ => rfl, fun _ _ _ => ⟨rfl, rfl, rfl, rfl, rfl, rfl⟩⟩
                        exact g_ireturn (gd rfl) rfl rfl (hP _ _ ⟨(sF s 109 0 (Int32.ofInt 1)), hI86x18, (fr_sF rfl fr_rf), (Int32.ofInt 0), rfl, rfl, in_w (-1000000) 1000000 (in_c 0 rfl) rfl, n93, n93a, n93b, n93c⟩)
                · skip
                  have i78 := r_lt1 0 3999 c78 (inv_F hI 0 4000 rfl e_109_9) (in_c 4000 rfl) rfl
                  refine g_iconst 1 82 (gd rfl) rfl rfl ?_
                  refine g_goto 86 (gd rfl) rfl ?_
                  refine g_callv (X := _) (As := [.int (Int32.ofInt 0), .int (Int32.ofInt 1)]) (r := []) (b := A 109) (q := 109) 89 (gd rfl) rfl rfl rfl rfl rfl (ww_o rfl) (Nat.le_of_ble_eq_true rfl) (mc := 0) (ms := 0) (Nat.zero_le _) (Nat.zero_le _) (P := fun v u => _) ?_ (fun e u h => h) (fun v u h => h)
                  intro po86 xx86 hp86 hx86
                  refine g_enter2 (k := 270) (N := 300) (by first | exact dq1 hd rfl | exact dq0 hd rfl | exact dq2 hd rfl | exact dq3 hd rfl | omega) rfl (Nat.le_of_ble_eq_true rfl) ?_
                  refine g_aload_n 1 (gd rfl) rfl rfl ?_
                  refine g_iload_n 2 (gd rfl) rfl rfl ?_
                  refine g_if_ne 5 9 (gd rfl) rfl rfl (fun c86x2 => ?_) (fun c86x2 => ?_)
                  · skip
                    exact zn_ne c86x2 (in_c 0 rfl) rfl
                  · skip
                    refine g_iconst 1 6 (gd rfl) rfl rfl ?_
                    refine g_goto 18 (gd rfl) rfl ?_
                    refine g_putI 21 (gd rfl) rfl rfl rfl rfl ?_
                    have hI86x18 := inv_sF (q := 109) (j := 0) hI rfl (in_w 0 2 (in_c 1 rfl) rfl)
                    refine g_aload_n 22 (gd rfl) rfl rfl ?_
                    refine g_getI 25 (gd rfl) rfl rfl rfl (fun z86x22 e86x22 => ?_)
                    have q86x22 : (Int32.ofInt 1) = z86x22 := (sF_get).trans e86x22.symm
                    subst q86x22
                    refine g_if_le 28 32 (gd rfl) rfl rfl (fun c86x25 => ?_) (fun c86x25 => ?_)
                    · skip
                      exact zn_le c86x25 (in_c 1 rfl) rfl
                    · skip
                      refine g_iconst 1 29 (gd rfl) rfl rfl ?_
                      refine g_goto 33 (gd rfl) rfl ?_
                      refine g_ireturn (gd rfl) rfl (nb01 (in_w 0 1 (in_c 1 rfl) rfl)) (hp86 _ _ ?_)
                      show GG _ _ _ _ _ _ _ _ [.int (Int32.ofInt 1)] _ _ _
                      refine g_if_eq 92 94 (gd rfl) rfl rfl (fun c89 => ?_) (fun c89 => ?_)
                      · skip
                        exact zn_eq c89 (in_c 1 rfl) rfl
                      · skip
                        refine g_iconst 0 93 (gd rfl) rfl rfl ?_
                        have n93 : CDR s (sF s 109 0 (Int32.ofInt 1)) (HAR s x1 ∧ GVL x2 x3) ((s.2.2.1 109 9).toInt ≤ 3999) (((Int32.ofInt 0)) = (if (x2).toInt = 0 then s.1 115 (x1).toNatClampNeg else if (x2).toInt = 1 then s.1 116 (x1).toNatClampNeg else s.1 117 (x1).toNatClampNeg) ∧ gvR (sF s 109 0 (Int32.ofInt 1)) = gqW (gvR s) (x1).toNatClampNeg x2 x3) := by first | exact Or.inl ⟨rfl, (by first | (unfold HAR GVL In; have a0 := oa7 i55x8 i1 ((inv_F hI 0 2 rfl e_109_0)) i78 ((in_c 0 rfl)) i5x8x3b ((in_c 1 rfl)); have a7 := tx_i2l e5x1; have oc := oc_284_109; omega) | (unfold HAR GVL In; rw [← e55x16]; have a0 := oa7 i55x8 i1 ((inv_F hI 0 2 rfl e_109_0)) i78 ((in_c 0 rfl)) i5x8x3b ((in_c 1 rfl)); have a7 := tx_i2l e5x1; have oc := oc_284_109; omega)), (gvR_cg (L := ([], [], [(109, 0)], [])) (fr_sF rfl fr_rf) rfl)⟩ | exact Or.inr (Or.inl ⟨rfl, ⟨⟨by have a0 := oa7 i55x8 i1 ((inv_F hI 0 2 rfl e_109_0)) i78 ((in_c 0 rfl)) i5x8x3b ((in_c 1 rfl)); have a7 := tx_i2l e5x1; have oc := oc_284_109; omega, by have a0 := oa7 i55x8 i1 ((inv_F hI 0 2 rfl e_109_0)) i78 ((in_c 0 rfl)) i5x8x3b ((in_c 1 rfl)); have a7 := tx_i2l e5x1; have oc := oc_284_109; omega, by rw [← e55x16]; have a0 := oa7 i55x8 i1 ((inv_F hI 0 2 rfl e_109_0)) i78 ((in_c 0 rfl)) i5x8x3b ((in_c 1 rfl)); have a7 := tx_i2l e5x1; have oc := oc_284_109; omega⟩, (by unfold GVL In; have a0 := oa7 i55x8 i1 ((inv_F hI 0 2 rfl e_109_0)) i78 ((in_c 0 rfl)) i5x8x3b ((in_c 1 rfl)); have a7 := tx_i2l e5x1; have oc := oc_284_109; omega)⟩, (by rw [← e_109_9]; have a0 := oa7 i55x8 i1 ((inv_F hI 0 2 rfl e_109_0)) i78 ((in_c 0 rfl)) i5x8x3b ((in_c 1 rfl)); have a7 := tx_i2l e5x1; have oc := oc_284_109; omega), (gvR_cg (L := ([], [], [(109, 0)], [])) (fr_sF rfl fr_rf) rfl)⟩)
                        have n93a : LGX s (sF s 109 0 (Int32.ofInt 1)) (Int32.ofInt 3) x1 x2 x3 (Int32.ofInt 0) (Int32.ofInt 0) (Int32.ofInt 0) := by exact Or.inl ⟨rfl, rfl, rfl, rfl, rfl, rfl, rfl, rfl⟩
                        have n93b : GSE s → GSE (sF s 109 0 (Int32.ofInt 1)) := by exact fun h => gse_fr (L := ([], [], [(109, 0)], [])) h (fr_sF rfl fr_rf) rfl
                        have n93c : G1S s (sF s 109 0 (Int32.ofInt 1)) := by exact ⟨rfl, fun _ _ => rfl, fun _ _ _ => ⟨rfl, rfl, rfl, rfl, rfl, rfl⟩⟩
                        exact g_ireturn (gd rfl) rfl rfl (hP _ _ ⟨(sF s 109 0 (Int32.ofInt 1)), hI86x18, (fr_sF rfl fr_rf), (Int32.ofInt 0), rfl, rfl, in_w (-1000000) 1000000 (in_c 0 rfl) rfl, n93, n93a, n93b, n93c⟩)
              · skip
                exact zn_ne c63 (in_c 0 rfl) rfl
    · skip
      have i5x8x3 := z_ge 0 1 c5x8x3 i5x8x2 rfl
      have c5x8x3a := lc_ge e5x8x2 c5x8x3
      have i5x8x3a := lr_le2 (-1000000) 2147483647 c5x8x3a (l_c (-1000000) rfl) i5x1 rfl
      have i5x8x3b := l_b e5x1 i5x8x3a
      refine g_lload_n 7 (gd rfl) rfl rfl ?_
      refine g_lload 9 (gd rfl) rfl rfl ?_
      refine g_lcmp 10 (gd rfl) rfl (fun z5x8x9 e5x8x9 => ?_)
      have i5x8x9 := lc_in e5x8x9
      refine g_if_gt 13 17 (gd rfl) rfl rfl (fun c5x8x10 => ?_) (fun c5x8x10 => ?_)
      · skip
        have i5x8x10 := z_gt 1 1 c5x8x10 i5x8x9 rfl
        have c5x8x10a := lc_gt e5x8x9 c5x8x10
        have i5x8x10a := lr_lt2 1000001 2147483647 c5x8x10a (l_c 1000000 rfl) i5x8x3a rfl
        have i5x8x10b := l_b e5x1 i5x8x10a
        refine g_iconst 0 18 (gd rfl) rfl rfl ?_
        refine g_ireturn (gd rfl) rfl (nb01 (in_w 0 1 (in_c 0 rfl) rfl)) (hp5x8 _ _ ?_)
        show GG _ _ _ _ _ _ _ _ [.int (Int32.ofInt 0)] _ _ _
        refine g_ireturn (gd rfl) rfl (nb01 (in_w 0 1 (in_c 0 rfl) rfl)) (hp5 _ _ ?_)
        show GG _ _ _ _ _ _ _ _ [.int (Int32.ofInt 0)] _ _ _
        refine g_goto 50 (gd rfl) rfl ?_
        refine g_istore 52 (gd rfl) rfl (Nat.le_of_ble_eq_true rfl) ?_
        refine g_aload_n 53 (gd rfl) rfl rfl ?_
        refine g_aload_n 54 (gd rfl) rfl rfl ?_
        refine g_iload_n 55 (gd rfl) rfl rfl ?_
        refine g_callv (X := _) (As := [.int x1]) (r := [.ref (A 109)]) (b := A 109) (q := 109) 58 (gd rfl) rfl rfl rfl rfl rfl (ww_o rfl) (Nat.le_of_ble_eq_true rfl) (mc := 0) (ms := 0) (Nat.zero_le _) (Nat.zero_le _) (P := fun v u => _) ?_ (fun e u h => h) (fun v u h => h)
        intro po55 xx55 hp55 hx55
        refine g_enter2 (k := 278) (N := 300) (by first | exact dq1 hd rfl | exact dq0 hd rfl | exact dq2 hd rfl | exact dq3 hd rfl | omega) rfl (Nat.le_of_ble_eq_true rfl) ?_
        refine g_iload_n 1 (gd rfl) rfl rfl ?_
        refine g_if_lt 4 24 (gd rfl) rfl rfl (fun c55x1 => ?_) (fun c55x1 => ?_)
        · skip
          have i55x1 := z_lt (-2147483648) (-1) c55x1 (i_rng x1) rfl
          refine g_iconst 0 25 (gd rfl) rfl rfl ?_
          refine g_ireturn (gd rfl) rfl (nb01 (in_w 0 1 (in_c 0 rfl) rfl)) (hp55 _ _ ?_)
          show GG _ _ _ _ _ _ _ _ [.int (Int32.ofInt 0), .ref (A 109)] _ _ _
          refine g_if_eq 61 70 (gd rfl) rfl rfl (fun c58 => ?_) (fun c58 => ?_)
          · skip
            refine g_iconst 0 71 (gd rfl) rfl rfl ?_
            refine g_aload_n 72 (gd rfl) rfl rfl ?_
            refine g_getI 75 (gd rfl) rfl rfl rfl (fun z72 e72 => ?_)
            have q72 : u_109_9 = z72 := (e_109_9).trans e72.symm
            subst q72
            refine g_sipush 4000 78 (gd rfl) rfl rfl ?_
            refine g_cmp_ge 81 85 (gd rfl) rfl rfl (fun c78 => ?_) (fun c78 => ?_)
            · skip
              have i78 := r_le2 4000 4000 c78 (in_c 4000 rfl) (inv_F hI 0 4000 rfl e_109_9) rfl
              refine g_iconst 0 86 (gd rfl) rfl rfl ?_
              refine g_callv (X := _) (As := [.int (Int32.ofInt 0), .int (Int32.ofInt 0)]) (r := []) (b := A 109) (q := 109) 89 (gd rfl) rfl rfl rfl rfl rfl (ww_o rfl) (Nat.le_of_ble_eq_true rfl) (mc := 0) (ms := 0) (Nat.zero_le _) (Nat.zero_le _) (P := fun v u => _) ?_ (fun e u h => h) (fun v u h => h)
              intro po86 xx86 hp86 hx86
              refine g_enter2 (k := 270) (N := 300) (by first | exact dq1 hd rfl | exact dq0 hd rfl | exact dq2 hd rfl | exact dq3 hd rfl | omega) rfl (Nat.le_of_ble_eq_true rfl) ?_
              refine g_aload_n 1 (gd rfl) rfl rfl ?_
              refine g_iload_n 2 (gd rfl) rfl rfl ?_
              refine g_if_ne 5 9 (gd rfl) rfl rfl (fun c86x2 => ?_) (fun c86x2 => ?_)
              · skip
                exact zn_ne c86x2 (in_c 0 rfl) rfl
              · skip
                refine g_iconst 1 6 (gd rfl) rfl rfl ?_
                refine g_goto 18 (gd rfl) rfl ?_
                refine g_putI 21 (gd rfl) rfl rfl rfl rfl ?_
                have hI86x18 := inv_sF (q := 109) (j := 0) hI rfl (in_w 0 2 (in_c 1 rfl) rfl)
                refine g_aload_n 22 (gd rfl) rfl rfl ?_
                refine g_getI 25 (gd rfl) rfl rfl rfl (fun z86x22 e86x22 => ?_)
                have q86x22 : (Int32.ofInt 1) = z86x22 := (sF_get).trans e86x22.symm
                subst q86x22
                refine g_if_le 28 32 (gd rfl) rfl rfl (fun c86x25 => ?_) (fun c86x25 => ?_)
                · skip
                  exact zn_le c86x25 (in_c 1 rfl) rfl
                · skip
                  refine g_iconst 1 29 (gd rfl) rfl rfl ?_
                  refine g_goto 33 (gd rfl) rfl ?_
                  refine g_ireturn (gd rfl) rfl (nb01 (in_w 0 1 (in_c 1 rfl) rfl)) (hp86 _ _ ?_)
                  show GG _ _ _ _ _ _ _ _ [.int (Int32.ofInt 1)] _ _ _
                  refine g_if_eq 92 94 (gd rfl) rfl rfl (fun c89 => ?_) (fun c89 => ?_)
                  · skip
                    exact zn_eq c89 (in_c 1 rfl) rfl
                  · skip
                    refine g_iconst 0 93 (gd rfl) rfl rfl ?_
                    have n93 : CDR s (sF s 109 0 (Int32.ofInt 1)) (HAR s x1 ∧ GVL x2 x3) ((s.2.2.1 109 9).toInt ≤ 3999) (((Int32.ofInt 0)) = (if (x2).toInt = 0 then s.1 115 (x1).toNatClampNeg else if (x2).toInt = 1 then s.1 116 (x1).toNatClampNeg else s.1 117 (x1).toNatClampNeg) ∧ gvR (sF s 109 0 (Int32.ofInt 1)) = gqW (gvR s) (x1).toNatClampNeg x2 x3) := by first | exact Or.inl ⟨rfl, (by first | (unfold HAR GVL In; have a0 := oa7 i1 ((inv_F hI 0 2 rfl e_109_0)) i78 ((in_c 0 rfl)) i5x8x10b i55x1 ((in_c 1 rfl)); have a7 := tx_i2l e5x1; have oc := oc_284_109; omega) | (unfold HAR GVL In; rw [← e55x16]; have a0 := oa7 i1 ((inv_F hI 0 2 rfl e_109_0)) i78 ((in_c 0 rfl)) i5x8x10b i55x1 ((in_c 1 rfl)); have a7 := tx_i2l e5x1; have oc := oc_284_109; omega)), (gvR_cg (L := ([], [], [(109, 0)], [])) (fr_sF rfl fr_rf) rfl)⟩ | exact Or.inr (Or.inl ⟨rfl, ⟨⟨by have a0 := oa7 i1 ((inv_F hI 0 2 rfl e_109_0)) i78 ((in_c 0 rfl)) i5x8x10b i55x1 ((in_c 1 rfl)); have a7 := tx_i2l e5x1; have oc := oc_284_109; omega, by have a0 := oa7 i1 ((inv_F hI 0 2 rfl e_109_0)) i78 ((in_c 0 rfl)) i5x8x10b i55x1 ((in_c 1 rfl)); have a7 := tx_i2l e5x1; have oc := oc_284_109; omega, by rw [← e55x16]; have a0 := oa7 i1 ((inv_F hI 0 2 rfl e_109_0)) i78 ((in_c 0 rfl)) i5x8x10b i55x1 ((in_c 1 rfl)); have a7 := tx_i2l e5x1; have oc := oc_284_109; omega⟩, (by unfold GVL In; have a0 := oa7 i1 ((inv_F hI 0 2 rfl e_109_0)) i78 ((in_c 0 rfl)) i5x8x10b i55x1 ((in_c 1 rfl)); have a7 := tx_i2l e5x1; have oc := oc_284_109; omega)⟩, (by rw [← e_109_9]; have a0 := oa7 i1 ((inv_F hI 0 2 rfl e_109_0)) i78 ((in_c 0 rfl)) i5x8x10b i55x1 ((in_c 1 rfl)); have a7 := tx_i2l e5x1; have oc := oc_284_109; omega), (gvR_cg (L := ([], [], [(109, 0)], [])) (fr_sF rfl fr_rf) rfl)⟩)
                    have n93a : LGX s (sF s 109 0 (Int32.ofInt 1)) (Int32.ofInt 3) x1 x2 x3 (Int32.ofInt 0) (Int32.ofInt 0) (Int32.ofInt 0) := by exact Or.inl ⟨rfl, rfl, rfl, rfl, rfl, rfl, rfl, rfl⟩
                    have n93b : GSE s → GSE (sF s 109 0 (Int32.ofInt 1)) := by exact fun h => gse_fr (L := ([], [], [(109, 0)], [])) h (fr_sF rfl fr_rf) rfl
                    have n93c : G1S s (sF s 109 0 (Int32.ofInt 1)) := by exact ⟨rfl, fun _ _ => rfl, fun _ _ _ => ⟨rfl, rfl, rfl, rfl, rfl, rfl⟩⟩
                    exact g_ireturn (gd rfl) rfl rfl (hP _ _ ⟨(sF s 109 0 (Int32.ofInt 1)), hI86x18, (fr_sF rfl fr_rf), (Int32.ofInt 0), rfl, rfl, in_w (-1000000) 1000000 (in_c 0 rfl) rfl, n93, n93a, n93b, n93c⟩)
            · skip
              have i78 := r_lt1 0 3999 c78 (inv_F hI 0 4000 rfl e_109_9) (in_c 4000 rfl) rfl
              refine g_iconst 1 82 (gd rfl) rfl rfl ?_
              refine g_goto 86 (gd rfl) rfl ?_
              refine g_callv (X := _) (As := [.int (Int32.ofInt 0), .int (Int32.ofInt 1)]) (r := []) (b := A 109) (q := 109) 89 (gd rfl) rfl rfl rfl rfl rfl (ww_o rfl) (Nat.le_of_ble_eq_true rfl) (mc := 0) (ms := 0) (Nat.zero_le _) (Nat.zero_le _) (P := fun v u => _) ?_ (fun e u h => h) (fun v u h => h)
              intro po86 xx86 hp86 hx86
              refine g_enter2 (k := 270) (N := 300) (by first | exact dq1 hd rfl | exact dq0 hd rfl | exact dq2 hd rfl | exact dq3 hd rfl | omega) rfl (Nat.le_of_ble_eq_true rfl) ?_
              refine g_aload_n 1 (gd rfl) rfl rfl ?_
              refine g_iload_n 2 (gd rfl) rfl rfl ?_
              refine g_if_ne 5 9 (gd rfl) rfl rfl (fun c86x2 => ?_) (fun c86x2 => ?_)
              · skip
                exact zn_ne c86x2 (in_c 0 rfl) rfl
              · skip
                refine g_iconst 1 6 (gd rfl) rfl rfl ?_
                refine g_goto 18 (gd rfl) rfl ?_
                refine g_putI 21 (gd rfl) rfl rfl rfl rfl ?_
                have hI86x18 := inv_sF (q := 109) (j := 0) hI rfl (in_w 0 2 (in_c 1 rfl) rfl)
                refine g_aload_n 22 (gd rfl) rfl rfl ?_
                refine g_getI 25 (gd rfl) rfl rfl rfl (fun z86x22 e86x22 => ?_)
                have q86x22 : (Int32.ofInt 1) = z86x22 := (sF_get).trans e86x22.symm
                subst q86x22
                refine g_if_le 28 32 (gd rfl) rfl rfl (fun c86x25 => ?_) (fun c86x25 => ?_)
                · skip
                  exact zn_le c86x25 (in_c 1 rfl) rfl
                · skip
                  refine g_iconst 1 29 (gd rfl) rfl rfl ?_
                  refine g_goto 33 (gd rfl) rfl ?_
                  refine g_ireturn (gd rfl) rfl (nb01 (in_w 0 1 (in_c 1 rfl) rfl)) (hp86 _ _ ?_)
                  show GG _ _ _ _ _ _ _ _ [.int (Int32.ofInt 1)] _ _ _
                  refine g_if_eq 92 94 (gd rfl) rfl rfl (fun c89 => ?_) (fun c89 => ?_)
                  · skip
                    exact zn_eq c89 (in_c 1 rfl) rfl
                  · skip
                    refine g_iconst 0 93 (gd rfl) rfl rfl ?_
                    have n93 : CDR s (sF s 109 0 (Int32.ofInt 1)) (HAR s x1 ∧ GVL x2 x3) ((s.2.2.1 109 9).toInt ≤ 3999) (((Int32.ofInt 0)) = (if (x2).toInt = 0 then s.1 115 (x1).toNatClampNeg else if (x2).toInt = 1 then s.1 116 (x1).toNatClampNeg else s.1 117 (x1).toNatClampNeg) ∧ gvR (sF s 109 0 (Int32.ofInt 1)) = gqW (gvR s) (x1).toNatClampNeg x2 x3) := by first | exact Or.inl ⟨rfl, (by first | (unfold HAR GVL In; have a0 := oa7 i1 ((inv_F hI 0 2 rfl e_109_0)) i78 ((in_c 0 rfl)) i5x8x10b i55x1 ((in_c 1 rfl)); have a7 := tx_i2l e5x1; have oc := oc_284_109; omega) | (unfold HAR GVL In; rw [← e55x16]; have a0 := oa7 i1 ((inv_F hI 0 2 rfl e_109_0)) i78 ((in_c 0 rfl)) i5x8x10b i55x1 ((in_c 1 rfl)); have a7 := tx_i2l e5x1; have oc := oc_284_109; omega)), (gvR_cg (L := ([], [], [(109, 0)], [])) (fr_sF rfl fr_rf) rfl)⟩ | exact Or.inr (Or.inl ⟨rfl, ⟨⟨by have a0 := oa7 i1 ((inv_F hI 0 2 rfl e_109_0)) i78 ((in_c 0 rfl)) i5x8x10b i55x1 ((in_c 1 rfl)); have a7 := tx_i2l e5x1; have oc := oc_284_109; omega, by have a0 := oa7 i1 ((inv_F hI 0 2 rfl e_109_0)) i78 ((in_c 0 rfl)) i5x8x10b i55x1 ((in_c 1 rfl)); have a7 := tx_i2l e5x1; have oc := oc_284_109; omega, by rw [← e55x16]; have a0 := oa7 i1 ((inv_F hI 0 2 rfl e_109_0)) i78 ((in_c 0 rfl)) i5x8x10b i55x1 ((in_c 1 rfl)); have a7 := tx_i2l e5x1; have oc := oc_284_109; omega⟩, (by unfold GVL In; have a0 := oa7 i1 ((inv_F hI 0 2 rfl e_109_0)) i78 ((in_c 0 rfl)) i5x8x10b i55x1 ((in_c 1 rfl)); have a7 := tx_i2l e5x1; have oc := oc_284_109; omega)⟩, (by rw [← e_109_9]; have a0 := oa7 i1 ((inv_F hI 0 2 rfl e_109_0)) i78 ((in_c 0 rfl)) i5x8x10b i55x1 ((in_c 1 rfl)); have a7 := tx_i2l e5x1; have oc := oc_284_109; omega), (gvR_cg (L := ([], [], [(109, 0)], [])) (fr_sF rfl fr_rf) rfl)⟩)
                    have n93a : LGX s (sF s 109 0 (Int32.ofInt 1)) (Int32.ofInt 3) x1 x2 x3 (Int32.ofInt 0) (Int32.ofInt 0) (Int32.ofInt 0) := by exact Or.inl ⟨rfl, rfl, rfl, rfl, rfl, rfl, rfl, rfl⟩
                    have n93b : GSE s → GSE (sF s 109 0 (Int32.ofInt 1)) := by exact fun h => gse_fr (L := ([], [], [(109, 0)], [])) h (fr_sF rfl fr_rf) rfl
                    have n93c : G1S s (sF s 109 0 (Int32.ofInt 1)) := by exact ⟨rfl, fun _ _ => rfl, fun _ _ _ => ⟨rfl, rfl, rfl, rfl, rfl, rfl⟩⟩
                    exact g_ireturn (gd rfl) rfl rfl (hP _ _ ⟨(sF s 109 0 (Int32.ofInt 1)), hI86x18, (fr_sF rfl fr_rf), (Int32.ofInt 0), rfl, rfl, in_w (-1000000) 1000000 (in_c 0 rfl) rfl, n93, n93a, n93b, n93c⟩)
          · skip
            exact zn_ne c58 (in_c 0 rfl) rfl
        · skip
          have i55x1 := z_ge 0 2147483647 c55x1 (i_rng x1) rfl
          refine g_iload_n 5 (gd rfl) rfl rfl ?_
          refine g_sipush 160 8 (gd rfl) rfl rfl ?_
          refine g_cmp_ge 11 24 (gd rfl) rfl rfl (fun c55x8 => ?_) (fun c55x8 => ?_)
          · skip
            have i55x8 := r_le2 160 2147483647 c55x8 (in_c 160 rfl) i55x1 rfl
            refine g_iconst 0 25 (gd rfl) rfl rfl ?_
            refine g_ireturn (gd rfl) rfl (nb01 (in_w 0 1 (in_c 0 rfl) rfl)) (hp55 _ _ ?_)
            show GG _ _ _ _ _ _ _ _ [.int (Int32.ofInt 0), .ref (A 109)] _ _ _
            refine g_if_eq 61 70 (gd rfl) rfl rfl (fun c58 => ?_) (fun c58 => ?_)
            · skip
              refine g_iconst 0 71 (gd rfl) rfl rfl ?_
              refine g_aload_n 72 (gd rfl) rfl rfl ?_
              refine g_getI 75 (gd rfl) rfl rfl rfl (fun z72 e72 => ?_)
              have q72 : u_109_9 = z72 := (e_109_9).trans e72.symm
              subst q72
              refine g_sipush 4000 78 (gd rfl) rfl rfl ?_
              refine g_cmp_ge 81 85 (gd rfl) rfl rfl (fun c78 => ?_) (fun c78 => ?_)
              · skip
                have i78 := r_le2 4000 4000 c78 (in_c 4000 rfl) (inv_F hI 0 4000 rfl e_109_9) rfl
                refine g_iconst 0 86 (gd rfl) rfl rfl ?_
                refine g_callv (X := _) (As := [.int (Int32.ofInt 0), .int (Int32.ofInt 0)]) (r := []) (b := A 109) (q := 109) 89 (gd rfl) rfl rfl rfl rfl rfl (ww_o rfl) (Nat.le_of_ble_eq_true rfl) (mc := 0) (ms := 0) (Nat.zero_le _) (Nat.zero_le _) (P := fun v u => _) ?_ (fun e u h => h) (fun v u h => h)
                intro po86 xx86 hp86 hx86
                refine g_enter2 (k := 270) (N := 300) (by first | exact dq1 hd rfl | exact dq0 hd rfl | exact dq2 hd rfl | exact dq3 hd rfl | omega) rfl (Nat.le_of_ble_eq_true rfl) ?_
                refine g_aload_n 1 (gd rfl) rfl rfl ?_
                refine g_iload_n 2 (gd rfl) rfl rfl ?_
                refine g_if_ne 5 9 (gd rfl) rfl rfl (fun c86x2 => ?_) (fun c86x2 => ?_)
                · skip
                  exact zn_ne c86x2 (in_c 0 rfl) rfl
                · skip
                  refine g_iconst 1 6 (gd rfl) rfl rfl ?_
                  refine g_goto 18 (gd rfl) rfl ?_
                  refine g_putI 21 (gd rfl) rfl rfl rfl rfl ?_
                  have hI86x18 := inv_sF (q := 109) (j := 0) hI rfl (in_w 0 2 (in_c 1 rfl) rfl)
                  refine g_aload_n 22 (gd rfl) rfl rfl ?_
                  refine g_getI 25 (gd rfl) rfl rfl rfl (fun z86x22 e86x22 => ?_)
                  have q86x22 : (Int32.ofInt 1) = z86x22 := (sF_get).trans e86x22.symm
                  subst q86x22
                  refine g_if_le 28 32 (gd rfl) rfl rfl (fun c86x25 => ?_) (fun c86x25 => ?_)
                  · skip
                    exact zn_le c86x25 (in_c 1 rfl) rfl
                  · skip
                    refine g_iconst 1 29 (gd rfl) rfl rfl ?_
                    refine g_goto 33 (gd rfl) rfl ?_
                    refine g_ireturn (gd rfl) rfl (nb01 (in_w 0 1 (in_c 1 rfl) rfl)) (hp86 _ _ ?_)
                    show GG _ _ _ _ _ _ _ _ [.int (Int32.ofInt 1)] _ _ _
                    refine g_if_eq 92 94 (gd rfl) rfl rfl (fun c89 => ?_) (fun c89 => ?_)
                    · skip
                      exact zn_eq c89 (in_c 1 rfl) rfl
                    · skip
                      refine g_iconst 0 93 (gd rfl) rfl rfl ?_
                      have n93 : CDR s (sF s 109 0 (Int32.ofInt 1)) (HAR s x1 ∧ GVL x2 x3) ((s.2.2.1 109 9).toInt ≤ 3999) (((Int32.ofInt 0)) = (if (x2).toInt = 0 then s.1 115 (x1).toNatClampNeg else if (x2).toInt = 1 then s.1 116 (x1).toNatClampNeg else s.1 117 (x1).toNatClampNeg) ∧ gvR (sF s 109 0 (Int32.ofInt 1)) = gqW (gvR s) (x1).toNatClampNeg x2 x3) := by first | exact Or.inl ⟨rfl, (by first | (unfold HAR GVL In; have a0 := oa7 i1 ((inv_F hI 0 2 rfl e_109_0)) i78 ((in_c 0 rfl)) i5x8x10b i55x8 ((in_c 1 rfl)); have a7 := tx_i2l e5x1; have oc := oc_284_109; omega) | (unfold HAR GVL In; rw [← e55x16]; have a0 := oa7 i1 ((inv_F hI 0 2 rfl e_109_0)) i78 ((in_c 0 rfl)) i5x8x10b i55x8 ((in_c 1 rfl)); have a7 := tx_i2l e5x1; have oc := oc_284_109; omega)), (gvR_cg (L := ([], [], [(109, 0)], [])) (fr_sF rfl fr_rf) rfl)⟩ | exact Or.inr (Or.inl ⟨rfl, ⟨⟨by have a0 := oa7 i1 ((inv_F hI 0 2 rfl e_109_0)) i78 ((in_c 0 rfl)) i5x8x10b i55x8 ((in_c 1 rfl)); have a7 := tx_i2l e5x1; have oc := oc_284_109; omega, by have a0 := oa7 i1 ((inv_F hI 0 2 rfl e_109_0)) i78 ((in_c 0 rfl)) i5x8x10b i55x8 ((in_c 1 rfl)); have a7 := tx_i2l e5x1; have oc := oc_284_109; omega, by rw [← e55x16]; have a0 := oa7 i1 ((inv_F hI 0 2 rfl e_109_0)) i78 ((in_c 0 rfl)) i5x8x10b i55x8 ((in_c 1 rfl)); have a7 := tx_i2l e5x1; have oc := oc_284_109; omega⟩, (by unfold GVL In; have a0 := oa7 i1 ((inv_F hI 0 2 rfl e_109_0)) i78 ((in_c 0 rfl)) i5x8x10b i55x8 ((in_c 1 rfl)); have a7 := tx_i2l e5x1; have oc := oc_284_109; omega)⟩, (by rw [← e_109_9]; have a0 := oa7 i1 ((inv_F hI 0 2 rfl e_109_0)) i78 ((in_c 0 rfl)) i5x8x10b i55x8 ((in_c 1 rfl)); have a7 := tx_i2l e5x1; have oc := oc_284_109; omega), (gvR_cg (L := ([], [], [(109, 0)], [])) (fr_sF rfl fr_rf) rfl)⟩)
                      have n93a : LGX s (sF s 109 0 (Int32.ofInt 1)) (Int32.ofInt 3) x1 x2 x3 (Int32.ofInt 0) (Int32.ofInt 0) (Int32.ofInt 0) := by exact Or.inl ⟨rfl, rfl, rfl, rfl, rfl, rfl, rfl, rfl⟩
                      have n93b : GSE s → GSE (sF s 109 0 (Int32.ofInt 1)) := by exact fun h => gse_fr (L := ([], [], [(109, 0)], [])) h (fr_sF rfl fr_rf) rfl
                      have n93c : G1S s (sF s 109 0 (Int32.ofInt 1)) := by exact ⟨rfl, fun _ _ => rfl, fun _ _ _ => ⟨rfl, rfl, rfl, rfl, rfl, rfl⟩⟩
                      exact g_ireturn (gd rfl) rfl rfl (hP _ _ ⟨(sF s 109 0 (Int32.ofInt 1)), hI86x18, (fr_sF rfl fr_rf), (Int32.ofInt 0), rfl, rfl, in_w (-1000000) 1000000 (in_c 0 rfl) rfl, n93, n93a, n93b, n93c⟩)
              · skip
                have i78 := r_lt1 0 3999 c78 (inv_F hI 0 4000 rfl e_109_9) (in_c 4000 rfl) rfl
                refine g_iconst 1 82 (gd rfl) rfl rfl ?_
                refine g_goto 86 (gd rfl) rfl ?_
                refine g_callv (X := _) (As := [.int (Int32.ofInt 0), .int (Int32.ofInt 1)]) (r := []) (b := A 109) (q := 109) 89 (gd rfl) rfl rfl rfl rfl rfl (ww_o rfl) (Nat.le_of_ble_eq_true rfl) (mc := 0) (ms := 0) (Nat.zero_le _) (Nat.zero_le _) (P := fun v u => _) ?_ (fun e u h => h) (fun v u h => h)
                intro po86 xx86 hp86 hx86
                refine g_enter2 (k := 270) (N := 300) (by first | exact dq1 hd rfl | exact dq0 hd rfl | exact dq2 hd rfl | exact dq3 hd rfl | omega) rfl (Nat.le_of_ble_eq_true rfl) ?_
                refine g_aload_n 1 (gd rfl) rfl rfl ?_
                refine g_iload_n 2 (gd rfl) rfl rfl ?_
                refine g_if_ne 5 9 (gd rfl) rfl rfl (fun c86x2 => ?_) (fun c86x2 => ?_)
                · skip
                  exact zn_ne c86x2 (in_c 0 rfl) rfl
                · skip
                  refine g_iconst 1 6 (gd rfl) rfl rfl ?_
                  refine g_goto 18 (gd rfl) rfl ?_
                  refine g_putI 21 (gd rfl) rfl rfl rfl rfl ?_
                  have hI86x18 := inv_sF (q := 109) (j := 0) hI rfl (in_w 0 2 (in_c 1 rfl) rfl)
                  refine g_aload_n 22 (gd rfl) rfl rfl ?_
                  refine g_getI 25 (gd rfl) rfl rfl rfl (fun z86x22 e86x22 => ?_)
                  have q86x22 : (Int32.ofInt 1) = z86x22 := (sF_get).trans e86x22.symm
                  subst q86x22
                  refine g_if_le 28 32 (gd rfl) rfl rfl (fun c86x25 => ?_) (fun c86x25 => ?_)
                  · skip
                    exact zn_le c86x25 (in_c 1 rfl) rfl
                  · skip
                    refine g_iconst 1 29 (gd rfl) rfl rfl ?_
                    refine g_goto 33 (gd rfl) rfl ?_
                    refine g_ireturn (gd rfl) rfl (nb01 (in_w 0 1 (in_c 1 rfl) rfl)) (hp86 _ _ ?_)
                    show GG _ _ _ _ _ _ _ _ [.int (Int32.ofInt 1)] _ _ _
                    refine g_if_eq 92 94 (gd rfl) rfl rfl (fun c89 => ?_) (fun c89 => ?_)
                    · skip
                      exact zn_eq c89 (in_c 1 rfl) rfl
                    · skip
                      refine g_iconst 0 93 (gd rfl) rfl rfl ?_
                      have n93 : CDR s (sF s 109 0 (Int32.ofInt 1)) (HAR s x1 ∧ GVL x2 x3) ((s.2.2.1 109 9).toInt ≤ 3999) (((Int32.ofInt 0)) = (if (x2).toInt = 0 then s.1 115 (x1).toNatClampNeg else if (x2).toInt = 1 then s.1 116 (x1).toNatClampNeg else s.1 117 (x1).toNatClampNeg) ∧ gvR (sF s 109 0 (Int32.ofInt 1)) = gqW (gvR s) (x1).toNatClampNeg x2 x3) := by first | exact Or.inl ⟨rfl, (by first | (unfold HAR GVL In; have a0 := oa7 i1 ((inv_F hI 0 2 rfl e_109_0)) i78 ((in_c 0 rfl)) i5x8x10b i55x8 ((in_c 1 rfl)); have a7 := tx_i2l e5x1; have oc := oc_284_109; omega) | (unfold HAR GVL In; rw [← e55x16]; have a0 := oa7 i1 ((inv_F hI 0 2 rfl e_109_0)) i78 ((in_c 0 rfl)) i5x8x10b i55x8 ((in_c 1 rfl)); have a7 := tx_i2l e5x1; have oc := oc_284_109; omega)), (gvR_cg (L := ([], [], [(109, 0)], [])) (fr_sF rfl fr_rf) rfl)⟩ | exact Or.inr (Or.inl ⟨rfl, ⟨⟨by have a0 := oa7 i1 ((inv_F hI 0 2 rfl e_109_0)) i78 ((in_c 0 rfl)) i5x8x10b i55x8 ((in_c 1 rfl)); have a7 := tx_i2l e5x1; have oc := oc_284_109; omega, by have a0 := oa7 i1 ((inv_F hI 0 2 rfl e_109_0)) i78 ((in_c 0 rfl)) i5x8x10b i55x8 ((in_c 1 rfl)); have a7 := tx_i2l e5x1; have oc := oc_284_109; omega, by rw [← e55x16]; have a0 := oa7 i1 ((inv_F hI 0 2 rfl e_109_0)) i78 ((in_c 0 rfl)) i5x8x10b i55x8 ((in_c 1 rfl)); have a7 := tx_i2l e5x1; have oc := oc_284_109; omega⟩, (by unfold GVL In; have a0 := oa7 i1 ((inv_F hI 0 2 rfl e_109_0)) i78 ((in_c 0 rfl)) i5x8x10b i55x8 ((in_c 1 rfl)); have a7 := tx_i2l e5x1; have oc := oc_284_109; omega)⟩, (by rw [← e_109_9]; have a0 := oa7 i1 ((inv_F hI 0 2 rfl e_109_0)) i78 ((in_c 0 rfl)) i5x8x10b i55x8 ((in_c 1 rfl)); have a7 := tx_i2l e5x1; have oc := oc_284_109; omega), (gvR_cg (L := ([], [], [(109, 0)], [])) (fr_sF rfl fr_rf) rfl)⟩)
                      have n93a : LGX s (sF s 109 0 (Int32.ofInt 1)) (Int32.ofInt 3) x1 x2 x3 (Int32.ofInt 0) (Int32.ofInt 0) (Int32.ofInt 0) := by exact Or.inl ⟨rfl, rfl, rfl, rfl, rfl, rfl, rfl, rfl⟩
                      have n93b : GSE s → GSE (sF s 109 0 (Int32.ofInt 1)) := by exact fun h => gse_fr (L := ([], [], [(109, 0)], [])) h (fr_sF rfl fr_rf) rfl
                      have n93c : G1S s (sF s 109 0 (Int32.ofInt 1)) := by exact ⟨rfl, fun _ _ => rfl, fun _ _ _ => ⟨rfl, rfl, rfl, rfl, rfl, rfl⟩⟩
                      exact g_ireturn (gd rfl) rfl rfl (hP _ _ ⟨(sF s 109 0 (Int32.ofInt 1)), hI86x18, (fr_sF rfl fr_rf), (Int32.ofInt 0), rfl, rfl, in_w (-1000000) 1000000 (in_c 0 rfl) rfl, n93, n93a, n93b, n93c⟩)
            · skip
              exact zn_ne c58 (in_c 0 rfl) rfl
          · skip
            have i55x8 := r_lt1 0 159 c55x8 i55x1 (in_c 160 rfl) rfl
            refine g_aload_n 12 (gd rfl) rfl rfl ?_
            refine g_getA (q2 := 112) 15 (gd rfl) rfl rfl rfl rfl ?_
            refine g_iload_n 16 (gd rfl) rfl rfl ?_
            refine g_baload 17 (gd rfl) rfl (n := 480) rfl (in_ix i55x8 rfl) (fun z55x16 e55x16 => ?_)
            have i55x16 := inv_I hI (n := 480) (t := 3) 0 1 rfl (in_ix i55x8 rfl) rfl e55x16
            refine g_if_eq 20 24 (gd rfl) rfl rfl (fun c55x17 => ?_) (fun c55x17 => ?_)
            · skip
              have i55x17 := z_eq 0 0 c55x17 i55x16 rfl
              refine g_iconst 0 25 (gd rfl) rfl rfl ?_
              refine g_ireturn (gd rfl) rfl (nb01 (in_w 0 1 (in_c 0 rfl) rfl)) (hp55 _ _ ?_)
              show GG _ _ _ _ _ _ _ _ [.int (Int32.ofInt 0), .ref (A 109)] _ _ _
              refine g_if_eq 61 70 (gd rfl) rfl rfl (fun c58 => ?_) (fun c58 => ?_)
              · skip
                refine g_iconst 0 71 (gd rfl) rfl rfl ?_
                refine g_aload_n 72 (gd rfl) rfl rfl ?_
                refine g_getI 75 (gd rfl) rfl rfl rfl (fun z72 e72 => ?_)
                have q72 : u_109_9 = z72 := (e_109_9).trans e72.symm
                subst q72
                refine g_sipush 4000 78 (gd rfl) rfl rfl ?_
                refine g_cmp_ge 81 85 (gd rfl) rfl rfl (fun c78 => ?_) (fun c78 => ?_)
                · skip
                  have i78 := r_le2 4000 4000 c78 (in_c 4000 rfl) (inv_F hI 0 4000 rfl e_109_9) rfl
                  refine g_iconst 0 86 (gd rfl) rfl rfl ?_
                  refine g_callv (X := _) (As := [.int (Int32.ofInt 0), .int (Int32.ofInt 0)]) (r := []) (b := A 109) (q := 109) 89 (gd rfl) rfl rfl rfl rfl rfl (ww_o rfl) (Nat.le_of_ble_eq_true rfl) (mc := 0) (ms := 0) (Nat.zero_le _) (Nat.zero_le _) (P := fun v u => _) ?_ (fun e u h => h) (fun v u h => h)
                  intro po86 xx86 hp86 hx86
                  refine g_enter2 (k := 270) (N := 300) (by first | exact dq1 hd rfl | exact dq0 hd rfl | exact dq2 hd rfl | exact dq3 hd rfl | omega) rfl (Nat.le_of_ble_eq_true rfl) ?_
                  refine g_aload_n 1 (gd rfl) rfl rfl ?_
                  refine g_iload_n 2 (gd rfl) rfl rfl ?_
                  refine g_if_ne 5 9 (gd rfl) rfl rfl (fun c86x2 => ?_) (fun c86x2 => ?_)
                  · skip
                    exact zn_ne c86x2 (in_c 0 rfl) rfl
                  · skip
                    refine g_iconst 1 6 (gd rfl) rfl rfl ?_
                    refine g_goto 18 (gd rfl) rfl ?_
                    refine g_putI 21 (gd rfl) rfl rfl rfl rfl ?_
                    have hI86x18 := inv_sF (q := 109) (j := 0) hI rfl (in_w 0 2 (in_c 1 rfl) rfl)
                    refine g_aload_n 22 (gd rfl) rfl rfl ?_
                    refine g_getI 25 (gd rfl) rfl rfl rfl (fun z86x22 e86x22 => ?_)
                    have q86x22 : (Int32.ofInt 1) = z86x22 := (sF_get).trans e86x22.symm
                    subst q86x22
                    refine g_if_le 28 32 (gd rfl) rfl rfl (fun c86x25 => ?_) (fun c86x25 => ?_)
                    · skip
                      exact zn_le c86x25 (in_c 1 rfl) rfl
                    · skip
                      refine g_iconst 1 29 (gd rfl) rfl rfl ?_
                      refine g_goto 33 (gd rfl) rfl ?_
                      refine g_ireturn (gd rfl) rfl (nb01 (in_w 0 1 (in_c 1 rfl) rfl)) (hp86 _ _ ?_)
                      show GG _ _ _ _ _ _ _ _ [.int (Int32.ofInt 1)] _ _ _
                      refine g_if_eq 92 94 (gd rfl) rfl rfl (fun c89 => ?_) (fun c89 => ?_)
                      · skip
                        exact zn_eq c89 (in_c 1 rfl) rfl
                      · skip
                        refine g_iconst 0 93 (gd rfl) rfl rfl ?_
                        have n93 : CDR s (sF s 109 0 (Int32.ofInt 1)) (HAR s x1 ∧ GVL x2 x3) ((s.2.2.1 109 9).toInt ≤ 3999) (((Int32.ofInt 0)) = (if (x2).toInt = 0 then s.1 115 (x1).toNatClampNeg else if (x2).toInt = 1 then s.1 116 (x1).toNatClampNeg else s.1 117 (x1).toNatClampNeg) ∧ gvR (sF s 109 0 (Int32.ofInt 1)) = gqW (gvR s) (x1).toNatClampNeg x2 x3) := by first | exact Or.inl ⟨rfl, (by first | (unfold HAR GVL In; have a0 := oa7 i55x8 i1 ((inv_F hI 0 2 rfl e_109_0)) i78 ((in_c 0 rfl)) i5x8x10b ((in_c 1 rfl)); have a7 := tx_i2l e5x1; have oc := oc_284_109; omega) | (unfold HAR GVL In; rw [← e55x16]; have a0 := oa7 i55x8 i1 ((inv_F hI 0 2 rfl e_109_0)) i78 ((in_c 0 rfl)) i5x8x10b ((in_c 1 rfl)); have a7 := tx_i2l e5x1; have oc := oc_284_109; omega)), (gvR_cg (L := ([], [], [(109, 0)], [])) (fr_sF rfl fr_rf) rfl)⟩ | exact Or.inr (Or.inl ⟨rfl, ⟨⟨by have a0 := oa7 i55x8 i1 ((inv_F hI 0 2 rfl e_109_0)) i78 ((in_c 0 rfl)) i5x8x10b ((in_c 1 rfl)); have a7 := tx_i2l e5x1; have oc := oc_284_109; omega, by have a0 := oa7 i55x8 i1 ((inv_F hI 0 2 rfl e_109_0)) i78 ((in_c 0 rfl)) i5x8x10b ((in_c 1 rfl)); have a7 := tx_i2l e5x1; have oc := oc_284_109; omega, by rw [← e55x16]; have a0 := oa7 i55x8 i1 ((inv_F hI 0 2 rfl e_109_0)) i78 ((in_c 0 rfl)) i5x8x10b ((in_c 1 rfl)); have a7 := tx_i2l e5x1; have oc := oc_284_109; omega⟩, (by unfold GVL In; have a0 := oa7 i55x8 i1 ((inv_F hI 0 2 rfl e_109_0)) i78 ((in_c 0 rfl)) i5x8x10b ((in_c 1 rfl)); have a7 := tx_i2l e5x1; have oc := oc_284_109; omega)⟩, (by rw [← e_109_9]; have a0 := oa7 i55x8 i1 ((inv_F hI 0 2 rfl e_109_0)) i78 ((in_c 0 rfl)) i5x8x10b ((in_c 1 rfl)); have a7 := tx_i2l e5x1; have oc := oc_284_109; omega), (gvR_cg (L := ([], [], [(109, 0)], [])) (fr_sF rfl fr_rf) rfl)⟩)
                        have n93a : LGX s (sF s 109 0 (Int32.ofInt 1)) (Int32.ofInt 3) x1 x2 x3 (Int32.ofInt 0) (Int32.ofInt 0) (Int32.ofInt 0) := by exact Or.inl ⟨rfl, rfl, rfl, rfl, rfl, rfl, rfl, rfl⟩
                        have n93b : GSE s → GSE (sF s 109 0 (Int32.ofInt 1)) := by exact fun h => gse_fr (L := ([], [], [(109, 0)], [])) h (fr_sF rfl fr_rf) rfl
                        have n93c : G1S s (sF s 109 0 (Int32.ofInt 1)) := by exact ⟨rfl, fun _ _ => rfl, fun _ _ _ => ⟨rfl, rfl, rfl, rfl, rfl, rfl⟩⟩
                        exact g_ireturn (gd rfl) rfl rfl (hP _ _ ⟨(sF s 109 0 (Int32.ofInt 1)), hI86x18, (fr_sF rfl fr_rf), (Int32.ofInt 0), rfl, rfl, in_w (-1000000) 1000000 (in_c 0 rfl) rfl, n93, n93a, n93b, n93c⟩)
                · skip
                  have i78 := r_lt1 0 3999 c78 (inv_F hI 0 4000 rfl e_109_9) (in_c 4000 rfl) rfl
                  refine g_iconst 1 82 (gd rfl) rfl rfl ?_
                  refine g_goto 86 (gd rfl) rfl ?_
                  refine g_callv (X := _) (As := [.int (Int32.ofInt 0), .int (Int32.ofInt 1)]) (r := []) (b := A 109) (q := 109) 89 (gd rfl) rfl rfl rfl rfl rfl (ww_o rfl) (Nat.le_of_ble_eq_true rfl) (mc := 0) (ms := 0) (Nat.zero_le _) (Nat.zero_le _) (P := fun v u => _) ?_ (fun e u h => h) (fun v u h => h)
                  intro po86 xx86 hp86 hx86
                  refine g_enter2 (k := 270) (N := 300) (by first | exact dq1 hd rfl | exact dq0 hd rfl | exact dq2 hd rfl | exact dq3 hd rfl | omega) rfl (Nat.le_of_ble_eq_true rfl) ?_
                  refine g_aload_n 1 (gd rfl) rfl rfl ?_
                  refine g_iload_n 2 (gd rfl) rfl rfl ?_
                  refine g_if_ne 5 9 (gd rfl) rfl rfl (fun c86x2 => ?_) (fun c86x2 => ?_)
                  · skip
                    exact zn_ne c86x2 (in_c 0 rfl) rfl
                  · skip
                    refine g_iconst 1 6 (gd rfl) rfl rfl ?_
                    refine g_goto 18 (gd rfl) rfl ?_
                    refine g_putI 21 (gd rfl) rfl rfl rfl rfl ?_
                    have hI86x18 := inv_sF (q := 109) (j := 0) hI rfl (in_w 0 2 (in_c 1 rfl) rfl)
                    refine g_aload_n 22 (gd rfl) rfl rfl ?_
                    refine g_getI 25 (gd rfl) rfl rfl rfl (fun z86x22 e86x22 => ?_)
                    have q86x22 : (Int32.ofInt 1) = z86x22 := (sF_get).trans e86x22.symm
                    subst q86x22
                    refine g_if_le 28 32 (gd rfl) rfl rfl (fun c86x25 => ?_) (fun c86x25 => ?_)
                    · skip
                      exact zn_le c86x25 (in_c 1 rfl) rfl
                    · skip
                      refine g_iconst 1 29 (gd rfl) rfl rfl ?_
                      refine g_goto 33 (gd rfl) rfl ?_
                      refine g_ireturn (gd rfl) rfl (nb01 (in_w 0 1 (in_c 1 rfl) rfl)) (hp86 _ _ ?_)
                      show GG _ _ _ _ _ _ _ _ [.int (Int32.ofInt 1)] _ _ _
                      refine g_if_eq 92 94 (gd rfl) rfl rfl (fun c89 => ?_) (fun c89 => ?_)
                      · skip
                        exact zn_eq c89 (in_c 1 rfl) rfl
                      · skip
                        refine g_iconst 0 93 (gd rfl) rfl rfl ?_
                        have n93 : CDR s (sF s 109 0 (Int32.ofInt 1)) (HAR s x1 ∧ GVL x2 x3) ((s.2.2.1 109 9).toInt ≤ 3999) (((Int32.ofInt 0)) = (if (x2).toInt = 0 then s.1 115 (x1).toNatClampNeg else if (x2).toInt = 1 then s.1 116 (x1).toNatClampNeg else s.1 117 (x1).toNatClampNeg) ∧ gvR (sF s 109 0 (Int32.ofInt 1)) = gqW (gvR s) (x1).toNatClampNeg x2 x3) := by first | exact Or.inl ⟨rfl, (by first | (unfold HAR GVL In; have a0 := oa7 i55x8 i1 ((inv_F hI 0 2 rfl e_109_0)) i78 ((in_c 0 rfl)) i5x8x10b ((in_c 1 rfl)); have a7 := tx_i2l e5x1; have oc := oc_284_109; omega) | (unfold HAR GVL In; rw [← e55x16]; have a0 := oa7 i55x8 i1 ((inv_F hI 0 2 rfl e_109_0)) i78 ((in_c 0 rfl)) i5x8x10b ((in_c 1 rfl)); have a7 := tx_i2l e5x1; have oc := oc_284_109; omega)), (gvR_cg (L := ([], [], [(109, 0)], [])) (fr_sF rfl fr_rf) rfl)⟩ | exact Or.inr (Or.inl ⟨rfl, ⟨⟨by have a0 := oa7 i55x8 i1 ((inv_F hI 0 2 rfl e_109_0)) i78 ((in_c 0 rfl)) i5x8x10b ((in_c 1 rfl)); have a7 := tx_i2l e5x1; have oc := oc_284_109; omega, by have a0 := oa7 i55x8 i1 ((inv_F hI 0 2 rfl e_109_0)) i78 ((in_c 0 rfl)) i5x8x10b ((in_c 1 rfl)); have a7 := tx_i2l e5x1; have oc := oc_284_109; omega, by rw [← e55x16]; have a0 := oa7 i55x8 i1 ((inv_F hI 0 2 rfl e_109_0)) i78 ((in_c 0 rfl)) i5x8x10b ((in_c 1 rfl)); have a7 := tx_i2l e5x1; have oc := oc_284_109; omega⟩, (by unfold GVL In; have a0 := oa7 i55x8 i1 ((inv_F hI 0 2 rfl e_109_0)) i78 ((in_c 0 rfl)) i5x8x10b ((in_c 1 rfl)); have a7 := tx_i2l e5x1; have oc := oc_284_109; omega)⟩, (by rw [← e_109_9]; have a0 := oa7 i55x8 i1 ((inv_F hI 0 2 rfl e_109_0)) i78 ((in_c 0 rfl)) i5x8x10b ((in_c 1 rfl)); have a7 := tx_i2l e5x1; have oc := oc_284_109; omega), (gvR_cg (L := ([], [], [(109, 0)], [])) (fr_sF rfl fr_rf) rfl)⟩)
                        have n93a : LGX s (sF s 109 0 (Int32.ofInt 1)) (Int32.ofInt 3) x1 x2 x3 (Int32.ofInt 0) (Int32.ofInt 0) (Int32.ofInt 0) := by exact Or.inl ⟨rfl, rfl, rfl, rfl, rfl, rfl, rfl, rfl⟩
                        have n93b : GSE s → GSE (sF s 109 0 (Int32.ofInt 1)) := by exact fun h => gse_fr (L := ([], [], [(109, 0)], [])) h (fr_sF rfl fr_rf) rfl
                        have n93c : G1S s (sF s 109 0 (Int32.ofInt 1)) := by exact ⟨rfl, fun _ _ => rfl, fun _ _ _ => ⟨rfl, rfl, rfl, rfl, rfl, rfl⟩⟩
                        exact g_ireturn (gd rfl) rfl rfl (hP _ _ ⟨(sF s 109 0 (Int32.ofInt 1)), hI86x18, (fr_sF rfl fr_rf), (Int32.ofInt 0), rfl, rfl, in_w (-1000000) 1000000 (in_c 0 rfl) rfl, n93, n93a, n93b, n93c⟩)
              · skip
                exact zn_ne c58 (in_c 0 rfl) rfl
            · skip
              have i55x17 := z_ne 1 1 c55x17 i55x16 rfl
              refine g_iconst 1 21 (gd rfl) rfl rfl ?_
              refine g_goto 25 (gd rfl) rfl ?_
              refine g_ireturn (gd rfl) rfl (nb01 (in_w 0 1 (in_c 1 rfl) rfl)) (hp55 _ _ ?_)
              show GG _ _ _ _ _ _ _ _ [.int (Int32.ofInt 1), .ref (A 109)] _ _ _
              refine g_if_eq 61 70 (gd rfl) rfl rfl (fun c58 => ?_) (fun c58 => ?_)
              · skip
                exact zn_eq c58 (in_c 1 rfl) rfl
              · skip
                refine g_iload 63 (gd rfl) rfl rfl ?_
                refine g_if_eq 66 70 (gd rfl) rfl rfl (fun c63 => ?_) (fun c63 => ?_)
                · skip
                  refine g_iconst 0 71 (gd rfl) rfl rfl ?_
                  refine g_aload_n 72 (gd rfl) rfl rfl ?_
                  refine g_getI 75 (gd rfl) rfl rfl rfl (fun z72 e72 => ?_)
                  have q72 : u_109_9 = z72 := (e_109_9).trans e72.symm
                  subst q72
                  refine g_sipush 4000 78 (gd rfl) rfl rfl ?_
                  refine g_cmp_ge 81 85 (gd rfl) rfl rfl (fun c78 => ?_) (fun c78 => ?_)
                  · skip
                    have i78 := r_le2 4000 4000 c78 (in_c 4000 rfl) (inv_F hI 0 4000 rfl e_109_9) rfl
                    refine g_iconst 0 86 (gd rfl) rfl rfl ?_
                    refine g_callv (X := _) (As := [.int (Int32.ofInt 0), .int (Int32.ofInt 0)]) (r := []) (b := A 109) (q := 109) 89 (gd rfl) rfl rfl rfl rfl rfl (ww_o rfl) (Nat.le_of_ble_eq_true rfl) (mc := 0) (ms := 0) (Nat.zero_le _) (Nat.zero_le _) (P := fun v u => _) ?_ (fun e u h => h) (fun v u h => h)
                    intro po86 xx86 hp86 hx86
                    refine g_enter2 (k := 270) (N := 300) (by first | exact dq1 hd rfl | exact dq0 hd rfl | exact dq2 hd rfl | exact dq3 hd rfl | omega) rfl (Nat.le_of_ble_eq_true rfl) ?_
                    refine g_aload_n 1 (gd rfl) rfl rfl ?_
                    refine g_iload_n 2 (gd rfl) rfl rfl ?_
                    refine g_if_ne 5 9 (gd rfl) rfl rfl (fun c86x2 => ?_) (fun c86x2 => ?_)
                    · skip
                      exact zn_ne c86x2 (in_c 0 rfl) rfl
                    · skip
                      refine g_iconst 1 6 (gd rfl) rfl rfl ?_
                      refine g_goto 18 (gd rfl) rfl ?_
                      refine g_putI 21 (gd rfl) rfl rfl rfl rfl ?_
                      have hI86x18 := inv_sF (q := 109) (j := 0) hI rfl (in_w 0 2 (in_c 1 rfl) rfl)
                      refine g_aload_n 22 (gd rfl) rfl rfl ?_
                      refine g_getI 25 (gd rfl) rfl rfl rfl (fun z86x22 e86x22 => ?_)
                      have q86x22 : (Int32.ofInt 1) = z86x22 := (sF_get).trans e86x22.symm
                      subst q86x22
                      refine g_if_le 28 32 (gd rfl) rfl rfl (fun c86x25 => ?_) (fun c86x25 => ?_)
                      · skip
                        exact zn_le c86x25 (in_c 1 rfl) rfl
                      · skip
                        refine g_iconst 1 29 (gd rfl) rfl rfl ?_
                        refine g_goto 33 (gd rfl) rfl ?_
                        refine g_ireturn (gd rfl) rfl (nb01 (in_w 0 1 (in_c 1 rfl) rfl)) (hp86 _ _ ?_)
                        show GG _ _ _ _ _ _ _ _ [.int (Int32.ofInt 1)] _ _ _
                        refine g_if_eq 92 94 (gd rfl) rfl rfl (fun c89 => ?_) (fun c89 => ?_)
                        · skip
                          exact zn_eq c89 (in_c 1 rfl) rfl
                        · skip
                          refine g_iconst 0 93 (gd rfl) rfl rfl ?_
                          have n93 : CDR s (sF s 109 0 (Int32.ofInt 1)) (HAR s x1 ∧ GVL x2 x3) ((s.2.2.1 109 9).toInt ≤ 3999) (((Int32.ofInt 0)) = (if (x2).toInt = 0 then s.1 115 (x1).toNatClampNeg else if (x2).toInt = 1 then s.1 116 (x1).toNatClampNeg else s.1 117 (x1).toNatClampNeg) ∧ gvR (sF s 109 0 (Int32.ofInt 1)) = gqW (gvR s) (x1).toNatClampNeg x2 x3) := by first | exact Or.inl ⟨rfl, (by first | (unfold HAR GVL In; have a0 := oa7 i55x8 i1 ((inv_F hI 0 2 rfl e_109_0)) i78 ((in_c 0 rfl)) i5x8x10b ((in_c 1 rfl)); have a7 := tx_i2l e5x1; have oc := oc_284_109; omega) | (unfold HAR GVL In; rw [← e55x16]; have a0 := oa7 i55x8 i1 ((inv_F hI 0 2 rfl e_109_0)) i78 ((in_c 0 rfl)) i5x8x10b ((in_c 1 rfl)); have a7 := tx_i2l e5x1; have oc := oc_284_109; omega)), (gvR_cg (L := ([], [], [(109, 0)], [])) (fr_sF rfl fr_rf) rfl)⟩ | exact Or.inr (Or.inl ⟨rfl, ⟨⟨by have a0 := oa7 i55x8 i1 ((inv_F hI 0 2 rfl e_109_0)) i78 ((in_c 0 rfl)) i5x8x10b ((in_c 1 rfl)); have a7 := tx_i2l e5x1; have oc := oc_284_109; omega, by have a0 := oa7 i55x8 i1 ((inv_F hI 0 2 rfl e_109_0)) i78 ((in_c 0 rfl)) i5x8x10b ((in_c 1 rfl)); have a7 := tx_i2l e5x1; have oc := oc_284_109; omega, by rw [← e55x16]; have a0 := oa7 i55x8 i1 ((inv_F hI 0 2 rfl e_109_0)) i78 ((in_c 0 rfl)) i5x8x10b ((in_c 1 rfl)); have a7 := tx_i2l e5x1; have oc := oc_284_109; omega⟩, (by unfold GVL In; have a0 := oa7 i55x8 i1 ((inv_F hI 0 2 rfl e_109_0)) i78 ((in_c 0 rfl)) i5x8x10b ((in_c 1 rfl)); have a7 := tx_i2l e5x1; have oc := oc_284_109; omega)⟩, (by rw [← e_109_9]; have a0 := oa7 i55x8 i1 ((inv_F hI 0 2 rfl e_109_0)) i78 ((in_c 0 rfl)) i5x8x10b ((in_c 1 rfl)); have a7 := tx_i2l e5x1; have oc := oc_284_109; omega), (gvR_cg (L := ([], [], [(109, 0)], [])) (fr_sF rfl fr_rf) rfl)⟩)
                          have n93a : LGX s (sF s 109 0 (Int32.ofInt 1)) (Int32.ofInt 3) x1 x2 x3 (Int32.ofInt 0) (Int32.ofInt 0) (Int32.ofInt 0) := by exact Or.inl ⟨rfl, rfl, rfl, rfl, rfl, rfl, rfl, rfl⟩
                          have n93b : GSE s → GSE (sF s 109 0 (Int32.ofInt 1)) := by exact fun h => gse_fr (L := ([], [], [(109, 0)], [])) h (fr_sF rfl fr_rf) rfl
                          have n93c : G1S s (sF s 109 0 (Int32.ofInt 1)) := by exact ⟨rfl, fun _ _ => rfl, fun _ _ _ => ⟨rfl, rfl, rfl, rfl, rfl, rfl⟩⟩
                          exact g_ireturn (gd rfl) rfl rfl (hP _ _ ⟨(sF s 109 0 (Int32.ofInt 1)), hI86x18, (fr_sF rfl fr_rf), (Int32.ofInt 0), rfl, rfl, in_w (-1000000) 1000000 (in_c 0 rfl) rfl, n93, n93a, n93b, n93c⟩)
                  · skip
                    have i78 := r_lt1 0 3999 c78 (inv_F hI 0 4000 rfl e_109_9) (in_c 4000 rfl) rfl
                    refine g_iconst 1 82 (gd rfl) rfl rfl ?_
                    refine g_goto 86 (gd rfl) rfl ?_
                    refine g_callv (X := _) (As := [.int (Int32.ofInt 0), .int (Int32.ofInt 1)]) (r := []) (b := A 109) (q := 109) 89 (gd rfl) rfl rfl rfl rfl rfl (ww_o rfl) (Nat.le_of_ble_eq_true rfl) (mc := 0) (ms := 0) (Nat.zero_le _) (Nat.zero_le _) (P := fun v u => _) ?_ (fun e u h => h) (fun v u h => h)
                    intro po86 xx86 hp86 hx86
                    refine g_enter2 (k := 270) (N := 300) (by first | exact dq1 hd rfl | exact dq0 hd rfl | exact dq2 hd rfl | exact dq3 hd rfl | omega) rfl (Nat.le_of_ble_eq_true rfl) ?_
                    refine g_aload_n 1 (gd rfl) rfl rfl ?_
                    refine g_iload_n 2 (gd rfl) rfl rfl ?_
                    refine g_if_ne 5 9 (gd rfl) rfl rfl (fun c86x2 => ?_) (fun c86x2 => ?_)
                    · skip
                      exact zn_ne c86x2 (in_c 0 rfl) rfl
                    · skip
                      refine g_iconst 1 6 (gd rfl) rfl rfl ?_
                      refine g_goto 18 (gd rfl) rfl ?_
                      refine g_putI 21 (gd rfl) rfl rfl rfl rfl ?_
                      have hI86x18 := inv_sF (q := 109) (j := 0) hI rfl (in_w 0 2 (in_c 1 rfl) rfl)
                      refine g_aload_n 22 (gd rfl) rfl rfl ?_
                      refine g_getI 25 (gd rfl) rfl rfl rfl (fun z86x22 e86x22 => ?_)
                      have q86x22 : (Int32.ofInt 1) = z86x22 := (sF_get).trans e86x22.symm
                      subst q86x22
                      refine g_if_le 28 32 (gd rfl) rfl rfl (fun c86x25 => ?_) (fun c86x25 => ?_)
                      · skip
                        exact zn_le c86x25 (in_c 1 rfl) rfl
                      · skip
                        refine g_iconst 1 29 (gd rfl) rfl rfl ?_
                        refine g_goto 33 (gd rfl) rfl ?_
                        refine g_ireturn (gd rfl) rfl (nb01 (in_w 0 1 (in_c 1 rfl) rfl)) (hp86 _ _ ?_)
                        show GG _ _ _ _ _ _ _ _ [.int (Int32.ofInt 1)] _ _ _
                        refine g_if_eq 92 94 (gd rfl) rfl rfl (fun c89 => ?_) (fun c89 => ?_)
                        · skip
                          exact zn_eq c89 (in_c 1 rfl) rfl
                        · skip
                          refine g_iconst 0 93 (gd rfl) rfl rfl ?_
                          have n93 : CDR s (sF s 109 0 (Int32.ofInt 1)) (HAR s x1 ∧ GVL x2 x3) ((s.2.2.1 109 9).toInt ≤ 3999) (((Int32.ofInt 0)) = (if (x2).toInt = 0 then s.1 115 (x1).toNatClampNeg else if (x2).toInt = 1 then s.1 116 (x1).toNatClampNeg else s.1 117 (x1).toNatClampNeg) ∧ gvR (sF s 109 0 (Int32.ofInt 1)) = gqW (gvR s) (x1).toNatClampNeg x2 x3) := by first | exact Or.inl ⟨rfl, (by first | (unfold HAR GVL In; have a0 := oa7 i55x8 i1 ((inv_F hI 0 2 rfl e_109_0)) i78 ((in_c 0 rfl)) i5x8x10b ((in_c 1 rfl)); have a7 := tx_i2l e5x1; have oc := oc_284_109; omega) | (unfold HAR GVL In; rw [← e55x16]; have a0 := oa7 i55x8 i1 ((inv_F hI 0 2 rfl e_109_0)) i78 ((in_c 0 rfl)) i5x8x10b ((in_c 1 rfl)); have a7 := tx_i2l e5x1; have oc := oc_284_109; omega)), (gvR_cg (L := ([], [], [(109, 0)], [])) (fr_sF rfl fr_rf) rfl)⟩ | exact Or.inr (Or.inl ⟨rfl, ⟨⟨by have a0 := oa7 i55x8 i1 ((inv_F hI 0 2 rfl e_109_0)) i78 ((in_c 0 rfl)) i5x8x10b ((in_c 1 rfl)); have a7 := tx_i2l e5x1; have oc := oc_284_109; omega, by have a0 := oa7 i55x8 i1 ((inv_F hI 0 2 rfl e_109_0)) i78 ((in_c 0 rfl)) i5x8x10b ((in_c 1 rfl)); have a7 := tx_i2l e5x1; have oc := oc_284_109; omega, by rw [← e55x16]; have a0 := oa7 i55x8 i1 ((inv_F hI 0 2 rfl e_109_0)) i78 ((in_c 0 rfl)) i5x8x10b ((in_c 1 rfl)); have a7 := tx_i2l e5x1; have oc := oc_284_109; omega⟩, (by unfold GVL In; have a0 := oa7 i55x8 i1 ((inv_F hI 0 2 rfl e_109_0)) i78 ((in_c 0 rfl)) i5x8x10b ((in_c 1 rfl)); have a7 := tx_i2l e5x1; have oc := oc_284_109; omega)⟩, (by rw [← e_109_9]; have a0 := oa7 i55x8 i1 ((inv_F hI 0 2 rfl e_109_0)) i78 ((in_c 0 rfl)) i5x8x10b ((in_c 1 rfl)); have a7 := tx_i2l e5x1; have oc := oc_284_109; omega), (gvR_cg (L := ([], [], [(109, 0)], [])) (fr_sF rfl fr_rf) rfl)⟩)
                          have n93a : LGX s (sF s 109 0 (Int32.ofInt 1)) (Int32.ofInt 3) x1 x2 x3 (Int32.ofInt 0) (Int32.ofInt 0) (Int32.ofInt 0) := by exact Or.inl ⟨rfl, rfl, rfl, rfl, rfl, rfl, rfl, rfl⟩
                          have n93b : GSE s → GSE (sF s 109 0 (Int32.ofInt 1)) := by exact fun h => gse_fr (L := ([], [], [(109, 0)], [])) h (fr_sF rfl fr_rf) rfl
                          have n93c : G1S s (sF s 109 0 (Int32.ofInt 1)) := by exact ⟨rfl, fun _ _ => rfl, fun _ _ _ => ⟨rfl, rfl, rfl, rfl, rfl, rfl⟩⟩
                          exact g_ireturn (gd rfl) rfl rfl (hP _ _ ⟨(sF s 109 0 (Int32.ofInt 1)), hI86x18, (fr_sF rfl fr_rf), (Int32.ofInt 0), rfl, rfl, in_w (-1000000) 1000000 (in_c 0 rfl) rfl, n93, n93a, n93b, n93c⟩)
                · skip
                  exact zn_ne c63 (in_c 0 rfl) rfl
      · skip
        have i5x8x10 := z_le (-1) 0 c5x8x10 i5x8x9 rfl
        have c5x8x10a := lc_le e5x8x9 c5x8x10
        have i5x8x10a := lr_le1 (-1000000) 1000000 c5x8x10a i5x8x3a (l_c 1000000 rfl) rfl
        have i5x8x10b := l_b e5x1 i5x8x10a
        refine g_iconst 1 14 (gd rfl) rfl rfl ?_
        refine g_goto 18 (gd rfl) rfl ?_
        refine g_ireturn (gd rfl) rfl (nb01 (in_w 0 1 (in_c 1 rfl) rfl)) (hp5x8 _ _ ?_)
        show GG _ _ _ _ _ _ _ _ [.int (Int32.ofInt 1)] _ _ _
        refine g_ireturn (gd rfl) rfl (nb01 (in_w 0 1 (in_c 1 rfl) rfl)) (hp5 _ _ ?_)
        show GG _ _ _ _ _ _ _ _ [.int (Int32.ofInt 1)] _ _ _
        refine g_goto 50 (gd rfl) rfl ?_
        refine g_istore 52 (gd rfl) rfl (Nat.le_of_ble_eq_true rfl) ?_
        refine g_aload_n 53 (gd rfl) rfl rfl ?_
        refine g_aload_n 54 (gd rfl) rfl rfl ?_
        refine g_iload_n 55 (gd rfl) rfl rfl ?_
        refine g_callv (X := _) (As := [.int x1]) (r := [.ref (A 109)]) (b := A 109) (q := 109) 58 (gd rfl) rfl rfl rfl rfl rfl (ww_o rfl) (Nat.le_of_ble_eq_true rfl) (mc := 0) (ms := 0) (Nat.zero_le _) (Nat.zero_le _) (P := fun v u => _) ?_ (fun e u h => h) (fun v u h => h)
        intro po55 xx55 hp55 hx55
        refine g_enter2 (k := 278) (N := 300) (by first | exact dq1 hd rfl | exact dq0 hd rfl | exact dq2 hd rfl | exact dq3 hd rfl | omega) rfl (Nat.le_of_ble_eq_true rfl) ?_
        refine g_iload_n 1 (gd rfl) rfl rfl ?_
        refine g_if_lt 4 24 (gd rfl) rfl rfl (fun c55x1 => ?_) (fun c55x1 => ?_)
        · skip
          have i55x1 := z_lt (-2147483648) (-1) c55x1 (i_rng x1) rfl
          refine g_iconst 0 25 (gd rfl) rfl rfl ?_
          refine g_ireturn (gd rfl) rfl (nb01 (in_w 0 1 (in_c 0 rfl) rfl)) (hp55 _ _ ?_)
          show GG _ _ _ _ _ _ _ _ [.int (Int32.ofInt 0), .ref (A 109)] _ _ _
          refine g_if_eq 61 70 (gd rfl) rfl rfl (fun c58 => ?_) (fun c58 => ?_)
          · skip
            refine g_iconst 0 71 (gd rfl) rfl rfl ?_
            refine g_aload_n 72 (gd rfl) rfl rfl ?_
            refine g_getI 75 (gd rfl) rfl rfl rfl (fun z72 e72 => ?_)
            have q72 : u_109_9 = z72 := (e_109_9).trans e72.symm
            subst q72
            refine g_sipush 4000 78 (gd rfl) rfl rfl ?_
            refine g_cmp_ge 81 85 (gd rfl) rfl rfl (fun c78 => ?_) (fun c78 => ?_)
            · skip
              have i78 := r_le2 4000 4000 c78 (in_c 4000 rfl) (inv_F hI 0 4000 rfl e_109_9) rfl
              refine g_iconst 0 86 (gd rfl) rfl rfl ?_
              refine g_callv (X := _) (As := [.int (Int32.ofInt 0), .int (Int32.ofInt 0)]) (r := []) (b := A 109) (q := 109) 89 (gd rfl) rfl rfl rfl rfl rfl (ww_o rfl) (Nat.le_of_ble_eq_true rfl) (mc := 0) (ms := 0) (Nat.zero_le _) (Nat.zero_le _) (P := fun v u => _) ?_ (fun e u h => h) (fun v u h => h)
              intro po86 xx86 hp86 hx86
              refine g_enter2 (k := 270) (N := 300) (by first | exact dq1 hd rfl | exact dq0 hd rfl | exact dq2 hd rfl | exact dq3 hd rfl | omega) rfl (Nat.le_of_ble_eq_true rfl) ?_
              refine g_aload_n 1 (gd rfl) rfl rfl ?_
              refine g_iload_n 2 (gd rfl) rfl rfl ?_
              refine g_if_ne 5 9 (gd rfl) rfl rfl (fun c86x2 => ?_) (fun c86x2 => ?_)
              · skip
                exact zn_ne c86x2 (in_c 0 rfl) rfl
              · skip
                refine g_iconst 1 6 (gd rfl) rfl rfl ?_
                refine g_goto 18 (gd rfl) rfl ?_
                refine g_putI 21 (gd rfl) rfl rfl rfl rfl ?_
                have hI86x18 := inv_sF (q := 109) (j := 0) hI rfl (in_w 0 2 (in_c 1 rfl) rfl)
                refine g_aload_n 22 (gd rfl) rfl rfl ?_
                refine g_getI 25 (gd rfl) rfl rfl rfl (fun z86x22 e86x22 => ?_)
                have q86x22 : (Int32.ofInt 1) = z86x22 := (sF_get).trans e86x22.symm
                subst q86x22
                refine g_if_le 28 32 (gd rfl) rfl rfl (fun c86x25 => ?_) (fun c86x25 => ?_)
                · skip
                  exact zn_le c86x25 (in_c 1 rfl) rfl
                · skip
                  refine g_iconst 1 29 (gd rfl) rfl rfl ?_
                  refine g_goto 33 (gd rfl) rfl ?_
                  refine g_ireturn (gd rfl) rfl (nb01 (in_w 0 1 (in_c 1 rfl) rfl)) (hp86 _ _ ?_)
                  show GG _ _ _ _ _ _ _ _ [.int (Int32.ofInt 1)] _ _ _
                  refine g_if_eq 92 94 (gd rfl) rfl rfl (fun c89 => ?_) (fun c89 => ?_)
                  · skip
                    exact zn_eq c89 (in_c 1 rfl) rfl
                  · skip
                    refine g_iconst 0 93 (gd rfl) rfl rfl ?_
                    have n93 : CDR s (sF s 109 0 (Int32.ofInt 1)) (HAR s x1 ∧ GVL x2 x3) ((s.2.2.1 109 9).toInt ≤ 3999) (((Int32.ofInt 0)) = (if (x2).toInt = 0 then s.1 115 (x1).toNatClampNeg else if (x2).toInt = 1 then s.1 116 (x1).toNatClampNeg else s.1 117 (x1).toNatClampNeg) ∧ gvR (sF s 109 0 (Int32.ofInt 1)) = gqW (gvR s) (x1).toNatClampNeg x2 x3) := by first | exact Or.inl ⟨rfl, (by first | (unfold HAR GVL In; have a0 := oa6 i5x8x10b i1 ((inv_F hI 0 2 rfl e_109_0)) i78 ((in_c 1 rfl)) i55x1; have a6 := tx_i2l e5x1; have oc := oc_284_109; omega) | (unfold HAR GVL In; rw [← e55x16]; have a0 := oa6 i5x8x10b i1 ((inv_F hI 0 2 rfl e_109_0)) i78 ((in_c 1 rfl)) i55x1; have a6 := tx_i2l e5x1; have oc := oc_284_109; omega)), (gvR_cg (L := ([], [], [(109, 0)], [])) (fr_sF rfl fr_rf) rfl)⟩ | exact Or.inr (Or.inl ⟨rfl, ⟨⟨by have a0 := oa6 i5x8x10b i1 ((inv_F hI 0 2 rfl e_109_0)) i78 ((in_c 1 rfl)) i55x1; have a6 := tx_i2l e5x1; have oc := oc_284_109; omega, by have a0 := oa6 i5x8x10b i1 ((inv_F hI 0 2 rfl e_109_0)) i78 ((in_c 1 rfl)) i55x1; have a6 := tx_i2l e5x1; have oc := oc_284_109; omega, by rw [← e55x16]; have a0 := oa6 i5x8x10b i1 ((inv_F hI 0 2 rfl e_109_0)) i78 ((in_c 1 rfl)) i55x1; have a6 := tx_i2l e5x1; have oc := oc_284_109; omega⟩, (by unfold GVL In; have a0 := oa6 i5x8x10b i1 ((inv_F hI 0 2 rfl e_109_0)) i78 ((in_c 1 rfl)) i55x1; have a6 := tx_i2l e5x1; have oc := oc_284_109; omega)⟩, (by rw [← e_109_9]; have a0 := oa6 i5x8x10b i1 ((inv_F hI 0 2 rfl e_109_0)) i78 ((in_c 1 rfl)) i55x1; have a6 := tx_i2l e5x1; have oc := oc_284_109; omega), (gvR_cg (L := ([], [], [(109, 0)], [])) (fr_sF rfl fr_rf) rfl)⟩)
                    have n93a : LGX s (sF s 109 0 (Int32.ofInt 1)) (Int32.ofInt 3) x1 x2 x3 (Int32.ofInt 0) (Int32.ofInt 0) (Int32.ofInt 0) := by exact Or.inl ⟨rfl, rfl, rfl, rfl, rfl, rfl, rfl, rfl⟩
                    have n93b : GSE s → GSE (sF s 109 0 (Int32.ofInt 1)) := by exact fun h => gse_fr (L := ([], [], [(109, 0)], [])) h (fr_sF rfl fr_rf) rfl
                    have n93c : G1S s (sF s 109 0 (Int32.ofInt 1)) := by exact ⟨rfl, fun _ _ => rfl, fun _ _ _ => ⟨rfl, rfl, rfl, rfl, rfl, rfl⟩⟩
                    exact g_ireturn (gd rfl) rfl rfl (hP _ _ ⟨(sF s 109 0 (Int32.ofInt 1)), hI86x18, (fr_sF rfl fr_rf), (Int32.ofInt 0), rfl, rfl, in_w (-1000000) 1000000 (in_c 0 rfl) rfl, n93, n93a, n93b, n93c⟩)
            · skip
              have i78 := r_lt1 0 3999 c78 (inv_F hI 0 4000 rfl e_109_9) (in_c 4000 rfl) rfl
              refine g_iconst 1 82 (gd rfl) rfl rfl ?_
              refine g_goto 86 (gd rfl) rfl ?_
              refine g_callv (X := _) (As := [.int (Int32.ofInt 0), .int (Int32.ofInt 1)]) (r := []) (b := A 109) (q := 109) 89 (gd rfl) rfl rfl rfl rfl rfl (ww_o rfl) (Nat.le_of_ble_eq_true rfl) (mc := 0) (ms := 0) (Nat.zero_le _) (Nat.zero_le _) (P := fun v u => _) ?_ (fun e u h => h) (fun v u h => h)
              intro po86 xx86 hp86 hx86
              refine g_enter2 (k := 270) (N := 300) (by first | exact dq1 hd rfl | exact dq0 hd rfl | exact dq2 hd rfl | exact dq3 hd rfl | omega) rfl (Nat.le_of_ble_eq_true rfl) ?_
              refine g_aload_n 1 (gd rfl) rfl rfl ?_
              refine g_iload_n 2 (gd rfl) rfl rfl ?_
              refine g_if_ne 5 9 (gd rfl) rfl rfl (fun c86x2 => ?_) (fun c86x2 => ?_)
              · skip
                exact zn_ne c86x2 (in_c 0 rfl) rfl
              · skip
                refine g_iconst 1 6 (gd rfl) rfl rfl ?_
                refine g_goto 18 (gd rfl) rfl ?_
                refine g_putI 21 (gd rfl) rfl rfl rfl rfl ?_
                have hI86x18 := inv_sF (q := 109) (j := 0) hI rfl (in_w 0 2 (in_c 1 rfl) rfl)
                refine g_aload_n 22 (gd rfl) rfl rfl ?_
                refine g_getI 25 (gd rfl) rfl rfl rfl (fun z86x22 e86x22 => ?_)
                have q86x22 : (Int32.ofInt 1) = z86x22 := (sF_get).trans e86x22.symm
                subst q86x22
                refine g_if_le 28 32 (gd rfl) rfl rfl (fun c86x25 => ?_) (fun c86x25 => ?_)
                · skip
                  exact zn_le c86x25 (in_c 1 rfl) rfl
                · skip
                  refine g_iconst 1 29 (gd rfl) rfl rfl ?_
                  refine g_goto 33 (gd rfl) rfl ?_
                  refine g_ireturn (gd rfl) rfl (nb01 (in_w 0 1 (in_c 1 rfl) rfl)) (hp86 _ _ ?_)
                  show GG _ _ _ _ _ _ _ _ [.int (Int32.ofInt 1)] _ _ _
                  refine g_if_eq 92 94 (gd rfl) rfl rfl (fun c89 => ?_) (fun c89 => ?_)
                  · skip
                    exact zn_eq c89 (in_c 1 rfl) rfl
                  · skip
                    refine g_iconst 0 93 (gd rfl) rfl rfl ?_
                    have n93 : CDR s (sF s 109 0 (Int32.ofInt 1)) (HAR s x1 ∧ GVL x2 x3) ((s.2.2.1 109 9).toInt ≤ 3999) (((Int32.ofInt 0)) = (if (x2).toInt = 0 then s.1 115 (x1).toNatClampNeg else if (x2).toInt = 1 then s.1 116 (x1).toNatClampNeg else s.1 117 (x1).toNatClampNeg) ∧ gvR (sF s 109 0 (Int32.ofInt 1)) = gqW (gvR s) (x1).toNatClampNeg x2 x3) := by first | exact Or.inl ⟨rfl, (by first | (unfold HAR GVL In; have a0 := oa6 i5x8x10b i1 ((inv_F hI 0 2 rfl e_109_0)) i78 ((in_c 1 rfl)) i55x1; have a6 := tx_i2l e5x1; have oc := oc_284_109; omega) | (unfold HAR GVL In; rw [← e55x16]; have a0 := oa6 i5x8x10b i1 ((inv_F hI 0 2 rfl e_109_0)) i78 ((in_c 1 rfl)) i55x1; have a6 := tx_i2l e5x1; have oc := oc_284_109; omega)), (gvR_cg (L := ([], [], [(109, 0)], [])) (fr_sF rfl fr_rf) rfl)⟩ | exact Or.inr (Or.inl ⟨rfl, ⟨⟨by have a0 := oa6 i5x8x10b i1 ((inv_F hI 0 2 rfl e_109_0)) i78 ((in_c 1 rfl)) i55x1; have a6 := tx_i2l e5x1; have oc := oc_284_109; omega, by have a0 := oa6 i5x8x10b i1 ((inv_F hI 0 2 rfl e_109_0)) i78 ((in_c 1 rfl)) i55x1; have a6 := tx_i2l e5x1; have oc := oc_284_109; omega, by rw [← e55x16]; have a0 := oa6 i5x8x10b i1 ((inv_F hI 0 2 rfl e_109_0)) i78 ((in_c 1 rfl)) i55x1; have a6 := tx_i2l e5x1; have oc := oc_284_109; omega⟩, (by unfold GVL In; have a0 := oa6 i5x8x10b i1 ((inv_F hI 0 2 rfl e_109_0)) i78 ((in_c 1 rfl)) i55x1; have a6 := tx_i2l e5x1; have oc := oc_284_109; omega)⟩, (by rw [← e_109_9]; have a0 := oa6 i5x8x10b i1 ((inv_F hI 0 2 rfl e_109_0)) i78 ((in_c 1 rfl)) i55x1; have a6 := tx_i2l e5x1; have oc := oc_284_109; omega), (gvR_cg (L := ([], [], [(109, 0)], [])) (fr_sF rfl fr_rf) rfl)⟩)
                    have n93a : LGX s (sF s 109 0 (Int32.ofInt 1)) (Int32.ofInt 3) x1 x2 x3 (Int32.ofInt 0) (Int32.ofInt 0) (Int32.ofInt 0) := by exact Or.inl ⟨rfl, rfl, rfl, rfl, rfl, rfl, rfl, rfl⟩
                    have n93b : GSE s → GSE (sF s 109 0 (Int32.ofInt 1)) := by exact fun h => gse_fr (L := ([], [], [(109, 0)], [])) h (fr_sF rfl fr_rf) rfl
                    have n93c : G1S s (sF s 109 0 (Int32.ofInt 1)) := by exact ⟨rfl, fun _ _ => rfl, fun _ _ _ => ⟨rfl, rfl, rfl, rfl, rfl, rfl⟩⟩
                    exact g_ireturn (gd rfl) rfl rfl (hP _ _ ⟨(sF s 109 0 (Int32.ofInt 1)), hI86x18, (fr_sF rfl fr_rf), (Int32.ofInt 0), rfl, rfl, in_w (-1000000) 1000000 (in_c 0 rfl) rfl, n93, n93a, n93b, n93c⟩)
          · skip
            exact zn_ne c58 (in_c 0 rfl) rfl
        · skip
          have i55x1 := z_ge 0 2147483647 c55x1 (i_rng x1) rfl
          refine g_iload_n 5 (gd rfl) rfl rfl ?_
          refine g_sipush 160 8 (gd rfl) rfl rfl ?_
          refine g_cmp_ge 11 24 (gd rfl) rfl rfl (fun c55x8 => ?_) (fun c55x8 => ?_)
          · skip
            have i55x8 := r_le2 160 2147483647 c55x8 (in_c 160 rfl) i55x1 rfl
            refine g_iconst 0 25 (gd rfl) rfl rfl ?_
            refine g_ireturn (gd rfl) rfl (nb01 (in_w 0 1 (in_c 0 rfl) rfl)) (hp55 _ _ ?_)
            show GG _ _ _ _ _ _ _ _ [.int (Int32.ofInt 0), .ref (A 109)] _ _ _
            refine g_if_eq 61 70 (gd rfl) rfl rfl (fun c58 => ?_) (fun c58 => ?_)
            · skip
              refine g_iconst 0 71 (gd rfl) rfl rfl ?_
              refine g_aload_n 72 (gd rfl) rfl rfl ?_
              refine g_getI 75 (gd rfl) rfl rfl rfl (fun z72 e72 => ?_)
              have q72 : u_109_9 = z72 := (e_109_9).trans e72.symm
              subst q72
              refine g_sipush 4000 78 (gd rfl) rfl rfl ?_
              refine g_cmp_ge 81 85 (gd rfl) rfl rfl (fun c78 => ?_) (fun c78 => ?_)
              · skip
                have i78 := r_le2 4000 4000 c78 (in_c 4000 rfl) (inv_F hI 0 4000 rfl e_109_9) rfl
                refine g_iconst 0 86 (gd rfl) rfl rfl ?_
                refine g_callv (X := _) (As := [.int (Int32.ofInt 0), .int (Int32.ofInt 0)]) (r := []) (b := A 109) (q := 109) 89 (gd rfl) rfl rfl rfl rfl rfl (ww_o rfl) (Nat.le_of_ble_eq_true rfl) (mc := 0) (ms := 0) (Nat.zero_le _) (Nat.zero_le _) (P := fun v u => _) ?_ (fun e u h => h) (fun v u h => h)
                intro po86 xx86 hp86 hx86
                refine g_enter2 (k := 270) (N := 300) (by first | exact dq1 hd rfl | exact dq0 hd rfl | exact dq2 hd rfl | exact dq3 hd rfl | omega) rfl (Nat.le_of_ble_eq_true rfl) ?_
                refine g_aload_n 1 (gd rfl) rfl rfl ?_
                refine g_iload_n 2 (gd rfl) rfl rfl ?_
                refine g_if_ne 5 9 (gd rfl) rfl rfl (fun c86x2 => ?_) (fun c86x2 => ?_)
                · skip
                  exact zn_ne c86x2 (in_c 0 rfl) rfl
                · skip
                  refine g_iconst 1 6 (gd rfl) rfl rfl ?_
                  refine g_goto 18 (gd rfl) rfl ?_
                  refine g_putI 21 (gd rfl) rfl rfl rfl rfl ?_
                  have hI86x18 := inv_sF (q := 109) (j := 0) hI rfl (in_w 0 2 (in_c 1 rfl) rfl)
                  refine g_aload_n 22 (gd rfl) rfl rfl ?_
                  refine g_getI 25 (gd rfl) rfl rfl rfl (fun z86x22 e86x22 => ?_)
                  have q86x22 : (Int32.ofInt 1) = z86x22 := (sF_get).trans e86x22.symm
                  subst q86x22
                  refine g_if_le 28 32 (gd rfl) rfl rfl (fun c86x25 => ?_) (fun c86x25 => ?_)
                  · skip
                    exact zn_le c86x25 (in_c 1 rfl) rfl
                  · skip
                    refine g_iconst 1 29 (gd rfl) rfl rfl ?_
                    refine g_goto 33 (gd rfl) rfl ?_
                    refine g_ireturn (gd rfl) rfl (nb01 (in_w 0 1 (in_c 1 rfl) rfl)) (hp86 _ _ ?_)
                    show GG _ _ _ _ _ _ _ _ [.int (Int32.ofInt 1)] _ _ _
                    refine g_if_eq 92 94 (gd rfl) rfl rfl (fun c89 => ?_) (fun c89 => ?_)
                    · skip
                      exact zn_eq c89 (in_c 1 rfl) rfl
                    · skip
                      refine g_iconst 0 93 (gd rfl) rfl rfl ?_
                      have n93 : CDR s (sF s 109 0 (Int32.ofInt 1)) (HAR s x1 ∧ GVL x2 x3) ((s.2.2.1 109 9).toInt ≤ 3999) (((Int32.ofInt 0)) = (if (x2).toInt = 0 then s.1 115 (x1).toNatClampNeg else if (x2).toInt = 1 then s.1 116 (x1).toNatClampNeg else s.1 117 (x1).toNatClampNeg) ∧ gvR (sF s 109 0 (Int32.ofInt 1)) = gqW (gvR s) (x1).toNatClampNeg x2 x3) := by first | exact Or.inl ⟨rfl, (by first | (unfold HAR GVL In; have a0 := oa6 i5x8x10b i1 ((inv_F hI 0 2 rfl e_109_0)) i78 ((in_c 1 rfl)) i55x8; have a6 := tx_i2l e5x1; have oc := oc_284_109; omega) | (unfold HAR GVL In; rw [← e55x16]; have a0 := oa6 i5x8x10b i1 ((inv_F hI 0 2 rfl e_109_0)) i78 ((in_c 1 rfl)) i55x8; have a6 := tx_i2l e5x1; have oc := oc_284_109; omega)), (gvR_cg (L := ([], [], [(109, 0)], [])) (fr_sF rfl fr_rf) rfl)⟩ | exact Or.inr (Or.inl ⟨rfl, ⟨⟨by have a0 := oa6 i5x8x10b i1 ((inv_F hI 0 2 rfl e_109_0)) i78 ((in_c 1 rfl)) i55x8; have a6 := tx_i2l e5x1; have oc := oc_284_109; omega, by have a0 := oa6 i5x8x10b i1 ((inv_F hI 0 2 rfl e_109_0)) i78 ((in_c 1 rfl)) i55x8; have a6 := tx_i2l e5x1; have oc := oc_284_109; omega, by rw [← e55x16]; have a0 := oa6 i5x8x10b i1 ((inv_F hI 0 2 rfl e_109_0)) i78 ((in_c 1 rfl)) i55x8; have a6 := tx_i2l e5x1; have oc := oc_284_109; omega⟩, (by unfold GVL In; have a0 := oa6 i5x8x10b i1 ((inv_F hI 0 2 rfl e_109_0)) i78 ((in_c 1 rfl)) i55x8; have a6 := tx_i2l e5x1; have oc := oc_284_109; omega)⟩, (by rw [← e_109_9]; have a0 := oa6 i5x8x10b i1 ((inv_F hI 0 2 rfl e_109_0)) i78 ((in_c 1 rfl)) i55x8; have a6 := tx_i2l e5x1; have oc := oc_284_109; omega), (gvR_cg (L := ([], [], [(109, 0)], [])) (fr_sF rfl fr_rf) rfl)⟩)
                      have n93a : LGX s (sF s 109 0 (Int32.ofInt 1)) (Int32.ofInt 3) x1 x2 x3 (Int32.ofInt 0) (Int32.ofInt 0) (Int32.ofInt 0) := by exact Or.inl ⟨rfl, rfl, rfl, rfl, rfl, rfl, rfl, rfl⟩
                      have n93b : GSE s → GSE (sF s 109 0 (Int32.ofInt 1)) := by exact fun h => gse_fr (L := ([], [], [(109, 0)], [])) h (fr_sF rfl fr_rf) rfl
                      have n93c : G1S s (sF s 109 0 (Int32.ofInt 1)) := by exact ⟨rfl, fun _ _ => rfl, fun _ _ _ => ⟨rfl, rfl, rfl, rfl, rfl, rfl⟩⟩
                      exact g_ireturn (gd rfl) rfl rfl (hP _ _ ⟨(sF s 109 0 (Int32.ofInt 1)), hI86x18, (fr_sF rfl fr_rf), (Int32.ofInt 0), rfl, rfl, in_w (-1000000) 1000000 (in_c 0 rfl) rfl, n93, n93a, n93b, n93c⟩)
              · skip
                have i78 := r_lt1 0 3999 c78 (inv_F hI 0 4000 rfl e_109_9) (in_c 4000 rfl) rfl
                refine g_iconst 1 82 (gd rfl) rfl rfl ?_
                refine g_goto 86 (gd rfl) rfl ?_
                refine g_callv (X := _) (As := [.int (Int32.ofInt 0), .int (Int32.ofInt 1)]) (r := []) (b := A 109) (q := 109) 89 (gd rfl) rfl rfl rfl rfl rfl (ww_o rfl) (Nat.le_of_ble_eq_true rfl) (mc := 0) (ms := 0) (Nat.zero_le _) (Nat.zero_le _) (P := fun v u => _) ?_ (fun e u h => h) (fun v u h => h)
                intro po86 xx86 hp86 hx86
                refine g_enter2 (k := 270) (N := 300) (by first | exact dq1 hd rfl | exact dq0 hd rfl | exact dq2 hd rfl | exact dq3 hd rfl | omega) rfl (Nat.le_of_ble_eq_true rfl) ?_
                refine g_aload_n 1 (gd rfl) rfl rfl ?_
                refine g_iload_n 2 (gd rfl) rfl rfl ?_
                refine g_if_ne 5 9 (gd rfl) rfl rfl (fun c86x2 => ?_) (fun c86x2 => ?_)
                · skip
                  exact zn_ne c86x2 (in_c 0 rfl) rfl
                · skip
                  refine g_iconst 1 6 (gd rfl) rfl rfl ?_
                  refine g_goto 18 (gd rfl) rfl ?_
                  refine g_putI 21 (gd rfl) rfl rfl rfl rfl ?_
                  have hI86x18 := inv_sF (q := 109) (j := 0) hI rfl (in_w 0 2 (in_c 1 rfl) rfl)
                  refine g_aload_n 22 (gd rfl) rfl rfl ?_
                  refine g_getI 25 (gd rfl) rfl rfl rfl (fun z86x22 e86x22 => ?_)
                  have q86x22 : (Int32.ofInt 1) = z86x22 := (sF_get).trans e86x22.symm
                  subst q86x22
                  refine g_if_le 28 32 (gd rfl) rfl rfl (fun c86x25 => ?_) (fun c86x25 => ?_)
                  · skip
                    exact zn_le c86x25 (in_c 1 rfl) rfl
                  · skip
                    refine g_iconst 1 29 (gd rfl) rfl rfl ?_
                    refine g_goto 33 (gd rfl) rfl ?_
                    refine g_ireturn (gd rfl) rfl (nb01 (in_w 0 1 (in_c 1 rfl) rfl)) (hp86 _ _ ?_)
                    show GG _ _ _ _ _ _ _ _ [.int (Int32.ofInt 1)] _ _ _
                    refine g_if_eq 92 94 (gd rfl) rfl rfl (fun c89 => ?_) (fun c89 => ?_)
                    · skip
                      exact zn_eq c89 (in_c 1 rfl) rfl
                    · skip
                      refine g_iconst 0 93 (gd rfl) rfl rfl ?_
                      have n93 : CDR s (sF s 109 0 (Int32.ofInt 1)) (HAR s x1 ∧ GVL x2 x3) ((s.2.2.1 109 9).toInt ≤ 3999) (((Int32.ofInt 0)) = (if (x2).toInt = 0 then s.1 115 (x1).toNatClampNeg else if (x2).toInt = 1 then s.1 116 (x1).toNatClampNeg else s.1 117 (x1).toNatClampNeg) ∧ gvR (sF s 109 0 (Int32.ofInt 1)) = gqW (gvR s) (x1).toNatClampNeg x2 x3) := by first | exact Or.inl ⟨rfl, (by first | (unfold HAR GVL In; have a0 := oa6 i5x8x10b i1 ((inv_F hI 0 2 rfl e_109_0)) i78 ((in_c 1 rfl)) i55x8; have a6 := tx_i2l e5x1; have oc := oc_284_109; omega) | (unfold HAR GVL In; rw [← e55x16]; have a0 := oa6 i5x8x10b i1 ((inv_F hI 0 2 rfl e_109_0)) i78 ((in_c 1 rfl)) i55x8; have a6 := tx_i2l e5x1; have oc := oc_284_109; omega)), (gvR_cg (L := ([], [], [(109, 0)], [])) (fr_sF rfl fr_rf) rfl)⟩ | exact Or.inr (Or.inl ⟨rfl, ⟨⟨by have a0 := oa6 i5x8x10b i1 ((inv_F hI 0 2 rfl e_109_0)) i78 ((in_c 1 rfl)) i55x8; have a6 := tx_i2l e5x1; have oc := oc_284_109; omega, by have a0 := oa6 i5x8x10b i1 ((inv_F hI 0 2 rfl e_109_0)) i78 ((in_c 1 rfl)) i55x8; have a6 := tx_i2l e5x1; have oc := oc_284_109; omega, by rw [← e55x16]; have a0 := oa6 i5x8x10b i1 ((inv_F hI 0 2 rfl e_109_0)) i78 ((in_c 1 rfl)) i55x8; have a6 := tx_i2l e5x1; have oc := oc_284_109; omega⟩, (by unfold GVL In; have a0 := oa6 i5x8x10b i1 ((inv_F hI 0 2 rfl e_109_0)) i78 ((in_c 1 rfl)) i55x8; have a6 := tx_i2l e5x1; have oc := oc_284_109; omega)⟩, (by rw [← e_109_9]; have a0 := oa6 i5x8x10b i1 ((inv_F hI 0 2 rfl e_109_0)) i78 ((in_c 1 rfl)) i55x8; have a6 := tx_i2l e5x1; have oc := oc_284_109; omega), (gvR_cg (L := ([], [], [(109, 0)], [])) (fr_sF rfl fr_rf) rfl)⟩)
                      have n93a : LGX s (sF s 109 0 (Int32.ofInt 1)) (Int32.ofInt 3) x1 x2 x3 (Int32.ofInt 0) (Int32.ofInt 0) (Int32.ofInt 0) := by exact Or.inl ⟨rfl, rfl, rfl, rfl, rfl, rfl, rfl, rfl⟩
                      have n93b : GSE s → GSE (sF s 109 0 (Int32.ofInt 1)) := by exact fun h => gse_fr (L := ([], [], [(109, 0)], [])) h (fr_sF rfl fr_rf) rfl
                      have n93c : G1S s (sF s 109 0 (Int32.ofInt 1)) := by exact ⟨rfl, fun _ _ => rfl, fun _ _ _ => ⟨rfl, rfl, rfl, rfl, rfl, rfl⟩⟩
                      exact g_ireturn (gd rfl) rfl rfl (hP _ _ ⟨(sF s 109 0 (Int32.ofInt 1)), hI86x18, (fr_sF rfl fr_rf), (Int32.ofInt 0), rfl, rfl, in_w (-1000000) 1000000 (in_c 0 rfl) rfl, n93, n93a, n93b, n93c⟩)
            · skip
              exact zn_ne c58 (in_c 0 rfl) rfl
          · skip
            have i55x8 := r_lt1 0 159 c55x8 i55x1 (in_c 160 rfl) rfl
            refine g_aload_n 12 (gd rfl) rfl rfl ?_
            refine g_getA (q2 := 112) 15 (gd rfl) rfl rfl rfl rfl ?_
            refine g_iload_n 16 (gd rfl) rfl rfl ?_
            refine g_baload 17 (gd rfl) rfl (n := 480) rfl (in_ix i55x8 rfl) (fun z55x16 e55x16 => ?_)
            have i55x16 := inv_I hI (n := 480) (t := 3) 0 1 rfl (in_ix i55x8 rfl) rfl e55x16
            refine g_if_eq 20 24 (gd rfl) rfl rfl (fun c55x17 => ?_) (fun c55x17 => ?_)
            · skip
              have i55x17 := z_eq 0 0 c55x17 i55x16 rfl
              refine g_iconst 0 25 (gd rfl) rfl rfl ?_
              refine g_ireturn (gd rfl) rfl (nb01 (in_w 0 1 (in_c 0 rfl) rfl)) (hp55 _ _ ?_)
              show GG _ _ _ _ _ _ _ _ [.int (Int32.ofInt 0), .ref (A 109)] _ _ _
              refine g_if_eq 61 70 (gd rfl) rfl rfl (fun c58 => ?_) (fun c58 => ?_)
              · skip
                refine g_iconst 0 71 (gd rfl) rfl rfl ?_
                refine g_aload_n 72 (gd rfl) rfl rfl ?_
                refine g_getI 75 (gd rfl) rfl rfl rfl (fun z72 e72 => ?_)
                have q72 : u_109_9 = z72 := (e_109_9).trans e72.symm
                subst q72
                refine g_sipush 4000 78 (gd rfl) rfl rfl ?_
                refine g_cmp_ge 81 85 (gd rfl) rfl rfl (fun c78 => ?_) (fun c78 => ?_)
                · skip
                  have i78 := r_le2 4000 4000 c78 (in_c 4000 rfl) (inv_F hI 0 4000 rfl e_109_9) rfl
                  refine g_iconst 0 86 (gd rfl) rfl rfl ?_
                  refine g_callv (X := _) (As := [.int (Int32.ofInt 0), .int (Int32.ofInt 0)]) (r := []) (b := A 109) (q := 109) 89 (gd rfl) rfl rfl rfl rfl rfl (ww_o rfl) (Nat.le_of_ble_eq_true rfl) (mc := 0) (ms := 0) (Nat.zero_le _) (Nat.zero_le _) (P := fun v u => _) ?_ (fun e u h => h) (fun v u h => h)
                  intro po86 xx86 hp86 hx86
                  refine g_enter2 (k := 270) (N := 300) (by first | exact dq1 hd rfl | exact dq0 hd rfl | exact dq2 hd rfl | exact dq3 hd rfl | omega) rfl (Nat.le_of_ble_eq_true rfl) ?_
                  refine g_aload_n 1 (gd rfl) rfl rfl ?_
                  refine g_iload_n 2 (gd rfl) rfl rfl ?_
                  refine g_if_ne 5 9 (gd rfl) rfl rfl (fun c86x2 => ?_) (fun c86x2 => ?_)
                  · skip
                    exact zn_ne c86x2 (in_c 0 rfl) rfl
                  · skip
                    refine g_iconst 1 6 (gd rfl) rfl rfl ?_
                    refine g_goto 18 (gd rfl) rfl ?_
                    refine g_putI 21 (gd rfl) rfl rfl rfl rfl ?_
                    have hI86x18 := inv_sF (q := 109) (j := 0) hI rfl (in_w 0 2 (in_c 1 rfl) rfl)
                    refine g_aload_n 22 (gd rfl) rfl rfl ?_
                    refine g_getI 25 (gd rfl) rfl rfl rfl (fun z86x22 e86x22 => ?_)
                    have q86x22 : (Int32.ofInt 1) = z86x22 := (sF_get).trans e86x22.symm
                    subst q86x22
                    refine g_if_le 28 32 (gd rfl) rfl rfl (fun c86x25 => ?_) (fun c86x25 => ?_)
                    · skip
                      exact zn_le c86x25 (in_c 1 rfl) rfl
                    · skip
                      refine g_iconst 1 29 (gd rfl) rfl rfl ?_
                      refine g_goto 33 (gd rfl) rfl ?_
                      refine g_ireturn (gd rfl) rfl (nb01 (in_w 0 1 (in_c 1 rfl) rfl)) (hp86 _ _ ?_)
                      show GG _ _ _ _ _ _ _ _ [.int (Int32.ofInt 1)] _ _ _
                      refine g_if_eq 92 94 (gd rfl) rfl rfl (fun c89 => ?_) (fun c89 => ?_)
                      · skip
                        exact zn_eq c89 (in_c 1 rfl) rfl
                      · skip
                        refine g_iconst 0 93 (gd rfl) rfl rfl ?_
                        have n93 : CDR s (sF s 109 0 (Int32.ofInt 1)) (HAR s x1 ∧ GVL x2 x3) ((s.2.2.1 109 9).toInt ≤ 3999) (((Int32.ofInt 0)) = (if (x2).toInt = 0 then s.1 115 (x1).toNatClampNeg else if (x2).toInt = 1 then s.1 116 (x1).toNatClampNeg else s.1 117 (x1).toNatClampNeg) ∧ gvR (sF s 109 0 (Int32.ofInt 1)) = gqW (gvR s) (x1).toNatClampNeg x2 x3) := by first | exact Or.inl ⟨rfl, (by first | (unfold HAR GVL In; have a0 := oa6 i55x8 i5x8x10b i1 ((inv_F hI 0 2 rfl e_109_0)) i78 ((in_c 1 rfl)); have a6 := tx_i2l e5x1; have oc := oc_284_109; omega) | (unfold HAR GVL In; rw [← e55x16]; have a0 := oa6 i55x8 i5x8x10b i1 ((inv_F hI 0 2 rfl e_109_0)) i78 ((in_c 1 rfl)); have a6 := tx_i2l e5x1; have oc := oc_284_109; omega)), (gvR_cg (L := ([], [], [(109, 0)], [])) (fr_sF rfl fr_rf) rfl)⟩ | exact Or.inr (Or.inl ⟨rfl, ⟨⟨by have a0 := oa6 i55x8 i5x8x10b i1 ((inv_F hI 0 2 rfl e_109_0)) i78 ((in_c 1 rfl)); have a6 := tx_i2l e5x1; have oc := oc_284_109; omega, by have a0 := oa6 i55x8 i5x8x10b i1 ((inv_F hI 0 2 rfl e_109_0)) i78 ((in_c 1 rfl)); have a6 := tx_i2l e5x1; have oc := oc_284_109; omega, by rw [← e55x16]; have a0 := oa6 i55x8 i5x8x10b i1 ((inv_F hI 0 2 rfl e_109_0)) i78 ((in_c 1 rfl)); have a6 := tx_i2l e5x1; have oc := oc_284_109; omega⟩, (by unfold GVL In; have a0 := oa6 i55x8 i5x8x10b i1 ((inv_F hI 0 2 rfl e_109_0)) i78 ((in_c 1 rfl)); have a6 := tx_i2l e5x1; have oc := oc_284_109; omega)⟩, (by rw [← e_109_9]; have a0 := oa6 i55x8 i5x8x10b i1 ((inv_F hI 0 2 rfl e_109_0)) i78 ((in_c 1 rfl)); have a6 := tx_i2l e5x1; have oc := oc_284_109; omega), (gvR_cg (L := ([], [], [(109, 0)], [])) (fr_sF rfl fr_rf) rfl)⟩)
                        have n93a : LGX s (sF s 109 0 (Int32.ofInt 1)) (Int32.ofInt 3) x1 x2 x3 (Int32.ofInt 0) (Int32.ofInt 0) (Int32.ofInt 0) := by exact Or.inl ⟨rfl, rfl, rfl, rfl, rfl, rfl, rfl, rfl⟩
                        have n93b : GSE s → GSE (sF s 109 0 (Int32.ofInt 1)) := by exact fun h => gse_fr (L := ([], [], [(109, 0)], [])) h (fr_sF rfl fr_rf) rfl
                        have n93c : G1S s (sF s 109 0 (Int32.ofInt 1)) := by exact ⟨rfl, fun _ _ => rfl, fun _ _ _ => ⟨rfl, rfl, rfl, rfl, rfl, rfl⟩⟩
                        exact g_ireturn (gd rfl) rfl rfl (hP _ _ ⟨(sF s 109 0 (Int32.ofInt 1)), hI86x18, (fr_sF rfl fr_rf), (Int32.ofInt 0), rfl, rfl, in_w (-1000000) 1000000 (in_c 0 rfl) rfl, n93, n93a, n93b, n93c⟩)
                · skip
                  have i78 := r_lt1 0 3999 c78 (inv_F hI 0 4000 rfl e_109_9) (in_c 4000 rfl) rfl
                  refine g_iconst 1 82 (gd rfl) rfl rfl ?_
                  refine g_goto 86 (gd rfl) rfl ?_
                  refine g_callv (X := _) (As := [.int (Int32.ofInt 0), .int (Int32.ofInt 1)]) (r := []) (b := A 109) (q := 109) 89 (gd rfl) rfl rfl rfl rfl rfl (ww_o rfl) (Nat.le_of_ble_eq_true rfl) (mc := 0) (ms := 0) (Nat.zero_le _) (Nat.zero_le _) (P := fun v u => _) ?_ (fun e u h => h) (fun v u h => h)
                  intro po86 xx86 hp86 hx86
                  refine g_enter2 (k := 270) (N := 300) (by first | exact dq1 hd rfl | exact dq0 hd rfl | exact dq2 hd rfl | exact dq3 hd rfl | omega) rfl (Nat.le_of_ble_eq_true rfl) ?_
                  refine g_aload_n 1 (gd rfl) rfl rfl ?_
                  refine g_iload_n 2 (gd rfl) rfl rfl ?_
                  refine g_if_ne 5 9 (gd rfl) rfl rfl (fun c86x2 => ?_) (fun c86x2 => ?_)
                  · skip
                    exact zn_ne c86x2 (in_c 0 rfl) rfl
                  · skip
                    refine g_iconst 1 6 (gd rfl) rfl rfl ?_
                    refine g_goto 18 (gd rfl) rfl ?_
                    refine g_putI 21 (gd rfl) rfl rfl rfl rfl ?_
                    have hI86x18 := inv_sF (q := 109) (j := 0) hI rfl (in_w 0 2 (in_c 1 rfl) rfl)
                    refine g_aload_n 22 (gd rfl) rfl rfl ?_
                    refine g_getI 25 (gd rfl) rfl rfl rfl (fun z86x22 e86x22 => ?_)
                    have q86x22 : (Int32.ofInt 1) = z86x22 := (sF_get).trans e86x22.symm
                    subst q86x22
                    refine g_if_le 28 32 (gd rfl) rfl rfl (fun c86x25 => ?_) (fun c86x25 => ?_)
                    · skip
                      exact zn_le c86x25 (in_c 1 rfl) rfl
                    · skip
                      refine g_iconst 1 29 (gd rfl) rfl rfl ?_
                      refine g_goto 33 (gd rfl) rfl ?_
                      refine g_ireturn (gd rfl) rfl (nb01 (in_w 0 1 (in_c 1 rfl) rfl)) (hp86 _ _ ?_)
                      show GG _ _ _ _ _ _ _ _ [.int (Int32.ofInt 1)] _ _ _
                      refine g_if_eq 92 94 (gd rfl) rfl rfl (fun c89 => ?_) (fun c89 => ?_)
                      · skip
                        exact zn_eq c89 (in_c 1 rfl) rfl
                      · skip
                        refine g_iconst 0 93 (gd rfl) rfl rfl ?_
                        have n93 : CDR s (sF s 109 0 (Int32.ofInt 1)) (HAR s x1 ∧ GVL x2 x3) ((s.2.2.1 109 9).toInt ≤ 3999) (((Int32.ofInt 0)) = (if (x2).toInt = 0 then s.1 115 (x1).toNatClampNeg else if (x2).toInt = 1 then s.1 116 (x1).toNatClampNeg else s.1 117 (x1).toNatClampNeg) ∧ gvR (sF s 109 0 (Int32.ofInt 1)) = gqW (gvR s) (x1).toNatClampNeg x2 x3) := by first | exact Or.inl ⟨rfl, (by first | (unfold HAR GVL In; have a0 := oa6 i55x8 i5x8x10b i1 ((inv_F hI 0 2 rfl e_109_0)) i78 ((in_c 1 rfl)); have a6 := tx_i2l e5x1; have oc := oc_284_109; omega) | (unfold HAR GVL In; rw [← e55x16]; have a0 := oa6 i55x8 i5x8x10b i1 ((inv_F hI 0 2 rfl e_109_0)) i78 ((in_c 1 rfl)); have a6 := tx_i2l e5x1; have oc := oc_284_109; omega)), (gvR_cg (L := ([], [], [(109, 0)], [])) (fr_sF rfl fr_rf) rfl)⟩ | exact Or.inr (Or.inl ⟨rfl, ⟨⟨by have a0 := oa6 i55x8 i5x8x10b i1 ((inv_F hI 0 2 rfl e_109_0)) i78 ((in_c 1 rfl)); have a6 := tx_i2l e5x1; have oc := oc_284_109; omega, by have a0 := oa6 i55x8 i5x8x10b i1 ((inv_F hI 0 2 rfl e_109_0)) i78 ((in_c 1 rfl)); have a6 := tx_i2l e5x1; have oc := oc_284_109; omega, by rw [← e55x16]; have a0 := oa6 i55x8 i5x8x10b i1 ((inv_F hI 0 2 rfl e_109_0)) i78 ((in_c 1 rfl)); have a6 := tx_i2l e5x1; have oc := oc_284_109; omega⟩, (by unfold GVL In; have a0 := oa6 i55x8 i5x8x10b i1 ((inv_F hI 0 2 rfl e_109_0)) i78 ((in_c 1 rfl)); have a6 := tx_i2l e5x1; have oc := oc_284_109; omega)⟩, (by rw [← e_109_9]; have a0 := oa6 i55x8 i5x8x10b i1 ((inv_F hI 0 2 rfl e_109_0)) i78 ((in_c 1 rfl)); have a6 := tx_i2l e5x1; have oc := oc_284_109; omega), (gvR_cg (L := ([], [], [(109, 0)], [])) (fr_sF rfl fr_rf) rfl)⟩)
                        have n93a : LGX s (sF s 109 0 (Int32.ofInt 1)) (Int32.ofInt 3) x1 x2 x3 (Int32.ofInt 0) (Int32.ofInt 0) (Int32.ofInt 0) := by exact Or.inl ⟨rfl, rfl, rfl, rfl, rfl, rfl, rfl, rfl⟩
                        have n93b : GSE s → GSE (sF s 109 0 (Int32.ofInt 1)) := by exact fun h => gse_fr (L := ([], [], [(109, 0)], [])) h (fr_sF rfl fr_rf) rfl
                        have n93c : G1S s (sF s 109 0 (Int32.ofInt 1)) := by exact ⟨rfl, fun _ _ => rfl, fun _ _ _ => ⟨rfl, rfl, rfl, rfl, rfl, rfl⟩⟩
                        exact g_ireturn (gd rfl) rfl rfl (hP _ _ ⟨(sF s 109 0 (Int32.ofInt 1)), hI86x18, (fr_sF rfl fr_rf), (Int32.ofInt 0), rfl, rfl, in_w (-1000000) 1000000 (in_c 0 rfl) rfl, n93, n93a, n93b, n93c⟩)
              · skip
                exact zn_ne c58 (in_c 0 rfl) rfl
            · skip
              have i55x17 := z_ne 1 1 c55x17 i55x16 rfl
              refine g_iconst 1 21 (gd rfl) rfl rfl ?_
              refine g_goto 25 (gd rfl) rfl ?_
              refine g_ireturn (gd rfl) rfl (nb01 (in_w 0 1 (in_c 1 rfl) rfl)) (hp55 _ _ ?_)
              show GG _ _ _ _ _ _ _ _ [.int (Int32.ofInt 1), .ref (A 109)] _ _ _
              refine g_if_eq 61 70 (gd rfl) rfl rfl (fun c58 => ?_) (fun c58 => ?_)
              · skip
                exact zn_eq c58 (in_c 1 rfl) rfl
              · skip
                refine g_iload 63 (gd rfl) rfl rfl ?_
                refine g_if_eq 66 70 (gd rfl) rfl rfl (fun c63 => ?_) (fun c63 => ?_)
                · skip
                  exact zn_eq c63 (in_c 1 rfl) rfl
                · skip
                  refine g_iconst 1 67 (gd rfl) rfl rfl ?_
                  refine g_goto 71 (gd rfl) rfl ?_
                  refine g_aload_n 72 (gd rfl) rfl rfl ?_
                  refine g_getI 75 (gd rfl) rfl rfl rfl (fun z72 e72 => ?_)
                  have q72 : u_109_9 = z72 := (e_109_9).trans e72.symm
                  subst q72
                  refine g_sipush 4000 78 (gd rfl) rfl rfl ?_
                  refine g_cmp_ge 81 85 (gd rfl) rfl rfl (fun c78 => ?_) (fun c78 => ?_)
                  · skip
                    have i78 := r_le2 4000 4000 c78 (in_c 4000 rfl) (inv_F hI 0 4000 rfl e_109_9) rfl
                    refine g_iconst 0 86 (gd rfl) rfl rfl ?_
                    refine g_callv (X := _) (As := [.int (Int32.ofInt 1), .int (Int32.ofInt 0)]) (r := []) (b := A 109) (q := 109) 89 (gd rfl) rfl rfl rfl rfl rfl (ww_o rfl) (Nat.le_of_ble_eq_true rfl) (mc := 0) (ms := 0) (Nat.zero_le _) (Nat.zero_le _) (P := fun v u => _) ?_ (fun e u h => h) (fun v u h => h)
                    intro po86 xx86 hp86 hx86
                    refine g_enter2 (k := 270) (N := 300) (by first | exact dq1 hd rfl | exact dq0 hd rfl | exact dq2 hd rfl | exact dq3 hd rfl | omega) rfl (Nat.le_of_ble_eq_true rfl) ?_
                    refine g_aload_n 1 (gd rfl) rfl rfl ?_
                    refine g_iload_n 2 (gd rfl) rfl rfl ?_
                    refine g_if_ne 5 9 (gd rfl) rfl rfl (fun c86x2 => ?_) (fun c86x2 => ?_)
                    · skip
                      refine g_iload_n 10 (gd rfl) rfl rfl ?_
                      refine g_if_ne 13 17 (gd rfl) rfl rfl (fun c86x10 => ?_) (fun c86x10 => ?_)
                      · skip
                        exact zn_ne c86x10 (in_c 0 rfl) rfl
                      · skip
                        refine g_iconst 2 14 (gd rfl) rfl rfl ?_
                        refine g_goto 18 (gd rfl) rfl ?_
                        refine g_putI 21 (gd rfl) rfl rfl rfl rfl ?_
                        have hI86x18 := inv_sF (q := 109) (j := 0) hI rfl (in_w 0 2 (in_c 2 rfl) rfl)
                        refine g_aload_n 22 (gd rfl) rfl rfl ?_
                        refine g_getI 25 (gd rfl) rfl rfl rfl (fun z86x22 e86x22 => ?_)
                        have q86x22 : (Int32.ofInt 2) = z86x22 := (sF_get).trans e86x22.symm
                        subst q86x22
                        refine g_if_le 28 32 (gd rfl) rfl rfl (fun c86x25 => ?_) (fun c86x25 => ?_)
                        · skip
                          exact zn_le c86x25 (in_c 2 rfl) rfl
                        · skip
                          refine g_iconst 1 29 (gd rfl) rfl rfl ?_
                          refine g_goto 33 (gd rfl) rfl ?_
                          refine g_ireturn (gd rfl) rfl (nb01 (in_w 0 1 (in_c 1 rfl) rfl)) (hp86 _ _ ?_)
                          show GG _ _ _ _ _ _ _ _ [.int (Int32.ofInt 1)] _ _ _
                          refine g_if_eq 92 94 (gd rfl) rfl rfl (fun c89 => ?_) (fun c89 => ?_)
                          · skip
                            exact zn_eq c89 (in_c 1 rfl) rfl
                          · skip
                            refine g_iconst 0 93 (gd rfl) rfl rfl ?_
                            have n93 : CDR s (sF s 109 0 (Int32.ofInt 2)) (HAR s x1 ∧ GVL x2 x3) ((s.2.2.1 109 9).toInt ≤ 3999) (((Int32.ofInt 0)) = (if (x2).toInt = 0 then s.1 115 (x1).toNatClampNeg else if (x2).toInt = 1 then s.1 116 (x1).toNatClampNeg else s.1 117 (x1).toNatClampNeg) ∧ gvR (sF s 109 0 (Int32.ofInt 2)) = gqW (gvR s) (x1).toNatClampNeg x2 x3) := by first | exact Or.inl ⟨rfl, (by first | (unfold HAR GVL In; have a0 := oa7 i55x8 i5x8x10b i1 ((inv_F hI 0 2 rfl e_109_0)) i78 ((in_c 1 rfl)) ((in_c 2 rfl)); have a7 := tx_i2l e5x1; have oc := oc_284_109; omega) | (unfold HAR GVL In; rw [← e55x16]; have a0 := oa7 i55x8 i5x8x10b i1 ((inv_F hI 0 2 rfl e_109_0)) i78 ((in_c 1 rfl)) ((in_c 2 rfl)); have a7 := tx_i2l e5x1; have oc := oc_284_109; omega)), (gvR_cg (L := ([], [], [(109, 0)], [])) (fr_sF rfl fr_rf) rfl)⟩ | exact Or.inr (Or.inl ⟨rfl, ⟨⟨by have a0 := oa7 i55x8 i5x8x10b i1 ((inv_F hI 0 2 rfl e_109_0)) i78 ((in_c 1 rfl)) ((in_c 2 rfl)); have a7 := tx_i2l e5x1; have oc := oc_284_109; omega, by have a0 := oa7 i55x8 i5x8x10b i1 ((inv_F hI 0 2 rfl e_109_0)) i78 ((in_c 1 rfl)) ((in_c 2 rfl)); have a7 := tx_i2l e5x1; have oc := oc_284_109; omega, by rw [← e55x16]; have a0 := oa7 i55x8 i5x8x10b i1 ((inv_F hI 0 2 rfl e_109_0)) i78 ((in_c 1 rfl)) ((in_c 2 rfl)); have a7 := tx_i2l e5x1; have oc := oc_284_109; omega⟩, (by unfold GVL In; have a0 := oa7 i55x8 i5x8x10b i1 ((inv_F hI 0 2 rfl e_109_0)) i78 ((in_c 1 rfl)) ((in_c 2 rfl)); have a7 := tx_i2l e5x1; have oc := oc_284_109; omega)⟩, (by rw [← e_109_9]; have a0 := oa7 i55x8 i5x8x10b i1 ((inv_F hI 0 2 rfl e_109_0)) i78 ((in_c 1 rfl)) ((in_c 2 rfl)); have a7 := tx_i2l e5x1; have oc := oc_284_109; omega), (gvR_cg (L := ([], [], [(109, 0)], [])) (fr_sF rfl fr_rf) rfl)⟩)
                            have n93a : LGX s (sF s 109 0 (Int32.ofInt 2)) (Int32.ofInt 3) x1 x2 x3 (Int32.ofInt 0) (Int32.ofInt 0) (Int32.ofInt 0) := by exact Or.inl ⟨rfl, rfl, rfl, rfl, rfl, rfl, rfl, rfl⟩
                            have n93b : GSE s → GSE (sF s 109 0 (Int32.ofInt 2)) := by exact fun h => gse_fr (L := ([], [], [(109, 0)], [])) h (fr_sF rfl fr_rf) rfl
                            have n93c : G1S s (sF s 109 0 (Int32.ofInt 2)) := by exact ⟨rfl, fun _ _ => rfl, fun _ _ _ => ⟨rfl, rfl, rfl, rfl, rfl, rfl⟩⟩
                            exact g_ireturn (gd rfl) rfl rfl (hP _ _ ⟨(sF s 109 0 (Int32.ofInt 2)), hI86x18, (fr_sF rfl fr_rf), (Int32.ofInt 0), rfl, rfl, in_w (-1000000) 1000000 (in_c 0 rfl) rfl, n93, n93a, n93b, n93c⟩)
                    · skip
                      exact zn_eq c86x2 (in_c 1 rfl) rfl
                  · skip
                    have i78 := r_lt1 0 3999 c78 (inv_F hI 0 4000 rfl e_109_9) (in_c 4000 rfl) rfl
                    refine g_iconst 1 82 (gd rfl) rfl rfl ?_
                    refine g_goto 86 (gd rfl) rfl ?_
                    refine g_callv (X := _) (As := [.int (Int32.ofInt 1), .int (Int32.ofInt 1)]) (r := []) (b := A 109) (q := 109) 89 (gd rfl) rfl rfl rfl rfl rfl (ww_o rfl) (Nat.le_of_ble_eq_true rfl) (mc := 0) (ms := 0) (Nat.zero_le _) (Nat.zero_le _) (P := fun v u => _) ?_ (fun e u h => h) (fun v u h => h)
                    intro po86 xx86 hp86 hx86
                    refine g_enter2 (k := 270) (N := 300) (by first | exact dq1 hd rfl | exact dq0 hd rfl | exact dq2 hd rfl | exact dq3 hd rfl | omega) rfl (Nat.le_of_ble_eq_true rfl) ?_
                    refine g_aload_n 1 (gd rfl) rfl rfl ?_
                    refine g_iload_n 2 (gd rfl) rfl rfl ?_
                    refine g_if_ne 5 9 (gd rfl) rfl rfl (fun c86x2 => ?_) (fun c86x2 => ?_)
                    · skip
                      refine g_iload_n 10 (gd rfl) rfl rfl ?_
                      refine g_if_ne 13 17 (gd rfl) rfl rfl (fun c86x10 => ?_) (fun c86x10 => ?_)
                      · skip
                        refine g_iconst 0 18 (gd rfl) rfl rfl ?_
                        refine g_putI 21 (gd rfl) rfl rfl rfl rfl ?_
                        have hI86x18 := inv_sF (q := 109) (j := 0) hI rfl (in_w 0 2 (in_c 0 rfl) rfl)
                        refine g_aload_n 22 (gd rfl) rfl rfl ?_
                        refine g_getI 25 (gd rfl) rfl rfl rfl (fun z86x22 e86x22 => ?_)
                        have q86x22 : (Int32.ofInt 0) = z86x22 := (sF_get).trans e86x22.symm
                        subst q86x22
                        refine g_if_le 28 32 (gd rfl) rfl rfl (fun c86x25 => ?_) (fun c86x25 => ?_)
                        · skip
                          refine g_iconst 0 33 (gd rfl) rfl rfl ?_
                          refine g_ireturn (gd rfl) rfl (nb01 (in_w 0 1 (in_c 0 rfl) rfl)) (hp86 _ _ ?_)
                          show GG _ _ _ _ _ _ _ _ [.int (Int32.ofInt 0)] _ _ _
                          refine g_if_eq 92 94 (gd rfl) rfl rfl (fun c89 => ?_) (fun c89 => ?_)
                          · skip
                            refine g_iload_n 95 (gd rfl) rfl rfl ?_
                            refine g_if_ne 98 107 (gd rfl) rfl rfl (fun c95 => ?_) (fun c95 => ?_)
                            · skip
                              exact zn_ne c95 i1 rfl
                            · skip
                              refine g_aload_n 99 (gd rfl) rfl rfl ?_
                              refine g_getA (q2 := 115) 102 (gd rfl) rfl rfl rfl rfl ?_
                              refine g_iload_n 103 (gd rfl) rfl rfl ?_
                              refine g_iaload 104 (gd rfl) rfl (n := 480) rfl (in_ix i55x8 rfl) (fun z103 e103 => ?_)
                              have i103 := inv_I hI86x18 (n := 480) (t := 0) (-1000000) 1000000 rfl (in_ix i55x8 rfl) rfl e103
                              refine g_goto 127 (gd rfl) rfl ?_
                              refine g_istore 129 (gd rfl) rfl (Nat.le_of_ble_eq_true rfl) ?_
                              refine g_aload_n 130 (gd rfl) rfl rfl ?_
                              refine g_iconst 3 131 (gd rfl) rfl rfl ?_
                              refine g_iload_n 132 (gd rfl) rfl rfl ?_
                              refine g_iload_n 133 (gd rfl) rfl rfl ?_
                              refine g_iload_n 134 (gd rfl) rfl rfl ?_
                              refine g_iconst 0 135 (gd rfl) rfl rfl ?_
                              refine g_iconst 0 136 (gd rfl) rfl rfl ?_
                              refine g_iconst 0 137 (gd rfl) rfl rfl ?_
                              have v137 : u_109_9 = (sF s 109 0 (Int32.ofInt 0)).2.2.1 109 9 := sF_ne rfl (e_109_9)
                              have p137 : MK (sF s 109 0 (Int32.ofInt 0)) (Int32.ofInt 3) x1 x2 x3 := by refine ⟨fun h => absurd h (by decide), fun h => absurd h (by decide), fun _ hb => ?_, fun _ hb hc => ?_, fun h => absurd h (by decide)⟩; (have a0 := oa8 i55x8 i5x8x10b i1 ((inv_F hI 0 2 rfl e_109_0)) i78 i103 ((in_c 1 rfl)) ((in_c 0 rfl)); have a8 := tx_i2l e5x1; have oc := oc_284_109; omega); (have a0 := oa8 i55x8 i5x8x10b i1 ((inv_F hI 0 2 rfl e_109_0)) i78 i103 ((in_c 1 rfl)) ((in_c 0 rfl)); have a8 := tx_i2l e5x1; have oc := oc_284_109; omega)
                              refine g_callv (X := _) (As := [.int (Int32.ofInt 3), .int x1, .int x2, .int x3, .int (Int32.ofInt 0), .int (Int32.ofInt 0), .int (Int32.ofInt 0)]) (r := []) (b := A 109) (q := 109) 140 (gd rfl) rfl rfl rfl rfl rfl (ww_o rfl) (Nat.le_of_ble_eq_true rfl) (Nat.zero_le _) (Nat.zero_le _) (f_274 (by first | exact dq1 hd rfl | exact dq0 hd rfl | exact dq2 hd rfl | exact dq3 hd rfl | omega) hI86x18 (in_w 0 4 (in_c 3 rfl) rfl) (in_w 0 159 i55x8 rfl) (in_w 0 31 i1 rfl) (in_w (-1000000) 1000000 i5x8x10b rfl) (in_w (-1000000) 1000000 (in_c 0 rfl) rfl) (in_w 0 1000000 (in_c 0 rfl) rfl) (in_w 0 25 (in_c 0 rfl) rfl) v137 (in_w 0 3999 i78 rfl) p137) (fun e u h => h) (fun v u h => ?_)
                              obtain ⟨s137, hI137, hF137, n137, rfl, rfl, p137a, p137b, p137c, p137d, p137e⟩ := h
                              obtain ⟨z137a, e137⟩ : ∃ w, w = s137.2.2.1 109 9 := ⟨_, rfl⟩
                              have i137a := inv_F hI137 0 4000 rfl e137
                              rw [← (show u_109_9 = (sF s 109 0 (Int32.ofInt 0)).2.2.1 109 9 from sF_ne rfl (e_109_9))] at n137
                              rw [← (show z137a = s137.2.2.1 109 9 from e137)] at n137
                              show GG _ _ _ _ _ _ _ _ [] _ _ _
                              refine g_iload 142 (gd rfl) rfl rfl ?_
                              have n142 : CDR s s137 (HAR s x1 ∧ GVL x2 x3) ((s.2.2.1 109 9).toInt ≤ 3999) ((z103) = (if (x2).toInt = 0 then s.1 115 (x1).toNatClampNeg else if (x2).toInt = 1 then s.1 116 (x1).toNatClampNeg else s.1 117 (x1).toNatClampNeg) ∧ gvR s137 = gqW (gvR s) (x1).toNatClampNeg x2 x3) := by exact Or.inr (Or.inr ⟨(by have hc9 : s137.2.2.1 109 0 = Int32.ofInt 0 := (hF137.2.2.1 109 0 rfl).trans rfl; rw [hc9]; rfl), ⟨⟨by have a0 := oa9 i55x8 i5x8x10b i1 ((inv_F hI 0 2 rfl e_109_0)) i78 i103 ((in_c 1 rfl)) i137a ((in_c 0 rfl)); have a9 := tx_i2l e5x1; have oc := oc_284_109; omega, by have a0 := oa9 i55x8 i5x8x10b i1 ((inv_F hI 0 2 rfl e_109_0)) i78 i103 ((in_c 1 rfl)) i137a ((in_c 0 rfl)); have a9 := tx_i2l e5x1; have oc := oc_284_109; omega, by rw [← e55x16]; have a0 := oa9 i55x8 i5x8x10b i1 ((inv_F hI 0 2 rfl e_109_0)) i78 i103 ((in_c 1 rfl)) i137a ((in_c 0 rfl)); have a9 := tx_i2l e5x1; have oc := oc_284_109; omega⟩, (by unfold GVL In; have a0 := oa9 i55x8 i5x8x10b i1 ((inv_F hI 0 2 rfl e_109_0)) i78 i103 ((in_c 1 rfl)) i137a ((in_c 0 rfl)); have a9 := tx_i2l e5x1; have oc := oc_284_109; omega)⟩, (by rw [← e_109_9]; have a0 := oa9 i55x8 i5x8x10b i1 ((inv_F hI 0 2 rfl e_109_0)) i78 i103 ((in_c 1 rfl)) i137a ((in_c 0 rfl)); have a9 := tx_i2l e5x1; have oc := oc_284_109; omega), (by first | (rw [if_pos (by have a0 := oa9 i55x8 i5x8x10b i1 ((inv_F hI 0 2 rfl e_109_0)) i78 i103 ((in_c 1 rfl)) i137a ((in_c 0 rfl)); have a9 := tx_i2l e5x1; have oc := oc_284_109; omega)]; exact e103) | (rw [if_neg (by have a0 := oa9 i55x8 i5x8x10b i1 ((inv_F hI 0 2 rfl e_109_0)) i78 i103 ((in_c 1 rfl)) i137a ((in_c 0 rfl)); have a9 := tx_i2l e5x1; have oc := oc_284_109; omega), if_pos (by have a0 := oa9 i55x8 i5x8x10b i1 ((inv_F hI 0 2 rfl e_109_0)) i78 i103 ((in_c 1 rfl)) i137a ((in_c 0 rfl)); have a9 := tx_i2l e5x1; have oc := oc_284_109; omega)]; exact e117) | (rw [if_neg (by have a0 := oa9 i55x8 i5x8x10b i1 ((inv_F hI 0 2 rfl e_109_0)) i78 i103 ((in_c 1 rfl)) i137a ((in_c 0 rfl)); have a9 := tx_i2l e5x1; have oc := oc_284_109; omega), if_neg (by have a0 := oa9 i55x8 i5x8x10b i1 ((inv_F hI 0 2 rfl e_109_0)) i78 i103 ((in_c 1 rfl)) i137a ((in_c 0 rfl)); have a9 := tx_i2l e5x1; have oc := oc_284_109; omega)]; exact e126)), (by have hm := (p137b).2.2.2.1 rfl; rw [hm, gvR_cg (L := ([], [], [(109, 0)], [])) (fr_sF rfl fr_rf) rfl] <;> rfl)⟩)
                              have n142a : LGX s s137 (Int32.ofInt 3) x1 x2 x3 (Int32.ofInt 0) (Int32.ofInt 0) (Int32.ofInt 0) := by exact Or.inr p137c
                              have n142b : GSE s → GSE s137 := by exact fun _ => p137d
                              have n142c : G1S s s137 := by exact p137e
                              exact g_ireturn (gd rfl) rfl rfl (hP _ _ ⟨s137, hI137, (fr_tr rfl (fr_sF rfl fr_rf) hF137), z103, rfl, rfl, in_w (-1000000) 1000000 i103 rfl, n142, n142a, n142b, n142c⟩)
                          · skip
                            exact zn_ne c89 (in_c 0 rfl) rfl
                        · skip
                          exact zn_gt c86x25 (in_c 0 rfl) rfl
                      · skip
                        exact zn_eq c86x10 (in_c 1 rfl) rfl
                    · skip
                      exact zn_eq c86x2 (in_c 1 rfl) rfl
