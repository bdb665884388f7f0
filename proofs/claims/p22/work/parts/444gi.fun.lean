/-! FUNCTIONAL CONTRACTS, by fgen.py -/
theorem oc_282_109 : (Int32.ofInt (-3)).toInt = (-3) ∧ (Int32.ofInt (-1)).toInt = (-1) ∧ (Int32.ofInt 0).toInt = 0 ∧ (Int32.ofInt 1).toInt = 1 ∧ (Int32.ofInt 2).toInt = 2 ∧ (Int32.ofInt 160).toInt = 160 ∧ (Int32.ofInt 4000).toInt = 4000 ∧ (Int64.ofInt (-1000000)).toInt = (-1000000) ∧ (Int64.ofInt 0).toInt = 0 ∧ (Int64.ofInt 25).toInt = 25 ∧ (Int64.ofInt 1000000).toInt = 1000000 := ⟨rfl, rfl, rfl, rfl, rfl, rfl, rfl, rfl, rfl, rfl, rfl⟩
/-- GraphHouseModel.arc -/
theorem f_282 {Z : AmZ} {A : Nat → Nat} {s : GS} {ex : va_W} {d : Nat} {X : AmX} {x1 : Int32} {x2 : Int32} {x3 : Int32} {x4 : Int32} {x5 : Int32} {u_109_9 : Int32} {u_109_0 : Int32} (hd : 4 ≤ d) (hI : Inv s) (e_109_9 : u_109_9 = s.2.2.1 109 9) (e_109_0 : u_109_0 = s.2.2.1 109 0) : GC Z d 282 [.ref (A 109), .int x1, .int x2, .int x3, .int x4, .int x5] (WW Z A s ++ ex) 0 0 (fun v u => ∃ t : GS, Inv t ∧ Fr fm_282 s t ∧ ∃ z : Int32, v = some (.int z) ∧ u = WW Z A t ++ ex ∧ In z (-3) 159 ∧ (CDR s t (HNR s x1 ∧ HNR s x2 ∧ In x3 (-1000000) 1000000 ∧ In x4 0 1000000 ∧ In x5 0 25) ((s.2.2.1 109 9).toInt ≤ 3999) (((z).toInt = -3 ∧ fpl (thg s 0) = 160 ∧ gvR t = gvR s) ∨ ((z).toInt ≠ -3 ∧ fpl (thg s 0) = (z).toNatClampNeg ∧ gvR t = gqA (gvR s) (z).toNatClampNeg x1 x2 x3 x4 x5 ∧ 0 ≤ (z).toInt))) ∧ (LGX s t (Int32.ofInt 1) z x1 x2 x3 x4 x5) ∧ (GSE s → GSE t) ∧ (G1S s t)) X := by
  intro post xp hP hX
  refine g_enter2 (k := 282) (N := 900) (by first | exact dq1 hd rfl | exact dq0 hd rfl | exact dq2 hd rfl | exact dq3 hd rfl | omega) rfl (Nat.le_of_ble_eq_true rfl) ?_
  refine g_aload_n 1 (gd rfl) rfl rfl ?_
  refine g_aload_n 2 (gd rfl) rfl rfl ?_
  refine g_iload_n 3 (gd rfl) rfl rfl ?_
  refine g_callv (X := _) (As := [.int x1]) (r := [.ref (A 109)]) (b := A 109) (q := 109) 6 (gd rfl) rfl rfl rfl rfl rfl (ww_o rfl) (Nat.le_of_ble_eq_true rfl) (mc := 0) (ms := 0) (Nat.zero_le _) (Nat.zero_le _) (P := fun v u => _) ?_ (fun e u h => h) (fun v u h => h)
  intro po3 xx3 hp3 hx3
  refine g_enter2 (k := 277) (N := 300) (by first | exact dq1 hd rfl | exact dq0 hd rfl | exact dq2 hd rfl | exact dq3 hd rfl | omega) rfl (Nat.le_of_ble_eq_true rfl) ?_
  refine g_iload_n 1 (gd rfl) rfl rfl ?_
  refine g_if_lt 4 18 (gd rfl) rfl rfl (fun c3x1 => ?_) (fun c3x1 => ?_)
  · skip
    have i3x1 := z_lt (-2147483648) (-1) c3x1 (i_rng x1) rfl
    refine g_iconst 0 19 (gd rfl) rfl rfl ?_
    refine g_ireturn (gd rfl) rfl (nb01 (in_w 0 1 (in_c 0 rfl) rfl)) (hp3 _ _ ?_)
    show GG _ _ _ _ _ _ _ _ [.int (Int32.ofInt 0), .ref (A 109)] _ _ _
    refine g_if_eq 9 54 (gd rfl) rfl rfl (fun c6 => ?_) (fun c6 => ?_)
    · skip
      refine g_iconst 0 55 (gd rfl) rfl rfl ?_
      refine g_aload_n 56 (gd rfl) rfl rfl ?_
      refine g_getI 59 (gd rfl) rfl rfl rfl (fun z56 e56 => ?_)
      have q56 : u_109_9 = z56 := (e_109_9).trans e56.symm
      subst q56
      refine g_sipush 4000 62 (gd rfl) rfl rfl ?_
      refine g_cmp_ge 65 69 (gd rfl) rfl rfl (fun c62 => ?_) (fun c62 => ?_)
      · skip
        have i62 := r_le2 4000 4000 c62 (in_c 4000 rfl) (inv_F hI 0 4000 rfl e_109_9) rfl
        refine g_iconst 0 70 (gd rfl) rfl rfl ?_
        refine g_callv (X := _) (As := [.int (Int32.ofInt 0), .int (Int32.ofInt 0)]) (r := []) (b := A 109) (q := 109) 73 (gd rfl) rfl rfl rfl rfl rfl (ww_o rfl) (Nat.le_of_ble_eq_true rfl) (mc := 0) (ms := 0) (Nat.zero_le _) (Nat.zero_le _) (P := fun v u => _) ?_ (fun e u h => h) (fun v u h => h)
        intro po70 xx70 hp70 hx70
        refine g_enter2 (k := 270) (N := 300) (by first | exact dq1 hd rfl | exact dq0 hd rfl | exact dq2 hd rfl | exact dq3 hd rfl | omega) rfl (Nat.le_of_ble_eq_true rfl) ?_
        refine g_aload_n 1 (gd rfl) rfl rfl ?_
        refine g_iload_n 2 (gd rfl) rfl rfl ?_
        refine g_if_ne 5 9 (gd rfl) rfl rfl (fun c70x2 => ?_) (fun c70x2 => ?_)
        · skip
          exact zn_ne c70x2 (in_c 0 rfl) rfl
        · skip
          refine g_iconst 1 6 (gd rfl) rfl rfl ?_
          refine g_goto 18 (gd rfl) rfl ?_
          refine g_putI 21 (gd rfl) rfl rfl rfl rfl ?_
          have hI70x18 := inv_sF (q := 109) (j := 0) hI rfl (in_w 0 2 (in_c 1 rfl) rfl)
          refine g_aload_n 22 (gd rfl) rfl rfl ?_
          refine g_getI 25 (gd rfl) rfl rfl rfl (fun z70x22 e70x22 => ?_)
          have q70x22 : (Int32.ofInt 1) = z70x22 := (sF_get).trans e70x22.symm
          subst q70x22
          refine g_if_le 28 32 (gd rfl) rfl rfl (fun c70x25 => ?_) (fun c70x25 => ?_)
          · skip
            exact zn_le c70x25 (in_c 1 rfl) rfl
          · skip
            refine g_iconst 1 29 (gd rfl) rfl rfl ?_
            refine g_goto 33 (gd rfl) rfl ?_
            refine g_ireturn (gd rfl) rfl (nb01 (in_w 0 1 (in_c 1 rfl) rfl)) (hp70 _ _ ?_)
            show GG _ _ _ _ _ _ _ _ [.int (Int32.ofInt 1)] _ _ _
            refine g_if_eq 76 78 (gd rfl) rfl rfl (fun c73 => ?_) (fun c73 => ?_)
            · skip
              exact zn_eq c73 (in_c 1 rfl) rfl
            · skip
              refine g_iconst 0 77 (gd rfl) rfl rfl ?_
              have n77 : CDR s (sF s 109 0 (Int32.ofInt 1)) (HNR s x1 ∧ HNR s x2 ∧ In x3 (-1000000) 1000000 ∧ In x4 0 1000000 ∧ In x5 0 25) ((s.2.2.1 109 9).toInt ≤ 3999) ((((Int32.ofInt 0)).toInt = -3 ∧ fpl (thg s 0) = 160 ∧ gvR (sF s 109 0 (Int32.ofInt 1)) = gvR s) ∨ (((Int32.ofInt 0)).toInt ≠ -3 ∧ fpl (thg s 0) = ((Int32.ofInt 0)).toNatClampNeg ∧ gvR (sF s 109 0 (Int32.ofInt 1)) = gqA (gvR s) ((Int32.ofInt 0)).toNatClampNeg x1 x2 x3 x4 x5 ∧ 0 ≤ ((Int32.ofInt 0)).toInt)) := by first | exact Or.inl ⟨rfl, (by first | (unfold HNR In; rw [show s.1 110 0 = z3x10 from e3x10.symm]; have a0 := oa4 ((inv_F hI 0 2 rfl e_109_0)) i62 i3x1 ((in_c 1 rfl)); have oc := oc_282_109; omega) | (unfold HNR In; have a0 := oa4 ((inv_F hI 0 2 rfl e_109_0)) i62 i3x1 ((in_c 1 rfl)); have oc := oc_282_109; omega)), (gvR_cg (L := ([], [], [(109, 0)], [])) (fr_sF rfl fr_rf) rfl)⟩ | exact Or.inr (Or.inl ⟨rfl, ⟨⟨by have a0 := oa4 ((inv_F hI 0 2 rfl e_109_0)) i62 i3x1 ((in_c 1 rfl)); have oc := oc_282_109; omega, by rw [show s.1 110 0 = z3x10 from e3x10.symm]; have a0 := oa4 ((inv_F hI 0 2 rfl e_109_0)) i62 i3x1 ((in_c 1 rfl)); have oc := oc_282_109; omega⟩, ⟨by have a0 := oa4 ((inv_F hI 0 2 rfl e_109_0)) i62 i3x1 ((in_c 1 rfl)); have oc := oc_282_109; omega, by rw [show s.1 110 0 = z3x10 from e3x10.symm]; have a0 := oa4 ((inv_F hI 0 2 rfl e_109_0)) i62 i3x1 ((in_c 1 rfl)); have oc := oc_282_109; omega⟩, ⟨by have a0 := oa4 ((inv_F hI 0 2 rfl e_109_0)) i62 i3x1 ((in_c 1 rfl)); have oc := oc_282_109; omega, by have a0 := oa4 ((inv_F hI 0 2 rfl e_109_0)) i62 i3x1 ((in_c 1 rfl)); have oc := oc_282_109; omega⟩, ⟨by have a0 := oa4 ((inv_F hI 0 2 rfl e_109_0)) i62 i3x1 ((in_c 1 rfl)); have oc := oc_282_109; omega, by have a0 := oa4 ((inv_F hI 0 2 rfl e_109_0)) i62 i3x1 ((in_c 1 rfl)); have oc := oc_282_109; omega⟩, ⟨by have a0 := oa4 ((inv_F hI 0 2 rfl e_109_0)) i62 i3x1 ((in_c 1 rfl)); have oc := oc_282_109; omega, by have a0 := oa4 ((inv_F hI 0 2 rfl e_109_0)) i62 i3x1 ((in_c 1 rfl)); have oc := oc_282_109; omega⟩⟩, (by rw [← e_109_9]; have a0 := oa4 ((inv_F hI 0 2 rfl e_109_0)) i62 i3x1 ((in_c 1 rfl)); have oc := oc_282_109; omega), (gvR_cg (L := ([], [], [(109, 0)], [])) (fr_sF rfl fr_rf) rfl)⟩)
              have n77a : LGX s (sF s 109 0 (Int32.ofInt 1)) (Int32.ofInt 1) (Int32.ofInt 0) x1 x2 x3 x4 x5 := by exact Or.inl ⟨rfl, rfl, rfl, rfl, rfl, rfl, rfl, rfl⟩
              have n77b : GSE s → GSE (sF s 109 0 (Int32.ofInt 1)) := by exact fun h => gse_fr (L := ([], [], [(109, 0)], [])) h (fr_sF rfl fr_rf) rfl
              have n77c : G1S s (sF s 109 0 (Int32.ofInt 1)) := by exact ⟨rfl, fun _ _ => rfl, fun _ _ _ => ⟨rfl, rfl, rfl, rfl, rfl, rfl⟩⟩
              exact g_ireturn (gd rfl) rfl rfl (hP _ _ ⟨(sF s 109 0 (Int32.ofInt 1)), hI70x18, (fr_sF rfl fr_rf), (Int32.ofInt 0), rfl, rfl, in_w (-3) 159 (in_c 0 rfl) rfl, n77, n77a, n77b, n77c⟩)
      · skip
        have i62 := r_lt1 0 3999 c62 (inv_F hI 0 4000 rfl e_109_9) (in_c 4000 rfl) rfl
        refine g_iconst 1 66 (gd rfl) rfl rfl ?_
        refine g_goto 70 (gd rfl) rfl ?_
        refine g_callv (X := _) (As := [.int (Int32.ofInt 0), .int (Int32.ofInt 1)]) (r := []) (b := A 109) (q := 109) 73 (gd rfl) rfl rfl rfl rfl rfl (ww_o rfl) (Nat.le_of_ble_eq_true rfl) (mc := 0) (ms := 0) (Nat.zero_le _) (Nat.zero_le _) (P := fun v u => _) ?_ (fun e u h => h) (fun v u h => h)
        intro po70 xx70 hp70 hx70
        refine g_enter2 (k := 270) (N := 300) (by first | exact dq1 hd rfl | exact dq0 hd rfl | exact dq2 hd rfl | exact dq3 hd rfl | omega) rfl (Nat.le_of_ble_eq_true rfl) ?_
        refine g_aload_n 1 (gd rfl) rfl rfl ?_
        refine g_iload_n 2 (gd rfl) rfl rfl ?_
        refine g_if_ne 5 9 (gd rfl) rfl rfl (fun c70x2 => ?_) (fun c70x2 => ?_)
        · skip
          exact zn_ne c70x2 (in_c 0 rfl) rfl
        · skip
          refine g_iconst 1 6 (gd rfl) rfl rfl ?_
          refine g_goto 18 (gd rfl) rfl ?_
          refine g_putI 21 (gd rfl) rfl rfl rfl rfl ?_
          have hI70x18 := inv_sF (q := 109) (j := 0) hI rfl (in_w 0 2 (in_c 1 rfl) rfl)
          refine g_aload_n 22 (gd rfl) rfl rfl ?_
          refine g_getI 25 (gd rfl) rfl rfl rfl (fun z70x22 e70x22 => ?_)
          have q70x22 : (Int32.ofInt 1) = z70x22 := (sF_get).trans e70x22.symm
          subst q70x22
          refine g_if_le 28 32 (gd rfl) rfl rfl (fun c70x25 => ?_) (fun c70x25 => ?_)
          · skip
            exact zn_le c70x25 (in_c 1 rfl) rfl
          · skip
            refine g_iconst 1 29 (gd rfl) rfl rfl ?_
            refine g_goto 33 (gd rfl) rfl ?_
            refine g_ireturn (gd rfl) rfl (nb01 (in_w 0 1 (in_c 1 rfl) rfl)) (hp70 _ _ ?_)
            show GG _ _ _ _ _ _ _ _ [.int (Int32.ofInt 1)] _ _ _
            refine g_if_eq 76 78 (gd rfl) rfl rfl (fun c73 => ?_) (fun c73 => ?_)
            · skip
              exact zn_eq c73 (in_c 1 rfl) rfl
            · skip
              refine g_iconst 0 77 (gd rfl) rfl rfl ?_
              have n77 : CDR s (sF s 109 0 (Int32.ofInt 1)) (HNR s x1 ∧ HNR s x2 ∧ In x3 (-1000000) 1000000 ∧ In x4 0 1000000 ∧ In x5 0 25) ((s.2.2.1 109 9).toInt ≤ 3999) ((((Int32.ofInt 0)).toInt = -3 ∧ fpl (thg s 0) = 160 ∧ gvR (sF s 109 0 (Int32.ofInt 1)) = gvR s) ∨ (((Int32.ofInt 0)).toInt ≠ -3 ∧ fpl (thg s 0) = ((Int32.ofInt 0)).toNatClampNeg ∧ gvR (sF s 109 0 (Int32.ofInt 1)) = gqA (gvR s) ((Int32.ofInt 0)).toNatClampNeg x1 x2 x3 x4 x5 ∧ 0 ≤ ((Int32.ofInt 0)).toInt)) := by first | exact Or.inl ⟨rfl, (by first | (unfold HNR In; rw [show s.1 110 0 = z3x10 from e3x10.symm]; have a0 := oa4 ((inv_F hI 0 2 rfl e_109_0)) i62 i3x1 ((in_c 1 rfl)); have oc := oc_282_109; omega) | (unfold HNR In; have a0 := oa4 ((inv_F hI 0 2 rfl e_109_0)) i62 i3x1 ((in_c 1 rfl)); have oc := oc_282_109; omega)), (gvR_cg (L := ([], [], [(109, 0)], [])) (fr_sF rfl fr_rf) rfl)⟩ | exact Or.inr (Or.inl ⟨rfl, ⟨⟨by have a0 := oa4 ((inv_F hI 0 2 rfl e_109_0)) i62 i3x1 ((in_c 1 rfl)); have oc := oc_282_109; omega, by rw [show s.1 110 0 = z3x10 from e3x10.symm]; have a0 := oa4 ((inv_F hI 0 2 rfl e_109_0)) i62 i3x1 ((in_c 1 rfl)); have oc := oc_282_109; omega⟩, ⟨by have a0 := oa4 ((inv_F hI 0 2 rfl e_109_0)) i62 i3x1 ((in_c 1 rfl)); have oc := oc_282_109; omega, by rw [show s.1 110 0 = z3x10 from e3x10.symm]; have a0 := oa4 ((inv_F hI 0 2 rfl e_109_0)) i62 i3x1 ((in_c 1 rfl)); have oc := oc_282_109; omega⟩, ⟨by have a0 := oa4 ((inv_F hI 0 2 rfl e_109_0)) i62 i3x1 ((in_c 1 rfl)); have oc := oc_282_109; omega, by have a0 := oa4 ((inv_F hI 0 2 rfl e_109_0)) i62 i3x1 ((in_c 1 rfl)); have oc := oc_282_109; omega⟩, ⟨by have a0 := oa4 ((inv_F hI 0 2 rfl e_109_0)) i62 i3x1 ((in_c 1 rfl)); have oc := oc_282_109; omega, by have a0 := oa4 ((inv_F hI 0 2 rfl e_109_0)) i62 i3x1 ((in_c 1 rfl)); have oc := oc_282_109; omega⟩, ⟨by have a0 := oa4 ((inv_F hI 0 2 rfl e_109_0)) i62 i3x1 ((in_c 1 rfl)); have oc := oc_282_109; omega, by have a0 := oa4 ((inv_F hI 0 2 rfl e_109_0)) i62 i3x1 ((in_c 1 rfl)); have oc := oc_282_109; omega⟩⟩, (by rw [← e_109_9]; have a0 := oa4 ((inv_F hI 0 2 rfl e_109_0)) i62 i3x1 ((in_c 1 rfl)); have oc := oc_282_109; omega), (gvR_cg (L := ([], [], [(109, 0)], [])) (fr_sF rfl fr_rf) rfl)⟩)
              have n77a : LGX s (sF s 109 0 (Int32.ofInt 1)) (Int32.ofInt 1) (Int32.ofInt 0) x1 x2 x3 x4 x5 := by exact Or.inl ⟨rfl, rfl, rfl, rfl, rfl, rfl, rfl, rfl⟩
              have n77b : GSE s → GSE (sF s 109 0 (Int32.ofInt 1)) := by exact fun h => gse_fr (L := ([], [], [(109, 0)], [])) h (fr_sF rfl fr_rf) rfl
              have n77c : G1S s (sF s 109 0 (Int32.ofInt 1)) := by exact ⟨rfl, fun _ _ => rfl, fun _ _ _ => ⟨rfl, rfl, rfl, rfl, rfl, rfl⟩⟩
              exact g_ireturn (gd rfl) rfl rfl (hP _ _ ⟨(sF s 109 0 (Int32.ofInt 1)), hI70x18, (fr_sF rfl fr_rf), (Int32.ofInt 0), rfl, rfl, in_w (-3) 159 (in_c 0 rfl) rfl, n77, n77a, n77b, n77c⟩)
    · skip
      exact zn_ne c6 (in_c 0 rfl) rfl
  · skip
    have i3x1 := z_ge 0 2147483647 c3x1 (i_rng x1) rfl
    refine g_iload_n 5 (gd rfl) rfl rfl ?_
    refine g_aload_n 6 (gd rfl) rfl rfl ?_
    refine g_getA (q2 := 110) 9 (gd rfl) rfl rfl rfl rfl ?_
    refine g_iconst 0 10 (gd rfl) rfl rfl ?_
    refine g_iaload 11 (gd rfl) rfl (n := 3) rfl (in_ix (in_c 0 rfl) rfl) (fun z3x10 e3x10 => ?_)
    have i3x10 := nn_01 hI (in_c 0 rfl) rfl e3x10
    refine g_cmp_ge 14 18 (gd rfl) rfl rfl (fun c3x11 => ?_) (fun c3x11 => ?_)
    · skip
      refine g_iconst 0 19 (gd rfl) rfl rfl ?_
      refine g_ireturn (gd rfl) rfl (nb01 (in_w 0 1 (in_c 0 rfl) rfl)) (hp3 _ _ ?_)
      show GG _ _ _ _ _ _ _ _ [.int (Int32.ofInt 0), .ref (A 109)] _ _ _
      refine g_if_eq 9 54 (gd rfl) rfl rfl (fun c6 => ?_) (fun c6 => ?_)
      · skip
        refine g_iconst 0 55 (gd rfl) rfl rfl ?_
        refine g_aload_n 56 (gd rfl) rfl rfl ?_
        refine g_getI 59 (gd rfl) rfl rfl rfl (fun z56 e56 => ?_)
        have q56 : u_109_9 = z56 := (e_109_9).trans e56.symm
        subst q56
        refine g_sipush 4000 62 (gd rfl) rfl rfl ?_
        refine g_cmp_ge 65 69 (gd rfl) rfl rfl (fun c62 => ?_) (fun c62 => ?_)
        · skip
          have i62 := r_le2 4000 4000 c62 (in_c 4000 rfl) (inv_F hI 0 4000 rfl e_109_9) rfl
          refine g_iconst 0 70 (gd rfl) rfl rfl ?_
          refine g_callv (X := _) (As := [.int (Int32.ofInt 0), .int (Int32.ofInt 0)]) (r := []) (b := A 109) (q := 109) 73 (gd rfl) rfl rfl rfl rfl rfl (ww_o rfl) (Nat.le_of_ble_eq_true rfl) (mc := 0) (ms := 0) (Nat.zero_le _) (Nat.zero_le _) (P := fun v u => _) ?_ (fun e u h => h) (fun v u h => h)
          intro po70 xx70 hp70 hx70
          refine g_enter2 (k := 270) (N := 300) (by first | exact dq1 hd rfl | exact dq0 hd rfl | exact dq2 hd rfl | exact dq3 hd rfl | omega) rfl (Nat.le_of_ble_eq_true rfl) ?_
          refine g_aload_n 1 (gd rfl) rfl rfl ?_
          refine g_iload_n 2 (gd rfl) rfl rfl ?_
          refine g_if_ne 5 9 (gd rfl) rfl rfl (fun c70x2 => ?_) (fun c70x2 => ?_)
          · skip
            exact zn_ne c70x2 (in_c 0 rfl) rfl
          · skip
            refine g_iconst 1 6 (gd rfl) rfl rfl ?_
            refine g_goto 18 (gd rfl) rfl ?_
            refine g_putI 21 (gd rfl) rfl rfl rfl rfl ?_
            have hI70x18 := inv_sF (q := 109) (j := 0) hI rfl (in_w 0 2 (in_c 1 rfl) rfl)
            refine g_aload_n 22 (gd rfl) rfl rfl ?_
            refine g_getI 25 (gd rfl) rfl rfl rfl (fun z70x22 e70x22 => ?_)
            have q70x22 : (Int32.ofInt 1) = z70x22 := (sF_get).trans e70x22.symm
            subst q70x22
            refine g_if_le 28 32 (gd rfl) rfl rfl (fun c70x25 => ?_) (fun c70x25 => ?_)
            · skip
              exact zn_le c70x25 (in_c 1 rfl) rfl
            · skip
              refine g_iconst 1 29 (gd rfl) rfl rfl ?_
              refine g_goto 33 (gd rfl) rfl ?_
              refine g_ireturn (gd rfl) rfl (nb01 (in_w 0 1 (in_c 1 rfl) rfl)) (hp70 _ _ ?_)
              show GG _ _ _ _ _ _ _ _ [.int (Int32.ofInt 1)] _ _ _
              refine g_if_eq 76 78 (gd rfl) rfl rfl (fun c73 => ?_) (fun c73 => ?_)
              · skip
                exact zn_eq c73 (in_c 1 rfl) rfl
              · skip
                refine g_iconst 0 77 (gd rfl) rfl rfl ?_
                have n77 : CDR s (sF s 109 0 (Int32.ofInt 1)) (HNR s x1 ∧ HNR s x2 ∧ In x3 (-1000000) 1000000 ∧ In x4 0 1000000 ∧ In x5 0 25) ((s.2.2.1 109 9).toInt ≤ 3999) ((((Int32.ofInt 0)).toInt = -3 ∧ fpl (thg s 0) = 160 ∧ gvR (sF s 109 0 (Int32.ofInt 1)) = gvR s) ∨ (((Int32.ofInt 0)).toInt ≠ -3 ∧ fpl (thg s 0) = ((Int32.ofInt 0)).toNatClampNeg ∧ gvR (sF s 109 0 (Int32.ofInt 1)) = gqA (gvR s) ((Int32.ofInt 0)).toNatClampNeg x1 x2 x3 x4 x5 ∧ 0 ≤ ((Int32.ofInt 0)).toInt)) := by first | exact Or.inl ⟨rfl, (by first | (unfold HNR In; rw [show s.1 110 0 = z3x10 from e3x10.symm]; have a0 := oa4 ((inv_F hI 0 2 rfl e_109_0)) i62 i3x1 ((in_c 1 rfl)); have oc := oc_282_109; omega) | (unfold HNR In; have a0 := oa4 ((inv_F hI 0 2 rfl e_109_0)) i62 i3x1 ((in_c 1 rfl)); have oc := oc_282_109; omega)), (gvR_cg (L := ([], [], [(109, 0)], [])) (fr_sF rfl fr_rf) rfl)⟩ | exact Or.inr (Or.inl ⟨rfl, ⟨⟨by have a0 := oa4 ((inv_F hI 0 2 rfl e_109_0)) i62 i3x1 ((in_c 1 rfl)); have oc := oc_282_109; omega, by rw [show s.1 110 0 = z3x10 from e3x10.symm]; have a0 := oa4 ((inv_F hI 0 2 rfl e_109_0)) i62 i3x1 ((in_c 1 rfl)); have oc := oc_282_109; omega⟩, ⟨by have a0 := oa4 ((inv_F hI 0 2 rfl e_109_0)) i62 i3x1 ((in_c 1 rfl)); have oc := oc_282_109; omega, by rw [show s.1 110 0 = z3x10 from e3x10.symm]; have a0 := oa4 ((inv_F hI 0 2 rfl e_109_0)) i62 i3x1 ((in_c 1 rfl)); have oc := oc_282_109; omega⟩, ⟨by have a0 := oa4 ((inv_F hI 0 2 rfl e_109_0)) i62 i3x1 ((in_c 1 rfl)); have oc := oc_282_109; omega, by have a0 := oa4 ((inv_F hI 0 2 rfl e_109_0)) i62 i3x1 ((in_c 1 rfl)); have oc := oc_282_109; omega⟩, ⟨by have a0 := oa4 ((inv_F hI 0 2 rfl e_109_0)) i62 i3x1 ((in_c 1 rfl)); have oc := oc_282_109; omega, by have a0 := oa4 ((inv_F hI 0 2 rfl e_109_0)) i62 i3x1 ((in_c 1 rfl)); have oc := oc_282_109; omega⟩, ⟨by have a0 := oa4 ((inv_F hI 0 2 rfl e_109_0)) i62 i3x1 ((in_c 1 rfl)); have oc := oc_282_109; omega, by have a0 := oa4 ((inv_F hI 0 2 rfl e_109_0)) i62 i3x1 ((in_c 1 rfl)); have oc := oc_282_109; omega⟩⟩, (by rw [← e_109_9]; have a0 := oa4 ((inv_F hI 0 2 rfl e_109_0)) i62 i3x1 ((in_c 1 rfl)); have oc := oc_282_109; omega), (gvR_cg (L := ([], [], [(109, 0)], [])) (fr_sF rfl fr_rf) rfl)⟩)
                have n77a : LGX s (sF s 109 0 (Int32.ofInt 1)) (Int32.ofInt 1) (Int32.ofInt 0) x1 x2 x3 x4 x5 := by exact Or.inl ⟨rfl, rfl, rfl, rfl, rfl, rfl, rfl, rfl⟩
                have n77b : GSE s → GSE (sF s 109 0 (Int32.ofInt 1)) := by exact fun h => gse_fr (L := ([], [], [(109, 0)], [])) h (fr_sF rfl fr_rf) rfl
                have n77c : G1S s (sF s 109 0 (Int32.ofInt 1)) := by exact ⟨rfl, fun _ _ => rfl, fun _ _ _ => ⟨rfl, rfl, rfl, rfl, rfl, rfl⟩⟩
                exact g_ireturn (gd rfl) rfl rfl (hP _ _ ⟨(sF s 109 0 (Int32.ofInt 1)), hI70x18, (fr_sF rfl fr_rf), (Int32.ofInt 0), rfl, rfl, in_w (-3) 159 (in_c 0 rfl) rfl, n77, n77a, n77b, n77c⟩)
        · skip
          have i62 := r_lt1 0 3999 c62 (inv_F hI 0 4000 rfl e_109_9) (in_c 4000 rfl) rfl
          refine g_iconst 1 66 (gd rfl) rfl rfl ?_
          refine g_goto 70 (gd rfl) rfl ?_
          refine g_callv (X := _) (As := [.int (Int32.ofInt 0), .int (Int32.ofInt 1)]) (r := []) (b := A 109) (q := 109) 73 (gd rfl) rfl rfl rfl rfl rfl (ww_o rfl) (Nat.le_of_ble_eq_true rfl) (mc := 0) (ms := 0) (Nat.zero_le _) (Nat.zero_le _) (P := fun v u => _) ?_ (fun e u h => h) (fun v u h => h)
          intro po70 xx70 hp70 hx70
          refine g_enter2 (k := 270) (N := 300) (by first | exact dq1 hd rfl | exact dq0 hd rfl | exact dq2 hd rfl | exact dq3 hd rfl | omega) rfl (Nat.le_of_ble_eq_true rfl) ?_
          refine g_aload_n 1 (gd rfl) rfl rfl ?_
          refine g_iload_n 2 (gd rfl) rfl rfl ?_
          refine g_if_ne 5 9 (gd rfl) rfl rfl (fun c70x2 => ?_) (fun c70x2 => ?_)
          · skip
            exact zn_ne c70x2 (in_c 0 rfl) rfl
          · skip
            refine g_iconst 1 6 (gd rfl) rfl rfl ?_
            refine g_goto 18 (gd rfl) rfl ?_
            refine g_putI 21 (gd rfl) rfl rfl rfl rfl ?_
            have hI70x18 := inv_sF (q := 109) (j := 0) hI rfl (in_w 0 2 (in_c 1 rfl) rfl)
            refine g_aload_n 22 (gd rfl) rfl rfl ?_
            refine g_getI 25 (gd rfl) rfl rfl rfl (fun z70x22 e70x22 => ?_)
            have q70x22 : (Int32.ofInt 1) = z70x22 := (sF_get).trans e70x22.symm
            subst q70x22
            refine g_if_le 28 32 (gd rfl) rfl rfl (fun c70x25 => ?_) (fun c70x25 => ?_)
            · skip
              exact zn_le c70x25 (in_c 1 rfl) rfl
            · skip
              refine g_iconst 1 29 (gd rfl) rfl rfl ?_
              refine g_goto 33 (gd rfl) rfl ?_
              refine g_ireturn (gd rfl) rfl (nb01 (in_w 0 1 (in_c 1 rfl) rfl)) (hp70 _ _ ?_)
              show GG _ _ _ _ _ _ _ _ [.int (Int32.ofInt 1)] _ _ _
              refine g_if_eq 76 78 (gd rfl) rfl rfl (fun c73 => ?_) (fun c73 => ?_)
              · skip
                exact zn_eq c73 (in_c 1 rfl) rfl
              · skip
                refine g_iconst 0 77 (gd rfl) rfl rfl ?_
                have n77 : CDR s (sF s 109 0 (Int32.ofInt 1)) (HNR s x1 ∧ HNR s x2 ∧ In x3 (-1000000) 1000000 ∧ In x4 0 1000000 ∧ In x5 0 25) ((s.2.2.1 109 9).toInt ≤ 3999) ((((Int32.ofInt 0)).toInt = -3 ∧ fpl (thg s 0) = 160 ∧ gvR (sF s 109 0 (Int32.ofInt 1)) = gvR s) ∨ (((Int32.ofInt 0)).toInt ≠ -3 ∧ fpl (thg s 0) = ((Int32.ofInt 0)).toNatClampNeg ∧ gvR (sF s 109 0 (Int32.ofInt 1)) = gqA (gvR s) ((Int32.ofInt 0)).toNatClampNeg x1 x2 x3 x4 x5 ∧ 0 ≤ ((Int32.ofInt 0)).toInt)) := by first | exact Or.inl ⟨rfl, (by first | (unfold HNR In; rw [show s.1 110 0 = z3x10 from e3x10.symm]; have a0 := oa4 ((inv_F hI 0 2 rfl e_109_0)) i62 i3x1 ((in_c 1 rfl)); have oc := oc_282_109; omega) | (unfold HNR In; have a0 := oa4 ((inv_F hI 0 2 rfl e_109_0)) i62 i3x1 ((in_c 1 rfl)); have oc := oc_282_109; omega)), (gvR_cg (L := ([], [], [(109, 0)], [])) (fr_sF rfl fr_rf) rfl)⟩ | exact Or.inr (Or.inl ⟨rfl, ⟨⟨by have a0 := oa4 ((inv_F hI 0 2 rfl e_109_0)) i62 i3x1 ((in_c 1 rfl)); have oc := oc_282_109; omega, by rw [show s.1 110 0 = z3x10 from e3x10.symm]; have a0 := oa4 ((inv_F hI 0 2 rfl e_109_0)) i62 i3x1 ((in_c 1 rfl)); have oc := oc_282_109; omega⟩, ⟨by have a0 := oa4 ((inv_F hI 0 2 rfl e_109_0)) i62 i3x1 ((in_c 1 rfl)); have oc := oc_282_109; omega, by rw [show s.1 110 0 = z3x10 from e3x10.symm]; have a0 := oa4 ((inv_F hI 0 2 rfl e_109_0)) i62 i3x1 ((in_c 1 rfl)); have oc := oc_282_109; omega⟩, ⟨by have a0 := oa4 ((inv_F hI 0 2 rfl e_109_0)) i62 i3x1 ((in_c 1 rfl)); have oc := oc_282_109; omega, by have a0 := oa4 ((inv_F hI 0 2 rfl e_109_0)) i62 i3x1 ((in_c 1 rfl)); have oc := oc_282_109; omega⟩, ⟨by have a0 := oa4 ((inv_F hI 0 2 rfl e_109_0)) i62 i3x1 ((in_c 1 rfl)); have oc := oc_282_109; omega, by have a0 := oa4 ((inv_F hI 0 2 rfl e_109_0)) i62 i3x1 ((in_c 1 rfl)); have oc := oc_282_109; omega⟩, ⟨by have a0 := oa4 ((inv_F hI 0 2 rfl e_109_0)) i62 i3x1 ((in_c 1 rfl)); have oc := oc_282_109; omega, by have a0 := oa4 ((inv_F hI 0 2 rfl e_109_0)) i62 i3x1 ((in_c 1 rfl)); have oc := oc_282_109; omega⟩⟩, (by rw [← e_109_9]; have a0 := oa4 ((inv_F hI 0 2 rfl e_109_0)) i62 i3x1 ((in_c 1 rfl)); have oc := oc_282_109; omega), (gvR_cg (L := ([], [], [(109, 0)], [])) (fr_sF rfl fr_rf) rfl)⟩)
                have n77a : LGX s (sF s 109 0 (Int32.ofInt 1)) (Int32.ofInt 1) (Int32.ofInt 0) x1 x2 x3 x4 x5 := by exact Or.inl ⟨rfl, rfl, rfl, rfl, rfl, rfl, rfl, rfl⟩
                have n77b : GSE s → GSE (sF s 109 0 (Int32.ofInt 1)) := by exact fun h => gse_fr (L := ([], [], [(109, 0)], [])) h (fr_sF rfl fr_rf) rfl
                have n77c : G1S s (sF s 109 0 (Int32.ofInt 1)) := by exact ⟨rfl, fun _ _ => rfl, fun _ _ _ => ⟨rfl, rfl, rfl, rfl, rfl, rfl⟩⟩
                exact g_ireturn (gd rfl) rfl rfl (hP _ _ ⟨(sF s 109 0 (Int32.ofInt 1)), hI70x18, (fr_sF rfl fr_rf), (Int32.ofInt 0), rfl, rfl, in_w (-3) 159 (in_c 0 rfl) rfl, n77, n77a, n77b, n77c⟩)
      · skip
        exact zn_ne c6 (in_c 0 rfl) rfl
    · skip
      have i3x11 := r_lt1 0 31 c3x11 i3x1 i3x10 rfl
      have i3x11a := r_lt2 1 32 c3x11 i3x1 i3x10 rfl
      refine g_iconst 1 15 (gd rfl) rfl rfl ?_
      refine g_goto 19 (gd rfl) rfl ?_
      refine g_ireturn (gd rfl) rfl (nb01 (in_w 0 1 (in_c 1 rfl) rfl)) (hp3 _ _ ?_)
      show GG _ _ _ _ _ _ _ _ [.int (Int32.ofInt 1), .ref (A 109)] _ _ _
      refine g_if_eq 9 54 (gd rfl) rfl rfl (fun c6 => ?_) (fun c6 => ?_)
      · skip
        exact zn_eq c6 (in_c 1 rfl) rfl
      · skip
        refine g_aload_n 10 (gd rfl) rfl rfl ?_
        refine g_iload_n 11 (gd rfl) rfl rfl ?_
        refine g_callv (X := _) (As := [.int x2]) (r := [.ref (A 109)]) (b := A 109) (q := 109) 14 (gd rfl) rfl rfl rfl rfl rfl (ww_o rfl) (Nat.le_of_ble_eq_true rfl) (mc := 0) (ms := 0) (Nat.zero_le _) (Nat.zero_le _) (P := fun v u => _) ?_ (fun e u h => h) (fun v u h => h)
        intro po11 xx11 hp11 hx11
        refine g_enter2 (k := 277) (N := 300) (by first | exact dq1 hd rfl | exact dq0 hd rfl | exact dq2 hd rfl | exact dq3 hd rfl | omega) rfl (Nat.le_of_ble_eq_true rfl) ?_
        refine g_iload_n 1 (gd rfl) rfl rfl ?_
        refine g_if_lt 4 18 (gd rfl) rfl rfl (fun c11x1 => ?_) (fun c11x1 => ?_)
        · skip
          have i11x1 := z_lt (-2147483648) (-1) c11x1 (i_rng x2) rfl
          refine g_iconst 0 19 (gd rfl) rfl rfl ?_
          refine g_ireturn (gd rfl) rfl (nb01 (in_w 0 1 (in_c 0 rfl) rfl)) (hp11 _ _ ?_)
          show GG _ _ _ _ _ _ _ _ [.int (Int32.ofInt 0), .ref (A 109)] _ _ _
          refine g_if_eq 17 54 (gd rfl) rfl rfl (fun c14 => ?_) (fun c14 => ?_)
          · skip
            refine g_iconst 0 55 (gd rfl) rfl rfl ?_
            refine g_aload_n 56 (gd rfl) rfl rfl ?_
            refine g_getI 59 (gd rfl) rfl rfl rfl (fun z56 e56 => ?_)
            have q56 : u_109_9 = z56 := (e_109_9).trans e56.symm
            subst q56
            refine g_sipush 4000 62 (gd rfl) rfl rfl ?_
            refine g_cmp_ge 65 69 (gd rfl) rfl rfl (fun c62 => ?_) (fun c62 => ?_)
            · skip
              have i62 := r_le2 4000 4000 c62 (in_c 4000 rfl) (inv_F hI 0 4000 rfl e_109_9) rfl
              refine g_iconst 0 70 (gd rfl) rfl rfl ?_
              refine g_callv (X := _) (As := [.int (Int32.ofInt 0), .int (Int32.ofInt 0)]) (r := []) (b := A 109) (q := 109) 73 (gd rfl) rfl rfl rfl rfl rfl (ww_o rfl) (Nat.le_of_ble_eq_true rfl) (mc := 0) (ms := 0) (Nat.zero_le _) (Nat.zero_le _) (P := fun v u => _) ?_ (fun e u h => h) (fun v u h => h)
              intro po70 xx70 hp70 hx70
              refine g_enter2 (k := 270) (N := 300) (by first | exact dq1 hd rfl | exact dq0 hd rfl | exact dq2 hd rfl | exact dq3 hd rfl | omega) rfl (Nat.le_of_ble_eq_true rfl) ?_
              refine g_aload_n 1 (gd rfl) rfl rfl ?_
              refine g_iload_n 2 (gd rfl) rfl rfl ?_
              refine g_if_ne 5 9 (gd rfl) rfl rfl (fun c70x2 => ?_) (fun c70x2 => ?_)
              · skip
                exact zn_ne c70x2 (in_c 0 rfl) rfl
              · skip
                refine g_iconst 1 6 (gd rfl) rfl rfl ?_
                refine g_goto 18 (gd rfl) rfl ?_
                refine g_putI 21 (gd rfl) rfl rfl rfl rfl ?_
                have hI70x18 := inv_sF (q := 109) (j := 0) hI rfl (in_w 0 2 (in_c 1 rfl) rfl)
                refine g_aload_n 22 (gd rfl) rfl rfl ?_
                refine g_getI 25 (gd rfl) rfl rfl rfl (fun z70x22 e70x22 => ?_)
                have q70x22 : (Int32.ofInt 1) = z70x22 := (sF_get).trans e70x22.symm
                subst q70x22
                refine g_if_le 28 32 (gd rfl) rfl rfl (fun c70x25 => ?_) (fun c70x25 => ?_)
                · skip
                  exact zn_le c70x25 (in_c 1 rfl) rfl
                · skip
                  refine g_iconst 1 29 (gd rfl) rfl rfl ?_
                  refine g_goto 33 (gd rfl) rfl ?_
                  refine g_ireturn (gd rfl) rfl (nb01 (in_w 0 1 (in_c 1 rfl) rfl)) (hp70 _ _ ?_)
                  show GG _ _ _ _ _ _ _ _ [.int (Int32.ofInt 1)] _ _ _
                  refine g_if_eq 76 78 (gd rfl) rfl rfl (fun c73 => ?_) (fun c73 => ?_)
                  · skip
                    exact zn_eq c73 (in_c 1 rfl) rfl
                  · skip
                    refine g_iconst 0 77 (gd rfl) rfl rfl ?_
                    have n77 : CDR s (sF s 109 0 (Int32.ofInt 1)) (HNR s x1 ∧ HNR s x2 ∧ In x3 (-1000000) 1000000 ∧ In x4 0 1000000 ∧ In x5 0 25) ((s.2.2.1 109 9).toInt ≤ 3999) ((((Int32.ofInt 0)).toInt = -3 ∧ fpl (thg s 0) = 160 ∧ gvR (sF s 109 0 (Int32.ofInt 1)) = gvR s) ∨ (((Int32.ofInt 0)).toInt ≠ -3 ∧ fpl (thg s 0) = ((Int32.ofInt 0)).toNatClampNeg ∧ gvR (sF s 109 0 (Int32.ofInt 1)) = gqA (gvR s) ((Int32.ofInt 0)).toNatClampNeg x1 x2 x3 x4 x5 ∧ 0 ≤ ((Int32.ofInt 0)).toInt)) := by first | exact Or.inl ⟨rfl, (by first | (unfold HNR In; rw [show s.1 110 0 = z3x10 from e3x10.symm]; have a0 := oa5 i3x11 ((inv_F hI 0 2 rfl e_109_0)) i62 i11x1 ((in_c 1 rfl)); have oc := oc_282_109; omega) | (unfold HNR In; have a0 := oa5 i3x11 ((inv_F hI 0 2 rfl e_109_0)) i62 i11x1 ((in_c 1 rfl)); have oc := oc_282_109; omega)), (gvR_cg (L := ([], [], [(109, 0)], [])) (fr_sF rfl fr_rf) rfl)⟩ | exact Or.inr (Or.inl ⟨rfl, ⟨⟨by have a0 := oa5 i3x11 ((inv_F hI 0 2 rfl e_109_0)) i62 i11x1 ((in_c 1 rfl)); have oc := oc_282_109; omega, by rw [show s.1 110 0 = z3x10 from e3x10.symm]; have a0 := oa5 i3x11 ((inv_F hI 0 2 rfl e_109_0)) i62 i11x1 ((in_c 1 rfl)); have oc := oc_282_109; omega⟩, ⟨by have a0 := oa5 i3x11 ((inv_F hI 0 2 rfl e_109_0)) i62 i11x1 ((in_c 1 rfl)); have oc := oc_282_109; omega, by rw [show s.1 110 0 = z3x10 from e3x10.symm]; have a0 := oa5 i3x11 ((inv_F hI 0 2 rfl e_109_0)) i62 i11x1 ((in_c 1 rfl)); have oc := oc_282_109; omega⟩, ⟨by have a0 := oa5 i3x11 ((inv_F hI 0 2 rfl e_109_0)) i62 i11x1 ((in_c 1 rfl)); have oc := oc_282_109; omega, by have a0 := oa5 i3x11 ((inv_F hI 0 2 rfl e_109_0)) i62 i11x1 ((in_c 1 rfl)); have oc := oc_282_109; omega⟩, ⟨by have a0 := oa5 i3x11 ((inv_F hI 0 2 rfl e_109_0)) i62 i11x1 ((in_c 1 rfl)); have oc := oc_282_109; omega, by have a0 := oa5 i3x11 ((inv_F hI 0 2 rfl e_109_0)) i62 i11x1 ((in_c 1 rfl)); have oc := oc_282_109; omega⟩, ⟨by have a0 := oa5 i3x11 ((inv_F hI 0 2 rfl e_109_0)) i62 i11x1 ((in_c 1 rfl)); have oc := oc_282_109; omega, by have a0 := oa5 i3x11 ((inv_F hI 0 2 rfl e_109_0)) i62 i11x1 ((in_c 1 rfl)); have oc := oc_282_109; omega⟩⟩, (by rw [← e_109_9]; have a0 := oa5 i3x11 ((inv_F hI 0 2 rfl e_109_0)) i62 i11x1 ((in_c 1 rfl)); have oc := oc_282_109; omega), (gvR_cg (L := ([], [], [(109, 0)], [])) (fr_sF rfl fr_rf) rfl)⟩)
                    have n77a : LGX s (sF s 109 0 (Int32.ofInt 1)) (Int32.ofInt 1) (Int32.ofInt 0) x1 x2 x3 x4 x5 := by exact Or.inl ⟨rfl, rfl, rfl, rfl, rfl, rfl, rfl, rfl⟩
                    have n77b : GSE s → GSE (sF s 109 0 (Int32.ofInt 1)) := by exact fun h => gse_fr (L := ([], [], [(109, 0)], [])) h (fr_sF rfl fr_rf) rfl
                    have n77c : G1S s (sF s 109 0 (Int32.ofInt 1)) := by exact ⟨rfl, fun _ _ => rfl, fun _ _ _ => ⟨rfl, rfl, rfl, rfl, rfl, rfl⟩⟩
                    exact g_ireturn (gd rfl) rfl rfl (hP _ _ ⟨(sF s 109 0 (Int32.ofInt 1)), hI70x18, (fr_sF rfl fr_rf), (Int32.ofInt 0), rfl, rfl, in_w (-3) 159 (in_c 0 rfl) rfl, n77, n77a, n77b, n77c⟩)
            · skip
              have i62 := r_lt1 0 3999 c62 (inv_F hI 0 4000 rfl e_109_9) (in_c 4000 rfl) rfl
              refine g_iconst 1 66 (gd rfl) rfl rfl ?_
              refine g_goto 70 (gd rfl) rfl ?_
              refine g_callv (X := _) (As := [.int (Int32.ofInt 0), .int (Int32.ofInt 1)]) (r := []) (b := A 109) (q := 109) 73 (gd rfl) rfl rfl rfl rfl rfl (ww_o rfl) (Nat.le_of_ble_eq_true rfl) (mc := 0) (ms := 0) (Nat.zero_le _) (Nat.zero_le _) (P := fun v u => _) ?_ (fun e u h => h) (fun v u h => h)
              intro po70 xx70 hp70 hx70
              refine g_enter2 (k := 270) (N := 300) (by first | exact dq1 hd rfl | exact dq0 hd rfl | exact dq2 hd rfl | exact dq3 hd rfl | omega) rfl (Nat.le_of_ble_eq_true rfl) ?_
              refine g_aload_n 1 (gd rfl) rfl rfl ?_
              refine g_iload_n 2 (gd rfl) rfl rfl ?_
              refine g_if_ne 5 9 (gd rfl) rfl rfl (fun c70x2 => ?_) (fun c70x2 => ?_)
              · skip
                exact zn_ne c70x2 (in_c 0 rfl) rfl
              · skip
                refine g_iconst 1 6 (gd rfl) rfl rfl ?_
                refine g_goto 18 (gd rfl) rfl ?_
                refine g_putI 21 (gd rfl) rfl rfl rfl rfl ?_
                have hI70x18 := inv_sF (q := 109) (j := 0) hI rfl (in_w 0 2 (in_c 1 rfl) rfl)
                refine g_aload_n 22 (gd rfl) rfl rfl ?_
                refine g_getI 25 (gd rfl) rfl rfl rfl (fun z70x22 e70x22 => ?_)
                have q70x22 : (Int32.ofInt 1) = z70x22 := (sF_get).trans e70x22.symm
                subst q70x22
                refine g_if_le 28 32 (gd rfl) rfl rfl (fun c70x25 => ?_) (fun c70x25 => ?_)
                · skip
                  exact zn_le c70x25 (in_c 1 rfl) rfl
                · skip
                  refine g_iconst 1 29 (gd rfl) rfl rfl ?_
                  refine g_goto 33 (gd rfl) rfl ?_
                  refine g_ireturn (gd rfl) rfl (nb01 (in_w 0 1 (in_c 1 rfl) rfl)) (hp70 _ _ ?_)
                  show GG _ _ _ _ _ _ _ _ [.int (Int32.ofInt 1)] _ _ _
                  refine g_if_eq 76 78 (gd rfl) rfl rfl (fun c73 => ?_) (fun c73 => ?_)
                  · skip
                    exact zn_eq c73 (in_c 1 rfl) rfl
                  · skip
                    refine g_iconst 0 77 (gd rfl) rfl rfl ?_
                    have n77 : CDR s (sF s 109 0 (Int32.ofInt 1)) (HNR s x1 ∧ HNR s x2 ∧ In x3 (-1000000) 1000000 ∧ In x4 0 1000000 ∧ In x5 0 25) ((s.2.2.1 109 9).toInt ≤ 3999) ((((Int32.ofInt 0)).toInt = -3 ∧ fpl (thg s 0) = 160 ∧ gvR (sF s 109 0 (Int32.ofInt 1)) = gvR s) ∨ (((Int32.ofInt 0)).toInt ≠ -3 ∧ fpl (thg s 0) = ((Int32.ofInt 0)).toNatClampNeg ∧ gvR (sF s 109 0 (Int32.ofInt 1)) = gqA (gvR s) ((Int32.ofInt 0)).toNatClampNeg x1 x2 x3 x4 x5 ∧ 0 ≤ ((Int32.ofInt 0)).toInt)) := by first | exact Or.inl ⟨rfl, (by first | (unfold HNR In; rw [show s.1 110 0 = z3x10 from e3x10.symm]; have a0 := oa5 i3x11 ((inv_F hI 0 2 rfl e_109_0)) i62 i11x1 ((in_c 1 rfl)); have oc := oc_282_109; omega) | (unfold HNR In; have a0 := oa5 i3x11 ((inv_F hI 0 2 rfl e_109_0)) i62 i11x1 ((in_c 1 rfl)); have oc := oc_282_109; omega)), (gvR_cg (L := ([], [], [(109, 0)], [])) (fr_sF rfl fr_rf) rfl)⟩ | exact Or.inr (Or.inl ⟨rfl, ⟨⟨by have a0 := oa5 i3x11 ((inv_F hI 0 2 rfl e_109_0)) i62 i11x1 ((in_c 1 rfl)); have oc := oc_282_109; omega, by rw [show s.1 110 0 = z3x10 from e3x10.symm]; have a0 := oa5 i3x11 ((inv_F hI 0 2 rfl e_109_0)) i62 i11x1 ((in_c 1 rfl)); have oc := oc_282_109; omega⟩, ⟨by have a0 := oa5 i3x11 ((inv_F hI 0 2 rfl e_109_0)) i62 i11x1 ((in_c 1 rfl)); have oc := oc_282_109; omega, by rw [show s.1 110 0 = z3x10 from e3x10.symm]; have a0 := oa5 i3x11 ((inv_F hI 0 2 rfl e_109_0)) i62 i11x1 ((in_c 1 rfl)); have oc := oc_282_109; omega⟩, ⟨by have a0 := oa5 i3x11 ((inv_F hI 0 2 rfl e_109_0)) i62 i11x1 ((in_c 1 rfl)); have oc := oc_282_109; omega, by have a0 := oa5 i3x11 ((inv_F hI 0 2 rfl e_109_0)) i62 i11x1 ((in_c 1 rfl)); have oc := oc_282_109; omega⟩, ⟨by have a0 := oa5 i3x11 ((inv_F hI 0 2 rfl e_109_0)) i62 i11x1 ((in_c 1 rfl)); have oc := oc_282_109; omega, by have a0 := oa5 i3x11 ((inv_F hI 0 2 rfl e_109_0)) i62 i11x1 ((in_c 1 rfl)); have oc := oc_282_109; omega⟩, ⟨by have a0 := oa5 i3x11 ((inv_F hI 0 2 rfl e_109_0)) i62 i11x1 ((in_c 1 rfl)); have oc := oc_282_109; omega, by have a0 := oa5 i3x11 ((inv_F hI 0 2 rfl e_109_0)) i62 i11x1 ((in_c 1 rfl)); have oc := oc_282_109; omega⟩⟩, (by rw [← e_109_9]; have a0 := oa5 i3x11 ((inv_F hI 0 2 rfl e_109_0)) i62 i11x1 ((in_c 1 rfl)); have oc := oc_282_109; omega), (gvR_cg (L := ([], [], [(109, 0)], [])) (fr_sF rfl fr_rf) rfl)⟩)
                    have n77a : LGX s (sF s 109 0 (Int32.ofInt 1)) (Int32.ofInt 1) (Int32.ofInt 0) x1 x2 x3 x4 x5 := by exact Or.inl ⟨rfl, rfl, rfl, rfl, rfl, rfl, rfl, rfl⟩
                    have n77b : GSE s → GSE (sF s 109 0 (Int32.ofInt 1)) := by exact fun h => gse_fr (L := ([], [], [(109, 0)], [])) h (fr_sF rfl fr_rf) rfl
                    have n77c : G1S s (sF s 109 0 (Int32.ofInt 1)) := by exact ⟨rfl, fun _ _ => rfl, fun _ _ _ => ⟨rfl, rfl, rfl, rfl, rfl, rfl⟩⟩
                    exact g_ireturn (gd rfl) rfl rfl (hP _ _ ⟨(sF s 109 0 (Int32.ofInt 1)), hI70x18, (fr_sF rfl fr_rf), (Int32.ofInt 0), rfl, rfl, in_w (-3) 159 (in_c 0 rfl) rfl, n77, n77a, n77b, n77c⟩)
          · skip
            exact zn_ne c14 (in_c 0 rfl) rfl
        · skip
          have i11x1 := z_ge 0 2147483647 c11x1 (i_rng x2) rfl
          refine g_iload_n 5 (gd rfl) rfl rfl ?_
          refine g_aload_n 6 (gd rfl) rfl rfl ?_
          refine g_getA (q2 := 110) 9 (gd rfl) rfl rfl rfl rfl ?_
          refine g_iconst 0 10 (gd rfl) rfl rfl ?_
          refine g_iaload 11 (gd rfl) rfl (n := 3) rfl (in_ix (in_c 0 rfl) rfl) (fun z11x10 e11x10 => ?_)
          have q11x10 : z3x10 = z11x10 := (e3x10).trans e11x10.symm
          subst q11x10
          refine g_cmp_ge 14 18 (gd rfl) rfl rfl (fun c11x11 => ?_) (fun c11x11 => ?_)
          · skip
            have i11x11 := r_le2 1 2147483647 c11x11 i3x11a i11x1 rfl
            refine g_iconst 0 19 (gd rfl) rfl rfl ?_
            refine g_ireturn (gd rfl) rfl (nb01 (in_w 0 1 (in_c 0 rfl) rfl)) (hp11 _ _ ?_)
            show GG _ _ _ _ _ _ _ _ [.int (Int32.ofInt 0), .ref (A 109)] _ _ _
            refine g_if_eq 17 54 (gd rfl) rfl rfl (fun c14 => ?_) (fun c14 => ?_)
            · skip
              refine g_iconst 0 55 (gd rfl) rfl rfl ?_
              refine g_aload_n 56 (gd rfl) rfl rfl ?_
              refine g_getI 59 (gd rfl) rfl rfl rfl (fun z56 e56 => ?_)
              have q56 : u_109_9 = z56 := (e_109_9).trans e56.symm
              subst q56
              refine g_sipush 4000 62 (gd rfl) rfl rfl ?_
              refine g_cmp_ge 65 69 (gd rfl) rfl rfl (fun c62 => ?_) (fun c62 => ?_)
              · skip
                have i62 := r_le2 4000 4000 c62 (in_c 4000 rfl) (inv_F hI 0 4000 rfl e_109_9) rfl
                refine g_iconst 0 70 (gd rfl) rfl rfl ?_
                refine g_callv (X := _) (As := [.int (Int32.ofInt 0), .int (Int32.ofInt 0)]) (r := []) (b := A 109) (q := 109) 73 (gd rfl) rfl rfl rfl rfl rfl (ww_o rfl) (Nat.le_of_ble_eq_true rfl) (mc := 0) (ms := 0) (Nat.zero_le _) (Nat.zero_le _) (P := fun v u => _) ?_ (fun e u h => h) (fun v u h => h)
                intro po70 xx70 hp70 hx70
                refine g_enter2 (k := 270) (N := 300) (by first | exact dq1 hd rfl | exact dq0 hd rfl | exact dq2 hd rfl | exact dq3 hd rfl | omega) rfl (Nat.le_of_ble_eq_true rfl) ?_
                refine g_aload_n 1 (gd rfl) rfl rfl ?_
                refine g_iload_n 2 (gd rfl) rfl rfl ?_
                refine g_if_ne 5 9 (gd rfl) rfl rfl (fun c70x2 => ?_) (fun c70x2 => ?_)
                · skip
                  exact zn_ne c70x2 (in_c 0 rfl) rfl
                · skip
                  refine g_iconst 1 6 (gd rfl) rfl rfl ?_
                  refine g_goto 18 (gd rfl) rfl ?_
                  refine g_putI 21 (gd rfl) rfl rfl rfl rfl ?_
                  have hI70x18 := inv_sF (q := 109) (j := 0) hI rfl (in_w 0 2 (in_c 1 rfl) rfl)
                  refine g_aload_n 22 (gd rfl) rfl rfl ?_
                  refine g_getI 25 (gd rfl) rfl rfl rfl (fun z70x22 e70x22 => ?_)
                  have q70x22 : (Int32.ofInt 1) = z70x22 := (sF_get).trans e70x22.symm
                  subst q70x22
                  refine g_if_le 28 32 (gd rfl) rfl rfl (fun c70x25 => ?_) (fun c70x25 => ?_)
                  · skip
                    exact zn_le c70x25 (in_c 1 rfl) rfl
                  · skip
                    refine g_iconst 1 29 (gd rfl) rfl rfl ?_
                    refine g_goto 33 (gd rfl) rfl ?_
                    refine g_ireturn (gd rfl) rfl (nb01 (in_w 0 1 (in_c 1 rfl) rfl)) (hp70 _ _ ?_)
                    show GG _ _ _ _ _ _ _ _ [.int (Int32.ofInt 1)] _ _ _
                    refine g_if_eq 76 78 (gd rfl) rfl rfl (fun c73 => ?_) (fun c73 => ?_)
                    · skip
                      exact zn_eq c73 (in_c 1 rfl) rfl
                    · skip
                      refine g_iconst 0 77 (gd rfl) rfl rfl ?_
                      have n77 : CDR s (sF s 109 0 (Int32.ofInt 1)) (HNR s x1 ∧ HNR s x2 ∧ In x3 (-1000000) 1000000 ∧ In x4 0 1000000 ∧ In x5 0 25) ((s.2.2.1 109 9).toInt ≤ 3999) ((((Int32.ofInt 0)).toInt = -3 ∧ fpl (thg s 0) = 160 ∧ gvR (sF s 109 0 (Int32.ofInt 1)) = gvR s) ∨ (((Int32.ofInt 0)).toInt ≠ -3 ∧ fpl (thg s 0) = ((Int32.ofInt 0)).toNatClampNeg ∧ gvR (sF s 109 0 (Int32.ofInt 1)) = gqA (gvR s) ((Int32.ofInt 0)).toNatClampNeg x1 x2 x3 x4 x5 ∧ 0 ≤ ((Int32.ofInt 0)).toInt)) := by first | exact Or.inl ⟨rfl, (by first | (unfold HNR In; rw [show s.1 110 0 = z3x10 from e3x10.symm]; have a0 := oa5 i3x11 ((inv_F hI 0 2 rfl e_109_0)) i62 i11x11 ((in_c 1 rfl)); have oc := oc_282_109; omega) | (unfold HNR In; have a0 := oa5 i3x11 ((inv_F hI 0 2 rfl e_109_0)) i62 i11x11 ((in_c 1 rfl)); have oc := oc_282_109; omega)), (gvR_cg (L := ([], [], [(109, 0)], [])) (fr_sF rfl fr_rf) rfl)⟩ | exact Or.inr (Or.inl ⟨rfl, ⟨⟨by have a0 := oa5 i3x11 ((inv_F hI 0 2 rfl e_109_0)) i62 i11x11 ((in_c 1 rfl)); have oc := oc_282_109; omega, by rw [show s.1 110 0 = z3x10 from e3x10.symm]; have a0 := oa5 i3x11 ((inv_F hI 0 2 rfl e_109_0)) i62 i11x11 ((in_c 1 rfl)); have oc := oc_282_109; omega⟩, ⟨by have a0 := oa5 i3x11 ((inv_F hI 0 2 rfl e_109_0)) i62 i11x11 ((in_c 1 rfl)); have oc := oc_282_109; omega, by rw [show s.1 110 0 = z3x10 from e3x10.symm]; have a0 := oa5 i3x11 ((inv_F hI 0 2 rfl e_109_0)) i62 i11x11 ((in_c 1 rfl)); have oc := oc_282_109; omega⟩, ⟨by have a0 := oa5 i3x11 ((inv_F hI 0 2 rfl e_109_0)) i62 i11x11 ((in_c 1 rfl)); have oc := oc_282_109; omega, by have a0 := oa5 i3x11 ((inv_F hI 0 2 rfl e_109_0)) i62 i11x11 ((in_c 1 rfl)); have oc := oc_282_109; omega⟩, ⟨by have a0 := oa5 i3x11 ((inv_F hI 0 2 rfl e_109_0)) i62 i11x11 ((in_c 1 rfl)); have oc := oc_282_109; omega, by have a0 := oa5 i3x11 ((inv_F hI 0 2 rfl e_109_0)) i62 i11x11 ((in_c 1 rfl)); have oc := oc_282_109; omega⟩, ⟨by have a0 := oa5 i3x11 ((inv_F hI 0 2 rfl e_109_0)) i62 i11x11 ((in_c 1 rfl)); have oc := oc_282_109; omega, by have a0 := oa5 i3x11 ((inv_F hI 0 2 rfl e_109_0)) i62 i11x11 ((in_c 1 rfl)); have oc := oc_282_109; omega⟩⟩, (by rw [← e_109_9]; have a0 := oa5 i3x11 ((inv_F hI 0 2 rfl e_109_0)) i62 i11x11 ((in_c 1 rfl)); have oc := oc_282_109; omega), (gvR_cg (L := ([], [], [(109, 0)], [])) (fr_sF rfl fr_rf) rfl)⟩)
                      have n77a : LGX s (sF s 109 0 (Int32.ofInt 1)) (Int32.ofInt 1) (Int32.ofInt 0) x1 x2 x3 x4 x5 := by exact Or.inl ⟨rfl, rfl, rfl, rfl, rfl, rfl, rfl, rfl⟩
                      have n77b : GSE s → GSE (sF s 109 0 (Int32.ofInt 1)) := by exact fun h => gse_fr (L := ([], [], [(109, 0)], [])) h (fr_sF rfl fr_rf) rfl
                      have n77c : G1S s (sF s 109 0 (Int32.ofInt 1)) := by exact ⟨rfl, fun _ _ => rfl, fun _ _ _ => ⟨rfl, rfl, rfl, rfl, rfl, rfl⟩⟩
                      exact g_ireturn (gd rfl) rfl rfl (hP _ _ ⟨(sF s 109 0 (Int32.ofInt 1)), hI70x18, (fr_sF rfl fr_rf), (Int32.ofInt 0), rfl, rfl, in_w (-3) 159 (in_c 0 rfl) rfl, n77, n77a, n77b, n77c⟩)
              · skip
                have i62 := r_lt1 0 3999 c62 (inv_F hI 0 4000 rfl e_109_9) (in_c 4000 rfl) rfl
                refine g_iconst 1 66 (gd rfl) rfl rfl ?_
                refine g_goto 70 (gd rfl) rfl ?_
                refine g_callv (X := _) (As := [.int (Int32.ofInt 0), .int (Int32.ofInt 1)]) (r := []) (b := A 109) (q := 109) 73 (gd rfl) rfl rfl rfl rfl rfl (ww_o rfl) (Nat.le_of_ble_eq_true rfl) (mc := 0) (ms := 0) (Nat.zero_le _) (Nat.zero_le _) (P := fun v u => _) ?_ (fun e u h => h) (fun v u h => h)
                intro po70 xx70 hp70 hx70
                refine g_enter2 (k := 270) (N := 300) (by first | exact dq1 hd rfl | exact dq0 hd rfl | exact dq2 hd rfl | exact dq3 hd rfl | omega) rfl (Nat.le_of_ble_eq_true rfl) ?_
                refine g_aload_n 1 (gd rfl) rfl rfl ?_
                refine g_iload_n 2 (gd rfl) rfl rfl ?_
                refine g_if_ne 5 9 (gd rfl) rfl rfl (fun c70x2 => ?_) (fun c70x2 => ?_)
                · skip
                  exact zn_ne c70x2 (in_c 0 rfl) rfl
                · skip
                  refine g_iconst 1 6 (gd rfl) rfl rfl ?_
                  refine g_goto 18 (gd rfl) rfl ?_
                  refine g_putI 21 (gd rfl) rfl rfl rfl rfl ?_
                  have hI70x18 := inv_sF (q := 109) (j := 0) hI rfl (in_w 0 2 (in_c 1 rfl) rfl)
                  refine g_aload_n 22 (gd rfl) rfl rfl ?_
                  refine g_getI 25 (gd rfl) rfl rfl rfl (fun z70x22 e70x22 => ?_)
                  have q70x22 : (Int32.ofInt 1) = z70x22 := (sF_get).trans e70x22.symm
                  subst q70x22
                  refine g_if_le 28 32 (gd rfl) rfl rfl (fun c70x25 => ?_) (fun c70x25 => ?_)
                  · skip
                    exact zn_le c70x25 (in_c 1 rfl) rfl
                  · skip
                    refine g_iconst 1 29 (gd rfl) rfl rfl ?_
                    refine g_goto 33 (gd rfl) rfl ?_
                    refine g_ireturn (gd rfl) rfl (nb01 (in_w 0 1 (in_c 1 rfl) rfl)) (hp70 _ _ ?_)
                    show GG _ _ _ _ _ _ _ _ [.int (Int32.ofInt 1)] _ _ _
                    refine g_if_eq 76 78 (gd rfl) rfl rfl (fun c73 => ?_) (fun c73 => ?_)
                    · skip
                      exact zn_eq c73 (in_c 1 rfl) rfl
                    · skip
                      refine g_iconst 0 77 (gd rfl) rfl rfl ?_
                      have n77 : CDR s (sF s 109 0 (Int32.ofInt 1)) (HNR s x1 ∧ HNR s x2 ∧ In x3 (-1000000) 1000000 ∧ In x4 0 1000000 ∧ In x5 0 25) ((s.2.2.1 109 9).toInt ≤ 3999) ((((Int32.ofInt 0)).toInt = -3 ∧ fpl (thg s 0) = 160 ∧ gvR (sF s 109 0 (Int32.ofInt 1)) = gvR s) ∨ (((Int32.ofInt 0)).toInt ≠ -3 ∧ fpl (thg s 0) = ((Int32.ofInt 0)).toNatClampNeg ∧ gvR (sF s 109 0 (Int32.ofInt 1)) = gqA (gvR s) ((Int32.ofInt 0)).toNatClampNeg x1 x2 x3 x4 x5 ∧ 0 ≤ ((Int32.ofInt 0)).toInt)) := by first | exact Or.inl ⟨rfl, (by first | (unfold HNR In; rw [show s.1 110 0 = z3x10 from e3x10.symm]; have a0 := oa5 i3x11 ((inv_F hI 0 2 rfl e_109_0)) i62 i11x11 ((in_c 1 rfl)); have oc := oc_282_109; omega) | (unfold HNR In; have a0 := oa5 i3x11 ((inv_F hI 0 2 rfl e_109_0)) i62 i11x11 ((in_c 1 rfl)); have oc := oc_282_109; omega)), (gvR_cg (L := ([], [], [(109, 0)], [])) (fr_sF rfl fr_rf) rfl)⟩ | exact Or.inr (Or.inl ⟨rfl, ⟨⟨by have a0 := oa5 i3x11 ((inv_F hI 0 2 rfl e_109_0)) i62 i11x11 ((in_c 1 rfl)); have oc := oc_282_109; omega, by rw [show s.1 110 0 = z3x10 from e3x10.symm]; have a0 := oa5 i3x11 ((inv_F hI 0 2 rfl e_109_0)) i62 i11x11 ((in_c 1 rfl)); have oc := oc_282_109; omega⟩, ⟨by have a0 := oa5 i3x11 ((inv_F hI 0 2 rfl e_109_0)) i62 i11x11 ((in_c 1 rfl)); have oc := oc_282_109; omega, by rw [show s.1 110 0 = z3x10 from e3x10.symm]; have a0 := oa5 i3x11 ((inv_F hI 0 2 rfl e_109_0)) i62 i11x11 ((in_c 1 rfl)); have oc := oc_282_109; omega⟩, ⟨by have a0 := oa5 i3x11 ((inv_F hI 0 2 rfl e_109_0)) i62 i11x11 ((in_c 1 rfl)); have oc := oc_282_109; omega, by have a0 := oa5 i3x11 ((inv_F hI 0 2 rfl e_109_0)) i62 i11x11 ((in_c 1 rfl)); have oc := oc_282_109; omega⟩, ⟨by have a0 := oa5 i3x11 ((inv_F hI 0 2 rfl e_109_0)) i62 i11x11 ((in_c 1 rfl)); have oc := oc_282_109; omega, by have a0 := oa5 i3x11 ((inv_F hI 0 2 rfl e_109_0)) i62 i11x11 ((in_c 1 rfl)); have oc := oc_282_109; omega⟩, ⟨by have a0 := oa5 i3x11 ((inv_F hI 0 2 rfl e_109_0)) i62 i11x11 ((in_c 1 rfl)); have oc := oc_282_109; omega, by have a0 := oa5 i3x11 ((inv_F hI 0 2 rfl e_109_0)) i62 i11x11 ((in_c 1 rfl)); have oc := oc_282_109; omega⟩⟩, (by rw [← e_109_9]; have a0 := oa5 i3x11 ((inv_F hI 0 2 rfl e_109_0)) i62 i11x11 ((in_c 1 rfl)); have oc := oc_282_109; omega), (gvR_cg (L := ([], [], [(109, 0)], [])) (fr_sF rfl fr_rf) rfl)⟩)
                      have n77a : LGX s (sF s 109 0 (Int32.ofInt 1)) (Int32.ofInt 1) (Int32.ofInt 0) x1 x2 x3 x4 x5 := by exact Or.inl ⟨rfl, rfl, rfl, rfl, rfl, rfl, rfl, rfl⟩
                      have n77b : GSE s → GSE (sF s 109 0 (Int32.ofInt 1)) := by exact fun h => gse_fr (L := ([], [], [(109, 0)], [])) h (fr_sF rfl fr_rf) rfl
                      have n77c : G1S s (sF s 109 0 (Int32.ofInt 1)) := by exact ⟨rfl, fun _ _ => rfl, fun _ _ _ => ⟨rfl, rfl, rfl, rfl, rfl, rfl⟩⟩
                      exact g_ireturn (gd rfl) rfl rfl (hP _ _ ⟨(sF s 109 0 (Int32.ofInt 1)), hI70x18, (fr_sF rfl fr_rf), (Int32.ofInt 0), rfl, rfl, in_w (-3) 159 (in_c 0 rfl) rfl, n77, n77a, n77b, n77c⟩)
            · skip
              exact zn_ne c14 (in_c 0 rfl) rfl
          · skip
            have i11x11 := r_lt1 0 31 c11x11 i11x1 i3x11a rfl
            refine g_iconst 1 15 (gd rfl) rfl rfl ?_
            refine g_goto 19 (gd rfl) rfl ?_
            refine g_ireturn (gd rfl) rfl (nb01 (in_w 0 1 (in_c 1 rfl) rfl)) (hp11 _ _ ?_)
            show GG _ _ _ _ _ _ _ _ [.int (Int32.ofInt 1), .ref (A 109)] _ _ _
            refine g_if_eq 17 54 (gd rfl) rfl rfl (fun c14 => ?_) (fun c14 => ?_)
            · skip
              exact zn_eq c14 (in_c 1 rfl) rfl
            · skip
              refine g_iload_n 18 (gd rfl) rfl rfl ?_
              refine g_calls (As := [.int x3]) (r := [.ref (A 109)]) 21 (gd rfl) rfl rfl rfl rfl rfl (Nat.le_of_ble_eq_true rfl) (mc := 0) (ms := 0) (Nat.zero_le _) (Nat.zero_le _) (P := fun v u => _) ?_ (fun v u h => h)
              intro po18 xx18 hp18 hx18
              refine g_enter2 (k := 279) (N := 300) (by first | exact dq1 hd rfl | exact dq0 hd rfl | exact dq2 hd rfl | exact dq3 hd rfl | omega) rfl (Nat.le_of_ble_eq_true rfl) ?_
              refine g_iload_n 1 (gd rfl) rfl rfl ?_
              refine g_i2l 2 (gd rfl) rfl (fun z18x1 e18x1 => ?_)
              have i18x1 := l_i e18x1 (i_rng x3)
              refine g_ldc2_w (-1000000) 5 (gd rfl) rfl rfl ?_
              refine g_ldc2_w 1000000 8 (gd rfl) rfl rfl ?_
              refine g_calls (As := [.long z18x1, .long (Int64.ofInt (-1000000)), .long (Int64.ofInt 1000000)]) (r := []) 11 (gd rfl) rfl rfl rfl rfl rfl (Nat.le_of_ble_eq_true rfl) (mc := 0) (ms := 0) (Nat.zero_le _) (Nat.zero_le _) (P := fun v u => _) ?_ (fun v u h => h)
              intro po18x8 xx18x8 hp18x8 hx18x8
              refine g_enter2 (k := 269) (N := 300) (by first | exact dq1 hd rfl | exact dq0 hd rfl | exact dq2 hd rfl | exact dq3 hd rfl | omega) rfl (Nat.le_of_ble_eq_true rfl) ?_
              refine g_lload_n 1 (gd rfl) rfl rfl ?_
              refine g_lload_n 2 (gd rfl) rfl rfl ?_
              refine g_lcmp 3 (gd rfl) rfl (fun z18x8x2 e18x8x2 => ?_)
              have i18x8x2 := lc_in e18x8x2
              refine g_if_lt 6 17 (gd rfl) rfl rfl (fun c18x8x3 => ?_) (fun c18x8x3 => ?_)
              · skip
                have i18x8x3 := z_lt (-1) (-1) c18x8x3 i18x8x2 rfl
                have c18x8x3a := lc_lt e18x8x2 c18x8x3
                have i18x8x3a := lr_lt1 (-2147483648) (-1000001) c18x8x3a i18x1 (l_c (-1000000) rfl) rfl
                have i18x8x3b := l_b e18x1 i18x8x3a
                refine g_iconst 0 18 (gd rfl) rfl rfl ?_
                refine g_ireturn (gd rfl) rfl (nb01 (in_w 0 1 (in_c 0 rfl) rfl)) (hp18x8 _ _ ?_)
                show GG _ _ _ _ _ _ _ _ [.int (Int32.ofInt 0)] _ _ _
                refine g_ireturn (gd rfl) rfl (nb01 (in_w 0 1 (in_c 0 rfl) rfl)) (hp18 _ _ ?_)
                show GG _ _ _ _ _ _ _ _ [.int (Int32.ofInt 0), .ref (A 109)] _ _ _
                refine g_if_eq 24 54 (gd rfl) rfl rfl (fun c21 => ?_) (fun c21 => ?_)
                · skip
                  refine g_iconst 0 55 (gd rfl) rfl rfl ?_
                  refine g_aload_n 56 (gd rfl) rfl rfl ?_
                  refine g_getI 59 (gd rfl) rfl rfl rfl (fun z56 e56 => ?_)
                  have q56 : u_109_9 = z56 := (e_109_9).trans e56.symm
                  subst q56
                  refine g_sipush 4000 62 (gd rfl) rfl rfl ?_
                  refine g_cmp_ge 65 69 (gd rfl) rfl rfl (fun c62 => ?_) (fun c62 => ?_)
                  · skip
                    have i62 := r_le2 4000 4000 c62 (in_c 4000 rfl) (inv_F hI 0 4000 rfl e_109_9) rfl
                    refine g_iconst 0 70 (gd rfl) rfl rfl ?_
                    refine g_callv (X := _) (As := [.int (Int32.ofInt 0), .int (Int32.ofInt 0)]) (r := []) (b := A 109) (q := 109) 73 (gd rfl) rfl rfl rfl rfl rfl (ww_o rfl) (Nat.le_of_ble_eq_true rfl) (mc := 0) (ms := 0) (Nat.zero_le _) (Nat.zero_le _) (P := fun v u => _) ?_ (fun e u h => h) (fun v u h => h)
                    intro po70 xx70 hp70 hx70
                    refine g_enter2 (k := 270) (N := 300) (by first | exact dq1 hd rfl | exact dq0 hd rfl | exact dq2 hd rfl | exact dq3 hd rfl | omega) rfl (Nat.le_of_ble_eq_true rfl) ?_
                    refine g_aload_n 1 (gd rfl) rfl rfl ?_
                    refine g_iload_n 2 (gd rfl) rfl rfl ?_
                    refine g_if_ne 5 9 (gd rfl) rfl rfl (fun c70x2 => ?_) (fun c70x2 => ?_)
                    · skip
                      exact zn_ne c70x2 (in_c 0 rfl) rfl
                    · skip
                      refine g_iconst 1 6 (gd rfl) rfl rfl ?_
                      refine g_goto 18 (gd rfl) rfl ?_
                      refine g_putI 21 (gd rfl) rfl rfl rfl rfl ?_
                      have hI70x18 := inv_sF (q := 109) (j := 0) hI rfl (in_w 0 2 (in_c 1 rfl) rfl)
                      refine g_aload_n 22 (gd rfl) rfl rfl ?_
                      refine g_getI 25 (gd rfl) rfl rfl rfl (fun z70x22 e70x22 => ?_)
                      have q70x22 : (Int32.ofInt 1) = z70x22 := (sF_get).trans e70x22.symm
                      subst q70x22
                      refine g_if_le 28 32 (gd rfl) rfl rfl (fun c70x25 => ?_) (fun c70x25 => ?_)
                      · skip
                        exact zn_le c70x25 (in_c 1 rfl) rfl
                      · skip
                        refine g_iconst 1 29 (gd rfl) rfl rfl ?_
                        refine g_goto 33 (gd rfl) rfl ?_
                        refine g_ireturn (gd rfl) rfl (nb01 (in_w 0 1 (in_c 1 rfl) rfl)) (hp70 _ _ ?_)
                        show GG _ _ _ _ _ _ _ _ [.int (Int32.ofInt 1)] _ _ _
                        refine g_if_eq 76 78 (gd rfl) rfl rfl (fun c73 => ?_) (fun c73 => ?_)
                        · skip
                          exact zn_eq c73 (in_c 1 rfl) rfl
                        · skip
                          refine g_iconst 0 77 (gd rfl) rfl rfl ?_
                          have n77 : CDR s (sF s 109 0 (Int32.ofInt 1)) (HNR s x1 ∧ HNR s x2 ∧ In x3 (-1000000) 1000000 ∧ In x4 0 1000000 ∧ In x5 0 25) ((s.2.2.1 109 9).toInt ≤ 3999) ((((Int32.ofInt 0)).toInt = -3 ∧ fpl (thg s 0) = 160 ∧ gvR (sF s 109 0 (Int32.ofInt 1)) = gvR s) ∨ (((Int32.ofInt 0)).toInt ≠ -3 ∧ fpl (thg s 0) = ((Int32.ofInt 0)).toNatClampNeg ∧ gvR (sF s 109 0 (Int32.ofInt 1)) = gqA (gvR s) ((Int32.ofInt 0)).toNatClampNeg x1 x2 x3 x4 x5 ∧ 0 ≤ ((Int32.ofInt 0)).toInt)) := by first | exact Or.inl ⟨rfl, (by first | (unfold HNR In; rw [show s.1 110 0 = z3x10 from e3x10.symm]; have a0 := oa6 i11x11 i3x11 ((inv_F hI 0 2 rfl e_109_0)) i62 i18x8x3b ((in_c 1 rfl)); have a6 := tx_i2l e18x1; have oc := oc_282_109; omega) | (unfold HNR In; have a0 := oa6 i11x11 i3x11 ((inv_F hI 0 2 rfl e_109_0)) i62 i18x8x3b ((in_c 1 rfl)); have a6 := tx_i2l e18x1; have oc := oc_282_109; omega)), (gvR_cg (L := ([], [], [(109, 0)], [])) (fr_sF rfl fr_rf) rfl)⟩ | exact Or.inr (Or.inl ⟨rfl, ⟨⟨by have a0 := oa6 i11x11 i3x11 ((inv_F hI 0 2 rfl e_109_0)) i62 i18x8x3b ((in_c 1 rfl)); have a6 := tx_i2l e18x1; have oc := oc_282_109; omega, by rw [show s.1 110 0 = z3x10 from e3x10.symm]; have a0 := oa6 i11x11 i3x11 ((inv_F hI 0 2 rfl e_109_0)) i62 i18x8x3b ((in_c 1 rfl)); have a6 := tx_i2l e18x1; have oc := oc_282_109; omega⟩, ⟨by have a0 := oa6 i11x11 i3x11 ((inv_F hI 0 2 rfl e_109_0)) i62 i18x8x3b ((in_c 1 rfl)); have a6 := tx_i2l e18x1; have oc := oc_282_109; omega, by rw [show s.1 110 0 = z3x10 from e3x10.symm]; have a0 := oa6 i11x11 i3x11 ((inv_F hI 0 2 rfl e_109_0)) i62 i18x8x3b ((in_c 1 rfl)); have a6 := tx_i2l e18x1; have oc := oc_282_109; omega⟩, ⟨by have a0 := oa6 i11x11 i3x11 ((inv_F hI 0 2 rfl e_109_0)) i62 i18x8x3b ((in_c 1 rfl)); have a6 := tx_i2l e18x1; have oc := oc_282_109; omega, by have a0 := oa6 i11x11 i3x11 ((inv_F hI 0 2 rfl e_109_0)) i62 i18x8x3b ((in_c 1 rfl)); have a6 := tx_i2l e18x1; have oc := oc_282_109; omega⟩, ⟨by have a0 := oa6 i11x11 i3x11 ((inv_F hI 0 2 rfl e_109_0)) i62 i18x8x3b ((in_c 1 rfl)); have a6 := tx_i2l e18x1; have oc := oc_282_109; omega, by have a0 := oa6 i11x11 i3x11 ((inv_F hI 0 2 rfl e_109_0)) i62 i18x8x3b ((in_c 1 rfl)); have a6 := tx_i2l e18x1; have oc := oc_282_109; omega⟩, ⟨by have a0 := oa6 i11x11 i3x11 ((inv_F hI 0 2 rfl e_109_0)) i62 i18x8x3b ((in_c 1 rfl)); have a6 := tx_i2l e18x1; have oc := oc_282_109; omega, by have a0 := oa6 i11x11 i3x11 ((inv_F hI 0 2 rfl e_109_0)) i62 i18x8x3b ((in_c 1 rfl)); have a6 := tx_i2l e18x1; have oc := oc_282_109; omega⟩⟩, (by rw [← e_109_9]; have a0 := oa6 i11x11 i3x11 ((inv_F hI 0 2 rfl e_109_0)) i62 i18x8x3b ((in_c 1 rfl)); have a6 := tx_i2l e18x1; have oc := oc_282_109; omega), (gvR_cg (L := ([], [], [(109, 0)], [])) (fr_sF rfl fr_rf) rfl)⟩)
                          have n77a : LGX s (sF s 109 0 (Int32.ofInt 1)) (Int32.ofInt 1) (Int32.ofInt 0) x1 x2 x3 x4 x5 := by exact Or.inl ⟨rfl, rfl, rfl, rfl, rfl, rfl, rfl, rfl⟩
                          have n77b : GSE s → GSE (sF s 109 0 (Int32.ofInt 1)) := by exact fun h => gse_fr (L := ([], [], [(109, 0)], [])) h (fr_sF rfl fr_rf) rfl
                          have n77c : G1S s (sF s 109 0 (Int32.ofInt 1)) := by exact ⟨rfl, fun _ _ => rfl, fun _ _ _ => ⟨rfl, rfl, rfl, rfl, rfl, rfl⟩⟩
                          exact g_ireturn (gd rfl) rfl rfl (hP _ _ ⟨(sF s 109 0 (Int32.ofInt 1)), hI70x18, (fr_sF rfl fr_rf), (Int32.ofInt 0), rfl, rfl, in_w (-3) 159 (in_c 0 rfl) rfl, n77, n77a, n77b, n77c⟩)
                  · skip
                    have i62 := r_lt1 0 3999 c62 (inv_F hI 0 4000 rfl e_109_9) (in_c 4000 rfl) rfl
                    refine g_iconst 1 66 (gd rfl) rfl rfl ?_
                    refine g_goto 70 (gd rfl) rfl ?_
                    refine g_callv (X := _) (As := [.int (Int32.ofInt 0), .int (Int32.ofInt 1)]) (r := []) (b := A 109) (q := 109) 73 (gd rfl) rfl rfl rfl rfl rfl (ww_o rfl) (Nat.le_of_ble_eq_true rfl) (mc := 0) (ms := 0) (Nat.zero_le _) (Nat.zero_le _) (P := fun v u => _) ?_ (fun e u h => h) (fun v u h => h)
                    intro po70 xx70 hp70 hx70
                    refine g_enter2 (k := 270) (N := 300) (by first | exact dq1 hd rfl | exact dq0 hd rfl | exact dq2 hd rfl | exact dq3 hd rfl | omega) rfl (Nat.le_of_ble_eq_true rfl) ?_
                    refine g_aload_n 1 (gd rfl) rfl rfl ?_
                    refine g_iload_n 2 (gd rfl) rfl rfl ?_
                    refine g_if_ne 5 9 (gd rfl) rfl rfl (fun c70x2 => ?_) (fun c70x2 => ?_)
                    · skip
                      exact zn_ne c70x2 (in_c 0 rfl) rfl
                    · skip
                      refine g_iconst 1 6 (gd rfl) rfl rfl ?_
                      refine g_goto 18 (gd rfl) rfl ?_
                      refine g_putI 21 (gd rfl) rfl rfl rfl rfl ?_
                      have hI70x18 := inv_sF (q := 109) (j := 0) hI rfl (in_w 0 2 (in_c 1 rfl) rfl)
                      refine g_aload_n 22 (gd rfl) rfl rfl ?_
                      refine g_getI 25 (gd rfl) rfl rfl rfl (fun z70x22 e70x22 => ?_)
                      have q70x22 : (Int32.ofInt 1) = z70x22 := (sF_get).trans e70x22.symm
                      subst q70x22
                      refine g_if_le 28 32 (gd rfl) rfl rfl (fun c70x25 => ?_) (fun c70x25 => ?_)
                      · skip
                        exact zn_le c70x25 (in_c 1 rfl) rfl
                      · skip
                        refine g_iconst 1 29 (gd rfl) rfl rfl ?_
                        refine g_goto 33 (gd rfl) rfl ?_
                        refine g_ireturn (gd rfl) rfl (nb01 (in_w 0 1 (in_c 1 rfl) rfl)) (hp70 _ _ ?_)
                        show GG _ _ _ _ _ _ _ _ [.int (Int32.ofInt 1)] _ _ _
                        refine g_if_eq 76 78 (gd rfl) rfl rfl (fun c73 => ?_) (fun c73 => ?_)
                        · skip
                          exact zn_eq c73 (in_c 1 rfl) rfl
                        · skip
                          refine g_iconst 0 77 (gd rfl) rfl rfl ?_
                          have n77 : CDR s (sF s 109 0 (Int32.ofInt 1)) (HNR s x1 ∧ HNR s x2 ∧ In x3 (-1000000) 1000000 ∧ In x4 0 1000000 ∧ In x5 0 25) ((s.2.2.1 109 9).toInt ≤ 3999) ((((Int32.ofInt 0)).toInt = -3 ∧ fpl (thg s 0) = 160 ∧ gvR (sF s 109 0 (Int32.ofInt 1)) = gvR s) ∨ (((Int32.ofInt 0)).toInt ≠ -3 ∧ fpl (thg s 0) = ((Int32.ofInt 0)).toNatClampNeg ∧ gvR (sF s 109 0 (Int32.ofInt 1)) = gqA (gvR s) ((Int32.ofInt 0)).toNatClampNeg x1 x2 x3 x4 x5 ∧ 0 ≤ ((Int32.ofInt 0)).toInt)) := by first | exact Or.inl ⟨rfl, (by first | (unfold HNR In; rw [show s.1 110 0 = z3x10 from e3x10.symm]; have a0 := oa6 i11x11 i3x11 ((inv_F hI 0 2 rfl e_109_0)) i62 i18x8x3b ((in_c 1 rfl)); have a6 := tx_i2l e18x1; have oc := oc_282_109; omega) | (unfold HNR In; have a0 := oa6 i11x11 i3x11 ((inv_F hI 0 2 rfl e_109_0)) i62 i18x8x3b ((in_c 1 rfl)); have a6 := tx_i2l e18x1; have oc := oc_282_109; omega)), (gvR_cg (L := ([], [], [(109, 0)], [])) (fr_sF rfl fr_rf) rfl)⟩ | exact Or.inr (Or.inl ⟨rfl, ⟨⟨by have a0 := oa6 i11x11 i3x11 ((inv_F hI 0 2 rfl e_109_0)) i62 i18x8x3b ((in_c 1 rfl)); have a6 := tx_i2l e18x1; have oc := oc_282_109; omega, by rw [show s.1 110 0 = z3x10 from e3x10.symm]; have a0 := oa6 i11x11 i3x11 ((inv_F hI 0 2 rfl e_109_0)) i62 i18x8x3b ((in_c 1 rfl)); have a6 := tx_i2l e18x1; have oc := oc_282_109; omega⟩, ⟨by have a0 := oa6 i11x11 i3x11 ((inv_F hI 0 2 rfl e_109_0)) i62 i18x8x3b ((in_c 1 rfl)); have a6 := tx_i2l e18x1; have oc := oc_282_109; omega, by rw [show s.1 110 0 = z3x10 from e3x10.symm]; have a0 := oa6 i11x11 i3x11 ((inv_F hI 0 2 rfl e_109_0)) i62 i18x8x3b ((in_c 1 rfl)); have a6 := tx_i2l e18x1; have oc := oc_282_109; omega⟩, ⟨by have a0 := oa6 i11x11 i3x11 ((inv_F hI 0 2 rfl e_109_0)) i62 i18x8x3b ((in_c 1 rfl)); have a6 := tx_i2l e18x1; have oc := oc_282_109; omega, by have a0 := oa6 i11x11 i3x11 ((inv_F hI 0 2 rfl e_109_0)) i62 i18x8x3b ((in_c 1 rfl)); have a6 := tx_i2l e18x1; have oc := oc_282_109; omega⟩, ⟨by have a0 := oa6 i11x11 i3x11 ((inv_F hI 0 2 rfl e_109_0)) i62 i18x8x3b ((in_c 1 rfl)); have a6 := tx_i2l e18x1; have oc := oc_282_109; omega, by have a0 := oa6 i11x11 i3x11 ((inv_F hI 0 2 rfl e_109_0)) i62 i18x8x3b ((in_c 1 rfl)); have a6 := tx_i2l e18x1; have oc := oc_282_109; omega⟩, ⟨by have a0 := oa6 i11x11 i3x11 ((inv_F hI 0 2 rfl e_109_0)) i62 i18x8x3b ((in_c 1 rfl)); have a6 := tx_i2l e18x1; have oc := oc_282_109; omega, by have a0 := oa6 i11x11 i3x11 ((inv_F hI 0 2 rfl e_109_0)) i62 i18x8x3b ((in_c 1 rfl)); have a6 := tx_i2l e18x1; have oc := oc_282_109; omega⟩⟩, (by rw [← e_109_9]; have a0 := oa6 i11x11 i3x11 ((inv_F hI 0 2 rfl e_109_0)) i62 i18x8x3b ((in_c 1 rfl)); have a6 := tx_i2l e18x1; have oc := oc_282_109; omega), (gvR_cg (L := ([], [], [(109, 0)], [])) (fr_sF rfl fr_rf) rfl)⟩)
                          have n77a : LGX s (sF s 109 0 (Int32.ofInt 1)) (Int32.ofInt 1) (Int32.ofInt 0) x1 x2 x3 x4 x5 := by exact Or.inl ⟨rfl, rfl, rfl, rfl, rfl, rfl, rfl, rfl⟩
                          have n77b : GSE s → GSE (sF s 109 0 (Int32.ofInt 1)) := by exact fun h => gse_fr (L := ([], [], [(109, 0)], [])) h (fr_sF rfl fr_rf) rfl
                          have n77c : G1S s (sF s 109 0 (Int32.ofInt 1)) := by exact ⟨rfl, fun _ _ => rfl, fun _ _ _ => ⟨rfl, rfl, rfl, rfl, rfl, rfl⟩⟩
                          exact g_ireturn (gd rfl) rfl rfl (hP _ _ ⟨(sF s 109 0 (Int32.ofInt 1)), hI70x18, (fr_sF rfl fr_rf), (Int32.ofInt 0), rfl, rfl, in_w (-3) 159 (in_c 0 rfl) rfl, n77, n77a, n77b, n77c⟩)
                · skip
                  exact zn_ne c21 (in_c 0 rfl) rfl
              · skip
                have i18x8x3 := z_ge 0 1 c18x8x3 i18x8x2 rfl
                have c18x8x3a := lc_ge e18x8x2 c18x8x3
                have i18x8x3a := lr_le2 (-1000000) 2147483647 c18x8x3a (l_c (-1000000) rfl) i18x1 rfl
                have i18x8x3b := l_b e18x1 i18x8x3a
                refine g_lload_n 7 (gd rfl) rfl rfl ?_
                refine g_lload 9 (gd rfl) rfl rfl ?_
                refine g_lcmp 10 (gd rfl) rfl (fun z18x8x9 e18x8x9 => ?_)
                have i18x8x9 := lc_in e18x8x9
                refine g_if_gt 13 17 (gd rfl) rfl rfl (fun c18x8x10 => ?_) (fun c18x8x10 => ?_)
                · skip
                  have i18x8x10 := z_gt 1 1 c18x8x10 i18x8x9 rfl
                  have c18x8x10a := lc_gt e18x8x9 c18x8x10
                  have i18x8x10a := lr_lt2 1000001 2147483647 c18x8x10a (l_c 1000000 rfl) i18x8x3a rfl
                  have i18x8x10b := l_b e18x1 i18x8x10a
                  refine g_iconst 0 18 (gd rfl) rfl rfl ?_
                  refine g_ireturn (gd rfl) rfl (nb01 (in_w 0 1 (in_c 0 rfl) rfl)) (hp18x8 _ _ ?_)
                  show GG _ _ _ _ _ _ _ _ [.int (Int32.ofInt 0)] _ _ _
                  refine g_ireturn (gd rfl) rfl (nb01 (in_w 0 1 (in_c 0 rfl) rfl)) (hp18 _ _ ?_)
                  show GG _ _ _ _ _ _ _ _ [.int (Int32.ofInt 0), .ref (A 109)] _ _ _
                  refine g_if_eq 24 54 (gd rfl) rfl rfl (fun c21 => ?_) (fun c21 => ?_)
                  · skip
                    refine g_iconst 0 55 (gd rfl) rfl rfl ?_
                    refine g_aload_n 56 (gd rfl) rfl rfl ?_
                    refine g_getI 59 (gd rfl) rfl rfl rfl (fun z56 e56 => ?_)
                    have q56 : u_109_9 = z56 := (e_109_9).trans e56.symm
                    subst q56
                    refine g_sipush 4000 62 (gd rfl) rfl rfl ?_
                    refine g_cmp_ge 65 69 (gd rfl) rfl rfl (fun c62 => ?_) (fun c62 => ?_)
                    · skip
                      have i62 := r_le2 4000 4000 c62 (in_c 4000 rfl) (inv_F hI 0 4000 rfl e_109_9) rfl
                      refine g_iconst 0 70 (gd rfl) rfl rfl ?_
                      refine g_callv (X := _) (As := [.int (Int32.ofInt 0), .int (Int32.ofInt 0)]) (r := []) (b := A 109) (q := 109) 73 (gd rfl) rfl rfl rfl rfl rfl (ww_o rfl) (Nat.le_of_ble_eq_true rfl) (mc := 0) (ms := 0) (Nat.zero_le _) (Nat.zero_le _) (P := fun v u => _) ?_ (fun e u h => h) (fun v u h => h)
                      intro po70 xx70 hp70 hx70
                      refine g_enter2 (k := 270) (N := 300) (by first | exact dq1 hd rfl | exact dq0 hd rfl | exact dq2 hd rfl | exact dq3 hd rfl | omega) rfl (Nat.le_of_ble_eq_true rfl) ?_
                      refine g_aload_n 1 (gd rfl) rfl rfl ?_
                      refine g_iload_n 2 (gd rfl) rfl rfl ?_
                      refine g_if_ne 5 9 (gd rfl) rfl rfl (fun c70x2 => ?_) (fun c70x2 => ?_)
                      · skip
                        exact zn_ne c70x2 (in_c 0 rfl) rfl
                      · skip
                        refine g_iconst 1 6 (gd rfl) rfl rfl ?_
                        refine g_goto 18 (gd rfl) rfl ?_
                        refine g_putI 21 (gd rfl) rfl rfl rfl rfl ?_
                        have hI70x18 := inv_sF (q := 109) (j := 0) hI rfl (in_w 0 2 (in_c 1 rfl) rfl)
                        refine g_aload_n 22 (gd rfl) rfl rfl ?_
                        refine g_getI 25 (gd rfl) rfl rfl rfl (fun z70x22 e70x22 => ?_)
                        have q70x22 : (Int32.ofInt 1) = z70x22 := (sF_get).trans e70x22.symm
                        subst q70x22
                        refine g_if_le 28 32 (gd rfl) rfl rfl (fun c70x25 => ?_) (fun c70x25 => ?_)
                        · skip
                          exact zn_le c70x25 (in_c 1 rfl) rfl
                        · skip
                          refine g_iconst 1 29 (gd rfl) rfl rfl ?_
                          refine g_goto 33 (gd rfl) rfl ?_
                          refine g_ireturn (gd rfl) rfl (nb01 (in_w 0 1 (in_c 1 rfl) rfl)) (hp70 _ _ ?_)
                          show GG _ _ _ _ _ _ _ _ [.int (Int32.ofInt 1)] _ _ _
                          refine g_if_eq 76 78 (gd rfl) rfl rfl (fun c73 => ?_) (fun c73 => ?_)
                          · skip
                            exact zn_eq c73 (in_c 1 rfl) rfl
                          · skip
                            refine g_iconst 0 77 (gd rfl) rfl rfl ?_
                            have n77 : CDR s (sF s 109 0 (Int32.ofInt 1)) (HNR s x1 ∧ HNR s x2 ∧ In x3 (-1000000) 1000000 ∧ In x4 0 1000000 ∧ In x5 0 25) ((s.2.2.1 109 9).toInt ≤ 3999) ((((Int32.ofInt 0)).toInt = -3 ∧ fpl (thg s 0) = 160 ∧ gvR (sF s 109 0 (Int32.ofInt 1)) = gvR s) ∨ (((Int32.ofInt 0)).toInt ≠ -3 ∧ fpl (thg s 0) = ((Int32.ofInt 0)).toNatClampNeg ∧ gvR (sF s 109 0 (Int32.ofInt 1)) = gqA (gvR s) ((Int32.ofInt 0)).toNatClampNeg x1 x2 x3 x4 x5 ∧ 0 ≤ ((Int32.ofInt 0)).toInt)) := by first | exact Or.inl ⟨rfl, (by first | (unfold HNR In; rw [show s.1 110 0 = z3x10 from e3x10.symm]; have a0 := oa6 i11x11 i3x11 ((inv_F hI 0 2 rfl e_109_0)) i62 i18x8x10b ((in_c 1 rfl)); have a6 := tx_i2l e18x1; have oc := oc_282_109; omega) | (unfold HNR In; have a0 := oa6 i11x11 i3x11 ((inv_F hI 0 2 rfl e_109_0)) i62 i18x8x10b ((in_c 1 rfl)); have a6 := tx_i2l e18x1; have oc := oc_282_109; omega)), (gvR_cg (L := ([], [], [(109, 0)], [])) (fr_sF rfl fr_rf) rfl)⟩ | exact Or.inr (Or.inl ⟨rfl, ⟨⟨by have a0 := oa6 i11x11 i3x11 ((inv_F hI 0 2 rfl e_109_0)) i62 i18x8x10b ((in_c 1 rfl)); have a6 := tx_i2l e18x1; have oc := oc_282_109; omega, by rw [show s.1 110 0 = z3x10 from e3x10.symm]; have a0 := oa6 i11x11 i3x11 ((inv_F hI 0 2 rfl e_109_0)) i62 i18x8x10b ((in_c 1 rfl)); have a6 := tx_i2l e18x1; have oc := oc_282_109; omega⟩, ⟨by have a0 := oa6 i11x11 i3x11 ((inv_F hI 0 2 rfl e_109_0)) i62 i18x8x10b ((in_c 1 rfl)); have a6 := tx_i2l e18x1; have oc := oc_282_109; omega, by rw [show s.1 110 0 = z3x10 from e3x10.symm]; have a0 := oa6 i11x11 i3x11 ((inv_F hI 0 2 rfl e_109_0)) i62 i18x8x10b ((in_c 1 rfl)); have a6 := tx_i2l e18x1; have oc := oc_282_109; omega⟩, ⟨by have a0 := oa6 i11x11 i3x11 ((inv_F hI 0 2 rfl e_109_0)) i62 i18x8x10b ((in_c 1 rfl)); have a6 := tx_i2l e18x1; have oc := oc_282_109; omega, by have a0 := oa6 i11x11 i3x11 ((inv_F hI 0 2 rfl e_109_0)) i62 i18x8x10b ((in_c 1 rfl)); have a6 := tx_i2l e18x1; have oc := oc_282_109; omega⟩, ⟨by have a0 := oa6 i11x11 i3x11 ((inv_F hI 0 2 rfl e_109_0)) i62 i18x8x10b ((in_c 1 rfl)); have a6 := tx_i2l e18x1; have oc := oc_282_109; omega, by have a0 := oa6 i11x11 i3x11 ((inv_F hI 0 2 rfl e_109_0)) i62 i18x8x10b ((in_c 1 rfl)); have a6 := tx_i2l e18x1; have oc := oc_282_109; omega⟩, ⟨by have a0 := oa6 i11x11 i3x11 ((inv_F hI 0 2 rfl e_109_0)) i62 i18x8x10b ((in_c 1 rfl)); have a6 := tx_i2l e18x1; have oc := oc_282_109; omega, by have a0 := oa6 i11x11 i3x11 ((inv_F hI 0 2 rfl e_109_0)) i62 i18x8x10b ((in_c 1 rfl)); have a6 := tx_i2l e18x1; have oc := oc_282_109; omega⟩⟩, (by rw [← e_109_9]; have a0 := oa6 i11x11 i3x11 ((inv_F hI 0 2 rfl e_109_0)) i62 i18x8x10b ((in_c 1 rfl)); have a6 := tx_i2l e18x1; have oc := oc_282_109; omega), (gvR_cg (L := ([], [], [(109, 0)], [])) (fr_sF rfl fr_rf) rfl)⟩)
                            have n77a : LGX s (sF s 109 0 (Int32.ofInt 1)) (Int32.ofInt 1) (Int32.ofInt 0) x1 x2 x3 x4 x5 := by exact Or.inl ⟨rfl, rfl, rfl, rfl, rfl, rfl, rfl, rfl⟩
                            have n77b : GSE s → GSE (sF s 109 0 (Int32.ofInt 1)) := by exact fun h => gse_fr (L := ([], [], [(109, 0)], [])) h (fr_sF rfl fr_rf) rfl
                            have n77c : G1S s (sF s 109 0 (Int32.ofInt 1)) := by exact ⟨rfl, fun _ _ => rfl, fun _ _ _ => ⟨rfl, rfl, rfl, rfl, rfl, rfl⟩⟩
                            exact g_ireturn (gd rfl) rfl rfl (hP _ _ ⟨(sF s 109 0 (Int32.ofInt 1)), hI70x18, (fr_sF rfl fr_rf), (Int32.ofInt 0), rfl, rfl, in_w (-3) 159 (in_c 0 rfl) rfl, n77, n77a, n77b, n77c⟩)
                    · skip
                      have i62 := r_lt1 0 3999 c62 (inv_F hI 0 4000 rfl e_109_9) (in_c 4000 rfl) rfl
                      refine g_iconst 1 66 (gd rfl) rfl rfl ?_
                      refine g_goto 70 (gd rfl) rfl ?_
                      refine g_callv (X := _) (As := [.int (Int32.ofInt 0), .int (Int32.ofInt 1)]) (r := []) (b := A 109) (q := 109) 73 (gd rfl) rfl rfl rfl rfl rfl (ww_o rfl) (Nat.le_of_ble_eq_true rfl) (mc := 0) (ms := 0) (Nat.zero_le _) (Nat.zero_le _) (P := fun v u => _) ?_ (fun e u h => h) (fun v u h => h)
                      intro po70 xx70 hp70 hx70
                      refine g_enter2 (k := 270) (N := 300) (by first | exact dq1 hd rfl | exact dq0 hd rfl | exact dq2 hd rfl | exact dq3 hd rfl | omega) rfl (Nat.le_of_ble_eq_true rfl) ?_
                      refine g_aload_n 1 (gd rfl) rfl rfl ?_
                      refine g_iload_n 2 (gd rfl) rfl rfl ?_
                      refine g_if_ne 5 9 (gd rfl) rfl rfl (fun c70x2 => ?_) (fun c70x2 => ?_)
                      · skip
                        exact zn_ne c70x2 (in_c 0 rfl) rfl
                      · skip
                        refine g_iconst 1 6 (gd rfl) rfl rfl ?_
                        refine g_goto 18 (gd rfl) rfl ?_
                        refine g_putI 21 (gd rfl) rfl rfl rfl rfl ?_
                        have hI70x18 := inv_sF (q := 109) (j := 0) hI rfl (in_w 0 2 (in_c 1 rfl) rfl)
                        refine g_aload_n 22 (gd rfl) rfl rfl ?_
                        refine g_getI 25 (gd rfl) rfl rfl rfl (fun z70x22 e70x22 => ?_)
                        have q70x22 : (Int32.ofInt 1) = z70x22 := (sF_get).trans e70x22.symm
                        subst q70x22
                        refine g_if_le 28 32 (gd rfl) rfl rfl (fun c70x25 => ?_) (fun c70x25 => ?_)
                        · skip
                          exact zn_le c70x25 (in_c 1 rfl) rfl
                        · skip
                          refine g_iconst 1 29 (gd rfl) rfl rfl ?_
                          refine g_goto 33 (gd rfl) rfl ?_
                          refine g_ireturn (gd rfl) rfl (nb01 (in_w 0 1 (in_c 1 rfl) rfl)) (hp70 _ _ ?_)
                          show GG _ _ _ _ _ _ _ _ [.int (Int32.ofInt 1)] _ _ _
                          refine g_if_eq 76 78 (gd rfl) rfl rfl (fun c73 => ?_) (fun c73 => ?_)
                          · skip
                            exact zn_eq c73 (in_c 1 rfl) rfl
                          · skip
                            refine g_iconst 0 77 (gd rfl) rfl rfl ?_
                            have n77 : CDR s (sF s 109 0 (Int32.ofInt 1)) (HNR s x1 ∧ HNR s x2 ∧ In x3 (-1000000) 1000000 ∧ In x4 0 1000000 ∧ In x5 0 25) ((s.2.2.1 109 9).toInt ≤ 3999) ((((Int32.ofInt 0)).toInt = -3 ∧ fpl (thg s 0) = 160 ∧ gvR (sF s 109 0 (Int32.ofInt 1)) = gvR s) ∨ (((Int32.ofInt 0)).toInt ≠ -3 ∧ fpl (thg s 0) = ((Int32.ofInt 0)).toNatClampNeg ∧ gvR (sF s 109 0 (Int32.ofInt 1)) = gqA (gvR s) ((Int32.ofInt 0)).toNatClampNeg x1 x2 x3 x4 x5 ∧ 0 ≤ ((Int32.ofInt 0)).toInt)) := by first | exact Or.inl ⟨rfl, (by first | (unfold HNR In; rw [show s.1 110 0 = z3x10 from e3x10.symm]; have a0 := oa6 i11x11 i3x11 ((inv_F hI 0 2 rfl e_109_0)) i62 i18x8x10b ((in_c 1 rfl)); have a6 := tx_i2l e18x1; have oc := oc_282_109; omega) | (unfold HNR In; have a0 := oa6 i11x11 i3x11 ((inv_F hI 0 2 rfl e_109_0)) i62 i18x8x10b ((in_c 1 rfl)); have a6 := tx_i2l e18x1; have oc := oc_282_109; omega)), (gvR_cg (L := ([], [], [(109, 0)], [])) (fr_sF rfl fr_rf) rfl)⟩ | exact Or.inr (Or.inl ⟨rfl, ⟨⟨by have a0 := oa6 i11x11 i3x11 ((inv_F hI 0 2 rfl e_109_0)) i62 i18x8x10b ((in_c 1 rfl)); have a6 := tx_i2l e18x1; have oc := oc_282_109; omega, by rw [show s.1 110 0 = z3x10 from e3x10.symm]; have a0 := oa6 i11x11 i3x11 ((inv_F hI 0 2 rfl e_109_0)) i62 i18x8x10b ((in_c 1 rfl)); have a6 := tx_i2l e18x1; have oc := oc_282_109; omega⟩, ⟨by have a0 := oa6 i11x11 i3x11 ((inv_F hI 0 2 rfl e_109_0)) i62 i18x8x10b ((in_c 1 rfl)); have a6 := tx_i2l e18x1; have oc := oc_282_109; omega, by rw [show s.1 110 0 = z3x10 from e3x10.symm]; have a0 := oa6 i11x11 i3x11 ((inv_F hI 0 2 rfl e_109_0)) i62 i18x8x10b ((in_c 1 rfl)); have a6 := tx_i2l e18x1; have oc := oc_282_109; omega⟩, ⟨by have a0 := oa6 i11x11 i3x11 ((inv_F hI 0 2 rfl e_109_0)) i62 i18x8x10b ((in_c 1 rfl)); have a6 := tx_i2l e18x1; have oc := oc_282_109; omega, by have a0 := oa6 i11x11 i3x11 ((inv_F hI 0 2 rfl e_109_0)) i62 i18x8x10b ((in_c 1 rfl)); have a6 := tx_i2l e18x1; have oc := oc_282_109; omega⟩, ⟨by have a0 := oa6 i11x11 i3x11 ((inv_F hI 0 2 rfl e_109_0)) i62 i18x8x10b ((in_c 1 rfl)); have a6 := tx_i2l e18x1; have oc := oc_282_109; omega, by have a0 := oa6 i11x11 i3x11 ((inv_F hI 0 2 rfl e_109_0)) i62 i18x8x10b ((in_c 1 rfl)); have a6 := tx_i2l e18x1; have oc := oc_282_109; omega⟩, ⟨by have a0 := oa6 i11x11 i3x11 ((inv_F hI 0 2 rfl e_109_0)) i62 i18x8x10b ((in_c 1 rfl)); have a6 := tx_i2l e18x1; have oc := oc_282_109; omega, by have a0 := oa6 i11x11 i3x11 ((inv_F hI 0 2 rfl e_109_0)) i62 i18x8x10b ((in_c 1 rfl)); have a6 := tx_i2l e18x1; have oc := oc_282_109; omega⟩⟩, (by rw [← e_109_9]; have a0 := oa6 i11x11 i3x11 ((inv_F hI 0 2 rfl e_109_0)) i62 i18x8x10b ((in_c 1 rfl)); have a6 := tx_i2l e18x1; have oc := oc_282_109; omega), (gvR_cg (L := ([], [], [(109, 0)], [])) (fr_sF rfl fr_rf) rfl)⟩)
                            have n77a : LGX s (sF s 109 0 (Int32.ofInt 1)) (Int32.ofInt 1) (Int32.ofInt 0) x1 x2 x3 x4 x5 := by exact Or.inl ⟨rfl, rfl, rfl, rfl, rfl, rfl, rfl, rfl⟩
                            have n77b : GSE s → GSE (sF s 109 0 (Int32.ofInt 1)) := by exact fun h => gse_fr (L := ([], [], [(109, 0)], [])) h (fr_sF rfl fr_rf) rfl
                            have n77c : G1S s (sF s 109 0 (Int32.ofInt 1)) := by exact ⟨rfl, fun _ _ => rfl, fun _ _ _ => ⟨rfl, rfl, rfl, rfl, rfl, rfl⟩⟩
                            exact g_ireturn (gd rfl) rfl rfl (hP _ _ ⟨(sF s 109 0 (Int32.ofInt 1)), hI70x18, (fr_sF rfl fr_rf), (Int32.ofInt 0), rfl, rfl, in_w (-3) 159 (in_c 0 rfl) rfl, n77, n77a, n77b, n77c⟩)
                  · skip
                    exact zn_ne c21 (in_c 0 rfl) rfl
                · skip
                  have i18x8x10 := z_le (-1) 0 c18x8x10 i18x8x9 rfl
                  have c18x8x10a := lc_le e18x8x9 c18x8x10
                  have i18x8x10a := lr_le1 (-1000000) 1000000 c18x8x10a i18x8x3a (l_c 1000000 rfl) rfl
                  have i18x8x10b := l_b e18x1 i18x8x10a
                  refine g_iconst 1 14 (gd rfl) rfl rfl ?_
                  refine g_goto 18 (gd rfl) rfl ?_
                  refine g_ireturn (gd rfl) rfl (nb01 (in_w 0 1 (in_c 1 rfl) rfl)) (hp18x8 _ _ ?_)
                  show GG _ _ _ _ _ _ _ _ [.int (Int32.ofInt 1)] _ _ _
                  refine g_ireturn (gd rfl) rfl (nb01 (in_w 0 1 (in_c 1 rfl) rfl)) (hp18 _ _ ?_)
                  show GG _ _ _ _ _ _ _ _ [.int (Int32.ofInt 1), .ref (A 109)] _ _ _
                  refine g_if_eq 24 54 (gd rfl) rfl rfl (fun c21 => ?_) (fun c21 => ?_)
                  · skip
                    exact zn_eq c21 (in_c 1 rfl) rfl
                  · skip
                    refine g_iload 26 (gd rfl) rfl rfl ?_
                    refine g_i2l 27 (gd rfl) rfl (fun z26 e26 => ?_)
                    have i26 := l_i e26 (i_rng x4)
                    refine g_lconst 0 28 (gd rfl) rfl rfl ?_
                    refine g_ldc2_w 1000000 31 (gd rfl) rfl rfl ?_
                    refine g_calls (As := [.long z26, .long (Int64.ofInt 0), .long (Int64.ofInt 1000000)]) (r := [.ref (A 109)]) 34 (gd rfl) rfl rfl rfl rfl rfl (Nat.le_of_ble_eq_true rfl) (mc := 0) (ms := 0) (Nat.zero_le _) (Nat.zero_le _) (P := fun v u => _) ?_ (fun v u h => h)
                    intro po31 xx31 hp31 hx31
                    refine g_enter2 (k := 269) (N := 300) (by first | exact dq1 hd rfl | exact dq0 hd rfl | exact dq2 hd rfl | exact dq3 hd rfl | omega) rfl (Nat.le_of_ble_eq_true rfl) ?_
                    refine g_lload_n 1 (gd rfl) rfl rfl ?_
                    refine g_lload_n 2 (gd rfl) rfl rfl ?_
                    refine g_lcmp 3 (gd rfl) rfl (fun z31x2 e31x2 => ?_)
                    have i31x2 := lc_in e31x2
                    refine g_if_lt 6 17 (gd rfl) rfl rfl (fun c31x3 => ?_) (fun c31x3 => ?_)
                    · skip
                      have i31x3 := z_lt (-1) (-1) c31x3 i31x2 rfl
                      have c31x3a := lc_lt e31x2 c31x3
                      have i31x3a := lr_lt1 (-2147483648) (-1) c31x3a i26 (l_c 0 rfl) rfl
                      have i31x3b := l_b e26 i31x3a
                      refine g_iconst 0 18 (gd rfl) rfl rfl ?_
                      refine g_ireturn (gd rfl) rfl (nb01 (in_w 0 1 (in_c 0 rfl) rfl)) (hp31 _ _ ?_)
                      show GG _ _ _ _ _ _ _ _ [.int (Int32.ofInt 0), .ref (A 109)] _ _ _
                      refine g_if_eq 37 54 (gd rfl) rfl rfl (fun c34 => ?_) (fun c34 => ?_)
                      · skip
                        refine g_iconst 0 55 (gd rfl) rfl rfl ?_
                        refine g_aload_n 56 (gd rfl) rfl rfl ?_
                        refine g_getI 59 (gd rfl) rfl rfl rfl (fun z56 e56 => ?_)
                        have q56 : u_109_9 = z56 := (e_109_9).trans e56.symm
                        subst q56
                        refine g_sipush 4000 62 (gd rfl) rfl rfl ?_
                        refine g_cmp_ge 65 69 (gd rfl) rfl rfl (fun c62 => ?_) (fun c62 => ?_)
                        · skip
                          have i62 := r_le2 4000 4000 c62 (in_c 4000 rfl) (inv_F hI 0 4000 rfl e_109_9) rfl
                          refine g_iconst 0 70 (gd rfl) rfl rfl ?_
                          refine g_callv (X := _) (As := [.int (Int32.ofInt 0), .int (Int32.ofInt 0)]) (r := []) (b := A 109) (q := 109) 73 (gd rfl) rfl rfl rfl rfl rfl (ww_o rfl) (Nat.le_of_ble_eq_true rfl) (mc := 0) (ms := 0) (Nat.zero_le _) (Nat.zero_le _) (P := fun v u => _) ?_ (fun e u h => h) (fun v u h => h)
                          intro po70 xx70 hp70 hx70
                          refine g_enter2 (k := 270) (N := 300) (by first | exact dq1 hd rfl | exact dq0 hd rfl | exact dq2 hd rfl | exact dq3 hd rfl | omega) rfl (Nat.le_of_ble_eq_true rfl) ?_
                          refine g_aload_n 1 (gd rfl) rfl rfl ?_
                          refine g_iload_n 2 (gd rfl) rfl rfl ?_
                          refine g_if_ne 5 9 (gd rfl) rfl rfl (fun c70x2 => ?_) (fun c70x2 => ?_)
                          · skip
                            exact zn_ne c70x2 (in_c 0 rfl) rfl
                          · skip
                            refine g_iconst 1 6 (gd rfl) rfl rfl ?_
                            refine g_goto 18 (gd rfl) rfl ?_
                            refine g_putI 21 (gd rfl) rfl rfl rfl rfl ?_
                            have hI70x18 := inv_sF (q := 109) (j := 0) hI rfl (in_w 0 2 (in_c 1 rfl) rfl)
                            refine g_aload_n 22 (gd rfl) rfl rfl ?_
                            refine g_getI 25 (gd rfl) rfl rfl rfl (fun z70x22 e70x22 => ?_)
                            have q70x22 : (Int32.ofInt 1) = z70x22 := (sF_get).trans e70x22.symm
                            subst q70x22
                            refine g_if_le 28 32 (gd rfl) rfl rfl (fun c70x25 => ?_) (fun c70x25 => ?_)
                            · skip
                              exact zn_le c70x25 (in_c 1 rfl) rfl
                            · skip
                              refine g_iconst 1 29 (gd rfl) rfl rfl ?_
                              refine g_goto 33 (gd rfl) rfl ?_
                              refine g_ireturn (gd rfl) rfl (nb01 (in_w 0 1 (in_c 1 rfl) rfl)) (hp70 _ _ ?_)
                              show GG _ _ _ _ _ _ _ _ [.int (Int32.ofInt 1)] _ _ _
                              refine g_if_eq 76 78 (gd rfl) rfl rfl (fun c73 => ?_) (fun c73 => ?_)
                              · skip
                                exact zn_eq c73 (in_c 1 rfl) rfl
                              · skip
                                refine g_iconst 0 77 (gd rfl) rfl rfl ?_
                                have n77 : CDR s (sF s 109 0 (Int32.ofInt 1)) (HNR s x1 ∧ HNR s x2 ∧ In x3 (-1000000) 1000000 ∧ In x4 0 1000000 ∧ In x5 0 25) ((s.2.2.1 109 9).toInt ≤ 3999) ((((Int32.ofInt 0)).toInt = -3 ∧ fpl (thg s 0) = 160 ∧ gvR (sF s 109 0 (Int32.ofInt 1)) = gvR s) ∨ (((Int32.ofInt 0)).toInt ≠ -3 ∧ fpl (thg s 0) = ((Int32.ofInt 0)).toNatClampNeg ∧ gvR (sF s 109 0 (Int32.ofInt 1)) = gqA (gvR s) ((Int32.ofInt 0)).toNatClampNeg x1 x2 x3 x4 x5 ∧ 0 ≤ ((Int32.ofInt 0)).toInt)) := by first | exact Or.inl ⟨rfl, (by first | (unfold HNR In; rw [show s.1 110 0 = z3x10 from e3x10.symm]; have a0 := oa7 i18x8x10b i11x11 i3x11 ((inv_F hI 0 2 rfl e_109_0)) i62 i31x3b ((in_c 1 rfl)); have a7 := tx_i2l e26; have a8 := tx_i2l e18x1; have oc := oc_282_109; omega) | (unfold HNR In; have a0 := oa7 i18x8x10b i11x11 i3x11 ((inv_F hI 0 2 rfl e_109_0)) i62 i31x3b ((in_c 1 rfl)); have a7 := tx_i2l e26; have a8 := tx_i2l e18x1; have oc := oc_282_109; omega)), (gvR_cg (L := ([], [], [(109, 0)], [])) (fr_sF rfl fr_rf) rfl)⟩ | exact Or.inr (Or.inl ⟨rfl, ⟨⟨by have a0 := oa7 i18x8x10b i11x11 i3x11 ((inv_F hI 0 2 rfl e_109_0)) i62 i31x3b ((in_c 1 rfl)); have a7 := tx_i2l e26; have a8 := tx_i2l e18x1; have oc := oc_282_109; omega, by rw [show s.1 110 0 = z3x10 from e3x10.symm]; have a0 := oa7 i18x8x10b i11x11 i3x11 ((inv_F hI 0 2 rfl e_109_0)) i62 i31x3b ((in_c 1 rfl)); have a7 := tx_i2l e26; have a8 := tx_i2l e18x1; have oc := oc_282_109; omega⟩, ⟨by have a0 := oa7 i18x8x10b i11x11 i3x11 ((inv_F hI 0 2 rfl e_109_0)) i62 i31x3b ((in_c 1 rfl)); have a7 := tx_i2l e26; have a8 := tx_i2l e18x1; have oc := oc_282_109; omega, by rw [show s.1 110 0 = z3x10 from e3x10.symm]; have a0 := oa7 i18x8x10b i11x11 i3x11 ((inv_F hI 0 2 rfl e_109_0)) i62 i31x3b ((in_c 1 rfl)); have a7 := tx_i2l e26; have a8 := tx_i2l e18x1; have oc := oc_282_109; omega⟩, ⟨by have a0 := oa7 i18x8x10b i11x11 i3x11 ((inv_F hI 0 2 rfl e_109_0)) i62 i31x3b ((in_c 1 rfl)); have a7 := tx_i2l e26; have a8 := tx_i2l e18x1; have oc := oc_282_109; omega, by have a0 := oa7 i18x8x10b i11x11 i3x11 ((inv_F hI 0 2 rfl e_109_0)) i62 i31x3b ((in_c 1 rfl)); have a7 := tx_i2l e26; have a8 := tx_i2l e18x1; have oc := oc_282_109; omega⟩, ⟨by have a0 := oa7 i18x8x10b i11x11 i3x11 ((inv_F hI 0 2 rfl e_109_0)) i62 i31x3b ((in_c 1 rfl)); have a7 := tx_i2l e26; have a8 := tx_i2l e18x1; have oc := oc_282_109; omega, by have a0 := oa7 i18x8x10b i11x11 i3x11 ((inv_F hI 0 2 rfl e_109_0)) i62 i31x3b ((in_c 1 rfl)); have a7 := tx_i2l e26; have a8 := tx_i2l e18x1; have oc := oc_282_109; omega⟩, ⟨by have a0 := oa7 i18x8x10b i11x11 i3x11 ((inv_F hI 0 2 rfl e_109_0)) i62 i31x3b ((in_c 1 rfl)); have a7 := tx_i2l e26; have a8 := tx_i2l e18x1; have oc := oc_282_109; omega, by have a0 := oa7 i18x8x10b i11x11 i3x11 ((inv_F hI 0 2 rfl e_109_0)) i62 i31x3b ((in_c 1 rfl)); have a7 := tx_i2l e26; have a8 := tx_i2l e18x1; have oc := oc_282_109; omega⟩⟩, (by rw [← e_109_9]; have a0 := oa7 i18x8x10b i11x11 i3x11 ((inv_F hI 0 2 rfl e_109_0)) i62 i31x3b ((in_c 1 rfl)); have a7 := tx_i2l e26; have a8 := tx_i2l e18x1; have oc := oc_282_109; omega), (gvR_cg (L := ([], [], [(109, 0)], [])) (fr_sF rfl fr_rf) rfl)⟩)
                                have n77a : LGX s (sF s 109 0 (Int32.ofInt 1)) (Int32.ofInt 1) (Int32.ofInt 0) x1 x2 x3 x4 x5 := by exact Or.inl ⟨rfl, rfl, rfl, rfl, rfl, rfl, rfl, rfl⟩
                                have n77b : GSE s → GSE (sF s 109 0 (Int32.ofInt 1)) := by exact fun h => gse_fr (L := ([], [], [(109, 0)], [])) h (fr_sF rfl fr_rf) rfl
                                have n77c : G1S s (sF s 109 0 (Int32.ofInt 1)) := by exact ⟨rfl, fun _ _ => rfl, fun _ _ _ => ⟨rfl, rfl, rfl, rfl, rfl, rfl⟩⟩
                                exact g_ireturn (gd rfl) rfl rfl (hP _ _ ⟨(sF s 109 0 (Int32.ofInt 1)), hI70x18, (fr_sF rfl fr_rf), (Int32.ofInt 0), rfl, rfl, in_w (-3) 159 (in_c 0 rfl) rfl, n77, n77a, n77b, n77c⟩)
                        · skip
                          have i62 := r_lt1 0 3999 c62 (inv_F hI 0 4000 rfl e_109_9) (in_c 4000 rfl) rfl
                          refine g_iconst 1 66 (gd rfl) rfl rfl ?_
                          refine g_goto 70 (gd rfl) rfl ?_
                          refine g_callv (X := _) (As := [.int (Int32.ofInt 0), .int (Int32.ofInt 1)]) (r := []) (b := A 109) (q := 109) 73 (gd rfl) rfl rfl rfl rfl rfl (ww_o rfl) (Nat.le_of_ble_eq_true rfl) (mc := 0) (ms := 0) (Nat.zero_le _) (Nat.zero_le _) (P := fun v u => _) ?_ (fun e u h => h) (fun v u h => h)
                          intro po70 xx70 hp70 hx70
                          refine g_enter2 (k := 270) (N := 300) (by first | exact dq1 hd rfl | exact dq0 hd rfl | exact dq2 hd rfl | exact dq3 hd rfl | omega) rfl (Nat.le_of_ble_eq_true rfl) ?_
                          refine g_aload_n 1 (gd rfl) rfl rfl ?_
                          refine g_iload_n 2 (gd rfl) rfl rfl ?_
                          refine g_if_ne 5 9 (gd rfl) rfl rfl (fun c70x2 => ?_) (fun c70x2 => ?_)
                          · skip
                            exact zn_ne c70x2 (in_c 0 rfl) rfl
                          · skip
                            refine g_iconst 1 6 (gd rfl) rfl rfl ?_
                            refine g_goto 18 (gd rfl) rfl ?_
                            refine g_putI 21 (gd rfl) rfl rfl rfl rfl ?_
                            have hI70x18 := inv_sF (q := 109) (j := 0) hI rfl (in_w 0 2 (in_c 1 rfl) rfl)
                            refine g_aload_n 22 (gd rfl) rfl rfl ?_
                            refine g_getI 25 (gd rfl) rfl rfl rfl (fun z70x22 e70x22 => ?_)
                            have q70x22 : (Int32.ofInt 1) = z70x22 := (sF_get).trans e70x22.symm
                            subst q70x22
                            refine g_if_le 28 32 (gd rfl) rfl rfl (fun c70x25 => ?_) (fun c70x25 => ?_)
                            · skip
                              exact zn_le c70x25 (in_c 1 rfl) rfl
                            · skip
                              refine g_iconst 1 29 (gd rfl) rfl rfl ?_
                              refine g_goto 33 (gd rfl) rfl ?_
                              refine g_ireturn (gd rfl) rfl (nb01 (in_w 0 1 (in_c 1 rfl) rfl)) (hp70 _ _ ?_)
                              show GG _ _ _ _ _ _ _ _ [.int (Int32.ofInt 1)] _ _ _
                              refine g_if_eq 76 78 (gd rfl) rfl rfl (fun c73 => ?_) (fun c73 => ?_)
                              · skip
                                exact zn_eq c73 (in_c 1 rfl) rfl
                              · skip
                                refine g_iconst 0 77 (gd rfl) rfl rfl ?_
                                have n77 : CDR s (sF s 109 0 (Int32.ofInt 1)) (HNR s x1 ∧ HNR s x2 ∧ In x3 (-1000000) 1000000 ∧ In x4 0 1000000 ∧ In x5 0 25) ((s.2.2.1 109 9).toInt ≤ 3999) ((((Int32.ofInt 0)).toInt = -3 ∧ fpl (thg s 0) = 160 ∧ gvR (sF s 109 0 (Int32.ofInt 1)) = gvR s) ∨ (((Int32.ofInt 0)).toInt ≠ -3 ∧ fpl (thg s 0) = ((Int32.ofInt 0)).toNatClampNeg ∧ gvR (sF s 109 0 (Int32.ofInt 1)) = gqA (gvR s) ((Int32.ofInt 0)).toNatClampNeg x1 x2 x3 x4 x5 ∧ 0 ≤ ((Int32.ofInt 0)).toInt)) := by first | exact Or.inl ⟨rfl, (by first | (unfold HNR In; rw [show s.1 110 0 = z3x10 from e3x10.symm]; have a0 := oa7 i18x8x10b i11x11 i3x11 ((inv_F hI 0 2 rfl e_109_0)) i62 i31x3b ((in_c 1 rfl)); have a7 := tx_i2l e26; have a8 := tx_i2l e18x1; have oc := oc_282_109; omega) | (unfold HNR In; have a0 := oa7 i18x8x10b i11x11 i3x11 ((inv_F hI 0 2 rfl e_109_0)) i62 i31x3b ((in_c 1 rfl)); have a7 := tx_i2l e26; have a8 := tx_i2l e18x1; have oc := oc_282_109; omega)), (gvR_cg (L := ([], [], [(109, 0)], [])) (fr_sF rfl fr_rf) rfl)⟩ | exact Or.inr (Or.inl ⟨rfl, ⟨⟨by have a0 := oa7 i18x8x10b i11x11 i3x11 ((inv_F hI 0 2 rfl e_109_0)) i62 i31x3b ((in_c 1 rfl)); have a7 := tx_i2l e26; have a8 := tx_i2l e18x1; have oc := oc_282_109; omega, by rw [show s.1 110 0 = z3x10 from e3x10.symm]; have a0 := oa7 i18x8x10b i11x11 i3x11 ((inv_F hI 0 2 rfl e_109_0)) i62 i31x3b ((in_c 1 rfl)); have a7 := tx_i2l e26; have a8 := tx_i2l e18x1; have oc := oc_282_109; omega⟩, ⟨by have a0 := oa7 i18x8x10b i11x11 i3x11 ((inv_F hI 0 2 rfl e_109_0)) i62 i31x3b ((in_c 1 rfl)); have a7 := tx_i2l e26; have a8 := tx_i2l e18x1; have oc := oc_282_109; omega, by rw [show s.1 110 0 = z3x10 from e3x10.symm]; have a0 := oa7 i18x8x10b i11x11 i3x11 ((inv_F hI 0 2 rfl e_109_0)) i62 i31x3b ((in_c 1 rfl)); have a7 := tx_i2l e26; have a8 := tx_i2l e18x1; have oc := oc_282_109; omega⟩, ⟨by have a0 := oa7 i18x8x10b i11x11 i3x11 ((inv_F hI 0 2 rfl e_109_0)) i62 i31x3b ((in_c 1 rfl)); have a7 := tx_i2l e26; have a8 := tx_i2l e18x1; have oc := oc_282_109; omega, by have a0 := oa7 i18x8x10b i11x11 i3x11 ((inv_F hI 0 2 rfl e_109_0)) i62 i31x3b ((in_c 1 rfl)); have a7 := tx_i2l e26; have a8 := tx_i2l e18x1; have oc := oc_282_109; omega⟩, ⟨by have a0 := oa7 i18x8x10b i11x11 i3x11 ((inv_F hI 0 2 rfl e_109_0)) i62 i31x3b ((in_c 1 rfl)); have a7 := tx_i2l e26; have a8 := tx_i2l e18x1; have oc := oc_282_109; omega, by have a0 := oa7 i18x8x10b i11x11 i3x11 ((inv_F hI 0 2 rfl e_109_0)) i62 i31x3b ((in_c 1 rfl)); have a7 := tx_i2l e26; have a8 := tx_i2l e18x1; have oc := oc_282_109; omega⟩, ⟨by have a0 := oa7 i18x8x10b i11x11 i3x11 ((inv_F hI 0 2 rfl e_109_0)) i62 i31x3b ((in_c 1 rfl)); have a7 := tx_i2l e26; have a8 := tx_i2l e18x1; have oc := oc_282_109; omega, by have a0 := oa7 i18x8x10b i11x11 i3x11 ((inv_F hI 0 2 rfl e_109_0)) i62 i31x3b ((in_c 1 rfl)); have a7 := tx_i2l e26; have a8 := tx_i2l e18x1; have oc := oc_282_109; omega⟩⟩, (by rw [← e_109_9]; have a0 := oa7 i18x8x10b i11x11 i3x11 ((inv_F hI 0 2 rfl e_109_0)) i62 i31x3b ((in_c 1 rfl)); have a7 := tx_i2l e26; have a8 := tx_i2l e18x1; have oc := oc_282_109; omega), (gvR_cg (L := ([], [], [(109, 0)], [])) (fr_sF rfl fr_rf) rfl)⟩)
                                have n77a : LGX s (sF s 109 0 (Int32.ofInt 1)) (Int32.ofInt 1) (Int32.ofInt 0) x1 x2 x3 x4 x5 := by exact Or.inl ⟨rfl, rfl, rfl, rfl, rfl, rfl, rfl, rfl⟩
                                have n77b : GSE s → GSE (sF s 109 0 (Int32.ofInt 1)) := by exact fun h => gse_fr (L := ([], [], [(109, 0)], [])) h (fr_sF rfl fr_rf) rfl
                                have n77c : G1S s (sF s 109 0 (Int32.ofInt 1)) := by exact ⟨rfl, fun _ _ => rfl, fun _ _ _ => ⟨rfl, rfl, rfl, rfl, rfl, rfl⟩⟩
                                exact g_ireturn (gd rfl) rfl rfl (hP _ _ ⟨(sF s 109 0 (Int32.ofInt 1)), hI70x18, (fr_sF rfl fr_rf), (Int32.ofInt 0), rfl, rfl, in_w (-3) 159 (in_c 0 rfl) rfl, n77, n77a, n77b, n77c⟩)
                      · skip
                        exact zn_ne c34 (in_c 0 rfl) rfl
                    · skip
                      have i31x3 := z_ge 0 1 c31x3 i31x2 rfl
                      have c31x3a := lc_ge e31x2 c31x3
                      have i31x3a := lr_le2 0 2147483647 c31x3a (l_c 0 rfl) i26 rfl
                      have i31x3b := l_b e26 i31x3a
                      refine g_lload_n 7 (gd rfl) rfl rfl ?_
                      refine g_lload 9 (gd rfl) rfl rfl ?_
                      refine g_lcmp 10 (gd rfl) rfl (fun z31x9 e31x9 => ?_)
                      have i31x9 := lc_in e31x9
                      refine g_if_gt 13 17 (gd rfl) rfl rfl (fun c31x10 => ?_) (fun c31x10 => ?_)
                      · skip
                        have i31x10 := z_gt 1 1 c31x10 i31x9 rfl
                        have c31x10a := lc_gt e31x9 c31x10
                        have i31x10a := lr_lt2 1000001 2147483647 c31x10a (l_c 1000000 rfl) i31x3a rfl
                        have i31x10b := l_b e26 i31x10a
                        refine g_iconst 0 18 (gd rfl) rfl rfl ?_
                        refine g_ireturn (gd rfl) rfl (nb01 (in_w 0 1 (in_c 0 rfl) rfl)) (hp31 _ _ ?_)
                        show GG _ _ _ _ _ _ _ _ [.int (Int32.ofInt 0), .ref (A 109)] _ _ _
                        refine g_if_eq 37 54 (gd rfl) rfl rfl (fun c34 => ?_) (fun c34 => ?_)
                        · skip
                          refine g_iconst 0 55 (gd rfl) rfl rfl ?_
                          refine g_aload_n 56 (gd rfl) rfl rfl ?_
                          refine g_getI 59 (gd rfl) rfl rfl rfl (fun z56 e56 => ?_)
                          have q56 : u_109_9 = z56 := (e_109_9).trans e56.symm
                          subst q56
                          refine g_sipush 4000 62 (gd rfl) rfl rfl ?_
                          refine g_cmp_ge 65 69 (gd rfl) rfl rfl (fun c62 => ?_) (fun c62 => ?_)
                          · skip
                            have i62 := r_le2 4000 4000 c62 (in_c 4000 rfl) (inv_F hI 0 4000 rfl e_109_9) rfl
                            refine g_iconst 0 70 (gd rfl) rfl rfl ?_
                            refine g_callv (X := _) (As := [.int (Int32.ofInt 0), .int (Int32.ofInt 0)]) (r := []) (b := A 109) (q := 109) 73 (gd rfl) rfl rfl rfl rfl rfl (ww_o rfl) (Nat.le_of_ble_eq_true rfl) (mc := 0) (ms := 0) (Nat.zero_le _) (Nat.zero_le _) (P := fun v u => _) ?_ (fun e u h => h) (fun v u h => h)
                            intro po70 xx70 hp70 hx70
                            refine g_enter2 (k := 270) (N := 300) (by first | exact dq1 hd rfl | exact dq0 hd rfl | exact dq2 hd rfl | exact dq3 hd rfl | omega) rfl (Nat.le_of_ble_eq_true rfl) ?_
                            refine g_aload_n 1 (gd rfl) rfl rfl ?_
                            refine g_iload_n 2 (gd rfl) rfl rfl ?_
                            refine g_if_ne 5 9 (gd rfl) rfl rfl (fun c70x2 => ?_) (fun c70x2 => ?_)
                            · skip
                              exact zn_ne c70x2 (in_c 0 rfl) rfl
                            · skip
                              refine g_iconst 1 6 (gd rfl) rfl rfl ?_
                              refine g_goto 18 (gd rfl) rfl ?_
                              refine g_putI 21 (gd rfl) rfl rfl rfl rfl ?_
                              have hI70x18 := inv_sF (q := 109) (j := 0) hI rfl (in_w 0 2 (in_c 1 rfl) rfl)
                              refine g_aload_n 22 (gd rfl) rfl rfl ?_
                              refine g_getI 25 (gd rfl) rfl rfl rfl (fun z70x22 e70x22 => ?_)
                              have q70x22 : (Int32.ofInt 1) = z70x22 := (sF_get).trans e70x22.symm
                              subst q70x22
                              refine g_if_le 28 32 (gd rfl) rfl rfl (fun c70x25 => ?_) (fun c70x25 => ?_)
                              · skip
                                exact zn_le c70x25 (in_c 1 rfl) rfl
                              · skip
                                refine g_iconst 1 29 (gd rfl) rfl rfl ?_
                                refine g_goto 33 (gd rfl) rfl ?_
                                refine g_ireturn (gd rfl) rfl (nb01 (in_w 0 1 (in_c 1 rfl) rfl)) (hp70 _ _ ?_)
                                show GG _ _ _ _ _ _ _ _ [.int (Int32.ofInt 1)] _ _ _
                                refine g_if_eq 76 78 (gd rfl) rfl rfl (fun c73 => ?_) (fun c73 => ?_)
                                · skip
                                  exact zn_eq c73 (in_c 1 rfl) rfl
                                · skip
                                  refine g_iconst 0 77 (gd rfl) rfl rfl ?_
                                  have n77 : CDR s (sF s 109 0 (Int32.ofInt 1)) (HNR s x1 ∧ HNR s x2 ∧ In x3 (-1000000) 1000000 ∧ In x4 0 1000000 ∧ In x5 0 25) ((s.2.2.1 109 9).toInt ≤ 3999) ((((Int32.ofInt 0)).toInt = -3 ∧ fpl (thg s 0) = 160 ∧ gvR (sF s 109 0 (Int32.ofInt 1)) = gvR s) ∨ (((Int32.ofInt 0)).toInt ≠ -3 ∧ fpl (thg s 0) = ((Int32.ofInt 0)).toNatClampNeg ∧ gvR (sF s 109 0 (Int32.ofInt 1)) = gqA (gvR s) ((Int32.ofInt 0)).toNatClampNeg x1 x2 x3 x4 x5 ∧ 0 ≤ ((Int32.ofInt 0)).toInt)) := by first | exact Or.inl ⟨rfl, (by first | (unfold HNR In; rw [show s.1 110 0 = z3x10 from e3x10.symm]; have a0 := oa7 i18x8x10b i11x11 i3x11 ((inv_F hI 0 2 rfl e_109_0)) i62 i31x10b ((in_c 1 rfl)); have a7 := tx_i2l e26; have a8 := tx_i2l e18x1; have oc := oc_282_109; omega) | (unfold HNR In; have a0 := oa7 i18x8x10b i11x11 i3x11 ((inv_F hI 0 2 rfl e_109_0)) i62 i31x10b ((in_c 1 rfl)); have a7 := tx_i2l e26; have a8 := tx_i2l e18x1; have oc := oc_282_109; omega)), (gvR_cg (L := ([], [], [(109, 0)], [])) (fr_sF rfl fr_rf) rfl)⟩ | exact Or.inr (Or.inl ⟨rfl, ⟨⟨by have a0 := oa7 i18x8x10b i11x11 i3x11 ((inv_F hI 0 2 rfl e_109_0)) i62 i31x10b ((in_c 1 rfl)); have a7 := tx_i2l e26; have a8 := tx_i2l e18x1; have oc := oc_282_109; omega, by rw [show s.1 110 0 = z3x10 from e3x10.symm]; have a0 := oa7 i18x8x10b i11x11 i3x11 ((inv_F hI 0 2 rfl e_109_0)) i62 i31x10b ((in_c 1 rfl)); have a7 := tx_i2l e26; have a8 := tx_i2l e18x1; have oc := oc_282_109; omega⟩, ⟨by have a0 := oa7 i18x8x10b i11x11 i3x11 ((inv_F hI 0 2 rfl e_109_0)) i62 i31x10b ((in_c 1 rfl)); have a7 := tx_i2l e26; have a8 := tx_i2l e18x1; have oc := oc_282_109; omega, by rw [show s.1 110 0 = z3x10 from e3x10.symm]; have a0 := oa7 i18x8x10b i11x11 i3x11 ((inv_F hI 0 2 rfl e_109_0)) i62 i31x10b ((in_c 1 rfl)); have a7 := tx_i2l e26; have a8 := tx_i2l e18x1; have oc := oc_282_109; omega⟩, ⟨by have a0 := oa7 i18x8x10b i11x11 i3x11 ((inv_F hI 0 2 rfl e_109_0)) i62 i31x10b ((in_c 1 rfl)); have a7 := tx_i2l e26; have a8 := tx_i2l e18x1; have oc := oc_282_109; omega, by have a0 := oa7 i18x8x10b i11x11 i3x11 ((inv_F hI 0 2 rfl e_109_0)) i62 i31x10b ((in_c 1 rfl)); have a7 := tx_i2l e26; have a8 := tx_i2l e18x1; have oc := oc_282_109; omega⟩, ⟨by have a0 := oa7 i18x8x10b i11x11 i3x11 ((inv_F hI 0 2 rfl e_109_0)) i62 i31x10b ((in_c 1 rfl)); have a7 := tx_i2l e26; have a8 := tx_i2l e18x1; have oc := oc_282_109; omega, by have a0 := oa7 i18x8x10b i11x11 i3x11 ((inv_F hI 0 2 rfl e_109_0)) i62 i31x10b ((in_c 1 rfl)); have a7 := tx_i2l e26; have a8 := tx_i2l e18x1; have oc := oc_282_109; omega⟩, ⟨by have a0 := oa7 i18x8x10b i11x11 i3x11 ((inv_F hI 0 2 rfl e_109_0)) i62 i31x10b ((in_c 1 rfl)); have a7 := tx_i2l e26; have a8 := tx_i2l e18x1; have oc := oc_282_109; omega, by have a0 := oa7 i18x8x10b i11x11 i3x11 ((inv_F hI 0 2 rfl e_109_0)) i62 i31x10b ((in_c 1 rfl)); have a7 := tx_i2l e26; have a8 := tx_i2l e18x1; have oc := oc_282_109; omega⟩⟩, (by rw [← e_109_9]; have a0 := oa7 i18x8x10b i11x11 i3x11 ((inv_F hI 0 2 rfl e_109_0)) i62 i31x10b ((in_c 1 rfl)); have a7 := tx_i2l e26; have a8 := tx_i2l e18x1; have oc := oc_282_109; omega), (gvR_cg (L := ([], [], [(109, 0)], [])) (fr_sF rfl fr_rf) rfl)⟩)
                                  have n77a : LGX s (sF s 109 0 (Int32.ofInt 1)) (Int32.ofInt 1) (Int32.ofInt 0) x1 x2 x3 x4 x5 := by exact Or.inl ⟨rfl, rfl, rfl, rfl, rfl, rfl, rfl, rfl⟩
                                  have n77b : GSE s → GSE (sF s 109 0 (Int32.ofInt 1)) := by exact fun h => gse_fr (L := ([], [], [(109, 0)], [])) h (fr_sF rfl fr_rf) rfl
                                  have n77c : G1S s (sF s 109 0 (Int32.ofInt 1)) := by exact ⟨rfl, fun _ _ => rfl, fun _ _ _ => ⟨rfl, rfl, rfl, rfl, rfl, rfl⟩⟩
                                  exact g_ireturn (gd rfl) rfl rfl (hP _ _ ⟨(sF s 109 0 (Int32.ofInt 1)), hI70x18, (fr_sF rfl fr_rf), (Int32.ofInt 0), rfl, rfl, in_w (-3) 159 (in_c 0 rfl) rfl, n77, n77a, n77b, n77c⟩)
                          · skip
                            have i62 := r_lt1 0 3999 c62 (inv_F hI 0 4000 rfl e_109_9) (in_c 4000 rfl) rfl
                            refine g_iconst 1 66 (gd rfl) rfl rfl ?_
                            refine g_goto 70 (gd rfl) rfl ?_
                            refine g_callv (X := _) (As := [.int (Int32.ofInt 0), .int (Int32.ofInt 1)]) (r := []) (b := A 109) (q := 109) 73 (gd rfl) rfl rfl rfl rfl rfl (ww_o rfl) (Nat.le_of_ble_eq_true rfl) (mc := 0) (ms := 0) (Nat.zero_le _) (Nat.zero_le _) (P := fun v u => _) ?_ (fun e u h => h) (fun v u h => h)
                            intro po70 xx70 hp70 hx70
                            refine g_enter2 (k := 270) (N := 300) (by first | exact dq1 hd rfl | exact dq0 hd rfl | exact dq2 hd rfl | exact dq3 hd rfl | omega) rfl (Nat.le_of_ble_eq_true rfl) ?_
                            refine g_aload_n 1 (gd rfl) rfl rfl ?_
                            refine g_iload_n 2 (gd rfl) rfl rfl ?_
                            refine g_if_ne 5 9 (gd rfl) rfl rfl (fun c70x2 => ?_) (fun c70x2 => ?_)
                            · skip
                              exact zn_ne c70x2 (in_c 0 rfl) rfl
                            · skip
                              refine g_iconst 1 6 (gd rfl) rfl rfl ?_
                              refine g_goto 18 (gd rfl) rfl ?_
                              refine g_putI 21 (gd rfl) rfl rfl rfl rfl ?_
                              have hI70x18 := inv_sF (q := 109) (j := 0) hI rfl (in_w 0 2 (in_c 1 rfl) rfl)
                              refine g_aload_n 22 (gd rfl) rfl rfl ?_
                              refine g_getI 25 (gd rfl) rfl rfl rfl (fun z70x22 e70x22 => ?_)
                              have q70x22 : (Int32.ofInt 1) = z70x22 := (sF_get).trans e70x22.symm
                              subst q70x22
                              refine g_if_le 28 32 (gd rfl) rfl rfl (fun c70x25 => ?_) (fun c70x25 => ?_)
                              · skip
                                exact zn_le c70x25 (in_c 1 rfl) rfl
                              · skip
                                refine g_iconst 1 29 (gd rfl) rfl rfl ?_
                                refine g_goto 33 (gd rfl) rfl ?_
                                refine g_ireturn (gd rfl) rfl (nb01 (in_w 0 1 (in_c 1 rfl) rfl)) (hp70 _ _ ?_)
                                show GG _ _ _ _ _ _ _ _ [.int (Int32.ofInt 1)] _ _ _
                                refine g_if_eq 76 78 (gd rfl) rfl rfl (fun c73 => ?_) (fun c73 => ?_)
                                · skip
                                  exact zn_eq c73 (in_c 1 rfl) rfl
                                · skip
                                  refine g_iconst 0 77 (gd rfl) rfl rfl ?_
                                  have n77 : CDR s (sF s 109 0 (Int32.ofInt 1)) (HNR s x1 ∧ HNR s x2 ∧ In x3 (-1000000) 1000000 ∧ In x4 0 1000000 ∧ In x5 0 25) ((s.2.2.1 109 9).toInt ≤ 3999) ((((Int32.ofInt 0)).toInt = -3 ∧ fpl (thg s 0) = 160 ∧ gvR (sF s 109 0 (Int32.ofInt 1)) = gvR s) ∨ (((Int32.ofInt 0)).toInt ≠ -3 ∧ fpl (thg s 0) = ((Int32.ofInt 0)).toNatClampNeg ∧ gvR (sF s 109 0 (Int32.ofInt 1)) = gqA (gvR s) ((Int32.ofInt 0)).toNatClampNeg x1 x2 x3 x4 x5 ∧ 0 ≤ ((Int32.ofInt 0)).toInt)) := by first | exact Or.inl ⟨rfl, (by first | (unfold HNR In; rw [show s.1 110 0 = z3x10 from e3x10.symm]; have a0 := oa7 i18x8x10b i11x11 i3x11 ((inv_F hI 0 2 rfl e_109_0)) i62 i31x10b ((in_c 1 rfl)); have a7 := tx_i2l e26; have a8 := tx_i2l e18x1; have oc := oc_282_109; omega) | (unfold HNR In; have a0 := oa7 i18x8x10b i11x11 i3x11 ((inv_F hI 0 2 rfl e_109_0)) i62 i31x10b ((in_c 1 rfl)); have a7 := tx_i2l e26; have a8 := tx_i2l e18x1; have oc := oc_282_109; omega)), (gvR_cg (L := ([], [], [(109, 0)], [])) (fr_sF rfl fr_rf) rfl)⟩ | exact Or.inr (Or.inl ⟨rfl, ⟨⟨by have a0 := oa7 i18x8x10b i11x11 i3x11 ((inv_F hI 0 2 rfl e_109_0)) i62 i31x10b ((in_c 1 rfl)); have a7 := tx_i2l e26; have a8 := tx_i2l e18x1; have oc := oc_282_109; omega, by rw [show s.1 110 0 = z3x10 from e3x10.symm]; have a0 := oa7 i18x8x10b i11x11 i3x11 ((inv_F hI 0 2 rfl e_109_0)) i62 i31x10b ((in_c 1 rfl)); have a7 := tx_i2l e26; have a8 := tx_i2l e18x1; have oc := oc_282_109; omega⟩, ⟨by have a0 := oa7 i18x8x10b i11x11 i3x11 ((inv_F hI 0 2 rfl e_109_0)) i62 i31x10b ((in_c 1 rfl)); have a7 := tx_i2l e26; have a8 := tx_i2l e18x1; have oc := oc_282_109; omega, by rw [show s.1 110 0 = z3x10 from e3x10.symm]; have a0 := oa7 i18x8x10b i11x11 i3x11 ((inv_F hI 0 2 rfl e_109_0)) i62 i31x10b ((in_c 1 rfl)); have a7 := tx_i2l e26; have a8 := tx_i2l e18x1; have oc := oc_282_109; omega⟩, ⟨by have a0 := oa7 i18x8x10b i11x11 i3x11 ((inv_F hI 0 2 rfl e_109_0)) i62 i31x10b ((in_c 1 rfl)); have a7 := tx_i2l e26; have a8 := tx_i2l e18x1; have oc := oc_282_109; omega, by have a0 := oa7 i18x8x10b i11x11 i3x11 ((inv_F hI 0 2 rfl e_109_0)) i62 i31x10b ((in_c 1 rfl)); have a7 := tx_i2l e26; have a8 := tx_i2l e18x1; have oc := oc_282_109; omega⟩, ⟨by have a0 := oa7 i18x8x10b i11x11 i3x11 ((inv_F hI 0 2 rfl e_109_0)) i62 i31x10b ((in_c 1 rfl)); have a7 := tx_i2l e26; have a8 := tx_i2l e18x1; have oc := oc_282_109; omega, by have a0 := oa7 i18x8x10b i11x11 i3x11 ((inv_F hI 0 2 rfl e_109_0)) i62 i31x10b ((in_c 1 rfl)); have a7 := tx_i2l e26; have a8 := tx_i2l e18x1; have oc := oc_282_109; omega⟩, ⟨by have a0 := oa7 i18x8x10b i11x11 i3x11 ((inv_F hI 0 2 rfl e_109_0)) i62 i31x10b ((in_c 1 rfl)); have a7 := tx_i2l e26; have a8 := tx_i2l e18x1; have oc := oc_282_109; omega, by have a0 := oa7 i18x8x10b i11x11 i3x11 ((inv_F hI 0 2 rfl e_109_0)) i62 i31x10b ((in_c 1 rfl)); have a7 := tx_i2l e26; have a8 := tx_i2l e18x1; have oc := oc_282_109; omega⟩⟩, (by rw [← e_109_9]; have a0 := oa7 i18x8x10b i11x11 i3x11 ((inv_F hI 0 2 rfl e_109_0)) i62 i31x10b ((in_c 1 rfl)); have a7 := tx_i2l e26; have a8 := tx_i2l e18x1; have oc := oc_282_109; omega), (gvR_cg (L := ([], [], [(109, 0)], [])) (fr_sF rfl fr_rf) rfl)⟩)
                                  have n77a : LGX s (sF s 109 0 (Int32.ofInt 1)) (Int32.ofInt 1) (Int32.ofInt 0) x1 x2 x3 x4 x5 := by exact Or.inl ⟨rfl, rfl, rfl, rfl, rfl, rfl, rfl, rfl⟩
                                  have n77b : GSE s → GSE (sF s 109 0 (Int32.ofInt 1)) := by exact fun h => gse_fr (L := ([], [], [(109, 0)], [])) h (fr_sF rfl fr_rf) rfl
                                  have n77c : G1S s (sF s 109 0 (Int32.ofInt 1)) := by exact ⟨rfl, fun _ _ => rfl, fun _ _ _ => ⟨rfl, rfl, rfl, rfl, rfl, rfl⟩⟩
                                  exact g_ireturn (gd rfl) rfl rfl (hP _ _ ⟨(sF s 109 0 (Int32.ofInt 1)), hI70x18, (fr_sF rfl fr_rf), (Int32.ofInt 0), rfl, rfl, in_w (-3) 159 (in_c 0 rfl) rfl, n77, n77a, n77b, n77c⟩)
                        · skip
                          exact zn_ne c34 (in_c 0 rfl) rfl
                      · skip
                        have i31x10 := z_le (-1) 0 c31x10 i31x9 rfl
                        have c31x10a := lc_le e31x9 c31x10
                        have i31x10a := lr_le1 0 1000000 c31x10a i31x3a (l_c 1000000 rfl) rfl
                        have i31x10b := l_b e26 i31x10a
                        refine g_iconst 1 14 (gd rfl) rfl rfl ?_
                        refine g_goto 18 (gd rfl) rfl ?_
                        refine g_ireturn (gd rfl) rfl (nb01 (in_w 0 1 (in_c 1 rfl) rfl)) (hp31 _ _ ?_)
                        show GG _ _ _ _ _ _ _ _ [.int (Int32.ofInt 1), .ref (A 109)] _ _ _
                        refine g_if_eq 37 54 (gd rfl) rfl rfl (fun c34 => ?_) (fun c34 => ?_)
                        · skip
                          exact zn_eq c34 (in_c 1 rfl) rfl
                        · skip
                          refine g_iload 39 (gd rfl) rfl rfl ?_
                          refine g_i2l 40 (gd rfl) rfl (fun z39 e39 => ?_)
                          have i39 := l_i e39 (i_rng x5)
                          refine g_lconst 0 41 (gd rfl) rfl rfl ?_
                          refine g_ldc2_w 25 44 (gd rfl) rfl rfl ?_
                          refine g_calls (As := [.long z39, .long (Int64.ofInt 0), .long (Int64.ofInt 25)]) (r := [.ref (A 109)]) 47 (gd rfl) rfl rfl rfl rfl rfl (Nat.le_of_ble_eq_true rfl) (mc := 0) (ms := 0) (Nat.zero_le _) (Nat.zero_le _) (P := fun v u => _) ?_ (fun v u h => h)
                          intro po44 xx44 hp44 hx44
                          refine g_enter2 (k := 269) (N := 300) (by first | exact dq1 hd rfl | exact dq0 hd rfl | exact dq2 hd rfl | exact dq3 hd rfl | omega) rfl (Nat.le_of_ble_eq_true rfl) ?_
                          refine g_lload_n 1 (gd rfl) rfl rfl ?_
                          refine g_lload_n 2 (gd rfl) rfl rfl ?_
                          refine g_lcmp 3 (gd rfl) rfl (fun z44x2 e44x2 => ?_)
                          have i44x2 := lc_in e44x2
                          refine g_if_lt 6 17 (gd rfl) rfl rfl (fun c44x3 => ?_) (fun c44x3 => ?_)
                          · skip
                            have i44x3 := z_lt (-1) (-1) c44x3 i44x2 rfl
                            have c44x3a := lc_lt e44x2 c44x3
                            have i44x3a := lr_lt1 (-2147483648) (-1) c44x3a i39 (l_c 0 rfl) rfl
                            have i44x3b := l_b e39 i44x3a
                            refine g_iconst 0 18 (gd rfl) rfl rfl ?_
                            refine g_ireturn (gd rfl) rfl (nb01 (in_w 0 1 (in_c 0 rfl) rfl)) (hp44 _ _ ?_)
                            show GG _ _ _ _ _ _ _ _ [.int (Int32.ofInt 0), .ref (A 109)] _ _ _
                            refine g_if_eq 50 54 (gd rfl) rfl rfl (fun c47 => ?_) (fun c47 => ?_)
                            · skip
                              refine g_iconst 0 55 (gd rfl) rfl rfl ?_
                              refine g_aload_n 56 (gd rfl) rfl rfl ?_
                              refine g_getI 59 (gd rfl) rfl rfl rfl (fun z56 e56 => ?_)
                              have q56 : u_109_9 = z56 := (e_109_9).trans e56.symm
                              subst q56
                              refine g_sipush 4000 62 (gd rfl) rfl rfl ?_
                              refine g_cmp_ge 65 69 (gd rfl) rfl rfl (fun c62 => ?_) (fun c62 => ?_)
                              · skip
                                have i62 := r_le2 4000 4000 c62 (in_c 4000 rfl) (inv_F hI 0 4000 rfl e_109_9) rfl
                                refine g_iconst 0 70 (gd rfl) rfl rfl ?_
                                refine g_callv (X := _) (As := [.int (Int32.ofInt 0), .int (Int32.ofInt 0)]) (r := []) (b := A 109) (q := 109) 73 (gd rfl) rfl rfl rfl rfl rfl (ww_o rfl) (Nat.le_of_ble_eq_true rfl) (mc := 0) (ms := 0) (Nat.zero_le _) (Nat.zero_le _) (P := fun v u => _) ?_ (fun e u h => h) (fun v u h => h)
                                intro po70 xx70 hp70 hx70
                                refine g_enter2 (k := 270) (N := 300) (by first | exact dq1 hd rfl | exact dq0 hd rfl | exact dq2 hd rfl | exact dq3 hd rfl | omega) rfl (Nat.le_of_ble_eq_true rfl) ?_
                                refine g_aload_n 1 (gd rfl) rfl rfl ?_
                                refine g_iload_n 2 (gd rfl) rfl rfl ?_
                                refine g_if_ne 5 9 (gd rfl) rfl rfl (fun c70x2 => ?_) (fun c70x2 => ?_)
                                · skip
                                  exact zn_ne c70x2 (in_c 0 rfl) rfl
                                · skip
                                  refine g_iconst 1 6 (gd rfl) rfl rfl ?_
                                  refine g_goto 18 (gd rfl) rfl ?_
                                  refine g_putI 21 (gd rfl) rfl rfl rfl rfl ?_
                                  have hI70x18 := inv_sF (q := 109) (j := 0) hI rfl (in_w 0 2 (in_c 1 rfl) rfl)
                                  refine g_aload_n 22 (gd rfl) rfl rfl ?_
                                  refine g_getI 25 (gd rfl) rfl rfl rfl (fun z70x22 e70x22 => ?_)
                                  have q70x22 : (Int32.ofInt 1) = z70x22 := (sF_get).trans e70x22.symm
                                  subst q70x22
                                  refine g_if_le 28 32 (gd rfl) rfl rfl (fun c70x25 => ?_) (fun c70x25 => ?_)
                                  · skip
                                    exact zn_le c70x25 (in_c 1 rfl) rfl
                                  · skip
                                    refine g_iconst 1 29 (gd rfl) rfl rfl ?_
                                    refine g_goto 33 (gd rfl) rfl ?_
                                    refine g_ireturn (gd rfl) rfl (nb01 (in_w 0 1 (in_c 1 rfl) rfl)) (hp70 _ _ ?_)
                                    show GG _ _ _ _ _ _ _ _ [.int (Int32.ofInt 1)] _ _ _
                                    refine g_if_eq 76 78 (gd rfl) rfl rfl (fun c73 => ?_) (fun c73 => ?_)
                                    · skip
                                      exact zn_eq c73 (in_c 1 rfl) rfl
                                    · skip
                                      refine g_iconst 0 77 (gd rfl) rfl rfl ?_
                                      have n77 : CDR s (sF s 109 0 (Int32.ofInt 1)) (HNR s x1 ∧ HNR s x2 ∧ In x3 (-1000000) 1000000 ∧ In x4 0 1000000 ∧ In x5 0 25) ((s.2.2.1 109 9).toInt ≤ 3999) ((((Int32.ofInt 0)).toInt = -3 ∧ fpl (thg s 0) = 160 ∧ gvR (sF s 109 0 (Int32.ofInt 1)) = gvR s) ∨ (((Int32.ofInt 0)).toInt ≠ -3 ∧ fpl (thg s 0) = ((Int32.ofInt 0)).toNatClampNeg ∧ gvR (sF s 109 0 (Int32.ofInt 1)) = gqA (gvR s) ((Int32.ofInt 0)).toNatClampNeg x1 x2 x3 x4 x5 ∧ 0 ≤ ((Int32.ofInt 0)).toInt)) := by first | exact Or.inl ⟨rfl, (by first | (unfold HNR In; rw [show s.1 110 0 = z3x10 from e3x10.symm]; have a0 := oa8 i31x10b i18x8x10b i11x11 i3x11 ((inv_F hI 0 2 rfl e_109_0)) i62 i44x3b ((in_c 1 rfl)); have a8 := tx_i2l e39; have a9 := tx_i2l e26; have a10 := tx_i2l e18x1; have oc := oc_282_109; omega) | (unfold HNR In; have a0 := oa8 i31x10b i18x8x10b i11x11 i3x11 ((inv_F hI 0 2 rfl e_109_0)) i62 i44x3b ((in_c 1 rfl)); have a8 := tx_i2l e39; have a9 := tx_i2l e26; have a10 := tx_i2l e18x1; have oc := oc_282_109; omega)), (gvR_cg (L := ([], [], [(109, 0)], [])) (fr_sF rfl fr_rf) rfl)⟩ | exact Or.inr (Or.inl ⟨rfl, ⟨⟨by have a0 := oa8 i31x10b i18x8x10b i11x11 i3x11 ((inv_F hI 0 2 rfl e_109_0)) i62 i44x3b ((in_c 1 rfl)); have a8 := tx_i2l e39; have a9 := tx_i2l e26; have a10 := tx_i2l e18x1; have oc := oc_282_109; omega, by rw [show s.1 110 0 = z3x10 from e3x10.symm]; have a0 := oa8 i31x10b i18x8x10b i11x11 i3x11 ((inv_F hI 0 2 rfl e_109_0)) i62 i44x3b ((in_c 1 rfl)); have a8 := tx_i2l e39; have a9 := tx_i2l e26; have a10 := tx_i2l e18x1; have oc := oc_282_109; omega⟩, ⟨by have a0 := oa8 i31x10b i18x8x10b i11x11 i3x11 ((inv_F hI 0 2 rfl e_109_0)) i62 i44x3b ((in_c 1 rfl)); have a8 := tx_i2l e39; have a9 := tx_i2l e26; have a10 := tx_i2l e18x1; have oc := oc_282_109; omega, by rw [show s.1 110 0 = z3x10 from e3x10.symm]; have a0 := oa8 i31x10b i18x8x10b i11x11 i3x11 ((inv_F hI 0 2 rfl e_109_0)) i62 i44x3b ((in_c 1 rfl)); have a8 := tx_i2l e39; have a9 := tx_i2l e26; have a10 := tx_i2l e18x1; have oc := oc_282_109; omega⟩, ⟨by have a0 := oa8 i31x10b i18x8x10b i11x11 i3x11 ((inv_F hI 0 2 rfl e_109_0)) i62 i44x3b ((in_c 1 rfl)); have a8 := tx_i2l e39; have a9 := tx_i2l e26; have a10 := tx_i2l e18x1; have oc := oc_282_109; omega, by have a0 := oa8 i31x10b i18x8x10b i11x11 i3x11 ((inv_F hI 0 2 rfl e_109_0)) i62 i44x3b ((in_c 1 rfl)); have a8 := tx_i2l e39; have a9 := tx_i2l e26; have a10 := tx_i2l e18x1; have oc := oc_282_109; omega⟩, ⟨by have a0 := oa8 i31x10b i18x8x10b i11x11 i3x11 ((inv_F hI 0 2 rfl e_109_0)) i62 i44x3b ((in_c 1 rfl)); have a8 := tx_i2l e39; have a9 := tx_i2l e26; have a10 := tx_i2l e18x1; have oc := oc_282_109; omega, by have a0 := oa8 i31x10b i18x8x10b i11x11 i3x11 ((inv_F hI 0 2 rfl e_109_0)) i62 i44x3b ((in_c 1 rfl)); have a8 := tx_i2l e39; have a9 := tx_i2l e26; have a10 := tx_i2l e18x1; have oc := oc_282_109; omega⟩, ⟨by have a0 := oa8 i31x10b i18x8x10b i11x11 i3x11 ((inv_F hI 0 2 rfl e_109_0)) i62 i44x3b ((in_c 1 rfl)); have a8 := tx_i2l e39; have a9 := tx_i2l e26; have a10 := tx_i2l e18x1; have oc := oc_282_109; omega, by have a0 := oa8 i31x10b i18x8x10b i11x11 i3x11 ((inv_F hI 0 2 rfl e_109_0)) i62 i44x3b ((in_c 1 rfl)); have a8 := tx_i2l e39; have a9 := tx_i2l e26; have a10 := tx_i2l e18x1; have oc := oc_282_109; omega⟩⟩, (by rw [← e_109_9]; have a0 := oa8 i31x10b i18x8x10b i11x11 i3x11 ((inv_F hI 0 2 rfl e_109_0)) i62 i44x3b ((in_c 1 rfl)); have a8 := tx_i2l e39; have a9 := tx_i2l e26; have a10 := tx_i2l e18x1; have oc := oc_282_109; omega), (gvR_cg (L := ([], [], [(109, 0)], [])) (fr_sF rfl fr_rf) rfl)⟩)
                                      have n77a : LGX s (sF s 109 0 (Int32.ofInt 1)) (Int32.ofInt 1) (Int32.ofInt 0) x1 x2 x3 x4 x5 := by exact Or.inl ⟨rfl, rfl, rfl, rfl, rfl, rfl, rfl, rfl⟩
                                      have n77b : GSE s → GSE (sF s 109 0 (Int32.ofInt 1)) := by exact fun h => gse_fr (L := ([], [], [(109, 0)], [])) h (fr_sF rfl fr_rf) rfl
                                      have n77c : G1S s (sF s 109 0 (Int32.ofInt 1)) := by exact ⟨rfl, fun _ _ => rfl, fun _ _ _ => ⟨rfl, rfl, rfl, rfl, rfl, rfl⟩⟩
                                      exact g_ireturn (gd rfl) rfl rfl (hP _ _ ⟨(sF s 109 0 (Int32.ofInt 1)), hI70x18, (fr_sF rfl fr_rf), (Int32.ofInt 0), rfl, rfl, in_w (-3) 159 (in_c 0 rfl) rfl, n77, n77a, n77b, n77c⟩)
                              · skip
                                have i62 := r_lt1 0 3999 c62 (inv_F hI 0 4000 rfl e_109_9) (in_c 4000 rfl) rfl
                                refine g_iconst 1 66 (gd rfl) rfl rfl ?_
                                refine g_goto 70 (gd rfl) rfl ?_
                                refine g_callv (X := _) (As := [.int (Int32.ofInt 0), .int (Int32.ofInt 1)]) (r := []) (b := A 109) (q := 109) 73 (gd rfl) rfl rfl rfl rfl rfl (ww_o rfl) (Nat.le_of_ble_eq_true rfl) (mc := 0) (ms := 0) (Nat.zero_le _) (Nat.zero_le _) (P := fun v u => _) ?_ (fun e u h => h) (fun v u h => h)
                                intro po70 xx70 hp70 hx70
                                refine g_enter2 (k := 270) (N := 300) (by first | exact dq1 hd rfl | exact dq0 hd rfl | exact dq2 hd rfl | exact dq3 hd rfl | omega) rfl (Nat.le_of_ble_eq_true rfl) ?_
                                refine g_aload_n 1 (gd rfl) rfl rfl ?_
                                refine g_iload_n 2 (gd rfl) rfl rfl ?_
                                refine g_if_ne 5 9 (gd rfl) rfl rfl (fun c70x2 => ?_) (fun c70x2 => ?_)
                                · skip
                                  exact zn_ne c70x2 (in_c 0 rfl) rfl
                                · skip
                                  refine g_iconst 1 6 (gd rfl) rfl rfl ?_
                                  refine g_goto 18 (gd rfl) rfl ?_
                                  refine g_putI 21 (gd rfl) rfl rfl rfl rfl ?_
                                  have hI70x18 := inv_sF (q := 109) (j := 0) hI rfl (in_w 0 2 (in_c 1 rfl) rfl)
                                  refine g_aload_n 22 (gd rfl) rfl rfl ?_
                                  refine g_getI 25 (gd rfl) rfl rfl rfl (fun z70x22 e70x22 => ?_)
                                  have q70x22 : (Int32.ofInt 1) = z70x22 := (sF_get).trans e70x22.symm
                                  subst q70x22
                                  refine g_if_le 28 32 (gd rfl) rfl rfl (fun c70x25 => ?_) (fun c70x25 => ?_)
                                  · skip
                                    exact zn_le c70x25 (in_c 1 rfl) rfl
                                  · skip
                                    refine g_iconst 1 29 (gd rfl) rfl rfl ?_
                                    refine g_goto 33 (gd rfl) rfl ?_
                                    refine g_ireturn (gd rfl) rfl (nb01 (in_w 0 1 (in_c 1 rfl) rfl)) (hp70 _ _ ?_)
                                    show GG _ _ _ _ _ _ _ _ [.int (Int32.ofInt 1)] _ _ _
                                    refine g_if_eq 76 78 (gd rfl) rfl rfl (fun c73 => ?_) (fun c73 => ?_)
                                    · skip
                                      exact zn_eq c73 (in_c 1 rfl) rfl
                                    · skip
                                      refine g_iconst 0 77 (gd rfl) rfl rfl ?_
                                      have n77 : CDR s (sF s 109 0 (Int32.ofInt 1)) (HNR s x1 ∧ HNR s x2 ∧ In x3 (-1000000) 1000000 ∧ In x4 0 1000000 ∧ In x5 0 25) ((s.2.2.1 109 9).toInt ≤ 3999) ((((Int32.ofInt 0)).toInt = -3 ∧ fpl (thg s 0) = 160 ∧ gvR (sF s 109 0 (Int32.ofInt 1)) = gvR s) ∨ (((Int32.ofInt 0)).toInt ≠ -3 ∧ fpl (thg s 0) = ((Int32.ofInt 0)).toNatClampNeg ∧ gvR (sF s 109 0 (Int32.ofInt 1)) = gqA (gvR s) ((Int32.ofInt 0)).toNatClampNeg x1 x2 x3 x4 x5 ∧ 0 ≤ ((Int32.ofInt 0)).toInt)) := by first | exact Or.inl ⟨rfl, (by first | (unfold HNR In; rw [show s.1 110 0 = z3x10 from e3x10.symm]; have a0 := oa8 i31x10b i18x8x10b i11x11 i3x11 ((inv_F hI 0 2 rfl e_109_0)) i62 i44x3b ((in_c 1 rfl)); have a8 := tx_i2l e39; have a9 := tx_i2l e26; have a10 := tx_i2l e18x1; have oc := oc_282_109; omega) | (unfold HNR In; have a0 := oa8 i31x10b i18x8x10b i11x11 i3x11 ((inv_F hI 0 2 rfl e_109_0)) i62 i44x3b ((in_c 1 rfl)); have a8 := tx_i2l e39; have a9 := tx_i2l e26; have a10 := tx_i2l e18x1; have oc := oc_282_109; omega)), (gvR_cg (L := ([], [], [(109, 0)], [])) (fr_sF rfl fr_rf) rfl)⟩ | exact Or.inr (Or.inl ⟨rfl, ⟨⟨by have a0 := oa8 i31x10b i18x8x10b i11x11 i3x11 ((inv_F hI 0 2 rfl e_109_0)) i62 i44x3b ((in_c 1 rfl)); have a8 := tx_i2l e39; have a9 := tx_i2l e26; have a10 := tx_i2l e18x1; have oc := oc_282_109; omega, by rw [show s.1 110 0 = z3x10 from e3x10.symm]; have a0 := oa8 i31x10b i18x8x10b i11x11 i3x11 ((inv_F hI 0 2 rfl e_109_0)) i62 i44x3b ((in_c 1 rfl)); have a8 := tx_i2l e39; have a9 := tx_i2l e26; have a10 := tx_i2l e18x1; have oc := oc_282_109; omega⟩, ⟨by have a0 := oa8 i31x10b i18x8x10b i11x11 i3x11 ((inv_F hI 0 2 rfl e_109_0)) i62 i44x3b ((in_c 1 rfl)); have a8 := tx_i2l e39; have a9 := tx_i2l e26; have a10 := tx_i2l e18x1; have oc := oc_282_109; omega, by rw [show s.1 110 0 = z3x10 from e3x10.symm]; have a0 := oa8 i31x10b i18x8x10b i11x11 i3x11 ((inv_F hI 0 2 rfl e_109_0)) i62 i44x3b ((in_c 1 rfl)); have a8 := tx_i2l e39; have a9 := tx_i2l e26; have a10 := tx_i2l e18x1; have oc := oc_282_109; omega⟩, ⟨by have a0 := oa8 i31x10b i18x8x10b i11x11 i3x11 ((inv_F hI 0 2 rfl e_109_0)) i62 i44x3b ((in_c 1 rfl)); have a8 := tx_i2l e39; have a9 := tx_i2l e26; have a10 := tx_i2l e18x1; have oc := oc_282_109; omega, by have a0 := oa8 i31x10b i18x8x10b i11x11 i3x11 ((inv_F hI 0 2 rfl e_109_0)) i62 i44x3b ((in_c 1 rfl)); have a8 := tx_i2l e39; have a9 := tx_i2l e26; have a10 := tx_i2l e18x1; have oc := oc_282_109; omega⟩, ⟨by have a0 := oa8 i31x10b i18x8x10b i11x11 i3x11 ((inv_F hI 0 2 rfl e_109_0)) i62 i44x3b ((in_c 1 rfl)); have a8 := tx_i2l e39; have a9 := tx_i2l e26; have a10 := tx_i2l e18x1; have oc := oc_282_109; omega, by have a0 := oa8 i31x10b i18x8x10b i11x11 i3x11 ((inv_F hI 0 2 rfl e_109_0)) i62 i44x3b ((in_c 1 rfl)); have a8 := tx_i2l e39; have a9 := tx_i2l e26; have a10 := tx_i2l e18x1; have oc := oc_282_109; omega⟩, ⟨by have a0 := oa8 i31x10b i18x8x10b i11x11 i3x11 ((inv_F hI 0 2 rfl e_109_0)) i62 i44x3b ((in_c 1 rfl)); have a8 := tx_i2l e39; have a9 := tx_i2l e26; have a10 := tx_i2l e18x1; have oc := oc_282_109; omega, by have a0 := oa8 i31x10b i18x8x10b i11x11 i3x11 ((inv_F hI 0 2 rfl e_109_0)) i62 i44x3b ((in_c 1 rfl)); have a8 := tx_i2l e39; have a9 := tx_i2l e26; have a10 := tx_i2l e18x1; have oc := oc_282_109; omega⟩⟩, (by rw [← e_109_9]; have a0 := oa8 i31x10b i18x8x10b i11x11 i3x11 ((inv_F hI 0 2 rfl e_109_0)) i62 i44x3b ((in_c 1 rfl)); have a8 := tx_i2l e39; have a9 := tx_i2l e26; have a10 := tx_i2l e18x1; have oc := oc_282_109; omega), (gvR_cg (L := ([], [], [(109, 0)], [])) (fr_sF rfl fr_rf) rfl)⟩)
                                      have n77a : LGX s (sF s 109 0 (Int32.ofInt 1)) (Int32.ofInt 1) (Int32.ofInt 0) x1 x2 x3 x4 x5 := by exact Or.inl ⟨rfl, rfl, rfl, rfl, rfl, rfl, rfl, rfl⟩
                                      have n77b : GSE s → GSE (sF s 109 0 (Int32.ofInt 1)) := by exact fun h => gse_fr (L := ([], [], [(109, 0)], [])) h (fr_sF rfl fr_rf) rfl
                                      have n77c : G1S s (sF s 109 0 (Int32.ofInt 1)) := by exact ⟨rfl, fun _ _ => rfl, fun _ _ _ => ⟨rfl, rfl, rfl, rfl, rfl, rfl⟩⟩
                                      exact g_ireturn (gd rfl) rfl rfl (hP _ _ ⟨(sF s 109 0 (Int32.ofInt 1)), hI70x18, (fr_sF rfl fr_rf), (Int32.ofInt 0), rfl, rfl, in_w (-3) 159 (in_c 0 rfl) rfl, n77, n77a, n77b, n77c⟩)
                            · skip
                              exact zn_ne c47 (in_c 0 rfl) rfl
                          · skip
                            have i44x3 := z_ge 0 1 c44x3 i44x2 rfl
                            have c44x3a := lc_ge e44x2 c44x3
                            have i44x3a := lr_le2 0 2147483647 c44x3a (l_c 0 rfl) i39 rfl
                            have i44x3b := l_b e39 i44x3a
                            refine g_lload_n 7 (gd rfl) rfl rfl ?_
                            refine g_lload 9 (gd rfl) rfl rfl ?_
                            refine g_lcmp 10 (gd rfl) rfl (fun z44x9 e44x9 => ?_)
                            have i44x9 := lc_in e44x9
                            refine g_if_gt 13 17 (gd rfl) rfl rfl (fun c44x10 => ?_) (fun c44x10 => ?_)
                            · skip
                              have i44x10 := z_gt 1 1 c44x10 i44x9 rfl
                              have c44x10a := lc_gt e44x9 c44x10
                              have i44x10a := lr_lt2 26 2147483647 c44x10a (l_c 25 rfl) i44x3a rfl
                              have i44x10b := l_b e39 i44x10a
                              refine g_iconst 0 18 (gd rfl) rfl rfl ?_
                              refine g_ireturn (gd rfl) rfl (nb01 (in_w 0 1 (in_c 0 rfl) rfl)) (hp44 _ _ ?_)
                              show GG _ _ _ _ _ _ _ _ [.int (Int32.ofInt 0), .ref (A 109)] _ _ _
                              refine g_if_eq 50 54 (gd rfl) rfl rfl (fun c47 => ?_) (fun c47 => ?_)
                              · skip
                                refine g_iconst 0 55 (gd rfl) rfl rfl ?_
                                refine g_aload_n 56 (gd rfl) rfl rfl ?_
                                refine g_getI 59 (gd rfl) rfl rfl rfl (fun z56 e56 => ?_)
                                have q56 : u_109_9 = z56 := (e_109_9).trans e56.symm
                                subst q56
                                refine g_sipush 4000 62 (gd rfl) rfl rfl ?_
                                refine g_cmp_ge 65 69 (gd rfl) rfl rfl (fun c62 => ?_) (fun c62 => ?_)
                                · skip
                                  have i62 := r_le2 4000 4000 c62 (in_c 4000 rfl) (inv_F hI 0 4000 rfl e_109_9) rfl
                                  refine g_iconst 0 70 (gd rfl) rfl rfl ?_
                                  refine g_callv (X := _) (As := [.int (Int32.ofInt 0), .int (Int32.ofInt 0)]) (r := []) (b := A 109) (q := 109) 73 (gd rfl) rfl rfl rfl rfl rfl (ww_o rfl) (Nat.le_of_ble_eq_true rfl) (mc := 0) (ms := 0) (Nat.zero_le _) (Nat.zero_le _) (P := fun v u => _) ?_ (fun e u h => h) (fun v u h => h)
                                  intro po70 xx70 hp70 hx70
                                  refine g_enter2 (k := 270) (N := 300) (by first | exact dq1 hd rfl | exact dq0 hd rfl | exact dq2 hd rfl | exact dq3 hd rfl | omega) rfl (Nat.le_of_ble_eq_true rfl) ?_
                                  refine g_aload_n 1 (gd rfl) rfl rfl ?_
                                  refine g_iload_n 2 (gd rfl) rfl rfl ?_
                                  refine g_if_ne 5 9 (gd rfl) rfl rfl (fun c70x2 => ?_) (fun c70x2 => ?_)
                                  · skip
                                    exact zn_ne c70x2 (in_c 0 rfl) rfl
                                  · skip
                                    refine g_iconst 1 6 (gd rfl) rfl rfl ?_
                                    refine g_goto 18 (gd rfl) rfl ?_
                                    refine g_putI 21 (gd rfl) rfl rfl rfl rfl ?_
                                    have hI70x18 := inv_sF (q := 109) (j := 0) hI rfl (in_w 0 2 (in_c 1 rfl) rfl)
                                    refine g_aload_n 22 (gd rfl) rfl rfl ?_
                                    refine g_getI 25 (gd rfl) rfl rfl rfl (fun z70x22 e70x22 => ?_)
                                    have q70x22 : (Int32.ofInt 1) = z70x22 := (sF_get).trans e70x22.symm
                                    subst q70x22
                                    refine g_if_le 28 32 (gd rfl) rfl rfl (fun c70x25 => ?_) (fun c70x25 => ?_)
                                    · skip
                                      exact zn_le c70x25 (in_c 1 rfl) rfl
                                    · skip
                                      refine g_iconst 1 29 (gd rfl) rfl rfl ?_
                                      refine g_goto 33 (gd rfl) rfl ?_
                                      refine g_ireturn (gd rfl) rfl (nb01 (in_w 0 1 (in_c 1 rfl) rfl)) (hp70 _ _ ?_)
                                      show GG _ _ _ _ _ _ _ _ [.int (Int32.ofInt 1)] _ _ _
                                      refine g_if_eq 76 78 (gd rfl) rfl rfl (fun c73 => ?_) (fun c73 => ?_)
                                      · skip
                                        exact zn_eq c73 (in_c 1 rfl) rfl
                                      · skip
                                        refine g_iconst 0 77 (gd rfl) rfl rfl ?_
                                        have n77 : CDR s (sF s 109 0 (Int32.ofInt 1)) (HNR s x1 ∧ HNR s x2 ∧ In x3 (-1000000) 1000000 ∧ In x4 0 1000000 ∧ In x5 0 25) ((s.2.2.1 109 9).toInt ≤ 3999) ((((Int32.ofInt 0)).toInt = -3 ∧ fpl (thg s 0) = 160 ∧ gvR (sF s 109 0 (Int32.ofInt 1)) = gvR s) ∨ (((Int32.ofInt 0)).toInt ≠ -3 ∧ fpl (thg s 0) = ((Int32.ofInt 0)).toNatClampNeg ∧ gvR (sF s 109 0 (Int32.ofInt 1)) = gqA (gvR s) ((Int32.ofInt 0)).toNatClampNeg x1 x2 x3 x4 x5 ∧ 0 ≤ ((Int32.ofInt 0)).toInt)) := by first | exact Or.inl ⟨rfl, (by first | (unfold HNR In; rw [show s.1 110 0 = z3x10 from e3x10.symm]; have a0 := oa8 i31x10b i18x8x10b i11x11 i3x11 ((inv_F hI 0 2 rfl e_109_0)) i62 i44x10b ((in_c 1 rfl)); have a8 := tx_i2l e39; have a9 := tx_i2l e26; have a10 := tx_i2l e18x1; have oc := oc_282_109; omega) | (unfold HNR In; have a0 := oa8 i31x10b i18x8x10b i11x11 i3x11 ((inv_F hI 0 2 rfl e_109_0)) i62 i44x10b ((in_c 1 rfl)); have a8 := tx_i2l e39; have a9 := tx_i2l e26; have a10 := tx_i2l e18x1; have oc := oc_282_109; omega)), (gvR_cg (L := ([], [], [(109, 0)], [])) (fr_sF rfl fr_rf) rfl)⟩ | exact Or.inr (Or.inl ⟨rfl, ⟨⟨by have a0 := oa8 i31x10b i18x8x10b i11x11 i3x11 ((inv_F hI 0 2 rfl e_109_0)) i62 i44x10b ((in_c 1 rfl)); have a8 := tx_i2l e39; have a9 := tx_i2l e26; have a10 := tx_i2l e18x1; have oc := oc_282_109; omega, by rw [show s.1 110 0 = z3x10 from e3x10.symm]; have a0 := oa8 i31x10b i18x8x10b i11x11 i3x11 ((inv_F hI 0 2 rfl e_109_0)) i62 i44x10b ((in_c 1 rfl)); have a8 := tx_i2l e39; have a9 := tx_i2l e26; have a10 := tx_i2l e18x1; have oc := oc_282_109; omega⟩, ⟨by have a0 := oa8 i31x10b i18x8x10b i11x11 i3x11 ((inv_F hI 0 2 rfl e_109_0)) i62 i44x10b ((in_c 1 rfl)); have a8 := tx_i2l e39; have a9 := tx_i2l e26; have a10 := tx_i2l e18x1; have oc := oc_282_109; omega, by rw [show s.1 110 0 = z3x10 from e3x10.symm]; have a0 := oa8 i31x10b i18x8x10b i11x11 i3x11 ((inv_F hI 0 2 rfl e_109_0)) i62 i44x10b ((in_c 1 rfl)); have a8 := tx_i2l e39; have a9 := tx_i2l e26; have a10 := tx_i2l e18x1; have oc := oc_282_109; omega⟩, ⟨by have a0 := oa8 i31x10b i18x8x10b i11x11 i3x11 ((inv_F hI 0 2 rfl e_109_0)) i62 i44x10b ((in_c 1 rfl)); have a8 := tx_i2l e39; have a9 := tx_i2l e26; have a10 := tx_i2l e18x1; have oc := oc_282_109; omega, by have a0 := oa8 i31x10b i18x8x10b i11x11 i3x11 ((inv_F hI 0 2 rfl e_109_0)) i62 i44x10b ((in_c 1 rfl)); have a8 := tx_i2l e39; have a9 := tx_i2l e26; have a10 := tx_i2l e18x1; have oc := oc_282_109; omega⟩, ⟨by have a0 := oa8 i31x10b i18x8x10b i11x11 i3x11 ((inv_F hI 0 2 rfl e_109_0)) i62 i44x10b ((in_c 1 rfl)); have a8 := tx_i2l e39; have a9 := tx_i2l e26; have a10 := tx_i2l e18x1; have oc := oc_282_109; omega, by have a0 := oa8 i31x10b i18x8x10b i11x11 i3x11 ((inv_F hI 0 2 rfl e_109_0)) i62 i44x10b ((in_c 1 rfl)); have a8 := tx_i2l e39; have a9 := tx_i2l e26; have a10 := tx_i2l e18x1; have oc := oc_282_109; omega⟩, ⟨by have a0 := oa8 i31x10b i18x8x10b i11x11 i3x11 ((inv_F hI 0 2 rfl e_109_0)) i62 i44x10b ((in_c 1 rfl)); have a8 := tx_i2l e39; have a9 := tx_i2l e26; have a10 := tx_i2l e18x1; have oc := oc_282_109; omega, by have a0 := oa8 i31x10b i18x8x10b i11x11 i3x11 ((inv_F hI 0 2 rfl e_109_0)) i62 i44x10b ((in_c 1 rfl)); have a8 := tx_i2l e39; have a9 := tx_i2l e26; have a10 := tx_i2l e18x1; have oc := oc_282_109; omega⟩⟩, (by rw [← e_109_9]; have a0 := oa8 i31x10b i18x8x10b i11x11 i3x11 ((inv_F hI 0 2 rfl e_109_0)) i62 i44x10b ((in_c 1 rfl)); have a8 := tx_i2l e39; have a9 := tx_i2l e26; have a10 := tx_i2l e18x1; have oc := oc_282_109; omega), (gvR_cg (L := ([], [], [(109, 0)], [])) (fr_sF rfl fr_rf) rfl)⟩)
                                        have n77a : LGX s (sF s 109 0 (Int32.ofInt 1)) (Int32.ofInt 1) (Int32.ofInt 0) x1 x2 x3 x4 x5 := by exact Or.inl ⟨rfl, rfl, rfl, rfl, rfl, rfl, rfl, rfl⟩
                                        have n77b : GSE s → GSE (sF s 109 0 (Int32.ofInt 1)) := by exact fun h => gse_fr (L := ([], [], [(109, 0)], [])) h (fr_sF rfl fr_rf) rfl
                                        have n77c : G1S s (sF s 109 0 (Int32.ofInt 1)) := by exact ⟨rfl, fun _ _ => rfl, fun _ _ _ => ⟨rfl, rfl, rfl, rfl, rfl, rfl⟩⟩
                                        exact g_ireturn (gd rfl) rfl rfl (hP _ _ ⟨(sF s 109 0 (Int32.ofInt 1)), hI70x18, (fr_sF rfl fr_rf), (Int32.ofInt 0), rfl, rfl, in_w (-3) 159 (in_c 0 rfl) rfl, n77, n77a, n77b, n77c⟩)
                                · skip
                                  have i62 := r_lt1 0 3999 c62 (inv_F hI 0 4000 rfl e_109_9) (in_c 4000 rfl) rfl
                                  refine g_iconst 1 66 (gd rfl) rfl rfl ?_
                                  refine g_goto 70 (gd rfl) rfl ?_
                                  refine g_callv (X := _) (As := [.int (Int32.ofInt 0), .int (Int32.ofInt 1)]) (r := []) (b := A 109) (q := 109) 73 (gd rfl) rfl rfl rfl rfl rfl (ww_o rfl) (Nat.le_of_ble_eq_true rfl) (mc := 0) (ms := 0) (Nat.zero_le _) (Nat.zero_le _) (P := fun v u => _) ?_ (fun e u h => h) (fun v u h => h)
                                  intro po70 xx70 hp70 hx70
                                  refine g_enter2 (k := 270) (N := 300) (by first | exact dq1 hd rfl | exact dq0 hd rfl | exact dq2 hd rfl | exact dq3 hd rfl | omega) rfl (Nat.le_of_ble_eq_true rfl) ?_
                                  refine g_aload_n 1 (gd rfl) rfl rfl ?_
                                  refine g_iload_n 2 (gd rfl) rfl rfl ?_
                                  refine g_if_ne 5 9 (gd rfl) rfl rfl (fun c70x2 => ?_) (fun c70x2 => ?_)
                                  · skip
                                    exact zn_ne c70x2 (in_c 0 rfl) rfl
                                  · skip
                                    refine g_iconst 1 6 (gd rfl) rfl rfl ?_
                                    refine g_goto 18 (gd rfl) rfl ?_
                                    refine g_putI 21 (gd rfl) rfl rfl rfl rfl ?_
                                    have hI70x18 := inv_sF (q := 109) (j := 0) hI rfl (in_w 0 2 (in_c 1 rfl) rfl)
                                    refine g_aload_n 22 (gd rfl) rfl rfl ?_
                                    refine g_getI 25 (gd rfl) rfl rfl rfl (fun z70x22 e70x22 => ?_)
                                    have q70x22 : (Int32.ofInt 1) = z70x22 := (sF_get).trans e70x22.symm
                                    subst q70x22
                                    refine g_if_le 28 32 (gd rfl) rfl rfl (fun c70x25 => ?_) (fun c70x25 => ?_)
                                    · skip
                                      exact zn_le c70x25 (in_c 1 rfl) rfl
                                    · skip
                                      refine g_iconst 1 29 (gd rfl) rfl rfl ?_
                                      refine g_goto 33 (gd rfl) rfl ?_
                                      refine g_ireturn (gd rfl) rfl (nb01 (in_w 0 1 (in_c 1 rfl) rfl)) (hp70 _ _ ?_)
                                      show GG _ _ _ _ _ _ _ _ [.int (Int32.ofInt 1)] _ _ _
                                      refine g_if_eq 76 78 (gd rfl) rfl rfl (fun c73 => ?_) (fun c73 => ?_)
                                      · skip
                                        exact zn_eq c73 (in_c 1 rfl) rfl
                                      · skip
                                        refine g_iconst 0 77 (gd rfl) rfl rfl ?_
                                        have n77 : CDR s (sF s 109 0 (Int32.ofInt 1)) (HNR s x1 ∧ HNR s x2 ∧ In x3 (-1000000) 1000000 ∧ In x4 0 1000000 ∧ In x5 0 25) ((s.2.2.1 109 9).toInt ≤ 3999) ((((Int32.ofInt 0)).toInt = -3 ∧ fpl (thg s 0) = 160 ∧ gvR (sF s 109 0 (Int32.ofInt 1)) = gvR s) ∨ (((Int32.ofInt 0)).toInt ≠ -3 ∧ fpl (thg s 0) = ((Int32.ofInt 0)).toNatClampNeg ∧ gvR (sF s 109 0 (Int32.ofInt 1)) = gqA (gvR s) ((Int32.ofInt 0)).toNatClampNeg x1 x2 x3 x4 x5 ∧ 0 ≤ ((Int32.ofInt 0)).toInt)) := by first | exact Or.inl ⟨rfl, (by first | (unfold HNR In; rw [show s.1 110 0 = z3x10 from e3x10.symm]; have a0 := oa8 i31x10b i18x8x10b i11x11 i3x11 ((inv_F hI 0 2 rfl e_109_0)) i62 i44x10b ((in_c 1 rfl)); have a8 := tx_i2l e39; have a9 := tx_i2l e26; have a10 := tx_i2l e18x1; have oc := oc_282_109; omega) | (unfold HNR In; have a0 := oa8 i31x10b i18x8x10b i11x11 i3x11 ((inv_F hI 0 2 rfl e_109_0)) i62 i44x10b ((in_c 1 rfl)); have a8 := tx_i2l e39; have a9 := tx_i2l e26; have a10 := tx_i2l e18x1; have oc := oc_282_109; omega)), (gvR_cg (L := ([], [], [(109, 0)], [])) (fr_sF rfl fr_rf) rfl)⟩ | exact Or.inr (Or.inl ⟨rfl, ⟨⟨by have a0 := oa8 i31x10b i18x8x10b i11x11 i3x11 ((inv_F hI 0 2 rfl e_109_0)) i62 i44x10b ((in_c 1 rfl)); have a8 := tx_i2l e39; have a9 := tx_i2l e26; have a10 := tx_i2l e18x1; have oc := oc_282_109; omega, by rw [show s.1 110 0 = z3x10 from e3x10.symm]; have a0 := oa8 i31x10b i18x8x10b i11x11 i3x11 ((inv_F hI 0 2 rfl e_109_0)) i62 i44x10b ((in_c 1 rfl)); have a8 := tx_i2l e39; have a9 := tx_i2l e26; have a10 := tx_i2l e18x1; have oc := oc_282_109; omega⟩, ⟨by have a0 := oa8 i31x10b i18x8x10b i11x11 i3x11 ((inv_F hI 0 2 rfl e_109_0)) i62 i44x10b ((in_c 1 rfl)); have a8 := tx_i2l e39; have a9 := tx_i2l e26; have a10 := tx_i2l e18x1; have oc := oc_282_109; omega, by rw [show s.1 110 0 = z3x10 from e3x10.symm]; have a0 := oa8 i31x10b i18x8x10b i11x11 i3x11 ((inv_F hI 0 2 rfl e_109_0)) i62 i44x10b ((in_c 1 rfl)); have a8 := tx_i2l e39; have a9 := tx_i2l e26; have a10 := tx_i2l e18x1; have oc := oc_282_109; omega⟩, ⟨by have a0 := oa8 i31x10b i18x8x10b i11x11 i3x11 ((inv_F hI 0 2 rfl e_109_0)) i62 i44x10b ((in_c 1 rfl)); have a8 := tx_i2l e39; have a9 := tx_i2l e26; have a10 := tx_i2l e18x1; have oc := oc_282_109; omega, by have a0 := oa8 i31x10b i18x8x10b i11x11 i3x11 ((inv_F hI 0 2 rfl e_109_0)) i62 i44x10b ((in_c 1 rfl)); have a8 := tx_i2l e39; have a9 := tx_i2l e26; have a10 := tx_i2l e18x1; have oc := oc_282_109; omega⟩, ⟨by have a0 := oa8 i31x10b i18x8x10b i11x11 i3x11 ((inv_F hI 0 2 rfl e_109_0)) i62 i44x10b ((in_c 1 rfl)); have a8 := tx_i2l e39; have a9 := tx_i2l e26; have a10 := tx_i2l e18x1; have oc := oc_282_109; omega, by have a0 := oa8 i31x10b i18x8x10b i11x11 i3x11 ((inv_F hI 0 2 rfl e_109_0)) i62 i44x10b ((in_c 1 rfl)); have a8 := tx_i2l e39; have a9 := tx_i2l e26; have a10 := tx_i2l e18x1; have oc := oc_282_109; omega⟩, ⟨by have a0 := oa8 i31x10b i18x8x10b i11x11 i3x11 ((inv_F hI 0 2 rfl e_109_0)) i62 i44x10b ((in_c 1 rfl)); have a8 := tx_i2l e39; have a9 := tx_i2l e26; have a10 := tx_i2l e18x1; have oc := oc_282_109; omega, by have a0 := oa8 i31x10b i18x8x10b i11x11 i3x11 ((inv_F hI 0 2 rfl e_109_0)) i62 i44x10b ((in_c 1 rfl)); have a8 := tx_i2l e39; have a9 := tx_i2l e26; have a10 := tx_i2l e18x1; have oc := oc_282_109; omega⟩⟩, (by rw [← e_109_9]; have a0 := oa8 i31x10b i18x8x10b i11x11 i3x11 ((inv_F hI 0 2 rfl e_109_0)) i62 i44x10b ((in_c 1 rfl)); have a8 := tx_i2l e39; have a9 := tx_i2l e26; have a10 := tx_i2l e18x1; have oc := oc_282_109; omega), (gvR_cg (L := ([], [], [(109, 0)], [])) (fr_sF rfl fr_rf) rfl)⟩)
                                        have n77a : LGX s (sF s 109 0 (Int32.ofInt 1)) (Int32.ofInt 1) (Int32.ofInt 0) x1 x2 x3 x4 x5 := by exact Or.inl ⟨rfl, rfl, rfl, rfl, rfl, rfl, rfl, rfl⟩
                                        have n77b : GSE s → GSE (sF s 109 0 (Int32.ofInt 1)) := by exact fun h => gse_fr (L := ([], [], [(109, 0)], [])) h (fr_sF rfl fr_rf) rfl
                                        have n77c : G1S s (sF s 109 0 (Int32.ofInt 1)) := by exact ⟨rfl, fun _ _ => rfl, fun _ _ _ => ⟨rfl, rfl, rfl, rfl, rfl, rfl⟩⟩
                                        exact g_ireturn (gd rfl) rfl rfl (hP _ _ ⟨(sF s 109 0 (Int32.ofInt 1)), hI70x18, (fr_sF rfl fr_rf), (Int32.ofInt 0), rfl, rfl, in_w (-3) 159 (in_c 0 rfl) rfl, n77, n77a, n77b, n77c⟩)
                              · skip
                                exact zn_ne c47 (in_c 0 rfl) rfl
                            · skip
                              have i44x10 := z_le (-1) 0 c44x10 i44x9 rfl
                              have c44x10a := lc_le e44x9 c44x10
                              have i44x10a := lr_le1 0 25 c44x10a i44x3a (l_c 25 rfl) rfl
                              have i44x10b := l_b e39 i44x10a
                              refine g_iconst 1 14 (gd rfl) rfl rfl ?_
                              refine g_goto 18 (gd rfl) rfl ?_
                              refine g_ireturn (gd rfl) rfl (nb01 (in_w 0 1 (in_c 1 rfl) rfl)) (hp44 _ _ ?_)
                              show GG _ _ _ _ _ _ _ _ [.int (Int32.ofInt 1), .ref (A 109)] _ _ _
                              refine g_if_eq 50 54 (gd rfl) rfl rfl (fun c47 => ?_) (fun c47 => ?_)
                              · skip
                                exact zn_eq c47 (in_c 1 rfl) rfl
                              · skip
                                refine g_iconst 1 51 (gd rfl) rfl rfl ?_
                                refine g_goto 55 (gd rfl) rfl ?_
                                refine g_aload_n 56 (gd rfl) rfl rfl ?_
                                refine g_getI 59 (gd rfl) rfl rfl rfl (fun z56 e56 => ?_)
                                have q56 : u_109_9 = z56 := (e_109_9).trans e56.symm
                                subst q56
                                refine g_sipush 4000 62 (gd rfl) rfl rfl ?_
                                refine g_cmp_ge 65 69 (gd rfl) rfl rfl (fun c62 => ?_) (fun c62 => ?_)
                                · skip
                                  have i62 := r_le2 4000 4000 c62 (in_c 4000 rfl) (inv_F hI 0 4000 rfl e_109_9) rfl
                                  refine g_iconst 0 70 (gd rfl) rfl rfl ?_
                                  refine g_callv (X := _) (As := [.int (Int32.ofInt 1), .int (Int32.ofInt 0)]) (r := []) (b := A 109) (q := 109) 73 (gd rfl) rfl rfl rfl rfl rfl (ww_o rfl) (Nat.le_of_ble_eq_true rfl) (mc := 0) (ms := 0) (Nat.zero_le _) (Nat.zero_le _) (P := fun v u => _) ?_ (fun e u h => h) (fun v u h => h)
                                  intro po70 xx70 hp70 hx70
                                  refine g_enter2 (k := 270) (N := 300) (by first | exact dq1 hd rfl | exact dq0 hd rfl | exact dq2 hd rfl | exact dq3 hd rfl | omega) rfl (Nat.le_of_ble_eq_true rfl) ?_
                                  refine g_aload_n 1 (gd rfl) rfl rfl ?_
                                  refine g_iload_n 2 (gd rfl) rfl rfl ?_
                                  refine g_if_ne 5 9 (gd rfl) rfl rfl (fun c70x2 => ?_) (fun c70x2 => ?_)
                                  · skip
                                    refine g_iload_n 10 (gd rfl) rfl rfl ?_
                                    refine g_if_ne 13 17 (gd rfl) rfl rfl (fun c70x10 => ?_) (fun c70x10 => ?_)
                                    · skip
                                      exact zn_ne c70x10 (in_c 0 rfl) rfl
                                    · skip
                                      refine g_iconst 2 14 (gd rfl) rfl rfl ?_
                                      refine g_goto 18 (gd rfl) rfl ?_
                                      refine g_putI 21 (gd rfl) rfl rfl rfl rfl ?_
                                      have hI70x18 := inv_sF (q := 109) (j := 0) hI rfl (in_w 0 2 (in_c 2 rfl) rfl)
                                      refine g_aload_n 22 (gd rfl) rfl rfl ?_
                                      refine g_getI 25 (gd rfl) rfl rfl rfl (fun z70x22 e70x22 => ?_)
                                      have q70x22 : (Int32.ofInt 2) = z70x22 := (sF_get).trans e70x22.symm
                                      subst q70x22
                                      refine g_if_le 28 32 (gd rfl) rfl rfl (fun c70x25 => ?_) (fun c70x25 => ?_)
                                      · skip
                                        exact zn_le c70x25 (in_c 2 rfl) rfl
                                      · skip
                                        refine g_iconst 1 29 (gd rfl) rfl rfl ?_
                                        refine g_goto 33 (gd rfl) rfl ?_
                                        refine g_ireturn (gd rfl) rfl (nb01 (in_w 0 1 (in_c 1 rfl) rfl)) (hp70 _ _ ?_)
                                        show GG _ _ _ _ _ _ _ _ [.int (Int32.ofInt 1)] _ _ _
                                        refine g_if_eq 76 78 (gd rfl) rfl rfl (fun c73 => ?_) (fun c73 => ?_)
                                        · skip
                                          exact zn_eq c73 (in_c 1 rfl) rfl
                                        · skip
                                          refine g_iconst 0 77 (gd rfl) rfl rfl ?_
                                          have n77 : CDR s (sF s 109 0 (Int32.ofInt 2)) (HNR s x1 ∧ HNR s x2 ∧ In x3 (-1000000) 1000000 ∧ In x4 0 1000000 ∧ In x5 0 25) ((s.2.2.1 109 9).toInt ≤ 3999) ((((Int32.ofInt 0)).toInt = -3 ∧ fpl (thg s 0) = 160 ∧ gvR (sF s 109 0 (Int32.ofInt 2)) = gvR s) ∨ (((Int32.ofInt 0)).toInt ≠ -3 ∧ fpl (thg s 0) = ((Int32.ofInt 0)).toNatClampNeg ∧ gvR (sF s 109 0 (Int32.ofInt 2)) = gqA (gvR s) ((Int32.ofInt 0)).toNatClampNeg x1 x2 x3 x4 x5 ∧ 0 ≤ ((Int32.ofInt 0)).toInt)) := by first | exact Or.inl ⟨rfl, (by first | (unfold HNR In; rw [show s.1 110 0 = z3x10 from e3x10.symm]; have a0 := oa8 i44x10b i31x10b i18x8x10b i11x11 i3x11 ((inv_F hI 0 2 rfl e_109_0)) i62 ((in_c 2 rfl)); have a8 := tx_i2l e39; have a9 := tx_i2l e26; have a10 := tx_i2l e18x1; have oc := oc_282_109; omega) | (unfold HNR In; have a0 := oa8 i44x10b i31x10b i18x8x10b i11x11 i3x11 ((inv_F hI 0 2 rfl e_109_0)) i62 ((in_c 2 rfl)); have a8 := tx_i2l e39; have a9 := tx_i2l e26; have a10 := tx_i2l e18x1; have oc := oc_282_109; omega)), (gvR_cg (L := ([], [], [(109, 0)], [])) (fr_sF rfl fr_rf) rfl)⟩ | exact Or.inr (Or.inl ⟨rfl, ⟨⟨by have a0 := oa8 i44x10b i31x10b i18x8x10b i11x11 i3x11 ((inv_F hI 0 2 rfl e_109_0)) i62 ((in_c 2 rfl)); have a8 := tx_i2l e39; have a9 := tx_i2l e26; have a10 := tx_i2l e18x1; have oc := oc_282_109; omega, by rw [show s.1 110 0 = z3x10 from e3x10.symm]; have a0 := oa8 i44x10b i31x10b i18x8x10b i11x11 i3x11 ((inv_F hI 0 2 rfl e_109_0)) i62 ((in_c 2 rfl)); have a8 := tx_i2l e39; have a9 := tx_i2l e26; have a10 := tx_i2l e18x1; have oc := oc_282_109; omega⟩, ⟨by have a0 := oa8 i44x10b i31x10b i18x8x10b i11x11 i3x11 ((inv_F hI 0 2 rfl e_109_0)) i62 ((in_c 2 rfl)); have a8 := tx_i2l e39; have a9 := tx_i2l e26; have a10 := tx_i2l e18x1; have oc := oc_282_109; omega, by rw [show s.1 110 0 = z3x10 from e3x10.symm]; have a0 := oa8 i44x10b i31x10b i18x8x10b i11x11 i3x11 ((inv_F hI 0 2 rfl e_109_0)) i62 ((in_c 2 rfl)); have a8 := tx_i2l e39; have a9 := tx_i2l e26; have a10 := tx_i2l e18x1; have oc := oc_282_109; omega⟩, ⟨by have a0 := oa8 i44x10b i31x10b i18x8x10b i11x11 i3x11 ((inv_F hI 0 2 rfl e_109_0)) i62 ((in_c 2 rfl)); have a8 := tx_i2l e39; have a9 := tx_i2l e26; have a10 := tx_i2l e18x1; have oc := oc_282_109; omega, by have a0 := oa8 i44x10b i31x10b i18x8x10b i11x11 i3x11 ((inv_F hI 0 2 rfl e_109_0)) i62 ((in_c 2 rfl)); have a8 := tx_i2l e39; have a9 := tx_i2l e26; have a10 := tx_i2l e18x1; have oc := oc_282_109; omega⟩, ⟨by have a0 := oa8 i44x10b i31x10b i18x8x10b i11x11 i3x11 ((inv_F hI 0 2 rfl e_109_0)) i62 ((in_c 2 rfl)); have a8 := tx_i2l e39; have a9 := tx_i2l e26; have a10 := tx_i2l e18x1; have oc := oc_282_109; omega, by have a0 := oa8 i44x10b i31x10b i18x8x10b i11x11 i3x11 ((inv_F hI 0 2 rfl e_109_0)) i62 ((in_c 2 rfl)); have a8 := tx_i2l e39; have a9 := tx_i2l e26; have a10 := tx_i2l e18x1; have oc := oc_282_109; omega⟩, ⟨by have a0 := oa8 i44x10b i31x10b i18x8x10b i11x11 i3x11 ((inv_F hI 0 2 rfl e_109_0)) i62 ((in_c 2 rfl)); have a8 := tx_i2l e39; have a9 := tx_i2l e26; have a10 := tx_i2l e18x1; have oc := oc_282_109; omega, by have a0 := oa8 i44x10b i31x10b i18x8x10b i11x11 i3x11 ((inv_F hI 0 2 rfl e_109_0)) i62 ((in_c 2 rfl)); have a8 := tx_i2l e39; have a9 := tx_i2l e26; have a10 := tx_i2l e18x1; have oc := oc_282_109; omega⟩⟩, (by rw [← e_109_9]; have a0 := oa8 i44x10b i31x10b i18x8x10b i11x11 i3x11 ((inv_F hI 0 2 rfl e_109_0)) i62 ((in_c 2 rfl)); have a8 := tx_i2l e39; have a9 := tx_i2l e26; have a10 := tx_i2l e18x1; have oc := oc_282_109; omega), (gvR_cg (L := ([], [], [(109, 0)], [])) (fr_sF rfl fr_rf) rfl)⟩)
                                          have n77a : LGX s (sF s 109 0 (Int32.ofInt 2)) (Int32.ofInt 1) (Int32.ofInt 0) x1 x2 x3 x4 x5 := by exact Or.inl ⟨rfl, rfl, rfl, rfl, rfl, rfl, rfl, rfl⟩
                                          have n77b : GSE s → GSE (sF s 109 0 (Int32.ofInt 2)) := by exact fun h => gse_fr (L := ([], [], [(109, 0)], [])) h (fr_sF rfl fr_rf) rfl
                                          have n77c : G1S s (sF s 109 0 (Int32.ofInt 2)) := by exact ⟨rfl, fun _ _ => rfl, fun _ _ _ => ⟨rfl, rfl, rfl, rfl, rfl, rfl⟩⟩
                                          exact g_ireturn (gd rfl) rfl rfl (hP _ _ ⟨(sF s 109 0 (Int32.ofInt 2)), hI70x18, (fr_sF rfl fr_rf), (Int32.ofInt 0), rfl, rfl, in_w (-3) 159 (in_c 0 rfl) rfl, n77, n77a, n77b, n77c⟩)
                                  · skip
                                    exact zn_eq c70x2 (in_c 1 rfl) rfl
                                · skip
                                  have i62 := r_lt1 0 3999 c62 (inv_F hI 0 4000 rfl e_109_9) (in_c 4000 rfl) rfl
                                  refine g_iconst 1 66 (gd rfl) rfl rfl ?_
                                  refine g_goto 70 (gd rfl) rfl ?_
                                  refine g_callv (X := _) (As := [.int (Int32.ofInt 1), .int (Int32.ofInt 1)]) (r := []) (b := A 109) (q := 109) 73 (gd rfl) rfl rfl rfl rfl rfl (ww_o rfl) (Nat.le_of_ble_eq_true rfl) (mc := 0) (ms := 0) (Nat.zero_le _) (Nat.zero_le _) (P := fun v u => _) ?_ (fun e u h => h) (fun v u h => h)
                                  intro po70 xx70 hp70 hx70
                                  refine g_enter2 (k := 270) (N := 300) (by first | exact dq1 hd rfl | exact dq0 hd rfl | exact dq2 hd rfl | exact dq3 hd rfl | omega) rfl (Nat.le_of_ble_eq_true rfl) ?_
                                  refine g_aload_n 1 (gd rfl) rfl rfl ?_
                                  refine g_iload_n 2 (gd rfl) rfl rfl ?_
                                  refine g_if_ne 5 9 (gd rfl) rfl rfl (fun c70x2 => ?_) (fun c70x2 => ?_)
                                  · skip
                                    refine g_iload_n 10 (gd rfl) rfl rfl ?_
                                    refine g_if_ne 13 17 (gd rfl) rfl rfl (fun c70x10 => ?_) (fun c70x10 => ?_)
                                    · skip
                                      refine g_iconst 0 18 (gd rfl) rfl rfl ?_
                                      refine g_putI 21 (gd rfl) rfl rfl rfl rfl ?_
                                      have hI70x18 := inv_sF (q := 109) (j := 0) hI rfl (in_w 0 2 (in_c 0 rfl) rfl)
                                      refine g_aload_n 22 (gd rfl) rfl rfl ?_
                                      refine g_getI 25 (gd rfl) rfl rfl rfl (fun z70x22 e70x22 => ?_)
                                      have q70x22 : (Int32.ofInt 0) = z70x22 := (sF_get).trans e70x22.symm
                                      subst q70x22
                                      refine g_if_le 28 32 (gd rfl) rfl rfl (fun c70x25 => ?_) (fun c70x25 => ?_)
                                      · skip
                                        refine g_iconst 0 33 (gd rfl) rfl rfl ?_
                                        refine g_ireturn (gd rfl) rfl (nb01 (in_w 0 1 (in_c 0 rfl) rfl)) (hp70 _ _ ?_)
                                        show GG _ _ _ _ _ _ _ _ [.int (Int32.ofInt 0)] _ _ _
                                        refine g_if_eq 76 78 (gd rfl) rfl rfl (fun c73 => ?_) (fun c73 => ?_)
                                        · skip
                                          refine g_aload_n 79 (gd rfl) rfl rfl ?_
                                          refine g_iconst 0 80 (gd rfl) rfl rfl ?_
                                          refine g_callv (X := _) (As := [.int (Int32.ofInt 0)]) (r := []) (b := A 109) (q := 109) 83 (gd rfl) rfl rfl rfl rfl rfl (ww_o rfl) (Nat.le_of_ble_eq_true rfl) (Nat.zero_le _) (Nat.zero_le _) (k_280 (by first | exact dq1 hd rfl | exact dq0 hd rfl | exact dq2 hd rfl | exact dq3 hd rfl | omega) hI70x18 (in_w 0 2 (in_c 0 rfl) rfl)) (fun e u h => h) (fun v u h => ?_)
                                          obtain ⟨z80, rfl, rfl, i80, p80⟩ := h
                                          show GG _ _ _ _ _ _ _ _ [.int z80] _ _ _
                                          refine g_istore 85 (gd rfl) rfl (Nat.le_of_ble_eq_true rfl) ?_
                                          refine g_iload 87 (gd rfl) rfl rfl ?_
                                          refine g_sipush 160 90 (gd rfl) rfl rfl ?_
                                          refine g_cmp_ne 93 96 (gd rfl) rfl rfl (fun c90 => ?_) (fun c90 => ?_)
                                          · skip
                                            have i90 := r_ne1 0 159 c90 i80 (in_c 160 rfl) rfl
                                            refine g_aload_n 97 (gd rfl) rfl rfl ?_
                                            refine g_iconst 1 98 (gd rfl) rfl rfl ?_
                                            refine g_iload 100 (gd rfl) rfl rfl ?_
                                            refine g_iload_n 101 (gd rfl) rfl rfl ?_
                                            refine g_iload_n 102 (gd rfl) rfl rfl ?_
                                            refine g_iload_n 103 (gd rfl) rfl rfl ?_
                                            refine g_iload 105 (gd rfl) rfl rfl ?_
                                            refine g_iload 107 (gd rfl) rfl rfl ?_
                                            have v107 : u_109_9 = (sF s 109 0 (Int32.ofInt 0)).2.2.1 109 9 := sF_ne rfl (e_109_9)
                                            have p107 : MK (sF s 109 0 (Int32.ofInt 0)) (Int32.ofInt 1) z80 x1 x2 := by refine ⟨fun h => absurd h (by decide), fun _ => ?_, fun h => absurd h (by decide), fun h => absurd h (by decide), fun h => absurd h (by decide)⟩; have e0 : ((sF s 109 0 (Int32.ofInt 0))).1 110 0 = z3x10 := e3x10.symm; rw [e0]; exact ⟨c3x11, by have a0 := oa9 i44x10b i31x10b i18x8x10b i11x11 i3x11 ((inv_F hI 0 2 rfl e_109_0)) i62 i90 ((in_c 0 rfl)); have a9 := tx_i2l e39; have a10 := tx_i2l e26; have a11 := tx_i2l e18x1; have oc := oc_282_109; omega, c11x11⟩
                                            refine g_callv (X := _) (As := [.int (Int32.ofInt 1), .int z80, .int x1, .int x2, .int x3, .int x4, .int x5]) (r := []) (b := A 109) (q := 109) 110 (gd rfl) rfl rfl rfl rfl rfl (ww_o rfl) (Nat.le_of_ble_eq_true rfl) (Nat.zero_le _) (Nat.zero_le _) (f_274 (by first | exact dq1 hd rfl | exact dq0 hd rfl | exact dq2 hd rfl | exact dq3 hd rfl | omega) hI70x18 (in_w 0 4 (in_c 1 rfl) rfl) (in_w 0 159 i90 rfl) (in_w 0 31 i3x11 rfl) (in_w (-1000000) 1000000 i11x11 rfl) (in_w (-1000000) 1000000 i18x8x10b rfl) (in_w 0 1000000 i31x10b rfl) (in_w 0 25 i44x10b rfl) v107 (in_w 0 3999 i62 rfl) p107) (fun e u h => h) (fun v u h => ?_)
                                            obtain ⟨s107, hI107, hF107, n107, rfl, rfl, p107a, p107b, p107c, p107d, p107e⟩ := h
                                            obtain ⟨z107a, e107⟩ : ∃ w, w = s107.2.2.1 109 9 := ⟨_, rfl⟩
                                            have i107a := inv_F hI107 0 4000 rfl e107
                                            rw [← (show u_109_9 = (sF s 109 0 (Int32.ofInt 0)).2.2.1 109 9 from sF_ne rfl (e_109_9))] at n107
                                            rw [← (show z107a = s107.2.2.1 109 9 from e107)] at n107
                                            show GG _ _ _ _ _ _ _ _ [] _ _ _
                                            refine g_iload 112 (gd rfl) rfl rfl ?_
                                            have n112 : CDR s s107 (HNR s x1 ∧ HNR s x2 ∧ In x3 (-1000000) 1000000 ∧ In x4 0 1000000 ∧ In x5 0 25) ((s.2.2.1 109 9).toInt ≤ 3999) (((z80).toInt = -3 ∧ fpl (thg s 0) = 160 ∧ gvR s107 = gvR s) ∨ ((z80).toInt ≠ -3 ∧ fpl (thg s 0) = (z80).toNatClampNeg ∧ gvR s107 = gqA (gvR s) (z80).toNatClampNeg x1 x2 x3 x4 x5 ∧ 0 ≤ (z80).toInt)) := by exact Or.inr (Or.inr ⟨(by have hc9 : s107.2.2.1 109 0 = Int32.ofInt 0 := (hF107.2.2.1 109 0 rfl).trans rfl; rw [hc9]; rfl), ⟨⟨by have a0 := oa10 i44x10b i31x10b i18x8x10b i11x11 i3x11 ((inv_F hI 0 2 rfl e_109_0)) i62 i90 i107a ((in_c 0 rfl)); have a10 := tx_i2l e39; have a11 := tx_i2l e26; have a12 := tx_i2l e18x1; have oc := oc_282_109; omega, by rw [show s.1 110 0 = z3x10 from e3x10.symm]; have a0 := oa10 i44x10b i31x10b i18x8x10b i11x11 i3x11 ((inv_F hI 0 2 rfl e_109_0)) i62 i90 i107a ((in_c 0 rfl)); have a10 := tx_i2l e39; have a11 := tx_i2l e26; have a12 := tx_i2l e18x1; have oc := oc_282_109; omega⟩, ⟨by have a0 := oa10 i44x10b i31x10b i18x8x10b i11x11 i3x11 ((inv_F hI 0 2 rfl e_109_0)) i62 i90 i107a ((in_c 0 rfl)); have a10 := tx_i2l e39; have a11 := tx_i2l e26; have a12 := tx_i2l e18x1; have oc := oc_282_109; omega, by rw [show s.1 110 0 = z3x10 from e3x10.symm]; have a0 := oa10 i44x10b i31x10b i18x8x10b i11x11 i3x11 ((inv_F hI 0 2 rfl e_109_0)) i62 i90 i107a ((in_c 0 rfl)); have a10 := tx_i2l e39; have a11 := tx_i2l e26; have a12 := tx_i2l e18x1; have oc := oc_282_109; omega⟩, ⟨by have a0 := oa10 i44x10b i31x10b i18x8x10b i11x11 i3x11 ((inv_F hI 0 2 rfl e_109_0)) i62 i90 i107a ((in_c 0 rfl)); have a10 := tx_i2l e39; have a11 := tx_i2l e26; have a12 := tx_i2l e18x1; have oc := oc_282_109; omega, by have a0 := oa10 i44x10b i31x10b i18x8x10b i11x11 i3x11 ((inv_F hI 0 2 rfl e_109_0)) i62 i90 i107a ((in_c 0 rfl)); have a10 := tx_i2l e39; have a11 := tx_i2l e26; have a12 := tx_i2l e18x1; have oc := oc_282_109; omega⟩, ⟨by have a0 := oa10 i44x10b i31x10b i18x8x10b i11x11 i3x11 ((inv_F hI 0 2 rfl e_109_0)) i62 i90 i107a ((in_c 0 rfl)); have a10 := tx_i2l e39; have a11 := tx_i2l e26; have a12 := tx_i2l e18x1; have oc := oc_282_109; omega, by have a0 := oa10 i44x10b i31x10b i18x8x10b i11x11 i3x11 ((inv_F hI 0 2 rfl e_109_0)) i62 i90 i107a ((in_c 0 rfl)); have a10 := tx_i2l e39; have a11 := tx_i2l e26; have a12 := tx_i2l e18x1; have oc := oc_282_109; omega⟩, ⟨by have a0 := oa10 i44x10b i31x10b i18x8x10b i11x11 i3x11 ((inv_F hI 0 2 rfl e_109_0)) i62 i90 i107a ((in_c 0 rfl)); have a10 := tx_i2l e39; have a11 := tx_i2l e26; have a12 := tx_i2l e18x1; have oc := oc_282_109; omega, by have a0 := oa10 i44x10b i31x10b i18x8x10b i11x11 i3x11 ((inv_F hI 0 2 rfl e_109_0)) i62 i90 i107a ((in_c 0 rfl)); have a10 := tx_i2l e39; have a11 := tx_i2l e26; have a12 := tx_i2l e18x1; have oc := oc_282_109; omega⟩⟩, (by rw [← e_109_9]; have a0 := oa10 i44x10b i31x10b i18x8x10b i11x11 i3x11 ((inv_F hI 0 2 rfl e_109_0)) i62 i90 i107a ((in_c 0 rfl)); have a10 := tx_i2l e39; have a11 := tx_i2l e26; have a12 := tx_i2l e18x1; have oc := oc_282_109; omega), (Or.inr ⟨by have a0 := oa10 i44x10b i31x10b i18x8x10b i11x11 i3x11 ((inv_F hI 0 2 rfl e_109_0)) i62 i90 i107a ((in_c 0 rfl)); have a10 := tx_i2l e39; have a11 := tx_i2l e26; have a12 := tx_i2l e18x1; have oc := oc_282_109; omega, p80.symm, (by have hm := (p107b).2.1 rfl; rw [hm, gvR_cg (L := ([], [], [(109, 0)], [])) (fr_sF rfl fr_rf) rfl] <;> rfl), by have a0 := oa10 i44x10b i31x10b i18x8x10b i11x11 i3x11 ((inv_F hI 0 2 rfl e_109_0)) i62 i90 i107a ((in_c 0 rfl)); have a10 := tx_i2l e39; have a11 := tx_i2l e26; have a12 := tx_i2l e18x1; have oc := oc_282_109; omega⟩)⟩)
                                            have n112a : LGX s s107 (Int32.ofInt 1) z80 x1 x2 x3 x4 x5 := by exact Or.inr p107c
                                            have n112b : GSE s → GSE s107 := by exact fun _ => p107d
                                            have n112c : G1S s s107 := by exact p107e
                                            exact g_ireturn (gd rfl) rfl rfl (hP _ _ ⟨s107, hI107, (fr_tr rfl (fr_sF rfl fr_rf) hF107), z80, rfl, rfl, in_w (-3) 159 i90 rfl, n112, n112a, n112b, n112c⟩)
                                          · skip
                                            have i90 := r_eq1 160 160 c90 i80 (in_c 160 rfl) rfl
                                            refine g_bipush (-3) 95 (gd rfl) rfl rfl ?_
                                            have n95 : CDR s (sF s 109 0 (Int32.ofInt 0)) (HNR s x1 ∧ HNR s x2 ∧ In x3 (-1000000) 1000000 ∧ In x4 0 1000000 ∧ In x5 0 25) ((s.2.2.1 109 9).toInt ≤ 3999) ((((Int32.ofInt (-3))).toInt = -3 ∧ fpl (thg s 0) = 160 ∧ gvR (sF s 109 0 (Int32.ofInt 0)) = gvR s) ∨ (((Int32.ofInt (-3))).toInt ≠ -3 ∧ fpl (thg s 0) = ((Int32.ofInt (-3))).toNatClampNeg ∧ gvR (sF s 109 0 (Int32.ofInt 0)) = gqA (gvR s) ((Int32.ofInt (-3))).toNatClampNeg x1 x2 x3 x4 x5 ∧ 0 ≤ ((Int32.ofInt (-3))).toInt)) := by exact Or.inr (Or.inr ⟨(by rw [← (show (Int32.ofInt 0) = (sF s 109 0 (Int32.ofInt 0)).2.2.1 109 0 from sF_get)]; rfl), ⟨⟨by have a0 := oa9 i44x10b i31x10b i18x8x10b i11x11 i3x11 ((inv_F hI 0 2 rfl e_109_0)) i62 i90 ((in_c 0 rfl)); have a9 := tx_i2l e39; have a10 := tx_i2l e26; have a11 := tx_i2l e18x1; have oc := oc_282_109; omega, by rw [show s.1 110 0 = z3x10 from e3x10.symm]; have a0 := oa9 i44x10b i31x10b i18x8x10b i11x11 i3x11 ((inv_F hI 0 2 rfl e_109_0)) i62 i90 ((in_c 0 rfl)); have a9 := tx_i2l e39; have a10 := tx_i2l e26; have a11 := tx_i2l e18x1; have oc := oc_282_109; omega⟩, ⟨by have a0 := oa9 i44x10b i31x10b i18x8x10b i11x11 i3x11 ((inv_F hI 0 2 rfl e_109_0)) i62 i90 ((in_c 0 rfl)); have a9 := tx_i2l e39; have a10 := tx_i2l e26; have a11 := tx_i2l e18x1; have oc := oc_282_109; omega, by rw [show s.1 110 0 = z3x10 from e3x10.symm]; have a0 := oa9 i44x10b i31x10b i18x8x10b i11x11 i3x11 ((inv_F hI 0 2 rfl e_109_0)) i62 i90 ((in_c 0 rfl)); have a9 := tx_i2l e39; have a10 := tx_i2l e26; have a11 := tx_i2l e18x1; have oc := oc_282_109; omega⟩, ⟨by have a0 := oa9 i44x10b i31x10b i18x8x10b i11x11 i3x11 ((inv_F hI 0 2 rfl e_109_0)) i62 i90 ((in_c 0 rfl)); have a9 := tx_i2l e39; have a10 := tx_i2l e26; have a11 := tx_i2l e18x1; have oc := oc_282_109; omega, by have a0 := oa9 i44x10b i31x10b i18x8x10b i11x11 i3x11 ((inv_F hI 0 2 rfl e_109_0)) i62 i90 ((in_c 0 rfl)); have a9 := tx_i2l e39; have a10 := tx_i2l e26; have a11 := tx_i2l e18x1; have oc := oc_282_109; omega⟩, ⟨by have a0 := oa9 i44x10b i31x10b i18x8x10b i11x11 i3x11 ((inv_F hI 0 2 rfl e_109_0)) i62 i90 ((in_c 0 rfl)); have a9 := tx_i2l e39; have a10 := tx_i2l e26; have a11 := tx_i2l e18x1; have oc := oc_282_109; omega, by have a0 := oa9 i44x10b i31x10b i18x8x10b i11x11 i3x11 ((inv_F hI 0 2 rfl e_109_0)) i62 i90 ((in_c 0 rfl)); have a9 := tx_i2l e39; have a10 := tx_i2l e26; have a11 := tx_i2l e18x1; have oc := oc_282_109; omega⟩, ⟨by have a0 := oa9 i44x10b i31x10b i18x8x10b i11x11 i3x11 ((inv_F hI 0 2 rfl e_109_0)) i62 i90 ((in_c 0 rfl)); have a9 := tx_i2l e39; have a10 := tx_i2l e26; have a11 := tx_i2l e18x1; have oc := oc_282_109; omega, by have a0 := oa9 i44x10b i31x10b i18x8x10b i11x11 i3x11 ((inv_F hI 0 2 rfl e_109_0)) i62 i90 ((in_c 0 rfl)); have a9 := tx_i2l e39; have a10 := tx_i2l e26; have a11 := tx_i2l e18x1; have oc := oc_282_109; omega⟩⟩, (by rw [← e_109_9]; have a0 := oa9 i44x10b i31x10b i18x8x10b i11x11 i3x11 ((inv_F hI 0 2 rfl e_109_0)) i62 i90 ((in_c 0 rfl)); have a9 := tx_i2l e39; have a10 := tx_i2l e26; have a11 := tx_i2l e18x1; have oc := oc_282_109; omega), Or.inl ⟨rfl, (by rw [show fpl (thg s 0) = _ from p80.symm]; show (z80).toInt.toNat = 160; have a0 := oa9 i44x10b i31x10b i18x8x10b i11x11 i3x11 ((inv_F hI 0 2 rfl e_109_0)) i62 i90 ((in_c 0 rfl)); have a9 := tx_i2l e39; have a10 := tx_i2l e26; have a11 := tx_i2l e18x1; have oc := oc_282_109; (first | exact zt_e (by omega) | omega)), gvR_cg (L := ([], [], [(109, 0)], [])) (fr_sF rfl fr_rf) rfl⟩⟩)
                                            have n95a : LGX s (sF s 109 0 (Int32.ofInt 0)) (Int32.ofInt 1) (Int32.ofInt (-3)) x1 x2 x3 x4 x5 := by exact Or.inl ⟨rfl, rfl, rfl, rfl, rfl, rfl, rfl, rfl⟩
                                            have n95b : GSE s → GSE (sF s 109 0 (Int32.ofInt 0)) := by exact fun h => gse_fr (L := ([], [], [(109, 0)], [])) h (fr_sF rfl fr_rf) rfl
                                            have n95c : G1S s (sF s 109 0 (Int32.ofInt 0)) := by exact ⟨rfl, fun _ _ => rfl, fun _ _ _ => ⟨rfl, rfl, rfl, rfl, rfl, rfl⟩⟩
                                            exact g_ireturn (gd rfl) rfl rfl (hP _ _ ⟨(sF s 109 0 (Int32.ofInt 0)), hI70x18, (fr_sF rfl fr_rf), (Int32.ofInt (-3)), rfl, rfl, in_w (-3) 159 (in_c (-3) rfl) rfl, n95, n95a, n95b, n95c⟩)
                                        · skip
                                          exact zn_ne c73 (in_c 0 rfl) rfl
                                      · skip
                                        exact zn_gt c70x25 (in_c 0 rfl) rfl
                                    · skip
                                      exact zn_eq c70x10 (in_c 1 rfl) rfl
                                  · skip
                                    exact zn_eq c70x2 (in_c 1 rfl) rfl

theorem oc_283_109 : (Int32.ofInt (-1)).toInt = (-1) ∧ (Int32.ofInt 0).toInt = 0 ∧ (Int32.ofInt 1).toInt = 1 ∧ (Int32.ofInt 2).toInt = 2 ∧ (Int32.ofInt 160).toInt = 160 ∧ (Int32.ofInt 4000).toInt = 4000 := ⟨rfl, rfl, rfl, rfl, rfl, rfl⟩
/-- GraphHouseModel.take -/
theorem f_283 {Z : AmZ} {A : Nat → Nat} {s : GS} {ex : va_W} {d : Nat} {X : AmX} {x1 : Int32} {u_109_9 : Int32} {u_109_0 : Int32} (hd : 3 ≤ d) (hI : Inv s) (e_109_9 : u_109_9 = s.2.2.1 109 9) (e_109_0 : u_109_0 = s.2.2.1 109 0) : GC Z d 283 [.ref (A 109), .int x1] (WW Z A s ++ ex) 0 0 (fun v u => ∃ t : GS, Inv t ∧ Fr fm_283 s t ∧ ∃ z : Int32, v = some (.int z) ∧ u = WW Z A t ++ ex ∧ In z 0 4000 ∧ (CDR s t (HAR s x1) ((s.2.2.1 109 9).toInt ≤ 3999) ((z).toInt = (s.2.2.1 109 9).toInt + 1 ∧ gvR t = gqD (gvR s) (x1).toNatClampNeg)) ∧ (LGX s t (Int32.ofInt 2) x1 (Int32.ofInt 0) (Int32.ofInt 0) (Int32.ofInt 0) (Int32.ofInt 0) (Int32.ofInt 0)) ∧ (GSE s → GSE t) ∧ (G1S s t)) X := by
  intro post xp hP hX
  refine g_enter2 (k := 283) (N := 900) (by first | exact dq1 hd rfl | exact dq0 hd rfl | exact dq2 hd rfl | exact dq3 hd rfl | omega) rfl (Nat.le_of_ble_eq_true rfl) ?_
  refine g_aload_n 1 (gd rfl) rfl rfl ?_
  refine g_aload_n 2 (gd rfl) rfl rfl ?_
  refine g_iload_n 3 (gd rfl) rfl rfl ?_
  refine g_callv (X := _) (As := [.int x1]) (r := [.ref (A 109)]) (b := A 109) (q := 109) 6 (gd rfl) rfl rfl rfl rfl rfl (ww_o rfl) (Nat.le_of_ble_eq_true rfl) (mc := 0) (ms := 0) (Nat.zero_le _) (Nat.zero_le _) (P := fun v u => _) ?_ (fun e u h => h) (fun v u h => h)
  intro po3 xx3 hp3 hx3
  refine g_enter2 (k := 278) (N := 300) (by first | exact dq1 hd rfl | exact dq0 hd rfl | exact dq2 hd rfl | exact dq3 hd rfl | omega) rfl (Nat.le_of_ble_eq_true rfl) ?_
  refine g_iload_n 1 (gd rfl) rfl rfl ?_
  refine g_if_lt 4 24 (gd rfl) rfl rfl (fun c3x1 => ?_) (fun c3x1 => ?_)
  · skip
    have i3x1 := z_lt (-2147483648) (-1) c3x1 (i_rng x1) rfl
    refine g_iconst 0 25 (gd rfl) rfl rfl ?_
    refine g_ireturn (gd rfl) rfl (nb01 (in_w 0 1 (in_c 0 rfl) rfl)) (hp3 _ _ ?_)
    show GG _ _ _ _ _ _ _ _ [.int (Int32.ofInt 0), .ref (A 109)] _ _ _
    refine g_aload_n 7 (gd rfl) rfl rfl ?_
    refine g_getI 10 (gd rfl) rfl rfl rfl (fun z7 e7 => ?_)
    have q7 : u_109_9 = z7 := (e_109_9).trans e7.symm
    subst q7
    refine g_sipush 4000 13 (gd rfl) rfl rfl ?_
    refine g_cmp_ge 16 20 (gd rfl) rfl rfl (fun c13 => ?_) (fun c13 => ?_)
    · skip
      have i13 := r_le2 4000 4000 c13 (in_c 4000 rfl) (inv_F hI 0 4000 rfl e_109_9) rfl
      refine g_iconst 0 21 (gd rfl) rfl rfl ?_
      refine g_callv (X := _) (As := [.int (Int32.ofInt 0), .int (Int32.ofInt 0)]) (r := []) (b := A 109) (q := 109) 24 (gd rfl) rfl rfl rfl rfl rfl (ww_o rfl) (Nat.le_of_ble_eq_true rfl) (mc := 0) (ms := 0) (Nat.zero_le _) (Nat.zero_le _) (P := fun v u => _) ?_ (fun e u h => h) (fun v u h => h)
      intro po21 xx21 hp21 hx21
      refine g_enter2 (k := 270) (N := 300) (by first | exact dq1 hd rfl | exact dq0 hd rfl | exact dq2 hd rfl | exact dq3 hd rfl | omega) rfl (Nat.le_of_ble_eq_true rfl) ?_
      refine g_aload_n 1 (gd rfl) rfl rfl ?_
      refine g_iload_n 2 (gd rfl) rfl rfl ?_
      refine g_if_ne 5 9 (gd rfl) rfl rfl (fun c21x2 => ?_) (fun c21x2 => ?_)
      · skip
        exact zn_ne c21x2 (in_c 0 rfl) rfl
      · skip
        refine g_iconst 1 6 (gd rfl) rfl rfl ?_
        refine g_goto 18 (gd rfl) rfl ?_
        refine g_putI 21 (gd rfl) rfl rfl rfl rfl ?_
        have hI21x18 := inv_sF (q := 109) (j := 0) hI rfl (in_w 0 2 (in_c 1 rfl) rfl)
        refine g_aload_n 22 (gd rfl) rfl rfl ?_
        refine g_getI 25 (gd rfl) rfl rfl rfl (fun z21x22 e21x22 => ?_)
        have q21x22 : (Int32.ofInt 1) = z21x22 := (sF_get).trans e21x22.symm
        subst q21x22
        refine g_if_le 28 32 (gd rfl) rfl rfl (fun c21x25 => ?_) (fun c21x25 => ?_)
        · skip
          exact zn_le c21x25 (in_c 1 rfl) rfl
        · skip
          refine g_iconst 1 29 (gd rfl) rfl rfl ?_
          refine g_goto 33 (gd rfl) rfl ?_
          refine g_ireturn (gd rfl) rfl (nb01 (in_w 0 1 (in_c 1 rfl) rfl)) (hp21 _ _ ?_)
          show GG _ _ _ _ _ _ _ _ [.int (Int32.ofInt 1)] _ _ _
          refine g_if_eq 27 29 (gd rfl) rfl rfl (fun c24 => ?_) (fun c24 => ?_)
          · skip
            exact zn_eq c24 (in_c 1 rfl) rfl
          · skip
            refine g_iconst 0 28 (gd rfl) rfl rfl ?_
            have n28 : CDR s (sF s 109 0 (Int32.ofInt 1)) (HAR s x1) ((s.2.2.1 109 9).toInt ≤ 3999) (((Int32.ofInt 0)).toInt = (s.2.2.1 109 9).toInt + 1 ∧ gvR (sF s 109 0 (Int32.ofInt 1)) = gqD (gvR s) (x1).toNatClampNeg) := by first | exact Or.inl ⟨rfl, (by first | (unfold HAR; have a0 := oa4 ((inv_F hI 0 2 rfl e_109_0)) i13 i3x1 ((in_c 1 rfl)); have oc := oc_283_109; omega) | (unfold HAR; rw [← e3x16]; have a0 := oa4 ((inv_F hI 0 2 rfl e_109_0)) i13 i3x1 ((in_c 1 rfl)); have oc := oc_283_109; omega)), (gvR_cg (L := ([], [], [(109, 0)], [])) (fr_sF rfl fr_rf) rfl)⟩ | exact Or.inr (Or.inl ⟨rfl, ⟨by have a0 := oa4 ((inv_F hI 0 2 rfl e_109_0)) i13 i3x1 ((in_c 1 rfl)); have oc := oc_283_109; omega, by have a0 := oa4 ((inv_F hI 0 2 rfl e_109_0)) i13 i3x1 ((in_c 1 rfl)); have oc := oc_283_109; omega, by rw [← e3x16]; have a0 := oa4 ((inv_F hI 0 2 rfl e_109_0)) i13 i3x1 ((in_c 1 rfl)); have oc := oc_283_109; omega⟩, (by rw [← e_109_9]; have a0 := oa4 ((inv_F hI 0 2 rfl e_109_0)) i13 i3x1 ((in_c 1 rfl)); have oc := oc_283_109; omega), (gvR_cg (L := ([], [], [(109, 0)], [])) (fr_sF rfl fr_rf) rfl)⟩)
            have n28a : LGX s (sF s 109 0 (Int32.ofInt 1)) (Int32.ofInt 2) x1 (Int32.ofInt 0) (Int32.ofInt 0) (Int32.ofInt 0) (Int32.ofInt 0) (Int32.ofInt 0) := by exact Or.inl ⟨rfl, rfl, rfl, rfl, rfl, rfl, rfl, rfl⟩
            have n28b : GSE s → GSE (sF s 109 0 (Int32.ofInt 1)) := by exact fun h => gse_fr (L := ([], [], [(109, 0)], [])) h (fr_sF rfl fr_rf) rfl
            have n28c : G1S s (sF s 109 0 (Int32.ofInt 1)) := by exact ⟨rfl, fun _ _ => rfl, fun _ _ _ => ⟨rfl, rfl, rfl, rfl, rfl, rfl⟩⟩
            exact g_ireturn (gd rfl) rfl rfl (hP _ _ ⟨(sF s 109 0 (Int32.ofInt 1)), hI21x18, (fr_sF rfl fr_rf), (Int32.ofInt 0), rfl, rfl, in_w 0 4000 (in_c 0 rfl) rfl, n28, n28a, n28b, n28c⟩)
    · skip
      have i13 := r_lt1 0 3999 c13 (inv_F hI 0 4000 rfl e_109_9) (in_c 4000 rfl) rfl
      refine g_iconst 1 17 (gd rfl) rfl rfl ?_
      refine g_goto 21 (gd rfl) rfl ?_
      refine g_callv (X := _) (As := [.int (Int32.ofInt 0), .int (Int32.ofInt 1)]) (r := []) (b := A 109) (q := 109) 24 (gd rfl) rfl rfl rfl rfl rfl (ww_o rfl) (Nat.le_of_ble_eq_true rfl) (mc := 0) (ms := 0) (Nat.zero_le _) (Nat.zero_le _) (P := fun v u => _) ?_ (fun e u h => h) (fun v u h => h)
      intro po21 xx21 hp21 hx21
      refine g_enter2 (k := 270) (N := 300) (by first | exact dq1 hd rfl | exact dq0 hd rfl | exact dq2 hd rfl | exact dq3 hd rfl | omega) rfl (Nat.le_of_ble_eq_true rfl) ?_
      refine g_aload_n 1 (gd rfl) rfl rfl ?_
      refine g_iload_n 2 (gd rfl) rfl rfl ?_
      refine g_if_ne 5 9 (gd rfl) rfl rfl (fun c21x2 => ?_) (fun c21x2 => ?_)
      · skip
        exact zn_ne c21x2 (in_c 0 rfl) rfl
      · skip
        refine g_iconst 1 6 (gd rfl) rfl rfl ?_
        refine g_goto 18 (gd rfl) rfl ?_
        refine g_putI 21 (gd rfl) rfl rfl rfl rfl ?_
        have hI21x18 := inv_sF (q := 109) (j := 0) hI rfl (in_w 0 2 (in_c 1 rfl) rfl)
        refine g_aload_n 22 (gd rfl) rfl rfl ?_
        refine g_getI 25 (gd rfl) rfl rfl rfl (fun z21x22 e21x22 => ?_)
        have q21x22 : (Int32.ofInt 1) = z21x22 := (sF_get).trans e21x22.symm
        subst q21x22
        refine g_if_le 28 32 (gd rfl) rfl rfl (fun c21x25 => ?_) (fun c21x25 => ?_)
        · skip
          exact zn_le c21x25 (in_c 1 rfl) rfl
        · skip
          refine g_iconst 1 29 (gd rfl) rfl rfl ?_
          refine g_goto 33 (gd rfl) rfl ?_
          refine g_ireturn (gd rfl) rfl (nb01 (in_w 0 1 (in_c 1 rfl) rfl)) (hp21 _ _ ?_)
          show GG _ _ _ _ _ _ _ _ [.int (Int32.ofInt 1)] _ _ _
          refine g_if_eq 27 29 (gd rfl) rfl rfl (fun c24 => ?_) (fun c24 => ?_)
          · skip
            exact zn_eq c24 (in_c 1 rfl) rfl
          · skip
            refine g_iconst 0 28 (gd rfl) rfl rfl ?_
            have n28 : CDR s (sF s 109 0 (Int32.ofInt 1)) (HAR s x1) ((s.2.2.1 109 9).toInt ≤ 3999) (((Int32.ofInt 0)).toInt = (s.2.2.1 109 9).toInt + 1 ∧ gvR (sF s 109 0 (Int32.ofInt 1)) = gqD (gvR s) (x1).toNatClampNeg) := by first | exact Or.inl ⟨rfl, (by first | (unfold HAR; have a0 := oa4 ((inv_F hI 0 2 rfl e_109_0)) i13 i3x1 ((in_c 1 rfl)); have oc := oc_283_109; omega) | (unfold HAR; rw [← e3x16]; have a0 := oa4 ((inv_F hI 0 2 rfl e_109_0)) i13 i3x1 ((in_c 1 rfl)); have oc := oc_283_109; omega)), (gvR_cg (L := ([], [], [(109, 0)], [])) (fr_sF rfl fr_rf) rfl)⟩ | exact Or.inr (Or.inl ⟨rfl, ⟨by have a0 := oa4 ((inv_F hI 0 2 rfl e_109_0)) i13 i3x1 ((in_c 1 rfl)); have oc := oc_283_109; omega, by have a0 := oa4 ((inv_F hI 0 2 rfl e_109_0)) i13 i3x1 ((in_c 1 rfl)); have oc := oc_283_109; omega, by rw [← e3x16]; have a0 := oa4 ((inv_F hI 0 2 rfl e_109_0)) i13 i3x1 ((in_c 1 rfl)); have oc := oc_283_109; omega⟩, (by rw [← e_109_9]; have a0 := oa4 ((inv_F hI 0 2 rfl e_109_0)) i13 i3x1 ((in_c 1 rfl)); have oc := oc_283_109; omega), (gvR_cg (L := ([], [], [(109, 0)], [])) (fr_sF rfl fr_rf) rfl)⟩)
            have n28a : LGX s (sF s 109 0 (Int32.ofInt 1)) (Int32.ofInt 2) x1 (Int32.ofInt 0) (Int32.ofInt 0) (Int32.ofInt 0) (Int32.ofInt 0) (Int32.ofInt 0) := by exact Or.inl ⟨rfl, rfl, rfl, rfl, rfl, rfl, rfl, rfl⟩
            have n28b : GSE s → GSE (sF s 109 0 (Int32.ofInt 1)) := by exact fun h => gse_fr (L := ([], [], [(109, 0)], [])) h (fr_sF rfl fr_rf) rfl
            have n28c : G1S s (sF s 109 0 (Int32.ofInt 1)) := by exact ⟨rfl, fun _ _ => rfl, fun _ _ _ => ⟨rfl, rfl, rfl, rfl, rfl, rfl⟩⟩
            exact g_ireturn (gd rfl) rfl rfl (hP _ _ ⟨(sF s 109 0 (Int32.ofInt 1)), hI21x18, (fr_sF rfl fr_rf), (Int32.ofInt 0), rfl, rfl, in_w 0 4000 (in_c 0 rfl) rfl, n28, n28a, n28b, n28c⟩)
  · skip
    have i3x1 := z_ge 0 2147483647 c3x1 (i_rng x1) rfl
    refine g_iload_n 5 (gd rfl) rfl rfl ?_
    refine g_sipush 160 8 (gd rfl) rfl rfl ?_
    refine g_cmp_ge 11 24 (gd rfl) rfl rfl (fun c3x8 => ?_) (fun c3x8 => ?_)
    · skip
      have i3x8 := r_le2 160 2147483647 c3x8 (in_c 160 rfl) i3x1 rfl
      refine g_iconst 0 25 (gd rfl) rfl rfl ?_
      refine g_ireturn (gd rfl) rfl (nb01 (in_w 0 1 (in_c 0 rfl) rfl)) (hp3 _ _ ?_)
      show GG _ _ _ _ _ _ _ _ [.int (Int32.ofInt 0), .ref (A 109)] _ _ _
      refine g_aload_n 7 (gd rfl) rfl rfl ?_
      refine g_getI 10 (gd rfl) rfl rfl rfl (fun z7 e7 => ?_)
      have q7 : u_109_9 = z7 := (e_109_9).trans e7.symm
      subst q7
      refine g_sipush 4000 13 (gd rfl) rfl rfl ?_
      refine g_cmp_ge 16 20 (gd rfl) rfl rfl (fun c13 => ?_) (fun c13 => ?_)
      · skip
        have i13 := r_le2 4000 4000 c13 (in_c 4000 rfl) (inv_F hI 0 4000 rfl e_109_9) rfl
        refine g_iconst 0 21 (gd rfl) rfl rfl ?_
        refine g_callv (X := _) (As := [.int (Int32.ofInt 0), .int (Int32.ofInt 0)]) (r := []) (b := A 109) (q := 109) 24 (gd rfl) rfl rfl rfl rfl rfl (ww_o rfl) (Nat.le_of_ble_eq_true rfl) (mc := 0) (ms := 0) (Nat.zero_le _) (Nat.zero_le _) (P := fun v u => _) ?_ (fun e u h => h) (fun v u h => h)
        intro po21 xx21 hp21 hx21
        refine g_enter2 (k := 270) (N := 300) (by first | exact dq1 hd rfl | exact dq0 hd rfl | exact dq2 hd rfl | exact dq3 hd rfl | omega) rfl (Nat.le_of_ble_eq_true rfl) ?_
        refine g_aload_n 1 (gd rfl) rfl rfl ?_
        refine g_iload_n 2 (gd rfl) rfl rfl ?_
        refine g_if_ne 5 9 (gd rfl) rfl rfl (fun c21x2 => ?_) (fun c21x2 => ?_)
        · skip
          exact zn_ne c21x2 (in_c 0 rfl) rfl
        · skip
          refine g_iconst 1 6 (gd rfl) rfl rfl ?_
          refine g_goto 18 (gd rfl) rfl ?_
          refine g_putI 21 (gd rfl) rfl rfl rfl rfl ?_
          have hI21x18 := inv_sF (q := 109) (j := 0) hI rfl (in_w 0 2 (in_c 1 rfl) rfl)
          refine g_aload_n 22 (gd rfl) rfl rfl ?_
          refine g_getI 25 (gd rfl) rfl rfl rfl (fun z21x22 e21x22 => ?_)
          have q21x22 : (Int32.ofInt 1) = z21x22 := (sF_get).trans e21x22.symm
          subst q21x22
          refine g_if_le 28 32 (gd rfl) rfl rfl (fun c21x25 => ?_) (fun c21x25 => ?_)
          · skip
            exact zn_le c21x25 (in_c 1 rfl) rfl
          · skip
            refine g_iconst 1 29 (gd rfl) rfl rfl ?_
            refine g_goto 33 (gd rfl) rfl ?_
            refine g_ireturn (gd rfl) rfl (nb01 (in_w 0 1 (in_c 1 rfl) rfl)) (hp21 _ _ ?_)
            show GG _ _ _ _ _ _ _ _ [.int (Int32.ofInt 1)] _ _ _
            refine g_if_eq 27 29 (gd rfl) rfl rfl (fun c24 => ?_) (fun c24 => ?_)
            · skip
              exact zn_eq c24 (in_c 1 rfl) rfl
            · skip
              refine g_iconst 0 28 (gd rfl) rfl rfl ?_
              have n28 : CDR s (sF s 109 0 (Int32.ofInt 1)) (HAR s x1) ((s.2.2.1 109 9).toInt ≤ 3999) (((Int32.ofInt 0)).toInt = (s.2.2.1 109 9).toInt + 1 ∧ gvR (sF s 109 0 (Int32.ofInt 1)) = gqD (gvR s) (x1).toNatClampNeg) := by first | exact Or.inl ⟨rfl, (by first | (unfold HAR; have a0 := oa4 ((inv_F hI 0 2 rfl e_109_0)) i13 i3x8 ((in_c 1 rfl)); have oc := oc_283_109; omega) | (unfold HAR; rw [← e3x16]; have a0 := oa4 ((inv_F hI 0 2 rfl e_109_0)) i13 i3x8 ((in_c 1 rfl)); have oc := oc_283_109; omega)), (gvR_cg (L := ([], [], [(109, 0)], [])) (fr_sF rfl fr_rf) rfl)⟩ | exact Or.inr (Or.inl ⟨rfl, ⟨by have a0 := oa4 ((inv_F hI 0 2 rfl e_109_0)) i13 i3x8 ((in_c 1 rfl)); have oc := oc_283_109; omega, by have a0 := oa4 ((inv_F hI 0 2 rfl e_109_0)) i13 i3x8 ((in_c 1 rfl)); have oc := oc_283_109; omega, by rw [← e3x16]; have a0 := oa4 ((inv_F hI 0 2 rfl e_109_0)) i13 i3x8 ((in_c 1 rfl)); have oc := oc_283_109; omega⟩, (by rw [← e_109_9]; have a0 := oa4 ((inv_F hI 0 2 rfl e_109_0)) i13 i3x8 ((in_c 1 rfl)); have oc := oc_283_109; omega), (gvR_cg (L := ([], [], [(109, 0)], [])) (fr_sF rfl fr_rf) rfl)⟩)
              have n28a : LGX s (sF s 109 0 (Int32.ofInt 1)) (Int32.ofInt 2) x1 (Int32.ofInt 0) (Int32.ofInt 0) (Int32.ofInt 0) (Int32.ofInt 0) (Int32.ofInt 0) := by exact Or.inl ⟨rfl, rfl, rfl, rfl, rfl, rfl, rfl, rfl⟩
              have n28b : GSE s → GSE (sF s 109 0 (Int32.ofInt 1)) := by exact fun h => gse_fr (L := ([], [], [(109, 0)], [])) h (fr_sF rfl fr_rf) rfl
              have n28c : G1S s (sF s 109 0 (Int32.ofInt 1)) := by exact ⟨rfl, fun _ _ => rfl, fun _ _ _ => ⟨rfl, rfl, rfl, rfl, rfl, rfl⟩⟩
              exact g_ireturn (gd rfl) rfl rfl (hP _ _ ⟨(sF s 109 0 (Int32.ofInt 1)), hI21x18, (fr_sF rfl fr_rf), (Int32.ofInt 0), rfl, rfl, in_w 0 4000 (in_c 0 rfl) rfl, n28, n28a, n28b, n28c⟩)
      · skip
        have i13 := r_lt1 0 3999 c13 (inv_F hI 0 4000 rfl e_109_9) (in_c 4000 rfl) rfl
        refine g_iconst 1 17 (gd rfl) rfl rfl ?_
        refine g_goto 21 (gd rfl) rfl ?_
        refine g_callv (X := _) (As := [.int (Int32.ofInt 0), .int (Int32.ofInt 1)]) (r := []) (b := A 109) (q := 109) 24 (gd rfl) rfl rfl rfl rfl rfl (ww_o rfl) (Nat.le_of_ble_eq_true rfl) (mc := 0) (ms := 0) (Nat.zero_le _) (Nat.zero_le _) (P := fun v u => _) ?_ (fun e u h => h) (fun v u h => h)
        intro po21 xx21 hp21 hx21
        refine g_enter2 (k := 270) (N := 300) (by first | exact dq1 hd rfl | exact dq0 hd rfl | exact dq2 hd rfl | exact dq3 hd rfl | omega) rfl (Nat.le_of_ble_eq_true rfl) ?_
        refine g_aload_n 1 (gd rfl) rfl rfl ?_
        refine g_iload_n 2 (gd rfl) rfl rfl ?_
        refine g_if_ne 5 9 (gd rfl) rfl rfl (fun c21x2 => ?_) (fun c21x2 => ?_)
        · skip
          exact zn_ne c21x2 (in_c 0 rfl) rfl
        · skip
          refine g_iconst 1 6 (gd rfl) rfl rfl ?_
          refine g_goto 18 (gd rfl) rfl ?_
          refine g_putI 21 (gd rfl) rfl rfl rfl rfl ?_
          have hI21x18 := inv_sF (q := 109) (j := 0) hI rfl (in_w 0 2 (in_c 1 rfl) rfl)
          refine g_aload_n 22 (gd rfl) rfl rfl ?_
          refine g_getI 25 (gd rfl) rfl rfl rfl (fun z21x22 e21x22 => ?_)
          have q21x22 : (Int32.ofInt 1) = z21x22 := (sF_get).trans e21x22.symm
          subst q21x22
          refine g_if_le 28 32 (gd rfl) rfl rfl (fun c21x25 => ?_) (fun c21x25 => ?_)
          · skip
            exact zn_le c21x25 (in_c 1 rfl) rfl
          · skip
            refine g_iconst 1 29 (gd rfl) rfl rfl ?_
            refine g_goto 33 (gd rfl) rfl ?_
            refine g_ireturn (gd rfl) rfl (nb01 (in_w 0 1 (in_c 1 rfl) rfl)) (hp21 _ _ ?_)
            show GG _ _ _ _ _ _ _ _ [.int (Int32.ofInt 1)] _ _ _
            refine g_if_eq 27 29 (gd rfl) rfl rfl (fun c24 => ?_) (fun c24 => ?_)
            · skip
              exact zn_eq c24 (in_c 1 rfl) rfl
            · skip
              refine g_iconst 0 28 (gd rfl) rfl rfl ?_
              have n28 : CDR s (sF s 109 0 (Int32.ofInt 1)) (HAR s x1) ((s.2.2.1 109 9).toInt ≤ 3999) (((Int32.ofInt 0)).toInt = (s.2.2.1 109 9).toInt + 1 ∧ gvR (sF s 109 0 (Int32.ofInt 1)) = gqD (gvR s) (x1).toNatClampNeg) := by first | exact Or.inl ⟨rfl, (by first | (unfold HAR; have a0 := oa4 ((inv_F hI 0 2 rfl e_109_0)) i13 i3x8 ((in_c 1 rfl)); have oc := oc_283_109; omega) | (unfold HAR; rw [← e3x16]; have a0 := oa4 ((inv_F hI 0 2 rfl e_109_0)) i13 i3x8 ((in_c 1 rfl)); have oc := oc_283_109; omega)), (gvR_cg (L := ([], [], [(109, 0)], [])) (fr_sF rfl fr_rf) rfl)⟩ | exact Or.inr (Or.inl ⟨rfl, ⟨by have a0 := oa4 ((inv_F hI 0 2 rfl e_109_0)) i13 i3x8 ((in_c 1 rfl)); have oc := oc_283_109; omega, by have a0 := oa4 ((inv_F hI 0 2 rfl e_109_0)) i13 i3x8 ((in_c 1 rfl)); have oc := oc_283_109; omega, by rw [← e3x16]; have a0 := oa4 ((inv_F hI 0 2 rfl e_109_0)) i13 i3x8 ((in_c 1 rfl)); have oc := oc_283_109; omega⟩, (by rw [← e_109_9]; have a0 := oa4 ((inv_F hI 0 2 rfl e_109_0)) i13 i3x8 ((in_c 1 rfl)); have oc := oc_283_109; omega), (gvR_cg (L := ([], [], [(109, 0)], [])) (fr_sF rfl fr_rf) rfl)⟩)
              have n28a : LGX s (sF s 109 0 (Int32.ofInt 1)) (Int32.ofInt 2) x1 (Int32.ofInt 0) (Int32.ofInt 0) (Int32.ofInt 0) (Int32.ofInt 0) (Int32.ofInt 0) := by exact Or.inl ⟨rfl, rfl, rfl, rfl, rfl, rfl, rfl, rfl⟩
              have n28b : GSE s → GSE (sF s 109 0 (Int32.ofInt 1)) := by exact fun h => gse_fr (L := ([], [], [(109, 0)], [])) h (fr_sF rfl fr_rf) rfl
              have n28c : G1S s (sF s 109 0 (Int32.ofInt 1)) := by exact ⟨rfl, fun _ _ => rfl, fun _ _ _ => ⟨rfl, rfl, rfl, rfl, rfl, rfl⟩⟩
              exact g_ireturn (gd rfl) rfl rfl (hP _ _ ⟨(sF s 109 0 (Int32.ofInt 1)), hI21x18, (fr_sF rfl fr_rf), (Int32.ofInt 0), rfl, rfl, in_w 0 4000 (in_c 0 rfl) rfl, n28, n28a, n28b, n28c⟩)
    · skip
      have i3x8 := r_lt1 0 159 c3x8 i3x1 (in_c 160 rfl) rfl
      refine g_aload_n 12 (gd rfl) rfl rfl ?_
      refine g_getA (q2 := 112) 15 (gd rfl) rfl rfl rfl rfl ?_
      refine g_iload_n 16 (gd rfl) rfl rfl ?_
      refine g_baload 17 (gd rfl) rfl (n := 480) rfl (in_ix i3x8 rfl) (fun z3x16 e3x16 => ?_)
      have i3x16 := inv_I hI (n := 480) (t := 3) 0 1 rfl (in_ix i3x8 rfl) rfl e3x16
      refine g_if_eq 20 24 (gd rfl) rfl rfl (fun c3x17 => ?_) (fun c3x17 => ?_)
      · skip
        have i3x17 := z_eq 0 0 c3x17 i3x16 rfl
        refine g_iconst 0 25 (gd rfl) rfl rfl ?_
        refine g_ireturn (gd rfl) rfl (nb01 (in_w 0 1 (in_c 0 rfl) rfl)) (hp3 _ _ ?_)
        show GG _ _ _ _ _ _ _ _ [.int (Int32.ofInt 0), .ref (A 109)] _ _ _
        refine g_aload_n 7 (gd rfl) rfl rfl ?_
        refine g_getI 10 (gd rfl) rfl rfl rfl (fun z7 e7 => ?_)
        have q7 : u_109_9 = z7 := (e_109_9).trans e7.symm
        subst q7
        refine g_sipush 4000 13 (gd rfl) rfl rfl ?_
        refine g_cmp_ge 16 20 (gd rfl) rfl rfl (fun c13 => ?_) (fun c13 => ?_)
        · skip
          have i13 := r_le2 4000 4000 c13 (in_c 4000 rfl) (inv_F hI 0 4000 rfl e_109_9) rfl
          refine g_iconst 0 21 (gd rfl) rfl rfl ?_
          refine g_callv (X := _) (As := [.int (Int32.ofInt 0), .int (Int32.ofInt 0)]) (r := []) (b := A 109) (q := 109) 24 (gd rfl) rfl rfl rfl rfl rfl (ww_o rfl) (Nat.le_of_ble_eq_true rfl) (mc := 0) (ms := 0) (Nat.zero_le _) (Nat.zero_le _) (P := fun v u => _) ?_ (fun e u h => h) (fun v u h => h)
          intro po21 xx21 hp21 hx21
          refine g_enter2 (k := 270) (N := 300) (by first | exact dq1 hd rfl | exact dq0 hd rfl | exact dq2 hd rfl | exact dq3 hd rfl | omega) rfl (Nat.le_of_ble_eq_true rfl) ?_
          refine g_aload_n 1 (gd rfl) rfl rfl ?_
          refine g_iload_n 2 (gd rfl) rfl rfl ?_
          refine g_if_ne 5 9 (gd rfl) rfl rfl (fun c21x2 => ?_) (fun c21x2 => ?_)
          · skip
            exact zn_ne c21x2 (in_c 0 rfl) rfl
          · skip
            refine g_iconst 1 6 (gd rfl) rfl rfl ?_
            refine g_goto 18 (gd rfl) rfl ?_
            refine g_putI 21 (gd rfl) rfl rfl rfl rfl ?_
            have hI21x18 := inv_sF (q := 109) (j := 0) hI rfl (in_w 0 2 (in_c 1 rfl) rfl)
            refine g_aload_n 22 (gd rfl) rfl rfl ?_
            refine g_getI 25 (gd rfl) rfl rfl rfl (fun z21x22 e21x22 => ?_)
            have q21x22 : (Int32.ofInt 1) = z21x22 := (sF_get).trans e21x22.symm
            subst q21x22
            refine g_if_le 28 32 (gd rfl) rfl rfl (fun c21x25 => ?_) (fun c21x25 => ?_)
            · skip
              exact zn_le c21x25 (in_c 1 rfl) rfl
            · skip
              refine g_iconst 1 29 (gd rfl) rfl rfl ?_
              refine g_goto 33 (gd rfl) rfl ?_
              refine g_ireturn (gd rfl) rfl (nb01 (in_w 0 1 (in_c 1 rfl) rfl)) (hp21 _ _ ?_)
              show GG _ _ _ _ _ _ _ _ [.int (Int32.ofInt 1)] _ _ _
              refine g_if_eq 27 29 (gd rfl) rfl rfl (fun c24 => ?_) (fun c24 => ?_)
              · skip
                exact zn_eq c24 (in_c 1 rfl) rfl
              · skip
                refine g_iconst 0 28 (gd rfl) rfl rfl ?_
                have n28 : CDR s (sF s 109 0 (Int32.ofInt 1)) (HAR s x1) ((s.2.2.1 109 9).toInt ≤ 3999) (((Int32.ofInt 0)).toInt = (s.2.2.1 109 9).toInt + 1 ∧ gvR (sF s 109 0 (Int32.ofInt 1)) = gqD (gvR s) (x1).toNatClampNeg) := by first | exact Or.inl ⟨rfl, (by first | (unfold HAR; have a0 := oa4 i3x8 ((inv_F hI 0 2 rfl e_109_0)) i13 ((in_c 1 rfl)); have oc := oc_283_109; omega) | (unfold HAR; rw [← e3x16]; have a0 := oa4 i3x8 ((inv_F hI 0 2 rfl e_109_0)) i13 ((in_c 1 rfl)); have oc := oc_283_109; omega)), (gvR_cg (L := ([], [], [(109, 0)], [])) (fr_sF rfl fr_rf) rfl)⟩ | exact Or.inr (Or.inl ⟨rfl, ⟨by have a0 := oa4 i3x8 ((inv_F hI 0 2 rfl e_109_0)) i13 ((in_c 1 rfl)); have oc := oc_283_109; omega, by have a0 := oa4 i3x8 ((inv_F hI 0 2 rfl e_109_0)) i13 ((in_c 1 rfl)); have oc := oc_283_109; omega, by rw [← e3x16]; have a0 := oa4 i3x8 ((inv_F hI 0 2 rfl e_109_0)) i13 ((in_c 1 rfl)); have oc := oc_283_109; omega⟩, (by rw [← e_109_9]; have a0 := oa4 i3x8 ((inv_F hI 0 2 rfl e_109_0)) i13 ((in_c 1 rfl)); have oc := oc_283_109; omega), (gvR_cg (L := ([], [], [(109, 0)], [])) (fr_sF rfl fr_rf) rfl)⟩)
                have n28a : LGX s (sF s 109 0 (Int32.ofInt 1)) (Int32.ofInt 2) x1 (Int32.ofInt 0) (Int32.ofInt 0) (Int32.ofInt 0) (Int32.ofInt 0) (Int32.ofInt 0) := by exact Or.inl ⟨rfl, rfl, rfl, rfl, rfl, rfl, rfl, rfl⟩
                have n28b : GSE s → GSE (sF s 109 0 (Int32.ofInt 1)) := by exact fun h => gse_fr (L := ([], [], [(109, 0)], [])) h (fr_sF rfl fr_rf) rfl
                have n28c : G1S s (sF s 109 0 (Int32.ofInt 1)) := by exact ⟨rfl, fun _ _ => rfl, fun _ _ _ => ⟨rfl, rfl, rfl, rfl, rfl, rfl⟩⟩
                exact g_ireturn (gd rfl) rfl rfl (hP _ _ ⟨(sF s 109 0 (Int32.ofInt 1)), hI21x18, (fr_sF rfl fr_rf), (Int32.ofInt 0), rfl, rfl, in_w 0 4000 (in_c 0 rfl) rfl, n28, n28a, n28b, n28c⟩)
        · skip
          have i13 := r_lt1 0 3999 c13 (inv_F hI 0 4000 rfl e_109_9) (in_c 4000 rfl) rfl
          refine g_iconst 1 17 (gd rfl) rfl rfl ?_
          refine g_goto 21 (gd rfl) rfl ?_
          refine g_callv (X := _) (As := [.int (Int32.ofInt 0), .int (Int32.ofInt 1)]) (r := []) (b := A 109) (q := 109) 24 (gd rfl) rfl rfl rfl rfl rfl (ww_o rfl) (Nat.le_of_ble_eq_true rfl) (mc := 0) (ms := 0) (Nat.zero_le _) (Nat.zero_le _) (P := fun v u => _) ?_ (fun e u h => h) (fun v u h => h)
          intro po21 xx21 hp21 hx21
          refine g_enter2 (k := 270) (N := 300) (by first | exact dq1 hd rfl | exact dq0 hd rfl | exact dq2 hd rfl | exact dq3 hd rfl | omega) rfl (Nat.le_of_ble_eq_true rfl) ?_
          refine g_aload_n 1 (gd rfl) rfl rfl ?_
          refine g_iload_n 2 (gd rfl) rfl rfl ?_
          refine g_if_ne 5 9 (gd rfl) rfl rfl (fun c21x2 => ?_) (fun c21x2 => ?_)
          · skip
            exact zn_ne c21x2 (in_c 0 rfl) rfl
          · skip
            refine g_iconst 1 6 (gd rfl) rfl rfl ?_
            refine g_goto 18 (gd rfl) rfl ?_
            refine g_putI 21 (gd rfl) rfl rfl rfl rfl ?_
            have hI21x18 := inv_sF (q := 109) (j := 0) hI rfl (in_w 0 2 (in_c 1 rfl) rfl)
            refine g_aload_n 22 (gd rfl) rfl rfl ?_
            refine g_getI 25 (gd rfl) rfl rfl rfl (fun z21x22 e21x22 => ?_)
            have q21x22 : (Int32.ofInt 1) = z21x22 := (sF_get).trans e21x22.symm
            subst q21x22
            refine g_if_le 28 32 (gd rfl) rfl rfl (fun c21x25 => ?_) (fun c21x25 => ?_)
            · skip
              exact zn_le c21x25 (in_c 1 rfl) rfl
            · skip
              refine g_iconst 1 29 (gd rfl) rfl rfl ?_
              refine g_goto 33 (gd rfl) rfl ?_
              refine g_ireturn (gd rfl) rfl (nb01 (in_w 0 1 (in_c 1 rfl) rfl)) (hp21 _ _ ?_)
              show GG _ _ _ _ _ _ _ _ [.int (Int32.ofInt 1)] _ _ _
              refine g_if_eq 27 29 (gd rfl) rfl rfl (fun c24 => ?_) (fun c24 => ?_)
              · skip
                exact zn_eq c24 (in_c 1 rfl) rfl
              · skip
                refine g_iconst 0 28 (gd rfl) rfl rfl ?_
                have n28 : CDR s (sF s 109 0 (Int32.ofInt 1)) (HAR s x1) ((s.2.2.1 109 9).toInt ≤ 3999) (((Int32.ofInt 0)).toInt = (s.2.2.1 109 9).toInt + 1 ∧ gvR (sF s 109 0 (Int32.ofInt 1)) = gqD (gvR s) (x1).toNatClampNeg) := by first | exact Or.inl ⟨rfl, (by first | (unfold HAR; have a0 := oa4 i3x8 ((inv_F hI 0 2 rfl e_109_0)) i13 ((in_c 1 rfl)); have oc := oc_283_109; omega) | (unfold HAR; rw [← e3x16]; have a0 := oa4 i3x8 ((inv_F hI 0 2 rfl e_109_0)) i13 ((in_c 1 rfl)); have oc := oc_283_109; omega)), (gvR_cg (L := ([], [], [(109, 0)], [])) (fr_sF rfl fr_rf) rfl)⟩ | exact Or.inr (Or.inl ⟨rfl, ⟨by have a0 := oa4 i3x8 ((inv_F hI 0 2 rfl e_109_0)) i13 ((in_c 1 rfl)); have oc := oc_283_109; omega, by have a0 := oa4 i3x8 ((inv_F hI 0 2 rfl e_109_0)) i13 ((in_c 1 rfl)); have oc := oc_283_109; omega, by rw [← e3x16]; have a0 := oa4 i3x8 ((inv_F hI 0 2 rfl e_109_0)) i13 ((in_c 1 rfl)); have oc := oc_283_109; omega⟩, (by rw [← e_109_9]; have a0 := oa4 i3x8 ((inv_F hI 0 2 rfl e_109_0)) i13 ((in_c 1 rfl)); have oc := oc_283_109; omega), (gvR_cg (L := ([], [], [(109, 0)], [])) (fr_sF rfl fr_rf) rfl)⟩)
                have n28a : LGX s (sF s 109 0 (Int32.ofInt 1)) (Int32.ofInt 2) x1 (Int32.ofInt 0) (Int32.ofInt 0) (Int32.ofInt 0) (Int32.ofInt 0) (Int32.ofInt 0) := by exact Or.inl ⟨rfl, rfl, rfl, rfl, rfl, rfl, rfl, rfl⟩
                have n28b : GSE s → GSE (sF s 109 0 (Int32.ofInt 1)) := by exact fun h => gse_fr (L := ([], [], [(109, 0)], [])) h (fr_sF rfl fr_rf) rfl
                have n28c : G1S s (sF s 109 0 (Int32.ofInt 1)) := by exact ⟨rfl, fun _ _ => rfl, fun _ _ _ => ⟨rfl, rfl, rfl, rfl, rfl, rfl⟩⟩
                exact g_ireturn (gd rfl) rfl rfl (hP _ _ ⟨(sF s 109 0 (Int32.ofInt 1)), hI21x18, (fr_sF rfl fr_rf), (Int32.ofInt 0), rfl, rfl, in_w 0 4000 (in_c 0 rfl) rfl, n28, n28a, n28b, n28c⟩)
      · skip
        have i3x17 := z_ne 1 1 c3x17 i3x16 rfl
        refine g_iconst 1 21 (gd rfl) rfl rfl ?_
        refine g_goto 25 (gd rfl) rfl ?_
        refine g_ireturn (gd rfl) rfl (nb01 (in_w 0 1 (in_c 1 rfl) rfl)) (hp3 _ _ ?_)
        show GG _ _ _ _ _ _ _ _ [.int (Int32.ofInt 1), .ref (A 109)] _ _ _
        refine g_aload_n 7 (gd rfl) rfl rfl ?_
        refine g_getI 10 (gd rfl) rfl rfl rfl (fun z7 e7 => ?_)
        have q7 : u_109_9 = z7 := (e_109_9).trans e7.symm
        subst q7
        refine g_sipush 4000 13 (gd rfl) rfl rfl ?_
        refine g_cmp_ge 16 20 (gd rfl) rfl rfl (fun c13 => ?_) (fun c13 => ?_)
        · skip
          have i13 := r_le2 4000 4000 c13 (in_c 4000 rfl) (inv_F hI 0 4000 rfl e_109_9) rfl
          refine g_iconst 0 21 (gd rfl) rfl rfl ?_
          refine g_callv (X := _) (As := [.int (Int32.ofInt 1), .int (Int32.ofInt 0)]) (r := []) (b := A 109) (q := 109) 24 (gd rfl) rfl rfl rfl rfl rfl (ww_o rfl) (Nat.le_of_ble_eq_true rfl) (mc := 0) (ms := 0) (Nat.zero_le _) (Nat.zero_le _) (P := fun v u => _) ?_ (fun e u h => h) (fun v u h => h)
          intro po21 xx21 hp21 hx21
          refine g_enter2 (k := 270) (N := 300) (by first | exact dq1 hd rfl | exact dq0 hd rfl | exact dq2 hd rfl | exact dq3 hd rfl | omega) rfl (Nat.le_of_ble_eq_true rfl) ?_
          refine g_aload_n 1 (gd rfl) rfl rfl ?_
          refine g_iload_n 2 (gd rfl) rfl rfl ?_
          refine g_if_ne 5 9 (gd rfl) rfl rfl (fun c21x2 => ?_) (fun c21x2 => ?_)
          · skip
            refine g_iload_n 10 (gd rfl) rfl rfl ?_
            refine g_if_ne 13 17 (gd rfl) rfl rfl (fun c21x10 => ?_) (fun c21x10 => ?_)
            · skip
              exact zn_ne c21x10 (in_c 0 rfl) rfl
            · skip
              refine g_iconst 2 14 (gd rfl) rfl rfl ?_
              refine g_goto 18 (gd rfl) rfl ?_
              refine g_putI 21 (gd rfl) rfl rfl rfl rfl ?_
              have hI21x18 := inv_sF (q := 109) (j := 0) hI rfl (in_w 0 2 (in_c 2 rfl) rfl)
              refine g_aload_n 22 (gd rfl) rfl rfl ?_
              refine g_getI 25 (gd rfl) rfl rfl rfl (fun z21x22 e21x22 => ?_)
              have q21x22 : (Int32.ofInt 2) = z21x22 := (sF_get).trans e21x22.symm
              subst q21x22
              refine g_if_le 28 32 (gd rfl) rfl rfl (fun c21x25 => ?_) (fun c21x25 => ?_)
              · skip
                exact zn_le c21x25 (in_c 2 rfl) rfl
              · skip
                refine g_iconst 1 29 (gd rfl) rfl rfl ?_
                refine g_goto 33 (gd rfl) rfl ?_
                refine g_ireturn (gd rfl) rfl (nb01 (in_w 0 1 (in_c 1 rfl) rfl)) (hp21 _ _ ?_)
                show GG _ _ _ _ _ _ _ _ [.int (Int32.ofInt 1)] _ _ _
                refine g_if_eq 27 29 (gd rfl) rfl rfl (fun c24 => ?_) (fun c24 => ?_)
                · skip
                  exact zn_eq c24 (in_c 1 rfl) rfl
                · skip
                  refine g_iconst 0 28 (gd rfl) rfl rfl ?_
                  have n28 : CDR s (sF s 109 0 (Int32.ofInt 2)) (HAR s x1) ((s.2.2.1 109 9).toInt ≤ 3999) (((Int32.ofInt 0)).toInt = (s.2.2.1 109 9).toInt + 1 ∧ gvR (sF s 109 0 (Int32.ofInt 2)) = gqD (gvR s) (x1).toNatClampNeg) := by first | exact Or.inl ⟨rfl, (by first | (unfold HAR; have a0 := oa4 i3x8 ((inv_F hI 0 2 rfl e_109_0)) i13 ((in_c 2 rfl)); have oc := oc_283_109; omega) | (unfold HAR; rw [← e3x16]; have a0 := oa4 i3x8 ((inv_F hI 0 2 rfl e_109_0)) i13 ((in_c 2 rfl)); have oc := oc_283_109; omega)), (gvR_cg (L := ([], [], [(109, 0)], [])) (fr_sF rfl fr_rf) rfl)⟩ | exact Or.inr (Or.inl ⟨rfl, ⟨by have a0 := oa4 i3x8 ((inv_F hI 0 2 rfl e_109_0)) i13 ((in_c 2 rfl)); have oc := oc_283_109; omega, by have a0 := oa4 i3x8 ((inv_F hI 0 2 rfl e_109_0)) i13 ((in_c 2 rfl)); have oc := oc_283_109; omega, by rw [← e3x16]; have a0 := oa4 i3x8 ((inv_F hI 0 2 rfl e_109_0)) i13 ((in_c 2 rfl)); have oc := oc_283_109; omega⟩, (by rw [← e_109_9]; have a0 := oa4 i3x8 ((inv_F hI 0 2 rfl e_109_0)) i13 ((in_c 2 rfl)); have oc := oc_283_109; omega), (gvR_cg (L := ([], [], [(109, 0)], [])) (fr_sF rfl fr_rf) rfl)⟩)
                  have n28a : LGX s (sF s 109 0 (Int32.ofInt 2)) (Int32.ofInt 2) x1 (Int32.ofInt 0) (Int32.ofInt 0) (Int32.ofInt 0) (Int32.ofInt 0) (Int32.ofInt 0) := by exact Or.inl ⟨rfl, rfl, rfl, rfl, rfl, rfl, rfl, rfl⟩
                  have n28b : GSE s → GSE (sF s 109 0 (Int32.ofInt 2)) := by exact fun h => gse_fr (L := ([], [], [(109, 0)], [])) h (fr_sF rfl fr_rf) rfl
                  have n28c : G1S s (sF s 109 0 (Int32.ofInt 2)) := by exact ⟨rfl, fun _ _ => rfl, fun _ _ _ => ⟨rfl, rfl, rfl, rfl, rfl, rfl⟩⟩
                  exact g_ireturn (gd rfl) rfl rfl (hP _ _ ⟨(sF s 109 0 (Int32.ofInt 2)), hI21x18, (fr_sF rfl fr_rf), (Int32.ofInt 0), rfl, rfl, in_w 0 4000 (in_c 0 rfl) rfl, n28, n28a, n28b, n28c⟩)
          · skip
            exact zn_eq c21x2 (in_c 1 rfl) rfl
        · skip
          have i13 := r_lt1 0 3999 c13 (inv_F hI 0 4000 rfl e_109_9) (in_c 4000 rfl) rfl
          refine g_iconst 1 17 (gd rfl) rfl rfl ?_
          refine g_goto 21 (gd rfl) rfl ?_
          refine g_callv (X := _) (As := [.int (Int32.ofInt 1), .int (Int32.ofInt 1)]) (r := []) (b := A 109) (q := 109) 24 (gd rfl) rfl rfl rfl rfl rfl (ww_o rfl) (Nat.le_of_ble_eq_true rfl) (mc := 0) (ms := 0) (Nat.zero_le _) (Nat.zero_le _) (P := fun v u => _) ?_ (fun e u h => h) (fun v u h => h)
          intro po21 xx21 hp21 hx21
          refine g_enter2 (k := 270) (N := 300) (by first | exact dq1 hd rfl | exact dq0 hd rfl | exact dq2 hd rfl | exact dq3 hd rfl | omega) rfl (Nat.le_of_ble_eq_true rfl) ?_
          refine g_aload_n 1 (gd rfl) rfl rfl ?_
          refine g_iload_n 2 (gd rfl) rfl rfl ?_
          refine g_if_ne 5 9 (gd rfl) rfl rfl (fun c21x2 => ?_) (fun c21x2 => ?_)
          · skip
            refine g_iload_n 10 (gd rfl) rfl rfl ?_
            refine g_if_ne 13 17 (gd rfl) rfl rfl (fun c21x10 => ?_) (fun c21x10 => ?_)
            · skip
              refine g_iconst 0 18 (gd rfl) rfl rfl ?_
              refine g_putI 21 (gd rfl) rfl rfl rfl rfl ?_
              have hI21x18 := inv_sF (q := 109) (j := 0) hI rfl (in_w 0 2 (in_c 0 rfl) rfl)
              refine g_aload_n 22 (gd rfl) rfl rfl ?_
              refine g_getI 25 (gd rfl) rfl rfl rfl (fun z21x22 e21x22 => ?_)
              have q21x22 : (Int32.ofInt 0) = z21x22 := (sF_get).trans e21x22.symm
              subst q21x22
              refine g_if_le 28 32 (gd rfl) rfl rfl (fun c21x25 => ?_) (fun c21x25 => ?_)
              · skip
                refine g_iconst 0 33 (gd rfl) rfl rfl ?_
                refine g_ireturn (gd rfl) rfl (nb01 (in_w 0 1 (in_c 0 rfl) rfl)) (hp21 _ _ ?_)
                show GG _ _ _ _ _ _ _ _ [.int (Int32.ofInt 0)] _ _ _
                refine g_if_eq 27 29 (gd rfl) rfl rfl (fun c24 => ?_) (fun c24 => ?_)
                · skip
                  refine g_aload_n 30 (gd rfl) rfl rfl ?_
                  refine g_iconst 2 31 (gd rfl) rfl rfl ?_
                  refine g_iload_n 32 (gd rfl) rfl rfl ?_
                  refine g_iconst 0 33 (gd rfl) rfl rfl ?_
                  refine g_iconst 0 34 (gd rfl) rfl rfl ?_
                  refine g_iconst 0 35 (gd rfl) rfl rfl ?_
                  refine g_iconst 0 36 (gd rfl) rfl rfl ?_
                  refine g_iconst 0 37 (gd rfl) rfl rfl ?_
                  have v37 : u_109_9 = (sF s 109 0 (Int32.ofInt 0)).2.2.1 109 9 := sF_ne rfl (e_109_9)
                  have p37 : MK (sF s 109 0 (Int32.ofInt 0)) (Int32.ofInt 2) x1 (Int32.ofInt 0) (Int32.ofInt 0) := by exact ⟨fun h => absurd h (by decide), fun h => absurd h (by decide), fun h => absurd h (by decide), fun h => absurd h (by decide), fun h => absurd h (by decide)⟩
                  refine g_callv (X := _) (As := [.int (Int32.ofInt 2), .int x1, .int (Int32.ofInt 0), .int (Int32.ofInt 0), .int (Int32.ofInt 0), .int (Int32.ofInt 0), .int (Int32.ofInt 0)]) (r := []) (b := A 109) (q := 109) 40 (gd rfl) rfl rfl rfl rfl rfl (ww_o rfl) (Nat.le_of_ble_eq_true rfl) (Nat.zero_le _) (Nat.zero_le _) (f_274 (by first | exact dq1 hd rfl | exact dq0 hd rfl | exact dq2 hd rfl | exact dq3 hd rfl | omega) hI21x18 (in_w 0 4 (in_c 2 rfl) rfl) (in_w 0 159 i3x8 rfl) (in_w 0 31 (in_c 0 rfl) rfl) (in_w (-1000000) 1000000 (in_c 0 rfl) rfl) (in_w (-1000000) 1000000 (in_c 0 rfl) rfl) (in_w 0 1000000 (in_c 0 rfl) rfl) (in_w 0 25 (in_c 0 rfl) rfl) v37 (in_w 0 3999 i13 rfl) p37) (fun e u h => h) (fun v u h => ?_)
                  obtain ⟨s37, hI37, hF37, n37, rfl, rfl, p37a, p37b, p37c, p37d, p37e⟩ := h
                  obtain ⟨z37a, e37⟩ : ∃ w, w = s37.2.2.1 109 9 := ⟨_, rfl⟩
                  have i37a := inv_F hI37 0 4000 rfl e37
                  rw [← (show u_109_9 = (sF s 109 0 (Int32.ofInt 0)).2.2.1 109 9 from sF_ne rfl (e_109_9))] at n37
                  rw [← (show z37a = s37.2.2.1 109 9 from e37)] at n37
                  show GG _ _ _ _ _ _ _ _ [] _ _ _
                  refine g_aload_n 41 (gd rfl) rfl rfl ?_
                  refine g_getI 44 (gd rfl) rfl rfl rfl (fun z41 e41 => ?_)
                  have q41 : z37a = z41 := (e37).trans e41.symm
                  subst q41
                  have n44 : CDR s s37 (HAR s x1) ((s.2.2.1 109 9).toInt ≤ 3999) ((z37a).toInt = (s.2.2.1 109 9).toInt + 1 ∧ gvR s37 = gqD (gvR s) (x1).toNatClampNeg) := by exact Or.inr (Or.inr ⟨(by have hc9 : s37.2.2.1 109 0 = Int32.ofInt 0 := (hF37.2.2.1 109 0 rfl).trans rfl; rw [hc9]; rfl), ⟨by have a0 := oa5 i3x8 ((inv_F hI 0 2 rfl e_109_0)) i13 i37a ((in_c 0 rfl)); have oc := oc_283_109; omega, by have a0 := oa5 i3x8 ((inv_F hI 0 2 rfl e_109_0)) i13 i37a ((in_c 0 rfl)); have oc := oc_283_109; omega, by rw [← e3x16]; have a0 := oa5 i3x8 ((inv_F hI 0 2 rfl e_109_0)) i13 i37a ((in_c 0 rfl)); have oc := oc_283_109; omega⟩, (by rw [← e_109_9]; have a0 := oa5 i3x8 ((inv_F hI 0 2 rfl e_109_0)) i13 i37a ((in_c 0 rfl)); have oc := oc_283_109; omega), (by rw [← e_109_9]; have a0 := oa5 i3x8 ((inv_F hI 0 2 rfl e_109_0)) i13 i37a ((in_c 0 rfl)); have oc := oc_283_109; omega), (by have hm := (p37b).2.2.1 rfl; rw [hm, gvR_cg (L := ([], [], [(109, 0)], [])) (fr_sF rfl fr_rf) rfl] <;> rfl)⟩)
                  have n44a : LGX s s37 (Int32.ofInt 2) x1 (Int32.ofInt 0) (Int32.ofInt 0) (Int32.ofInt 0) (Int32.ofInt 0) (Int32.ofInt 0) := by exact Or.inr p37c
                  have n44b : GSE s → GSE s37 := by exact fun _ => p37d
                  have n44c : G1S s s37 := by exact p37e
                  exact g_ireturn (gd rfl) rfl rfl (hP _ _ ⟨s37, hI37, (fr_tr rfl (fr_sF rfl fr_rf) hF37), z37a, rfl, rfl, in_w 0 4000 i37a rfl, n44, n44a, n44b, n44c⟩)
                · skip
                  exact zn_ne c24 (in_c 0 rfl) rfl
              · skip
                exact zn_gt c21x25 (in_c 0 rfl) rfl
            · skip
              exact zn_eq c21x10 (in_c 1 rfl) rfl
          · skip
            exact zn_eq c21x2 (in_c 1 rfl) rfl
