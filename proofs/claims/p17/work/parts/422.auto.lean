section
/-! methods, by vc.py -/
def fm_198_49_2 : FM := ([9, 10, 11, 12, 13, 14, 15], [50], [(2, 4), (49, 0), (49, 1), (49, 2)], [])
/-- GraphHouse$Ways.measure -/
theorem k_198_49_2 {Z : AmZ} {A : Nat → Nat} {s : GS} {ex : va_W} {d : Nat} {X : AmX} {x2 : Int32} (hd : 5 ≤ d) (hI : Inv s) (h2 : In x2 0 31) : GC Z d 198 [.ref (A 49), .ref (A 2), .int x2] (WW Z A s ++ ex) 0 0 (fun v u => ∃ t : GS, Inv t ∧ Fr fm_198_49_2 s t ∧ v = none ∧ u = WW Z A t ++ ex) X := by
  intro post xp hP hX
  obtain ⟨u_2_0, e_2_0⟩ : ∃ w, w = s.2.2.1 2 0 := ⟨_, rfl⟩
  have ro_2_0 := inv_F hI 0 4000 rfl e_2_0
  obtain ⟨u_2_1, e_2_1⟩ : ∃ w, w = s.2.2.1 2 1 := ⟨_, rfl⟩
  have ro_2_1 := inv_F hI 0 32 rfl e_2_1
  have ct61 : ∀ (k61 : Nat) (sc61 : GS) (y61_3 : Int32) (y61_4 : Int32) (w61_2_4 : Int32) (w61_2_0 : Int32), Inv sc61 → Fr fm_198_49_2 s sc61 → (In y61_4 0 32) → (w61_2_4 = sc61.2.2.1 2 4) → (w61_2_0 = sc61.2.2.1 2 0) → ((w61_2_4).toInt = (w61_2_0).toInt) → 32 - (y61_4).toInt < (k61 : Int) → GG Z (d - 1) 198 post (gx xp) (1 + k61 * 900) 61 (fun j => xlook j [(0, .ref (A 49)), (1, .ref (A 2)), (2, .int x2), (3, .int y61_3), (4, .int y61_4)]) [] (WW Z A sc61 ++ ex) 0 0 := by
    intro k61
    induction k61 with
    | zero => intro sc61 y61_3 y61_4 w61_2_4 w61_2_0 hIc61 hFc61 j61_4 v61_2_4 v61_2_0 n61_0 mm61; exact m_no mm61 j61_4 rfl
    | succ k61 ih61 =>
      intro sc61 y61_3 y61_4 w61_2_4 w61_2_0 hIc61 hFc61 j61_4 v61_2_4 v61_2_0 n61_0 mm61
      refine gg_w (M := 1 + k61 * 900 + 900) gws ?_
      refine g_iload 63 (gd rfl) rfl rfl ?_
      refine g_aload_n 64 (gd rfl) rfl rfl ?_
      refine g_getI 67 (gd rfl) rfl rfl rfl (fun z64 e64 => ?_)
      have q64 : u_2_1 = z64 := (fr_F e_2_1 hFc61 rfl).trans e64.symm
      subst q64
      refine g_cmp_ge 70 87 (gd rfl) rfl rfl (fun c67 => ?_) (fun c67 => ?_)
      · skip
        refine g_aload_n 88 (gd rfl) rfl rfl ?_
        refine g_iload_n 89 (gd rfl) rfl rfl ?_
        refine g_if_ne 92 96 (gd rfl) rfl rfl (fun c89 => ?_) (fun c89 => ?_)
        · skip
          refine g_aload_n 97 (gd rfl) rfl rfl ?_
          refine g_getA (q2 := 11) 100 (gd rfl) rfl rfl rfl rfl ?_
          refine g_aload_n 101 (gd rfl) rfl rfl ?_
          refine g_aload_n 102 (gd rfl) rfl rfl ?_
          refine g_iload_n 103 (gd rfl) rfl rfl ?_
          have n103 : (w61_2_4).toInt = (w61_2_0).toInt := by first | exact n61_0 | (have a0 := oa5 h2 ro_2_1 ((inv_F hIc61 0 4000 rfl v61_2_0)) ((inv_F hIc61 (-1) 4000 rfl v61_2_4)) j61_4; omega)
          refine g_callv (X := _) (As := [.ref (A 2), .int y61_3]) (r := [.ref (A 11), .ref (A 49)]) (b := A 49) (q := 49) 106 (gd rfl) rfl rfl rfl rfl rfl (ww_o rfl) (Nat.le_of_ble_eq_true rfl) (Nat.zero_le _) (Nat.zero_le _) (k_199_49_2 (by first | exact dq1 hd rfl | exact dq0 hd rfl | exact dq2 hd rfl | exact dq3 hd rfl | omega) hIc61 v61_2_4 v61_2_0 n103) (fun e u h => h) (fun v u h => ?_)
          obtain ⟨s103, hI103, hF103, z103, rfl, rfl, i103⟩ := h
          show GG _ _ _ _ _ _ _ _ [.int z103, .ref (A 11), .ref (A 49)] _ _ _
          refine g_iconst (-1) 107 (gd rfl) rfl rfl ?_
          refine g_calls (As := [.ref (A 11), .int z103, .int (Int32.ofInt (-1))]) (r := [.ref (A 49)]) 110 (gd rfl) rfl rfl rfl rfl rfl (Nat.le_of_ble_eq_true rfl) (Nat.zero_le _) (Nat.zero_le _) (k_266_11 (by first | exact dq1 hd rfl | exact dq0 hd rfl | exact dq2 hd rfl | exact dq3 hd rfl | omega) hI103 (in_w (-1) (-1) (in_c (-1) rfl) rfl)) (fun v u h => ?_)
          obtain ⟨z107, rfl, rfl, i107, p107⟩ := h
          show GG _ _ _ _ _ _ _ _ [.int z107, .ref (A 49)] _ _ _
          refine g_putI 113 (gd rfl) rfl rfl rfl rfl ?_
          have hI110 := inv_sF (q := 49) (j := 2) hI103 rfl (in_w (-2147483648) 2147483647 i107 rfl)
          exact g_return (gd rfl) rfl (hP _ _ ⟨(sF s103 49 2 z107), hI110, (fr_sF rfl (fr_tr rfl hFc61 hF103)), rfl, rfl⟩)
        · skip
          have i89 := z_eq 0 0 c89 (i_rng y61_3) rfl
          refine g_iconst 0 93 (gd rfl) rfl rfl ?_
          refine g_goto 110 (gd rfl) rfl ?_
          refine g_putI 113 (gd rfl) rfl rfl rfl rfl ?_
          have hI110 := inv_sF (q := 49) (j := 2) hIc61 rfl (in_w (-2147483648) 2147483647 (in_c 0 rfl) rfl)
          exact g_return (gd rfl) rfl (hP _ _ ⟨(sF sc61 49 2 (Int32.ofInt 0)), hI110, (fr_sF rfl hFc61), rfl, rfl⟩)
      · skip
        have i67 := r_lt1 0 31 c67 j61_4 ro_2_1 rfl
        have i67a := r_lt2 1 32 c67 j61_4 ro_2_1 rfl
        refine g_iload_n 71 (gd rfl) rfl rfl ?_
        refine g_if_eq 74 87 (gd rfl) rfl rfl (fun c71 => ?_) (fun c71 => ?_)
        · skip
          have i71 := z_eq 0 0 c71 (i_rng y61_3) rfl
          refine g_aload_n 88 (gd rfl) rfl rfl ?_
          refine g_iload_n 89 (gd rfl) rfl rfl ?_
          refine g_if_ne 92 96 (gd rfl) rfl rfl (fun c89 => ?_) (fun c89 => ?_)
          · skip
            exact zn_ne c89 i71 rfl
          · skip
            refine g_iconst 0 93 (gd rfl) rfl rfl ?_
            refine g_goto 110 (gd rfl) rfl ?_
            refine g_putI 113 (gd rfl) rfl rfl rfl rfl ?_
            have hI110 := inv_sF (q := 49) (j := 2) hIc61 rfl (in_w (-2147483648) 2147483647 (in_c 0 rfl) rfl)
            exact g_return (gd rfl) rfl (hP _ _ ⟨(sF sc61 49 2 (Int32.ofInt 0)), hI110, (fr_sF rfl hFc61), rfl, rfl⟩)
        · skip
          refine g_aload_n 75 (gd rfl) rfl rfl ?_
          refine g_aload_n 76 (gd rfl) rfl rfl ?_
          refine g_iload_n 77 (gd rfl) rfl rfl ?_
          have n77 : (w61_2_4).toInt = (w61_2_0).toInt := by first | exact n61_0 | (have a0 := oa5 h2 i67a ((inv_F hIc61 0 4000 rfl v61_2_0)) ((inv_F hIc61 (-1) 4000 rfl v61_2_4)) i67; omega)
          refine g_callv (X := _) (As := [.ref (A 2), .int y61_3]) (r := []) (b := A 49) (q := 49) 80 (gd rfl) rfl rfl rfl rfl rfl (ww_o rfl) (Nat.le_of_ble_eq_true rfl) (Nat.zero_le _) (Nat.zero_le _) (k_199_49_2 (by first | exact dq1 hd rfl | exact dq0 hd rfl | exact dq2 hd rfl | exact dq3 hd rfl | omega) hIc61 v61_2_4 v61_2_0 n77) (fun e u h => h) (fun v u h => ?_)
          obtain ⟨s77, hI77, hF77, z77, rfl, rfl, i77⟩ := h
          show GG _ _ _ _ _ _ _ _ [.int z77] _ _ _
          refine g_istore_n 81 (gd rfl) rfl (Nat.le_of_ble_eq_true rfl) ?_
          refine g_iinc 84 (gd rfl) rfl rfl (Nat.le_of_ble_eq_true rfl) (fun z81 e81 => ?_)
          have i81 := in_add 1 32 e81 i67 (in_c 1 rfl) rfl rfl
          refine g_goto 61 (gd rfl) rfl ?_
          have v61 : w61_2_4 = s77.2.2.1 2 4 := fr_F (v61_2_4) hF77 rfl
          have v61a : w61_2_0 = s77.2.2.1 2 0 := fr_F (v61_2_0) hF77 rfl
          have n61 : (w61_2_4).toInt = (w61_2_0).toInt := by first | exact n61_0 | (have a0 := oa6 h2 i67a ((inv_F hIc61 0 4000 rfl v61_2_0)) ((inv_F hIc61 (-1) 4000 rfl v61_2_4)) i67 i81; have a6 := t_add e81 i67 (in_c 1 rfl) rfl; have a7 := in_u ((in_c 1 rfl)); omega)
          exact gg_w (by first | exact Nat.le_add_right _ _ | exact gw2 | exact gw3 | exact gwe rfl | exact gwf rfl | exact gwg rfl | exact gwh rfl | omega) (gg_f (gf_cons rfl (gf_cons rfl (gf_cons rfl (gf_cons rfl (gf_cons rfl gf_nil))))) (ih61 s77 z77 z81 w61_2_4 w61_2_0 hI77 (fr_tr rfl hFc61 hF77) (in_w 0 32 i81 rfl) v61 v61a n61 (m_up mm61 (t_add e81 i67 (in_c 1 rfl) rfl) (in_w 1 1 (in_c 1 rfl) rfl))))
  refine g_enter2 (k := 198) (N := 30601) (by first | exact dq1 hd rfl | exact dq0 hd rfl | exact dq2 hd rfl | exact dq3 hd rfl | omega) rfl (Nat.le_of_ble_eq_true rfl) ?_
  refine g_aload_n 1 (gd rfl) rfl rfl ?_
  refine g_callv (X := _) (As := []) (r := []) (b := A 2) (q := 2) 4 (gd rfl) rfl rfl rfl rfl rfl (ww_o rfl) (Nat.le_of_ble_eq_true rfl) (Nat.zero_le _) (Nat.zero_le _) (k_106_2 (by first | exact dq1 hd rfl | exact dq0 hd rfl | exact dq2 hd rfl | exact dq3 hd rfl | omega) hI ) (fun e u h => h) (fun v u h => ?_)
  obtain ⟨s1, hI1, hF1, n1, rfl, rfl⟩ := h
  obtain ⟨z1a, e1⟩ : ∃ w, w = s1.2.2.1 2 4 := ⟨_, rfl⟩
  have i1a := inv_F hI1 (-1) 4000 rfl e1
  rw [← (show z1a = s1.2.2.1 2 4 from e1)] at n1
  rw [← (show u_2_0 = s1.2.2.1 2 0 from fr_F (e_2_0) hF1 rfl)] at n1
  show GG _ _ _ _ _ _ _ _ [] _ _ _
  refine g_aload_n 5 (gd rfl) rfl rfl ?_
  refine g_getI 8 (gd rfl) rfl rfl rfl (fun z5 e5 => ?_)
  have i5 := inv_F hI1 (-1) 4000 rfl e5
  refine g_aload_n 9 (gd rfl) rfl rfl ?_
  refine g_getI 12 (gd rfl) rfl rfl rfl (fun z9 e9 => ?_)
  have q9 : u_2_0 = z9 := (fr_F (e_2_0) hF1 rfl).trans e9.symm
  subst q9
  refine g_cmp_ne 15 24 (gd rfl) rfl rfl (fun c12 => ?_) (fun c12 => ?_)
  · skip
    refine g_aload_n 25 (gd rfl) rfl rfl ?_
    refine g_aload_n 26 (gd rfl) rfl rfl ?_
    refine g_getI 29 (gd rfl) rfl rfl rfl (fun z26 e26 => ?_)
    have q26 : u_2_0 = z26 := (fr_F (e_2_0) hF1 rfl).trans e26.symm
    subst q26
    refine g_putI 32 (gd rfl) rfl rfl rfl rfl ?_
    have hI29 := inv_sF (q := 49) (j := 0) hI1 rfl (in_w (-1) 4000 ro_2_0 rfl)
    refine g_aload_n 33 (gd rfl) rfl rfl ?_
    refine g_iload_n 34 (gd rfl) rfl rfl ?_
    refine g_putI 37 (gd rfl) rfl rfl rfl rfl ?_
    have hI34 := inv_sF (q := 49) (j := 1) hI29 rfl (in_w 0 31 h2 rfl)
    refine g_aload_n 38 (gd rfl) rfl rfl ?_
    refine g_getA (q2 := 50) 41 (gd rfl) rfl rfl rfl rfl ?_
    refine g_ldc2_w 9223372036854775807 44 (gd rfl) rfl rfl ?_
    refine g_calls (As := [.ref (A 50), .long (Int64.ofInt 9223372036854775807)]) (r := []) 47 (gd rfl) rfl rfl rfl rfl rfl (Nat.le_of_ble_eq_true rfl) (Nat.zero_le _) (Nat.zero_le _) (k_fillL 50 (by first | exact dq1 hd rfl | exact dq0 hd rfl | exact dq2 hd rfl | exact dq3 hd rfl | omega) hI34 (n := 32) rfl rfl rfl (l_rng (Int64.ofInt 9223372036854775807))) (fun v u h => ?_)
    obtain ⟨s44, hI44, hF44, rfl, rfl, fl44⟩ := h
    show GG _ _ _ _ _ _ _ _ [] _ _ _
    refine g_aload_n 48 (gd rfl) rfl rfl ?_
    refine g_getA (q2 := 50) 51 (gd rfl) rfl rfl rfl rfl ?_
    refine g_iload_n 52 (gd rfl) rfl rfl ?_
    refine g_lconst 0 53 (gd rfl) rfl rfl ?_
    refine g_lastore 54 (gd rfl) rfl (n := 32) rfl (in_ix h2 rfl) ?_
    have hI53 := inv_sL (q := 50) (j := x2.toNatClampNeg) (x := (Int64.ofInt 0)) hI44 rfl (l_rng (Int64.ofInt 0))
    refine g_iconst 1 55 (gd rfl) rfl rfl ?_
    refine g_iload_n 56 (gd rfl) rfl rfl ?_
    refine g_ishl 57 (gd rfl) rfl (fun z56 e56 => ?_)
    refine g_istore_n 58 (gd rfl) rfl (Nat.le_of_ble_eq_true rfl) ?_
    refine g_iconst 0 59 (gd rfl) rfl rfl ?_
    refine g_istore 61 (gd rfl) rfl (Nat.le_of_ble_eq_true rfl) ?_
    have v61 : z1a = (sL s44 50 x2.toNatClampNeg (Int64.ofInt 0)).2.2.1 2 4 := sL_F (fr_F (s := (sF (sF s1 49 0 u_2_0) 49 1 x2)) (sF_ne rfl (sF_ne rfl (e1))) hF44 rfl)
    have v61a : u_2_0 = (sL s44 50 x2.toNatClampNeg (Int64.ofInt 0)).2.2.1 2 0 := sL_F (fr_F (s := (sF (sF s1 49 0 u_2_0) 49 1 x2)) (sF_ne rfl (sF_ne rfl (fr_F (e_2_0) hF1 rfl))) hF44 rfl)
    have n61 : (z1a).toInt = (u_2_0).toInt := by have a0 := oa5 ro_2_1 ro_2_0 h2 ((in_c 0 rfl)) i1a; omega
    exact gg_w (by first | exact Nat.le_of_ble_eq_true rfl | omega) (gg_f (gf_cons rfl (gf_cons rfl (gf_cons rfl (gf_cons rfl (gf_cons rfl gf_nil))))) (ct61 33 (sL s44 50 x2.toNatClampNeg (Int64.ofInt 0)) z56 (Int32.ofInt 0) z1a u_2_0 hI53 (fr_sL rfl (fr_tr rfl (fr_sF rfl (fr_sF rfl (fr_tr rfl fr_rf hF1))) hF44)) (in_w 0 32 (in_c 0 rfl) rfl) v61 v61a n61 (m_in 33 (in_w 0 32 (in_c 0 rfl) rfl) rfl)))
  · skip
    have i12 := r_eq1 0 4000 c12 i5 ro_2_0 rfl
    refine g_aload_n 16 (gd rfl) rfl rfl ?_
    refine g_getI 19 (gd rfl) rfl rfl rfl (fun z16 e16 => ?_)
    have i16 := inv_F hI1 0 31 rfl e16
    refine g_iload_n 20 (gd rfl) rfl rfl ?_
    refine g_cmp_ne 23 24 (gd rfl) rfl rfl (fun c20 => ?_) (fun c20 => ?_)
    · skip
      refine g_aload_n 25 (gd rfl) rfl rfl ?_
      refine g_aload_n 26 (gd rfl) rfl rfl ?_
      refine g_getI 29 (gd rfl) rfl rfl rfl (fun z26 e26 => ?_)
      have q26 : u_2_0 = z26 := (fr_F (e_2_0) hF1 rfl).trans e26.symm
      subst q26
      refine g_putI 32 (gd rfl) rfl rfl rfl rfl ?_
      have hI29 := inv_sF (q := 49) (j := 0) hI1 rfl (in_w (-1) 4000 ro_2_0 rfl)
      refine g_aload_n 33 (gd rfl) rfl rfl ?_
      refine g_iload_n 34 (gd rfl) rfl rfl ?_
      refine g_putI 37 (gd rfl) rfl rfl rfl rfl ?_
      have hI34 := inv_sF (q := 49) (j := 1) hI29 rfl (in_w 0 31 h2 rfl)
      refine g_aload_n 38 (gd rfl) rfl rfl ?_
      refine g_getA (q2 := 50) 41 (gd rfl) rfl rfl rfl rfl ?_
      refine g_ldc2_w 9223372036854775807 44 (gd rfl) rfl rfl ?_
      refine g_calls (As := [.ref (A 50), .long (Int64.ofInt 9223372036854775807)]) (r := []) 47 (gd rfl) rfl rfl rfl rfl rfl (Nat.le_of_ble_eq_true rfl) (Nat.zero_le _) (Nat.zero_le _) (k_fillL 50 (by first | exact dq1 hd rfl | exact dq0 hd rfl | exact dq2 hd rfl | exact dq3 hd rfl | omega) hI34 (n := 32) rfl rfl rfl (l_rng (Int64.ofInt 9223372036854775807))) (fun v u h => ?_)
      obtain ⟨s44, hI44, hF44, rfl, rfl, fl44⟩ := h
      show GG _ _ _ _ _ _ _ _ [] _ _ _
      refine g_aload_n 48 (gd rfl) rfl rfl ?_
      refine g_getA (q2 := 50) 51 (gd rfl) rfl rfl rfl rfl ?_
      refine g_iload_n 52 (gd rfl) rfl rfl ?_
      refine g_lconst 0 53 (gd rfl) rfl rfl ?_
      refine g_lastore 54 (gd rfl) rfl (n := 32) rfl (in_ix h2 rfl) ?_
      have hI53 := inv_sL (q := 50) (j := x2.toNatClampNeg) (x := (Int64.ofInt 0)) hI44 rfl (l_rng (Int64.ofInt 0))
      refine g_iconst 1 55 (gd rfl) rfl rfl ?_
      refine g_iload_n 56 (gd rfl) rfl rfl ?_
      refine g_ishl 57 (gd rfl) rfl (fun z56 e56 => ?_)
      refine g_istore_n 58 (gd rfl) rfl (Nat.le_of_ble_eq_true rfl) ?_
      refine g_iconst 0 59 (gd rfl) rfl rfl ?_
      refine g_istore 61 (gd rfl) rfl (Nat.le_of_ble_eq_true rfl) ?_
      have v61 : z1a = (sL s44 50 x2.toNatClampNeg (Int64.ofInt 0)).2.2.1 2 4 := sL_F (fr_F (s := (sF (sF s1 49 0 u_2_0) 49 1 x2)) (sF_ne rfl (sF_ne rfl (e1))) hF44 rfl)
      have v61a : u_2_0 = (sL s44 50 x2.toNatClampNeg (Int64.ofInt 0)).2.2.1 2 0 := sL_F (fr_F (s := (sF (sF s1 49 0 u_2_0) 49 1 x2)) (sF_ne rfl (sF_ne rfl (fr_F (e_2_0) hF1 rfl))) hF44 rfl)
      have n61 : (z1a).toInt = (u_2_0).toInt := by have a0 := oa5 ro_2_1 ro_2_0 h2 ((in_c 0 rfl)) i1a; omega
      exact gg_w (by first | exact Nat.le_of_ble_eq_true rfl | omega) (gg_f (gf_cons rfl (gf_cons rfl (gf_cons rfl (gf_cons rfl (gf_cons rfl gf_nil))))) (ct61 33 (sL s44 50 x2.toNatClampNeg (Int64.ofInt 0)) z56 (Int32.ofInt 0) z1a u_2_0 hI53 (fr_sL rfl (fr_tr rfl (fr_sF rfl (fr_sF rfl (fr_tr rfl fr_rf hF1))) hF44)) (in_w 0 32 (in_c 0 rfl) rfl) v61 v61a n61 (m_in 33 (in_w 0 32 (in_c 0 rfl) rfl) rfl)))
    · skip
      exact g_return (gd rfl) rfl (hP _ _ ⟨s1, hI1, (fr_tr rfl fr_rf hF1), rfl, rfl⟩)

def fm_198_49_32 : FM := ([39, 40, 41, 42, 43, 44, 45], [50], [(32, 4), (49, 0), (49, 1), (49, 2)], [])
/-- GraphHouse$Ways.measure -/
theorem k_198_49_32 {Z : AmZ} {A : Nat → Nat} {s : GS} {ex : va_W} {d : Nat} {X : AmX} {x2 : Int32} (hd : 5 ≤ d) (hI : Inv s) (h2 : In x2 0 31) : GC Z d 198 [.ref (A 49), .ref (A 32), .int x2] (WW Z A s ++ ex) 0 0 (fun v u => ∃ t : GS, Inv t ∧ Fr fm_198_49_32 s t ∧ v = none ∧ u = WW Z A t ++ ex) X := by
  intro post xp hP hX
  obtain ⟨u_32_0, e_32_0⟩ : ∃ w, w = s.2.2.1 32 0 := ⟨_, rfl⟩
  have ro_32_0 := inv_F hI 0 4000 rfl e_32_0
  obtain ⟨u_32_1, e_32_1⟩ : ∃ w, w = s.2.2.1 32 1 := ⟨_, rfl⟩
  have ro_32_1 := inv_F hI 0 32 rfl e_32_1
  have ct61 : ∀ (k61 : Nat) (sc61 : GS) (y61_3 : Int32) (y61_4 : Int32) (w61_32_4 : Int32) (w61_32_0 : Int32), Inv sc61 → Fr fm_198_49_32 s sc61 → (In y61_4 0 32) → (w61_32_4 = sc61.2.2.1 32 4) → (w61_32_0 = sc61.2.2.1 32 0) → ((w61_32_4).toInt = (w61_32_0).toInt) → 32 - (y61_4).toInt < (k61 : Int) → GG Z (d - 1) 198 post (gx xp) (1 + k61 * 900) 61 (fun j => xlook j [(0, .ref (A 49)), (1, .ref (A 32)), (2, .int x2), (3, .int y61_3), (4, .int y61_4)]) [] (WW Z A sc61 ++ ex) 0 0 := by
    intro k61
    induction k61 with
    | zero => intro sc61 y61_3 y61_4 w61_32_4 w61_32_0 hIc61 hFc61 j61_4 v61_32_4 v61_32_0 n61_0 mm61; exact m_no mm61 j61_4 rfl
    | succ k61 ih61 =>
      intro sc61 y61_3 y61_4 w61_32_4 w61_32_0 hIc61 hFc61 j61_4 v61_32_4 v61_32_0 n61_0 mm61
      refine gg_w (M := 1 + k61 * 900 + 900) gws ?_
      refine g_iload 63 (gd rfl) rfl rfl ?_
      refine g_aload_n 64 (gd rfl) rfl rfl ?_
      refine g_getI 67 (gd rfl) rfl rfl rfl (fun z64 e64 => ?_)
      have q64 : u_32_1 = z64 := (fr_F e_32_1 hFc61 rfl).trans e64.symm
      subst q64
      refine g_cmp_ge 70 87 (gd rfl) rfl rfl (fun c67 => ?_) (fun c67 => ?_)
      · skip
        refine g_aload_n 88 (gd rfl) rfl rfl ?_
        refine g_iload_n 89 (gd rfl) rfl rfl ?_
        refine g_if_ne 92 96 (gd rfl) rfl rfl (fun c89 => ?_) (fun c89 => ?_)
        · skip
          refine g_aload_n 97 (gd rfl) rfl rfl ?_
          refine g_getA (q2 := 41) 100 (gd rfl) rfl rfl rfl rfl ?_
          refine g_aload_n 101 (gd rfl) rfl rfl ?_
          refine g_aload_n 102 (gd rfl) rfl rfl ?_
          refine g_iload_n 103 (gd rfl) rfl rfl ?_
          have n103 : (w61_32_4).toInt = (w61_32_0).toInt := by first | exact n61_0 | (have a0 := oa5 h2 ro_32_1 ((inv_F hIc61 0 4000 rfl v61_32_0)) ((inv_F hIc61 (-1) 4000 rfl v61_32_4)) j61_4; omega)
          refine g_callv (X := _) (As := [.ref (A 32), .int y61_3]) (r := [.ref (A 41), .ref (A 49)]) (b := A 49) (q := 49) 106 (gd rfl) rfl rfl rfl rfl rfl (ww_o rfl) (Nat.le_of_ble_eq_true rfl) (Nat.zero_le _) (Nat.zero_le _) (k_199_49_32 (by first | exact dq1 hd rfl | exact dq0 hd rfl | exact dq2 hd rfl | exact dq3 hd rfl | omega) hIc61 v61_32_4 v61_32_0 n103) (fun e u h => h) (fun v u h => ?_)
          obtain ⟨s103, hI103, hF103, z103, rfl, rfl, i103⟩ := h
          show GG _ _ _ _ _ _ _ _ [.int z103, .ref (A 41), .ref (A 49)] _ _ _
          refine g_iconst (-1) 107 (gd rfl) rfl rfl ?_
          refine g_calls (As := [.ref (A 41), .int z103, .int (Int32.ofInt (-1))]) (r := [.ref (A 49)]) 110 (gd rfl) rfl rfl rfl rfl rfl (Nat.le_of_ble_eq_true rfl) (Nat.zero_le _) (Nat.zero_le _) (k_266_41 (by first | exact dq1 hd rfl | exact dq0 hd rfl | exact dq2 hd rfl | exact dq3 hd rfl | omega) hI103 (in_w (-1) (-1) (in_c (-1) rfl) rfl)) (fun v u h => ?_)
          obtain ⟨z107, rfl, rfl, i107, p107⟩ := h
          show GG _ _ _ _ _ _ _ _ [.int z107, .ref (A 49)] _ _ _
          refine g_putI 113 (gd rfl) rfl rfl rfl rfl ?_
          have hI110 := inv_sF (q := 49) (j := 2) hI103 rfl (in_w (-2147483648) 2147483647 i107 rfl)
          exact g_return (gd rfl) rfl (hP _ _ ⟨(sF s103 49 2 z107), hI110, (fr_sF rfl (fr_tr rfl hFc61 hF103)), rfl, rfl⟩)
        · skip
          have i89 := z_eq 0 0 c89 (i_rng y61_3) rfl
          refine g_iconst 0 93 (gd rfl) rfl rfl ?_
          refine g_goto 110 (gd rfl) rfl ?_
          refine g_putI 113 (gd rfl) rfl rfl rfl rfl ?_
          have hI110 := inv_sF (q := 49) (j := 2) hIc61 rfl (in_w (-2147483648) 2147483647 (in_c 0 rfl) rfl)
          exact g_return (gd rfl) rfl (hP _ _ ⟨(sF sc61 49 2 (Int32.ofInt 0)), hI110, (fr_sF rfl hFc61), rfl, rfl⟩)
      · skip
        have i67 := r_lt1 0 31 c67 j61_4 ro_32_1 rfl
        have i67a := r_lt2 1 32 c67 j61_4 ro_32_1 rfl
        refine g_iload_n 71 (gd rfl) rfl rfl ?_
        refine g_if_eq 74 87 (gd rfl) rfl rfl (fun c71 => ?_) (fun c71 => ?_)
        · skip
          have i71 := z_eq 0 0 c71 (i_rng y61_3) rfl
          refine g_aload_n 88 (gd rfl) rfl rfl ?_
          refine g_iload_n 89 (gd rfl) rfl rfl ?_
          refine g_if_ne 92 96 (gd rfl) rfl rfl (fun c89 => ?_) (fun c89 => ?_)
          · skip
            exact zn_ne c89 i71 rfl
          · skip
            refine g_iconst 0 93 (gd rfl) rfl rfl ?_
            refine g_goto 110 (gd rfl) rfl ?_
            refine g_putI 113 (gd rfl) rfl rfl rfl rfl ?_
            have hI110 := inv_sF (q := 49) (j := 2) hIc61 rfl (in_w (-2147483648) 2147483647 (in_c 0 rfl) rfl)
            exact g_return (gd rfl) rfl (hP _ _ ⟨(sF sc61 49 2 (Int32.ofInt 0)), hI110, (fr_sF rfl hFc61), rfl, rfl⟩)
        · skip
          refine g_aload_n 75 (gd rfl) rfl rfl ?_
          refine g_aload_n 76 (gd rfl) rfl rfl ?_
          refine g_iload_n 77 (gd rfl) rfl rfl ?_
          have n77 : (w61_32_4).toInt = (w61_32_0).toInt := by first | exact n61_0 | (have a0 := oa5 h2 i67a ((inv_F hIc61 0 4000 rfl v61_32_0)) ((inv_F hIc61 (-1) 4000 rfl v61_32_4)) i67; omega)
          refine g_callv (X := _) (As := [.ref (A 32), .int y61_3]) (r := []) (b := A 49) (q := 49) 80 (gd rfl) rfl rfl rfl rfl rfl (ww_o rfl) (Nat.le_of_ble_eq_true rfl) (Nat.zero_le _) (Nat.zero_le _) (k_199_49_32 (by first | exact dq1 hd rfl | exact dq0 hd rfl | exact dq2 hd rfl | exact dq3 hd rfl | omega) hIc61 v61_32_4 v61_32_0 n77) (fun e u h => h) (fun v u h => ?_)
          obtain ⟨s77, hI77, hF77, z77, rfl, rfl, i77⟩ := h
          show GG _ _ _ _ _ _ _ _ [.int z77] _ _ _
          refine g_istore_n 81 (gd rfl) rfl (Nat.le_of_ble_eq_true rfl) ?_
          refine g_iinc 84 (gd rfl) rfl rfl (Nat.le_of_ble_eq_true rfl) (fun z81 e81 => ?_)
          have i81 := in_add 1 32 e81 i67 (in_c 1 rfl) rfl rfl
          refine g_goto 61 (gd rfl) rfl ?_
          have v61 : w61_32_4 = s77.2.2.1 32 4 := fr_F (v61_32_4) hF77 rfl
          have v61a : w61_32_0 = s77.2.2.1 32 0 := fr_F (v61_32_0) hF77 rfl
          have n61 : (w61_32_4).toInt = (w61_32_0).toInt := by first | exact n61_0 | (have a0 := oa6 h2 i67a ((inv_F hIc61 0 4000 rfl v61_32_0)) ((inv_F hIc61 (-1) 4000 rfl v61_32_4)) i67 i81; have a6 := t_add e81 i67 (in_c 1 rfl) rfl; have a7 := in_u ((in_c 1 rfl)); omega)
          exact gg_w (by first | exact Nat.le_add_right _ _ | exact gw2 | exact gw3 | exact gwe rfl | exact gwf rfl | exact gwg rfl | exact gwh rfl | omega) (gg_f (gf_cons rfl (gf_cons rfl (gf_cons rfl (gf_cons rfl (gf_cons rfl gf_nil))))) (ih61 s77 z77 z81 w61_32_4 w61_32_0 hI77 (fr_tr rfl hFc61 hF77) (in_w 0 32 i81 rfl) v61 v61a n61 (m_up mm61 (t_add e81 i67 (in_c 1 rfl) rfl) (in_w 1 1 (in_c 1 rfl) rfl))))
  refine g_enter2 (k := 198) (N := 30601) (by first | exact dq1 hd rfl | exact dq0 hd rfl | exact dq2 hd rfl | exact dq3 hd rfl | omega) rfl (Nat.le_of_ble_eq_true rfl) ?_
  refine g_aload_n 1 (gd rfl) rfl rfl ?_
  refine g_callv (X := _) (As := []) (r := []) (b := A 32) (q := 32) 4 (gd rfl) rfl rfl rfl rfl rfl (ww_o rfl) (Nat.le_of_ble_eq_true rfl) (Nat.zero_le _) (Nat.zero_le _) (k_106_32 (by first | exact dq1 hd rfl | exact dq0 hd rfl | exact dq2 hd rfl | exact dq3 hd rfl | omega) hI ) (fun e u h => h) (fun v u h => ?_)
  obtain ⟨s1, hI1, hF1, n1, rfl, rfl⟩ := h
  obtain ⟨z1a, e1⟩ : ∃ w, w = s1.2.2.1 32 4 := ⟨_, rfl⟩
  have i1a := inv_F hI1 (-1) 4000 rfl e1
  rw [← (show z1a = s1.2.2.1 32 4 from e1)] at n1
  rw [← (show u_32_0 = s1.2.2.1 32 0 from fr_F (e_32_0) hF1 rfl)] at n1
  show GG _ _ _ _ _ _ _ _ [] _ _ _
  refine g_aload_n 5 (gd rfl) rfl rfl ?_
  refine g_getI 8 (gd rfl) rfl rfl rfl (fun z5 e5 => ?_)
  have i5 := inv_F hI1 (-1) 4000 rfl e5
  refine g_aload_n 9 (gd rfl) rfl rfl ?_
  refine g_getI 12 (gd rfl) rfl rfl rfl (fun z9 e9 => ?_)
  have q9 : u_32_0 = z9 := (fr_F (e_32_0) hF1 rfl).trans e9.symm
  subst q9
  refine g_cmp_ne 15 24 (gd rfl) rfl rfl (fun c12 => ?_) (fun c12 => ?_)
  · skip
    refine g_aload_n 25 (gd rfl) rfl rfl ?_
    refine g_aload_n 26 (gd rfl) rfl rfl ?_
    refine g_getI 29 (gd rfl) rfl rfl rfl (fun z26 e26 => ?_)
    have q26 : u_32_0 = z26 := (fr_F (e_32_0) hF1 rfl).trans e26.symm
    subst q26
    refine g_putI 32 (gd rfl) rfl rfl rfl rfl ?_
    have hI29 := inv_sF (q := 49) (j := 0) hI1 rfl (in_w (-1) 4000 ro_32_0 rfl)
    refine g_aload_n 33 (gd rfl) rfl rfl ?_
    refine g_iload_n 34 (gd rfl) rfl rfl ?_
    refine g_putI 37 (gd rfl) rfl rfl rfl rfl ?_
    have hI34 := inv_sF (q := 49) (j := 1) hI29 rfl (in_w 0 31 h2 rfl)
    refine g_aload_n 38 (gd rfl) rfl rfl ?_
    refine g_getA (q2 := 50) 41 (gd rfl) rfl rfl rfl rfl ?_
    refine g_ldc2_w 9223372036854775807 44 (gd rfl) rfl rfl ?_
    refine g_calls (As := [.ref (A 50), .long (Int64.ofInt 9223372036854775807)]) (r := []) 47 (gd rfl) rfl rfl rfl rfl rfl (Nat.le_of_ble_eq_true rfl) (Nat.zero_le _) (Nat.zero_le _) (k_fillL 50 (by first | exact dq1 hd rfl | exact dq0 hd rfl | exact dq2 hd rfl | exact dq3 hd rfl | omega) hI34 (n := 32) rfl rfl rfl (l_rng (Int64.ofInt 9223372036854775807))) (fun v u h => ?_)
    obtain ⟨s44, hI44, hF44, rfl, rfl, fl44⟩ := h
    show GG _ _ _ _ _ _ _ _ [] _ _ _
    refine g_aload_n 48 (gd rfl) rfl rfl ?_
    refine g_getA (q2 := 50) 51 (gd rfl) rfl rfl rfl rfl ?_
    refine g_iload_n 52 (gd rfl) rfl rfl ?_
    refine g_lconst 0 53 (gd rfl) rfl rfl ?_
    refine g_lastore 54 (gd rfl) rfl (n := 32) rfl (in_ix h2 rfl) ?_
    have hI53 := inv_sL (q := 50) (j := x2.toNatClampNeg) (x := (Int64.ofInt 0)) hI44 rfl (l_rng (Int64.ofInt 0))
    refine g_iconst 1 55 (gd rfl) rfl rfl ?_
    refine g_iload_n 56 (gd rfl) rfl rfl ?_
    refine g_ishl 57 (gd rfl) rfl (fun z56 e56 => ?_)
    refine g_istore_n 58 (gd rfl) rfl (Nat.le_of_ble_eq_true rfl) ?_
    refine g_iconst 0 59 (gd rfl) rfl rfl ?_
    refine g_istore 61 (gd rfl) rfl (Nat.le_of_ble_eq_true rfl) ?_
    have v61 : z1a = (sL s44 50 x2.toNatClampNeg (Int64.ofInt 0)).2.2.1 32 4 := sL_F (fr_F (s := (sF (sF s1 49 0 u_32_0) 49 1 x2)) (sF_ne rfl (sF_ne rfl (e1))) hF44 rfl)
    have v61a : u_32_0 = (sL s44 50 x2.toNatClampNeg (Int64.ofInt 0)).2.2.1 32 0 := sL_F (fr_F (s := (sF (sF s1 49 0 u_32_0) 49 1 x2)) (sF_ne rfl (sF_ne rfl (fr_F (e_32_0) hF1 rfl))) hF44 rfl)
    have n61 : (z1a).toInt = (u_32_0).toInt := by have a0 := oa5 ro_32_1 ro_32_0 h2 ((in_c 0 rfl)) i1a; omega
    exact gg_w (by first | exact Nat.le_of_ble_eq_true rfl | omega) (gg_f (gf_cons rfl (gf_cons rfl (gf_cons rfl (gf_cons rfl (gf_cons rfl gf_nil))))) (ct61 33 (sL s44 50 x2.toNatClampNeg (Int64.ofInt 0)) z56 (Int32.ofInt 0) z1a u_32_0 hI53 (fr_sL rfl (fr_tr rfl (fr_sF rfl (fr_sF rfl (fr_tr rfl fr_rf hF1))) hF44)) (in_w 0 32 (in_c 0 rfl) rfl) v61 v61a n61 (m_in 33 (in_w 0 32 (in_c 0 rfl) rfl) rfl)))
  · skip
    have i12 := r_eq1 0 4000 c12 i5 ro_32_0 rfl
    refine g_aload_n 16 (gd rfl) rfl rfl ?_
    refine g_getI 19 (gd rfl) rfl rfl rfl (fun z16 e16 => ?_)
    have i16 := inv_F hI1 0 31 rfl e16
    refine g_iload_n 20 (gd rfl) rfl rfl ?_
    refine g_cmp_ne 23 24 (gd rfl) rfl rfl (fun c20 => ?_) (fun c20 => ?_)
    · skip
      refine g_aload_n 25 (gd rfl) rfl rfl ?_
      refine g_aload_n 26 (gd rfl) rfl rfl ?_
      refine g_getI 29 (gd rfl) rfl rfl rfl (fun z26 e26 => ?_)
      have q26 : u_32_0 = z26 := (fr_F (e_32_0) hF1 rfl).trans e26.symm
      subst q26
      refine g_putI 32 (gd rfl) rfl rfl rfl rfl ?_
      have hI29 := inv_sF (q := 49) (j := 0) hI1 rfl (in_w (-1) 4000 ro_32_0 rfl)
      refine g_aload_n 33 (gd rfl) rfl rfl ?_
      refine g_iload_n 34 (gd rfl) rfl rfl ?_
      refine g_putI 37 (gd rfl) rfl rfl rfl rfl ?_
      have hI34 := inv_sF (q := 49) (j := 1) hI29 rfl (in_w 0 31 h2 rfl)
      refine g_aload_n 38 (gd rfl) rfl rfl ?_
      refine g_getA (q2 := 50) 41 (gd rfl) rfl rfl rfl rfl ?_
      refine g_ldc2_w 9223372036854775807 44 (gd rfl) rfl rfl ?_
      refine g_calls (As := [.ref (A 50), .long (Int64.ofInt 9223372036854775807)]) (r := []) 47 (gd rfl) rfl rfl rfl rfl rfl (Nat.le_of_ble_eq_true rfl) (Nat.zero_le _) (Nat.zero_le _) (k_fillL 50 (by first | exact dq1 hd rfl | exact dq0 hd rfl | exact dq2 hd rfl | exact dq3 hd rfl | omega) hI34 (n := 32) rfl rfl rfl (l_rng (Int64.ofInt 9223372036854775807))) (fun v u h => ?_)
      obtain ⟨s44, hI44, hF44, rfl, rfl, fl44⟩ := h
      show GG _ _ _ _ _ _ _ _ [] _ _ _
      refine g_aload_n 48 (gd rfl) rfl rfl ?_
      refine g_getA (q2 := 50) 51 (gd rfl) rfl rfl rfl rfl ?_
      refine g_iload_n 52 (gd rfl) rfl rfl ?_
      refine g_lconst 0 53 (gd rfl) rfl rfl ?_
      refine g_lastore 54 (gd rfl) rfl (n := 32) rfl (in_ix h2 rfl) ?_
      have hI53 := inv_sL (q := 50) (j := x2.toNatClampNeg) (x := (Int64.ofInt 0)) hI44 rfl (l_rng (Int64.ofInt 0))
      refine g_iconst 1 55 (gd rfl) rfl rfl ?_
      refine g_iload_n 56 (gd rfl) rfl rfl ?_
      refine g_ishl 57 (gd rfl) rfl (fun z56 e56 => ?_)
      refine g_istore_n 58 (gd rfl) rfl (Nat.le_of_ble_eq_true rfl) ?_
      refine g_iconst 0 59 (gd rfl) rfl rfl ?_
      refine g_istore 61 (gd rfl) rfl (Nat.le_of_ble_eq_true rfl) ?_
      have v61 : z1a = (sL s44 50 x2.toNatClampNeg (Int64.ofInt 0)).2.2.1 32 4 := sL_F (fr_F (s := (sF (sF s1 49 0 u_32_0) 49 1 x2)) (sF_ne rfl (sF_ne rfl (e1))) hF44 rfl)
      have v61a : u_32_0 = (sL s44 50 x2.toNatClampNeg (Int64.ofInt 0)).2.2.1 32 0 := sL_F (fr_F (s := (sF (sF s1 49 0 u_32_0) 49 1 x2)) (sF_ne rfl (sF_ne rfl (fr_F (e_32_0) hF1 rfl))) hF44 rfl)
      have n61 : (z1a).toInt = (u_32_0).toInt := by have a0 := oa5 ro_32_1 ro_32_0 h2 ((in_c 0 rfl)) i1a; omega
      exact gg_w (by first | exact Nat.le_of_ble_eq_true rfl | omega) (gg_f (gf_cons rfl (gf_cons rfl (gf_cons rfl (gf_cons rfl (gf_cons rfl gf_nil))))) (ct61 33 (sL s44 50 x2.toNatClampNeg (Int64.ofInt 0)) z56 (Int32.ofInt 0) z1a u_32_0 hI53 (fr_sL rfl (fr_tr rfl (fr_sF rfl (fr_sF rfl (fr_tr rfl fr_rf hF1))) hF44)) (in_w 0 32 (in_c 0 rfl) rfl) v61 v61a n61 (m_in 33 (in_w 0 32 (in_c 0 rfl) rfl) rfl)))
    · skip
      exact g_return (gd rfl) rfl (hP _ _ ⟨s1, hI1, (fr_tr rfl fr_rf hF1), rfl, rfl⟩)

def fm_200_49_2 : FM := ([9, 10, 11, 12, 13, 14, 15, 51], [], [(2, 4)], [])
/-- GraphHouse$Ways.widest -/
theorem k_200_49_2 {Z : AmZ} {A : Nat → Nat} {s : GS} {ex : va_W} {d : Nat} {X : AmX} {x2 : Int32} {x3 : Int32} (hd : 5 ≤ d) (hI : Inv s) (h2 : In x2 0 31) (h3 : In x3 0 31) : GC Z d 200 [.ref (A 49), .ref (A 2), .int x2, .int x3] (WW Z A s ++ ex) 0 0 (fun v u => ∃ t : GS, Inv t ∧ Fr fm_200_49_2 s t ∧ ∃ z : Int32, v = some (.int z) ∧ u = WW Z A t ++ ex ∧ In z (-1) 1000001) X := by
  intro post xp hP hX
  obtain ⟨u_2_1, e_2_1⟩ : ∃ w, w = s.2.2.1 2 1 := ⟨_, rfl⟩
  have ro_2_1 := inv_F hI 0 32 rfl e_2_1
  have ct29 : ∀ (k29 : Nat) (sc29 : GS) (y29_4 : Int32) (y29_5 : Int32), Inv sc29 → Fr fm_200_49_2 s sc29 → (In y29_5 0 32) → ((cb y29_4 : Int) = (u_2_1).toInt - (y29_5).toInt) → 32 - (y29_5).toInt < (k29 : Int) → GG Z (d - 1) 200 post (gx xp) (1 + k29 * 147601) 29 (fun j => xlook j [(0, .ref (A 49)), (1, .ref (A 2)), (2, .int x2), (3, .int x3), (4, .int y29_4), (5, .int y29_5)]) [] (WW Z A sc29 ++ ex) 0 0 := by
    intro k29
    induction k29 with
    | zero => intro sc29 y29_4 y29_5 hIc29 hFc29 j29_5 g29_0 mm29; exact m_no mm29 j29_5 rfl
    | succ k29 ih29 =>
      intro sc29 y29_4 y29_5 hIc29 hFc29 j29_5 g29_0 mm29
      refine gg_w (M := 1 + k29 * 147601 + 147601) gws ?_
      have ct90 : ∀ (k90 : Nat) (sc90 : GS) (y90_4 : Int32) (y90_6 : Int32) (y90_7 : Int32), Inv sc90 → Fr fm_200_49_2 s sc90 → (In y29_5 0 31) → (In y90_6 0 31) → (In y90_7 0 160) → ((cb y90_4 : Int) = (u_2_1).toInt - (y29_5).toInt - 1) → 160 - (y90_7).toInt < (k90 : Int) → GG Z (d - 1) 200 post (gx xp) (1 + k29 * 147601 + 1 + k90 * 900) 90 (fun j => xlook j [(0, .ref (A 49)), (1, .ref (A 2)), (2, .int x2), (3, .int x3), (4, .int y90_4), (5, .int y29_5), (6, .int y90_6), (7, .int y90_7)]) [] (WW Z A sc90 ++ ex) 0 0 := by
        intro k90
        induction k90 with
        | zero => intro sc90 y90_4 y90_6 y90_7 hIc90 hFc90 j90_5 j90_6 j90_7 g90_0 mm90; exact m_no mm90 j90_7 rfl
        | succ k90 ih90 =>
          intro sc90 y90_4 y90_6 y90_7 hIc90 hFc90 j90_5 j90_6 j90_7 g90_0 mm90
          refine gg_w (M := 1 + k29 * 147601 + 1 + k90 * 900 + 900) gws ?_
          refine g_iload 92 (gd rfl) rfl rfl ?_
          refine g_aload_n 93 (gd rfl) rfl rfl ?_
          refine g_getA (q2 := 12) 96 (gd rfl) rfl rfl rfl rfl ?_
          refine g_iload 98 (gd rfl) rfl rfl ?_
          refine g_iconst 1 99 (gd rfl) rfl rfl ?_
          refine g_iadd 100 (gd rfl) rfl (fun z99 e99 => ?_)
          have i99 := in_add 1 32 e99 j90_6 (in_c 1 rfl) rfl rfl
          refine g_iaload 101 (gd rfl) rfl (n := 33) rfl (in_ix i99 rfl) (fun z100 e100 => ?_)
          have i100 := inv_I hIc90 (n := 33) (t := 0) 0 160 rfl (in_ix i99 rfl) rfl e100
          refine g_cmp_ge 104 163 (gd rfl) rfl rfl (fun c101 => ?_) (fun c101 => ?_)
          · skip
            refine g_iinc 166 (gd rfl) rfl rfl (Nat.le_of_ble_eq_true rfl) (fun z163 e163 => ?_)
            have i163 := in_add 1 32 e163 j90_5 (in_c 1 rfl) rfl rfl
            refine g_goto 29 (gd rfl) rfl ?_
            have n29 : (cb y90_4 : Int) = (u_2_1).toInt - (z163).toInt := by first | (have hcb := cb_m1; have a0 := oa7 j90_5 h3 h2 ro_2_1 j90_7 j90_6 i163; have a7 := t_add e163 j90_5 (in_c 1 rfl) rfl; have a8 := oa2 ((in_c 1 rfl)) i99; have a10 := t_add e99 j90_6 (in_c 1 rfl) rfl; omega) | (have hcb := cb_all e21x18 e21x20 ‹_›; have a0 := oa7 j90_5 h3 h2 ro_2_1 j90_7 j90_6 i163; have a7 := t_add e163 j90_5 (in_c 1 rfl) rfl; have a8 := oa2 ((in_c 1 rfl)) i99; have a10 := t_add e99 j90_6 (in_c 1 rfl) rfl; omega) | (have a0 := oa7 j90_5 h3 h2 ro_2_1 j90_7 j90_6 i163; have a7 := t_add e163 j90_5 (in_c 1 rfl) rfl; have a8 := oa2 ((in_c 1 rfl)) i99; have a10 := t_add e99 j90_6 (in_c 1 rfl) rfl; omega)
            exact gg_w (by first | exact Nat.le_add_right _ _ | exact gw2 | exact gw3 | exact gwe rfl | exact gwf rfl | exact gwg rfl | exact gwh rfl | omega) (gg_f (gf_cons rfl (gf_cons rfl (gf_cons rfl (gf_cons rfl (gf_cons rfl (gf_cons rfl gf_nil)))))) (ih29 sc90 y90_4 z163 hIc90 hFc90 (in_w 0 32 i163 rfl) n29 (m_up mm29 (t_add e163 j90_5 (in_c 1 rfl) rfl) (in_w 1 1 (in_c 1 rfl) rfl))))
          · skip
            have i101 := r_lt1 0 159 c101 j90_7 i100 rfl
            have i101a := r_lt2 1 160 c101 j90_7 i100 rfl
            refine g_aload_n 105 (gd rfl) rfl rfl ?_
            refine g_getA (q2 := 13) 108 (gd rfl) rfl rfl rfl rfl ?_
            refine g_iload 110 (gd rfl) rfl rfl ?_
            refine g_iaload 111 (gd rfl) rfl (n := 160) rfl (in_ix i101 rfl) (fun z110 e110 => ?_)
            have i110 := inv_I hIc90 (n := 160) (t := 0) 0 159 rfl (in_ix i101 rfl) rfl e110
            refine g_istore 113 (gd rfl) rfl (Nat.le_of_ble_eq_true rfl) ?_
            refine g_aload_n 114 (gd rfl) rfl rfl ?_
            refine g_getA (q2 := 51) 117 (gd rfl) rfl rfl rfl rfl ?_
            refine g_aload_n 118 (gd rfl) rfl rfl ?_
            refine g_getA (q2 := 5) 121 (gd rfl) rfl rfl rfl rfl ?_
            refine g_iload 123 (gd rfl) rfl rfl ?_
            refine g_iaload 124 (gd rfl) rfl (n := 160) rfl (in_ix i110 rfl) (fun z123 e123 => ?_)
            have i123 := inv_I hIc90 (n := 160) (t := 0) 0 31 rfl (in_ix i110 rfl) rfl e123
            refine g_aload_n 125 (gd rfl) rfl rfl ?_
            refine g_getA (q2 := 51) 128 (gd rfl) rfl rfl rfl rfl ?_
            refine g_aload_n 129 (gd rfl) rfl rfl ?_
            refine g_getA (q2 := 5) 132 (gd rfl) rfl rfl rfl rfl ?_
            refine g_iload 134 (gd rfl) rfl rfl ?_
            refine g_iaload 135 (gd rfl) rfl (n := 160) rfl (in_ix i110 rfl) (fun z134 e134 => ?_)
            have q134 : z123 = z134 := (e123).trans e134.symm
            subst q134
            refine g_iaload 136 (gd rfl) rfl (n := 32) rfl (in_ix i123 rfl) (fun z135 e135 => ?_)
            have i135 := inv_I hIc90 (n := 32) (t := 0) (-1) 1000001 rfl (in_ix i123 rfl) rfl e135
            refine g_aload_n 137 (gd rfl) rfl rfl ?_
            refine g_getA (q2 := 51) 140 (gd rfl) rfl rfl rfl rfl ?_
            refine g_iload 142 (gd rfl) rfl rfl ?_
            refine g_iaload 143 (gd rfl) rfl (n := 32) rfl (in_ix j90_6 rfl) (fun z142 e142 => ?_)
            have i142 := inv_I hIc90 (n := 32) (t := 0) (-1) 1000001 rfl (in_ix j90_6 rfl) rfl e142
            refine g_aload_n 144 (gd rfl) rfl rfl ?_
            refine g_getA (q2 := 7) 147 (gd rfl) rfl rfl rfl rfl ?_
            refine g_iload 149 (gd rfl) rfl rfl ?_
            refine g_iaload 150 (gd rfl) rfl (n := 160) rfl (in_ix i110 rfl) (fun z149 e149 => ?_)
            have i149 := inv_I hIc90 (n := 160) (t := 0) 0 1000000 rfl (in_ix i110 rfl) rfl e149
            refine g_calls (As := [.int z142, .int z149]) (r := [.int z135, .int z123, .ref (A 51)]) 153 (gd rfl) rfl rfl rfl rfl rfl (Nat.le_of_ble_eq_true rfl) (mc := 0) (ms := 0) (Nat.zero_le _) (Nat.zero_le _) (P := fun v u => _) ?_ (fun v u h => h)
            intro po150 xx150 hp150 hx150
            refine g_enter2 (k := 424) (N := 300) (by first | exact dq1 hd rfl | exact dq0 hd rfl | exact dq2 hd rfl | exact dq3 hd rfl | omega) rfl (Nat.le_of_ble_eq_true rfl) ?_
            refine g_iload_n 1 (gd rfl) rfl rfl ?_
            refine g_iload_n 2 (gd rfl) rfl rfl ?_
            refine g_cmp_gt 5 9 (gd rfl) rfl rfl (fun c150x2 => ?_) (fun c150x2 => ?_)
            · skip
              have i150x2 := r_lt2 1 1000001 c150x2 i149 i142 rfl
              refine g_iload_n 10 (gd rfl) rfl rfl ?_
              refine g_ireturn (gd rfl) rfl rfl (hp150 _ _ ?_)
              show GG _ _ _ _ _ _ _ _ [.int z149, .int z135, .int z123, .ref (A 51)] _ _ _
              refine g_calls (As := [.int z135, .int z149]) (r := [.int z123, .ref (A 51)]) 156 (gd rfl) rfl rfl rfl rfl rfl (Nat.le_of_ble_eq_true rfl) (mc := 0) (ms := 0) (Nat.zero_le _) (Nat.zero_le _) (P := fun v u => _) ?_ (fun v u h => h)
              intro po153 xx153 hp153 hx153
              refine g_enter2 (k := 422) (N := 300) (by first | exact dq1 hd rfl | exact dq0 hd rfl | exact dq2 hd rfl | exact dq3 hd rfl | omega) rfl (Nat.le_of_ble_eq_true rfl) ?_
              refine g_iload_n 1 (gd rfl) rfl rfl ?_
              refine g_iload_n 2 (gd rfl) rfl rfl ?_
              refine g_cmp_lt 5 9 (gd rfl) rfl rfl (fun c153x2 => ?_) (fun c153x2 => ?_)
              · skip
                have i153x2 := r_lt1 (-1) 999999 c153x2 i135 i149 rfl
                refine g_iload_n 10 (gd rfl) rfl rfl ?_
                refine g_ireturn (gd rfl) rfl rfl (hp153 _ _ ?_)
                show GG _ _ _ _ _ _ _ _ [.int z149, .int z123, .ref (A 51)] _ _ _
                refine g_iastore 157 (gd rfl) rfl (n := 32) rfl (in_ix i123 rfl) ?_
                have hI156 := inv_sI (q := 51) (j := z123.toNatClampNeg) hIc90 rfl (in_w (-1) 1000001 i149 rfl)
                refine g_iinc 160 (gd rfl) rfl rfl (Nat.le_of_ble_eq_true rfl) (fun z157 e157 => ?_)
                have i157 := in_add 1 160 e157 i101 (in_c 1 rfl) rfl rfl
                refine g_goto 90 (gd rfl) rfl ?_
                have n90 : (cb y90_4 : Int) = (u_2_1).toInt - (y29_5).toInt - 1 := by first | exact g90_0 | (have a0 := oa8 j90_5 h3 h2 ro_2_1 i101 j90_6 i110 i157; have a8 := t_add e157 i101 (in_c 1 rfl) rfl; have a9 := oa2 ((in_c 1 rfl)) i99; have a11 := t_add e99 j90_6 (in_c 1 rfl) rfl; omega)
                exact gg_w (by first | exact Nat.le_add_right _ _ | exact gw2 | exact gw3 | exact gwe rfl | exact gwf rfl | exact gwg rfl | exact gwh rfl | omega) (gg_f (gf_cons rfl (gf_cons rfl (gf_cons rfl (gf_cons rfl (gf_cons rfl (gf_cons rfl (gf_cons rfl (gf_cons rfl gf_nil)))))))) (ih90 (sI sc90 51 z123.toNatClampNeg z149) y90_4 y90_6 z157 hI156 (fr_sI rfl hFc90) (in_w 0 31 j90_5 rfl) (in_w 0 31 j90_6 rfl) (in_w 0 160 i157 rfl) n90 (m_up mm90 (t_add e157 i101 (in_c 1 rfl) rfl) (in_w 1 1 (in_c 1 rfl) rfl))))
              · skip
                have i153x2 := r_le2 0 1000001 c153x2 i149 i135 rfl
                refine g_iload_n 6 (gd rfl) rfl rfl ?_
                refine g_goto 10 (gd rfl) rfl ?_
                refine g_ireturn (gd rfl) rfl rfl (hp153 _ _ ?_)
                show GG _ _ _ _ _ _ _ _ [.int z135, .int z123, .ref (A 51)] _ _ _
                refine g_iastore 157 (gd rfl) rfl (n := 32) rfl (in_ix i123 rfl) ?_
                have hI156 := inv_sI (q := 51) (j := z123.toNatClampNeg) hIc90 rfl (in_w (-1) 1000001 i153x2 rfl)
                refine g_iinc 160 (gd rfl) rfl rfl (Nat.le_of_ble_eq_true rfl) (fun z157 e157 => ?_)
                have i157 := in_add 1 160 e157 i101 (in_c 1 rfl) rfl rfl
                refine g_goto 90 (gd rfl) rfl ?_
                have n90 : (cb y90_4 : Int) = (u_2_1).toInt - (y29_5).toInt - 1 := by first | exact g90_0 | (have a0 := oa8 j90_5 h3 h2 ro_2_1 i101 j90_6 i110 i157; have a8 := t_add e157 i101 (in_c 1 rfl) rfl; have a9 := oa2 ((in_c 1 rfl)) i99; have a11 := t_add e99 j90_6 (in_c 1 rfl) rfl; omega)
                exact gg_w (by first | exact Nat.le_add_right _ _ | exact gw2 | exact gw3 | exact gwe rfl | exact gwf rfl | exact gwg rfl | exact gwh rfl | omega) (gg_f (gf_cons rfl (gf_cons rfl (gf_cons rfl (gf_cons rfl (gf_cons rfl (gf_cons rfl (gf_cons rfl (gf_cons rfl gf_nil)))))))) (ih90 (sI sc90 51 z123.toNatClampNeg z135) y90_4 y90_6 z157 hI156 (fr_sI rfl hFc90) (in_w 0 31 j90_5 rfl) (in_w 0 31 j90_6 rfl) (in_w 0 160 i157 rfl) n90 (m_up mm90 (t_add e157 i101 (in_c 1 rfl) rfl) (in_w 1 1 (in_c 1 rfl) rfl))))
            · skip
              have i150x2 := r_le1 (-1) 1000000 c150x2 i142 i149 rfl
              refine g_iload_n 6 (gd rfl) rfl rfl ?_
              refine g_goto 10 (gd rfl) rfl ?_
              refine g_ireturn (gd rfl) rfl rfl (hp150 _ _ ?_)
              show GG _ _ _ _ _ _ _ _ [.int z142, .int z135, .int z123, .ref (A 51)] _ _ _
              refine g_calls (As := [.int z135, .int z142]) (r := [.int z123, .ref (A 51)]) 156 (gd rfl) rfl rfl rfl rfl rfl (Nat.le_of_ble_eq_true rfl) (mc := 0) (ms := 0) (Nat.zero_le _) (Nat.zero_le _) (P := fun v u => _) ?_ (fun v u h => h)
              intro po153 xx153 hp153 hx153
              refine g_enter2 (k := 422) (N := 300) (by first | exact dq1 hd rfl | exact dq0 hd rfl | exact dq2 hd rfl | exact dq3 hd rfl | omega) rfl (Nat.le_of_ble_eq_true rfl) ?_
              refine g_iload_n 1 (gd rfl) rfl rfl ?_
              refine g_iload_n 2 (gd rfl) rfl rfl ?_
              refine g_cmp_lt 5 9 (gd rfl) rfl rfl (fun c153x2 => ?_) (fun c153x2 => ?_)
              · skip
                have i153x2 := r_lt1 (-1) 999999 c153x2 i135 i150x2 rfl
                have i153x2a := r_lt2 0 1000000 c153x2 i135 i150x2 rfl
                refine g_iload_n 10 (gd rfl) rfl rfl ?_
                refine g_ireturn (gd rfl) rfl rfl (hp153 _ _ ?_)
                show GG _ _ _ _ _ _ _ _ [.int z142, .int z123, .ref (A 51)] _ _ _
                refine g_iastore 157 (gd rfl) rfl (n := 32) rfl (in_ix i123 rfl) ?_
                have hI156 := inv_sI (q := 51) (j := z123.toNatClampNeg) hIc90 rfl (in_w (-1) 1000001 i153x2a rfl)
                refine g_iinc 160 (gd rfl) rfl rfl (Nat.le_of_ble_eq_true rfl) (fun z157 e157 => ?_)
                have i157 := in_add 1 160 e157 i101 (in_c 1 rfl) rfl rfl
                refine g_goto 90 (gd rfl) rfl ?_
                have n90 : (cb y90_4 : Int) = (u_2_1).toInt - (y29_5).toInt - 1 := by first | exact g90_0 | (have a0 := oa8 j90_5 h3 h2 ro_2_1 i101 j90_6 i110 i157; have a8 := t_add e157 i101 (in_c 1 rfl) rfl; have a9 := oa2 ((in_c 1 rfl)) i99; have a11 := t_add e99 j90_6 (in_c 1 rfl) rfl; omega)
                exact gg_w (by first | exact Nat.le_add_right _ _ | exact gw2 | exact gw3 | exact gwe rfl | exact gwf rfl | exact gwg rfl | exact gwh rfl | omega) (gg_f (gf_cons rfl (gf_cons rfl (gf_cons rfl (gf_cons rfl (gf_cons rfl (gf_cons rfl (gf_cons rfl (gf_cons rfl gf_nil)))))))) (ih90 (sI sc90 51 z123.toNatClampNeg z142) y90_4 y90_6 z157 hI156 (fr_sI rfl hFc90) (in_w 0 31 j90_5 rfl) (in_w 0 31 j90_6 rfl) (in_w 0 160 i157 rfl) n90 (m_up mm90 (t_add e157 i101 (in_c 1 rfl) rfl) (in_w 1 1 (in_c 1 rfl) rfl))))
              · skip
                refine g_iload_n 6 (gd rfl) rfl rfl ?_
                refine g_goto 10 (gd rfl) rfl ?_
                refine g_ireturn (gd rfl) rfl rfl (hp153 _ _ ?_)
                show GG _ _ _ _ _ _ _ _ [.int z135, .int z123, .ref (A 51)] _ _ _
                refine g_iastore 157 (gd rfl) rfl (n := 32) rfl (in_ix i123 rfl) ?_
                have hI156 := inv_sI (q := 51) (j := z123.toNatClampNeg) hIc90 rfl (in_w (-1) 1000001 i135 rfl)
                refine g_iinc 160 (gd rfl) rfl rfl (Nat.le_of_ble_eq_true rfl) (fun z157 e157 => ?_)
                have i157 := in_add 1 160 e157 i101 (in_c 1 rfl) rfl rfl
                refine g_goto 90 (gd rfl) rfl ?_
                have n90 : (cb y90_4 : Int) = (u_2_1).toInt - (y29_5).toInt - 1 := by first | exact g90_0 | (have a0 := oa8 j90_5 h3 h2 ro_2_1 i101 j90_6 i110 i157; have a8 := t_add e157 i101 (in_c 1 rfl) rfl; have a9 := oa2 ((in_c 1 rfl)) i99; have a11 := t_add e99 j90_6 (in_c 1 rfl) rfl; omega)
                exact gg_w (by first | exact Nat.le_add_right _ _ | exact gw2 | exact gw3 | exact gwe rfl | exact gwf rfl | exact gwg rfl | exact gwh rfl | omega) (gg_f (gf_cons rfl (gf_cons rfl (gf_cons rfl (gf_cons rfl (gf_cons rfl (gf_cons rfl (gf_cons rfl (gf_cons rfl gf_nil)))))))) (ih90 (sI sc90 51 z123.toNatClampNeg z135) y90_4 y90_6 z157 hI156 (fr_sI rfl hFc90) (in_w 0 31 j90_5 rfl) (in_w 0 31 j90_6 rfl) (in_w 0 160 i157 rfl) n90 (m_up mm90 (t_add e157 i101 (in_c 1 rfl) rfl) (in_w 1 1 (in_c 1 rfl) rfl))))
      refine g_iload 31 (gd rfl) rfl rfl ?_
      refine g_aload_n 32 (gd rfl) rfl rfl ?_
      refine g_getI 35 (gd rfl) rfl rfl rfl (fun z32 e32 => ?_)
      have q32 : u_2_1 = z32 := (fr_F e_2_1 hFc29 rfl).trans e32.symm
      subst q32
      refine g_cmp_ge 38 169 (gd rfl) rfl rfl (fun c35 => ?_) (fun c35 => ?_)
      · skip
        refine g_aload_n 170 (gd rfl) rfl rfl ?_
        refine g_getA (q2 := 51) 173 (gd rfl) rfl rfl rfl rfl ?_
        refine g_iload_n 174 (gd rfl) rfl rfl ?_
        refine g_iaload 175 (gd rfl) rfl (n := 32) rfl (in_ix h3 rfl) (fun z174 e174 => ?_)
        have i174 := inv_I hIc29 (n := 32) (t := 0) (-1) 1000001 rfl (in_ix h3 rfl) rfl e174
        exact g_ireturn (gd rfl) rfl rfl (hP _ _ ⟨sc29, hIc29, hFc29, z174, rfl, rfl, in_w (-1) 1000001 i174 rfl⟩)
      · skip
        have i35 := r_lt1 0 31 c35 j29_5 ro_2_1 rfl
        have i35a := r_lt2 1 32 c35 j29_5 ro_2_1 rfl
        refine g_aload_n 39 (gd rfl) rfl rfl ?_
        refine g_iload 41 (gd rfl) rfl rfl ?_
        have nz41 : (y29_4).toInt ≠ 0 := by exact cb_nz (by have a0 := oa4 h3 h2 i35a i35; omega)
        refine g_callv (X := _) (As := [.int y29_4]) (r := []) (b := A 49) (q := 49) 44 (gd rfl) rfl rfl rfl rfl rfl (ww_o rfl) (Nat.le_of_ble_eq_true rfl) (Nat.zero_le _) (Nat.zero_le _) (k_201_49 (by first | exact dq1 hd rfl | exact dq0 hd rfl | exact dq2 hd rfl | exact dq3 hd rfl | omega) hIc29 nz41) (fun e u h => h) (fun v u h => ?_)
        obtain ⟨z41, rfl, rfl, i41, p41⟩ := h
        show GG _ _ _ _ _ _ _ _ [.int z41] _ _ _
        refine g_istore 46 (gd rfl) rfl (Nat.le_of_ble_eq_true rfl) ?_
        refine g_iload 48 (gd rfl) rfl rfl ?_
        refine g_iload_n 49 (gd rfl) rfl rfl ?_
        refine g_cmp_eq 52 63 (gd rfl) rfl rfl (fun c49 => ?_) (fun c49 => ?_)
        · skip
          refine g_aload_n 64 (gd rfl) rfl rfl ?_
          refine g_getA (q2 := 51) 67 (gd rfl) rfl rfl rfl rfl ?_
          refine g_iload_n 68 (gd rfl) rfl rfl ?_
          refine g_iaload 69 (gd rfl) rfl (n := 32) rfl (in_ix h3 rfl) (fun z68 e68 => ?_)
          have i68 := inv_I hIc29 (n := 32) (t := 0) (-1) 1000001 rfl (in_ix h3 rfl) rfl e68
          exact g_ireturn (gd rfl) rfl rfl (hP _ _ ⟨sc29, hIc29, hFc29, z68, rfl, rfl, in_w (-1) 1000001 i68 rfl⟩)
        · skip
          refine g_aload_n 53 (gd rfl) rfl rfl ?_
          refine g_getA (q2 := 51) 56 (gd rfl) rfl rfl rfl rfl ?_
          refine g_iload 58 (gd rfl) rfl rfl ?_
          refine g_iaload 59 (gd rfl) rfl (n := 32) rfl (in_ix i41 rfl) (fun z58 e58 => ?_)
          have i58 := inv_I hIc29 (n := 32) (t := 0) (-1) 1000001 rfl (in_ix i41 rfl) rfl e58
          refine g_iconst (-1) 60 (gd rfl) rfl rfl ?_
          refine g_cmp_ne 63 70 (gd rfl) rfl rfl (fun c60 => ?_) (fun c60 => ?_)
          · skip
            have i60 := r_ne1 0 1000001 c60 i58 (in_c (-1) rfl) rfl
            refine g_iload 72 (gd rfl) rfl rfl ?_
            refine g_iconst 1 73 (gd rfl) rfl rfl ?_
            refine g_iload 75 (gd rfl) rfl rfl ?_
            refine g_ishl 76 (gd rfl) rfl (fun z75 e75 => ?_)
            refine g_iconst (-1) 77 (gd rfl) rfl rfl ?_
            refine g_ixor 78 (gd rfl) rfl (fun z77 e77 => ?_)
            refine g_iand 79 (gd rfl) rfl (fun z78 e78 => ?_)
            have hcb := cb_clr e75 e77 e78 i41 p41
            refine g_istore 81 (gd rfl) rfl (Nat.le_of_ble_eq_true rfl) ?_
            refine g_aload_n 82 (gd rfl) rfl rfl ?_
            refine g_getA (q2 := 12) 85 (gd rfl) rfl rfl rfl rfl ?_
            refine g_iload 87 (gd rfl) rfl rfl ?_
            refine g_iaload 88 (gd rfl) rfl (n := 33) rfl (in_ix i41 rfl) (fun z87 e87 => ?_)
            have i87 := inv_I hIc29 (n := 33) (t := 0) 0 160 rfl (in_ix i41 rfl) rfl e87
            refine g_istore 90 (gd rfl) rfl (Nat.le_of_ble_eq_true rfl) ?_
            have n90 : (cb z78 : Int) = (u_2_1).toInt - (y29_5).toInt - 1 := by have a0 := oa6 h3 h2 i35a i35 i87 i41; omega
            exact gg_w (by first | exact Nat.le_add_right _ _ | exact gw2 | exact gw3 | exact gwe rfl | exact gwf rfl | exact gwg rfl | exact gwh rfl | omega) (gg_f (gf_cons rfl (gf_cons rfl (gf_cons rfl (gf_cons rfl (gf_cons rfl (gf_cons rfl (gf_cons rfl (gf_cons rfl gf_nil)))))))) (ct90 161 sc29 z78 z41 z87 hIc29 hFc29 (in_w 0 31 i35 rfl) (in_w 0 31 i41 rfl) (in_w 0 160 i87 rfl) n90 (m_in 161 (in_w 0 160 i87 rfl) rfl)))
          · skip
            have i60 := r_eq1 (-1) (-1) c60 i58 (in_c (-1) rfl) rfl
            refine g_aload_n 64 (gd rfl) rfl rfl ?_
            refine g_getA (q2 := 51) 67 (gd rfl) rfl rfl rfl rfl ?_
            refine g_iload_n 68 (gd rfl) rfl rfl ?_
            refine g_iaload 69 (gd rfl) rfl (n := 32) rfl (in_ix h3 rfl) (fun z68 e68 => ?_)
            have i68 := inv_I hIc29 (n := 32) (t := 0) (-1) 1000001 rfl (in_ix h3 rfl) rfl e68
            exact g_ireturn (gd rfl) rfl rfl (hP _ _ ⟨sc29, hIc29, hFc29, z68, rfl, rfl, in_w (-1) 1000001 i68 rfl⟩)
  refine g_enter2 (k := 200) (N := 4871734) (by first | exact dq1 hd rfl | exact dq0 hd rfl | exact dq2 hd rfl | exact dq3 hd rfl | omega) rfl (Nat.le_of_ble_eq_true rfl) ?_
  refine g_aload_n 1 (gd rfl) rfl rfl ?_
  refine g_callv (X := _) (As := []) (r := []) (b := A 2) (q := 2) 4 (gd rfl) rfl rfl rfl rfl rfl (ww_o rfl) (Nat.le_of_ble_eq_true rfl) (Nat.zero_le _) (Nat.zero_le _) (k_106_2 (by first | exact dq1 hd rfl | exact dq0 hd rfl | exact dq2 hd rfl | exact dq3 hd rfl | omega) hI ) (fun e u h => h) (fun v u h => ?_)
  obtain ⟨s1, hI1, hF1, n1, rfl, rfl⟩ := h
  obtain ⟨z1a, e1⟩ : ∃ w, w = s1.2.2.1 2 4 := ⟨_, rfl⟩
  have i1a := inv_F hI1 (-1) 4000 rfl e1
  obtain ⟨z1b, e1a⟩ : ∃ w, w = s1.2.2.1 2 0 := ⟨_, rfl⟩
  have i1b := inv_F hI1 0 4000 rfl e1a
  rw [← (show z1a = s1.2.2.1 2 4 from e1)] at n1
  rw [← (show z1b = s1.2.2.1 2 0 from e1a)] at n1
  show GG _ _ _ _ _ _ _ _ [] _ _ _
  refine g_aload_n 5 (gd rfl) rfl rfl ?_
  refine g_getA (q2 := 51) 8 (gd rfl) rfl rfl rfl rfl ?_
  refine g_iconst (-1) 9 (gd rfl) rfl rfl ?_
  refine g_calls (As := [.ref (A 51), .int (Int32.ofInt (-1))]) (r := []) 12 (gd rfl) rfl rfl rfl rfl rfl (Nat.le_of_ble_eq_true rfl) (Nat.zero_le _) (Nat.zero_le _) (k_fillI 51 (by first | exact dq1 hd rfl | exact dq0 hd rfl | exact dq2 hd rfl | exact dq3 hd rfl | omega) hI1 (in_c (-1) rfl) (n := 32) rfl rfl rfl rfl) (fun v u h => ?_)
  obtain ⟨s9, hI9, hF9, rfl, rfl, fl9⟩ := h
  show GG _ _ _ _ _ _ _ _ [] _ _ _
  refine g_aload_n 13 (gd rfl) rfl rfl ?_
  refine g_getA (q2 := 51) 16 (gd rfl) rfl rfl rfl rfl ?_
  refine g_iload_n 17 (gd rfl) rfl rfl ?_
  refine g_ldc 1000001 19 (gd rfl) rfl rfl ?_
  refine g_iastore 20 (gd rfl) rfl (n := 32) rfl (in_ix h2 rfl) ?_
  have hI19 := inv_sI (q := 51) (j := x2.toNatClampNeg) hI9 rfl (in_w (-1) 1000001 (in_c 1000001 rfl) rfl)
  refine g_aload_n 21 (gd rfl) rfl rfl ?_
  refine g_callv (X := _) (As := []) (r := []) (b := A 2) (q := 2) 24 (gd rfl) rfl rfl rfl rfl rfl (ww_o rfl) (Nat.le_of_ble_eq_true rfl) (mc := 0) (ms := 0) (Nat.zero_le _) (Nat.zero_le _) (P := fun v u => _) ?_ (fun e u h => h) (fun v u h => h)
  intro po21 xx21 hp21 hx21
  refine g_enter2 (k := 102) (N := 300) (by first | exact dq1 hd rfl | exact dq0 hd rfl | exact dq2 hd rfl | exact dq3 hd rfl | omega) rfl (Nat.le_of_ble_eq_true rfl) ?_
  refine g_aload_n 1 (gd rfl) rfl rfl ?_
  refine g_getI 4 (gd rfl) rfl rfl rfl (fun z21x1 e21x1 => ?_)
  have q21x1 : u_2_1 = z21x1 := (sI_F (fr_F (fr_F (e_2_1) hF1 rfl) hF9 rfl)).trans e21x1.symm
  subst q21x1
  refine g_bipush 32 6 (gd rfl) rfl rfl ?_
  refine g_cmp_lt 9 13 (gd rfl) rfl rfl (fun c21x6 => ?_) (fun c21x6 => ?_)
  · skip
    have i21x6 := r_lt1 0 31 c21x6 ro_2_1 (in_c 32 rfl) rfl
    refine g_iconst 1 14 (gd rfl) rfl rfl ?_
    refine g_aload_n 15 (gd rfl) rfl rfl ?_
    refine g_getI 18 (gd rfl) rfl rfl rfl (fun z21x15 e21x15 => ?_)
    have q21x15 : u_2_1 = z21x15 := (sI_F (fr_F (fr_F (e_2_1) hF1 rfl) hF9 rfl)).trans e21x15.symm
    subst q21x15
    refine g_ishl 19 (gd rfl) rfl (fun z21x18 e21x18 => ?_)
    refine g_iconst 1 20 (gd rfl) rfl rfl ?_
    refine g_isub 21 (gd rfl) rfl (fun z21x20 e21x20 => ?_)
    refine g_ireturn (gd rfl) rfl rfl (hp21 _ _ ?_)
    show GG _ _ _ _ _ _ _ _ [.int z21x20] _ _ _
    refine g_istore 26 (gd rfl) rfl (Nat.le_of_ble_eq_true rfl) ?_
    refine g_iconst 0 27 (gd rfl) rfl rfl ?_
    refine g_istore 29 (gd rfl) rfl (Nat.le_of_ble_eq_true rfl) ?_
    have n29 : (cb z21x20 : Int) = (u_2_1).toInt - ((Int32.ofInt 0)).toInt := by first | (have hcb := cb_m1; have a0 := oa6 i21x6 h3 h2 ((in_c 0 rfl)) i1b i1a; omega) | (have hcb := cb_all e21x18 e21x20 ‹_›; have a0 := oa6 i21x6 h3 h2 ((in_c 0 rfl)) i1b i1a; omega) | (have a0 := oa6 i21x6 h3 h2 ((in_c 0 rfl)) i1b i1a; omega)
    exact gg_w (by first | exact Nat.le_of_ble_eq_true rfl | omega) (gg_f (gf_cons rfl (gf_cons rfl (gf_cons rfl (gf_cons rfl (gf_cons rfl (gf_cons rfl gf_nil)))))) (ct29 33 (sI s9 51 x2.toNatClampNeg (Int32.ofInt 1000001)) z21x20 (Int32.ofInt 0) hI19 (fr_sI rfl (fr_tr rfl (fr_tr rfl fr_rf hF1) hF9)) (in_w 0 32 (in_c 0 rfl) rfl) n29 (m_in 33 (in_w 0 32 (in_c 0 rfl) rfl) rfl)))
  · skip
    have i21x6 := r_le2 32 32 c21x6 (in_c 32 rfl) ro_2_1 rfl
    refine g_iconst (-1) 10 (gd rfl) rfl rfl ?_
    refine g_goto 21 (gd rfl) rfl ?_
    refine g_ireturn (gd rfl) rfl rfl (hp21 _ _ ?_)
    show GG _ _ _ _ _ _ _ _ [.int (Int32.ofInt (-1))] _ _ _
    refine g_istore 26 (gd rfl) rfl (Nat.le_of_ble_eq_true rfl) ?_
    refine g_iconst 0 27 (gd rfl) rfl rfl ?_
    refine g_istore 29 (gd rfl) rfl (Nat.le_of_ble_eq_true rfl) ?_
    have n29 : (cb (Int32.ofInt (-1)) : Int) = (u_2_1).toInt - ((Int32.ofInt 0)).toInt := by first | (have hcb := cb_m1; have a0 := oa7 i21x6 h3 h2 ((in_c 0 rfl)) ((in_c (-1) rfl)) i1b i1a; omega) | (have hcb := cb_all e21x18 e21x20 ‹_›; have a0 := oa7 i21x6 h3 h2 ((in_c 0 rfl)) ((in_c (-1) rfl)) i1b i1a; omega) | (have a0 := oa7 i21x6 h3 h2 ((in_c 0 rfl)) ((in_c (-1) rfl)) i1b i1a; omega)
    exact gg_w (by first | exact Nat.le_of_ble_eq_true rfl | omega) (gg_f (gf_cons rfl (gf_cons rfl (gf_cons rfl (gf_cons rfl (gf_cons rfl (gf_cons rfl gf_nil)))))) (ct29 33 (sI s9 51 x2.toNatClampNeg (Int32.ofInt 1000001)) (Int32.ofInt (-1)) (Int32.ofInt 0) hI19 (fr_sI rfl (fr_tr rfl (fr_tr rfl fr_rf hF1) hF9)) (in_w 0 32 (in_c 0 rfl) rfl) n29 (m_in 33 (in_w 0 32 (in_c 0 rfl) rfl) rfl)))

def fm_200_49_32 : FM := ([39, 40, 41, 42, 43, 44, 45, 51], [], [(32, 4)], [])
/-- GraphHouse$Ways.widest -/
theorem k_200_49_32 {Z : AmZ} {A : Nat → Nat} {s : GS} {ex : va_W} {d : Nat} {X : AmX} {x2 : Int32} {x3 : Int32} (hd : 5 ≤ d) (hI : Inv s) (h2 : In x2 0 31) (h3 : In x3 0 31) : GC Z d 200 [.ref (A 49), .ref (A 32), .int x2, .int x3] (WW Z A s ++ ex) 0 0 (fun v u => ∃ t : GS, Inv t ∧ Fr fm_200_49_32 s t ∧ ∃ z : Int32, v = some (.int z) ∧ u = WW Z A t ++ ex ∧ In z (-1) 1000001) X := by
  intro post xp hP hX
  obtain ⟨u_32_1, e_32_1⟩ : ∃ w, w = s.2.2.1 32 1 := ⟨_, rfl⟩
  have ro_32_1 := inv_F hI 0 32 rfl e_32_1
  have ct29 : ∀ (k29 : Nat) (sc29 : GS) (y29_4 : Int32) (y29_5 : Int32), Inv sc29 → Fr fm_200_49_32 s sc29 → (In y29_5 0 32) → ((cb y29_4 : Int) = (u_32_1).toInt - (y29_5).toInt) → 32 - (y29_5).toInt < (k29 : Int) → GG Z (d - 1) 200 post (gx xp) (1 + k29 * 147601) 29 (fun j => xlook j [(0, .ref (A 49)), (1, .ref (A 32)), (2, .int x2), (3, .int x3), (4, .int y29_4), (5, .int y29_5)]) [] (WW Z A sc29 ++ ex) 0 0 := by
    intro k29
    induction k29 with
    | zero => intro sc29 y29_4 y29_5 hIc29 hFc29 j29_5 g29_0 mm29; exact m_no mm29 j29_5 rfl
    | succ k29 ih29 =>
      intro sc29 y29_4 y29_5 hIc29 hFc29 j29_5 g29_0 mm29
      refine gg_w (M := 1 + k29 * 147601 + 147601) gws ?_
      have ct90 : ∀ (k90 : Nat) (sc90 : GS) (y90_4 : Int32) (y90_6 : Int32) (y90_7 : Int32), Inv sc90 → Fr fm_200_49_32 s sc90 → (In y29_5 0 31) → (In y90_6 0 31) → (In y90_7 0 160) → ((cb y90_4 : Int) = (u_32_1).toInt - (y29_5).toInt - 1) → 160 - (y90_7).toInt < (k90 : Int) → GG Z (d - 1) 200 post (gx xp) (1 + k29 * 147601 + 1 + k90 * 900) 90 (fun j => xlook j [(0, .ref (A 49)), (1, .ref (A 32)), (2, .int x2), (3, .int x3), (4, .int y90_4), (5, .int y29_5), (6, .int y90_6), (7, .int y90_7)]) [] (WW Z A sc90 ++ ex) 0 0 := by
        intro k90
        induction k90 with
        | zero => intro sc90 y90_4 y90_6 y90_7 hIc90 hFc90 j90_5 j90_6 j90_7 g90_0 mm90; exact m_no mm90 j90_7 rfl
        | succ k90 ih90 =>
          intro sc90 y90_4 y90_6 y90_7 hIc90 hFc90 j90_5 j90_6 j90_7 g90_0 mm90
          refine gg_w (M := 1 + k29 * 147601 + 1 + k90 * 900 + 900) gws ?_
          refine g_iload 92 (gd rfl) rfl rfl ?_
          refine g_aload_n 93 (gd rfl) rfl rfl ?_
          refine g_getA (q2 := 42) 96 (gd rfl) rfl rfl rfl rfl ?_
          refine g_iload 98 (gd rfl) rfl rfl ?_
          refine g_iconst 1 99 (gd rfl) rfl rfl ?_
          refine g_iadd 100 (gd rfl) rfl (fun z99 e99 => ?_)
          have i99 := in_add 1 32 e99 j90_6 (in_c 1 rfl) rfl rfl
          refine g_iaload 101 (gd rfl) rfl (n := 33) rfl (in_ix i99 rfl) (fun z100 e100 => ?_)
          have i100 := inv_I hIc90 (n := 33) (t := 0) 0 160 rfl (in_ix i99 rfl) rfl e100
          refine g_cmp_ge 104 163 (gd rfl) rfl rfl (fun c101 => ?_) (fun c101 => ?_)
          · skip
            refine g_iinc 166 (gd rfl) rfl rfl (Nat.le_of_ble_eq_true rfl) (fun z163 e163 => ?_)
            have i163 := in_add 1 32 e163 j90_5 (in_c 1 rfl) rfl rfl
            refine g_goto 29 (gd rfl) rfl ?_
            have n29 : (cb y90_4 : Int) = (u_32_1).toInt - (z163).toInt := by first | (have hcb := cb_m1; have a0 := oa7 j90_5 h3 h2 ro_32_1 j90_7 j90_6 i163; have a7 := t_add e163 j90_5 (in_c 1 rfl) rfl; have a8 := oa2 ((in_c 1 rfl)) i99; have a10 := t_add e99 j90_6 (in_c 1 rfl) rfl; omega) | (have hcb := cb_all e21x18 e21x20 ‹_›; have a0 := oa7 j90_5 h3 h2 ro_32_1 j90_7 j90_6 i163; have a7 := t_add e163 j90_5 (in_c 1 rfl) rfl; have a8 := oa2 ((in_c 1 rfl)) i99; have a10 := t_add e99 j90_6 (in_c 1 rfl) rfl; omega) | (have a0 := oa7 j90_5 h3 h2 ro_32_1 j90_7 j90_6 i163; have a7 := t_add e163 j90_5 (in_c 1 rfl) rfl; have a8 := oa2 ((in_c 1 rfl)) i99; have a10 := t_add e99 j90_6 (in_c 1 rfl) rfl; omega)
            exact gg_w (by first | exact Nat.le_add_right _ _ | exact gw2 | exact gw3 | exact gwe rfl | exact gwf rfl | exact gwg rfl | exact gwh rfl | omega) (gg_f (gf_cons rfl (gf_cons rfl (gf_cons rfl (gf_cons rfl (gf_cons rfl (gf_cons rfl gf_nil)))))) (ih29 sc90 y90_4 z163 hIc90 hFc90 (in_w 0 32 i163 rfl) n29 (m_up mm29 (t_add e163 j90_5 (in_c 1 rfl) rfl) (in_w 1 1 (in_c 1 rfl) rfl))))
          · skip
            have i101 := r_lt1 0 159 c101 j90_7 i100 rfl
            have i101a := r_lt2 1 160 c101 j90_7 i100 rfl
            refine g_aload_n 105 (gd rfl) rfl rfl ?_
            refine g_getA (q2 := 43) 108 (gd rfl) rfl rfl rfl rfl ?_
            refine g_iload 110 (gd rfl) rfl rfl ?_
            refine g_iaload 111 (gd rfl) rfl (n := 160) rfl (in_ix i101 rfl) (fun z110 e110 => ?_)
            have i110 := inv_I hIc90 (n := 160) (t := 0) 0 159 rfl (in_ix i101 rfl) rfl e110
            refine g_istore 113 (gd rfl) rfl (Nat.le_of_ble_eq_true rfl) ?_
            refine g_aload_n 114 (gd rfl) rfl rfl ?_
            refine g_getA (q2 := 51) 117 (gd rfl) rfl rfl rfl rfl ?_
            refine g_aload_n 118 (gd rfl) rfl rfl ?_
            refine g_getA (q2 := 35) 121 (gd rfl) rfl rfl rfl rfl ?_
            refine g_iload 123 (gd rfl) rfl rfl ?_
            refine g_iaload 124 (gd rfl) rfl (n := 160) rfl (in_ix i110 rfl) (fun z123 e123 => ?_)
            have i123 := inv_I hIc90 (n := 160) (t := 0) 0 31 rfl (in_ix i110 rfl) rfl e123
            refine g_aload_n 125 (gd rfl) rfl rfl ?_
            refine g_getA (q2 := 51) 128 (gd rfl) rfl rfl rfl rfl ?_
            refine g_aload_n 129 (gd rfl) rfl rfl ?_
            refine g_getA (q2 := 35) 132 (gd rfl) rfl rfl rfl rfl ?_
            refine g_iload 134 (gd rfl) rfl rfl ?_
            refine g_iaload 135 (gd rfl) rfl (n := 160) rfl (in_ix i110 rfl) (fun z134 e134 => ?_)
            have q134 : z123 = z134 := (e123).trans e134.symm
            subst q134
            refine g_iaload 136 (gd rfl) rfl (n := 32) rfl (in_ix i123 rfl) (fun z135 e135 => ?_)
            have i135 := inv_I hIc90 (n := 32) (t := 0) (-1) 1000001 rfl (in_ix i123 rfl) rfl e135
            refine g_aload_n 137 (gd rfl) rfl rfl ?_
            refine g_getA (q2 := 51) 140 (gd rfl) rfl rfl rfl rfl ?_
            refine g_iload 142 (gd rfl) rfl rfl ?_
            refine g_iaload 143 (gd rfl) rfl (n := 32) rfl (in_ix j90_6 rfl) (fun z142 e142 => ?_)
            have i142 := inv_I hIc90 (n := 32) (t := 0) (-1) 1000001 rfl (in_ix j90_6 rfl) rfl e142
            refine g_aload_n 144 (gd rfl) rfl rfl ?_
            refine g_getA (q2 := 37) 147 (gd rfl) rfl rfl rfl rfl ?_
            refine g_iload 149 (gd rfl) rfl rfl ?_
            refine g_iaload 150 (gd rfl) rfl (n := 160) rfl (in_ix i110 rfl) (fun z149 e149 => ?_)
            have i149 := inv_I hIc90 (n := 160) (t := 0) 0 1000000 rfl (in_ix i110 rfl) rfl e149
            refine g_calls (As := [.int z142, .int z149]) (r := [.int z135, .int z123, .ref (A 51)]) 153 (gd rfl) rfl rfl rfl rfl rfl (Nat.le_of_ble_eq_true rfl) (mc := 0) (ms := 0) (Nat.zero_le _) (Nat.zero_le _) (P := fun v u => _) ?_ (fun v u h => h)
            intro po150 xx150 hp150 hx150
            refine g_enter2 (k := 424) (N := 300) (by first | exact dq1 hd rfl | exact dq0 hd rfl | exact dq2 hd rfl | exact dq3 hd rfl | omega) rfl (Nat.le_of_ble_eq_true rfl) ?_
            refine g_iload_n 1 (gd rfl) rfl rfl ?_
            refine g_iload_n 2 (gd rfl) rfl rfl ?_
            refine g_cmp_gt 5 9 (gd rfl) rfl rfl (fun c150x2 => ?_) (fun c150x2 => ?_)
            · skip
              have i150x2 := r_lt2 1 1000001 c150x2 i149 i142 rfl
              refine g_iload_n 10 (gd rfl) rfl rfl ?_
              refine g_ireturn (gd rfl) rfl rfl (hp150 _ _ ?_)
              show GG _ _ _ _ _ _ _ _ [.int z149, .int z135, .int z123, .ref (A 51)] _ _ _
              refine g_calls (As := [.int z135, .int z149]) (r := [.int z123, .ref (A 51)]) 156 (gd rfl) rfl rfl rfl rfl rfl (Nat.le_of_ble_eq_true rfl) (mc := 0) (ms := 0) (Nat.zero_le _) (Nat.zero_le _) (P := fun v u => _) ?_ (fun v u h => h)
              intro po153 xx153 hp153 hx153
              refine g_enter2 (k := 422) (N := 300) (by first | exact dq1 hd rfl | exact dq0 hd rfl | exact dq2 hd rfl | exact dq3 hd rfl | omega) rfl (Nat.le_of_ble_eq_true rfl) ?_
              refine g_iload_n 1 (gd rfl) rfl rfl ?_
              refine g_iload_n 2 (gd rfl) rfl rfl ?_
              refine g_cmp_lt 5 9 (gd rfl) rfl rfl (fun c153x2 => ?_) (fun c153x2 => ?_)
              · skip
                have i153x2 := r_lt1 (-1) 999999 c153x2 i135 i149 rfl
                refine g_iload_n 10 (gd rfl) rfl rfl ?_
                refine g_ireturn (gd rfl) rfl rfl (hp153 _ _ ?_)
                show GG _ _ _ _ _ _ _ _ [.int z149, .int z123, .ref (A 51)] _ _ _
                refine g_iastore 157 (gd rfl) rfl (n := 32) rfl (in_ix i123 rfl) ?_
                have hI156 := inv_sI (q := 51) (j := z123.toNatClampNeg) hIc90 rfl (in_w (-1) 1000001 i149 rfl)
                refine g_iinc 160 (gd rfl) rfl rfl (Nat.le_of_ble_eq_true rfl) (fun z157 e157 => ?_)
                have i157 := in_add 1 160 e157 i101 (in_c 1 rfl) rfl rfl
                refine g_goto 90 (gd rfl) rfl ?_
                have n90 : (cb y90_4 : Int) = (u_32_1).toInt - (y29_5).toInt - 1 := by first | exact g90_0 | (have a0 := oa8 j90_5 h3 h2 ro_32_1 i101 j90_6 i110 i157; have a8 := t_add e157 i101 (in_c 1 rfl) rfl; have a9 := oa2 ((in_c 1 rfl)) i99; have a11 := t_add e99 j90_6 (in_c 1 rfl) rfl; omega)
                exact gg_w (by first | exact Nat.le_add_right _ _ | exact gw2 | exact gw3 | exact gwe rfl | exact gwf rfl | exact gwg rfl | exact gwh rfl | omega) (gg_f (gf_cons rfl (gf_cons rfl (gf_cons rfl (gf_cons rfl (gf_cons rfl (gf_cons rfl (gf_cons rfl (gf_cons rfl gf_nil)))))))) (ih90 (sI sc90 51 z123.toNatClampNeg z149) y90_4 y90_6 z157 hI156 (fr_sI rfl hFc90) (in_w 0 31 j90_5 rfl) (in_w 0 31 j90_6 rfl) (in_w 0 160 i157 rfl) n90 (m_up mm90 (t_add e157 i101 (in_c 1 rfl) rfl) (in_w 1 1 (in_c 1 rfl) rfl))))
              · skip
                have i153x2 := r_le2 0 1000001 c153x2 i149 i135 rfl
                refine g_iload_n 6 (gd rfl) rfl rfl ?_
                refine g_goto 10 (gd rfl) rfl ?_
                refine g_ireturn (gd rfl) rfl rfl (hp153 _ _ ?_)
                show GG _ _ _ _ _ _ _ _ [.int z135, .int z123, .ref (A 51)] _ _ _
                refine g_iastore 157 (gd rfl) rfl (n := 32) rfl (in_ix i123 rfl) ?_
                have hI156 := inv_sI (q := 51) (j := z123.toNatClampNeg) hIc90 rfl (in_w (-1) 1000001 i153x2 rfl)
                refine g_iinc 160 (gd rfl) rfl rfl (Nat.le_of_ble_eq_true rfl) (fun z157 e157 => ?_)
                have i157 := in_add 1 160 e157 i101 (in_c 1 rfl) rfl rfl
                refine g_goto 90 (gd rfl) rfl ?_
                have n90 : (cb y90_4 : Int) = (u_32_1).toInt - (y29_5).toInt - 1 := by first | exact g90_0 | (have a0 := oa8 j90_5 h3 h2 ro_32_1 i101 j90_6 i110 i157; have a8 := t_add e157 i101 (in_c 1 rfl) rfl; have a9 := oa2 ((in_c 1 rfl)) i99; have a11 := t_add e99 j90_6 (in_c 1 rfl) rfl; omega)
                exact gg_w (by first | exact Nat.le_add_right _ _ | exact gw2 | exact gw3 | exact gwe rfl | exact gwf rfl | exact gwg rfl | exact gwh rfl | omega) (gg_f (gf_cons rfl (gf_cons rfl (gf_cons rfl (gf_cons rfl (gf_cons rfl (gf_cons rfl (gf_cons rfl (gf_cons rfl gf_nil)))))))) (ih90 (sI sc90 51 z123.toNatClampNeg z135) y90_4 y90_6 z157 hI156 (fr_sI rfl hFc90) (in_w 0 31 j90_5 rfl) (in_w 0 31 j90_6 rfl) (in_w 0 160 i157 rfl) n90 (m_up mm90 (t_add e157 i101 (in_c 1 rfl) rfl) (in_w 1 1 (in_c 1 rfl) rfl))))
            · skip
              have i150x2 := r_le1 (-1) 1000000 c150x2 i142 i149 rfl
              refine g_iload_n 6 (gd rfl) rfl rfl ?_
              refine g_goto 10 (gd rfl) rfl ?_
              refine g_ireturn (gd rfl) rfl rfl (hp150 _ _ ?_)
              show GG _ _ _ _ _ _ _ _ [.int z142, .int z135, .int z123, .ref (A 51)] _ _ _
              refine g_calls (As := [.int z135, .int z142]) (r := [.int z123, .ref (A 51)]) 156 (gd rfl) rfl rfl rfl rfl rfl (Nat.le_of_ble_eq_true rfl) (mc := 0) (ms := 0) (Nat.zero_le _) (Nat.zero_le _) (P := fun v u => _) ?_ (fun v u h => h)
              intro po153 xx153 hp153 hx153
              refine g_enter2 (k := 422) (N := 300) (by first | exact dq1 hd rfl | exact dq0 hd rfl | exact dq2 hd rfl | exact dq3 hd rfl | omega) rfl (Nat.le_of_ble_eq_true rfl) ?_
              refine g_iload_n 1 (gd rfl) rfl rfl ?_
              refine g_iload_n 2 (gd rfl) rfl rfl ?_
              refine g_cmp_lt 5 9 (gd rfl) rfl rfl (fun c153x2 => ?_) (fun c153x2 => ?_)
              · skip
                have i153x2 := r_lt1 (-1) 999999 c153x2 i135 i150x2 rfl
                have i153x2a := r_lt2 0 1000000 c153x2 i135 i150x2 rfl
                refine g_iload_n 10 (gd rfl) rfl rfl ?_
                refine g_ireturn (gd rfl) rfl rfl (hp153 _ _ ?_)
                show GG _ _ _ _ _ _ _ _ [.int z142, .int z123, .ref (A 51)] _ _ _
                refine g_iastore 157 (gd rfl) rfl (n := 32) rfl (in_ix i123 rfl) ?_
                have hI156 := inv_sI (q := 51) (j := z123.toNatClampNeg) hIc90 rfl (in_w (-1) 1000001 i153x2a rfl)
                refine g_iinc 160 (gd rfl) rfl rfl (Nat.le_of_ble_eq_true rfl) (fun z157 e157 => ?_)
                have i157 := in_add 1 160 e157 i101 (in_c 1 rfl) rfl rfl
                refine g_goto 90 (gd rfl) rfl ?_
                have n90 : (cb y90_4 : Int) = (u_32_1).toInt - (y29_5).toInt - 1 := by first | exact g90_0 | (have a0 := oa8 j90_5 h3 h2 ro_32_1 i101 j90_6 i110 i157; have a8 := t_add e157 i101 (in_c 1 rfl) rfl; have a9 := oa2 ((in_c 1 rfl)) i99; have a11 := t_add e99 j90_6 (in_c 1 rfl) rfl; omega)
                exact gg_w (by first | exact Nat.le_add_right _ _ | exact gw2 | exact gw3 | exact gwe rfl | exact gwf rfl | exact gwg rfl | exact gwh rfl | omega) (gg_f (gf_cons rfl (gf_cons rfl (gf_cons rfl (gf_cons rfl (gf_cons rfl (gf_cons rfl (gf_cons rfl (gf_cons rfl gf_nil)))))))) (ih90 (sI sc90 51 z123.toNatClampNeg z142) y90_4 y90_6 z157 hI156 (fr_sI rfl hFc90) (in_w 0 31 j90_5 rfl) (in_w 0 31 j90_6 rfl) (in_w 0 160 i157 rfl) n90 (m_up mm90 (t_add e157 i101 (in_c 1 rfl) rfl) (in_w 1 1 (in_c 1 rfl) rfl))))
              · skip
                refine g_iload_n 6 (gd rfl) rfl rfl ?_
                refine g_goto 10 (gd rfl) rfl ?_
                refine g_ireturn (gd rfl) rfl rfl (hp153 _ _ ?_)
                show GG _ _ _ _ _ _ _ _ [.int z135, .int z123, .ref (A 51)] _ _ _
                refine g_iastore 157 (gd rfl) rfl (n := 32) rfl (in_ix i123 rfl) ?_
                have hI156 := inv_sI (q := 51) (j := z123.toNatClampNeg) hIc90 rfl (in_w (-1) 1000001 i135 rfl)
                refine g_iinc 160 (gd rfl) rfl rfl (Nat.le_of_ble_eq_true rfl) (fun z157 e157 => ?_)
                have i157 := in_add 1 160 e157 i101 (in_c 1 rfl) rfl rfl
                refine g_goto 90 (gd rfl) rfl ?_
                have n90 : (cb y90_4 : Int) = (u_32_1).toInt - (y29_5).toInt - 1 := by first | exact g90_0 | (have a0 := oa8 j90_5 h3 h2 ro_32_1 i101 j90_6 i110 i157; have a8 := t_add e157 i101 (in_c 1 rfl) rfl; have a9 := oa2 ((in_c 1 rfl)) i99; have a11 := t_add e99 j90_6 (in_c 1 rfl) rfl; omega)
                exact gg_w (by first | exact Nat.le_add_right _ _ | exact gw2 | exact gw3 | exact gwe rfl | exact gwf rfl | exact gwg rfl | exact gwh rfl | omega) (gg_f (gf_cons rfl (gf_cons rfl (gf_cons rfl (gf_cons rfl (gf_cons rfl (gf_cons rfl (gf_cons rfl (gf_cons rfl gf_nil)))))))) (ih90 (sI sc90 51 z123.toNatClampNeg z135) y90_4 y90_6 z157 hI156 (fr_sI rfl hFc90) (in_w 0 31 j90_5 rfl) (in_w 0 31 j90_6 rfl) (in_w 0 160 i157 rfl) n90 (m_up mm90 (t_add e157 i101 (in_c 1 rfl) rfl) (in_w 1 1 (in_c 1 rfl) rfl))))
      refine g_iload 31 (gd rfl) rfl rfl ?_
      refine g_aload_n 32 (gd rfl) rfl rfl ?_
      refine g_getI 35 (gd rfl) rfl rfl rfl (fun z32 e32 => ?_)
      have q32 : u_32_1 = z32 := (fr_F e_32_1 hFc29 rfl).trans e32.symm
      subst q32
      refine g_cmp_ge 38 169 (gd rfl) rfl rfl (fun c35 => ?_) (fun c35 => ?_)
      · skip
        refine g_aload_n 170 (gd rfl) rfl rfl ?_
        refine g_getA (q2 := 51) 173 (gd rfl) rfl rfl rfl rfl ?_
        refine g_iload_n 174 (gd rfl) rfl rfl ?_
        refine g_iaload 175 (gd rfl) rfl (n := 32) rfl (in_ix h3 rfl) (fun z174 e174 => ?_)
        have i174 := inv_I hIc29 (n := 32) (t := 0) (-1) 1000001 rfl (in_ix h3 rfl) rfl e174
        exact g_ireturn (gd rfl) rfl rfl (hP _ _ ⟨sc29, hIc29, hFc29, z174, rfl, rfl, in_w (-1) 1000001 i174 rfl⟩)
      · skip
        have i35 := r_lt1 0 31 c35 j29_5 ro_32_1 rfl
        have i35a := r_lt2 1 32 c35 j29_5 ro_32_1 rfl
        refine g_aload_n 39 (gd rfl) rfl rfl ?_
        refine g_iload 41 (gd rfl) rfl rfl ?_
        have nz41 : (y29_4).toInt ≠ 0 := by exact cb_nz (by have a0 := oa4 h3 h2 i35a i35; omega)
        refine g_callv (X := _) (As := [.int y29_4]) (r := []) (b := A 49) (q := 49) 44 (gd rfl) rfl rfl rfl rfl rfl (ww_o rfl) (Nat.le_of_ble_eq_true rfl) (Nat.zero_le _) (Nat.zero_le _) (k_201_49 (by first | exact dq1 hd rfl | exact dq0 hd rfl | exact dq2 hd rfl | exact dq3 hd rfl | omega) hIc29 nz41) (fun e u h => h) (fun v u h => ?_)
        obtain ⟨z41, rfl, rfl, i41, p41⟩ := h
        show GG _ _ _ _ _ _ _ _ [.int z41] _ _ _
        refine g_istore 46 (gd rfl) rfl (Nat.le_of_ble_eq_true rfl) ?_
        refine g_iload 48 (gd rfl) rfl rfl ?_
        refine g_iload_n 49 (gd rfl) rfl rfl ?_
        refine g_cmp_eq 52 63 (gd rfl) rfl rfl (fun c49 => ?_) (fun c49 => ?_)
        · skip
          refine g_aload_n 64 (gd rfl) rfl rfl ?_
          refine g_getA (q2 := 51) 67 (gd rfl) rfl rfl rfl rfl ?_
          refine g_iload_n 68 (gd rfl) rfl rfl ?_
          refine g_iaload 69 (gd rfl) rfl (n := 32) rfl (in_ix h3 rfl) (fun z68 e68 => ?_)
          have i68 := inv_I hIc29 (n := 32) (t := 0) (-1) 1000001 rfl (in_ix h3 rfl) rfl e68
          exact g_ireturn (gd rfl) rfl rfl (hP _ _ ⟨sc29, hIc29, hFc29, z68, rfl, rfl, in_w (-1) 1000001 i68 rfl⟩)
        · skip
          refine g_aload_n 53 (gd rfl) rfl rfl ?_
          refine g_getA (q2 := 51) 56 (gd rfl) rfl rfl rfl rfl ?_
          refine g_iload 58 (gd rfl) rfl rfl ?_
          refine g_iaload 59 (gd rfl) rfl (n := 32) rfl (in_ix i41 rfl) (fun z58 e58 => ?_)
          have i58 := inv_I hIc29 (n := 32) (t := 0) (-1) 1000001 rfl (in_ix i41 rfl) rfl e58
          refine g_iconst (-1) 60 (gd rfl) rfl rfl ?_
          refine g_cmp_ne 63 70 (gd rfl) rfl rfl (fun c60 => ?_) (fun c60 => ?_)
          · skip
            have i60 := r_ne1 0 1000001 c60 i58 (in_c (-1) rfl) rfl
            refine g_iload 72 (gd rfl) rfl rfl ?_
            refine g_iconst 1 73 (gd rfl) rfl rfl ?_
            refine g_iload 75 (gd rfl) rfl rfl ?_
            refine g_ishl 76 (gd rfl) rfl (fun z75 e75 => ?_)
            refine g_iconst (-1) 77 (gd rfl) rfl rfl ?_
            refine g_ixor 78 (gd rfl) rfl (fun z77 e77 => ?_)
            refine g_iand 79 (gd rfl) rfl (fun z78 e78 => ?_)
            have hcb := cb_clr e75 e77 e78 i41 p41
            refine g_istore 81 (gd rfl) rfl (Nat.le_of_ble_eq_true rfl) ?_
            refine g_aload_n 82 (gd rfl) rfl rfl ?_
            refine g_getA (q2 := 42) 85 (gd rfl) rfl rfl rfl rfl ?_
            refine g_iload 87 (gd rfl) rfl rfl ?_
            refine g_iaload 88 (gd rfl) rfl (n := 33) rfl (in_ix i41 rfl) (fun z87 e87 => ?_)
            have i87 := inv_I hIc29 (n := 33) (t := 0) 0 160 rfl (in_ix i41 rfl) rfl e87
            refine g_istore 90 (gd rfl) rfl (Nat.le_of_ble_eq_true rfl) ?_
            have n90 : (cb z78 : Int) = (u_32_1).toInt - (y29_5).toInt - 1 := by have a0 := oa6 h3 h2 i35a i35 i87 i41; omega
            exact gg_w (by first | exact Nat.le_add_right _ _ | exact gw2 | exact gw3 | exact gwe rfl | exact gwf rfl | exact gwg rfl | exact gwh rfl | omega) (gg_f (gf_cons rfl (gf_cons rfl (gf_cons rfl (gf_cons rfl (gf_cons rfl (gf_cons rfl (gf_cons rfl (gf_cons rfl gf_nil)))))))) (ct90 161 sc29 z78 z41 z87 hIc29 hFc29 (in_w 0 31 i35 rfl) (in_w 0 31 i41 rfl) (in_w 0 160 i87 rfl) n90 (m_in 161 (in_w 0 160 i87 rfl) rfl)))
          · skip
            have i60 := r_eq1 (-1) (-1) c60 i58 (in_c (-1) rfl) rfl
            refine g_aload_n 64 (gd rfl) rfl rfl ?_
            refine g_getA (q2 := 51) 67 (gd rfl) rfl rfl rfl rfl ?_
            refine g_iload_n 68 (gd rfl) rfl rfl ?_
            refine g_iaload 69 (gd rfl) rfl (n := 32) rfl (in_ix h3 rfl) (fun z68 e68 => ?_)
            have i68 := inv_I hIc29 (n := 32) (t := 0) (-1) 1000001 rfl (in_ix h3 rfl) rfl e68
            exact g_ireturn (gd rfl) rfl rfl (hP _ _ ⟨sc29, hIc29, hFc29, z68, rfl, rfl, in_w (-1) 1000001 i68 rfl⟩)
  refine g_enter2 (k := 200) (N := 4871734) (by first | exact dq1 hd rfl | exact dq0 hd rfl | exact dq2 hd rfl | exact dq3 hd rfl | omega) rfl (Nat.le_of_ble_eq_true rfl) ?_
  refine g_aload_n 1 (gd rfl) rfl rfl ?_
  refine g_callv (X := _) (As := []) (r := []) (b := A 32) (q := 32) 4 (gd rfl) rfl rfl rfl rfl rfl (ww_o rfl) (Nat.le_of_ble_eq_true rfl) (Nat.zero_le _) (Nat.zero_le _) (k_106_32 (by first | exact dq1 hd rfl | exact dq0 hd rfl | exact dq2 hd rfl | exact dq3 hd rfl | omega) hI ) (fun e u h => h) (fun v u h => ?_)
  obtain ⟨s1, hI1, hF1, n1, rfl, rfl⟩ := h
  obtain ⟨z1a, e1⟩ : ∃ w, w = s1.2.2.1 32 4 := ⟨_, rfl⟩
  have i1a := inv_F hI1 (-1) 4000 rfl e1
  obtain ⟨z1b, e1a⟩ : ∃ w, w = s1.2.2.1 32 0 := ⟨_, rfl⟩
  have i1b := inv_F hI1 0 4000 rfl e1a
  rw [← (show z1a = s1.2.2.1 32 4 from e1)] at n1
  rw [← (show z1b = s1.2.2.1 32 0 from e1a)] at n1
  show GG _ _ _ _ _ _ _ _ [] _ _ _
  refine g_aload_n 5 (gd rfl) rfl rfl ?_
  refine g_getA (q2 := 51) 8 (gd rfl) rfl rfl rfl rfl ?_
  refine g_iconst (-1) 9 (gd rfl) rfl rfl ?_
  refine g_calls (As := [.ref (A 51), .int (Int32.ofInt (-1))]) (r := []) 12 (gd rfl) rfl rfl rfl rfl rfl (Nat.le_of_ble_eq_true rfl) (Nat.zero_le _) (Nat.zero_le _) (k_fillI 51 (by first | exact dq1 hd rfl | exact dq0 hd rfl | exact dq2 hd rfl | exact dq3 hd rfl | omega) hI1 (in_c (-1) rfl) (n := 32) rfl rfl rfl rfl) (fun v u h => ?_)
  obtain ⟨s9, hI9, hF9, rfl, rfl, fl9⟩ := h
  show GG _ _ _ _ _ _ _ _ [] _ _ _
  refine g_aload_n 13 (gd rfl) rfl rfl ?_
  refine g_getA (q2 := 51) 16 (gd rfl) rfl rfl rfl rfl ?_
  refine g_iload_n 17 (gd rfl) rfl rfl ?_
  refine g_ldc 1000001 19 (gd rfl) rfl rfl ?_
  refine g_iastore 20 (gd rfl) rfl (n := 32) rfl (in_ix h2 rfl) ?_
  have hI19 := inv_sI (q := 51) (j := x2.toNatClampNeg) hI9 rfl (in_w (-1) 1000001 (in_c 1000001 rfl) rfl)
  refine g_aload_n 21 (gd rfl) rfl rfl ?_
  refine g_callv (X := _) (As := []) (r := []) (b := A 32) (q := 32) 24 (gd rfl) rfl rfl rfl rfl rfl (ww_o rfl) (Nat.le_of_ble_eq_true rfl) (mc := 0) (ms := 0) (Nat.zero_le _) (Nat.zero_le _) (P := fun v u => _) ?_ (fun e u h => h) (fun v u h => h)
  intro po21 xx21 hp21 hx21
  refine g_enter2 (k := 102) (N := 300) (by first | exact dq1 hd rfl | exact dq0 hd rfl | exact dq2 hd rfl | exact dq3 hd rfl | omega) rfl (Nat.le_of_ble_eq_true rfl) ?_
  refine g_aload_n 1 (gd rfl) rfl rfl ?_
  refine g_getI 4 (gd rfl) rfl rfl rfl (fun z21x1 e21x1 => ?_)
  have q21x1 : u_32_1 = z21x1 := (sI_F (fr_F (fr_F (e_32_1) hF1 rfl) hF9 rfl)).trans e21x1.symm
  subst q21x1
  refine g_bipush 32 6 (gd rfl) rfl rfl ?_
  refine g_cmp_lt 9 13 (gd rfl) rfl rfl (fun c21x6 => ?_) (fun c21x6 => ?_)
  · skip
    have i21x6 := r_lt1 0 31 c21x6 ro_32_1 (in_c 32 rfl) rfl
    refine g_iconst 1 14 (gd rfl) rfl rfl ?_
    refine g_aload_n 15 (gd rfl) rfl rfl ?_
    refine g_getI 18 (gd rfl) rfl rfl rfl (fun z21x15 e21x15 => ?_)
    have q21x15 : u_32_1 = z21x15 := (sI_F (fr_F (fr_F (e_32_1) hF1 rfl) hF9 rfl)).trans e21x15.symm
    subst q21x15
    refine g_ishl 19 (gd rfl) rfl (fun z21x18 e21x18 => ?_)
    refine g_iconst 1 20 (gd rfl) rfl rfl ?_
    refine g_isub 21 (gd rfl) rfl (fun z21x20 e21x20 => ?_)
    refine g_ireturn (gd rfl) rfl rfl (hp21 _ _ ?_)
    show GG _ _ _ _ _ _ _ _ [.int z21x20] _ _ _
    refine g_istore 26 (gd rfl) rfl (Nat.le_of_ble_eq_true rfl) ?_
    refine g_iconst 0 27 (gd rfl) rfl rfl ?_
    refine g_istore 29 (gd rfl) rfl (Nat.le_of_ble_eq_true rfl) ?_
    have n29 : (cb z21x20 : Int) = (u_32_1).toInt - ((Int32.ofInt 0)).toInt := by first | (have hcb := cb_m1; have a0 := oa6 i21x6 h3 h2 ((in_c 0 rfl)) i1b i1a; omega) | (have hcb := cb_all e21x18 e21x20 ‹_›; have a0 := oa6 i21x6 h3 h2 ((in_c 0 rfl)) i1b i1a; omega) | (have a0 := oa6 i21x6 h3 h2 ((in_c 0 rfl)) i1b i1a; omega)
    exact gg_w (by first | exact Nat.le_of_ble_eq_true rfl | omega) (gg_f (gf_cons rfl (gf_cons rfl (gf_cons rfl (gf_cons rfl (gf_cons rfl (gf_cons rfl gf_nil)))))) (ct29 33 (sI s9 51 x2.toNatClampNeg (Int32.ofInt 1000001)) z21x20 (Int32.ofInt 0) hI19 (fr_sI rfl (fr_tr rfl (fr_tr rfl fr_rf hF1) hF9)) (in_w 0 32 (in_c 0 rfl) rfl) n29 (m_in 33 (in_w 0 32 (in_c 0 rfl) rfl) rfl)))
  · skip
    have i21x6 := r_le2 32 32 c21x6 (in_c 32 rfl) ro_32_1 rfl
    refine g_iconst (-1) 10 (gd rfl) rfl rfl ?_
    refine g_goto 21 (gd rfl) rfl ?_
    refine g_ireturn (gd rfl) rfl rfl (hp21 _ _ ?_)
    show GG _ _ _ _ _ _ _ _ [.int (Int32.ofInt (-1))] _ _ _
    refine g_istore 26 (gd rfl) rfl (Nat.le_of_ble_eq_true rfl) ?_
    refine g_iconst 0 27 (gd rfl) rfl rfl ?_
    refine g_istore 29 (gd rfl) rfl (Nat.le_of_ble_eq_true rfl) ?_
    have n29 : (cb (Int32.ofInt (-1)) : Int) = (u_32_1).toInt - ((Int32.ofInt 0)).toInt := by first | (have hcb := cb_m1; have a0 := oa7 i21x6 h3 h2 ((in_c 0 rfl)) ((in_c (-1) rfl)) i1b i1a; omega) | (have hcb := cb_all e21x18 e21x20 ‹_›; have a0 := oa7 i21x6 h3 h2 ((in_c 0 rfl)) ((in_c (-1) rfl)) i1b i1a; omega) | (have a0 := oa7 i21x6 h3 h2 ((in_c 0 rfl)) ((in_c (-1) rfl)) i1b i1a; omega)
    exact gg_w (by first | exact Nat.le_of_ble_eq_true rfl | omega) (gg_f (gf_cons rfl (gf_cons rfl (gf_cons rfl (gf_cons rfl (gf_cons rfl (gf_cons rfl gf_nil)))))) (ct29 33 (sI s9 51 x2.toNatClampNeg (Int32.ofInt 1000001)) (Int32.ofInt (-1)) (Int32.ofInt 0) hI19 (fr_sI rfl (fr_tr rfl (fr_tr rfl fr_rf hF1) hF9)) (in_w 0 32 (in_c 0 rfl) rfl) n29 (m_in 33 (in_w 0 32 (in_c 0 rfl) rfl) rfl)))

def fm_203_49_2 : FM := ([9, 10, 11, 12, 13, 14, 15, 52, 54], [53], [(2, 4)], [])
/-- GraphHouse$Ways.countBy -/
theorem k_203_49_2 {Z : AmZ} {A : Nat → Nat} {s : GS} {ex : va_W} {d : Nat} {X : AmX} {x2 : Int32} {x3 : Int32} {x4 : Int32} (hd : 5 ≤ d) (hI : Inv s) (h2 : In x2 0 31) (h3 : In x3 0 31) (h4 : In x4 0 31) : GC Z d 203 [.ref (A 49), .ref (A 2), .int x2, .int x3, .int x4] (WW Z A s ++ ex) 0 0 (fun v u => ∃ t : GS, Inv t ∧ Fr fm_203_49_2 s t ∧ ∃ z : Int32, v = some (.int z) ∧ u = WW Z A t ++ ex ∧ In z (-2147483648) 2147483647) X := by
  intro post xp hP hX
  refine g_enter2 (k := 203) (N := 900) (by first | exact dq1 hd rfl | exact dq0 hd rfl | exact dq2 hd rfl | exact dq3 hd rfl | omega) rfl (Nat.le_of_ble_eq_true rfl) ?_
  refine g_aload_n 1 (gd rfl) rfl rfl ?_
  refine g_aload_n 2 (gd rfl) rfl rfl ?_
  refine g_iload_n 3 (gd rfl) rfl rfl ?_
  refine g_callv (X := _) (As := [.ref (A 2), .int x2]) (r := []) (b := A 49) (q := 49) 6 (gd rfl) rfl rfl rfl rfl rfl (ww_o rfl) (Nat.le_of_ble_eq_true rfl) (Nat.zero_le _) (Nat.zero_le _) (k_204_49_2 (by first | exact dq1 hd rfl | exact dq0 hd rfl | exact dq2 hd rfl | exact dq3 hd rfl | omega) hI (in_w 0 31 h2 rfl)) (fun e u h => h) (fun v u h => ?_)
  obtain ⟨s3, hI3, hF3, rfl, rfl⟩ := h
  show GG _ _ _ _ _ _ _ _ [] _ _ _
  refine g_aload_n 7 (gd rfl) rfl rfl ?_
  refine g_getA (q2 := 52) 10 (gd rfl) rfl rfl rfl rfl ?_
  refine g_iload_n 11 (gd rfl) rfl rfl ?_
  refine g_iaload 12 (gd rfl) rfl (n := 32) rfl (in_ix h3 rfl) (fun z11 e11 => ?_)
  refine g_istore 14 (gd rfl) rfl (Nat.le_of_ble_eq_true rfl) ?_
  refine g_aload_n 15 (gd rfl) rfl rfl ?_
  refine g_getA (q2 := 52) 18 (gd rfl) rfl rfl rfl rfl ?_
  refine g_iload 20 (gd rfl) rfl rfl ?_
  refine g_iaload 21 (gd rfl) rfl (n := 32) rfl (in_ix h4 rfl) (fun z20 e20 => ?_)
  refine g_istore 23 (gd rfl) rfl (Nat.le_of_ble_eq_true rfl) ?_
  refine g_aload_n 24 (gd rfl) rfl rfl ?_
  refine g_getA (q2 := 53) 27 (gd rfl) rfl rfl rfl rfl ?_
  refine g_iload 29 (gd rfl) rfl rfl ?_
  refine g_laload 30 (gd rfl) rfl (n := 32) rfl (in_ix h4 rfl) (fun z29 e29 => ?_)
  refine g_lstore 32 (gd rfl) rfl (Nat.le_of_ble_eq_true rfl) ?_
  refine g_iload 34 (gd rfl) rfl rfl ?_
  refine g_iconst (-1) 35 (gd rfl) rfl rfl ?_
  refine g_cmp_eq 38 44 (gd rfl) rfl rfl (fun c35 => ?_) (fun c35 => ?_)
  · skip
    have i35 := r_eq1 (-1) (-1) c35 (i_rng z11) (in_c (-1) rfl) rfl
    refine g_iconst 0 45 (gd rfl) rfl rfl ?_
    exact g_ireturn (gd rfl) rfl rfl (hP _ _ ⟨s3, hI3, (fr_tr rfl fr_rf hF3), (Int32.ofInt 0), rfl, rfl, in_w (-2147483648) 2147483647 (in_c 0 rfl) rfl⟩)
  · skip
    refine g_iload 40 (gd rfl) rfl rfl ?_
    refine g_iconst (-1) 41 (gd rfl) rfl rfl ?_
    refine g_cmp_ne 44 46 (gd rfl) rfl rfl (fun c41 => ?_) (fun c41 => ?_)
    · skip
      refine g_iload 48 (gd rfl) rfl rfl ?_
      refine g_iload_n 49 (gd rfl) rfl rfl ?_
      refine g_cmp_eq 52 59 (gd rfl) rfl rfl (fun c49 => ?_) (fun c49 => ?_)
      · skip
        refine g_aload_n 60 (gd rfl) rfl rfl ?_
        refine g_getA (q2 := 52) 63 (gd rfl) rfl rfl rfl rfl ?_
        refine g_iload_n 64 (gd rfl) rfl rfl ?_
        refine g_iaload 65 (gd rfl) rfl (n := 32) rfl (in_ix h3 rfl) (fun z64 e64 => ?_)
        have q64 : z11 = z64 := (e11).trans e64.symm
        subst q64
        refine g_iconst (-1) 66 (gd rfl) rfl rfl ?_
        refine g_cmp_eq 69 83 (gd rfl) rfl rfl (fun c66 => ?_) (fun c66 => ?_)
        · skip
          exact absurd c66 c35
        · skip
          refine g_iload 71 (gd rfl) rfl rfl ?_
          refine g_aload_n 72 (gd rfl) rfl rfl ?_
          refine g_getA (q2 := 52) 75 (gd rfl) rfl rfl rfl rfl ?_
          refine g_iload_n 76 (gd rfl) rfl rfl ?_
          refine g_iaload 77 (gd rfl) rfl (n := 32) rfl (in_ix h3 rfl) (fun z76 e76 => ?_)
          have q76 : z11 = z76 := (e11).trans e76.symm
          subst q76
          refine g_iadd 78 (gd rfl) rfl (fun z77 e77 => ?_)
          refine g_iload 80 (gd rfl) rfl rfl ?_
          refine g_cmp_eq 83 85 (gd rfl) rfl rfl (fun c80 => ?_) (fun c80 => ?_)
          · skip
            refine g_lload 87 (gd rfl) rfl rfl ?_
            refine g_aload_n 88 (gd rfl) rfl rfl ?_
            refine g_getA (q2 := 53) 91 (gd rfl) rfl rfl rfl rfl ?_
            refine g_iload_n 92 (gd rfl) rfl rfl ?_
            refine g_laload 93 (gd rfl) rfl (n := 32) rfl (in_ix h3 rfl) (fun z92 e92 => ?_)
            refine g_lmul 94 (gd rfl) rfl (fun z93 e93 => ?_)
            refine g_ldc2_w 1000000007 97 (gd rfl) rfl rfl ?_
            refine g_lrem 98 (gd rfl) rfl (by decide) (fun z97 e97 => ?_)
            have i97 := l_rem (-1000000006) 1000000006 e97 rfl
            refine g_l2i 99 (gd rfl) rfl (fun z98 e98 => ?_)
            exact g_ireturn (gd rfl) rfl rfl (hP _ _ ⟨s3, hI3, (fr_tr rfl fr_rf hF3), z98, rfl, rfl, in_w (-2147483648) 2147483647 (i_rng z98) rfl⟩)
          · skip
            refine g_iconst 0 84 (gd rfl) rfl rfl ?_
            exact g_ireturn (gd rfl) rfl rfl (hP _ _ ⟨s3, hI3, (fr_tr rfl fr_rf hF3), (Int32.ofInt 0), rfl, rfl, in_w (-2147483648) 2147483647 (in_c 0 rfl) rfl⟩)
      · skip
        refine g_aload_n 53 (gd rfl) rfl rfl ?_
        refine g_aload_n 54 (gd rfl) rfl rfl ?_
        refine g_iload 56 (gd rfl) rfl rfl ?_
        refine g_callv (X := _) (As := [.ref (A 2), .int x4]) (r := []) (b := A 49) (q := 49) 59 (gd rfl) rfl rfl rfl rfl rfl (ww_o rfl) (Nat.le_of_ble_eq_true rfl) (Nat.zero_le _) (Nat.zero_le _) (k_204_49_2 (by first | exact dq1 hd rfl | exact dq0 hd rfl | exact dq2 hd rfl | exact dq3 hd rfl | omega) hI3 (in_w 0 31 h4 rfl)) (fun e u h => h) (fun v u h => ?_)
        obtain ⟨s56, hI56, hF56, rfl, rfl⟩ := h
        show GG _ _ _ _ _ _ _ _ [] _ _ _
        refine g_aload_n 60 (gd rfl) rfl rfl ?_
        refine g_getA (q2 := 52) 63 (gd rfl) rfl rfl rfl rfl ?_
        refine g_iload_n 64 (gd rfl) rfl rfl ?_
        refine g_iaload 65 (gd rfl) rfl (n := 32) rfl (in_ix h3 rfl) (fun z64 e64 => ?_)
        refine g_iconst (-1) 66 (gd rfl) rfl rfl ?_
        refine g_cmp_eq 69 83 (gd rfl) rfl rfl (fun c66 => ?_) (fun c66 => ?_)
        · skip
          have i66 := r_eq1 (-1) (-1) c66 (i_rng z64) (in_c (-1) rfl) rfl
          refine g_iconst 0 84 (gd rfl) rfl rfl ?_
          exact g_ireturn (gd rfl) rfl rfl (hP _ _ ⟨s56, hI56, (fr_tr rfl (fr_tr rfl fr_rf hF3) hF56), (Int32.ofInt 0), rfl, rfl, in_w (-2147483648) 2147483647 (in_c 0 rfl) rfl⟩)
        · skip
          refine g_iload 71 (gd rfl) rfl rfl ?_
          refine g_aload_n 72 (gd rfl) rfl rfl ?_
          refine g_getA (q2 := 52) 75 (gd rfl) rfl rfl rfl rfl ?_
          refine g_iload_n 76 (gd rfl) rfl rfl ?_
          refine g_iaload 77 (gd rfl) rfl (n := 32) rfl (in_ix h3 rfl) (fun z76 e76 => ?_)
          have q76 : z64 = z76 := (e64).trans e76.symm
          subst q76
          refine g_iadd 78 (gd rfl) rfl (fun z77 e77 => ?_)
          refine g_iload 80 (gd rfl) rfl rfl ?_
          refine g_cmp_eq 83 85 (gd rfl) rfl rfl (fun c80 => ?_) (fun c80 => ?_)
          · skip
            refine g_lload 87 (gd rfl) rfl rfl ?_
            refine g_aload_n 88 (gd rfl) rfl rfl ?_
            refine g_getA (q2 := 53) 91 (gd rfl) rfl rfl rfl rfl ?_
            refine g_iload_n 92 (gd rfl) rfl rfl ?_
            refine g_laload 93 (gd rfl) rfl (n := 32) rfl (in_ix h3 rfl) (fun z92 e92 => ?_)
            refine g_lmul 94 (gd rfl) rfl (fun z93 e93 => ?_)
            refine g_ldc2_w 1000000007 97 (gd rfl) rfl rfl ?_
            refine g_lrem 98 (gd rfl) rfl (by decide) (fun z97 e97 => ?_)
            have i97 := l_rem (-1000000006) 1000000006 e97 rfl
            refine g_l2i 99 (gd rfl) rfl (fun z98 e98 => ?_)
            exact g_ireturn (gd rfl) rfl rfl (hP _ _ ⟨s56, hI56, (fr_tr rfl (fr_tr rfl fr_rf hF3) hF56), z98, rfl, rfl, in_w (-2147483648) 2147483647 (i_rng z98) rfl⟩)
          · skip
            refine g_iconst 0 84 (gd rfl) rfl rfl ?_
            exact g_ireturn (gd rfl) rfl rfl (hP _ _ ⟨s56, hI56, (fr_tr rfl (fr_tr rfl fr_rf hF3) hF56), (Int32.ofInt 0), rfl, rfl, in_w (-2147483648) 2147483647 (in_c 0 rfl) rfl⟩)
    · skip
      have i41 := r_eq1 (-1) (-1) c41 (i_rng z20) (in_c (-1) rfl) rfl
      refine g_iconst 0 45 (gd rfl) rfl rfl ?_
      exact g_ireturn (gd rfl) rfl rfl (hP _ _ ⟨s3, hI3, (fr_tr rfl fr_rf hF3), (Int32.ofInt 0), rfl, rfl, in_w (-2147483648) 2147483647 (in_c 0 rfl) rfl⟩)

def fm_203_49_32 : FM := ([39, 40, 41, 42, 43, 44, 45, 52, 54], [53], [(32, 4)], [])
/-- GraphHouse$Ways.countBy -/
theorem k_203_49_32 {Z : AmZ} {A : Nat → Nat} {s : GS} {ex : va_W} {d : Nat} {X : AmX} {x2 : Int32} {x3 : Int32} {x4 : Int32} (hd : 5 ≤ d) (hI : Inv s) (h2 : In x2 0 31) (h3 : In x3 0 31) (h4 : In x4 0 31) : GC Z d 203 [.ref (A 49), .ref (A 32), .int x2, .int x3, .int x4] (WW Z A s ++ ex) 0 0 (fun v u => ∃ t : GS, Inv t ∧ Fr fm_203_49_32 s t ∧ ∃ z : Int32, v = some (.int z) ∧ u = WW Z A t ++ ex ∧ In z (-2147483648) 2147483647) X := by
  intro post xp hP hX
  refine g_enter2 (k := 203) (N := 900) (by first | exact dq1 hd rfl | exact dq0 hd rfl | exact dq2 hd rfl | exact dq3 hd rfl | omega) rfl (Nat.le_of_ble_eq_true rfl) ?_
  refine g_aload_n 1 (gd rfl) rfl rfl ?_
  refine g_aload_n 2 (gd rfl) rfl rfl ?_
  refine g_iload_n 3 (gd rfl) rfl rfl ?_
  refine g_callv (X := _) (As := [.ref (A 32), .int x2]) (r := []) (b := A 49) (q := 49) 6 (gd rfl) rfl rfl rfl rfl rfl (ww_o rfl) (Nat.le_of_ble_eq_true rfl) (Nat.zero_le _) (Nat.zero_le _) (k_204_49_32 (by first | exact dq1 hd rfl | exact dq0 hd rfl | exact dq2 hd rfl | exact dq3 hd rfl | omega) hI (in_w 0 31 h2 rfl)) (fun e u h => h) (fun v u h => ?_)
  obtain ⟨s3, hI3, hF3, rfl, rfl⟩ := h
  show GG _ _ _ _ _ _ _ _ [] _ _ _
  refine g_aload_n 7 (gd rfl) rfl rfl ?_
  refine g_getA (q2 := 52) 10 (gd rfl) rfl rfl rfl rfl ?_
  refine g_iload_n 11 (gd rfl) rfl rfl ?_
  refine g_iaload 12 (gd rfl) rfl (n := 32) rfl (in_ix h3 rfl) (fun z11 e11 => ?_)
  refine g_istore 14 (gd rfl) rfl (Nat.le_of_ble_eq_true rfl) ?_
  refine g_aload_n 15 (gd rfl) rfl rfl ?_
  refine g_getA (q2 := 52) 18 (gd rfl) rfl rfl rfl rfl ?_
  refine g_iload 20 (gd rfl) rfl rfl ?_
  refine g_iaload 21 (gd rfl) rfl (n := 32) rfl (in_ix h4 rfl) (fun z20 e20 => ?_)
  refine g_istore 23 (gd rfl) rfl (Nat.le_of_ble_eq_true rfl) ?_
  refine g_aload_n 24 (gd rfl) rfl rfl ?_
  refine g_getA (q2 := 53) 27 (gd rfl) rfl rfl rfl rfl ?_
  refine g_iload 29 (gd rfl) rfl rfl ?_
  refine g_laload 30 (gd rfl) rfl (n := 32) rfl (in_ix h4 rfl) (fun z29 e29 => ?_)
  refine g_lstore 32 (gd rfl) rfl (Nat.le_of_ble_eq_true rfl) ?_
  refine g_iload 34 (gd rfl) rfl rfl ?_
  refine g_iconst (-1) 35 (gd rfl) rfl rfl ?_
  refine g_cmp_eq 38 44 (gd rfl) rfl rfl (fun c35 => ?_) (fun c35 => ?_)
  · skip
    have i35 := r_eq1 (-1) (-1) c35 (i_rng z11) (in_c (-1) rfl) rfl
    refine g_iconst 0 45 (gd rfl) rfl rfl ?_
    exact g_ireturn (gd rfl) rfl rfl (hP _ _ ⟨s3, hI3, (fr_tr rfl fr_rf hF3), (Int32.ofInt 0), rfl, rfl, in_w (-2147483648) 2147483647 (in_c 0 rfl) rfl⟩)
  · skip
    refine g_iload 40 (gd rfl) rfl rfl ?_
    refine g_iconst (-1) 41 (gd rfl) rfl rfl ?_
    refine g_cmp_ne 44 46 (gd rfl) rfl rfl (fun c41 => ?_) (fun c41 => ?_)
    · skip
      refine g_iload 48 (gd rfl) rfl rfl ?_
      refine g_iload_n 49 (gd rfl) rfl rfl ?_
      refine g_cmp_eq 52 59 (gd rfl) rfl rfl (fun c49 => ?_) (fun c49 => ?_)
      · skip
        refine g_aload_n 60 (gd rfl) rfl rfl ?_
        refine g_getA (q2 := 52) 63 (gd rfl) rfl rfl rfl rfl ?_
        refine g_iload_n 64 (gd rfl) rfl rfl ?_
        refine g_iaload 65 (gd rfl) rfl (n := 32) rfl (in_ix h3 rfl) (fun z64 e64 => ?_)
        have q64 : z11 = z64 := (e11).trans e64.symm
        subst q64
        refine g_iconst (-1) 66 (gd rfl) rfl rfl ?_
        refine g_cmp_eq 69 83 (gd rfl) rfl rfl (fun c66 => ?_) (fun c66 => ?_)
        · skip
          exact absurd c66 c35
        · skip
          refine g_iload 71 (gd rfl) rfl rfl ?_
          refine g_aload_n 72 (gd rfl) rfl rfl ?_
          refine g_getA (q2 := 52) 75 (gd rfl) rfl rfl rfl rfl ?_
          refine g_iload_n 76 (gd rfl) rfl rfl ?_
          refine g_iaload 77 (gd rfl) rfl (n := 32) rfl (in_ix h3 rfl) (fun z76 e76 => ?_)
          have q76 : z11 = z76 := (e11).trans e76.symm
          subst q76
          refine g_iadd 78 (gd rfl) rfl (fun z77 e77 => ?_)
          refine g_iload 80 (gd rfl) rfl rfl ?_
          refine g_cmp_eq 83 85 (gd rfl) rfl rfl (fun c80 => ?_) (fun c80 => ?_)
          · skip
            refine g_lload 87 (gd rfl) rfl rfl ?_
            refine g_aload_n 88 (gd rfl) rfl rfl ?_
            refine g_getA (q2 := 53) 91 (gd rfl) rfl rfl rfl rfl ?_
            refine g_iload_n 92 (gd rfl) rfl rfl ?_
            refine g_laload 93 (gd rfl) rfl (n := 32) rfl (in_ix h3 rfl) (fun z92 e92 => ?_)
            refine g_lmul 94 (gd rfl) rfl (fun z93 e93 => ?_)
            refine g_ldc2_w 1000000007 97 (gd rfl) rfl rfl ?_
            refine g_lrem 98 (gd rfl) rfl (by decide) (fun z97 e97 => ?_)
            have i97 := l_rem (-1000000006) 1000000006 e97 rfl
            refine g_l2i 99 (gd rfl) rfl (fun z98 e98 => ?_)
            exact g_ireturn (gd rfl) rfl rfl (hP _ _ ⟨s3, hI3, (fr_tr rfl fr_rf hF3), z98, rfl, rfl, in_w (-2147483648) 2147483647 (i_rng z98) rfl⟩)
          · skip
            refine g_iconst 0 84 (gd rfl) rfl rfl ?_
            exact g_ireturn (gd rfl) rfl rfl (hP _ _ ⟨s3, hI3, (fr_tr rfl fr_rf hF3), (Int32.ofInt 0), rfl, rfl, in_w (-2147483648) 2147483647 (in_c 0 rfl) rfl⟩)
      · skip
        refine g_aload_n 53 (gd rfl) rfl rfl ?_
        refine g_aload_n 54 (gd rfl) rfl rfl ?_
        refine g_iload 56 (gd rfl) rfl rfl ?_
        refine g_callv (X := _) (As := [.ref (A 32), .int x4]) (r := []) (b := A 49) (q := 49) 59 (gd rfl) rfl rfl rfl rfl rfl (ww_o rfl) (Nat.le_of_ble_eq_true rfl) (Nat.zero_le _) (Nat.zero_le _) (k_204_49_32 (by first | exact dq1 hd rfl | exact dq0 hd rfl | exact dq2 hd rfl | exact dq3 hd rfl | omega) hI3 (in_w 0 31 h4 rfl)) (fun e u h => h) (fun v u h => ?_)
        obtain ⟨s56, hI56, hF56, rfl, rfl⟩ := h
        show GG _ _ _ _ _ _ _ _ [] _ _ _
        refine g_aload_n 60 (gd rfl) rfl rfl ?_
        refine g_getA (q2 := 52) 63 (gd rfl) rfl rfl rfl rfl ?_
        refine g_iload_n 64 (gd rfl) rfl rfl ?_
        refine g_iaload 65 (gd rfl) rfl (n := 32) rfl (in_ix h3 rfl) (fun z64 e64 => ?_)
        refine g_iconst (-1) 66 (gd rfl) rfl rfl ?_
        refine g_cmp_eq 69 83 (gd rfl) rfl rfl (fun c66 => ?_) (fun c66 => ?_)
        · skip
          have i66 := r_eq1 (-1) (-1) c66 (i_rng z64) (in_c (-1) rfl) rfl
          refine g_iconst 0 84 (gd rfl) rfl rfl ?_
          exact g_ireturn (gd rfl) rfl rfl (hP _ _ ⟨s56, hI56, (fr_tr rfl (fr_tr rfl fr_rf hF3) hF56), (Int32.ofInt 0), rfl, rfl, in_w (-2147483648) 2147483647 (in_c 0 rfl) rfl⟩)
        · skip
          refine g_iload 71 (gd rfl) rfl rfl ?_
          refine g_aload_n 72 (gd rfl) rfl rfl ?_
          refine g_getA (q2 := 52) 75 (gd rfl) rfl rfl rfl rfl ?_
          refine g_iload_n 76 (gd rfl) rfl rfl ?_
          refine g_iaload 77 (gd rfl) rfl (n := 32) rfl (in_ix h3 rfl) (fun z76 e76 => ?_)
          have q76 : z64 = z76 := (e64).trans e76.symm
          subst q76
          refine g_iadd 78 (gd rfl) rfl (fun z77 e77 => ?_)
          refine g_iload 80 (gd rfl) rfl rfl ?_
          refine g_cmp_eq 83 85 (gd rfl) rfl rfl (fun c80 => ?_) (fun c80 => ?_)
          · skip
            refine g_lload 87 (gd rfl) rfl rfl ?_
            refine g_aload_n 88 (gd rfl) rfl rfl ?_
            refine g_getA (q2 := 53) 91 (gd rfl) rfl rfl rfl rfl ?_
            refine g_iload_n 92 (gd rfl) rfl rfl ?_
            refine g_laload 93 (gd rfl) rfl (n := 32) rfl (in_ix h3 rfl) (fun z92 e92 => ?_)
            refine g_lmul 94 (gd rfl) rfl (fun z93 e93 => ?_)
            refine g_ldc2_w 1000000007 97 (gd rfl) rfl rfl ?_
            refine g_lrem 98 (gd rfl) rfl (by decide) (fun z97 e97 => ?_)
            have i97 := l_rem (-1000000006) 1000000006 e97 rfl
            refine g_l2i 99 (gd rfl) rfl (fun z98 e98 => ?_)
            exact g_ireturn (gd rfl) rfl rfl (hP _ _ ⟨s56, hI56, (fr_tr rfl (fr_tr rfl fr_rf hF3) hF56), z98, rfl, rfl, in_w (-2147483648) 2147483647 (i_rng z98) rfl⟩)
          · skip
            refine g_iconst 0 84 (gd rfl) rfl rfl ?_
            exact g_ireturn (gd rfl) rfl rfl (hP _ _ ⟨s56, hI56, (fr_tr rfl (fr_tr rfl fr_rf hF3) hF56), (Int32.ofInt 0), rfl, rfl, in_w (-2147483648) 2147483647 (in_c 0 rfl) rfl⟩)
    · skip
      have i41 := r_eq1 (-1) (-1) c41 (i_rng z20) (in_c (-1) rfl) rfl
      refine g_iconst 0 45 (gd rfl) rfl rfl ?_
      exact g_ireturn (gd rfl) rfl rfl (hP _ _ ⟨s3, hI3, (fr_tr rfl fr_rf hF3), (Int32.ofInt 0), rfl, rfl, in_w (-2147483648) 2147483647 (in_c 0 rfl) rfl⟩)

def fm_208_49_2 : FM := ([], [55], [(49, 11)], [])
/-- GraphHouse$Ways.gather -/
theorem k_208_49_2_r {Z : AmZ} {A : Nat → Nat} {ex : va_W} (kk : Nat) : ∀ {s : GS} {d : Nat} {X : AmX} {x2 : Int32} {x3 : Int32} {x4 : Int32} {x5 : Int64}, 6 + kk * 3 ≤ d → Inv s → In x2 0 31 → In x4 0 4 → 4 - (x4).toInt < (kk : Int) → GC Z d 208 [.ref (A 49), .ref (A 2), .int x2, .int x3, .int x4, .long x5] (WW Z A s ++ ex) 0 0 (fun v u => ∃ t : GS, Inv t ∧ Fr fm_208_49_2 s t ∧ v = none ∧ u = WW Z A t ++ ex) X := by
  induction kk with
  | zero => intro s d X x2 x3 x4 x5 hd hI h2 h4 hm; exact m_no hm h4 rfl
  | succ kk ih =>
    intro s d X x2 x3 x4 x5 hd hI h2 h4 hm
    intro post xp hP hX
    obtain ⟨u_49_10, e_49_10⟩ : ∃ w, w = s.2.2.1 49 10 := ⟨_, rfl⟩
    have ro_49_10 := inv_F hI 0 31 rfl e_49_10
    have ct8 : ∀ (k8 : Nat) (sc8 : GS) (y8_7 : Int32), Inv sc8 → Fr fm_208_49_2 s sc8 → (In y8_7 0 160) → 160 - (y8_7).toInt < (k8 : Int) → GG Z (d - 1) 208 post (gx xp) (1 + k8 * 900) 8 (fun j => xlook j [(0, .ref (A 49)), (1, .ref (A 2)), (2, .int x2), (3, .int x3), (4, .int x4), (5, .long x5), (7, .int y8_7)]) [] (WW Z A sc8 ++ ex) 0 0 := by
      intro k8
      induction k8 with
      | zero => intro sc8 y8_7 hIc8 hFc8 j8_7 mm8; exact m_no mm8 j8_7 rfl
      | succ k8 ih8 =>
        intro sc8 y8_7 hIc8 hFc8 j8_7 mm8
        refine gg_w (M := 1 + k8 * 900 + 900) gws ?_
        refine g_iload 10 (gd rfl) rfl rfl ?_
        refine g_aload_n 11 (gd rfl) rfl rfl ?_
        refine g_getA (q2 := 12) 14 (gd rfl) rfl rfl rfl rfl ?_
        refine g_iload_n 15 (gd rfl) rfl rfl ?_
        refine g_iconst 1 16 (gd rfl) rfl rfl ?_
        refine g_iadd 17 (gd rfl) rfl (fun z16 e16 => ?_)
        have i16 := in_add 1 32 e16 h2 (in_c 1 rfl) rfl rfl
        refine g_iaload 18 (gd rfl) rfl (n := 33) rfl (in_ix i16 rfl) (fun z17 e17 => ?_)
        have i17 := inv_I hIc8 (n := 33) (t := 0) 0 160 rfl (in_ix i16 rfl) rfl e17
        refine g_cmp_ge 21 184 (gd rfl) rfl rfl (fun c18 => ?_) (fun c18 => ?_)
        · skip
          exact g_return (gd rfl) rfl (hP _ _ ⟨sc8, hIc8, hFc8, rfl, rfl⟩)
        · skip
          have i18 := r_lt1 0 159 c18 j8_7 i17 rfl
          have i18a := r_lt2 1 160 c18 j8_7 i17 rfl
          refine g_aload_n 22 (gd rfl) rfl rfl ?_
          refine g_getI 25 (gd rfl) rfl rfl rfl (fun z22 e22 => ?_)
          have i22 := inv_F hIc8 0 2001 rfl e22
          refine g_sipush 2000 28 (gd rfl) rfl rfl ?_
          refine g_cmp_gt 31 184 (gd rfl) rfl rfl (fun c28 => ?_) (fun c28 => ?_)
          · skip
            have i28 := r_lt2 2001 2001 c28 (in_c 2000 rfl) i22 rfl
            exact g_return (gd rfl) rfl (hP _ _ ⟨sc8, hIc8, hFc8, rfl, rfl⟩)
          · skip
            have i28 := r_le1 0 2000 c28 i22 (in_c 2000 rfl) rfl
            refine g_iload 33 (gd rfl) rfl rfl ?_
            refine g_iconst 4 34 (gd rfl) rfl rfl ?_
            refine g_cmp_ge 37 184 (gd rfl) rfl rfl (fun c34 => ?_) (fun c34 => ?_)
            · skip
              have i34 := r_le2 4 4 c34 (in_c 4 rfl) h4 rfl
              exact g_return (gd rfl) rfl (hP _ _ ⟨sc8, hIc8, hFc8, rfl, rfl⟩)
            · skip
              have i34 := r_lt1 0 3 c34 h4 (in_c 4 rfl) rfl
              refine g_aload_n 38 (gd rfl) rfl rfl ?_
              refine g_getA (q2 := 13) 41 (gd rfl) rfl rfl rfl rfl ?_
              refine g_iload 43 (gd rfl) rfl rfl ?_
              refine g_iaload 44 (gd rfl) rfl (n := 160) rfl (in_ix i18 rfl) (fun z43 e43 => ?_)
              have i43 := inv_I hIc8 (n := 160) (t := 0) 0 159 rfl (in_ix i18 rfl) rfl e43
              refine g_istore 46 (gd rfl) rfl (Nat.le_of_ble_eq_true rfl) ?_
              refine g_aload_n 47 (gd rfl) rfl rfl ?_
              refine g_getA (q2 := 5) 50 (gd rfl) rfl rfl rfl rfl ?_
              refine g_iload 52 (gd rfl) rfl rfl ?_
              refine g_iaload 53 (gd rfl) rfl (n := 160) rfl (in_ix i43 rfl) (fun z52 e52 => ?_)
              have i52 := inv_I hIc8 (n := 160) (t := 0) 0 31 rfl (in_ix i43 rfl) rfl e52
              refine g_istore 55 (gd rfl) rfl (Nat.le_of_ble_eq_true rfl) ?_
              refine g_lload 57 (gd rfl) rfl rfl ?_
              refine g_aload_n 58 (gd rfl) rfl rfl ?_
              refine g_getA (q2 := 6) 61 (gd rfl) rfl rfl rfl rfl ?_
              refine g_iload 63 (gd rfl) rfl rfl ?_
              refine g_iaload 64 (gd rfl) rfl (n := 160) rfl (in_ix i43 rfl) (fun z63 e63 => ?_)
              have i63 := inv_I hIc8 (n := 160) (t := 0) (-1000000) 1000000 rfl (in_ix i43 rfl) rfl e63
              refine g_i2l 65 (gd rfl) rfl (fun z64 e64 => ?_)
              have i64 := l_i e64 i63
              refine g_bipush 35 67 (gd rfl) rfl rfl ?_
              refine g_lshl 68 (gd rfl) rfl (fun z67 e67 => ?_)
              refine g_ladd 69 (gd rfl) rfl (fun z68 e68 => ?_)
              refine g_iload 71 (gd rfl) rfl rfl ?_
              refine g_i2l 72 (gd rfl) rfl (fun z71 e71 => ?_)
              have i71 := l_i e71 i43
              refine g_bipush 24 74 (gd rfl) rfl rfl ?_
              refine g_bipush 8 76 (gd rfl) rfl rfl ?_
              refine g_iload 78 (gd rfl) rfl rfl ?_
              refine g_imul 79 (gd rfl) rfl (fun z78 e78 => ?_)
              have i78 := in_mulc 8 0 24 (Or.inl e78) i34 rfl rfl
              refine g_isub 80 (gd rfl) rfl (fun z79 e79 => ?_)
              have i79 := in_sub 0 24 e79 (in_c 24 rfl) i78 rfl rfl
              refine g_lshl 81 (gd rfl) rfl (fun z80 e80 => ?_)
              refine g_ladd 82 (gd rfl) rfl (fun z81 e81 => ?_)
              refine g_lstore 84 (gd rfl) rfl (Nat.le_of_ble_eq_true rfl) ?_
              refine g_iload 86 (gd rfl) rfl rfl ?_
              refine g_aload_n 87 (gd rfl) rfl rfl ?_
              refine g_getI 90 (gd rfl) rfl rfl rfl (fun z87 e87 => ?_)
              have q87 : u_49_10 = z87 := (fr_F e_49_10 hFc8 rfl).trans e87.symm
              subst q87
              refine g_cmp_ne 93 130 (gd rfl) rfl rfl (fun c90 => ?_) (fun c90 => ?_)
              · skip
                refine g_iload_n 131 (gd rfl) rfl rfl ?_
                refine g_iload 133 (gd rfl) rfl rfl ?_
                refine g_ishr 134 (gd rfl) rfl (fun z133 e133 => ?_)
                refine g_iconst 1 135 (gd rfl) rfl rfl ?_
                refine g_iand 136 (gd rfl) rfl (fun z135 e135 => ?_)
                have i135 := in_and2 e135 (in_c 1 rfl) rfl
                refine g_if_ne 139 178 (gd rfl) rfl rfl (fun c136 => ?_) (fun c136 => ?_)
                · skip
                  have i136 := z_ne 1 1 c136 i135 rfl
                  refine g_iinc 181 (gd rfl) rfl rfl (Nat.le_of_ble_eq_true rfl) (fun z178 e178 => ?_)
                  have i178 := in_add 1 160 e178 i18 (in_c 1 rfl) rfl rfl
                  refine g_goto 8 (gd rfl) rfl ?_
                  exact gg_w (by first | exact Nat.le_add_right _ _ | exact gw2 | exact gw3 | exact gwe rfl | exact gwf rfl | exact gwg rfl | exact gwh rfl | omega) (gg_f (gf_cons rfl (gf_cons rfl (gf_cons rfl (gf_cons rfl (gf_cons rfl (gf_cons rfl (gf_cons rfl gf_nil))))))) (ih8 sc8 z178 hIc8 hFc8 (in_w 0 160 i178 rfl) (m_up mm8 (t_add e178 i18 (in_c 1 rfl) rfl) (in_w 1 1 (in_c 1 rfl) rfl))))
                · skip
                  have i136 := z_eq 0 0 c136 i135 rfl
                  refine g_aload_n 140 (gd rfl) rfl rfl ?_
                  refine g_aload_n 141 (gd rfl) rfl rfl ?_
                  refine g_iload 143 (gd rfl) rfl rfl ?_
                  refine g_iload_n 144 (gd rfl) rfl rfl ?_
                  refine g_iconst 1 145 (gd rfl) rfl rfl ?_
                  refine g_iload 147 (gd rfl) rfl rfl ?_
                  refine g_ishl 148 (gd rfl) rfl (fun z147 e147 => ?_)
                  refine g_ior 149 (gd rfl) rfl (fun z148 e148 => ?_)
                  refine g_iconst 3 150 (gd rfl) rfl rfl ?_
                  refine g_iload 152 (gd rfl) rfl rfl ?_
                  refine g_isub 153 (gd rfl) rfl (fun z152 e152 => ?_)
                  have i152 := in_sub 0 3 e152 (in_c 3 rfl) i34 rfl rfl
                  refine g_callv (X := _) (As := [.ref (A 2), .int z52, .int z148, .int z152]) (r := []) (b := A 49) (q := 49) 156 (gd rfl) rfl rfl rfl rfl rfl (ww_o rfl) (Nat.le_of_ble_eq_true rfl) (Nat.zero_le _) (Nat.zero_le _) (k_209_49_2 (by first | exact dq1 hd rfl | exact dq0 hd rfl | exact dq2 hd rfl | exact dq3 hd rfl | omega) hIc8 (in_w 0 31 i52 rfl) (in_w 0 3 i152 rfl)) (fun e u h => h) (fun v u h => ?_)
                  obtain ⟨z153, rfl, rfl, i153⟩ := h
                  show GG _ _ _ _ _ _ _ _ [.int z153] _ _ _
                  refine g_if_eq 159 178 (gd rfl) rfl rfl (fun c156 => ?_) (fun c156 => ?_)
                  · skip
                    have i156 := z_eq 0 0 c156 i153 rfl
                    refine g_iinc 181 (gd rfl) rfl rfl (Nat.le_of_ble_eq_true rfl) (fun z178 e178 => ?_)
                    have i178 := in_add 1 160 e178 i18 (in_c 1 rfl) rfl rfl
                    refine g_goto 8 (gd rfl) rfl ?_
                    exact gg_w (by first | exact Nat.le_add_right _ _ | exact gw2 | exact gw3 | exact gwe rfl | exact gwf rfl | exact gwg rfl | exact gwh rfl | omega) (gg_f (gf_cons rfl (gf_cons rfl (gf_cons rfl (gf_cons rfl (gf_cons rfl (gf_cons rfl (gf_cons rfl gf_nil))))))) (ih8 sc8 z178 hIc8 hFc8 (in_w 0 160 i178 rfl) (m_up mm8 (t_add e178 i18 (in_c 1 rfl) rfl) (in_w 1 1 (in_c 1 rfl) rfl))))
                  · skip
                    have i156 := z_ne 1 1 c156 i153 rfl
                    refine g_aload_n 160 (gd rfl) rfl rfl ?_
                    refine g_aload_n 161 (gd rfl) rfl rfl ?_
                    refine g_iload 163 (gd rfl) rfl rfl ?_
                    refine g_iload_n 164 (gd rfl) rfl rfl ?_
                    refine g_iconst 1 165 (gd rfl) rfl rfl ?_
                    refine g_iload 167 (gd rfl) rfl rfl ?_
                    refine g_ishl 168 (gd rfl) rfl (fun z167 e167 => ?_)
                    refine g_ior 169 (gd rfl) rfl (fun z168 e168 => ?_)
                    refine g_iload 171 (gd rfl) rfl rfl ?_
                    refine g_iconst 1 172 (gd rfl) rfl rfl ?_
                    refine g_iadd 173 (gd rfl) rfl (fun z172 e172 => ?_)
                    have i172 := in_add 1 4 e172 i34 (in_c 1 rfl) rfl rfl
                    refine g_lload 175 (gd rfl) rfl rfl ?_
                    have n175 : 4 - (z172).toInt < ((kk : Nat) : Int) := by have a0 := oa8 i34 h2 ro_49_10 i18 i52 i43 i28 i172; have a8 := t_add e172 i34 (in_c 1 rfl) rfl; have a9 := oa2 ((in_c 1 rfl)) i152; have a11 := t_sub e152 (in_c 3 rfl) i34 rfl; have a12 := oa2 ((in_c 3 rfl)) i79; have a14 := t_sub e79 (in_c 24 rfl) i78 rfl; have a15 := in_u i78; have a16 := (t_mulc 8 (Or.inl e78) i34 rfl).1; have a17 := in_u ((in_c 24 rfl)); have a18 := tx_i2l e71; have a19 := tx_i2l e64; have a20 := oa2 i63 i16; have a22 := t_add e16 h2 (in_c 1 rfl) rfl; omega
                    refine g_callv (X := _) (As := [.ref (A 2), .int z52, .int z168, .int z172, .long z81]) (r := []) (b := A 49) (q := 49) 178 (gd rfl) rfl rfl rfl rfl rfl (ww_o rfl) (Nat.le_of_ble_eq_true rfl) (Nat.zero_le _) (Nat.zero_le _) (ih (by omega) hIc8 (in_w 0 31 i52 rfl) (in_w 0 4 i172 rfl) n175) (fun e u h => h) (fun v u h => ?_)
                    obtain ⟨s175, hI175, hF175, rfl, rfl⟩ := h
                    show GG _ _ _ _ _ _ _ _ [] _ _ _
                    refine g_iinc 181 (gd rfl) rfl rfl (Nat.le_of_ble_eq_true rfl) (fun z178 e178 => ?_)
                    have i178 := in_add 1 160 e178 i18 (in_c 1 rfl) rfl rfl
                    refine g_goto 8 (gd rfl) rfl ?_
                    exact gg_w (by first | exact Nat.le_add_right _ _ | exact gw2 | exact gw3 | exact gwe rfl | exact gwf rfl | exact gwg rfl | exact gwh rfl | omega) (gg_f (gf_cons rfl (gf_cons rfl (gf_cons rfl (gf_cons rfl (gf_cons rfl (gf_cons rfl (gf_cons rfl gf_nil))))))) (ih8 s175 z178 hI175 (fr_tr rfl hFc8 hF175) (in_w 0 160 i178 rfl) (m_up mm8 (t_add e178 i18 (in_c 1 rfl) rfl) (in_w 1 1 (in_c 1 rfl) rfl))))
              · skip
                refine g_aload_n 94 (gd rfl) rfl rfl ?_
                refine g_getA (q2 := 55) 97 (gd rfl) rfl rfl rfl rfl ?_
                refine g_aload_n 98 (gd rfl) rfl rfl ?_
                refine g_getI 101 (gd rfl) rfl rfl rfl (fun z98 e98 => ?_)
                have q98 : z22 = z98 := (e22).trans e98.symm
                subst q98
                refine g_lload 103 (gd rfl) rfl rfl ?_
                refine g_ldc2_w 137438953472000000 106 (gd rfl) rfl rfl ?_
                refine g_ladd 107 (gd rfl) rfl (fun z106 e106 => ?_)
                refine g_iload 109 (gd rfl) rfl rfl ?_
                refine g_iconst 1 110 (gd rfl) rfl rfl ?_
                refine g_iadd 111 (gd rfl) rfl (fun z110 e110 => ?_)
                have i110 := in_add 1 4 e110 i34 (in_c 1 rfl) rfl rfl
                refine g_i2l 112 (gd rfl) rfl (fun z111 e111 => ?_)
                have i111 := l_i e111 i110
                refine g_bipush 32 114 (gd rfl) rfl rfl ?_
                refine g_lshl 115 (gd rfl) rfl (fun z114 e114 => ?_)
                refine g_ladd 116 (gd rfl) rfl (fun z115 e115 => ?_)
                refine g_lastore 117 (gd rfl) rfl (n := 2001) rfl (in_ix i28 rfl) ?_
                have hI116 := inv_sL (q := 55) (j := z22.toNatClampNeg) (x := z115) hIc8 rfl (l_rng z115)
                refine g_aload_n 118 (gd rfl) rfl rfl ?_
                refine g_dup 119 (gd rfl) rfl rfl ?_
                refine g_getI 122 (gd rfl) rfl rfl rfl (fun z119 e119 => ?_)
                have q119 : z22 = z119 := (sL_F (e22)).trans e119.symm
                subst q119
                refine g_iconst 1 123 (gd rfl) rfl rfl ?_
                refine g_iadd 124 (gd rfl) rfl (fun z123 e123 => ?_)
                have i123 := in_add 1 2001 e123 i28 (in_c 1 rfl) rfl rfl
                refine g_putI 127 (gd rfl) rfl rfl rfl rfl ?_
                have hI124 := inv_sF (q := 49) (j := 11) hI116 rfl (in_w 0 2001 i123 rfl)
                refine g_goto 178 (gd rfl) rfl ?_
                refine g_iinc 181 (gd rfl) rfl rfl (Nat.le_of_ble_eq_true rfl) (fun z178 e178 => ?_)
                have i178 := in_add 1 160 e178 i18 (in_c 1 rfl) rfl rfl
                refine g_goto 8 (gd rfl) rfl ?_
                exact gg_w (by first | exact Nat.le_add_right _ _ | exact gw2 | exact gw3 | exact gwe rfl | exact gwf rfl | exact gwg rfl | exact gwh rfl | omega) (gg_f (gf_cons rfl (gf_cons rfl (gf_cons rfl (gf_cons rfl (gf_cons rfl (gf_cons rfl (gf_cons rfl gf_nil))))))) (ih8 (sF (sL sc8 55 z22.toNatClampNeg z115) 49 11 z123) z178 hI124 (fr_sF rfl (fr_sL rfl hFc8)) (in_w 0 160 i178 rfl) (m_up mm8 (t_add e178 i18 (in_c 1 rfl) rfl) (in_w 1 1 (in_c 1 rfl) rfl))))
    refine g_enter2 (k := 208) (N := 145801) (by first | exact dq1 hd rfl | exact dq0 hd rfl | exact dq2 hd rfl | exact dq3 hd rfl | omega) rfl (Nat.le_of_ble_eq_true rfl) ?_
    refine g_aload_n 1 (gd rfl) rfl rfl ?_
    refine g_getA (q2 := 12) 4 (gd rfl) rfl rfl rfl rfl ?_
    refine g_iload_n 5 (gd rfl) rfl rfl ?_
    refine g_iaload 6 (gd rfl) rfl (n := 33) rfl (in_ix h2 rfl) (fun z5 e5 => ?_)
    have i5 := inv_I hI (n := 33) (t := 0) 0 160 rfl (in_ix h2 rfl) rfl e5
    refine g_istore 8 (gd rfl) rfl (Nat.le_of_ble_eq_true rfl) ?_
    exact gg_w (by first | exact Nat.le_of_ble_eq_true rfl | omega) (gg_f (gf_cons rfl (gf_cons rfl (gf_cons rfl (gf_cons rfl (gf_cons rfl (gf_cons rfl (gf_cons rfl gf_nil))))))) (ct8 161 s z5 hI fr_rf (in_w 0 160 i5 rfl) (m_in 161 (in_w 0 160 i5 rfl) rfl)))
theorem k_208_49_2 {Z : AmZ} {A : Nat → Nat} {s : GS} {ex : va_W} {d : Nat} {X : AmX} {x2 : Int32} {x3 : Int32} {x4 : Int32} {x5 : Int64} (hd : 21 ≤ d) (hI : Inv s) (h2 : In x2 0 31) (h4 : In x4 0 4) : GC Z d 208 [.ref (A 49), .ref (A 2), .int x2, .int x3, .int x4, .long x5] (WW Z A s ++ ex) 0 0 (fun v u => ∃ t : GS, Inv t ∧ Fr fm_208_49_2 s t ∧ v = none ∧ u = WW Z A t ++ ex) X := k_208_49_2_r 5 (by omega) hI h2 h4 (m_in 5 h4 rfl)

def fm_208_49_32 : FM := ([], [55], [(49, 11)], [])
/-- GraphHouse$Ways.gather -/
theorem k_208_49_32_r {Z : AmZ} {A : Nat → Nat} {ex : va_W} (kk : Nat) : ∀ {s : GS} {d : Nat} {X : AmX} {x2 : Int32} {x3 : Int32} {x4 : Int32} {x5 : Int64}, 6 + kk * 3 ≤ d → Inv s → In x2 0 31 → In x4 0 4 → 4 - (x4).toInt < (kk : Int) → GC Z d 208 [.ref (A 49), .ref (A 32), .int x2, .int x3, .int x4, .long x5] (WW Z A s ++ ex) 0 0 (fun v u => ∃ t : GS, Inv t ∧ Fr fm_208_49_32 s t ∧ v = none ∧ u = WW Z A t ++ ex) X := by
  induction kk with
  | zero => intro s d X x2 x3 x4 x5 hd hI h2 h4 hm; exact m_no hm h4 rfl
  | succ kk ih =>
    intro s d X x2 x3 x4 x5 hd hI h2 h4 hm
    intro post xp hP hX
    obtain ⟨u_49_10, e_49_10⟩ : ∃ w, w = s.2.2.1 49 10 := ⟨_, rfl⟩
    have ro_49_10 := inv_F hI 0 31 rfl e_49_10
    have ct8 : ∀ (k8 : Nat) (sc8 : GS) (y8_7 : Int32), Inv sc8 → Fr fm_208_49_32 s sc8 → (In y8_7 0 160) → 160 - (y8_7).toInt < (k8 : Int) → GG Z (d - 1) 208 post (gx xp) (1 + k8 * 900) 8 (fun j => xlook j [(0, .ref (A 49)), (1, .ref (A 32)), (2, .int x2), (3, .int x3), (4, .int x4), (5, .long x5), (7, .int y8_7)]) [] (WW Z A sc8 ++ ex) 0 0 := by
      intro k8
      induction k8 with
      | zero => intro sc8 y8_7 hIc8 hFc8 j8_7 mm8; exact m_no mm8 j8_7 rfl
      | succ k8 ih8 =>
        intro sc8 y8_7 hIc8 hFc8 j8_7 mm8
        refine gg_w (M := 1 + k8 * 900 + 900) gws ?_
        refine g_iload 10 (gd rfl) rfl rfl ?_
        refine g_aload_n 11 (gd rfl) rfl rfl ?_
        refine g_getA (q2 := 42) 14 (gd rfl) rfl rfl rfl rfl ?_
        refine g_iload_n 15 (gd rfl) rfl rfl ?_
        refine g_iconst 1 16 (gd rfl) rfl rfl ?_
        refine g_iadd 17 (gd rfl) rfl (fun z16 e16 => ?_)
        have i16 := in_add 1 32 e16 h2 (in_c 1 rfl) rfl rfl
        refine g_iaload 18 (gd rfl) rfl (n := 33) rfl (in_ix i16 rfl) (fun z17 e17 => ?_)
        have i17 := inv_I hIc8 (n := 33) (t := 0) 0 160 rfl (in_ix i16 rfl) rfl e17
        refine g_cmp_ge 21 184 (gd rfl) rfl rfl (fun c18 => ?_) (fun c18 => ?_)
        · skip
          exact g_return (gd rfl) rfl (hP _ _ ⟨sc8, hIc8, hFc8, rfl, rfl⟩)
        · skip
          have i18 := r_lt1 0 159 c18 j8_7 i17 rfl
          have i18a := r_lt2 1 160 c18 j8_7 i17 rfl
          refine g_aload_n 22 (gd rfl) rfl rfl ?_
          refine g_getI 25 (gd rfl) rfl rfl rfl (fun z22 e22 => ?_)
          have i22 := inv_F hIc8 0 2001 rfl e22
          refine g_sipush 2000 28 (gd rfl) rfl rfl ?_
          refine g_cmp_gt 31 184 (gd rfl) rfl rfl (fun c28 => ?_) (fun c28 => ?_)
          · skip
            have i28 := r_lt2 2001 2001 c28 (in_c 2000 rfl) i22 rfl
            exact g_return (gd rfl) rfl (hP _ _ ⟨sc8, hIc8, hFc8, rfl, rfl⟩)
          · skip
            have i28 := r_le1 0 2000 c28 i22 (in_c 2000 rfl) rfl
            refine g_iload 33 (gd rfl) rfl rfl ?_
            refine g_iconst 4 34 (gd rfl) rfl rfl ?_
            refine g_cmp_ge 37 184 (gd rfl) rfl rfl (fun c34 => ?_) (fun c34 => ?_)
            · skip
              have i34 := r_le2 4 4 c34 (in_c 4 rfl) h4 rfl
              exact g_return (gd rfl) rfl (hP _ _ ⟨sc8, hIc8, hFc8, rfl, rfl⟩)
            · skip
              have i34 := r_lt1 0 3 c34 h4 (in_c 4 rfl) rfl
              refine g_aload_n 38 (gd rfl) rfl rfl ?_
              refine g_getA (q2 := 43) 41 (gd rfl) rfl rfl rfl rfl ?_
              refine g_iload 43 (gd rfl) rfl rfl ?_
              refine g_iaload 44 (gd rfl) rfl (n := 160) rfl (in_ix i18 rfl) (fun z43 e43 => ?_)
              have i43 := inv_I hIc8 (n := 160) (t := 0) 0 159 rfl (in_ix i18 rfl) rfl e43
              refine g_istore 46 (gd rfl) rfl (Nat.le_of_ble_eq_true rfl) ?_
              refine g_aload_n 47 (gd rfl) rfl rfl ?_
              refine g_getA (q2 := 35) 50 (gd rfl) rfl rfl rfl rfl ?_
              refine g_iload 52 (gd rfl) rfl rfl ?_
              refine g_iaload 53 (gd rfl) rfl (n := 160) rfl (in_ix i43 rfl) (fun z52 e52 => ?_)
              have i52 := inv_I hIc8 (n := 160) (t := 0) 0 31 rfl (in_ix i43 rfl) rfl e52
              refine g_istore 55 (gd rfl) rfl (Nat.le_of_ble_eq_true rfl) ?_
              refine g_lload 57 (gd rfl) rfl rfl ?_
              refine g_aload_n 58 (gd rfl) rfl rfl ?_
              refine g_getA (q2 := 36) 61 (gd rfl) rfl rfl rfl rfl ?_
              refine g_iload 63 (gd rfl) rfl rfl ?_
              refine g_iaload 64 (gd rfl) rfl (n := 160) rfl (in_ix i43 rfl) (fun z63 e63 => ?_)
              have i63 := inv_I hIc8 (n := 160) (t := 0) (-1000000) 1000000 rfl (in_ix i43 rfl) rfl e63
              refine g_i2l 65 (gd rfl) rfl (fun z64 e64 => ?_)
              have i64 := l_i e64 i63
              refine g_bipush 35 67 (gd rfl) rfl rfl ?_
              refine g_lshl 68 (gd rfl) rfl (fun z67 e67 => ?_)
              refine g_ladd 69 (gd rfl) rfl (fun z68 e68 => ?_)
              refine g_iload 71 (gd rfl) rfl rfl ?_
              refine g_i2l 72 (gd rfl) rfl (fun z71 e71 => ?_)
              have i71 := l_i e71 i43
              refine g_bipush 24 74 (gd rfl) rfl rfl ?_
              refine g_bipush 8 76 (gd rfl) rfl rfl ?_
              refine g_iload 78 (gd rfl) rfl rfl ?_
              refine g_imul 79 (gd rfl) rfl (fun z78 e78 => ?_)
              have i78 := in_mulc 8 0 24 (Or.inl e78) i34 rfl rfl
              refine g_isub 80 (gd rfl) rfl (fun z79 e79 => ?_)
              have i79 := in_sub 0 24 e79 (in_c 24 rfl) i78 rfl rfl
              refine g_lshl 81 (gd rfl) rfl (fun z80 e80 => ?_)
              refine g_ladd 82 (gd rfl) rfl (fun z81 e81 => ?_)
              refine g_lstore 84 (gd rfl) rfl (Nat.le_of_ble_eq_true rfl) ?_
              refine g_iload 86 (gd rfl) rfl rfl ?_
              refine g_aload_n 87 (gd rfl) rfl rfl ?_
              refine g_getI 90 (gd rfl) rfl rfl rfl (fun z87 e87 => ?_)
              have q87 : u_49_10 = z87 := (fr_F e_49_10 hFc8 rfl).trans e87.symm
              subst q87
              refine g_cmp_ne 93 130 (gd rfl) rfl rfl (fun c90 => ?_) (fun c90 => ?_)
              · skip
                refine g_iload_n 131 (gd rfl) rfl rfl ?_
                refine g_iload 133 (gd rfl) rfl rfl ?_
                refine g_ishr 134 (gd rfl) rfl (fun z133 e133 => ?_)
                refine g_iconst 1 135 (gd rfl) rfl rfl ?_
                refine g_iand 136 (gd rfl) rfl (fun z135 e135 => ?_)
                have i135 := in_and2 e135 (in_c 1 rfl) rfl
                refine g_if_ne 139 178 (gd rfl) rfl rfl (fun c136 => ?_) (fun c136 => ?_)
                · skip
                  have i136 := z_ne 1 1 c136 i135 rfl
                  refine g_iinc 181 (gd rfl) rfl rfl (Nat.le_of_ble_eq_true rfl) (fun z178 e178 => ?_)
                  have i178 := in_add 1 160 e178 i18 (in_c 1 rfl) rfl rfl
                  refine g_goto 8 (gd rfl) rfl ?_
                  exact gg_w (by first | exact Nat.le_add_right _ _ | exact gw2 | exact gw3 | exact gwe rfl | exact gwf rfl | exact gwg rfl | exact gwh rfl | omega) (gg_f (gf_cons rfl (gf_cons rfl (gf_cons rfl (gf_cons rfl (gf_cons rfl (gf_cons rfl (gf_cons rfl gf_nil))))))) (ih8 sc8 z178 hIc8 hFc8 (in_w 0 160 i178 rfl) (m_up mm8 (t_add e178 i18 (in_c 1 rfl) rfl) (in_w 1 1 (in_c 1 rfl) rfl))))
                · skip
                  have i136 := z_eq 0 0 c136 i135 rfl
                  refine g_aload_n 140 (gd rfl) rfl rfl ?_
                  refine g_aload_n 141 (gd rfl) rfl rfl ?_
                  refine g_iload 143 (gd rfl) rfl rfl ?_
                  refine g_iload_n 144 (gd rfl) rfl rfl ?_
                  refine g_iconst 1 145 (gd rfl) rfl rfl ?_
                  refine g_iload 147 (gd rfl) rfl rfl ?_
                  refine g_ishl 148 (gd rfl) rfl (fun z147 e147 => ?_)
                  refine g_ior 149 (gd rfl) rfl (fun z148 e148 => ?_)
                  refine g_iconst 3 150 (gd rfl) rfl rfl ?_
                  refine g_iload 152 (gd rfl) rfl rfl ?_
                  refine g_isub 153 (gd rfl) rfl (fun z152 e152 => ?_)
                  have i152 := in_sub 0 3 e152 (in_c 3 rfl) i34 rfl rfl
                  refine g_callv (X := _) (As := [.ref (A 32), .int z52, .int z148, .int z152]) (r := []) (b := A 49) (q := 49) 156 (gd rfl) rfl rfl rfl rfl rfl (ww_o rfl) (Nat.le_of_ble_eq_true rfl) (Nat.zero_le _) (Nat.zero_le _) (k_209_49_32 (by first | exact dq1 hd rfl | exact dq0 hd rfl | exact dq2 hd rfl | exact dq3 hd rfl | omega) hIc8 (in_w 0 31 i52 rfl) (in_w 0 3 i152 rfl)) (fun e u h => h) (fun v u h => ?_)
                  obtain ⟨z153, rfl, rfl, i153⟩ := h
                  show GG _ _ _ _ _ _ _ _ [.int z153] _ _ _
                  refine g_if_eq 159 178 (gd rfl) rfl rfl (fun c156 => ?_) (fun c156 => ?_)
                  · skip
                    have i156 := z_eq 0 0 c156 i153 rfl
                    refine g_iinc 181 (gd rfl) rfl rfl (Nat.le_of_ble_eq_true rfl) (fun z178 e178 => ?_)
                    have i178 := in_add 1 160 e178 i18 (in_c 1 rfl) rfl rfl
                    refine g_goto 8 (gd rfl) rfl ?_
                    exact gg_w (by first | exact Nat.le_add_right _ _ | exact gw2 | exact gw3 | exact gwe rfl | exact gwf rfl | exact gwg rfl | exact gwh rfl | omega) (gg_f (gf_cons rfl (gf_cons rfl (gf_cons rfl (gf_cons rfl (gf_cons rfl (gf_cons rfl (gf_cons rfl gf_nil))))))) (ih8 sc8 z178 hIc8 hFc8 (in_w 0 160 i178 rfl) (m_up mm8 (t_add e178 i18 (in_c 1 rfl) rfl) (in_w 1 1 (in_c 1 rfl) rfl))))
                  · skip
                    have i156 := z_ne 1 1 c156 i153 rfl
                    refine g_aload_n 160 (gd rfl) rfl rfl ?_
                    refine g_aload_n 161 (gd rfl) rfl rfl ?_
                    refine g_iload 163 (gd rfl) rfl rfl ?_
                    refine g_iload_n 164 (gd rfl) rfl rfl ?_
                    refine g_iconst 1 165 (gd rfl) rfl rfl ?_
                    refine g_iload 167 (gd rfl) rfl rfl ?_
                    refine g_ishl 168 (gd rfl) rfl (fun z167 e167 => ?_)
                    refine g_ior 169 (gd rfl) rfl (fun z168 e168 => ?_)
                    refine g_iload 171 (gd rfl) rfl rfl ?_
                    refine g_iconst 1 172 (gd rfl) rfl rfl ?_
                    refine g_iadd 173 (gd rfl) rfl (fun z172 e172 => ?_)
                    have i172 := in_add 1 4 e172 i34 (in_c 1 rfl) rfl rfl
                    refine g_lload 175 (gd rfl) rfl rfl ?_
                    have n175 : 4 - (z172).toInt < ((kk : Nat) : Int) := by have a0 := oa8 i34 h2 ro_49_10 i18 i52 i43 i28 i172; have a8 := t_add e172 i34 (in_c 1 rfl) rfl; have a9 := oa2 ((in_c 1 rfl)) i152; have a11 := t_sub e152 (in_c 3 rfl) i34 rfl; have a12 := oa2 ((in_c 3 rfl)) i79; have a14 := t_sub e79 (in_c 24 rfl) i78 rfl; have a15 := in_u i78; have a16 := (t_mulc 8 (Or.inl e78) i34 rfl).1; have a17 := in_u ((in_c 24 rfl)); have a18 := tx_i2l e71; have a19 := tx_i2l e64; have a20 := oa2 i63 i16; have a22 := t_add e16 h2 (in_c 1 rfl) rfl; omega
                    refine g_callv (X := _) (As := [.ref (A 32), .int z52, .int z168, .int z172, .long z81]) (r := []) (b := A 49) (q := 49) 178 (gd rfl) rfl rfl rfl rfl rfl (ww_o rfl) (Nat.le_of_ble_eq_true rfl) (Nat.zero_le _) (Nat.zero_le _) (ih (by omega) hIc8 (in_w 0 31 i52 rfl) (in_w 0 4 i172 rfl) n175) (fun e u h => h) (fun v u h => ?_)
                    obtain ⟨s175, hI175, hF175, rfl, rfl⟩ := h
                    show GG _ _ _ _ _ _ _ _ [] _ _ _
                    refine g_iinc 181 (gd rfl) rfl rfl (Nat.le_of_ble_eq_true rfl) (fun z178 e178 => ?_)
                    have i178 := in_add 1 160 e178 i18 (in_c 1 rfl) rfl rfl
                    refine g_goto 8 (gd rfl) rfl ?_
                    exact gg_w (by first | exact Nat.le_add_right _ _ | exact gw2 | exact gw3 | exact gwe rfl | exact gwf rfl | exact gwg rfl | exact gwh rfl | omega) (gg_f (gf_cons rfl (gf_cons rfl (gf_cons rfl (gf_cons rfl (gf_cons rfl (gf_cons rfl (gf_cons rfl gf_nil))))))) (ih8 s175 z178 hI175 (fr_tr rfl hFc8 hF175) (in_w 0 160 i178 rfl) (m_up mm8 (t_add e178 i18 (in_c 1 rfl) rfl) (in_w 1 1 (in_c 1 rfl) rfl))))
              · skip
                refine g_aload_n 94 (gd rfl) rfl rfl ?_
                refine g_getA (q2 := 55) 97 (gd rfl) rfl rfl rfl rfl ?_
                refine g_aload_n 98 (gd rfl) rfl rfl ?_
                refine g_getI 101 (gd rfl) rfl rfl rfl (fun z98 e98 => ?_)
                have q98 : z22 = z98 := (e22).trans e98.symm
                subst q98
                refine g_lload 103 (gd rfl) rfl rfl ?_
                refine g_ldc2_w 137438953472000000 106 (gd rfl) rfl rfl ?_
                refine g_ladd 107 (gd rfl) rfl (fun z106 e106 => ?_)
                refine g_iload 109 (gd rfl) rfl rfl ?_
                refine g_iconst 1 110 (gd rfl) rfl rfl ?_
                refine g_iadd 111 (gd rfl) rfl (fun z110 e110 => ?_)
                have i110 := in_add 1 4 e110 i34 (in_c 1 rfl) rfl rfl
                refine g_i2l 112 (gd rfl) rfl (fun z111 e111 => ?_)
                have i111 := l_i e111 i110
                refine g_bipush 32 114 (gd rfl) rfl rfl ?_
                refine g_lshl 115 (gd rfl) rfl (fun z114 e114 => ?_)
                refine g_ladd 116 (gd rfl) rfl (fun z115 e115 => ?_)
                refine g_lastore 117 (gd rfl) rfl (n := 2001) rfl (in_ix i28 rfl) ?_
                have hI116 := inv_sL (q := 55) (j := z22.toNatClampNeg) (x := z115) hIc8 rfl (l_rng z115)
                refine g_aload_n 118 (gd rfl) rfl rfl ?_
                refine g_dup 119 (gd rfl) rfl rfl ?_
                refine g_getI 122 (gd rfl) rfl rfl rfl (fun z119 e119 => ?_)
                have q119 : z22 = z119 := (sL_F (e22)).trans e119.symm
                subst q119
                refine g_iconst 1 123 (gd rfl) rfl rfl ?_
                refine g_iadd 124 (gd rfl) rfl (fun z123 e123 => ?_)
                have i123 := in_add 1 2001 e123 i28 (in_c 1 rfl) rfl rfl
                refine g_putI 127 (gd rfl) rfl rfl rfl rfl ?_
                have hI124 := inv_sF (q := 49) (j := 11) hI116 rfl (in_w 0 2001 i123 rfl)
                refine g_goto 178 (gd rfl) rfl ?_
                refine g_iinc 181 (gd rfl) rfl rfl (Nat.le_of_ble_eq_true rfl) (fun z178 e178 => ?_)
                have i178 := in_add 1 160 e178 i18 (in_c 1 rfl) rfl rfl
                refine g_goto 8 (gd rfl) rfl ?_
                exact gg_w (by first | exact Nat.le_add_right _ _ | exact gw2 | exact gw3 | exact gwe rfl | exact gwf rfl | exact gwg rfl | exact gwh rfl | omega) (gg_f (gf_cons rfl (gf_cons rfl (gf_cons rfl (gf_cons rfl (gf_cons rfl (gf_cons rfl (gf_cons rfl gf_nil))))))) (ih8 (sF (sL sc8 55 z22.toNatClampNeg z115) 49 11 z123) z178 hI124 (fr_sF rfl (fr_sL rfl hFc8)) (in_w 0 160 i178 rfl) (m_up mm8 (t_add e178 i18 (in_c 1 rfl) rfl) (in_w 1 1 (in_c 1 rfl) rfl))))
    refine g_enter2 (k := 208) (N := 145801) (by first | exact dq1 hd rfl | exact dq0 hd rfl | exact dq2 hd rfl | exact dq3 hd rfl | omega) rfl (Nat.le_of_ble_eq_true rfl) ?_
    refine g_aload_n 1 (gd rfl) rfl rfl ?_
    refine g_getA (q2 := 42) 4 (gd rfl) rfl rfl rfl rfl ?_
    refine g_iload_n 5 (gd rfl) rfl rfl ?_
    refine g_iaload 6 (gd rfl) rfl (n := 33) rfl (in_ix h2 rfl) (fun z5 e5 => ?_)
    have i5 := inv_I hI (n := 33) (t := 0) 0 160 rfl (in_ix h2 rfl) rfl e5
    refine g_istore 8 (gd rfl) rfl (Nat.le_of_ble_eq_true rfl) ?_
    exact gg_w (by first | exact Nat.le_of_ble_eq_true rfl | omega) (gg_f (gf_cons rfl (gf_cons rfl (gf_cons rfl (gf_cons rfl (gf_cons rfl (gf_cons rfl (gf_cons rfl gf_nil))))))) (ct8 161 s z5 hI fr_rf (in_w 0 160 i5 rfl) (m_in 161 (in_w 0 160 i5 rfl) rfl)))
theorem k_208_49_32 {Z : AmZ} {A : Nat → Nat} {s : GS} {ex : va_W} {d : Nat} {X : AmX} {x2 : Int32} {x3 : Int32} {x4 : Int32} {x5 : Int64} (hd : 21 ≤ d) (hI : Inv s) (h2 : In x2 0 31) (h4 : In x4 0 4) : GC Z d 208 [.ref (A 49), .ref (A 32), .int x2, .int x3, .int x4, .long x5] (WW Z A s ++ ex) 0 0 (fun v u => ∃ t : GS, Inv t ∧ Fr fm_208_49_32 s t ∧ v = none ∧ u = WW Z A t ++ ex) X := k_208_49_32_r 5 (by omega) hI h2 h4 (m_in 5 h4 rfl)

def fm_227_0 : FM := ([48], [], [(46, 9)], [])
def fm_229_0 : FM := ([9, 10, 11, 12, 13, 14, 15, 39, 40, 41, 42, 43, 44, 45], [50], [(2, 4), (32, 4), (49, 0), (49, 1), (49, 2)], [])
/-- GraphHouse.distance -/
theorem k_229_0 {Z : AmZ} {A : Nat → Nat} {s : GS} {ex : va_W} {d : Nat} {x1 : Int32} {x2 : Int32} (hd : 7 ≤ d) (hI : Inv s)  : GC Z d 229 [.ref (A 0), .int x1, .int x2] (WW Z A s ++ ex) 3 18 (fun v u => ∃ t : GS, Inv t ∧ Fr fm_229_0 s t ∧ ∃ z : Int64, v = some (.long z) ∧ u = WW Z A t ++ ex) (gE1 Z A ex fm_229_0 s) := by
  intro post xp hP hX
  obtain ⟨u_0_2, e_0_2⟩ : ∃ w, w = s.2.2.1 0 2 := ⟨_, rfl⟩
  have ro_0_2 := inv_F hI (-1) 4000 rfl e_0_2
  obtain ⟨u_2_1, e_2_1⟩ : ∃ w, w = s.2.2.1 2 1 := ⟨_, rfl⟩
  have ro_2_1 := inv_F hI 0 32 rfl e_2_1
  obtain ⟨u_32_1, e_32_1⟩ : ∃ w, w = s.2.2.1 32 1 := ⟨_, rfl⟩
  have ro_32_1 := inv_F hI 0 32 rfl e_32_1
  have ct25 : ∀ (sc25 : GS) , Inv sc25 → Fr fm_229_0 s sc25 → GG Z (d - 1) 229 post (gx xp) (901) 25 (fun j => xlook j [(0, .ref (A 0)), (1, .int x1), (2, .int x2)]) [] (WW Z A sc25 ++ ex) 3 18 := by
    intro sc25  hIc25 hFc25 
    refine g_iconst 0 26 (gd rfl) rfl rfl ?_
    refine g_thr (E := am_IA) (y := yX11_allow) 29 (gd rfl) rfl rfl (Or.inl ⟨rfl, rfl, rfl⟩) (by first | exact dq1 hd rfl | exact dq0 hd rfl | exact dq2 hd rfl | exact dq3 hd rfl | omega) (Nat.le_of_ble_eq_true rfl) (Nat.le_of_ble_eq_true rfl) (Nat.le_of_ble_eq_true rfl) (fun c26 => ?_) (fun c26 => ?_)
    · skip
      exact zn_ne c26 (in_c 0 rfl) rfl
    · skip
      exact (hX _ _ ⟨rfl, sc25, hIc25, hFc25, rfl⟩)
  refine g_enter2 (k := 229) (N := 1801) (by first | exact dq1 hd rfl | exact dq0 hd rfl | exact dq2 hd rfl | exact dq3 hd rfl | omega) rfl (Nat.le_of_ble_eq_true rfl) ?_
  refine g_aload_n 1 (gd rfl) rfl rfl ?_
  refine g_callv (X := _) (As := []) (r := []) (b := A 0) (q := 0) 4 (gd rfl) rfl rfl rfl rfl rfl (ww_o rfl) (Nat.le_of_ble_eq_true rfl) (mc := 0) (ms := 0) (Nat.zero_le _) (Nat.zero_le _) (P := fun v u => _) ?_ (fun e u h => h) (fun v u h => h)
  intro po1 xx1 hp1 hx1
  refine g_enter2 (k := 259) (N := 300) (by first | exact dq1 hd rfl | exact dq0 hd rfl | exact dq2 hd rfl | exact dq3 hd rfl | omega) rfl (Nat.le_of_ble_eq_true rfl) ?_
  refine g_aload_n 1 (gd rfl) rfl rfl ?_
  refine g_getI 4 (gd rfl) rfl rfl rfl (fun z1x1 e1x1 => ?_)
  have q1x1 : u_0_2 = z1x1 := (e_0_2).trans e1x1.symm
  subst q1x1
  refine g_iconst (-1) 5 (gd rfl) rfl rfl ?_
  refine g_cmp_ne 8 18 (gd rfl) rfl rfl (fun c1x5 => ?_) (fun c1x5 => ?_)
  · skip
    have i1x5 := r_ne1 0 4000 c1x5 ro_0_2 (in_c (-1) rfl) rfl
    refine g_aload_n 19 (gd rfl) rfl rfl ?_
    refine g_getA (q2 := 32) 22 (gd rfl) rfl rfl rfl rfl ?_
    refine g_areturn (gd rfl) rfl (hp1 _ _ ?_)
    show GG _ _ _ _ _ _ _ _ [.ref (A 32)] _ _ _
    refine g_astore_n 5 (gd rfl) rfl (Nat.le_of_ble_eq_true rfl) ?_
    refine g_aload_n 6 (gd rfl) rfl rfl ?_
    refine g_iload_n 7 (gd rfl) rfl rfl ?_
    refine g_callv (X := _) (As := [.int x1]) (r := []) (b := A 32) (q := 32) 10 (gd rfl) rfl rfl rfl rfl rfl (ww_o rfl) (Nat.le_of_ble_eq_true rfl) (mc := 0) (ms := 0) (Nat.zero_le _) (Nat.zero_le _) (P := fun v u => _) ?_ (fun e u h => h) (fun v u h => h)
    intro po7 xx7 hp7 hx7
    refine g_enter2 (k := 94) (N := 300) (by first | exact dq1 hd rfl | exact dq0 hd rfl | exact dq2 hd rfl | exact dq3 hd rfl | omega) rfl (Nat.le_of_ble_eq_true rfl) ?_
    refine g_iload_n 1 (gd rfl) rfl rfl ?_
    refine g_if_lt 4 16 (gd rfl) rfl rfl (fun c7x1 => ?_) (fun c7x1 => ?_)
    · skip
      have i7x1 := z_lt (-2147483648) (-1) c7x1 (i_rng x1) rfl
      refine g_iconst 0 17 (gd rfl) rfl rfl ?_
      refine g_ireturn (gd rfl) rfl (nb01 (in_w 0 1 (in_c 0 rfl) rfl)) (hp7 _ _ ?_)
      show GG _ _ _ _ _ _ _ _ [.int (Int32.ofInt 0)] _ _ _
      refine g_if_eq 13 25 (gd rfl) rfl rfl (fun c10 => ?_) (fun c10 => ?_)
      · skip
        exact gg_w (by first | exact Nat.le_of_ble_eq_true rfl | omega) (gg_f (gf_cons rfl (gf_cons rfl (gf_cons rfl gf_nil))) (ct25 s  hI fr_rf ))
      · skip
        exact zn_ne c10 (in_c 0 rfl) rfl
    · skip
      have i7x1 := z_ge 0 2147483647 c7x1 (i_rng x1) rfl
      refine g_iload_n 5 (gd rfl) rfl rfl ?_
      refine g_aload_n 6 (gd rfl) rfl rfl ?_
      refine g_getI 9 (gd rfl) rfl rfl rfl (fun z7x6 e7x6 => ?_)
      have q7x6 : u_32_1 = z7x6 := (e_32_1).trans e7x6.symm
      subst q7x6
      refine g_cmp_ge 12 16 (gd rfl) rfl rfl (fun c7x9 => ?_) (fun c7x9 => ?_)
      · skip
        refine g_iconst 0 17 (gd rfl) rfl rfl ?_
        refine g_ireturn (gd rfl) rfl (nb01 (in_w 0 1 (in_c 0 rfl) rfl)) (hp7 _ _ ?_)
        show GG _ _ _ _ _ _ _ _ [.int (Int32.ofInt 0)] _ _ _
        refine g_if_eq 13 25 (gd rfl) rfl rfl (fun c10 => ?_) (fun c10 => ?_)
        · skip
          exact gg_w (by first | exact Nat.le_of_ble_eq_true rfl | omega) (gg_f (gf_cons rfl (gf_cons rfl (gf_cons rfl gf_nil))) (ct25 s  hI fr_rf ))
        · skip
          exact zn_ne c10 (in_c 0 rfl) rfl
      · skip
        have i7x9 := r_lt1 0 31 c7x9 i7x1 ro_32_1 rfl
        have i7x9a := r_lt2 1 32 c7x9 i7x1 ro_32_1 rfl
        refine g_iconst 1 13 (gd rfl) rfl rfl ?_
        refine g_goto 17 (gd rfl) rfl ?_
        refine g_ireturn (gd rfl) rfl (nb01 (in_w 0 1 (in_c 1 rfl) rfl)) (hp7 _ _ ?_)
        show GG _ _ _ _ _ _ _ _ [.int (Int32.ofInt 1)] _ _ _
        refine g_if_eq 13 25 (gd rfl) rfl rfl (fun c10 => ?_) (fun c10 => ?_)
        · skip
          exact zn_eq c10 (in_c 1 rfl) rfl
        · skip
          refine g_aload_n 14 (gd rfl) rfl rfl ?_
          refine g_iload_n 15 (gd rfl) rfl rfl ?_
          refine g_callv (X := _) (As := [.int x2]) (r := []) (b := A 32) (q := 32) 18 (gd rfl) rfl rfl rfl rfl rfl (ww_o rfl) (Nat.le_of_ble_eq_true rfl) (mc := 0) (ms := 0) (Nat.zero_le _) (Nat.zero_le _) (P := fun v u => _) ?_ (fun e u h => h) (fun v u h => h)
          intro po15 xx15 hp15 hx15
          refine g_enter2 (k := 94) (N := 300) (by first | exact dq1 hd rfl | exact dq0 hd rfl | exact dq2 hd rfl | exact dq3 hd rfl | omega) rfl (Nat.le_of_ble_eq_true rfl) ?_
          refine g_iload_n 1 (gd rfl) rfl rfl ?_
          refine g_if_lt 4 16 (gd rfl) rfl rfl (fun c15x1 => ?_) (fun c15x1 => ?_)
          · skip
            have i15x1 := z_lt (-2147483648) (-1) c15x1 (i_rng x2) rfl
            refine g_iconst 0 17 (gd rfl) rfl rfl ?_
            refine g_ireturn (gd rfl) rfl (nb01 (in_w 0 1 (in_c 0 rfl) rfl)) (hp15 _ _ ?_)
            show GG _ _ _ _ _ _ _ _ [.int (Int32.ofInt 0)] _ _ _
            refine g_if_eq 21 25 (gd rfl) rfl rfl (fun c18 => ?_) (fun c18 => ?_)
            · skip
              exact gg_w (by first | exact Nat.le_of_ble_eq_true rfl | omega) (gg_f (gf_cons rfl (gf_cons rfl (gf_cons rfl gf_nil))) (ct25 s  hI fr_rf ))
            · skip
              exact zn_ne c18 (in_c 0 rfl) rfl
          · skip
            have i15x1 := z_ge 0 2147483647 c15x1 (i_rng x2) rfl
            refine g_iload_n 5 (gd rfl) rfl rfl ?_
            refine g_aload_n 6 (gd rfl) rfl rfl ?_
            refine g_getI 9 (gd rfl) rfl rfl rfl (fun z15x6 e15x6 => ?_)
            have q15x6 : u_32_1 = z15x6 := (e_32_1).trans e15x6.symm
            subst q15x6
            refine g_cmp_ge 12 16 (gd rfl) rfl rfl (fun c15x9 => ?_) (fun c15x9 => ?_)
            · skip
              have i15x9 := r_le2 1 2147483647 c15x9 i7x9a i15x1 rfl
              refine g_iconst 0 17 (gd rfl) rfl rfl ?_
              refine g_ireturn (gd rfl) rfl (nb01 (in_w 0 1 (in_c 0 rfl) rfl)) (hp15 _ _ ?_)
              show GG _ _ _ _ _ _ _ _ [.int (Int32.ofInt 0)] _ _ _
              refine g_if_eq 21 25 (gd rfl) rfl rfl (fun c18 => ?_) (fun c18 => ?_)
              · skip
                exact gg_w (by first | exact Nat.le_of_ble_eq_true rfl | omega) (gg_f (gf_cons rfl (gf_cons rfl (gf_cons rfl gf_nil))) (ct25 s  hI fr_rf ))
              · skip
                exact zn_ne c18 (in_c 0 rfl) rfl
            · skip
              have i15x9 := r_lt1 0 31 c15x9 i15x1 i7x9a rfl
              refine g_iconst 1 13 (gd rfl) rfl rfl ?_
              refine g_goto 17 (gd rfl) rfl ?_
              refine g_ireturn (gd rfl) rfl (nb01 (in_w 0 1 (in_c 1 rfl) rfl)) (hp15 _ _ ?_)
              show GG _ _ _ _ _ _ _ _ [.int (Int32.ofInt 1)] _ _ _
              refine g_if_eq 21 25 (gd rfl) rfl rfl (fun c18 => ?_) (fun c18 => ?_)
              · skip
                exact zn_eq c18 (in_c 1 rfl) rfl
              · skip
                refine g_iconst 1 22 (gd rfl) rfl rfl ?_
                refine g_goto 26 (gd rfl) rfl ?_
                refine g_thr (E := am_IA) (y := yX11_allow) 29 (gd rfl) rfl rfl (Or.inl ⟨rfl, rfl, rfl⟩) (by first | exact dq1 hd rfl | exact dq0 hd rfl | exact dq2 hd rfl | exact dq3 hd rfl | omega) (Nat.le_of_ble_eq_true rfl) (Nat.le_of_ble_eq_true rfl) (Nat.le_of_ble_eq_true rfl) (fun c26 => ?_) (fun c26 => ?_)
                · skip
                  refine g_aload_n 30 (gd rfl) rfl rfl ?_
                  refine g_getA (q2 := 49) 33 (gd rfl) rfl rfl rfl rfl ?_
                  refine g_aload_n 34 (gd rfl) rfl rfl ?_
                  refine g_iload_n 35 (gd rfl) rfl rfl ?_
                  refine g_iload_n 36 (gd rfl) rfl rfl ?_
                  refine g_callv (X := _) (As := [.ref (A 32), .int x1, .int x2]) (r := []) (b := A 49) (q := 49) 39 (gd rfl) rfl rfl rfl rfl rfl (ww_o rfl) (Nat.le_of_ble_eq_true rfl) (mc := 0) (ms := 0) (Nat.zero_le _) (Nat.zero_le _) (P := fun v u => _) ?_ (fun e u h => h) (fun v u h => h)
                  intro po36 xx36 hp36 hx36
                  refine g_enter2 (k := 194) (N := 300) (by first | exact dq1 hd rfl | exact dq0 hd rfl | exact dq2 hd rfl | exact dq3 hd rfl | omega) rfl (Nat.le_of_ble_eq_true rfl) ?_
                  refine g_aload_n 1 (gd rfl) rfl rfl ?_
                  refine g_aload_n 2 (gd rfl) rfl rfl ?_
                  refine g_iload_n 3 (gd rfl) rfl rfl ?_
                  refine g_callv (X := _) (As := [.ref (A 32), .int x2]) (r := []) (b := A 49) (q := 49) 6 (gd rfl) rfl rfl rfl rfl rfl (ww_o rfl) (Nat.le_of_ble_eq_true rfl) (Nat.zero_le _) (Nat.zero_le _) (k_198_49_32 (by first | exact dq1 hd rfl | exact dq0 hd rfl | exact dq2 hd rfl | exact dq3 hd rfl | omega) hI (in_w 0 31 i15x9 rfl)) (fun e u h => h) (fun v u h => ?_)
                  obtain ⟨s36x3, hI36x3, hF36x3, rfl, rfl⟩ := h
                  show GG _ _ _ _ _ _ _ _ [] _ _ _
                  refine g_aload_n 7 (gd rfl) rfl rfl ?_
                  refine g_getI 10 (gd rfl) rfl rfl rfl (fun z36x7 e36x7 => ?_)
                  refine g_iload_n 11 (gd rfl) rfl rfl ?_
                  refine g_ishr 12 (gd rfl) rfl (fun z36x11 e36x11 => ?_)
                  refine g_iconst 1 13 (gd rfl) rfl rfl ?_
                  refine g_iand 14 (gd rfl) rfl (fun z36x13 e36x13 => ?_)
                  have i36x13 := in_and2 e36x13 (in_c 1 rfl) rfl
                  refine g_if_eq 17 21 (gd rfl) rfl rfl (fun c36x14 => ?_) (fun c36x14 => ?_)
                  · skip
                    have i36x14 := z_eq 0 0 c36x14 i36x13 rfl
                    refine g_aload_n 22 (gd rfl) rfl rfl ?_
                    refine g_getA (q2 := 50) 25 (gd rfl) rfl rfl rfl rfl ?_
                    refine g_iload_n 26 (gd rfl) rfl rfl ?_
                    refine g_laload 27 (gd rfl) rfl (n := 32) rfl (in_ix i7x9 rfl) (fun z36x26 e36x26 => ?_)
                    refine g_ldc2_w 9223372036854775807 30 (gd rfl) rfl rfl ?_
                    refine g_lcmp 31 (gd rfl) rfl (fun z36x30 e36x30 => ?_)
                    have i36x30 := lc_in e36x30
                    refine g_if_ne 34 40 (gd rfl) rfl rfl (fun c36x31 => ?_) (fun c36x31 => ?_)
                    · skip
                      have c36x31a := lc_ne e36x30 c36x31
                      have i36x31 := lr_ne1 (-9223372036854775808) 9223372036854775806 c36x31a (l_rng z36x26) (l_c 9223372036854775807 rfl) rfl
                      refine g_aload_n 41 (gd rfl) rfl rfl ?_
                      refine g_getA (q2 := 50) 44 (gd rfl) rfl rfl rfl rfl ?_
                      refine g_iload_n 45 (gd rfl) rfl rfl ?_
                      refine g_laload 46 (gd rfl) rfl (n := 32) rfl (in_ix i7x9 rfl) (fun z36x45 e36x45 => ?_)
                      refine g_ldc2_w 1024 49 (gd rfl) rfl rfl ?_
                      refine g_calls (As := [.long z36x45, .long (Int64.ofInt 1024)]) (r := []) 52 (gd rfl) rfl rfl rfl rfl rfl (Nat.le_of_ble_eq_true rfl) (mc := 0) (ms := 0) (Nat.zero_le _) (Nat.zero_le _) (P := fun v u => _) ?_ (fun v u h => h)
                      intro po36x49 xx36x49 hp36x49 hx36x49
                      refine g_enter2 (k := 418) (N := 300) (by first | exact dq1 hd rfl | exact dq0 hd rfl | exact dq2 hd rfl | exact dq3 hd rfl | omega) rfl (Nat.le_of_ble_eq_true rfl) ?_
                      refine g_lload_n 1 (gd rfl) rfl rfl ?_
                      refine g_lload_n 2 (gd rfl) rfl rfl ?_
                      refine g_ldiv 3 (gd rfl) rfl (by decide) (fun z36x49x2 e36x49x2 => ?_)
                      refine g_lstore 5 (gd rfl) rfl (Nat.le_of_ble_eq_true rfl) ?_
                      refine g_lload_n 6 (gd rfl) rfl rfl ?_
                      refine g_lload_n 7 (gd rfl) rfl rfl ?_
                      refine g_lxor 8 (gd rfl) rfl (fun z36x49x7 e36x49x7 => ?_)
                      refine g_lconst 0 9 (gd rfl) rfl rfl ?_
                      refine g_lcmp 10 (gd rfl) rfl (fun z36x49x9 e36x49x9 => ?_)
                      have i36x49x9 := lc_in e36x49x9
                      refine g_if_ge 13 27 (gd rfl) rfl rfl (fun c36x49x10 => ?_) (fun c36x49x10 => ?_)
                      · skip
                        have i36x49x10 := z_ge 0 1 c36x49x10 i36x49x9 rfl
                        have c36x49x10a := lc_ge e36x49x9 c36x49x10
                        have i36x49x10a := lr_le2 0 9223372036854775807 c36x49x10a (l_c 0 rfl) (l_rng z36x49x7) rfl
                        refine g_lload 29 (gd rfl) rfl rfl ?_
                        refine g_lreturn (gd rfl) rfl (hp36x49 _ _ ?_)
                        show GG _ _ _ _ _ _ _ _ [.long z36x49x2] _ _ _
                        refine g_lreturn (gd rfl) rfl (hp36 _ _ ?_)
                        show GG _ _ _ _ _ _ _ _ [.long z36x49x2] _ _ _
                        exact g_lreturn (gd rfl) rfl (hP _ _ ⟨s36x3, hI36x3, (fr_tr rfl fr_rf hF36x3), z36x49x2, rfl, rfl⟩)
                      · skip
                        have i36x49x10 := z_lt (-1) (-1) c36x49x10 i36x49x9 rfl
                        have c36x49x10a := lc_lt e36x49x9 c36x49x10
                        have i36x49x10a := lr_lt1 (-9223372036854775808) (-1) c36x49x10a (l_rng z36x49x7) (l_c 0 rfl) rfl
                        refine g_lload 15 (gd rfl) rfl rfl ?_
                        refine g_lload_n 16 (gd rfl) rfl rfl ?_
                        refine g_lmul 17 (gd rfl) rfl (fun z36x49x16 e36x49x16 => ?_)
                        refine g_lload_n 18 (gd rfl) rfl rfl ?_
                        refine g_lcmp 19 (gd rfl) rfl (fun z36x49x18 e36x49x18 => ?_)
                        have i36x49x18 := lc_in e36x49x18
                        refine g_if_eq 22 27 (gd rfl) rfl rfl (fun c36x49x19 => ?_) (fun c36x49x19 => ?_)
                        · skip
                          have i36x49x19 := z_eq 0 0 c36x49x19 i36x49x18 rfl
                          have c36x49x19a := lc_eq e36x49x18 c36x49x19
                          refine g_lload 29 (gd rfl) rfl rfl ?_
                          refine g_lreturn (gd rfl) rfl (hp36x49 _ _ ?_)
                          show GG _ _ _ _ _ _ _ _ [.long z36x49x2] _ _ _
                          refine g_lreturn (gd rfl) rfl (hp36 _ _ ?_)
                          show GG _ _ _ _ _ _ _ _ [.long z36x49x2] _ _ _
                          exact g_lreturn (gd rfl) rfl (hP _ _ ⟨s36x3, hI36x3, (fr_tr rfl fr_rf hF36x3), z36x49x2, rfl, rfl⟩)
                        · skip
                          have c36x49x19a := lc_ne e36x49x18 c36x49x19
                          refine g_lload 24 (gd rfl) rfl rfl ?_
                          refine g_lconst 1 25 (gd rfl) rfl rfl ?_
                          refine g_lsub 26 (gd rfl) rfl (fun z36x49x25 e36x49x25 => ?_)
                          refine g_lreturn (gd rfl) rfl (hp36x49 _ _ ?_)
                          show GG _ _ _ _ _ _ _ _ [.long z36x49x25] _ _ _
                          refine g_lreturn (gd rfl) rfl (hp36 _ _ ?_)
                          show GG _ _ _ _ _ _ _ _ [.long z36x49x25] _ _ _
                          exact g_lreturn (gd rfl) rfl (hP _ _ ⟨s36x3, hI36x3, (fr_tr rfl fr_rf hF36x3), z36x49x25, rfl, rfl⟩)
                    · skip
                      have i36x31 := z_eq 0 0 c36x31 i36x30 rfl
                      have c36x31a := lc_eq e36x30 c36x31
                      have i36x31a := lr_eq1 9223372036854775807 9223372036854775807 c36x31a (l_rng z36x26) (l_c 9223372036854775807 rfl) rfl
                      refine g_ldc2_w 9000000000000000 37 (gd rfl) rfl rfl ?_
                      refine g_goto 52 (gd rfl) rfl ?_
                      refine g_lreturn (gd rfl) rfl (hp36 _ _ ?_)
                      show GG _ _ _ _ _ _ _ _ [.long (Int64.ofInt 9000000000000000)] _ _ _
                      exact g_lreturn (gd rfl) rfl (hP _ _ ⟨s36x3, hI36x3, (fr_tr rfl fr_rf hF36x3), (Int64.ofInt 9000000000000000), rfl, rfl⟩)
                  · skip
                    have i36x14 := z_ne 1 1 c36x14 i36x13 rfl
                    refine g_ldc2_w 9000000000000001 20 (gd rfl) rfl rfl ?_
                    refine g_lreturn (gd rfl) rfl (hp36 _ _ ?_)
                    show GG _ _ _ _ _ _ _ _ [.long (Int64.ofInt 9000000000000001)] _ _ _
                    exact g_lreturn (gd rfl) rfl (hP _ _ ⟨s36x3, hI36x3, (fr_tr rfl fr_rf hF36x3), (Int64.ofInt 9000000000000001), rfl, rfl⟩)
                · skip
                  exact zn_eq c26 (in_c 1 rfl) rfl
  · skip
    have i1x5 := r_eq1 (-1) (-1) c1x5 ro_0_2 (in_c (-1) rfl) rfl
    refine g_aload_n 9 (gd rfl) rfl rfl ?_
    refine g_getA (q2 := 1) 12 (gd rfl) rfl rfl rfl rfl ?_
    refine g_getA (q2 := 2) 15 (gd rfl) rfl rfl rfl rfl ?_
    refine g_goto 22 (gd rfl) rfl ?_
    refine g_areturn (gd rfl) rfl (hp1 _ _ ?_)
    show GG _ _ _ _ _ _ _ _ [.ref (A 2)] _ _ _
    refine g_astore_n 5 (gd rfl) rfl (Nat.le_of_ble_eq_true rfl) ?_
    refine g_aload_n 6 (gd rfl) rfl rfl ?_
    refine g_iload_n 7 (gd rfl) rfl rfl ?_
    refine g_callv (X := _) (As := [.int x1]) (r := []) (b := A 2) (q := 2) 10 (gd rfl) rfl rfl rfl rfl rfl (ww_o rfl) (Nat.le_of_ble_eq_true rfl) (mc := 0) (ms := 0) (Nat.zero_le _) (Nat.zero_le _) (P := fun v u => _) ?_ (fun e u h => h) (fun v u h => h)
    intro po7 xx7 hp7 hx7
    refine g_enter2 (k := 94) (N := 300) (by first | exact dq1 hd rfl | exact dq0 hd rfl | exact dq2 hd rfl | exact dq3 hd rfl | omega) rfl (Nat.le_of_ble_eq_true rfl) ?_
    refine g_iload_n 1 (gd rfl) rfl rfl ?_
    refine g_if_lt 4 16 (gd rfl) rfl rfl (fun c7x1 => ?_) (fun c7x1 => ?_)
    · skip
      have i7x1 := z_lt (-2147483648) (-1) c7x1 (i_rng x1) rfl
      refine g_iconst 0 17 (gd rfl) rfl rfl ?_
      refine g_ireturn (gd rfl) rfl (nb01 (in_w 0 1 (in_c 0 rfl) rfl)) (hp7 _ _ ?_)
      show GG _ _ _ _ _ _ _ _ [.int (Int32.ofInt 0)] _ _ _
      refine g_if_eq 13 25 (gd rfl) rfl rfl (fun c10 => ?_) (fun c10 => ?_)
      · skip
        exact gg_w (by first | exact Nat.le_of_ble_eq_true rfl | omega) (gg_f (gf_cons rfl (gf_cons rfl (gf_cons rfl gf_nil))) (ct25 s  hI fr_rf ))
      · skip
        exact zn_ne c10 (in_c 0 rfl) rfl
    · skip
      have i7x1 := z_ge 0 2147483647 c7x1 (i_rng x1) rfl
      refine g_iload_n 5 (gd rfl) rfl rfl ?_
      refine g_aload_n 6 (gd rfl) rfl rfl ?_
      refine g_getI 9 (gd rfl) rfl rfl rfl (fun z7x6 e7x6 => ?_)
      have q7x6 : u_2_1 = z7x6 := (e_2_1).trans e7x6.symm
      subst q7x6
      refine g_cmp_ge 12 16 (gd rfl) rfl rfl (fun c7x9 => ?_) (fun c7x9 => ?_)
      · skip
        refine g_iconst 0 17 (gd rfl) rfl rfl ?_
        refine g_ireturn (gd rfl) rfl (nb01 (in_w 0 1 (in_c 0 rfl) rfl)) (hp7 _ _ ?_)
        show GG _ _ _ _ _ _ _ _ [.int (Int32.ofInt 0)] _ _ _
        refine g_if_eq 13 25 (gd rfl) rfl rfl (fun c10 => ?_) (fun c10 => ?_)
        · skip
          exact gg_w (by first | exact Nat.le_of_ble_eq_true rfl | omega) (gg_f (gf_cons rfl (gf_cons rfl (gf_cons rfl gf_nil))) (ct25 s  hI fr_rf ))
        · skip
          exact zn_ne c10 (in_c 0 rfl) rfl
      · skip
        have i7x9 := r_lt1 0 31 c7x9 i7x1 ro_2_1 rfl
        have i7x9a := r_lt2 1 32 c7x9 i7x1 ro_2_1 rfl
        refine g_iconst 1 13 (gd rfl) rfl rfl ?_
        refine g_goto 17 (gd rfl) rfl ?_
        refine g_ireturn (gd rfl) rfl (nb01 (in_w 0 1 (in_c 1 rfl) rfl)) (hp7 _ _ ?_)
        show GG _ _ _ _ _ _ _ _ [.int (Int32.ofInt 1)] _ _ _
        refine g_if_eq 13 25 (gd rfl) rfl rfl (fun c10 => ?_) (fun c10 => ?_)
        · skip
          exact zn_eq c10 (in_c 1 rfl) rfl
        · skip
          refine g_aload_n 14 (gd rfl) rfl rfl ?_
          refine g_iload_n 15 (gd rfl) rfl rfl ?_
          refine g_callv (X := _) (As := [.int x2]) (r := []) (b := A 2) (q := 2) 18 (gd rfl) rfl rfl rfl rfl rfl (ww_o rfl) (Nat.le_of_ble_eq_true rfl) (mc := 0) (ms := 0) (Nat.zero_le _) (Nat.zero_le _) (P := fun v u => _) ?_ (fun e u h => h) (fun v u h => h)
          intro po15 xx15 hp15 hx15
          refine g_enter2 (k := 94) (N := 300) (by first | exact dq1 hd rfl | exact dq0 hd rfl | exact dq2 hd rfl | exact dq3 hd rfl | omega) rfl (Nat.le_of_ble_eq_true rfl) ?_
          refine g_iload_n 1 (gd rfl) rfl rfl ?_
          refine g_if_lt 4 16 (gd rfl) rfl rfl (fun c15x1 => ?_) (fun c15x1 => ?_)
          · skip
            have i15x1 := z_lt (-2147483648) (-1) c15x1 (i_rng x2) rfl
            refine g_iconst 0 17 (gd rfl) rfl rfl ?_
            refine g_ireturn (gd rfl) rfl (nb01 (in_w 0 1 (in_c 0 rfl) rfl)) (hp15 _ _ ?_)
            show GG _ _ _ _ _ _ _ _ [.int (Int32.ofInt 0)] _ _ _
            refine g_if_eq 21 25 (gd rfl) rfl rfl (fun c18 => ?_) (fun c18 => ?_)
            · skip
              exact gg_w (by first | exact Nat.le_of_ble_eq_true rfl | omega) (gg_f (gf_cons rfl (gf_cons rfl (gf_cons rfl gf_nil))) (ct25 s  hI fr_rf ))
            · skip
              exact zn_ne c18 (in_c 0 rfl) rfl
          · skip
            have i15x1 := z_ge 0 2147483647 c15x1 (i_rng x2) rfl
            refine g_iload_n 5 (gd rfl) rfl rfl ?_
            refine g_aload_n 6 (gd rfl) rfl rfl ?_
            refine g_getI 9 (gd rfl) rfl rfl rfl (fun z15x6 e15x6 => ?_)
            have q15x6 : u_2_1 = z15x6 := (e_2_1).trans e15x6.symm
            subst q15x6
            refine g_cmp_ge 12 16 (gd rfl) rfl rfl (fun c15x9 => ?_) (fun c15x9 => ?_)
            · skip
              have i15x9 := r_le2 1 2147483647 c15x9 i7x9a i15x1 rfl
              refine g_iconst 0 17 (gd rfl) rfl rfl ?_
              refine g_ireturn (gd rfl) rfl (nb01 (in_w 0 1 (in_c 0 rfl) rfl)) (hp15 _ _ ?_)
              show GG _ _ _ _ _ _ _ _ [.int (Int32.ofInt 0)] _ _ _
              refine g_if_eq 21 25 (gd rfl) rfl rfl (fun c18 => ?_) (fun c18 => ?_)
              · skip
                exact gg_w (by first | exact Nat.le_of_ble_eq_true rfl | omega) (gg_f (gf_cons rfl (gf_cons rfl (gf_cons rfl gf_nil))) (ct25 s  hI fr_rf ))
              · skip
                exact zn_ne c18 (in_c 0 rfl) rfl
            · skip
              have i15x9 := r_lt1 0 31 c15x9 i15x1 i7x9a rfl
              refine g_iconst 1 13 (gd rfl) rfl rfl ?_
              refine g_goto 17 (gd rfl) rfl ?_
              refine g_ireturn (gd rfl) rfl (nb01 (in_w 0 1 (in_c 1 rfl) rfl)) (hp15 _ _ ?_)
              show GG _ _ _ _ _ _ _ _ [.int (Int32.ofInt 1)] _ _ _
              refine g_if_eq 21 25 (gd rfl) rfl rfl (fun c18 => ?_) (fun c18 => ?_)
              · skip
                exact zn_eq c18 (in_c 1 rfl) rfl
              · skip
                refine g_iconst 1 22 (gd rfl) rfl rfl ?_
                refine g_goto 26 (gd rfl) rfl ?_
                refine g_thr (E := am_IA) (y := yX11_allow) 29 (gd rfl) rfl rfl (Or.inl ⟨rfl, rfl, rfl⟩) (by first | exact dq1 hd rfl | exact dq0 hd rfl | exact dq2 hd rfl | exact dq3 hd rfl | omega) (Nat.le_of_ble_eq_true rfl) (Nat.le_of_ble_eq_true rfl) (Nat.le_of_ble_eq_true rfl) (fun c26 => ?_) (fun c26 => ?_)
                · skip
                  refine g_aload_n 30 (gd rfl) rfl rfl ?_
                  refine g_getA (q2 := 49) 33 (gd rfl) rfl rfl rfl rfl ?_
                  refine g_aload_n 34 (gd rfl) rfl rfl ?_
                  refine g_iload_n 35 (gd rfl) rfl rfl ?_
                  refine g_iload_n 36 (gd rfl) rfl rfl ?_
                  refine g_callv (X := _) (As := [.ref (A 2), .int x1, .int x2]) (r := []) (b := A 49) (q := 49) 39 (gd rfl) rfl rfl rfl rfl rfl (ww_o rfl) (Nat.le_of_ble_eq_true rfl) (mc := 0) (ms := 0) (Nat.zero_le _) (Nat.zero_le _) (P := fun v u => _) ?_ (fun e u h => h) (fun v u h => h)
                  intro po36 xx36 hp36 hx36
                  refine g_enter2 (k := 194) (N := 300) (by first | exact dq1 hd rfl | exact dq0 hd rfl | exact dq2 hd rfl | exact dq3 hd rfl | omega) rfl (Nat.le_of_ble_eq_true rfl) ?_
                  refine g_aload_n 1 (gd rfl) rfl rfl ?_
                  refine g_aload_n 2 (gd rfl) rfl rfl ?_
                  refine g_iload_n 3 (gd rfl) rfl rfl ?_
                  refine g_callv (X := _) (As := [.ref (A 2), .int x2]) (r := []) (b := A 49) (q := 49) 6 (gd rfl) rfl rfl rfl rfl rfl (ww_o rfl) (Nat.le_of_ble_eq_true rfl) (Nat.zero_le _) (Nat.zero_le _) (k_198_49_2 (by first | exact dq1 hd rfl | exact dq0 hd rfl | exact dq2 hd rfl | exact dq3 hd rfl | omega) hI (in_w 0 31 i15x9 rfl)) (fun e u h => h) (fun v u h => ?_)
                  obtain ⟨s36x3, hI36x3, hF36x3, rfl, rfl⟩ := h
                  show GG _ _ _ _ _ _ _ _ [] _ _ _
                  refine g_aload_n 7 (gd rfl) rfl rfl ?_
                  refine g_getI 10 (gd rfl) rfl rfl rfl (fun z36x7 e36x7 => ?_)
                  refine g_iload_n 11 (gd rfl) rfl rfl ?_
                  refine g_ishr 12 (gd rfl) rfl (fun z36x11 e36x11 => ?_)
                  refine g_iconst 1 13 (gd rfl) rfl rfl ?_
                  refine g_iand 14 (gd rfl) rfl (fun z36x13 e36x13 => ?_)
                  have i36x13 := in_and2 e36x13 (in_c 1 rfl) rfl
                  refine g_if_eq 17 21 (gd rfl) rfl rfl (fun c36x14 => ?_) (fun c36x14 => ?_)
                  · skip
                    have i36x14 := z_eq 0 0 c36x14 i36x13 rfl
                    refine g_aload_n 22 (gd rfl) rfl rfl ?_
                    refine g_getA (q2 := 50) 25 (gd rfl) rfl rfl rfl rfl ?_
                    refine g_iload_n 26 (gd rfl) rfl rfl ?_
                    refine g_laload 27 (gd rfl) rfl (n := 32) rfl (in_ix i7x9 rfl) (fun z36x26 e36x26 => ?_)
                    refine g_ldc2_w 9223372036854775807 30 (gd rfl) rfl rfl ?_
                    refine g_lcmp 31 (gd rfl) rfl (fun z36x30 e36x30 => ?_)
                    have i36x30 := lc_in e36x30
                    refine g_if_ne 34 40 (gd rfl) rfl rfl (fun c36x31 => ?_) (fun c36x31 => ?_)
                    · skip
                      have c36x31a := lc_ne e36x30 c36x31
                      have i36x31 := lr_ne1 (-9223372036854775808) 9223372036854775806 c36x31a (l_rng z36x26) (l_c 9223372036854775807 rfl) rfl
                      refine g_aload_n 41 (gd rfl) rfl rfl ?_
                      refine g_getA (q2 := 50) 44 (gd rfl) rfl rfl rfl rfl ?_
                      refine g_iload_n 45 (gd rfl) rfl rfl ?_
                      refine g_laload 46 (gd rfl) rfl (n := 32) rfl (in_ix i7x9 rfl) (fun z36x45 e36x45 => ?_)
                      refine g_ldc2_w 1024 49 (gd rfl) rfl rfl ?_
                      refine g_calls (As := [.long z36x45, .long (Int64.ofInt 1024)]) (r := []) 52 (gd rfl) rfl rfl rfl rfl rfl (Nat.le_of_ble_eq_true rfl) (mc := 0) (ms := 0) (Nat.zero_le _) (Nat.zero_le _) (P := fun v u => _) ?_ (fun v u h => h)
                      intro po36x49 xx36x49 hp36x49 hx36x49
                      refine g_enter2 (k := 418) (N := 300) (by first | exact dq1 hd rfl | exact dq0 hd rfl | exact dq2 hd rfl | exact dq3 hd rfl | omega) rfl (Nat.le_of_ble_eq_true rfl) ?_
                      refine g_lload_n 1 (gd rfl) rfl rfl ?_
                      refine g_lload_n 2 (gd rfl) rfl rfl ?_
                      refine g_ldiv 3 (gd rfl) rfl (by decide) (fun z36x49x2 e36x49x2 => ?_)
                      refine g_lstore 5 (gd rfl) rfl (Nat.le_of_ble_eq_true rfl) ?_
                      refine g_lload_n 6 (gd rfl) rfl rfl ?_
                      refine g_lload_n 7 (gd rfl) rfl rfl ?_
                      refine g_lxor 8 (gd rfl) rfl (fun z36x49x7 e36x49x7 => ?_)
                      refine g_lconst 0 9 (gd rfl) rfl rfl ?_
                      refine g_lcmp 10 (gd rfl) rfl (fun z36x49x9 e36x49x9 => ?_)
                      have i36x49x9 := lc_in e36x49x9
                      refine g_if_ge 13 27 (gd rfl) rfl rfl (fun c36x49x10 => ?_) (fun c36x49x10 => ?_)
                      · skip
                        have i36x49x10 := z_ge 0 1 c36x49x10 i36x49x9 rfl
                        have c36x49x10a := lc_ge e36x49x9 c36x49x10
                        have i36x49x10a := lr_le2 0 9223372036854775807 c36x49x10a (l_c 0 rfl) (l_rng z36x49x7) rfl
                        refine g_lload 29 (gd rfl) rfl rfl ?_
                        refine g_lreturn (gd rfl) rfl (hp36x49 _ _ ?_)
                        show GG _ _ _ _ _ _ _ _ [.long z36x49x2] _ _ _
                        refine g_lreturn (gd rfl) rfl (hp36 _ _ ?_)
                        show GG _ _ _ _ _ _ _ _ [.long z36x49x2] _ _ _
                        exact g_lreturn (gd rfl) rfl (hP _ _ ⟨s36x3, hI36x3, (fr_tr rfl fr_rf hF36x3), z36x49x2, rfl, rfl⟩)
                      · skip
                        have i36x49x10 := z_lt (-1) (-1) c36x49x10 i36x49x9 rfl
                        have c36x49x10a := lc_lt e36x49x9 c36x49x10
                        have i36x49x10a := lr_lt1 (-9223372036854775808) (-1) c36x49x10a (l_rng z36x49x7) (l_c 0 rfl) rfl
                        refine g_lload 15 (gd rfl) rfl rfl ?_
                        refine g_lload_n 16 (gd rfl) rfl rfl ?_
                        refine g_lmul 17 (gd rfl) rfl (fun z36x49x16 e36x49x16 => ?_)
                        refine g_lload_n 18 (gd rfl) rfl rfl ?_
                        refine g_lcmp 19 (gd rfl) rfl (fun z36x49x18 e36x49x18 => ?_)
                        have i36x49x18 := lc_in e36x49x18
                        refine g_if_eq 22 27 (gd rfl) rfl rfl (fun c36x49x19 => ?_) (fun c36x49x19 => ?_)
                        · skip
                          have i36x49x19 := z_eq 0 0 c36x49x19 i36x49x18 rfl
                          have c36x49x19a := lc_eq e36x49x18 c36x49x19
                          refine g_lload 29 (gd rfl) rfl rfl ?_
                          refine g_lreturn (gd rfl) rfl (hp36x49 _ _ ?_)
                          show GG _ _ _ _ _ _ _ _ [.long z36x49x2] _ _ _
                          refine g_lreturn (gd rfl) rfl (hp36 _ _ ?_)
                          show GG _ _ _ _ _ _ _ _ [.long z36x49x2] _ _ _
                          exact g_lreturn (gd rfl) rfl (hP _ _ ⟨s36x3, hI36x3, (fr_tr rfl fr_rf hF36x3), z36x49x2, rfl, rfl⟩)
                        · skip
                          have c36x49x19a := lc_ne e36x49x18 c36x49x19
                          refine g_lload 24 (gd rfl) rfl rfl ?_
                          refine g_lconst 1 25 (gd rfl) rfl rfl ?_
                          refine g_lsub 26 (gd rfl) rfl (fun z36x49x25 e36x49x25 => ?_)
                          refine g_lreturn (gd rfl) rfl (hp36x49 _ _ ?_)
                          show GG _ _ _ _ _ _ _ _ [.long z36x49x25] _ _ _
                          refine g_lreturn (gd rfl) rfl (hp36 _ _ ?_)
                          show GG _ _ _ _ _ _ _ _ [.long z36x49x25] _ _ _
                          exact g_lreturn (gd rfl) rfl (hP _ _ ⟨s36x3, hI36x3, (fr_tr rfl fr_rf hF36x3), z36x49x25, rfl, rfl⟩)
                    · skip
                      have i36x31 := z_eq 0 0 c36x31 i36x30 rfl
                      have c36x31a := lc_eq e36x30 c36x31
                      have i36x31a := lr_eq1 9223372036854775807 9223372036854775807 c36x31a (l_rng z36x26) (l_c 9223372036854775807 rfl) rfl
                      refine g_ldc2_w 9000000000000000 37 (gd rfl) rfl rfl ?_
                      refine g_goto 52 (gd rfl) rfl ?_
                      refine g_lreturn (gd rfl) rfl (hp36 _ _ ?_)
                      show GG _ _ _ _ _ _ _ _ [.long (Int64.ofInt 9000000000000000)] _ _ _
                      exact g_lreturn (gd rfl) rfl (hP _ _ ⟨s36x3, hI36x3, (fr_tr rfl fr_rf hF36x3), (Int64.ofInt 9000000000000000), rfl, rfl⟩)
                  · skip
                    have i36x14 := z_ne 1 1 c36x14 i36x13 rfl
                    refine g_ldc2_w 9000000000000001 20 (gd rfl) rfl rfl ?_
                    refine g_lreturn (gd rfl) rfl (hp36 _ _ ?_)
                    show GG _ _ _ _ _ _ _ _ [.long (Int64.ofInt 9000000000000001)] _ _ _
                    exact g_lreturn (gd rfl) rfl (hP _ _ ⟨s36x3, hI36x3, (fr_tr rfl fr_rf hF36x3), (Int64.ofInt 9000000000000001), rfl, rfl⟩)
                · skip
                  exact zn_eq c26 (in_c 1 rfl) rfl

def fm_231_0 : FM := ([9, 10, 11, 12, 13, 14, 15, 39, 40, 41, 42, 43, 44, 45, 51], [], [(2, 4), (32, 4)], [])
/-- GraphHouse.width -/
theorem k_231_0 {Z : AmZ} {A : Nat → Nat} {s : GS} {ex : va_W} {d : Nat} {x1 : Int32} {x2 : Int32} (hd : 7 ≤ d) (hI : Inv s)  : GC Z d 231 [.ref (A 0), .int x1, .int x2] (WW Z A s ++ ex) 3 18 (fun v u => ∃ t : GS, Inv t ∧ Fr fm_231_0 s t ∧ ∃ z : Int32, v = some (.int z) ∧ u = WW Z A t ++ ex ∧ In z (-1) 1000001) (gE1 Z A ex fm_231_0 s) := by
  intro post xp hP hX
  obtain ⟨u_0_2, e_0_2⟩ : ∃ w, w = s.2.2.1 0 2 := ⟨_, rfl⟩
  have ro_0_2 := inv_F hI (-1) 4000 rfl e_0_2
  obtain ⟨u_2_1, e_2_1⟩ : ∃ w, w = s.2.2.1 2 1 := ⟨_, rfl⟩
  have ro_2_1 := inv_F hI 0 32 rfl e_2_1
  obtain ⟨u_32_1, e_32_1⟩ : ∃ w, w = s.2.2.1 32 1 := ⟨_, rfl⟩
  have ro_32_1 := inv_F hI 0 32 rfl e_32_1
  refine g_enter2 (k := 231) (N := 900) (by first | exact dq1 hd rfl | exact dq0 hd rfl | exact dq2 hd rfl | exact dq3 hd rfl | omega) rfl (Nat.le_of_ble_eq_true rfl) ?_
  refine g_aload_n 1 (gd rfl) rfl rfl ?_
  refine g_callv (X := _) (As := []) (r := []) (b := A 0) (q := 0) 4 (gd rfl) rfl rfl rfl rfl rfl (ww_o rfl) (Nat.le_of_ble_eq_true rfl) (mc := 0) (ms := 0) (Nat.zero_le _) (Nat.zero_le _) (P := fun v u => _) ?_ (fun e u h => h) (fun v u h => h)
  intro po1 xx1 hp1 hx1
  refine g_enter2 (k := 259) (N := 300) (by first | exact dq1 hd rfl | exact dq0 hd rfl | exact dq2 hd rfl | exact dq3 hd rfl | omega) rfl (Nat.le_of_ble_eq_true rfl) ?_
  refine g_aload_n 1 (gd rfl) rfl rfl ?_
  refine g_getI 4 (gd rfl) rfl rfl rfl (fun z1x1 e1x1 => ?_)
  have q1x1 : u_0_2 = z1x1 := (e_0_2).trans e1x1.symm
  subst q1x1
  refine g_iconst (-1) 5 (gd rfl) rfl rfl ?_
  refine g_cmp_ne 8 18 (gd rfl) rfl rfl (fun c1x5 => ?_) (fun c1x5 => ?_)
  · skip
    have i1x5 := r_ne1 0 4000 c1x5 ro_0_2 (in_c (-1) rfl) rfl
    refine g_aload_n 19 (gd rfl) rfl rfl ?_
    refine g_getA (q2 := 32) 22 (gd rfl) rfl rfl rfl rfl ?_
    refine g_areturn (gd rfl) rfl (hp1 _ _ ?_)
    show GG _ _ _ _ _ _ _ _ [.ref (A 32)] _ _ _
    refine g_astore_n 5 (gd rfl) rfl (Nat.le_of_ble_eq_true rfl) ?_
    refine g_aload_n 6 (gd rfl) rfl rfl ?_
    refine g_iload_n 7 (gd rfl) rfl rfl ?_
    refine g_callv (X := _) (As := [.int x1]) (r := []) (b := A 32) (q := 32) 10 (gd rfl) rfl rfl rfl rfl rfl (ww_o rfl) (Nat.le_of_ble_eq_true rfl) (mc := 0) (ms := 0) (Nat.zero_le _) (Nat.zero_le _) (P := fun v u => _) ?_ (fun e u h => h) (fun v u h => h)
    intro po7 xx7 hp7 hx7
    refine g_enter2 (k := 94) (N := 300) (by first | exact dq1 hd rfl | exact dq0 hd rfl | exact dq2 hd rfl | exact dq3 hd rfl | omega) rfl (Nat.le_of_ble_eq_true rfl) ?_
    refine g_iload_n 1 (gd rfl) rfl rfl ?_
    refine g_if_lt 4 16 (gd rfl) rfl rfl (fun c7x1 => ?_) (fun c7x1 => ?_)
    · skip
      have i7x1 := z_lt (-2147483648) (-1) c7x1 (i_rng x1) rfl
      refine g_iconst 0 17 (gd rfl) rfl rfl ?_
      refine g_ireturn (gd rfl) rfl (nb01 (in_w 0 1 (in_c 0 rfl) rfl)) (hp7 _ _ ?_)
      show GG _ _ _ _ _ _ _ _ [.int (Int32.ofInt 0)] _ _ _
      refine g_if_eq 13 25 (gd rfl) rfl rfl (fun c10 => ?_) (fun c10 => ?_)
      · skip
        refine g_iconst 0 26 (gd rfl) rfl rfl ?_
        refine g_thr (E := am_IA) (y := yX11_allow) 29 (gd rfl) rfl rfl (Or.inl ⟨rfl, rfl, rfl⟩) (by first | exact dq1 hd rfl | exact dq0 hd rfl | exact dq2 hd rfl | exact dq3 hd rfl | omega) (Nat.le_of_ble_eq_true rfl) (Nat.le_of_ble_eq_true rfl) (Nat.le_of_ble_eq_true rfl) (fun c26 => ?_) (fun c26 => ?_)
        · skip
          exact zn_ne c26 (in_c 0 rfl) rfl
        · skip
          exact (hX _ _ ⟨rfl, s, hI, fr_rf, rfl⟩)
      · skip
        exact zn_ne c10 (in_c 0 rfl) rfl
    · skip
      have i7x1 := z_ge 0 2147483647 c7x1 (i_rng x1) rfl
      refine g_iload_n 5 (gd rfl) rfl rfl ?_
      refine g_aload_n 6 (gd rfl) rfl rfl ?_
      refine g_getI 9 (gd rfl) rfl rfl rfl (fun z7x6 e7x6 => ?_)
      have q7x6 : u_32_1 = z7x6 := (e_32_1).trans e7x6.symm
      subst q7x6
      refine g_cmp_ge 12 16 (gd rfl) rfl rfl (fun c7x9 => ?_) (fun c7x9 => ?_)
      · skip
        refine g_iconst 0 17 (gd rfl) rfl rfl ?_
        refine g_ireturn (gd rfl) rfl (nb01 (in_w 0 1 (in_c 0 rfl) rfl)) (hp7 _ _ ?_)
        show GG _ _ _ _ _ _ _ _ [.int (Int32.ofInt 0)] _ _ _
        refine g_if_eq 13 25 (gd rfl) rfl rfl (fun c10 => ?_) (fun c10 => ?_)
        · skip
          refine g_iconst 0 26 (gd rfl) rfl rfl ?_
          refine g_thr (E := am_IA) (y := yX11_allow) 29 (gd rfl) rfl rfl (Or.inl ⟨rfl, rfl, rfl⟩) (by first | exact dq1 hd rfl | exact dq0 hd rfl | exact dq2 hd rfl | exact dq3 hd rfl | omega) (Nat.le_of_ble_eq_true rfl) (Nat.le_of_ble_eq_true rfl) (Nat.le_of_ble_eq_true rfl) (fun c26 => ?_) (fun c26 => ?_)
          · skip
            exact zn_ne c26 (in_c 0 rfl) rfl
          · skip
            exact (hX _ _ ⟨rfl, s, hI, fr_rf, rfl⟩)
        · skip
          exact zn_ne c10 (in_c 0 rfl) rfl
      · skip
        have i7x9 := r_lt1 0 31 c7x9 i7x1 ro_32_1 rfl
        have i7x9a := r_lt2 1 32 c7x9 i7x1 ro_32_1 rfl
        refine g_iconst 1 13 (gd rfl) rfl rfl ?_
        refine g_goto 17 (gd rfl) rfl ?_
        refine g_ireturn (gd rfl) rfl (nb01 (in_w 0 1 (in_c 1 rfl) rfl)) (hp7 _ _ ?_)
        show GG _ _ _ _ _ _ _ _ [.int (Int32.ofInt 1)] _ _ _
        refine g_if_eq 13 25 (gd rfl) rfl rfl (fun c10 => ?_) (fun c10 => ?_)
        · skip
          exact zn_eq c10 (in_c 1 rfl) rfl
        · skip
          refine g_aload_n 14 (gd rfl) rfl rfl ?_
          refine g_iload_n 15 (gd rfl) rfl rfl ?_
          refine g_callv (X := _) (As := [.int x2]) (r := []) (b := A 32) (q := 32) 18 (gd rfl) rfl rfl rfl rfl rfl (ww_o rfl) (Nat.le_of_ble_eq_true rfl) (mc := 0) (ms := 0) (Nat.zero_le _) (Nat.zero_le _) (P := fun v u => _) ?_ (fun e u h => h) (fun v u h => h)
          intro po15 xx15 hp15 hx15
          refine g_enter2 (k := 94) (N := 300) (by first | exact dq1 hd rfl | exact dq0 hd rfl | exact dq2 hd rfl | exact dq3 hd rfl | omega) rfl (Nat.le_of_ble_eq_true rfl) ?_
          refine g_iload_n 1 (gd rfl) rfl rfl ?_
          refine g_if_lt 4 16 (gd rfl) rfl rfl (fun c15x1 => ?_) (fun c15x1 => ?_)
          · skip
            have i15x1 := z_lt (-2147483648) (-1) c15x1 (i_rng x2) rfl
            refine g_iconst 0 17 (gd rfl) rfl rfl ?_
            refine g_ireturn (gd rfl) rfl (nb01 (in_w 0 1 (in_c 0 rfl) rfl)) (hp15 _ _ ?_)
            show GG _ _ _ _ _ _ _ _ [.int (Int32.ofInt 0)] _ _ _
            refine g_if_eq 21 25 (gd rfl) rfl rfl (fun c18 => ?_) (fun c18 => ?_)
            · skip
              refine g_iconst 0 26 (gd rfl) rfl rfl ?_
              refine g_thr (E := am_IA) (y := yX11_allow) 29 (gd rfl) rfl rfl (Or.inl ⟨rfl, rfl, rfl⟩) (by first | exact dq1 hd rfl | exact dq0 hd rfl | exact dq2 hd rfl | exact dq3 hd rfl | omega) (Nat.le_of_ble_eq_true rfl) (Nat.le_of_ble_eq_true rfl) (Nat.le_of_ble_eq_true rfl) (fun c26 => ?_) (fun c26 => ?_)
              · skip
                exact zn_ne c26 (in_c 0 rfl) rfl
              · skip
                exact (hX _ _ ⟨rfl, s, hI, fr_rf, rfl⟩)
            · skip
              exact zn_ne c18 (in_c 0 rfl) rfl
          · skip
            have i15x1 := z_ge 0 2147483647 c15x1 (i_rng x2) rfl
            refine g_iload_n 5 (gd rfl) rfl rfl ?_
            refine g_aload_n 6 (gd rfl) rfl rfl ?_
            refine g_getI 9 (gd rfl) rfl rfl rfl (fun z15x6 e15x6 => ?_)
            have q15x6 : u_32_1 = z15x6 := (e_32_1).trans e15x6.symm
            subst q15x6
            refine g_cmp_ge 12 16 (gd rfl) rfl rfl (fun c15x9 => ?_) (fun c15x9 => ?_)
            · skip
              have i15x9 := r_le2 1 2147483647 c15x9 i7x9a i15x1 rfl
              refine g_iconst 0 17 (gd rfl) rfl rfl ?_
              refine g_ireturn (gd rfl) rfl (nb01 (in_w 0 1 (in_c 0 rfl) rfl)) (hp15 _ _ ?_)
              show GG _ _ _ _ _ _ _ _ [.int (Int32.ofInt 0)] _ _ _
              refine g_if_eq 21 25 (gd rfl) rfl rfl (fun c18 => ?_) (fun c18 => ?_)
              · skip
                refine g_iconst 0 26 (gd rfl) rfl rfl ?_
                refine g_thr (E := am_IA) (y := yX11_allow) 29 (gd rfl) rfl rfl (Or.inl ⟨rfl, rfl, rfl⟩) (by first | exact dq1 hd rfl | exact dq0 hd rfl | exact dq2 hd rfl | exact dq3 hd rfl | omega) (Nat.le_of_ble_eq_true rfl) (Nat.le_of_ble_eq_true rfl) (Nat.le_of_ble_eq_true rfl) (fun c26 => ?_) (fun c26 => ?_)
                · skip
                  exact zn_ne c26 (in_c 0 rfl) rfl
                · skip
                  exact (hX _ _ ⟨rfl, s, hI, fr_rf, rfl⟩)
              · skip
                exact zn_ne c18 (in_c 0 rfl) rfl
            · skip
              have i15x9 := r_lt1 0 31 c15x9 i15x1 i7x9a rfl
              refine g_iconst 1 13 (gd rfl) rfl rfl ?_
              refine g_goto 17 (gd rfl) rfl ?_
              refine g_ireturn (gd rfl) rfl (nb01 (in_w 0 1 (in_c 1 rfl) rfl)) (hp15 _ _ ?_)
              show GG _ _ _ _ _ _ _ _ [.int (Int32.ofInt 1)] _ _ _
              refine g_if_eq 21 25 (gd rfl) rfl rfl (fun c18 => ?_) (fun c18 => ?_)
              · skip
                exact zn_eq c18 (in_c 1 rfl) rfl
              · skip
                refine g_iconst 1 22 (gd rfl) rfl rfl ?_
                refine g_goto 26 (gd rfl) rfl ?_
                refine g_thr (E := am_IA) (y := yX11_allow) 29 (gd rfl) rfl rfl (Or.inl ⟨rfl, rfl, rfl⟩) (by first | exact dq1 hd rfl | exact dq0 hd rfl | exact dq2 hd rfl | exact dq3 hd rfl | omega) (Nat.le_of_ble_eq_true rfl) (Nat.le_of_ble_eq_true rfl) (Nat.le_of_ble_eq_true rfl) (fun c26 => ?_) (fun c26 => ?_)
                · skip
                  refine g_aload_n 30 (gd rfl) rfl rfl ?_
                  refine g_getA (q2 := 49) 33 (gd rfl) rfl rfl rfl rfl ?_
                  refine g_aload_n 34 (gd rfl) rfl rfl ?_
                  refine g_iload_n 35 (gd rfl) rfl rfl ?_
                  refine g_iload_n 36 (gd rfl) rfl rfl ?_
                  refine g_callv (X := _) (As := [.ref (A 32), .int x1, .int x2]) (r := []) (b := A 49) (q := 49) 39 (gd rfl) rfl rfl rfl rfl rfl (ww_o rfl) (Nat.le_of_ble_eq_true rfl) (Nat.zero_le _) (Nat.zero_le _) (k_200_49_32 (by first | exact dq1 hd rfl | exact dq0 hd rfl | exact dq2 hd rfl | exact dq3 hd rfl | omega) hI (in_w 0 31 i7x9 rfl) (in_w 0 31 i15x9 rfl)) (fun e u h => h) (fun v u h => ?_)
                  obtain ⟨s36, hI36, hF36, z36, rfl, rfl, i36⟩ := h
                  show GG _ _ _ _ _ _ _ _ [.int z36] _ _ _
                  exact g_ireturn (gd rfl) rfl rfl (hP _ _ ⟨s36, hI36, (fr_tr rfl fr_rf hF36), z36, rfl, rfl, in_w (-1) 1000001 i36 rfl⟩)
                · skip
                  exact zn_eq c26 (in_c 1 rfl) rfl
  · skip
    have i1x5 := r_eq1 (-1) (-1) c1x5 ro_0_2 (in_c (-1) rfl) rfl
    refine g_aload_n 9 (gd rfl) rfl rfl ?_
    refine g_getA (q2 := 1) 12 (gd rfl) rfl rfl rfl rfl ?_
    refine g_getA (q2 := 2) 15 (gd rfl) rfl rfl rfl rfl ?_
    refine g_goto 22 (gd rfl) rfl ?_
    refine g_areturn (gd rfl) rfl (hp1 _ _ ?_)
    show GG _ _ _ _ _ _ _ _ [.ref (A 2)] _ _ _
    refine g_astore_n 5 (gd rfl) rfl (Nat.le_of_ble_eq_true rfl) ?_
    refine g_aload_n 6 (gd rfl) rfl rfl ?_
    refine g_iload_n 7 (gd rfl) rfl rfl ?_
    refine g_callv (X := _) (As := [.int x1]) (r := []) (b := A 2) (q := 2) 10 (gd rfl) rfl rfl rfl rfl rfl (ww_o rfl) (Nat.le_of_ble_eq_true rfl) (mc := 0) (ms := 0) (Nat.zero_le _) (Nat.zero_le _) (P := fun v u => _) ?_ (fun e u h => h) (fun v u h => h)
    intro po7 xx7 hp7 hx7
    refine g_enter2 (k := 94) (N := 300) (by first | exact dq1 hd rfl | exact dq0 hd rfl | exact dq2 hd rfl | exact dq3 hd rfl | omega) rfl (Nat.le_of_ble_eq_true rfl) ?_
    refine g_iload_n 1 (gd rfl) rfl rfl ?_
    refine g_if_lt 4 16 (gd rfl) rfl rfl (fun c7x1 => ?_) (fun c7x1 => ?_)
    · skip
      have i7x1 := z_lt (-2147483648) (-1) c7x1 (i_rng x1) rfl
      refine g_iconst 0 17 (gd rfl) rfl rfl ?_
      refine g_ireturn (gd rfl) rfl (nb01 (in_w 0 1 (in_c 0 rfl) rfl)) (hp7 _ _ ?_)
      show GG _ _ _ _ _ _ _ _ [.int (Int32.ofInt 0)] _ _ _
      refine g_if_eq 13 25 (gd rfl) rfl rfl (fun c10 => ?_) (fun c10 => ?_)
      · skip
        refine g_iconst 0 26 (gd rfl) rfl rfl ?_
        refine g_thr (E := am_IA) (y := yX11_allow) 29 (gd rfl) rfl rfl (Or.inl ⟨rfl, rfl, rfl⟩) (by first | exact dq1 hd rfl | exact dq0 hd rfl | exact dq2 hd rfl | exact dq3 hd rfl | omega) (Nat.le_of_ble_eq_true rfl) (Nat.le_of_ble_eq_true rfl) (Nat.le_of_ble_eq_true rfl) (fun c26 => ?_) (fun c26 => ?_)
        · skip
          exact zn_ne c26 (in_c 0 rfl) rfl
        · skip
          exact (hX _ _ ⟨rfl, s, hI, fr_rf, rfl⟩)
      · skip
        exact zn_ne c10 (in_c 0 rfl) rfl
    · skip
      have i7x1 := z_ge 0 2147483647 c7x1 (i_rng x1) rfl
      refine g_iload_n 5 (gd rfl) rfl rfl ?_
      refine g_aload_n 6 (gd rfl) rfl rfl ?_
      refine g_getI 9 (gd rfl) rfl rfl rfl (fun z7x6 e7x6 => ?_)
      have q7x6 : u_2_1 = z7x6 := (e_2_1).trans e7x6.symm
      subst q7x6
      refine g_cmp_ge 12 16 (gd rfl) rfl rfl (fun c7x9 => ?_) (fun c7x9 => ?_)
      · skip
        refine g_iconst 0 17 (gd rfl) rfl rfl ?_
        refine g_ireturn (gd rfl) rfl (nb01 (in_w 0 1 (in_c 0 rfl) rfl)) (hp7 _ _ ?_)
        show GG _ _ _ _ _ _ _ _ [.int (Int32.ofInt 0)] _ _ _
        refine g_if_eq 13 25 (gd rfl) rfl rfl (fun c10 => ?_) (fun c10 => ?_)
        · skip
          refine g_iconst 0 26 (gd rfl) rfl rfl ?_
          refine g_thr (E := am_IA) (y := yX11_allow) 29 (gd rfl) rfl rfl (Or.inl ⟨rfl, rfl, rfl⟩) (by first | exact dq1 hd rfl | exact dq0 hd rfl | exact dq2 hd rfl | exact dq3 hd rfl | omega) (Nat.le_of_ble_eq_true rfl) (Nat.le_of_ble_eq_true rfl) (Nat.le_of_ble_eq_true rfl) (fun c26 => ?_) (fun c26 => ?_)
          · skip
            exact zn_ne c26 (in_c 0 rfl) rfl
          · skip
            exact (hX _ _ ⟨rfl, s, hI, fr_rf, rfl⟩)
        · skip
          exact zn_ne c10 (in_c 0 rfl) rfl
      · skip
        have i7x9 := r_lt1 0 31 c7x9 i7x1 ro_2_1 rfl
        have i7x9a := r_lt2 1 32 c7x9 i7x1 ro_2_1 rfl
        refine g_iconst 1 13 (gd rfl) rfl rfl ?_
        refine g_goto 17 (gd rfl) rfl ?_
        refine g_ireturn (gd rfl) rfl (nb01 (in_w 0 1 (in_c 1 rfl) rfl)) (hp7 _ _ ?_)
        show GG _ _ _ _ _ _ _ _ [.int (Int32.ofInt 1)] _ _ _
        refine g_if_eq 13 25 (gd rfl) rfl rfl (fun c10 => ?_) (fun c10 => ?_)
        · skip
          exact zn_eq c10 (in_c 1 rfl) rfl
        · skip
          refine g_aload_n 14 (gd rfl) rfl rfl ?_
          refine g_iload_n 15 (gd rfl) rfl rfl ?_
          refine g_callv (X := _) (As := [.int x2]) (r := []) (b := A 2) (q := 2) 18 (gd rfl) rfl rfl rfl rfl rfl (ww_o rfl) (Nat.le_of_ble_eq_true rfl) (mc := 0) (ms := 0) (Nat.zero_le _) (Nat.zero_le _) (P := fun v u => _) ?_ (fun e u h => h) (fun v u h => h)
          intro po15 xx15 hp15 hx15
          refine g_enter2 (k := 94) (N := 300) (by first | exact dq1 hd rfl | exact dq0 hd rfl | exact dq2 hd rfl | exact dq3 hd rfl | omega) rfl (Nat.le_of_ble_eq_true rfl) ?_
          refine g_iload_n 1 (gd rfl) rfl rfl ?_
          refine g_if_lt 4 16 (gd rfl) rfl rfl (fun c15x1 => ?_) (fun c15x1 => ?_)
          · skip
            have i15x1 := z_lt (-2147483648) (-1) c15x1 (i_rng x2) rfl
            refine g_iconst 0 17 (gd rfl) rfl rfl ?_
            refine g_ireturn (gd rfl) rfl (nb01 (in_w 0 1 (in_c 0 rfl) rfl)) (hp15 _ _ ?_)
            show GG _ _ _ _ _ _ _ _ [.int (Int32.ofInt 0)] _ _ _
            refine g_if_eq 21 25 (gd rfl) rfl rfl (fun c18 => ?_) (fun c18 => ?_)
            · skip
              refine g_iconst 0 26 (gd rfl) rfl rfl ?_
              refine g_thr (E := am_IA) (y := yX11_allow) 29 (gd rfl) rfl rfl (Or.inl ⟨rfl, rfl, rfl⟩) (by first | exact dq1 hd rfl | exact dq0 hd rfl | exact dq2 hd rfl | exact dq3 hd rfl | omega) (Nat.le_of_ble_eq_true rfl) (Nat.le_of_ble_eq_true rfl) (Nat.le_of_ble_eq_true rfl) (fun c26 => ?_) (fun c26 => ?_)
              · skip
                exact zn_ne c26 (in_c 0 rfl) rfl
              · skip
                exact (hX _ _ ⟨rfl, s, hI, fr_rf, rfl⟩)
            · skip
              exact zn_ne c18 (in_c 0 rfl) rfl
          · skip
            have i15x1 := z_ge 0 2147483647 c15x1 (i_rng x2) rfl
            refine g_iload_n 5 (gd rfl) rfl rfl ?_
            refine g_aload_n 6 (gd rfl) rfl rfl ?_
            refine g_getI 9 (gd rfl) rfl rfl rfl (fun z15x6 e15x6 => ?_)
            have q15x6 : u_2_1 = z15x6 := (e_2_1).trans e15x6.symm
            subst q15x6
            refine g_cmp_ge 12 16 (gd rfl) rfl rfl (fun c15x9 => ?_) (fun c15x9 => ?_)
            · skip
              have i15x9 := r_le2 1 2147483647 c15x9 i7x9a i15x1 rfl
              refine g_iconst 0 17 (gd rfl) rfl rfl ?_
              refine g_ireturn (gd rfl) rfl (nb01 (in_w 0 1 (in_c 0 rfl) rfl)) (hp15 _ _ ?_)
              show GG _ _ _ _ _ _ _ _ [.int (Int32.ofInt 0)] _ _ _
              refine g_if_eq 21 25 (gd rfl) rfl rfl (fun c18 => ?_) (fun c18 => ?_)
              · skip
                refine g_iconst 0 26 (gd rfl) rfl rfl ?_
                refine g_thr (E := am_IA) (y := yX11_allow) 29 (gd rfl) rfl rfl (Or.inl ⟨rfl, rfl, rfl⟩) (by first | exact dq1 hd rfl | exact dq0 hd rfl | exact dq2 hd rfl | exact dq3 hd rfl | omega) (Nat.le_of_ble_eq_true rfl) (Nat.le_of_ble_eq_true rfl) (Nat.le_of_ble_eq_true rfl) (fun c26 => ?_) (fun c26 => ?_)
                · skip
                  exact zn_ne c26 (in_c 0 rfl) rfl
                · skip
                  exact (hX _ _ ⟨rfl, s, hI, fr_rf, rfl⟩)
              · skip
                exact zn_ne c18 (in_c 0 rfl) rfl
            · skip
              have i15x9 := r_lt1 0 31 c15x9 i15x1 i7x9a rfl
              refine g_iconst 1 13 (gd rfl) rfl rfl ?_
              refine g_goto 17 (gd rfl) rfl ?_
              refine g_ireturn (gd rfl) rfl (nb01 (in_w 0 1 (in_c 1 rfl) rfl)) (hp15 _ _ ?_)
              show GG _ _ _ _ _ _ _ _ [.int (Int32.ofInt 1)] _ _ _
              refine g_if_eq 21 25 (gd rfl) rfl rfl (fun c18 => ?_) (fun c18 => ?_)
              · skip
                exact zn_eq c18 (in_c 1 rfl) rfl
              · skip
                refine g_iconst 1 22 (gd rfl) rfl rfl ?_
                refine g_goto 26 (gd rfl) rfl ?_
                refine g_thr (E := am_IA) (y := yX11_allow) 29 (gd rfl) rfl rfl (Or.inl ⟨rfl, rfl, rfl⟩) (by first | exact dq1 hd rfl | exact dq0 hd rfl | exact dq2 hd rfl | exact dq3 hd rfl | omega) (Nat.le_of_ble_eq_true rfl) (Nat.le_of_ble_eq_true rfl) (Nat.le_of_ble_eq_true rfl) (fun c26 => ?_) (fun c26 => ?_)
                · skip
                  refine g_aload_n 30 (gd rfl) rfl rfl ?_
                  refine g_getA (q2 := 49) 33 (gd rfl) rfl rfl rfl rfl ?_
                  refine g_aload_n 34 (gd rfl) rfl rfl ?_
                  refine g_iload_n 35 (gd rfl) rfl rfl ?_
                  refine g_iload_n 36 (gd rfl) rfl rfl ?_
                  refine g_callv (X := _) (As := [.ref (A 2), .int x1, .int x2]) (r := []) (b := A 49) (q := 49) 39 (gd rfl) rfl rfl rfl rfl rfl (ww_o rfl) (Nat.le_of_ble_eq_true rfl) (Nat.zero_le _) (Nat.zero_le _) (k_200_49_2 (by first | exact dq1 hd rfl | exact dq0 hd rfl | exact dq2 hd rfl | exact dq3 hd rfl | omega) hI (in_w 0 31 i7x9 rfl) (in_w 0 31 i15x9 rfl)) (fun e u h => h) (fun v u h => ?_)
                  obtain ⟨s36, hI36, hF36, z36, rfl, rfl, i36⟩ := h
                  show GG _ _ _ _ _ _ _ _ [.int z36] _ _ _
                  exact g_ireturn (gd rfl) rfl rfl (hP _ _ ⟨s36, hI36, (fr_tr rfl fr_rf hF36), z36, rfl, rfl, in_w (-1) 1000001 i36 rfl⟩)
                · skip
                  exact zn_eq c26 (in_c 1 rfl) rfl

def fm_234_0 : FM := ([9, 10, 11, 12, 13, 14, 15, 39, 40, 41, 42, 43, 44, 45], [], [(2, 4), (32, 4)], [])
/-- GraphHouse.part -/
theorem k_234_0 {Z : AmZ} {A : Nat → Nat} {s : GS} {ex : va_W} {d : Nat} {x1 : Int32} {x2 : Int32} (hd : 7 ≤ d) (hI : Inv s)  : GC Z d 234 [.ref (A 0), .int x1, .int x2] (WW Z A s ++ ex) 3 18 (fun v u => ∃ t : GS, Inv t ∧ Fr fm_234_0 s t ∧ ∃ z : Int32, v = some (.int z) ∧ u = WW Z A t ++ ex ∧ In z 0 32) (gE1 Z A ex fm_234_0 s) := by
  intro post xp hP hX
  obtain ⟨u_0_2, e_0_2⟩ : ∃ w, w = s.2.2.1 0 2 := ⟨_, rfl⟩
  have ro_0_2 := inv_F hI (-1) 4000 rfl e_0_2
  obtain ⟨u_2_1, e_2_1⟩ : ∃ w, w = s.2.2.1 2 1 := ⟨_, rfl⟩
  have ro_2_1 := inv_F hI 0 32 rfl e_2_1
  obtain ⟨u_32_1, e_32_1⟩ : ∃ w, w = s.2.2.1 32 1 := ⟨_, rfl⟩
  have ro_32_1 := inv_F hI 0 32 rfl e_32_1
  have ct26 : ∀ (sc26 : GS) , Inv sc26 → Fr fm_234_0 s sc26 → GG Z (d - 1) 234 post (gx xp) (901) 26 (fun j => xlook j [(0, .ref (A 0)), (1, .int x1), (2, .int x2)]) [] (WW Z A sc26 ++ ex) 3 18 := by
    intro sc26  hIc26 hFc26 
    refine g_iconst 0 27 (gd rfl) rfl rfl ?_
    refine g_thr (E := am_IA) (y := yX11_allow) 30 (gd rfl) rfl rfl (Or.inl ⟨rfl, rfl, rfl⟩) (by first | exact dq1 hd rfl | exact dq0 hd rfl | exact dq2 hd rfl | exact dq3 hd rfl | omega) (Nat.le_of_ble_eq_true rfl) (Nat.le_of_ble_eq_true rfl) (Nat.le_of_ble_eq_true rfl) (fun c27 => ?_) (fun c27 => ?_)
    · skip
      exact zn_ne c27 (in_c 0 rfl) rfl
    · skip
      exact (hX _ _ ⟨rfl, sc26, hIc26, hFc26, rfl⟩)
  refine g_enter2 (k := 234) (N := 1801) (by first | exact dq1 hd rfl | exact dq0 hd rfl | exact dq2 hd rfl | exact dq3 hd rfl | omega) rfl (Nat.le_of_ble_eq_true rfl) ?_
  refine g_aload_n 1 (gd rfl) rfl rfl ?_
  refine g_callv (X := _) (As := []) (r := []) (b := A 0) (q := 0) 4 (gd rfl) rfl rfl rfl rfl rfl (ww_o rfl) (Nat.le_of_ble_eq_true rfl) (mc := 0) (ms := 0) (Nat.zero_le _) (Nat.zero_le _) (P := fun v u => _) ?_ (fun e u h => h) (fun v u h => h)
  intro po1 xx1 hp1 hx1
  refine g_enter2 (k := 259) (N := 300) (by first | exact dq1 hd rfl | exact dq0 hd rfl | exact dq2 hd rfl | exact dq3 hd rfl | omega) rfl (Nat.le_of_ble_eq_true rfl) ?_
  refine g_aload_n 1 (gd rfl) rfl rfl ?_
  refine g_getI 4 (gd rfl) rfl rfl rfl (fun z1x1 e1x1 => ?_)
  have q1x1 : u_0_2 = z1x1 := (e_0_2).trans e1x1.symm
  subst q1x1
  refine g_iconst (-1) 5 (gd rfl) rfl rfl ?_
  refine g_cmp_ne 8 18 (gd rfl) rfl rfl (fun c1x5 => ?_) (fun c1x5 => ?_)
  · skip
    have i1x5 := r_ne1 0 4000 c1x5 ro_0_2 (in_c (-1) rfl) rfl
    refine g_aload_n 19 (gd rfl) rfl rfl ?_
    refine g_getA (q2 := 32) 22 (gd rfl) rfl rfl rfl rfl ?_
    refine g_areturn (gd rfl) rfl (hp1 _ _ ?_)
    show GG _ _ _ _ _ _ _ _ [.ref (A 32)] _ _ _
    refine g_astore_n 5 (gd rfl) rfl (Nat.le_of_ble_eq_true rfl) ?_
    refine g_iload_n 6 (gd rfl) rfl rfl ?_
    refine g_if_lt 9 26 (gd rfl) rfl rfl (fun c6 => ?_) (fun c6 => ?_)
    · skip
      have i6 := z_lt (-2147483648) (-1) c6 (i_rng x1) rfl
      exact gg_w (by first | exact Nat.le_of_ble_eq_true rfl | omega) (gg_f (gf_cons rfl (gf_cons rfl (gf_cons rfl gf_nil))) (ct26 s  hI fr_rf ))
    · skip
      have i6 := z_ge 0 2147483647 c6 (i_rng x1) rfl
      refine g_iload_n 10 (gd rfl) rfl rfl ?_
      refine g_iconst 1 11 (gd rfl) rfl rfl ?_
      refine g_cmp_gt 14 26 (gd rfl) rfl rfl (fun c11 => ?_) (fun c11 => ?_)
      · skip
        have i11 := r_lt2 2 2147483647 c11 (in_c 1 rfl) i6 rfl
        exact gg_w (by first | exact Nat.le_of_ble_eq_true rfl | omega) (gg_f (gf_cons rfl (gf_cons rfl (gf_cons rfl gf_nil))) (ct26 s  hI fr_rf ))
      · skip
        have i11 := r_le1 0 1 c11 i6 (in_c 1 rfl) rfl
        refine g_aload_n 15 (gd rfl) rfl rfl ?_
        refine g_iload_n 16 (gd rfl) rfl rfl ?_
        refine g_callv (X := _) (As := [.int x2]) (r := []) (b := A 32) (q := 32) 19 (gd rfl) rfl rfl rfl rfl rfl (ww_o rfl) (Nat.le_of_ble_eq_true rfl) (mc := 0) (ms := 0) (Nat.zero_le _) (Nat.zero_le _) (P := fun v u => _) ?_ (fun e u h => h) (fun v u h => h)
        intro po16 xx16 hp16 hx16
        refine g_enter2 (k := 94) (N := 300) (by first | exact dq1 hd rfl | exact dq0 hd rfl | exact dq2 hd rfl | exact dq3 hd rfl | omega) rfl (Nat.le_of_ble_eq_true rfl) ?_
        refine g_iload_n 1 (gd rfl) rfl rfl ?_
        refine g_if_lt 4 16 (gd rfl) rfl rfl (fun c16x1 => ?_) (fun c16x1 => ?_)
        · skip
          have i16x1 := z_lt (-2147483648) (-1) c16x1 (i_rng x2) rfl
          refine g_iconst 0 17 (gd rfl) rfl rfl ?_
          refine g_ireturn (gd rfl) rfl (nb01 (in_w 0 1 (in_c 0 rfl) rfl)) (hp16 _ _ ?_)
          show GG _ _ _ _ _ _ _ _ [.int (Int32.ofInt 0)] _ _ _
          refine g_if_eq 22 26 (gd rfl) rfl rfl (fun c19 => ?_) (fun c19 => ?_)
          · skip
            exact gg_w (by first | exact Nat.le_of_ble_eq_true rfl | omega) (gg_f (gf_cons rfl (gf_cons rfl (gf_cons rfl gf_nil))) (ct26 s  hI fr_rf ))
          · skip
            exact zn_ne c19 (in_c 0 rfl) rfl
        · skip
          have i16x1 := z_ge 0 2147483647 c16x1 (i_rng x2) rfl
          refine g_iload_n 5 (gd rfl) rfl rfl ?_
          refine g_aload_n 6 (gd rfl) rfl rfl ?_
          refine g_getI 9 (gd rfl) rfl rfl rfl (fun z16x6 e16x6 => ?_)
          have q16x6 : u_32_1 = z16x6 := (e_32_1).trans e16x6.symm
          subst q16x6
          refine g_cmp_ge 12 16 (gd rfl) rfl rfl (fun c16x9 => ?_) (fun c16x9 => ?_)
          · skip
            refine g_iconst 0 17 (gd rfl) rfl rfl ?_
            refine g_ireturn (gd rfl) rfl (nb01 (in_w 0 1 (in_c 0 rfl) rfl)) (hp16 _ _ ?_)
            show GG _ _ _ _ _ _ _ _ [.int (Int32.ofInt 0)] _ _ _
            refine g_if_eq 22 26 (gd rfl) rfl rfl (fun c19 => ?_) (fun c19 => ?_)
            · skip
              exact gg_w (by first | exact Nat.le_of_ble_eq_true rfl | omega) (gg_f (gf_cons rfl (gf_cons rfl (gf_cons rfl gf_nil))) (ct26 s  hI fr_rf ))
            · skip
              exact zn_ne c19 (in_c 0 rfl) rfl
          · skip
            have i16x9 := r_lt1 0 31 c16x9 i16x1 ro_32_1 rfl
            have i16x9a := r_lt2 1 32 c16x9 i16x1 ro_32_1 rfl
            refine g_iconst 1 13 (gd rfl) rfl rfl ?_
            refine g_goto 17 (gd rfl) rfl ?_
            refine g_ireturn (gd rfl) rfl (nb01 (in_w 0 1 (in_c 1 rfl) rfl)) (hp16 _ _ ?_)
            show GG _ _ _ _ _ _ _ _ [.int (Int32.ofInt 1)] _ _ _
            refine g_if_eq 22 26 (gd rfl) rfl rfl (fun c19 => ?_) (fun c19 => ?_)
            · skip
              exact zn_eq c19 (in_c 1 rfl) rfl
            · skip
              refine g_iconst 1 23 (gd rfl) rfl rfl ?_
              refine g_goto 27 (gd rfl) rfl ?_
              refine g_thr (E := am_IA) (y := yX11_allow) 30 (gd rfl) rfl rfl (Or.inl ⟨rfl, rfl, rfl⟩) (by first | exact dq1 hd rfl | exact dq0 hd rfl | exact dq2 hd rfl | exact dq3 hd rfl | omega) (Nat.le_of_ble_eq_true rfl) (Nat.le_of_ble_eq_true rfl) (Nat.le_of_ble_eq_true rfl) (fun c27 => ?_) (fun c27 => ?_)
              · skip
                refine g_iload_n 31 (gd rfl) rfl rfl ?_
                refine g_if_ne 34 46 (gd rfl) rfl rfl (fun c31 => ?_) (fun c31 => ?_)
                · skip
                  have i31 := z_ne 1 1 c31 i11 rfl
                  refine g_aload_n 47 (gd rfl) rfl rfl ?_
                  refine g_getA (q2 := 56) 50 (gd rfl) rfl rfl rfl rfl ?_
                  refine g_aload_n 51 (gd rfl) rfl rfl ?_
                  refine g_iload_n 52 (gd rfl) rfl rfl ?_
                  refine g_callv (X := _) (As := [.ref (A 32), .int x2]) (r := []) (b := A 56) (q := 56) 55 (gd rfl) rfl rfl rfl rfl rfl (ww_o rfl) (Nat.le_of_ble_eq_true rfl) (mc := 0) (ms := 0) (Nat.zero_le _) (Nat.zero_le _) (P := fun v u => _) ?_ (fun e u h => h) (fun v u h => h)
                  intro po52 xx52 hp52 hx52
                  refine g_enter2 (k := 141) (N := 300) (by first | exact dq1 hd rfl | exact dq0 hd rfl | exact dq2 hd rfl | exact dq3 hd rfl | omega) rfl (Nat.le_of_ble_eq_true rfl) ?_
                  refine g_aload_n 1 (gd rfl) rfl rfl ?_
                  refine g_callv (X := _) (As := []) (r := []) (b := A 32) (q := 32) 4 (gd rfl) rfl rfl rfl rfl rfl (ww_o rfl) (Nat.le_of_ble_eq_true rfl) (Nat.zero_le _) (Nat.zero_le _) (k_106_32 (by first | exact dq1 hd rfl | exact dq0 hd rfl | exact dq2 hd rfl | exact dq3 hd rfl | omega) hI ) (fun e u h => h) (fun v u h => ?_)
                  obtain ⟨s52x1, hI52x1, hF52x1, n52x1, rfl, rfl⟩ := h
                  obtain ⟨z52x1a, e52x1⟩ : ∃ w, w = s52x1.2.2.1 32 4 := ⟨_, rfl⟩
                  have i52x1a := inv_F hI52x1 (-1) 4000 rfl e52x1
                  obtain ⟨z52x1b, e52x1a⟩ : ∃ w, w = s52x1.2.2.1 32 0 := ⟨_, rfl⟩
                  have i52x1b := inv_F hI52x1 0 4000 rfl e52x1a
                  rw [← (show z52x1a = s52x1.2.2.1 32 4 from e52x1)] at n52x1
                  rw [← (show z52x1b = s52x1.2.2.1 32 0 from e52x1a)] at n52x1
                  show GG _ _ _ _ _ _ _ _ [] _ _ _
                  refine g_aload_n 5 (gd rfl) rfl rfl ?_
                  refine g_getA (q2 := 39) 8 (gd rfl) rfl rfl rfl rfl ?_
                  refine g_iconst 1 9 (gd rfl) rfl rfl ?_
                  refine g_iload_n 10 (gd rfl) rfl rfl ?_
                  refine g_ishl 11 (gd rfl) rfl (fun z52x10 e52x10 => ?_)
                  refine g_iconst (-1) 12 (gd rfl) rfl rfl ?_
                  refine g_calls (As := [.ref (A 39), .int z52x10, .int (Int32.ofInt (-1))]) (r := []) 15 (gd rfl) rfl rfl rfl rfl rfl (Nat.le_of_ble_eq_true rfl) (Nat.zero_le _) (Nat.zero_le _) (k_266_39 (by first | exact dq1 hd rfl | exact dq0 hd rfl | exact dq2 hd rfl | exact dq3 hd rfl | omega) hI52x1 ) (fun v u h => ?_)
                  obtain ⟨z52x12, rfl, rfl, i52x12, p52x12⟩ := h
                  show GG _ _ _ _ _ _ _ _ [.int z52x12] _ _ _
                  refine g_calls (As := [.int z52x12]) (r := []) 18 (gd rfl) rfl rfl rfl rfl rfl (Nat.le_of_ble_eq_true rfl) (Nat.zero_le _) (Nat.zero_le _) (k_264 (by first | exact dq1 hd rfl | exact dq0 hd rfl | exact dq2 hd rfl | exact dq3 hd rfl | omega)) (fun v u h => ?_)
                  obtain ⟨z52x15, rfl, rfl, i52x15, hb52x15⟩ := h
                  show GG _ _ _ _ _ _ _ _ [.int z52x15] _ _ _
                  refine g_ireturn (gd rfl) rfl rfl (hp52 _ _ ?_)
                  show GG _ _ _ _ _ _ _ _ [.int z52x15] _ _ _
                  exact g_ireturn (gd rfl) rfl rfl (hP _ _ ⟨s52x1, hI52x1, (fr_tr rfl fr_rf hF52x1), z52x15, rfl, rfl, in_w 0 32 i52x15 rfl⟩)
                · skip
                  have i31 := z_eq 0 0 c31 i11 rfl
                  refine g_aload_n 35 (gd rfl) rfl rfl ?_
                  refine g_getA (q2 := 56) 38 (gd rfl) rfl rfl rfl rfl ?_
                  refine g_aload_n 39 (gd rfl) rfl rfl ?_
                  refine g_iload_n 40 (gd rfl) rfl rfl ?_
                  refine g_callv (X := _) (As := [.ref (A 32), .int x2]) (r := []) (b := A 56) (q := 56) 43 (gd rfl) rfl rfl rfl rfl rfl (ww_o rfl) (Nat.le_of_ble_eq_true rfl) (mc := 0) (ms := 0) (Nat.zero_le _) (Nat.zero_le _) (P := fun v u => _) ?_ (fun e u h => h) (fun v u h => h)
                  intro po40 xx40 hp40 hx40
                  refine g_enter2 (k := 140) (N := 300) (by first | exact dq1 hd rfl | exact dq0 hd rfl | exact dq2 hd rfl | exact dq3 hd rfl | omega) rfl (Nat.le_of_ble_eq_true rfl) ?_
                  refine g_aload_n 1 (gd rfl) rfl rfl ?_
                  refine g_callv (X := _) (As := []) (r := []) (b := A 32) (q := 32) 4 (gd rfl) rfl rfl rfl rfl rfl (ww_o rfl) (Nat.le_of_ble_eq_true rfl) (Nat.zero_le _) (Nat.zero_le _) (k_106_32 (by first | exact dq1 hd rfl | exact dq0 hd rfl | exact dq2 hd rfl | exact dq3 hd rfl | omega) hI ) (fun e u h => h) (fun v u h => ?_)
                  obtain ⟨s40x1, hI40x1, hF40x1, n40x1, rfl, rfl⟩ := h
                  obtain ⟨z40x1a, e40x1⟩ : ∃ w, w = s40x1.2.2.1 32 4 := ⟨_, rfl⟩
                  have i40x1a := inv_F hI40x1 (-1) 4000 rfl e40x1
                  obtain ⟨z40x1b, e40x1a⟩ : ∃ w, w = s40x1.2.2.1 32 0 := ⟨_, rfl⟩
                  have i40x1b := inv_F hI40x1 0 4000 rfl e40x1a
                  rw [← (show z40x1a = s40x1.2.2.1 32 4 from e40x1)] at n40x1
                  rw [← (show z40x1b = s40x1.2.2.1 32 0 from e40x1a)] at n40x1
                  show GG _ _ _ _ _ _ _ _ [] _ _ _
                  refine g_aload_n 5 (gd rfl) rfl rfl ?_
                  refine g_getA (q2 := 40) 8 (gd rfl) rfl rfl rfl rfl ?_
                  refine g_iconst 1 9 (gd rfl) rfl rfl ?_
                  refine g_iload_n 10 (gd rfl) rfl rfl ?_
                  refine g_ishl 11 (gd rfl) rfl (fun z40x10 e40x10 => ?_)
                  refine g_iconst (-1) 12 (gd rfl) rfl rfl ?_
                  refine g_calls (As := [.ref (A 40), .int z40x10, .int (Int32.ofInt (-1))]) (r := []) 15 (gd rfl) rfl rfl rfl rfl rfl (Nat.le_of_ble_eq_true rfl) (Nat.zero_le _) (Nat.zero_le _) (k_266_40 (by first | exact dq1 hd rfl | exact dq0 hd rfl | exact dq2 hd rfl | exact dq3 hd rfl | omega) hI40x1 (in_w (-1) (-1) (in_c (-1) rfl) rfl)) (fun v u h => ?_)
                  obtain ⟨z40x12, rfl, rfl, i40x12, p40x12⟩ := h
                  show GG _ _ _ _ _ _ _ _ [.int z40x12] _ _ _
                  refine g_aload_n 16 (gd rfl) rfl rfl ?_
                  refine g_getA (q2 := 41) 19 (gd rfl) rfl rfl rfl rfl ?_
                  refine g_iconst 1 20 (gd rfl) rfl rfl ?_
                  refine g_iload_n 21 (gd rfl) rfl rfl ?_
                  refine g_ishl 22 (gd rfl) rfl (fun z40x21 e40x21 => ?_)
                  refine g_iconst (-1) 23 (gd rfl) rfl rfl ?_
                  refine g_calls (As := [.ref (A 41), .int z40x21, .int (Int32.ofInt (-1))]) (r := [.int z40x12]) 26 (gd rfl) rfl rfl rfl rfl rfl (Nat.le_of_ble_eq_true rfl) (Nat.zero_le _) (Nat.zero_le _) (k_266_41 (by first | exact dq1 hd rfl | exact dq0 hd rfl | exact dq2 hd rfl | exact dq3 hd rfl | omega) hI40x1 (in_w (-1) (-1) (in_c (-1) rfl) rfl)) (fun v u h => ?_)
                  obtain ⟨z40x23, rfl, rfl, i40x23, p40x23⟩ := h
                  show GG _ _ _ _ _ _ _ _ [.int z40x23, .int z40x12] _ _ _
                  refine g_iand 27 (gd rfl) rfl (fun z40x26 e40x26 => ?_)
                  refine g_calls (As := [.int z40x26]) (r := []) 30 (gd rfl) rfl rfl rfl rfl rfl (Nat.le_of_ble_eq_true rfl) (Nat.zero_le _) (Nat.zero_le _) (k_264 (by first | exact dq1 hd rfl | exact dq0 hd rfl | exact dq2 hd rfl | exact dq3 hd rfl | omega)) (fun v u h => ?_)
                  obtain ⟨z40x27, rfl, rfl, i40x27, hb40x27⟩ := h
                  show GG _ _ _ _ _ _ _ _ [.int z40x27] _ _ _
                  refine g_ireturn (gd rfl) rfl rfl (hp40 _ _ ?_)
                  show GG _ _ _ _ _ _ _ _ [.int z40x27] _ _ _
                  refine g_goto 55 (gd rfl) rfl ?_
                  exact g_ireturn (gd rfl) rfl rfl (hP _ _ ⟨s40x1, hI40x1, (fr_tr rfl fr_rf hF40x1), z40x27, rfl, rfl, in_w 0 32 i40x27 rfl⟩)
              · skip
                exact zn_eq c27 (in_c 1 rfl) rfl
  · skip
    have i1x5 := r_eq1 (-1) (-1) c1x5 ro_0_2 (in_c (-1) rfl) rfl
    refine g_aload_n 9 (gd rfl) rfl rfl ?_
    refine g_getA (q2 := 1) 12 (gd rfl) rfl rfl rfl rfl ?_
    refine g_getA (q2 := 2) 15 (gd rfl) rfl rfl rfl rfl ?_
    refine g_goto 22 (gd rfl) rfl ?_
    refine g_areturn (gd rfl) rfl (hp1 _ _ ?_)
    show GG _ _ _ _ _ _ _ _ [.ref (A 2)] _ _ _
    refine g_astore_n 5 (gd rfl) rfl (Nat.le_of_ble_eq_true rfl) ?_
    refine g_iload_n 6 (gd rfl) rfl rfl ?_
    refine g_if_lt 9 26 (gd rfl) rfl rfl (fun c6 => ?_) (fun c6 => ?_)
    · skip
      have i6 := z_lt (-2147483648) (-1) c6 (i_rng x1) rfl
      exact gg_w (by first | exact Nat.le_of_ble_eq_true rfl | omega) (gg_f (gf_cons rfl (gf_cons rfl (gf_cons rfl gf_nil))) (ct26 s  hI fr_rf ))
    · skip
      have i6 := z_ge 0 2147483647 c6 (i_rng x1) rfl
      refine g_iload_n 10 (gd rfl) rfl rfl ?_
      refine g_iconst 1 11 (gd rfl) rfl rfl ?_
      refine g_cmp_gt 14 26 (gd rfl) rfl rfl (fun c11 => ?_) (fun c11 => ?_)
      · skip
        have i11 := r_lt2 2 2147483647 c11 (in_c 1 rfl) i6 rfl
        exact gg_w (by first | exact Nat.le_of_ble_eq_true rfl | omega) (gg_f (gf_cons rfl (gf_cons rfl (gf_cons rfl gf_nil))) (ct26 s  hI fr_rf ))
      · skip
        have i11 := r_le1 0 1 c11 i6 (in_c 1 rfl) rfl
        refine g_aload_n 15 (gd rfl) rfl rfl ?_
        refine g_iload_n 16 (gd rfl) rfl rfl ?_
        refine g_callv (X := _) (As := [.int x2]) (r := []) (b := A 2) (q := 2) 19 (gd rfl) rfl rfl rfl rfl rfl (ww_o rfl) (Nat.le_of_ble_eq_true rfl) (mc := 0) (ms := 0) (Nat.zero_le _) (Nat.zero_le _) (P := fun v u => _) ?_ (fun e u h => h) (fun v u h => h)
        intro po16 xx16 hp16 hx16
        refine g_enter2 (k := 94) (N := 300) (by first | exact dq1 hd rfl | exact dq0 hd rfl | exact dq2 hd rfl | exact dq3 hd rfl | omega) rfl (Nat.le_of_ble_eq_true rfl) ?_
        refine g_iload_n 1 (gd rfl) rfl rfl ?_
        refine g_if_lt 4 16 (gd rfl) rfl rfl (fun c16x1 => ?_) (fun c16x1 => ?_)
        · skip
          have i16x1 := z_lt (-2147483648) (-1) c16x1 (i_rng x2) rfl
          refine g_iconst 0 17 (gd rfl) rfl rfl ?_
          refine g_ireturn (gd rfl) rfl (nb01 (in_w 0 1 (in_c 0 rfl) rfl)) (hp16 _ _ ?_)
          show GG _ _ _ _ _ _ _ _ [.int (Int32.ofInt 0)] _ _ _
          refine g_if_eq 22 26 (gd rfl) rfl rfl (fun c19 => ?_) (fun c19 => ?_)
          · skip
            exact gg_w (by first | exact Nat.le_of_ble_eq_true rfl | omega) (gg_f (gf_cons rfl (gf_cons rfl (gf_cons rfl gf_nil))) (ct26 s  hI fr_rf ))
          · skip
            exact zn_ne c19 (in_c 0 rfl) rfl
        · skip
          have i16x1 := z_ge 0 2147483647 c16x1 (i_rng x2) rfl
          refine g_iload_n 5 (gd rfl) rfl rfl ?_
          refine g_aload_n 6 (gd rfl) rfl rfl ?_
          refine g_getI 9 (gd rfl) rfl rfl rfl (fun z16x6 e16x6 => ?_)
          have q16x6 : u_2_1 = z16x6 := (e_2_1).trans e16x6.symm
          subst q16x6
          refine g_cmp_ge 12 16 (gd rfl) rfl rfl (fun c16x9 => ?_) (fun c16x9 => ?_)
          · skip
            refine g_iconst 0 17 (gd rfl) rfl rfl ?_
            refine g_ireturn (gd rfl) rfl (nb01 (in_w 0 1 (in_c 0 rfl) rfl)) (hp16 _ _ ?_)
            show GG _ _ _ _ _ _ _ _ [.int (Int32.ofInt 0)] _ _ _
            refine g_if_eq 22 26 (gd rfl) rfl rfl (fun c19 => ?_) (fun c19 => ?_)
            · skip
              exact gg_w (by first | exact Nat.le_of_ble_eq_true rfl | omega) (gg_f (gf_cons rfl (gf_cons rfl (gf_cons rfl gf_nil))) (ct26 s  hI fr_rf ))
            · skip
              exact zn_ne c19 (in_c 0 rfl) rfl
          · skip
            have i16x9 := r_lt1 0 31 c16x9 i16x1 ro_2_1 rfl
            have i16x9a := r_lt2 1 32 c16x9 i16x1 ro_2_1 rfl
            refine g_iconst 1 13 (gd rfl) rfl rfl ?_
            refine g_goto 17 (gd rfl) rfl ?_
            refine g_ireturn (gd rfl) rfl (nb01 (in_w 0 1 (in_c 1 rfl) rfl)) (hp16 _ _ ?_)
            show GG _ _ _ _ _ _ _ _ [.int (Int32.ofInt 1)] _ _ _
            refine g_if_eq 22 26 (gd rfl) rfl rfl (fun c19 => ?_) (fun c19 => ?_)
            · skip
              exact zn_eq c19 (in_c 1 rfl) rfl
            · skip
              refine g_iconst 1 23 (gd rfl) rfl rfl ?_
              refine g_goto 27 (gd rfl) rfl ?_
              refine g_thr (E := am_IA) (y := yX11_allow) 30 (gd rfl) rfl rfl (Or.inl ⟨rfl, rfl, rfl⟩) (by first | exact dq1 hd rfl | exact dq0 hd rfl | exact dq2 hd rfl | exact dq3 hd rfl | omega) (Nat.le_of_ble_eq_true rfl) (Nat.le_of_ble_eq_true rfl) (Nat.le_of_ble_eq_true rfl) (fun c27 => ?_) (fun c27 => ?_)
              · skip
                refine g_iload_n 31 (gd rfl) rfl rfl ?_
                refine g_if_ne 34 46 (gd rfl) rfl rfl (fun c31 => ?_) (fun c31 => ?_)
                · skip
                  have i31 := z_ne 1 1 c31 i11 rfl
                  refine g_aload_n 47 (gd rfl) rfl rfl ?_
                  refine g_getA (q2 := 56) 50 (gd rfl) rfl rfl rfl rfl ?_
                  refine g_aload_n 51 (gd rfl) rfl rfl ?_
                  refine g_iload_n 52 (gd rfl) rfl rfl ?_
                  refine g_callv (X := _) (As := [.ref (A 2), .int x2]) (r := []) (b := A 56) (q := 56) 55 (gd rfl) rfl rfl rfl rfl rfl (ww_o rfl) (Nat.le_of_ble_eq_true rfl) (mc := 0) (ms := 0) (Nat.zero_le _) (Nat.zero_le _) (P := fun v u => _) ?_ (fun e u h => h) (fun v u h => h)
                  intro po52 xx52 hp52 hx52
                  refine g_enter2 (k := 141) (N := 300) (by first | exact dq1 hd rfl | exact dq0 hd rfl | exact dq2 hd rfl | exact dq3 hd rfl | omega) rfl (Nat.le_of_ble_eq_true rfl) ?_
                  refine g_aload_n 1 (gd rfl) rfl rfl ?_
                  refine g_callv (X := _) (As := []) (r := []) (b := A 2) (q := 2) 4 (gd rfl) rfl rfl rfl rfl rfl (ww_o rfl) (Nat.le_of_ble_eq_true rfl) (Nat.zero_le _) (Nat.zero_le _) (k_106_2 (by first | exact dq1 hd rfl | exact dq0 hd rfl | exact dq2 hd rfl | exact dq3 hd rfl | omega) hI ) (fun e u h => h) (fun v u h => ?_)
                  obtain ⟨s52x1, hI52x1, hF52x1, n52x1, rfl, rfl⟩ := h
                  obtain ⟨z52x1a, e52x1⟩ : ∃ w, w = s52x1.2.2.1 2 4 := ⟨_, rfl⟩
                  have i52x1a := inv_F hI52x1 (-1) 4000 rfl e52x1
                  obtain ⟨z52x1b, e52x1a⟩ : ∃ w, w = s52x1.2.2.1 2 0 := ⟨_, rfl⟩
                  have i52x1b := inv_F hI52x1 0 4000 rfl e52x1a
                  rw [← (show z52x1a = s52x1.2.2.1 2 4 from e52x1)] at n52x1
                  rw [← (show z52x1b = s52x1.2.2.1 2 0 from e52x1a)] at n52x1
                  show GG _ _ _ _ _ _ _ _ [] _ _ _
                  refine g_aload_n 5 (gd rfl) rfl rfl ?_
                  refine g_getA (q2 := 9) 8 (gd rfl) rfl rfl rfl rfl ?_
                  refine g_iconst 1 9 (gd rfl) rfl rfl ?_
                  refine g_iload_n 10 (gd rfl) rfl rfl ?_
                  refine g_ishl 11 (gd rfl) rfl (fun z52x10 e52x10 => ?_)
                  refine g_iconst (-1) 12 (gd rfl) rfl rfl ?_
                  refine g_calls (As := [.ref (A 9), .int z52x10, .int (Int32.ofInt (-1))]) (r := []) 15 (gd rfl) rfl rfl rfl rfl rfl (Nat.le_of_ble_eq_true rfl) (Nat.zero_le _) (Nat.zero_le _) (k_266_9 (by first | exact dq1 hd rfl | exact dq0 hd rfl | exact dq2 hd rfl | exact dq3 hd rfl | omega) hI52x1 ) (fun v u h => ?_)
                  obtain ⟨z52x12, rfl, rfl, i52x12, p52x12⟩ := h
                  show GG _ _ _ _ _ _ _ _ [.int z52x12] _ _ _
                  refine g_calls (As := [.int z52x12]) (r := []) 18 (gd rfl) rfl rfl rfl rfl rfl (Nat.le_of_ble_eq_true rfl) (Nat.zero_le _) (Nat.zero_le _) (k_264 (by first | exact dq1 hd rfl | exact dq0 hd rfl | exact dq2 hd rfl | exact dq3 hd rfl | omega)) (fun v u h => ?_)
                  obtain ⟨z52x15, rfl, rfl, i52x15, hb52x15⟩ := h
                  show GG _ _ _ _ _ _ _ _ [.int z52x15] _ _ _
                  refine g_ireturn (gd rfl) rfl rfl (hp52 _ _ ?_)
                  show GG _ _ _ _ _ _ _ _ [.int z52x15] _ _ _
                  exact g_ireturn (gd rfl) rfl rfl (hP _ _ ⟨s52x1, hI52x1, (fr_tr rfl fr_rf hF52x1), z52x15, rfl, rfl, in_w 0 32 i52x15 rfl⟩)
                · skip
                  have i31 := z_eq 0 0 c31 i11 rfl
                  refine g_aload_n 35 (gd rfl) rfl rfl ?_
                  refine g_getA (q2 := 56) 38 (gd rfl) rfl rfl rfl rfl ?_
                  refine g_aload_n 39 (gd rfl) rfl rfl ?_
                  refine g_iload_n 40 (gd rfl) rfl rfl ?_
                  refine g_callv (X := _) (As := [.ref (A 2), .int x2]) (r := []) (b := A 56) (q := 56) 43 (gd rfl) rfl rfl rfl rfl rfl (ww_o rfl) (Nat.le_of_ble_eq_true rfl) (mc := 0) (ms := 0) (Nat.zero_le _) (Nat.zero_le _) (P := fun v u => _) ?_ (fun e u h => h) (fun v u h => h)
                  intro po40 xx40 hp40 hx40
                  refine g_enter2 (k := 140) (N := 300) (by first | exact dq1 hd rfl | exact dq0 hd rfl | exact dq2 hd rfl | exact dq3 hd rfl | omega) rfl (Nat.le_of_ble_eq_true rfl) ?_
                  refine g_aload_n 1 (gd rfl) rfl rfl ?_
                  refine g_callv (X := _) (As := []) (r := []) (b := A 2) (q := 2) 4 (gd rfl) rfl rfl rfl rfl rfl (ww_o rfl) (Nat.le_of_ble_eq_true rfl) (Nat.zero_le _) (Nat.zero_le _) (k_106_2 (by first | exact dq1 hd rfl | exact dq0 hd rfl | exact dq2 hd rfl | exact dq3 hd rfl | omega) hI ) (fun e u h => h) (fun v u h => ?_)
                  obtain ⟨s40x1, hI40x1, hF40x1, n40x1, rfl, rfl⟩ := h
                  obtain ⟨z40x1a, e40x1⟩ : ∃ w, w = s40x1.2.2.1 2 4 := ⟨_, rfl⟩
                  have i40x1a := inv_F hI40x1 (-1) 4000 rfl e40x1
                  obtain ⟨z40x1b, e40x1a⟩ : ∃ w, w = s40x1.2.2.1 2 0 := ⟨_, rfl⟩
                  have i40x1b := inv_F hI40x1 0 4000 rfl e40x1a
                  rw [← (show z40x1a = s40x1.2.2.1 2 4 from e40x1)] at n40x1
                  rw [← (show z40x1b = s40x1.2.2.1 2 0 from e40x1a)] at n40x1
                  show GG _ _ _ _ _ _ _ _ [] _ _ _
                  refine g_aload_n 5 (gd rfl) rfl rfl ?_
                  refine g_getA (q2 := 10) 8 (gd rfl) rfl rfl rfl rfl ?_
                  refine g_iconst 1 9 (gd rfl) rfl rfl ?_
                  refine g_iload_n 10 (gd rfl) rfl rfl ?_
                  refine g_ishl 11 (gd rfl) rfl (fun z40x10 e40x10 => ?_)
                  refine g_iconst (-1) 12 (gd rfl) rfl rfl ?_
                  refine g_calls (As := [.ref (A 10), .int z40x10, .int (Int32.ofInt (-1))]) (r := []) 15 (gd rfl) rfl rfl rfl rfl rfl (Nat.le_of_ble_eq_true rfl) (Nat.zero_le _) (Nat.zero_le _) (k_266_10 (by first | exact dq1 hd rfl | exact dq0 hd rfl | exact dq2 hd rfl | exact dq3 hd rfl | omega) hI40x1 (in_w (-1) (-1) (in_c (-1) rfl) rfl)) (fun v u h => ?_)
                  obtain ⟨z40x12, rfl, rfl, i40x12, p40x12⟩ := h
                  show GG _ _ _ _ _ _ _ _ [.int z40x12] _ _ _
                  refine g_aload_n 16 (gd rfl) rfl rfl ?_
                  refine g_getA (q2 := 11) 19 (gd rfl) rfl rfl rfl rfl ?_
                  refine g_iconst 1 20 (gd rfl) rfl rfl ?_
                  refine g_iload_n 21 (gd rfl) rfl rfl ?_
                  refine g_ishl 22 (gd rfl) rfl (fun z40x21 e40x21 => ?_)
                  refine g_iconst (-1) 23 (gd rfl) rfl rfl ?_
                  refine g_calls (As := [.ref (A 11), .int z40x21, .int (Int32.ofInt (-1))]) (r := [.int z40x12]) 26 (gd rfl) rfl rfl rfl rfl rfl (Nat.le_of_ble_eq_true rfl) (Nat.zero_le _) (Nat.zero_le _) (k_266_11 (by first | exact dq1 hd rfl | exact dq0 hd rfl | exact dq2 hd rfl | exact dq3 hd rfl | omega) hI40x1 (in_w (-1) (-1) (in_c (-1) rfl) rfl)) (fun v u h => ?_)
                  obtain ⟨z40x23, rfl, rfl, i40x23, p40x23⟩ := h
                  show GG _ _ _ _ _ _ _ _ [.int z40x23, .int z40x12] _ _ _
                  refine g_iand 27 (gd rfl) rfl (fun z40x26 e40x26 => ?_)
                  refine g_calls (As := [.int z40x26]) (r := []) 30 (gd rfl) rfl rfl rfl rfl rfl (Nat.le_of_ble_eq_true rfl) (Nat.zero_le _) (Nat.zero_le _) (k_264 (by first | exact dq1 hd rfl | exact dq0 hd rfl | exact dq2 hd rfl | exact dq3 hd rfl | omega)) (fun v u h => ?_)
                  obtain ⟨z40x27, rfl, rfl, i40x27, hb40x27⟩ := h
                  show GG _ _ _ _ _ _ _ _ [.int z40x27] _ _ _
                  refine g_ireturn (gd rfl) rfl rfl (hp40 _ _ ?_)
                  show GG _ _ _ _ _ _ _ _ [.int z40x27] _ _ _
                  refine g_goto 55 (gd rfl) rfl ?_
                  exact g_ireturn (gd rfl) rfl rfl (hP _ _ ⟨s40x1, hI40x1, (fr_tr rfl fr_rf hF40x1), z40x27, rfl, rfl, in_w 0 32 i40x27 rfl⟩)
              · skip
                exact zn_eq c27 (in_c 1 rfl) rfl

def fm_235_0 : FM := ([9, 10, 11, 12, 13, 14, 15, 39, 40, 41, 42, 43, 44, 45], [], [(2, 4), (32, 4)], [])
/-- GraphHouse.bridge -/
theorem k_235_0 {Z : AmZ} {A : Nat → Nat} {s : GS} {ex : va_W} {d : Nat} {x1 : Int32} (hd : 7 ≤ d) (hI : Inv s)  : GC Z d 235 [.ref (A 0), .int x1] (WW Z A s ++ ex) 3 18 (fun v u => ∃ t : GS, Inv t ∧ Fr fm_235_0 s t ∧ ∃ z : Int32, v = some (.int z) ∧ u = WW Z A t ++ ex ∧ In z 0 1) (gE1 Z A ex fm_235_0 s) := by
  intro post xp hP hX
  obtain ⟨u_0_2, e_0_2⟩ : ∃ w, w = s.2.2.1 0 2 := ⟨_, rfl⟩
  have ro_0_2 := inv_F hI (-1) 4000 rfl e_0_2
  obtain ⟨u_2_3, e_2_3⟩ : ∃ w, w = s.2.2.1 2 3 := ⟨_, rfl⟩
  have ro_2_3 := inv_F hI 0 160 rfl e_2_3
  obtain ⟨u_32_3, e_32_3⟩ : ∃ w, w = s.2.2.1 32 3 := ⟨_, rfl⟩
  have ro_32_3 := inv_F hI 0 160 rfl e_32_3
  refine g_enter2 (k := 235) (N := 900) (by first | exact dq1 hd rfl | exact dq0 hd rfl | exact dq2 hd rfl | exact dq3 hd rfl | omega) rfl (Nat.le_of_ble_eq_true rfl) ?_
  refine g_aload_n 1 (gd rfl) rfl rfl ?_
  refine g_callv (X := _) (As := []) (r := []) (b := A 0) (q := 0) 4 (gd rfl) rfl rfl rfl rfl rfl (ww_o rfl) (Nat.le_of_ble_eq_true rfl) (mc := 0) (ms := 0) (Nat.zero_le _) (Nat.zero_le _) (P := fun v u => _) ?_ (fun e u h => h) (fun v u h => h)
  intro po1 xx1 hp1 hx1
  refine g_enter2 (k := 259) (N := 300) (by first | exact dq1 hd rfl | exact dq0 hd rfl | exact dq2 hd rfl | exact dq3 hd rfl | omega) rfl (Nat.le_of_ble_eq_true rfl) ?_
  refine g_aload_n 1 (gd rfl) rfl rfl ?_
  refine g_getI 4 (gd rfl) rfl rfl rfl (fun z1x1 e1x1 => ?_)
  have q1x1 : u_0_2 = z1x1 := (e_0_2).trans e1x1.symm
  subst q1x1
  refine g_iconst (-1) 5 (gd rfl) rfl rfl ?_
  refine g_cmp_ne 8 18 (gd rfl) rfl rfl (fun c1x5 => ?_) (fun c1x5 => ?_)
  · skip
    have i1x5 := r_ne1 0 4000 c1x5 ro_0_2 (in_c (-1) rfl) rfl
    refine g_aload_n 19 (gd rfl) rfl rfl ?_
    refine g_getA (q2 := 32) 22 (gd rfl) rfl rfl rfl rfl ?_
    refine g_areturn (gd rfl) rfl (hp1 _ _ ?_)
    show GG _ _ _ _ _ _ _ _ [.ref (A 32)] _ _ _
    refine g_astore_n 5 (gd rfl) rfl (Nat.le_of_ble_eq_true rfl) ?_
    refine g_aload_n 6 (gd rfl) rfl rfl ?_
    refine g_iload_n 7 (gd rfl) rfl rfl ?_
    refine g_callv (X := _) (As := [.int x1]) (r := []) (b := A 32) (q := 32) 10 (gd rfl) rfl rfl rfl rfl rfl (ww_o rfl) (Nat.le_of_ble_eq_true rfl) (mc := 0) (ms := 0) (Nat.zero_le _) (Nat.zero_le _) (P := fun v u => _) ?_ (fun e u h => h) (fun v u h => h)
    intro po7 xx7 hp7 hx7
    refine g_enter2 (k := 96) (N := 300) (by first | exact dq1 hd rfl | exact dq0 hd rfl | exact dq2 hd rfl | exact dq3 hd rfl | omega) rfl (Nat.le_of_ble_eq_true rfl) ?_
    refine g_iload_n 1 (gd rfl) rfl rfl ?_
    refine g_if_lt 4 26 (gd rfl) rfl rfl (fun c7x1 => ?_) (fun c7x1 => ?_)
    · skip
      have i7x1 := z_lt (-2147483648) (-1) c7x1 (i_rng x1) rfl
      refine g_iconst 0 27 (gd rfl) rfl rfl ?_
      refine g_ireturn (gd rfl) rfl (nb01 (in_w 0 1 (in_c 0 rfl) rfl)) (hp7 _ _ ?_)
      show GG _ _ _ _ _ _ _ _ [.int (Int32.ofInt 0)] _ _ _
      refine g_thr (E := am_IA) (y := yX11_allow) 13 (gd rfl) rfl rfl (Or.inl ⟨rfl, rfl, rfl⟩) (by first | exact dq1 hd rfl | exact dq0 hd rfl | exact dq2 hd rfl | exact dq3 hd rfl | omega) (Nat.le_of_ble_eq_true rfl) (Nat.le_of_ble_eq_true rfl) (Nat.le_of_ble_eq_true rfl) (fun c10 => ?_) (fun c10 => ?_)
      · skip
        exact zn_ne c10 (in_c 0 rfl) rfl
      · skip
        exact (hX _ _ ⟨rfl, s, hI, fr_rf, rfl⟩)
    · skip
      have i7x1 := z_ge 0 2147483647 c7x1 (i_rng x1) rfl
      refine g_iload_n 5 (gd rfl) rfl rfl ?_
      refine g_aload_n 6 (gd rfl) rfl rfl ?_
      refine g_getI 9 (gd rfl) rfl rfl rfl (fun z7x6 e7x6 => ?_)
      have q7x6 : u_32_3 = z7x6 := (e_32_3).trans e7x6.symm
      subst q7x6
      refine g_cmp_ge 12 26 (gd rfl) rfl rfl (fun c7x9 => ?_) (fun c7x9 => ?_)
      · skip
        refine g_iconst 0 27 (gd rfl) rfl rfl ?_
        refine g_ireturn (gd rfl) rfl (nb01 (in_w 0 1 (in_c 0 rfl) rfl)) (hp7 _ _ ?_)
        show GG _ _ _ _ _ _ _ _ [.int (Int32.ofInt 0)] _ _ _
        refine g_thr (E := am_IA) (y := yX11_allow) 13 (gd rfl) rfl rfl (Or.inl ⟨rfl, rfl, rfl⟩) (by first | exact dq1 hd rfl | exact dq0 hd rfl | exact dq2 hd rfl | exact dq3 hd rfl | omega) (Nat.le_of_ble_eq_true rfl) (Nat.le_of_ble_eq_true rfl) (Nat.le_of_ble_eq_true rfl) (fun c10 => ?_) (fun c10 => ?_)
        · skip
          exact zn_ne c10 (in_c 0 rfl) rfl
        · skip
          exact (hX _ _ ⟨rfl, s, hI, fr_rf, rfl⟩)
      · skip
        have i7x9 := r_lt1 0 159 c7x9 i7x1 ro_32_3 rfl
        have i7x9a := r_lt2 1 160 c7x9 i7x1 ro_32_3 rfl
        refine g_aload_n 13 (gd rfl) rfl rfl ?_
        refine g_getA (q2 := 34) 16 (gd rfl) rfl rfl rfl rfl ?_
        refine g_iload_n 17 (gd rfl) rfl rfl ?_
        refine g_iaload 18 (gd rfl) rfl (n := 160) rfl (in_ix i7x9 rfl) (fun z7x17 e7x17 => ?_)
        have i7x17 := inv_I hI (n := 160) (t := 0) (-1) 31 rfl (in_ix i7x9 rfl) rfl e7x17
        refine g_iconst (-1) 19 (gd rfl) rfl rfl ?_
        refine g_cmp_eq 22 26 (gd rfl) rfl rfl (fun c7x19 => ?_) (fun c7x19 => ?_)
        · skip
          have i7x19 := r_eq1 (-1) (-1) c7x19 i7x17 (in_c (-1) rfl) rfl
          refine g_iconst 0 27 (gd rfl) rfl rfl ?_
          refine g_ireturn (gd rfl) rfl (nb01 (in_w 0 1 (in_c 0 rfl) rfl)) (hp7 _ _ ?_)
          show GG _ _ _ _ _ _ _ _ [.int (Int32.ofInt 0)] _ _ _
          refine g_thr (E := am_IA) (y := yX11_allow) 13 (gd rfl) rfl rfl (Or.inl ⟨rfl, rfl, rfl⟩) (by first | exact dq1 hd rfl | exact dq0 hd rfl | exact dq2 hd rfl | exact dq3 hd rfl | omega) (Nat.le_of_ble_eq_true rfl) (Nat.le_of_ble_eq_true rfl) (Nat.le_of_ble_eq_true rfl) (fun c10 => ?_) (fun c10 => ?_)
          · skip
            exact zn_ne c10 (in_c 0 rfl) rfl
          · skip
            exact (hX _ _ ⟨rfl, s, hI, fr_rf, rfl⟩)
        · skip
          have i7x19 := r_ne1 0 31 c7x19 i7x17 (in_c (-1) rfl) rfl
          refine g_iconst 1 23 (gd rfl) rfl rfl ?_
          refine g_goto 27 (gd rfl) rfl ?_
          refine g_ireturn (gd rfl) rfl (nb01 (in_w 0 1 (in_c 1 rfl) rfl)) (hp7 _ _ ?_)
          show GG _ _ _ _ _ _ _ _ [.int (Int32.ofInt 1)] _ _ _
          refine g_thr (E := am_IA) (y := yX11_allow) 13 (gd rfl) rfl rfl (Or.inl ⟨rfl, rfl, rfl⟩) (by first | exact dq1 hd rfl | exact dq0 hd rfl | exact dq2 hd rfl | exact dq3 hd rfl | omega) (Nat.le_of_ble_eq_true rfl) (Nat.le_of_ble_eq_true rfl) (Nat.le_of_ble_eq_true rfl) (fun c10 => ?_) (fun c10 => ?_)
          · skip
            refine g_aload_n 14 (gd rfl) rfl rfl ?_
            refine g_getA (q2 := 56) 17 (gd rfl) rfl rfl rfl rfl ?_
            refine g_aload_n 18 (gd rfl) rfl rfl ?_
            refine g_iload_n 19 (gd rfl) rfl rfl ?_
            refine g_callv (X := _) (As := [.ref (A 32), .int x1]) (r := []) (b := A 56) (q := 56) 22 (gd rfl) rfl rfl rfl rfl rfl (ww_o rfl) (Nat.le_of_ble_eq_true rfl) (Nat.zero_le _) (Nat.zero_le _) (k_142_56_32 (by first | exact dq1 hd rfl | exact dq0 hd rfl | exact dq2 hd rfl | exact dq3 hd rfl | omega) hI (in_w 0 159 i7x9 rfl)) (fun e u h => h) (fun v u h => ?_)
            obtain ⟨s19, hI19, hF19, z19, rfl, rfl, i19⟩ := h
            show GG _ _ _ _ _ _ _ _ [.int z19] _ _ _
            exact g_ireturn (gd rfl) rfl (nb01 (in_w 0 1 i19 rfl)) (hP _ _ ⟨s19, hI19, (fr_tr rfl fr_rf hF19), z19, rfl, rfl, in_w 0 1 i19 rfl⟩)
          · skip
            exact zn_eq c10 (in_c 1 rfl) rfl
  · skip
    have i1x5 := r_eq1 (-1) (-1) c1x5 ro_0_2 (in_c (-1) rfl) rfl
    refine g_aload_n 9 (gd rfl) rfl rfl ?_
    refine g_getA (q2 := 1) 12 (gd rfl) rfl rfl rfl rfl ?_
    refine g_getA (q2 := 2) 15 (gd rfl) rfl rfl rfl rfl ?_
    refine g_goto 22 (gd rfl) rfl ?_
    refine g_areturn (gd rfl) rfl (hp1 _ _ ?_)
    show GG _ _ _ _ _ _ _ _ [.ref (A 2)] _ _ _
    refine g_astore_n 5 (gd rfl) rfl (Nat.le_of_ble_eq_true rfl) ?_
    refine g_aload_n 6 (gd rfl) rfl rfl ?_
    refine g_iload_n 7 (gd rfl) rfl rfl ?_
    refine g_callv (X := _) (As := [.int x1]) (r := []) (b := A 2) (q := 2) 10 (gd rfl) rfl rfl rfl rfl rfl (ww_o rfl) (Nat.le_of_ble_eq_true rfl) (mc := 0) (ms := 0) (Nat.zero_le _) (Nat.zero_le _) (P := fun v u => _) ?_ (fun e u h => h) (fun v u h => h)
    intro po7 xx7 hp7 hx7
    refine g_enter2 (k := 96) (N := 300) (by first | exact dq1 hd rfl | exact dq0 hd rfl | exact dq2 hd rfl | exact dq3 hd rfl | omega) rfl (Nat.le_of_ble_eq_true rfl) ?_
    refine g_iload_n 1 (gd rfl) rfl rfl ?_
    refine g_if_lt 4 26 (gd rfl) rfl rfl (fun c7x1 => ?_) (fun c7x1 => ?_)
    · skip
      have i7x1 := z_lt (-2147483648) (-1) c7x1 (i_rng x1) rfl
      refine g_iconst 0 27 (gd rfl) rfl rfl ?_
      refine g_ireturn (gd rfl) rfl (nb01 (in_w 0 1 (in_c 0 rfl) rfl)) (hp7 _ _ ?_)
      show GG _ _ _ _ _ _ _ _ [.int (Int32.ofInt 0)] _ _ _
      refine g_thr (E := am_IA) (y := yX11_allow) 13 (gd rfl) rfl rfl (Or.inl ⟨rfl, rfl, rfl⟩) (by first | exact dq1 hd rfl | exact dq0 hd rfl | exact dq2 hd rfl | exact dq3 hd rfl | omega) (Nat.le_of_ble_eq_true rfl) (Nat.le_of_ble_eq_true rfl) (Nat.le_of_ble_eq_true rfl) (fun c10 => ?_) (fun c10 => ?_)
      · skip
        exact zn_ne c10 (in_c 0 rfl) rfl
      · skip
        exact (hX _ _ ⟨rfl, s, hI, fr_rf, rfl⟩)
    · skip
      have i7x1 := z_ge 0 2147483647 c7x1 (i_rng x1) rfl
      refine g_iload_n 5 (gd rfl) rfl rfl ?_
      refine g_aload_n 6 (gd rfl) rfl rfl ?_
      refine g_getI 9 (gd rfl) rfl rfl rfl (fun z7x6 e7x6 => ?_)
      have q7x6 : u_2_3 = z7x6 := (e_2_3).trans e7x6.symm
      subst q7x6
      refine g_cmp_ge 12 26 (gd rfl) rfl rfl (fun c7x9 => ?_) (fun c7x9 => ?_)
      · skip
        refine g_iconst 0 27 (gd rfl) rfl rfl ?_
        refine g_ireturn (gd rfl) rfl (nb01 (in_w 0 1 (in_c 0 rfl) rfl)) (hp7 _ _ ?_)
        show GG _ _ _ _ _ _ _ _ [.int (Int32.ofInt 0)] _ _ _
        refine g_thr (E := am_IA) (y := yX11_allow) 13 (gd rfl) rfl rfl (Or.inl ⟨rfl, rfl, rfl⟩) (by first | exact dq1 hd rfl | exact dq0 hd rfl | exact dq2 hd rfl | exact dq3 hd rfl | omega) (Nat.le_of_ble_eq_true rfl) (Nat.le_of_ble_eq_true rfl) (Nat.le_of_ble_eq_true rfl) (fun c10 => ?_) (fun c10 => ?_)
        · skip
          exact zn_ne c10 (in_c 0 rfl) rfl
        · skip
          exact (hX _ _ ⟨rfl, s, hI, fr_rf, rfl⟩)
      · skip
        have i7x9 := r_lt1 0 159 c7x9 i7x1 ro_2_3 rfl
        have i7x9a := r_lt2 1 160 c7x9 i7x1 ro_2_3 rfl
        refine g_aload_n 13 (gd rfl) rfl rfl ?_
        refine g_getA (q2 := 4) 16 (gd rfl) rfl rfl rfl rfl ?_
        refine g_iload_n 17 (gd rfl) rfl rfl ?_
        refine g_iaload 18 (gd rfl) rfl (n := 160) rfl (in_ix i7x9 rfl) (fun z7x17 e7x17 => ?_)
        have i7x17 := inv_I hI (n := 160) (t := 0) (-1) 31 rfl (in_ix i7x9 rfl) rfl e7x17
        refine g_iconst (-1) 19 (gd rfl) rfl rfl ?_
        refine g_cmp_eq 22 26 (gd rfl) rfl rfl (fun c7x19 => ?_) (fun c7x19 => ?_)
        · skip
          have i7x19 := r_eq1 (-1) (-1) c7x19 i7x17 (in_c (-1) rfl) rfl
          refine g_iconst 0 27 (gd rfl) rfl rfl ?_
          refine g_ireturn (gd rfl) rfl (nb01 (in_w 0 1 (in_c 0 rfl) rfl)) (hp7 _ _ ?_)
          show GG _ _ _ _ _ _ _ _ [.int (Int32.ofInt 0)] _ _ _
          refine g_thr (E := am_IA) (y := yX11_allow) 13 (gd rfl) rfl rfl (Or.inl ⟨rfl, rfl, rfl⟩) (by first | exact dq1 hd rfl | exact dq0 hd rfl | exact dq2 hd rfl | exact dq3 hd rfl | omega) (Nat.le_of_ble_eq_true rfl) (Nat.le_of_ble_eq_true rfl) (Nat.le_of_ble_eq_true rfl) (fun c10 => ?_) (fun c10 => ?_)
          · skip
            exact zn_ne c10 (in_c 0 rfl) rfl
          · skip
            exact (hX _ _ ⟨rfl, s, hI, fr_rf, rfl⟩)
        · skip
          have i7x19 := r_ne1 0 31 c7x19 i7x17 (in_c (-1) rfl) rfl
          refine g_iconst 1 23 (gd rfl) rfl rfl ?_
          refine g_goto 27 (gd rfl) rfl ?_
          refine g_ireturn (gd rfl) rfl (nb01 (in_w 0 1 (in_c 1 rfl) rfl)) (hp7 _ _ ?_)
          show GG _ _ _ _ _ _ _ _ [.int (Int32.ofInt 1)] _ _ _
          refine g_thr (E := am_IA) (y := yX11_allow) 13 (gd rfl) rfl rfl (Or.inl ⟨rfl, rfl, rfl⟩) (by first | exact dq1 hd rfl | exact dq0 hd rfl | exact dq2 hd rfl | exact dq3 hd rfl | omega) (Nat.le_of_ble_eq_true rfl) (Nat.le_of_ble_eq_true rfl) (Nat.le_of_ble_eq_true rfl) (fun c10 => ?_) (fun c10 => ?_)
          · skip
            refine g_aload_n 14 (gd rfl) rfl rfl ?_
            refine g_getA (q2 := 56) 17 (gd rfl) rfl rfl rfl rfl ?_
            refine g_aload_n 18 (gd rfl) rfl rfl ?_
            refine g_iload_n 19 (gd rfl) rfl rfl ?_
            refine g_callv (X := _) (As := [.ref (A 2), .int x1]) (r := []) (b := A 56) (q := 56) 22 (gd rfl) rfl rfl rfl rfl rfl (ww_o rfl) (Nat.le_of_ble_eq_true rfl) (Nat.zero_le _) (Nat.zero_le _) (k_142_56_2 (by first | exact dq1 hd rfl | exact dq0 hd rfl | exact dq2 hd rfl | exact dq3 hd rfl | omega) hI (in_w 0 159 i7x9 rfl)) (fun e u h => h) (fun v u h => ?_)
            obtain ⟨s19, hI19, hF19, z19, rfl, rfl, i19⟩ := h
            show GG _ _ _ _ _ _ _ _ [.int z19] _ _ _
            exact g_ireturn (gd rfl) rfl (nb01 (in_w 0 1 i19 rfl)) (hP _ _ ⟨s19, hI19, (fr_tr rfl fr_rf hF19), z19, rfl, rfl, in_w 0 1 i19 rfl⟩)
          · skip
            exact zn_eq c10 (in_c 1 rfl) rfl

def fm_236_0 : FM := ([9, 10, 11, 12, 13, 14, 15, 39, 40, 41, 42, 43, 44, 45], [], [(2, 4), (32, 4)], [])
/-- GraphHouse.cut -/
theorem k_236_0 {Z : AmZ} {A : Nat → Nat} {s : GS} {ex : va_W} {d : Nat} {x1 : Int32} (hd : 7 ≤ d) (hI : Inv s)  : GC Z d 236 [.ref (A 0), .int x1] (WW Z A s ++ ex) 3 18 (fun v u => ∃ t : GS, Inv t ∧ Fr fm_236_0 s t ∧ ∃ z : Int32, v = some (.int z) ∧ u = WW Z A t ++ ex ∧ In z 0 1) (gE1 Z A ex fm_236_0 s) := by
  intro post xp hP hX
  obtain ⟨u_0_2, e_0_2⟩ : ∃ w, w = s.2.2.1 0 2 := ⟨_, rfl⟩
  have ro_0_2 := inv_F hI (-1) 4000 rfl e_0_2
  obtain ⟨u_2_1, e_2_1⟩ : ∃ w, w = s.2.2.1 2 1 := ⟨_, rfl⟩
  have ro_2_1 := inv_F hI 0 32 rfl e_2_1
  obtain ⟨u_32_1, e_32_1⟩ : ∃ w, w = s.2.2.1 32 1 := ⟨_, rfl⟩
  have ro_32_1 := inv_F hI 0 32 rfl e_32_1
  refine g_enter2 (k := 236) (N := 900) (by first | exact dq1 hd rfl | exact dq0 hd rfl | exact dq2 hd rfl | exact dq3 hd rfl | omega) rfl (Nat.le_of_ble_eq_true rfl) ?_
  refine g_aload_n 1 (gd rfl) rfl rfl ?_
  refine g_callv (X := _) (As := []) (r := []) (b := A 0) (q := 0) 4 (gd rfl) rfl rfl rfl rfl rfl (ww_o rfl) (Nat.le_of_ble_eq_true rfl) (mc := 0) (ms := 0) (Nat.zero_le _) (Nat.zero_le _) (P := fun v u => _) ?_ (fun e u h => h) (fun v u h => h)
  intro po1 xx1 hp1 hx1
  refine g_enter2 (k := 259) (N := 300) (by first | exact dq1 hd rfl | exact dq0 hd rfl | exact dq2 hd rfl | exact dq3 hd rfl | omega) rfl (Nat.le_of_ble_eq_true rfl) ?_
  refine g_aload_n 1 (gd rfl) rfl rfl ?_
  refine g_getI 4 (gd rfl) rfl rfl rfl (fun z1x1 e1x1 => ?_)
  have q1x1 : u_0_2 = z1x1 := (e_0_2).trans e1x1.symm
  subst q1x1
  refine g_iconst (-1) 5 (gd rfl) rfl rfl ?_
  refine g_cmp_ne 8 18 (gd rfl) rfl rfl (fun c1x5 => ?_) (fun c1x5 => ?_)
  · skip
    have i1x5 := r_ne1 0 4000 c1x5 ro_0_2 (in_c (-1) rfl) rfl
    refine g_aload_n 19 (gd rfl) rfl rfl ?_
    refine g_getA (q2 := 32) 22 (gd rfl) rfl rfl rfl rfl ?_
    refine g_areturn (gd rfl) rfl (hp1 _ _ ?_)
    show GG _ _ _ _ _ _ _ _ [.ref (A 32)] _ _ _
    refine g_astore_n 5 (gd rfl) rfl (Nat.le_of_ble_eq_true rfl) ?_
    refine g_aload_n 6 (gd rfl) rfl rfl ?_
    refine g_iload_n 7 (gd rfl) rfl rfl ?_
    refine g_callv (X := _) (As := [.int x1]) (r := []) (b := A 32) (q := 32) 10 (gd rfl) rfl rfl rfl rfl rfl (ww_o rfl) (Nat.le_of_ble_eq_true rfl) (mc := 0) (ms := 0) (Nat.zero_le _) (Nat.zero_le _) (P := fun v u => _) ?_ (fun e u h => h) (fun v u h => h)
    intro po7 xx7 hp7 hx7
    refine g_enter2 (k := 94) (N := 300) (by first | exact dq1 hd rfl | exact dq0 hd rfl | exact dq2 hd rfl | exact dq3 hd rfl | omega) rfl (Nat.le_of_ble_eq_true rfl) ?_
    refine g_iload_n 1 (gd rfl) rfl rfl ?_
    refine g_if_lt 4 16 (gd rfl) rfl rfl (fun c7x1 => ?_) (fun c7x1 => ?_)
    · skip
      have i7x1 := z_lt (-2147483648) (-1) c7x1 (i_rng x1) rfl
      refine g_iconst 0 17 (gd rfl) rfl rfl ?_
      refine g_ireturn (gd rfl) rfl (nb01 (in_w 0 1 (in_c 0 rfl) rfl)) (hp7 _ _ ?_)
      show GG _ _ _ _ _ _ _ _ [.int (Int32.ofInt 0)] _ _ _
      refine g_thr (E := am_IA) (y := yX11_allow) 13 (gd rfl) rfl rfl (Or.inl ⟨rfl, rfl, rfl⟩) (by first | exact dq1 hd rfl | exact dq0 hd rfl | exact dq2 hd rfl | exact dq3 hd rfl | omega) (Nat.le_of_ble_eq_true rfl) (Nat.le_of_ble_eq_true rfl) (Nat.le_of_ble_eq_true rfl) (fun c10 => ?_) (fun c10 => ?_)
      · skip
        exact zn_ne c10 (in_c 0 rfl) rfl
      · skip
        exact (hX _ _ ⟨rfl, s, hI, fr_rf, rfl⟩)
    · skip
      have i7x1 := z_ge 0 2147483647 c7x1 (i_rng x1) rfl
      refine g_iload_n 5 (gd rfl) rfl rfl ?_
      refine g_aload_n 6 (gd rfl) rfl rfl ?_
      refine g_getI 9 (gd rfl) rfl rfl rfl (fun z7x6 e7x6 => ?_)
      have q7x6 : u_32_1 = z7x6 := (e_32_1).trans e7x6.symm
      subst q7x6
      refine g_cmp_ge 12 16 (gd rfl) rfl rfl (fun c7x9 => ?_) (fun c7x9 => ?_)
      · skip
        refine g_iconst 0 17 (gd rfl) rfl rfl ?_
        refine g_ireturn (gd rfl) rfl (nb01 (in_w 0 1 (in_c 0 rfl) rfl)) (hp7 _ _ ?_)
        show GG _ _ _ _ _ _ _ _ [.int (Int32.ofInt 0)] _ _ _
        refine g_thr (E := am_IA) (y := yX11_allow) 13 (gd rfl) rfl rfl (Or.inl ⟨rfl, rfl, rfl⟩) (by first | exact dq1 hd rfl | exact dq0 hd rfl | exact dq2 hd rfl | exact dq3 hd rfl | omega) (Nat.le_of_ble_eq_true rfl) (Nat.le_of_ble_eq_true rfl) (Nat.le_of_ble_eq_true rfl) (fun c10 => ?_) (fun c10 => ?_)
        · skip
          exact zn_ne c10 (in_c 0 rfl) rfl
        · skip
          exact (hX _ _ ⟨rfl, s, hI, fr_rf, rfl⟩)
      · skip
        have i7x9 := r_lt1 0 31 c7x9 i7x1 ro_32_1 rfl
        have i7x9a := r_lt2 1 32 c7x9 i7x1 ro_32_1 rfl
        refine g_iconst 1 13 (gd rfl) rfl rfl ?_
        refine g_goto 17 (gd rfl) rfl ?_
        refine g_ireturn (gd rfl) rfl (nb01 (in_w 0 1 (in_c 1 rfl) rfl)) (hp7 _ _ ?_)
        show GG _ _ _ _ _ _ _ _ [.int (Int32.ofInt 1)] _ _ _
        refine g_thr (E := am_IA) (y := yX11_allow) 13 (gd rfl) rfl rfl (Or.inl ⟨rfl, rfl, rfl⟩) (by first | exact dq1 hd rfl | exact dq0 hd rfl | exact dq2 hd rfl | exact dq3 hd rfl | omega) (Nat.le_of_ble_eq_true rfl) (Nat.le_of_ble_eq_true rfl) (Nat.le_of_ble_eq_true rfl) (fun c10 => ?_) (fun c10 => ?_)
        · skip
          refine g_aload_n 14 (gd rfl) rfl rfl ?_
          refine g_getA (q2 := 56) 17 (gd rfl) rfl rfl rfl rfl ?_
          refine g_aload_n 18 (gd rfl) rfl rfl ?_
          refine g_iload_n 19 (gd rfl) rfl rfl ?_
          refine g_callv (X := _) (As := [.ref (A 32), .int x1]) (r := []) (b := A 56) (q := 56) 22 (gd rfl) rfl rfl rfl rfl rfl (ww_o rfl) (Nat.le_of_ble_eq_true rfl) (mc := 0) (ms := 0) (Nat.zero_le _) (Nat.zero_le _) (P := fun v u => _) ?_ (fun e u h => h) (fun v u h => h)
          intro po19 xx19 hp19 hx19
          refine g_enter2 (k := 143) (N := 300) (by first | exact dq1 hd rfl | exact dq0 hd rfl | exact dq2 hd rfl | exact dq3 hd rfl | omega) rfl (Nat.le_of_ble_eq_true rfl) ?_
          refine g_aload_n 1 (gd rfl) rfl rfl ?_
          refine g_callv (X := _) (As := []) (r := []) (b := A 32) (q := 32) 4 (gd rfl) rfl rfl rfl rfl rfl (ww_o rfl) (Nat.le_of_ble_eq_true rfl) (Nat.zero_le _) (Nat.zero_le _) (k_106_32 (by first | exact dq1 hd rfl | exact dq0 hd rfl | exact dq2 hd rfl | exact dq3 hd rfl | omega) hI ) (fun e u h => h) (fun v u h => ?_)
          obtain ⟨s19x1, hI19x1, hF19x1, n19x1, rfl, rfl⟩ := h
          obtain ⟨z19x1a, e19x1⟩ : ∃ w, w = s19x1.2.2.1 32 4 := ⟨_, rfl⟩
          have i19x1a := inv_F hI19x1 (-1) 4000 rfl e19x1
          obtain ⟨z19x1b, e19x1a⟩ : ∃ w, w = s19x1.2.2.1 32 0 := ⟨_, rfl⟩
          have i19x1b := inv_F hI19x1 0 4000 rfl e19x1a
          rw [← (show z19x1a = s19x1.2.2.1 32 4 from e19x1)] at n19x1
          rw [← (show z19x1b = s19x1.2.2.1 32 0 from e19x1a)] at n19x1
          show GG _ _ _ _ _ _ _ _ [] _ _ _
          refine g_aload_n 5 (gd rfl) rfl rfl ?_
          refine g_getA (q2 := 39) 8 (gd rfl) rfl rfl rfl rfl ?_
          refine g_iload_n 9 (gd rfl) rfl rfl ?_
          refine g_iaload 10 (gd rfl) rfl (n := 32) rfl (in_ix i7x9 rfl) (fun z19x9 e19x9 => ?_)
          refine g_istore_n 11 (gd rfl) rfl (Nat.le_of_ble_eq_true rfl) ?_
          refine g_aload_n 12 (gd rfl) rfl rfl ?_
          refine g_getA (q2 := 39) 15 (gd rfl) rfl rfl rfl rfl ?_
          refine g_iload_n 16 (gd rfl) rfl rfl ?_
          refine g_iload_n 17 (gd rfl) rfl rfl ?_
          refine g_ineg 18 (gd rfl) rfl (fun z19x17 e19x17 => ?_)
          refine g_iand 19 (gd rfl) rfl (fun z19x18 e19x18 => ?_)
          refine g_iconst 1 20 (gd rfl) rfl rfl ?_
          refine g_iload_n 21 (gd rfl) rfl rfl ?_
          refine g_ishl 22 (gd rfl) rfl (fun z19x21 e19x21 => ?_)
          refine g_iconst (-1) 23 (gd rfl) rfl rfl ?_
          refine g_ixor 24 (gd rfl) rfl (fun z19x23 e19x23 => ?_)
          refine g_calls (As := [.ref (A 39), .int z19x18, .int z19x23]) (r := []) 27 (gd rfl) rfl rfl rfl rfl rfl (Nat.le_of_ble_eq_true rfl) (Nat.zero_le _) (Nat.zero_le _) (k_266_39 (by first | exact dq1 hd rfl | exact dq0 hd rfl | exact dq2 hd rfl | exact dq3 hd rfl | omega) hI19x1 ) (fun v u h => ?_)
          obtain ⟨z19x24, rfl, rfl, i19x24, p19x24⟩ := h
          show GG _ _ _ _ _ _ _ _ [.int z19x24] _ _ _
          refine g_istore 29 (gd rfl) rfl (Nat.le_of_ble_eq_true rfl) ?_
          refine g_iload_n 30 (gd rfl) rfl rfl ?_
          refine g_iload 32 (gd rfl) rfl rfl ?_
          refine g_iconst (-1) 33 (gd rfl) rfl rfl ?_
          refine g_ixor 34 (gd rfl) rfl (fun z19x33 e19x33 => ?_)
          refine g_iand 35 (gd rfl) rfl (fun z19x34 e19x34 => ?_)
          refine g_if_eq 38 42 (gd rfl) rfl rfl (fun c19x35 => ?_) (fun c19x35 => ?_)
          · skip
            have i19x35 := z_eq 0 0 c19x35 (i_rng z19x34) rfl
            refine g_iconst 0 43 (gd rfl) rfl rfl ?_
            refine g_ireturn (gd rfl) rfl (nb01 (in_w 0 1 (in_c 0 rfl) rfl)) (hp19 _ _ ?_)
            show GG _ _ _ _ _ _ _ _ [.int (Int32.ofInt 0)] _ _ _
            exact g_ireturn (gd rfl) rfl (nb01 (in_w 0 1 (in_c 0 rfl) rfl)) (hP _ _ ⟨s19x1, hI19x1, (fr_tr rfl fr_rf hF19x1), (Int32.ofInt 0), rfl, rfl, in_w 0 1 (in_c 0 rfl) rfl⟩)
          · skip
            refine g_iconst 1 39 (gd rfl) rfl rfl ?_
            refine g_goto 43 (gd rfl) rfl ?_
            refine g_ireturn (gd rfl) rfl (nb01 (in_w 0 1 (in_c 1 rfl) rfl)) (hp19 _ _ ?_)
            show GG _ _ _ _ _ _ _ _ [.int (Int32.ofInt 1)] _ _ _
            exact g_ireturn (gd rfl) rfl (nb01 (in_w 0 1 (in_c 1 rfl) rfl)) (hP _ _ ⟨s19x1, hI19x1, (fr_tr rfl fr_rf hF19x1), (Int32.ofInt 1), rfl, rfl, in_w 0 1 (in_c 1 rfl) rfl⟩)
        · skip
          exact zn_eq c10 (in_c 1 rfl) rfl
  · skip
    have i1x5 := r_eq1 (-1) (-1) c1x5 ro_0_2 (in_c (-1) rfl) rfl
    refine g_aload_n 9 (gd rfl) rfl rfl ?_
    refine g_getA (q2 := 1) 12 (gd rfl) rfl rfl rfl rfl ?_
    refine g_getA (q2 := 2) 15 (gd rfl) rfl rfl rfl rfl ?_
    refine g_goto 22 (gd rfl) rfl ?_
    refine g_areturn (gd rfl) rfl (hp1 _ _ ?_)
    show GG _ _ _ _ _ _ _ _ [.ref (A 2)] _ _ _
    refine g_astore_n 5 (gd rfl) rfl (Nat.le_of_ble_eq_true rfl) ?_
    refine g_aload_n 6 (gd rfl) rfl rfl ?_
    refine g_iload_n 7 (gd rfl) rfl rfl ?_
    refine g_callv (X := _) (As := [.int x1]) (r := []) (b := A 2) (q := 2) 10 (gd rfl) rfl rfl rfl rfl rfl (ww_o rfl) (Nat.le_of_ble_eq_true rfl) (mc := 0) (ms := 0) (Nat.zero_le _) (Nat.zero_le _) (P := fun v u => _) ?_ (fun e u h => h) (fun v u h => h)
    intro po7 xx7 hp7 hx7
    refine g_enter2 (k := 94) (N := 300) (by first | exact dq1 hd rfl | exact dq0 hd rfl | exact dq2 hd rfl | exact dq3 hd rfl | omega) rfl (Nat.le_of_ble_eq_true rfl) ?_
    refine g_iload_n 1 (gd rfl) rfl rfl ?_
    refine g_if_lt 4 16 (gd rfl) rfl rfl (fun c7x1 => ?_) (fun c7x1 => ?_)
    · skip
      have i7x1 := z_lt (-2147483648) (-1) c7x1 (i_rng x1) rfl
      refine g_iconst 0 17 (gd rfl) rfl rfl ?_
      refine g_ireturn (gd rfl) rfl (nb01 (in_w 0 1 (in_c 0 rfl) rfl)) (hp7 _ _ ?_)
      show GG _ _ _ _ _ _ _ _ [.int (Int32.ofInt 0)] _ _ _
      refine g_thr (E := am_IA) (y := yX11_allow) 13 (gd rfl) rfl rfl (Or.inl ⟨rfl, rfl, rfl⟩) (by first | exact dq1 hd rfl | exact dq0 hd rfl | exact dq2 hd rfl | exact dq3 hd rfl | omega) (Nat.le_of_ble_eq_true rfl) (Nat.le_of_ble_eq_true rfl) (Nat.le_of_ble_eq_true rfl) (fun c10 => ?_) (fun c10 => ?_)
      · skip
        exact zn_ne c10 (in_c 0 rfl) rfl
      · skip
        exact (hX _ _ ⟨rfl, s, hI, fr_rf, rfl⟩)
    · skip
      have i7x1 := z_ge 0 2147483647 c7x1 (i_rng x1) rfl
      refine g_iload_n 5 (gd rfl) rfl rfl ?_
      refine g_aload_n 6 (gd rfl) rfl rfl ?_
      refine g_getI 9 (gd rfl) rfl rfl rfl (fun z7x6 e7x6 => ?_)
      have q7x6 : u_2_1 = z7x6 := (e_2_1).trans e7x6.symm
      subst q7x6
      refine g_cmp_ge 12 16 (gd rfl) rfl rfl (fun c7x9 => ?_) (fun c7x9 => ?_)
      · skip
        refine g_iconst 0 17 (gd rfl) rfl rfl ?_
        refine g_ireturn (gd rfl) rfl (nb01 (in_w 0 1 (in_c 0 rfl) rfl)) (hp7 _ _ ?_)
        show GG _ _ _ _ _ _ _ _ [.int (Int32.ofInt 0)] _ _ _
        refine g_thr (E := am_IA) (y := yX11_allow) 13 (gd rfl) rfl rfl (Or.inl ⟨rfl, rfl, rfl⟩) (by first | exact dq1 hd rfl | exact dq0 hd rfl | exact dq2 hd rfl | exact dq3 hd rfl | omega) (Nat.le_of_ble_eq_true rfl) (Nat.le_of_ble_eq_true rfl) (Nat.le_of_ble_eq_true rfl) (fun c10 => ?_) (fun c10 => ?_)
        · skip
          exact zn_ne c10 (in_c 0 rfl) rfl
        · skip
          exact (hX _ _ ⟨rfl, s, hI, fr_rf, rfl⟩)
      · skip
        have i7x9 := r_lt1 0 31 c7x9 i7x1 ro_2_1 rfl
        have i7x9a := r_lt2 1 32 c7x9 i7x1 ro_2_1 rfl
        refine g_iconst 1 13 (gd rfl) rfl rfl ?_
        refine g_goto 17 (gd rfl) rfl ?_
        refine g_ireturn (gd rfl) rfl (nb01 (in_w 0 1 (in_c 1 rfl) rfl)) (hp7 _ _ ?_)
        show GG _ _ _ _ _ _ _ _ [.int (Int32.ofInt 1)] _ _ _
        refine g_thr (E := am_IA) (y := yX11_allow) 13 (gd rfl) rfl rfl (Or.inl ⟨rfl, rfl, rfl⟩) (by first | exact dq1 hd rfl | exact dq0 hd rfl | exact dq2 hd rfl | exact dq3 hd rfl | omega) (Nat.le_of_ble_eq_true rfl) (Nat.le_of_ble_eq_true rfl) (Nat.le_of_ble_eq_true rfl) (fun c10 => ?_) (fun c10 => ?_)
        · skip
          refine g_aload_n 14 (gd rfl) rfl rfl ?_
          refine g_getA (q2 := 56) 17 (gd rfl) rfl rfl rfl rfl ?_
          refine g_aload_n 18 (gd rfl) rfl rfl ?_
          refine g_iload_n 19 (gd rfl) rfl rfl ?_
          refine g_callv (X := _) (As := [.ref (A 2), .int x1]) (r := []) (b := A 56) (q := 56) 22 (gd rfl) rfl rfl rfl rfl rfl (ww_o rfl) (Nat.le_of_ble_eq_true rfl) (mc := 0) (ms := 0) (Nat.zero_le _) (Nat.zero_le _) (P := fun v u => _) ?_ (fun e u h => h) (fun v u h => h)
          intro po19 xx19 hp19 hx19
          refine g_enter2 (k := 143) (N := 300) (by first | exact dq1 hd rfl | exact dq0 hd rfl | exact dq2 hd rfl | exact dq3 hd rfl | omega) rfl (Nat.le_of_ble_eq_true rfl) ?_
          refine g_aload_n 1 (gd rfl) rfl rfl ?_
          refine g_callv (X := _) (As := []) (r := []) (b := A 2) (q := 2) 4 (gd rfl) rfl rfl rfl rfl rfl (ww_o rfl) (Nat.le_of_ble_eq_true rfl) (Nat.zero_le _) (Nat.zero_le _) (k_106_2 (by first | exact dq1 hd rfl | exact dq0 hd rfl | exact dq2 hd rfl | exact dq3 hd rfl | omega) hI ) (fun e u h => h) (fun v u h => ?_)
          obtain ⟨s19x1, hI19x1, hF19x1, n19x1, rfl, rfl⟩ := h
          obtain ⟨z19x1a, e19x1⟩ : ∃ w, w = s19x1.2.2.1 2 4 := ⟨_, rfl⟩
          have i19x1a := inv_F hI19x1 (-1) 4000 rfl e19x1
          obtain ⟨z19x1b, e19x1a⟩ : ∃ w, w = s19x1.2.2.1 2 0 := ⟨_, rfl⟩
          have i19x1b := inv_F hI19x1 0 4000 rfl e19x1a
          rw [← (show z19x1a = s19x1.2.2.1 2 4 from e19x1)] at n19x1
          rw [← (show z19x1b = s19x1.2.2.1 2 0 from e19x1a)] at n19x1
          show GG _ _ _ _ _ _ _ _ [] _ _ _
          refine g_aload_n 5 (gd rfl) rfl rfl ?_
          refine g_getA (q2 := 9) 8 (gd rfl) rfl rfl rfl rfl ?_
          refine g_iload_n 9 (gd rfl) rfl rfl ?_
          refine g_iaload 10 (gd rfl) rfl (n := 32) rfl (in_ix i7x9 rfl) (fun z19x9 e19x9 => ?_)
          refine g_istore_n 11 (gd rfl) rfl (Nat.le_of_ble_eq_true rfl) ?_
          refine g_aload_n 12 (gd rfl) rfl rfl ?_
          refine g_getA (q2 := 9) 15 (gd rfl) rfl rfl rfl rfl ?_
          refine g_iload_n 16 (gd rfl) rfl rfl ?_
          refine g_iload_n 17 (gd rfl) rfl rfl ?_
          refine g_ineg 18 (gd rfl) rfl (fun z19x17 e19x17 => ?_)
          refine g_iand 19 (gd rfl) rfl (fun z19x18 e19x18 => ?_)
          refine g_iconst 1 20 (gd rfl) rfl rfl ?_
          refine g_iload_n 21 (gd rfl) rfl rfl ?_
          refine g_ishl 22 (gd rfl) rfl (fun z19x21 e19x21 => ?_)
          refine g_iconst (-1) 23 (gd rfl) rfl rfl ?_
          refine g_ixor 24 (gd rfl) rfl (fun z19x23 e19x23 => ?_)
          refine g_calls (As := [.ref (A 9), .int z19x18, .int z19x23]) (r := []) 27 (gd rfl) rfl rfl rfl rfl rfl (Nat.le_of_ble_eq_true rfl) (Nat.zero_le _) (Nat.zero_le _) (k_266_9 (by first | exact dq1 hd rfl | exact dq0 hd rfl | exact dq2 hd rfl | exact dq3 hd rfl | omega) hI19x1 ) (fun v u h => ?_)
          obtain ⟨z19x24, rfl, rfl, i19x24, p19x24⟩ := h
          show GG _ _ _ _ _ _ _ _ [.int z19x24] _ _ _
          refine g_istore 29 (gd rfl) rfl (Nat.le_of_ble_eq_true rfl) ?_
          refine g_iload_n 30 (gd rfl) rfl rfl ?_
          refine g_iload 32 (gd rfl) rfl rfl ?_
          refine g_iconst (-1) 33 (gd rfl) rfl rfl ?_
          refine g_ixor 34 (gd rfl) rfl (fun z19x33 e19x33 => ?_)
          refine g_iand 35 (gd rfl) rfl (fun z19x34 e19x34 => ?_)
          refine g_if_eq 38 42 (gd rfl) rfl rfl (fun c19x35 => ?_) (fun c19x35 => ?_)
          · skip
            have i19x35 := z_eq 0 0 c19x35 (i_rng z19x34) rfl
            refine g_iconst 0 43 (gd rfl) rfl rfl ?_
            refine g_ireturn (gd rfl) rfl (nb01 (in_w 0 1 (in_c 0 rfl) rfl)) (hp19 _ _ ?_)
            show GG _ _ _ _ _ _ _ _ [.int (Int32.ofInt 0)] _ _ _
            exact g_ireturn (gd rfl) rfl (nb01 (in_w 0 1 (in_c 0 rfl) rfl)) (hP _ _ ⟨s19x1, hI19x1, (fr_tr rfl fr_rf hF19x1), (Int32.ofInt 0), rfl, rfl, in_w 0 1 (in_c 0 rfl) rfl⟩)
          · skip
            refine g_iconst 1 39 (gd rfl) rfl rfl ?_
            refine g_goto 43 (gd rfl) rfl ?_
            refine g_ireturn (gd rfl) rfl (nb01 (in_w 0 1 (in_c 1 rfl) rfl)) (hp19 _ _ ?_)
            show GG _ _ _ _ _ _ _ _ [.int (Int32.ofInt 1)] _ _ _
            exact g_ireturn (gd rfl) rfl (nb01 (in_w 0 1 (in_c 1 rfl) rfl)) (hP _ _ ⟨s19x1, hI19x1, (fr_tr rfl fr_rf hF19x1), (Int32.ofInt 1), rfl, rfl, in_w 0 1 (in_c 1 rfl) rfl⟩)
        · skip
          exact zn_eq c10 (in_c 1 rfl) rfl

def fm_237_0 : FM := ([9, 10, 11, 12, 13, 14, 15, 39, 40, 41, 42, 43, 44, 45, 57], [], [(2, 4), (32, 4), (56, 0), (56, 1)], [])
/-- GraphHouse.order -/
theorem k_237_0 {Z : AmZ} {A : Nat → Nat} {s : GS} {ex : va_W} {d : Nat} {x1 : Int32} (hd : 7 ≤ d) (hI : Inv s)  : GC Z d 237 [.ref (A 0), .int x1] (WW Z A s ++ ex) 3 18 (fun v u => ∃ t : GS, Inv t ∧ Fr fm_237_0 s t ∧ ∃ z : Int32, v = some (.int z) ∧ u = WW Z A t ++ ex ∧ In z (-1) 31) (gE1 Z A ex fm_237_0 s) := by
  intro post xp hP hX
  obtain ⟨u_0_2, e_0_2⟩ : ∃ w, w = s.2.2.1 0 2 := ⟨_, rfl⟩
  have ro_0_2 := inv_F hI (-1) 4000 rfl e_0_2
  obtain ⟨u_2_0, e_2_0⟩ : ∃ w, w = s.2.2.1 2 0 := ⟨_, rfl⟩
  have ro_2_0 := inv_F hI 0 4000 rfl e_2_0
  obtain ⟨u_32_0, e_32_0⟩ : ∃ w, w = s.2.2.1 32 0 := ⟨_, rfl⟩
  have ro_32_0 := inv_F hI 0 4000 rfl e_32_0
  refine g_enter2 (k := 237) (N := 900) (by first | exact dq1 hd rfl | exact dq0 hd rfl | exact dq2 hd rfl | exact dq3 hd rfl | omega) rfl (Nat.le_of_ble_eq_true rfl) ?_
  refine g_iload_n 1 (gd rfl) rfl rfl ?_
  refine g_if_lt 4 8 (gd rfl) rfl rfl (fun c1 => ?_) (fun c1 => ?_)
  · skip
    have i1 := z_lt (-2147483648) (-1) c1 (i_rng x1) rfl
    refine g_iconst 0 9 (gd rfl) rfl rfl ?_
    refine g_thr (E := am_IA) (y := yX11_allow) 12 (gd rfl) rfl rfl (Or.inl ⟨rfl, rfl, rfl⟩) (by first | exact dq1 hd rfl | exact dq0 hd rfl | exact dq2 hd rfl | exact dq3 hd rfl | omega) (Nat.le_of_ble_eq_true rfl) (Nat.le_of_ble_eq_true rfl) (Nat.le_of_ble_eq_true rfl) (fun c9 => ?_) (fun c9 => ?_)
    · skip
      exact zn_ne c9 (in_c 0 rfl) rfl
    · skip
      exact (hX _ _ ⟨rfl, s, hI, fr_rf, rfl⟩)
  · skip
    have i1 := z_ge 0 2147483647 c1 (i_rng x1) rfl
    refine g_iconst 1 5 (gd rfl) rfl rfl ?_
    refine g_goto 9 (gd rfl) rfl ?_
    refine g_thr (E := am_IA) (y := yX11_allow) 12 (gd rfl) rfl rfl (Or.inl ⟨rfl, rfl, rfl⟩) (by first | exact dq1 hd rfl | exact dq0 hd rfl | exact dq2 hd rfl | exact dq3 hd rfl | omega) (Nat.le_of_ble_eq_true rfl) (Nat.le_of_ble_eq_true rfl) (Nat.le_of_ble_eq_true rfl) (fun c9 => ?_) (fun c9 => ?_)
    · skip
      refine g_aload_n 13 (gd rfl) rfl rfl ?_
      refine g_getA (q2 := 56) 16 (gd rfl) rfl rfl rfl rfl ?_
      refine g_aload_n 17 (gd rfl) rfl rfl ?_
      refine g_callv (X := _) (As := []) (r := [.ref (A 56)]) (b := A 0) (q := 0) 20 (gd rfl) rfl rfl rfl rfl rfl (ww_o rfl) (Nat.le_of_ble_eq_true rfl) (mc := 0) (ms := 0) (Nat.zero_le _) (Nat.zero_le _) (P := fun v u => _) ?_ (fun e u h => h) (fun v u h => h)
      intro po17 xx17 hp17 hx17
      refine g_enter2 (k := 259) (N := 300) (by first | exact dq1 hd rfl | exact dq0 hd rfl | exact dq2 hd rfl | exact dq3 hd rfl | omega) rfl (Nat.le_of_ble_eq_true rfl) ?_
      refine g_aload_n 1 (gd rfl) rfl rfl ?_
      refine g_getI 4 (gd rfl) rfl rfl rfl (fun z17x1 e17x1 => ?_)
      have q17x1 : u_0_2 = z17x1 := (e_0_2).trans e17x1.symm
      subst q17x1
      refine g_iconst (-1) 5 (gd rfl) rfl rfl ?_
      refine g_cmp_ne 8 18 (gd rfl) rfl rfl (fun c17x5 => ?_) (fun c17x5 => ?_)
      · skip
        have i17x5 := r_ne1 0 4000 c17x5 ro_0_2 (in_c (-1) rfl) rfl
        refine g_aload_n 19 (gd rfl) rfl rfl ?_
        refine g_getA (q2 := 32) 22 (gd rfl) rfl rfl rfl rfl ?_
        refine g_areturn (gd rfl) rfl (hp17 _ _ ?_)
        show GG _ _ _ _ _ _ _ _ [.ref (A 32), .ref (A 56)] _ _ _
        refine g_iload_n 21 (gd rfl) rfl rfl ?_
        refine g_callv (X := _) (As := [.ref (A 32), .int x1]) (r := []) (b := A 56) (q := 56) 24 (gd rfl) rfl rfl rfl rfl rfl (ww_o rfl) (Nat.le_of_ble_eq_true rfl) (mc := 0) (ms := 0) (Nat.zero_le _) (Nat.zero_le _) (P := fun v u => _) ?_ (fun e u h => h) (fun v u h => h)
        intro po21 xx21 hp21 hx21
        refine g_enter2 (k := 144) (N := 300) (by first | exact dq1 hd rfl | exact dq0 hd rfl | exact dq2 hd rfl | exact dq3 hd rfl | omega) rfl (Nat.le_of_ble_eq_true rfl) ?_
        refine g_aload_n 1 (gd rfl) rfl rfl ?_
        refine g_getI 4 (gd rfl) rfl rfl rfl (fun z21x1 e21x1 => ?_)
        have i21x1 := inv_F hI (-1) 4000 rfl e21x1
        refine g_aload_n 5 (gd rfl) rfl rfl ?_
        refine g_getI 8 (gd rfl) rfl rfl rfl (fun z21x5 e21x5 => ?_)
        have q21x5 : u_32_0 = z21x5 := (e_32_0).trans e21x5.symm
        subst q21x5
        refine g_cmp_eq 11 24 (gd rfl) rfl rfl (fun c21x8 => ?_) (fun c21x8 => ?_)
        · skip
          have i21x8 := r_eq1 0 4000 c21x8 i21x1 ro_32_0 rfl
          refine g_iload_n 25 (gd rfl) rfl rfl ?_
          refine g_aload_n 26 (gd rfl) rfl rfl ?_
          refine g_getI 29 (gd rfl) rfl rfl rfl (fun z21x26 e21x26 => ?_)
          have i21x26 := inv_F hI 0 32 rfl e21x26
          refine g_cmp_ge 32 41 (gd rfl) rfl rfl (fun c21x29 => ?_) (fun c21x29 => ?_)
          · skip
            refine g_iconst (-1) 42 (gd rfl) rfl rfl ?_
            refine g_ireturn (gd rfl) rfl rfl (hp21 _ _ ?_)
            show GG _ _ _ _ _ _ _ _ [.int (Int32.ofInt (-1))] _ _ _
            exact g_ireturn (gd rfl) rfl rfl (hP _ _ ⟨s, hI, fr_rf, (Int32.ofInt (-1)), rfl, rfl, in_w (-1) 31 (in_c (-1) rfl) rfl⟩)
          · skip
            have i21x29 := r_lt1 0 31 c21x29 i1 i21x26 rfl
            have i21x29a := r_lt2 1 32 c21x29 i1 i21x26 rfl
            refine g_aload_n 33 (gd rfl) rfl rfl ?_
            refine g_getA (q2 := 57) 36 (gd rfl) rfl rfl rfl rfl ?_
            refine g_iload_n 37 (gd rfl) rfl rfl ?_
            refine g_iaload 38 (gd rfl) rfl (n := 32) rfl (in_ix i21x29 rfl) (fun z21x37 e21x37 => ?_)
            have i21x37 := inv_I hI (n := 32) (t := 0) 0 31 rfl (in_ix i21x29 rfl) rfl e21x37
            refine g_goto 42 (gd rfl) rfl ?_
            refine g_ireturn (gd rfl) rfl rfl (hp21 _ _ ?_)
            show GG _ _ _ _ _ _ _ _ [.int z21x37] _ _ _
            exact g_ireturn (gd rfl) rfl rfl (hP _ _ ⟨s, hI, fr_rf, z21x37, rfl, rfl, in_w (-1) 31 i21x37 rfl⟩)
        · skip
          refine g_aload_n 12 (gd rfl) rfl rfl ?_
          refine g_aload_n 13 (gd rfl) rfl rfl ?_
          refine g_getI 16 (gd rfl) rfl rfl rfl (fun z21x13 e21x13 => ?_)
          have q21x13 : u_32_0 = z21x13 := (e_32_0).trans e21x13.symm
          subst q21x13
          refine g_putI 19 (gd rfl) rfl rfl rfl rfl ?_
          have hI21x16 := inv_sF (q := 56) (j := 0) hI rfl (in_w (-1) 4000 ro_32_0 rfl)
          refine g_aload_n 20 (gd rfl) rfl rfl ?_
          refine g_aload_n 21 (gd rfl) rfl rfl ?_
          refine g_callv (X := _) (As := [.ref (A 32)]) (r := []) (b := A 56) (q := 56) 24 (gd rfl) rfl rfl rfl rfl rfl (ww_o rfl) (Nat.le_of_ble_eq_true rfl) (Nat.zero_le _) (Nat.zero_le _) (k_145_56_32 (by first | exact dq1 hd rfl | exact dq0 hd rfl | exact dq2 hd rfl | exact dq3 hd rfl | omega) hI21x16 ) (fun e u h => h) (fun v u h => ?_)
          obtain ⟨s21x21, hI21x21, hF21x21, rfl, rfl⟩ := h
          show GG _ _ _ _ _ _ _ _ [] _ _ _
          refine g_iload_n 25 (gd rfl) rfl rfl ?_
          refine g_aload_n 26 (gd rfl) rfl rfl ?_
          refine g_getI 29 (gd rfl) rfl rfl rfl (fun z21x26 e21x26 => ?_)
          have i21x26 := inv_F hI21x21 0 32 rfl e21x26
          refine g_cmp_ge 32 41 (gd rfl) rfl rfl (fun c21x29 => ?_) (fun c21x29 => ?_)
          · skip
            refine g_iconst (-1) 42 (gd rfl) rfl rfl ?_
            refine g_ireturn (gd rfl) rfl rfl (hp21 _ _ ?_)
            show GG _ _ _ _ _ _ _ _ [.int (Int32.ofInt (-1))] _ _ _
            exact g_ireturn (gd rfl) rfl rfl (hP _ _ ⟨s21x21, hI21x21, (fr_tr rfl (fr_sF rfl fr_rf) hF21x21), (Int32.ofInt (-1)), rfl, rfl, in_w (-1) 31 (in_c (-1) rfl) rfl⟩)
          · skip
            have i21x29 := r_lt1 0 31 c21x29 i1 i21x26 rfl
            have i21x29a := r_lt2 1 32 c21x29 i1 i21x26 rfl
            refine g_aload_n 33 (gd rfl) rfl rfl ?_
            refine g_getA (q2 := 57) 36 (gd rfl) rfl rfl rfl rfl ?_
            refine g_iload_n 37 (gd rfl) rfl rfl ?_
            refine g_iaload 38 (gd rfl) rfl (n := 32) rfl (in_ix i21x29 rfl) (fun z21x37 e21x37 => ?_)
            have i21x37 := inv_I hI21x21 (n := 32) (t := 0) 0 31 rfl (in_ix i21x29 rfl) rfl e21x37
            refine g_goto 42 (gd rfl) rfl ?_
            refine g_ireturn (gd rfl) rfl rfl (hp21 _ _ ?_)
            show GG _ _ _ _ _ _ _ _ [.int z21x37] _ _ _
            exact g_ireturn (gd rfl) rfl rfl (hP _ _ ⟨s21x21, hI21x21, (fr_tr rfl (fr_sF rfl fr_rf) hF21x21), z21x37, rfl, rfl, in_w (-1) 31 i21x37 rfl⟩)
      · skip
        have i17x5 := r_eq1 (-1) (-1) c17x5 ro_0_2 (in_c (-1) rfl) rfl
        refine g_aload_n 9 (gd rfl) rfl rfl ?_
        refine g_getA (q2 := 1) 12 (gd rfl) rfl rfl rfl rfl ?_
        refine g_getA (q2 := 2) 15 (gd rfl) rfl rfl rfl rfl ?_
        refine g_goto 22 (gd rfl) rfl ?_
        refine g_areturn (gd rfl) rfl (hp17 _ _ ?_)
        show GG _ _ _ _ _ _ _ _ [.ref (A 2), .ref (A 56)] _ _ _
        refine g_iload_n 21 (gd rfl) rfl rfl ?_
        refine g_callv (X := _) (As := [.ref (A 2), .int x1]) (r := []) (b := A 56) (q := 56) 24 (gd rfl) rfl rfl rfl rfl rfl (ww_o rfl) (Nat.le_of_ble_eq_true rfl) (mc := 0) (ms := 0) (Nat.zero_le _) (Nat.zero_le _) (P := fun v u => _) ?_ (fun e u h => h) (fun v u h => h)
        intro po21 xx21 hp21 hx21
        refine g_enter2 (k := 144) (N := 300) (by first | exact dq1 hd rfl | exact dq0 hd rfl | exact dq2 hd rfl | exact dq3 hd rfl | omega) rfl (Nat.le_of_ble_eq_true rfl) ?_
        refine g_aload_n 1 (gd rfl) rfl rfl ?_
        refine g_getI 4 (gd rfl) rfl rfl rfl (fun z21x1 e21x1 => ?_)
        have i21x1 := inv_F hI (-1) 4000 rfl e21x1
        refine g_aload_n 5 (gd rfl) rfl rfl ?_
        refine g_getI 8 (gd rfl) rfl rfl rfl (fun z21x5 e21x5 => ?_)
        have q21x5 : u_2_0 = z21x5 := (e_2_0).trans e21x5.symm
        subst q21x5
        refine g_cmp_eq 11 24 (gd rfl) rfl rfl (fun c21x8 => ?_) (fun c21x8 => ?_)
        · skip
          have i21x8 := r_eq1 0 4000 c21x8 i21x1 ro_2_0 rfl
          refine g_iload_n 25 (gd rfl) rfl rfl ?_
          refine g_aload_n 26 (gd rfl) rfl rfl ?_
          refine g_getI 29 (gd rfl) rfl rfl rfl (fun z21x26 e21x26 => ?_)
          have i21x26 := inv_F hI 0 32 rfl e21x26
          refine g_cmp_ge 32 41 (gd rfl) rfl rfl (fun c21x29 => ?_) (fun c21x29 => ?_)
          · skip
            refine g_iconst (-1) 42 (gd rfl) rfl rfl ?_
            refine g_ireturn (gd rfl) rfl rfl (hp21 _ _ ?_)
            show GG _ _ _ _ _ _ _ _ [.int (Int32.ofInt (-1))] _ _ _
            exact g_ireturn (gd rfl) rfl rfl (hP _ _ ⟨s, hI, fr_rf, (Int32.ofInt (-1)), rfl, rfl, in_w (-1) 31 (in_c (-1) rfl) rfl⟩)
          · skip
            have i21x29 := r_lt1 0 31 c21x29 i1 i21x26 rfl
            have i21x29a := r_lt2 1 32 c21x29 i1 i21x26 rfl
            refine g_aload_n 33 (gd rfl) rfl rfl ?_
            refine g_getA (q2 := 57) 36 (gd rfl) rfl rfl rfl rfl ?_
            refine g_iload_n 37 (gd rfl) rfl rfl ?_
            refine g_iaload 38 (gd rfl) rfl (n := 32) rfl (in_ix i21x29 rfl) (fun z21x37 e21x37 => ?_)
            have i21x37 := inv_I hI (n := 32) (t := 0) 0 31 rfl (in_ix i21x29 rfl) rfl e21x37
            refine g_goto 42 (gd rfl) rfl ?_
            refine g_ireturn (gd rfl) rfl rfl (hp21 _ _ ?_)
            show GG _ _ _ _ _ _ _ _ [.int z21x37] _ _ _
            exact g_ireturn (gd rfl) rfl rfl (hP _ _ ⟨s, hI, fr_rf, z21x37, rfl, rfl, in_w (-1) 31 i21x37 rfl⟩)
        · skip
          refine g_aload_n 12 (gd rfl) rfl rfl ?_
          refine g_aload_n 13 (gd rfl) rfl rfl ?_
          refine g_getI 16 (gd rfl) rfl rfl rfl (fun z21x13 e21x13 => ?_)
          have q21x13 : u_2_0 = z21x13 := (e_2_0).trans e21x13.symm
          subst q21x13
          refine g_putI 19 (gd rfl) rfl rfl rfl rfl ?_
          have hI21x16 := inv_sF (q := 56) (j := 0) hI rfl (in_w (-1) 4000 ro_2_0 rfl)
          refine g_aload_n 20 (gd rfl) rfl rfl ?_
          refine g_aload_n 21 (gd rfl) rfl rfl ?_
          refine g_callv (X := _) (As := [.ref (A 2)]) (r := []) (b := A 56) (q := 56) 24 (gd rfl) rfl rfl rfl rfl rfl (ww_o rfl) (Nat.le_of_ble_eq_true rfl) (Nat.zero_le _) (Nat.zero_le _) (k_145_56_2 (by first | exact dq1 hd rfl | exact dq0 hd rfl | exact dq2 hd rfl | exact dq3 hd rfl | omega) hI21x16 ) (fun e u h => h) (fun v u h => ?_)
          obtain ⟨s21x21, hI21x21, hF21x21, rfl, rfl⟩ := h
          show GG _ _ _ _ _ _ _ _ [] _ _ _
          refine g_iload_n 25 (gd rfl) rfl rfl ?_
          refine g_aload_n 26 (gd rfl) rfl rfl ?_
          refine g_getI 29 (gd rfl) rfl rfl rfl (fun z21x26 e21x26 => ?_)
          have i21x26 := inv_F hI21x21 0 32 rfl e21x26
          refine g_cmp_ge 32 41 (gd rfl) rfl rfl (fun c21x29 => ?_) (fun c21x29 => ?_)
          · skip
            refine g_iconst (-1) 42 (gd rfl) rfl rfl ?_
            refine g_ireturn (gd rfl) rfl rfl (hp21 _ _ ?_)
            show GG _ _ _ _ _ _ _ _ [.int (Int32.ofInt (-1))] _ _ _
            exact g_ireturn (gd rfl) rfl rfl (hP _ _ ⟨s21x21, hI21x21, (fr_tr rfl (fr_sF rfl fr_rf) hF21x21), (Int32.ofInt (-1)), rfl, rfl, in_w (-1) 31 (in_c (-1) rfl) rfl⟩)
          · skip
            have i21x29 := r_lt1 0 31 c21x29 i1 i21x26 rfl
            have i21x29a := r_lt2 1 32 c21x29 i1 i21x26 rfl
            refine g_aload_n 33 (gd rfl) rfl rfl ?_
            refine g_getA (q2 := 57) 36 (gd rfl) rfl rfl rfl rfl ?_
            refine g_iload_n 37 (gd rfl) rfl rfl ?_
            refine g_iaload 38 (gd rfl) rfl (n := 32) rfl (in_ix i21x29 rfl) (fun z21x37 e21x37 => ?_)
            have i21x37 := inv_I hI21x21 (n := 32) (t := 0) 0 31 rfl (in_ix i21x29 rfl) rfl e21x37
            refine g_goto 42 (gd rfl) rfl ?_
            refine g_ireturn (gd rfl) rfl rfl (hp21 _ _ ?_)
            show GG _ _ _ _ _ _ _ _ [.int z21x37] _ _ _
            exact g_ireturn (gd rfl) rfl rfl (hP _ _ ⟨s21x21, hI21x21, (fr_tr rfl (fr_sF rfl fr_rf) hF21x21), z21x37, rfl, rfl, in_w (-1) 31 i21x37 rfl⟩)
    · skip
      exact zn_eq c9 (in_c 1 rfl) rfl
end
section
/-! methods, by vc.py -/
def fm_238_0 : FM := ([9, 10, 11, 12, 13, 14, 15, 39, 40, 41, 42, 43, 44, 45, 58, 59], [], [(2, 4), (32, 4), (56, 3)], [])
/-- GraphHouse.core -/
theorem k_238_0 {Z : AmZ} {A : Nat → Nat} {s : GS} {ex : va_W} {d : Nat} {x1 : Int32} (hd : 7 ≤ d) (hI : Inv s)  : GC Z d 238 [.ref (A 0), .int x1] (WW Z A s ++ ex) 3 18 (fun v u => ∃ t : GS, Inv t ∧ Fr fm_238_0 s t ∧ ∃ z : Int32, v = some (.int z) ∧ u = WW Z A t ++ ex ∧ In z (-2147483648) 2147483647) (gE1 Z A ex fm_238_0 s) := by
  intro post xp hP hX
  obtain ⟨u_0_2, e_0_2⟩ : ∃ w, w = s.2.2.1 0 2 := ⟨_, rfl⟩
  have ro_0_2 := inv_F hI (-1) 4000 rfl e_0_2
  obtain ⟨u_2_0, e_2_0⟩ : ∃ w, w = s.2.2.1 2 0 := ⟨_, rfl⟩
  have ro_2_0 := inv_F hI 0 4000 rfl e_2_0
  obtain ⟨u_2_1, e_2_1⟩ : ∃ w, w = s.2.2.1 2 1 := ⟨_, rfl⟩
  have ro_2_1 := inv_F hI 0 32 rfl e_2_1
  obtain ⟨u_32_0, e_32_0⟩ : ∃ w, w = s.2.2.1 32 0 := ⟨_, rfl⟩
  have ro_32_0 := inv_F hI 0 4000 rfl e_32_0
  obtain ⟨u_32_1, e_32_1⟩ : ∃ w, w = s.2.2.1 32 1 := ⟨_, rfl⟩
  have ro_32_1 := inv_F hI 0 32 rfl e_32_1
  refine g_enter2 (k := 238) (N := 900) (by first | exact dq1 hd rfl | exact dq0 hd rfl | exact dq2 hd rfl | exact dq3 hd rfl | omega) rfl (Nat.le_of_ble_eq_true rfl) ?_
  refine g_aload_n 1 (gd rfl) rfl rfl ?_
  refine g_callv (X := _) (As := []) (r := []) (b := A 0) (q := 0) 4 (gd rfl) rfl rfl rfl rfl rfl (ww_o rfl) (Nat.le_of_ble_eq_true rfl) (mc := 0) (ms := 0) (Nat.zero_le _) (Nat.zero_le _) (P := fun v u => _) ?_ (fun e u h => h) (fun v u h => h)
  intro po1 xx1 hp1 hx1
  refine g_enter2 (k := 259) (N := 300) (by first | exact dq1 hd rfl | exact dq0 hd rfl | exact dq2 hd rfl | exact dq3 hd rfl | omega) rfl (Nat.le_of_ble_eq_true rfl) ?_
  refine g_aload_n 1 (gd rfl) rfl rfl ?_
  refine g_getI 4 (gd rfl) rfl rfl rfl (fun z1x1 e1x1 => ?_)
  have q1x1 : u_0_2 = z1x1 := (e_0_2).trans e1x1.symm
  subst q1x1
  refine g_iconst (-1) 5 (gd rfl) rfl rfl ?_
  refine g_cmp_ne 8 18 (gd rfl) rfl rfl (fun c1x5 => ?_) (fun c1x5 => ?_)
  · skip
    have i1x5 := r_ne1 0 4000 c1x5 ro_0_2 (in_c (-1) rfl) rfl
    refine g_aload_n 19 (gd rfl) rfl rfl ?_
    refine g_getA (q2 := 32) 22 (gd rfl) rfl rfl rfl rfl ?_
    refine g_areturn (gd rfl) rfl (hp1 _ _ ?_)
    show GG _ _ _ _ _ _ _ _ [.ref (A 32)] _ _ _
    refine g_astore_n 5 (gd rfl) rfl (Nat.le_of_ble_eq_true rfl) ?_
    refine g_aload_n 6 (gd rfl) rfl rfl ?_
    refine g_iload_n 7 (gd rfl) rfl rfl ?_
    refine g_callv (X := _) (As := [.int x1]) (r := []) (b := A 32) (q := 32) 10 (gd rfl) rfl rfl rfl rfl rfl (ww_o rfl) (Nat.le_of_ble_eq_true rfl) (mc := 0) (ms := 0) (Nat.zero_le _) (Nat.zero_le _) (P := fun v u => _) ?_ (fun e u h => h) (fun v u h => h)
    intro po7 xx7 hp7 hx7
    refine g_enter2 (k := 94) (N := 300) (by first | exact dq1 hd rfl | exact dq0 hd rfl | exact dq2 hd rfl | exact dq3 hd rfl | omega) rfl (Nat.le_of_ble_eq_true rfl) ?_
    refine g_iload_n 1 (gd rfl) rfl rfl ?_
    refine g_if_lt 4 16 (gd rfl) rfl rfl (fun c7x1 => ?_) (fun c7x1 => ?_)
    · skip
      have i7x1 := z_lt (-2147483648) (-1) c7x1 (i_rng x1) rfl
      refine g_iconst 0 17 (gd rfl) rfl rfl ?_
      refine g_ireturn (gd rfl) rfl (nb01 (in_w 0 1 (in_c 0 rfl) rfl)) (hp7 _ _ ?_)
      show GG _ _ _ _ _ _ _ _ [.int (Int32.ofInt 0)] _ _ _
      refine g_thr (E := am_IA) (y := yX11_allow) 13 (gd rfl) rfl rfl (Or.inl ⟨rfl, rfl, rfl⟩) (by first | exact dq1 hd rfl | exact dq0 hd rfl | exact dq2 hd rfl | exact dq3 hd rfl | omega) (Nat.le_of_ble_eq_true rfl) (Nat.le_of_ble_eq_true rfl) (Nat.le_of_ble_eq_true rfl) (fun c10 => ?_) (fun c10 => ?_)
      · skip
        exact zn_ne c10 (in_c 0 rfl) rfl
      · skip
        exact (hX _ _ ⟨rfl, s, hI, fr_rf, rfl⟩)
    · skip
      have i7x1 := z_ge 0 2147483647 c7x1 (i_rng x1) rfl
      refine g_iload_n 5 (gd rfl) rfl rfl ?_
      refine g_aload_n 6 (gd rfl) rfl rfl ?_
      refine g_getI 9 (gd rfl) rfl rfl rfl (fun z7x6 e7x6 => ?_)
      have q7x6 : u_32_1 = z7x6 := (e_32_1).trans e7x6.symm
      subst q7x6
      refine g_cmp_ge 12 16 (gd rfl) rfl rfl (fun c7x9 => ?_) (fun c7x9 => ?_)
      · skip
        refine g_iconst 0 17 (gd rfl) rfl rfl ?_
        refine g_ireturn (gd rfl) rfl (nb01 (in_w 0 1 (in_c 0 rfl) rfl)) (hp7 _ _ ?_)
        show GG _ _ _ _ _ _ _ _ [.int (Int32.ofInt 0)] _ _ _
        refine g_thr (E := am_IA) (y := yX11_allow) 13 (gd rfl) rfl rfl (Or.inl ⟨rfl, rfl, rfl⟩) (by first | exact dq1 hd rfl | exact dq0 hd rfl | exact dq2 hd rfl | exact dq3 hd rfl | omega) (Nat.le_of_ble_eq_true rfl) (Nat.le_of_ble_eq_true rfl) (Nat.le_of_ble_eq_true rfl) (fun c10 => ?_) (fun c10 => ?_)
        · skip
          exact zn_ne c10 (in_c 0 rfl) rfl
        · skip
          exact (hX _ _ ⟨rfl, s, hI, fr_rf, rfl⟩)
      · skip
        have i7x9 := r_lt1 0 31 c7x9 i7x1 ro_32_1 rfl
        have i7x9a := r_lt2 1 32 c7x9 i7x1 ro_32_1 rfl
        refine g_iconst 1 13 (gd rfl) rfl rfl ?_
        refine g_goto 17 (gd rfl) rfl ?_
        refine g_ireturn (gd rfl) rfl (nb01 (in_w 0 1 (in_c 1 rfl) rfl)) (hp7 _ _ ?_)
        show GG _ _ _ _ _ _ _ _ [.int (Int32.ofInt 1)] _ _ _
        refine g_thr (E := am_IA) (y := yX11_allow) 13 (gd rfl) rfl rfl (Or.inl ⟨rfl, rfl, rfl⟩) (by first | exact dq1 hd rfl | exact dq0 hd rfl | exact dq2 hd rfl | exact dq3 hd rfl | omega) (Nat.le_of_ble_eq_true rfl) (Nat.le_of_ble_eq_true rfl) (Nat.le_of_ble_eq_true rfl) (fun c10 => ?_) (fun c10 => ?_)
        · skip
          refine g_aload_n 14 (gd rfl) rfl rfl ?_
          refine g_getA (q2 := 56) 17 (gd rfl) rfl rfl rfl rfl ?_
          refine g_aload_n 18 (gd rfl) rfl rfl ?_
          refine g_iload_n 19 (gd rfl) rfl rfl ?_
          refine g_callv (X := _) (As := [.ref (A 32), .int x1]) (r := []) (b := A 56) (q := 56) 22 (gd rfl) rfl rfl rfl rfl rfl (ww_o rfl) (Nat.le_of_ble_eq_true rfl) (mc := 0) (ms := 0) (Nat.zero_le _) (Nat.zero_le _) (P := fun v u => _) ?_ (fun e u h => h) (fun v u h => h)
          intro po19 xx19 hp19 hx19
          refine g_enter2 (k := 147) (N := 300) (by first | exact dq1 hd rfl | exact dq0 hd rfl | exact dq2 hd rfl | exact dq3 hd rfl | omega) rfl (Nat.le_of_ble_eq_true rfl) ?_
          refine g_aload_n 1 (gd rfl) rfl rfl ?_
          refine g_getI 4 (gd rfl) rfl rfl rfl (fun z19x1 e19x1 => ?_)
          have i19x1 := inv_F hI (-1) 4000 rfl e19x1
          refine g_aload_n 5 (gd rfl) rfl rfl ?_
          refine g_getI 8 (gd rfl) rfl rfl rfl (fun z19x5 e19x5 => ?_)
          have q19x5 : u_32_0 = z19x5 := (e_32_0).trans e19x5.symm
          subst q19x5
          refine g_cmp_eq 11 24 (gd rfl) rfl rfl (fun c19x8 => ?_) (fun c19x8 => ?_)
          · skip
            have i19x8 := r_eq1 0 4000 c19x8 i19x1 ro_32_0 rfl
            refine g_aload_n 25 (gd rfl) rfl rfl ?_
            refine g_getA (q2 := 58) 28 (gd rfl) rfl rfl rfl rfl ?_
            refine g_iload_n 29 (gd rfl) rfl rfl ?_
            refine g_iaload 30 (gd rfl) rfl (n := 32) rfl (in_ix i7x9 rfl) (fun z19x29 e19x29 => ?_)
            refine g_ireturn (gd rfl) rfl rfl (hp19 _ _ ?_)
            show GG _ _ _ _ _ _ _ _ [.int z19x29] _ _ _
            exact g_ireturn (gd rfl) rfl rfl (hP _ _ ⟨s, hI, fr_rf, z19x29, rfl, rfl, in_w (-2147483648) 2147483647 (i_rng z19x29) rfl⟩)
          · skip
            refine g_aload_n 12 (gd rfl) rfl rfl ?_
            refine g_aload_n 13 (gd rfl) rfl rfl ?_
            refine g_getI 16 (gd rfl) rfl rfl rfl (fun z19x13 e19x13 => ?_)
            have q19x13 : u_32_0 = z19x13 := (e_32_0).trans e19x13.symm
            subst q19x13
            refine g_putI 19 (gd rfl) rfl rfl rfl rfl ?_
            have hI19x16 := inv_sF (q := 56) (j := 3) hI rfl (in_w (-1) 4000 ro_32_0 rfl)
            refine g_aload_n 20 (gd rfl) rfl rfl ?_
            refine g_aload_n 21 (gd rfl) rfl rfl ?_
            refine g_callv (X := _) (As := [.ref (A 32)]) (r := []) (b := A 56) (q := 56) 24 (gd rfl) rfl rfl rfl rfl rfl (ww_o rfl) (Nat.le_of_ble_eq_true rfl) (Nat.zero_le _) (Nat.zero_le _) (k_148_56_32 (by first | exact dq1 hd rfl | exact dq0 hd rfl | exact dq2 hd rfl | exact dq3 hd rfl | omega) hI19x16 ) (fun e u h => h) (fun v u h => ?_)
            obtain ⟨s19x21, hI19x21, hF19x21, rfl, rfl⟩ := h
            show GG _ _ _ _ _ _ _ _ [] _ _ _
            refine g_aload_n 25 (gd rfl) rfl rfl ?_
            refine g_getA (q2 := 58) 28 (gd rfl) rfl rfl rfl rfl ?_
            refine g_iload_n 29 (gd rfl) rfl rfl ?_
            refine g_iaload 30 (gd rfl) rfl (n := 32) rfl (in_ix i7x9 rfl) (fun z19x29 e19x29 => ?_)
            refine g_ireturn (gd rfl) rfl rfl (hp19 _ _ ?_)
            show GG _ _ _ _ _ _ _ _ [.int z19x29] _ _ _
            exact g_ireturn (gd rfl) rfl rfl (hP _ _ ⟨s19x21, hI19x21, (fr_tr rfl (fr_sF rfl fr_rf) hF19x21), z19x29, rfl, rfl, in_w (-2147483648) 2147483647 (i_rng z19x29) rfl⟩)
        · skip
          exact zn_eq c10 (in_c 1 rfl) rfl
  · skip
    have i1x5 := r_eq1 (-1) (-1) c1x5 ro_0_2 (in_c (-1) rfl) rfl
    refine g_aload_n 9 (gd rfl) rfl rfl ?_
    refine g_getA (q2 := 1) 12 (gd rfl) rfl rfl rfl rfl ?_
    refine g_getA (q2 := 2) 15 (gd rfl) rfl rfl rfl rfl ?_
    refine g_goto 22 (gd rfl) rfl ?_
    refine g_areturn (gd rfl) rfl (hp1 _ _ ?_)
    show GG _ _ _ _ _ _ _ _ [.ref (A 2)] _ _ _
    refine g_astore_n 5 (gd rfl) rfl (Nat.le_of_ble_eq_true rfl) ?_
    refine g_aload_n 6 (gd rfl) rfl rfl ?_
    refine g_iload_n 7 (gd rfl) rfl rfl ?_
    refine g_callv (X := _) (As := [.int x1]) (r := []) (b := A 2) (q := 2) 10 (gd rfl) rfl rfl rfl rfl rfl (ww_o rfl) (Nat.le_of_ble_eq_true rfl) (mc := 0) (ms := 0) (Nat.zero_le _) (Nat.zero_le _) (P := fun v u => _) ?_ (fun e u h => h) (fun v u h => h)
    intro po7 xx7 hp7 hx7
    refine g_enter2 (k := 94) (N := 300) (by first | exact dq1 hd rfl | exact dq0 hd rfl | exact dq2 hd rfl | exact dq3 hd rfl | omega) rfl (Nat.le_of_ble_eq_true rfl) ?_
    refine g_iload_n 1 (gd rfl) rfl rfl ?_
    refine g_if_lt 4 16 (gd rfl) rfl rfl (fun c7x1 => ?_) (fun c7x1 => ?_)
    · skip
      have i7x1 := z_lt (-2147483648) (-1) c7x1 (i_rng x1) rfl
      refine g_iconst 0 17 (gd rfl) rfl rfl ?_
      refine g_ireturn (gd rfl) rfl (nb01 (in_w 0 1 (in_c 0 rfl) rfl)) (hp7 _ _ ?_)
      show GG _ _ _ _ _ _ _ _ [.int (Int32.ofInt 0)] _ _ _
      refine g_thr (E := am_IA) (y := yX11_allow) 13 (gd rfl) rfl rfl (Or.inl ⟨rfl, rfl, rfl⟩) (by first | exact dq1 hd rfl | exact dq0 hd rfl | exact dq2 hd rfl | exact dq3 hd rfl | omega) (Nat.le_of_ble_eq_true rfl) (Nat.le_of_ble_eq_true rfl) (Nat.le_of_ble_eq_true rfl) (fun c10 => ?_) (fun c10 => ?_)
      · skip
        exact zn_ne c10 (in_c 0 rfl) rfl
      · skip
        exact (hX _ _ ⟨rfl, s, hI, fr_rf, rfl⟩)
    · skip
      have i7x1 := z_ge 0 2147483647 c7x1 (i_rng x1) rfl
      refine g_iload_n 5 (gd rfl) rfl rfl ?_
      refine g_aload_n 6 (gd rfl) rfl rfl ?_
      refine g_getI 9 (gd rfl) rfl rfl rfl (fun z7x6 e7x6 => ?_)
      have q7x6 : u_2_1 = z7x6 := (e_2_1).trans e7x6.symm
      subst q7x6
      refine g_cmp_ge 12 16 (gd rfl) rfl rfl (fun c7x9 => ?_) (fun c7x9 => ?_)
      · skip
        refine g_iconst 0 17 (gd rfl) rfl rfl ?_
        refine g_ireturn (gd rfl) rfl (nb01 (in_w 0 1 (in_c 0 rfl) rfl)) (hp7 _ _ ?_)
        show GG _ _ _ _ _ _ _ _ [.int (Int32.ofInt 0)] _ _ _
        refine g_thr (E := am_IA) (y := yX11_allow) 13 (gd rfl) rfl rfl (Or.inl ⟨rfl, rfl, rfl⟩) (by first | exact dq1 hd rfl | exact dq0 hd rfl | exact dq2 hd rfl | exact dq3 hd rfl | omega) (Nat.le_of_ble_eq_true rfl) (Nat.le_of_ble_eq_true rfl) (Nat.le_of_ble_eq_true rfl) (fun c10 => ?_) (fun c10 => ?_)
        · skip
          exact zn_ne c10 (in_c 0 rfl) rfl
        · skip
          exact (hX _ _ ⟨rfl, s, hI, fr_rf, rfl⟩)
      · skip
        have i7x9 := r_lt1 0 31 c7x9 i7x1 ro_2_1 rfl
        have i7x9a := r_lt2 1 32 c7x9 i7x1 ro_2_1 rfl
        refine g_iconst 1 13 (gd rfl) rfl rfl ?_
        refine g_goto 17 (gd rfl) rfl ?_
        refine g_ireturn (gd rfl) rfl (nb01 (in_w 0 1 (in_c 1 rfl) rfl)) (hp7 _ _ ?_)
        show GG _ _ _ _ _ _ _ _ [.int (Int32.ofInt 1)] _ _ _
        refine g_thr (E := am_IA) (y := yX11_allow) 13 (gd rfl) rfl rfl (Or.inl ⟨rfl, rfl, rfl⟩) (by first | exact dq1 hd rfl | exact dq0 hd rfl | exact dq2 hd rfl | exact dq3 hd rfl | omega) (Nat.le_of_ble_eq_true rfl) (Nat.le_of_ble_eq_true rfl) (Nat.le_of_ble_eq_true rfl) (fun c10 => ?_) (fun c10 => ?_)
        · skip
          refine g_aload_n 14 (gd rfl) rfl rfl ?_
          refine g_getA (q2 := 56) 17 (gd rfl) rfl rfl rfl rfl ?_
          refine g_aload_n 18 (gd rfl) rfl rfl ?_
          refine g_iload_n 19 (gd rfl) rfl rfl ?_
          refine g_callv (X := _) (As := [.ref (A 2), .int x1]) (r := []) (b := A 56) (q := 56) 22 (gd rfl) rfl rfl rfl rfl rfl (ww_o rfl) (Nat.le_of_ble_eq_true rfl) (mc := 0) (ms := 0) (Nat.zero_le _) (Nat.zero_le _) (P := fun v u => _) ?_ (fun e u h => h) (fun v u h => h)
          intro po19 xx19 hp19 hx19
          refine g_enter2 (k := 147) (N := 300) (by first | exact dq1 hd rfl | exact dq0 hd rfl | exact dq2 hd rfl | exact dq3 hd rfl | omega) rfl (Nat.le_of_ble_eq_true rfl) ?_
          refine g_aload_n 1 (gd rfl) rfl rfl ?_
          refine g_getI 4 (gd rfl) rfl rfl rfl (fun z19x1 e19x1 => ?_)
          have i19x1 := inv_F hI (-1) 4000 rfl e19x1
          refine g_aload_n 5 (gd rfl) rfl rfl ?_
          refine g_getI 8 (gd rfl) rfl rfl rfl (fun z19x5 e19x5 => ?_)
          have q19x5 : u_2_0 = z19x5 := (e_2_0).trans e19x5.symm
          subst q19x5
          refine g_cmp_eq 11 24 (gd rfl) rfl rfl (fun c19x8 => ?_) (fun c19x8 => ?_)
          · skip
            have i19x8 := r_eq1 0 4000 c19x8 i19x1 ro_2_0 rfl
            refine g_aload_n 25 (gd rfl) rfl rfl ?_
            refine g_getA (q2 := 58) 28 (gd rfl) rfl rfl rfl rfl ?_
            refine g_iload_n 29 (gd rfl) rfl rfl ?_
            refine g_iaload 30 (gd rfl) rfl (n := 32) rfl (in_ix i7x9 rfl) (fun z19x29 e19x29 => ?_)
            refine g_ireturn (gd rfl) rfl rfl (hp19 _ _ ?_)
            show GG _ _ _ _ _ _ _ _ [.int z19x29] _ _ _
            exact g_ireturn (gd rfl) rfl rfl (hP _ _ ⟨s, hI, fr_rf, z19x29, rfl, rfl, in_w (-2147483648) 2147483647 (i_rng z19x29) rfl⟩)
          · skip
            refine g_aload_n 12 (gd rfl) rfl rfl ?_
            refine g_aload_n 13 (gd rfl) rfl rfl ?_
            refine g_getI 16 (gd rfl) rfl rfl rfl (fun z19x13 e19x13 => ?_)
            have q19x13 : u_2_0 = z19x13 := (e_2_0).trans e19x13.symm
            subst q19x13
            refine g_putI 19 (gd rfl) rfl rfl rfl rfl ?_
            have hI19x16 := inv_sF (q := 56) (j := 3) hI rfl (in_w (-1) 4000 ro_2_0 rfl)
            refine g_aload_n 20 (gd rfl) rfl rfl ?_
            refine g_aload_n 21 (gd rfl) rfl rfl ?_
            refine g_callv (X := _) (As := [.ref (A 2)]) (r := []) (b := A 56) (q := 56) 24 (gd rfl) rfl rfl rfl rfl rfl (ww_o rfl) (Nat.le_of_ble_eq_true rfl) (Nat.zero_le _) (Nat.zero_le _) (k_148_56_2 (by first | exact dq1 hd rfl | exact dq0 hd rfl | exact dq2 hd rfl | exact dq3 hd rfl | omega) hI19x16 ) (fun e u h => h) (fun v u h => ?_)
            obtain ⟨s19x21, hI19x21, hF19x21, rfl, rfl⟩ := h
            show GG _ _ _ _ _ _ _ _ [] _ _ _
            refine g_aload_n 25 (gd rfl) rfl rfl ?_
            refine g_getA (q2 := 58) 28 (gd rfl) rfl rfl rfl rfl ?_
            refine g_iload_n 29 (gd rfl) rfl rfl ?_
            refine g_iaload 30 (gd rfl) rfl (n := 32) rfl (in_ix i7x9 rfl) (fun z19x29 e19x29 => ?_)
            refine g_ireturn (gd rfl) rfl rfl (hp19 _ _ ?_)
            show GG _ _ _ _ _ _ _ _ [.int z19x29] _ _ _
            exact g_ireturn (gd rfl) rfl rfl (hP _ _ ⟨s19x21, hI19x21, (fr_tr rfl (fr_sF rfl fr_rf) hF19x21), z19x29, rfl, rfl, in_w (-2147483648) 2147483647 (i_rng z19x29) rfl⟩)
        · skip
          exact zn_eq c10 (in_c 1 rfl) rfl

def fm_241_0 : FM := ([66, 67, 68], [], [(65, 0), (65, 1), (65, 2), (65, 4)], [(65, 3)])
/-- GraphHouse.flow -/
theorem k_241_0 {Z : AmZ} {A : Nat → Nat} {s : GS} {ex : va_W} {d : Nat} {x1 : Int32} {x2 : Int32} (hd : 7 ≤ d) (hI : Inv s)  : GC Z d 241 [.ref (A 0), .int x1, .int x2] (WW Z A s ++ ex) 3 18 (fun v u => ∃ t : GS, Inv t ∧ Fr fm_241_0 s t ∧ ∃ z : Int64, v = some (.long z) ∧ u = WW Z A t ++ ex) (gE1 Z A ex fm_241_0 s) := by
  intro post xp hP hX
  obtain ⟨u_0_2, e_0_2⟩ : ∃ w, w = s.2.2.1 0 2 := ⟨_, rfl⟩
  have ro_0_2 := inv_F hI (-1) 4000 rfl e_0_2
  obtain ⟨u_2_1, e_2_1⟩ : ∃ w, w = s.2.2.1 2 1 := ⟨_, rfl⟩
  have ro_2_1 := inv_F hI 0 32 rfl e_2_1
  obtain ⟨u_32_1, e_32_1⟩ : ∃ w, w = s.2.2.1 32 1 := ⟨_, rfl⟩
  have ro_32_1 := inv_F hI 0 32 rfl e_32_1
  refine g_enter2 (k := 241) (N := 900) (by first | exact dq1 hd rfl | exact dq0 hd rfl | exact dq2 hd rfl | exact dq3 hd rfl | omega) rfl (Nat.le_of_ble_eq_true rfl) ?_
  refine g_aload_n 1 (gd rfl) rfl rfl ?_
  refine g_callv (X := _) (As := []) (r := []) (b := A 0) (q := 0) 4 (gd rfl) rfl rfl rfl rfl rfl (ww_o rfl) (Nat.le_of_ble_eq_true rfl) (mc := 0) (ms := 0) (Nat.zero_le _) (Nat.zero_le _) (P := fun v u => _) ?_ (fun e u h => h) (fun v u h => h)
  intro po1 xx1 hp1 hx1
  refine g_enter2 (k := 259) (N := 300) (by first | exact dq1 hd rfl | exact dq0 hd rfl | exact dq2 hd rfl | exact dq3 hd rfl | omega) rfl (Nat.le_of_ble_eq_true rfl) ?_
  refine g_aload_n 1 (gd rfl) rfl rfl ?_
  refine g_getI 4 (gd rfl) rfl rfl rfl (fun z1x1 e1x1 => ?_)
  have q1x1 : u_0_2 = z1x1 := (e_0_2).trans e1x1.symm
  subst q1x1
  refine g_iconst (-1) 5 (gd rfl) rfl rfl ?_
  refine g_cmp_ne 8 18 (gd rfl) rfl rfl (fun c1x5 => ?_) (fun c1x5 => ?_)
  · skip
    have i1x5 := r_ne1 0 4000 c1x5 ro_0_2 (in_c (-1) rfl) rfl
    refine g_aload_n 19 (gd rfl) rfl rfl ?_
    refine g_getA (q2 := 32) 22 (gd rfl) rfl rfl rfl rfl ?_
    refine g_areturn (gd rfl) rfl (hp1 _ _ ?_)
    show GG _ _ _ _ _ _ _ _ [.ref (A 32)] _ _ _
    refine g_astore_n 5 (gd rfl) rfl (Nat.le_of_ble_eq_true rfl) ?_
    refine g_aload_n 6 (gd rfl) rfl rfl ?_
    refine g_iload_n 7 (gd rfl) rfl rfl ?_
    refine g_iload_n 8 (gd rfl) rfl rfl ?_
    refine g_callv (X := _) (As := [.int x1, .int x2]) (r := []) (b := A 32) (q := 32) 11 (gd rfl) rfl rfl rfl rfl rfl (ww_o rfl) (Nat.le_of_ble_eq_true rfl) (mc := 0) (ms := 0) (Nat.zero_le _) (Nat.zero_le _) (P := fun v u => _) ?_ (fun e u h => h) (fun v u h => h)
    intro po8 xx8 hp8 hx8
    refine g_enter2 (k := 95) (N := 300) (by first | exact dq1 hd rfl | exact dq0 hd rfl | exact dq2 hd rfl | exact dq3 hd rfl | omega) rfl (Nat.le_of_ble_eq_true rfl) ?_
    refine g_aload_n 1 (gd rfl) rfl rfl ?_
    refine g_iload_n 2 (gd rfl) rfl rfl ?_
    refine g_callv (X := _) (As := [.int x1]) (r := []) (b := A 32) (q := 32) 5 (gd rfl) rfl rfl rfl rfl rfl (ww_o rfl) (Nat.le_of_ble_eq_true rfl) (mc := 0) (ms := 0) (Nat.zero_le _) (Nat.zero_le _) (P := fun v u => _) ?_ (fun e u h => h) (fun v u h => h)
    intro po8x2 xx8x2 hp8x2 hx8x2
    refine g_enter2 (k := 94) (N := 300) (by first | exact dq1 hd rfl | exact dq0 hd rfl | exact dq2 hd rfl | exact dq3 hd rfl | omega) rfl (Nat.le_of_ble_eq_true rfl) ?_
    refine g_iload_n 1 (gd rfl) rfl rfl ?_
    refine g_if_lt 4 16 (gd rfl) rfl rfl (fun c8x2x1 => ?_) (fun c8x2x1 => ?_)
    · skip
      have i8x2x1 := z_lt (-2147483648) (-1) c8x2x1 (i_rng x1) rfl
      refine g_iconst 0 17 (gd rfl) rfl rfl ?_
      refine g_ireturn (gd rfl) rfl (nb01 (in_w 0 1 (in_c 0 rfl) rfl)) (hp8x2 _ _ ?_)
      show GG _ _ _ _ _ _ _ _ [.int (Int32.ofInt 0)] _ _ _
      refine g_if_eq 8 25 (gd rfl) rfl rfl (fun c8x5 => ?_) (fun c8x5 => ?_)
      · skip
        refine g_iconst 0 26 (gd rfl) rfl rfl ?_
        refine g_ireturn (gd rfl) rfl (nb01 (in_w 0 1 (in_c 0 rfl) rfl)) (hp8 _ _ ?_)
        show GG _ _ _ _ _ _ _ _ [.int (Int32.ofInt 0)] _ _ _
        refine g_thr (E := am_IA) (y := yX11_allow) 14 (gd rfl) rfl rfl (Or.inl ⟨rfl, rfl, rfl⟩) (by first | exact dq1 hd rfl | exact dq0 hd rfl | exact dq2 hd rfl | exact dq3 hd rfl | omega) (Nat.le_of_ble_eq_true rfl) (Nat.le_of_ble_eq_true rfl) (Nat.le_of_ble_eq_true rfl) (fun c11 => ?_) (fun c11 => ?_)
        · skip
          exact zn_ne c11 (in_c 0 rfl) rfl
        · skip
          exact (hX _ _ ⟨rfl, s, hI, fr_rf, rfl⟩)
      · skip
        exact zn_ne c8x5 (in_c 0 rfl) rfl
    · skip
      have i8x2x1 := z_ge 0 2147483647 c8x2x1 (i_rng x1) rfl
      refine g_iload_n 5 (gd rfl) rfl rfl ?_
      refine g_aload_n 6 (gd rfl) rfl rfl ?_
      refine g_getI 9 (gd rfl) rfl rfl rfl (fun z8x2x6 e8x2x6 => ?_)
      have q8x2x6 : u_32_1 = z8x2x6 := (e_32_1).trans e8x2x6.symm
      subst q8x2x6
      refine g_cmp_ge 12 16 (gd rfl) rfl rfl (fun c8x2x9 => ?_) (fun c8x2x9 => ?_)
      · skip
        refine g_iconst 0 17 (gd rfl) rfl rfl ?_
        refine g_ireturn (gd rfl) rfl (nb01 (in_w 0 1 (in_c 0 rfl) rfl)) (hp8x2 _ _ ?_)
        show GG _ _ _ _ _ _ _ _ [.int (Int32.ofInt 0)] _ _ _
        refine g_if_eq 8 25 (gd rfl) rfl rfl (fun c8x5 => ?_) (fun c8x5 => ?_)
        · skip
          refine g_iconst 0 26 (gd rfl) rfl rfl ?_
          refine g_ireturn (gd rfl) rfl (nb01 (in_w 0 1 (in_c 0 rfl) rfl)) (hp8 _ _ ?_)
          show GG _ _ _ _ _ _ _ _ [.int (Int32.ofInt 0)] _ _ _
          refine g_thr (E := am_IA) (y := yX11_allow) 14 (gd rfl) rfl rfl (Or.inl ⟨rfl, rfl, rfl⟩) (by first | exact dq1 hd rfl | exact dq0 hd rfl | exact dq2 hd rfl | exact dq3 hd rfl | omega) (Nat.le_of_ble_eq_true rfl) (Nat.le_of_ble_eq_true rfl) (Nat.le_of_ble_eq_true rfl) (fun c11 => ?_) (fun c11 => ?_)
          · skip
            exact zn_ne c11 (in_c 0 rfl) rfl
          · skip
            exact (hX _ _ ⟨rfl, s, hI, fr_rf, rfl⟩)
        · skip
          exact zn_ne c8x5 (in_c 0 rfl) rfl
      · skip
        have i8x2x9 := r_lt1 0 31 c8x2x9 i8x2x1 ro_32_1 rfl
        have i8x2x9a := r_lt2 1 32 c8x2x9 i8x2x1 ro_32_1 rfl
        refine g_iconst 1 13 (gd rfl) rfl rfl ?_
        refine g_goto 17 (gd rfl) rfl ?_
        refine g_ireturn (gd rfl) rfl (nb01 (in_w 0 1 (in_c 1 rfl) rfl)) (hp8x2 _ _ ?_)
        show GG _ _ _ _ _ _ _ _ [.int (Int32.ofInt 1)] _ _ _
        refine g_if_eq 8 25 (gd rfl) rfl rfl (fun c8x5 => ?_) (fun c8x5 => ?_)
        · skip
          exact zn_eq c8x5 (in_c 1 rfl) rfl
        · skip
          refine g_aload_n 9 (gd rfl) rfl rfl ?_
          refine g_iload_n 10 (gd rfl) rfl rfl ?_
          refine g_callv (X := _) (As := [.int x2]) (r := []) (b := A 32) (q := 32) 13 (gd rfl) rfl rfl rfl rfl rfl (ww_o rfl) (Nat.le_of_ble_eq_true rfl) (mc := 0) (ms := 0) (Nat.zero_le _) (Nat.zero_le _) (P := fun v u => _) ?_ (fun e u h => h) (fun v u h => h)
          intro po8x10 xx8x10 hp8x10 hx8x10
          refine g_enter2 (k := 94) (N := 300) (by first | exact dq1 hd rfl | exact dq0 hd rfl | exact dq2 hd rfl | exact dq3 hd rfl | omega) rfl (Nat.le_of_ble_eq_true rfl) ?_
          refine g_iload_n 1 (gd rfl) rfl rfl ?_
          refine g_if_lt 4 16 (gd rfl) rfl rfl (fun c8x10x1 => ?_) (fun c8x10x1 => ?_)
          · skip
            have i8x10x1 := z_lt (-2147483648) (-1) c8x10x1 (i_rng x2) rfl
            refine g_iconst 0 17 (gd rfl) rfl rfl ?_
            refine g_ireturn (gd rfl) rfl (nb01 (in_w 0 1 (in_c 0 rfl) rfl)) (hp8x10 _ _ ?_)
            show GG _ _ _ _ _ _ _ _ [.int (Int32.ofInt 0)] _ _ _
            refine g_if_eq 16 25 (gd rfl) rfl rfl (fun c8x13 => ?_) (fun c8x13 => ?_)
            · skip
              refine g_iconst 0 26 (gd rfl) rfl rfl ?_
              refine g_ireturn (gd rfl) rfl (nb01 (in_w 0 1 (in_c 0 rfl) rfl)) (hp8 _ _ ?_)
              show GG _ _ _ _ _ _ _ _ [.int (Int32.ofInt 0)] _ _ _
              refine g_thr (E := am_IA) (y := yX11_allow) 14 (gd rfl) rfl rfl (Or.inl ⟨rfl, rfl, rfl⟩) (by first | exact dq1 hd rfl | exact dq0 hd rfl | exact dq2 hd rfl | exact dq3 hd rfl | omega) (Nat.le_of_ble_eq_true rfl) (Nat.le_of_ble_eq_true rfl) (Nat.le_of_ble_eq_true rfl) (fun c11 => ?_) (fun c11 => ?_)
              · skip
                exact zn_ne c11 (in_c 0 rfl) rfl
              · skip
                exact (hX _ _ ⟨rfl, s, hI, fr_rf, rfl⟩)
            · skip
              exact zn_ne c8x13 (in_c 0 rfl) rfl
          · skip
            have i8x10x1 := z_ge 0 2147483647 c8x10x1 (i_rng x2) rfl
            refine g_iload_n 5 (gd rfl) rfl rfl ?_
            refine g_aload_n 6 (gd rfl) rfl rfl ?_
            refine g_getI 9 (gd rfl) rfl rfl rfl (fun z8x10x6 e8x10x6 => ?_)
            have q8x10x6 : u_32_1 = z8x10x6 := (e_32_1).trans e8x10x6.symm
            subst q8x10x6
            refine g_cmp_ge 12 16 (gd rfl) rfl rfl (fun c8x10x9 => ?_) (fun c8x10x9 => ?_)
            · skip
              have i8x10x9 := r_le2 1 2147483647 c8x10x9 i8x2x9a i8x10x1 rfl
              refine g_iconst 0 17 (gd rfl) rfl rfl ?_
              refine g_ireturn (gd rfl) rfl (nb01 (in_w 0 1 (in_c 0 rfl) rfl)) (hp8x10 _ _ ?_)
              show GG _ _ _ _ _ _ _ _ [.int (Int32.ofInt 0)] _ _ _
              refine g_if_eq 16 25 (gd rfl) rfl rfl (fun c8x13 => ?_) (fun c8x13 => ?_)
              · skip
                refine g_iconst 0 26 (gd rfl) rfl rfl ?_
                refine g_ireturn (gd rfl) rfl (nb01 (in_w 0 1 (in_c 0 rfl) rfl)) (hp8 _ _ ?_)
                show GG _ _ _ _ _ _ _ _ [.int (Int32.ofInt 0)] _ _ _
                refine g_thr (E := am_IA) (y := yX11_allow) 14 (gd rfl) rfl rfl (Or.inl ⟨rfl, rfl, rfl⟩) (by first | exact dq1 hd rfl | exact dq0 hd rfl | exact dq2 hd rfl | exact dq3 hd rfl | omega) (Nat.le_of_ble_eq_true rfl) (Nat.le_of_ble_eq_true rfl) (Nat.le_of_ble_eq_true rfl) (fun c11 => ?_) (fun c11 => ?_)
                · skip
                  exact zn_ne c11 (in_c 0 rfl) rfl
                · skip
                  exact (hX _ _ ⟨rfl, s, hI, fr_rf, rfl⟩)
              · skip
                exact zn_ne c8x13 (in_c 0 rfl) rfl
            · skip
              have i8x10x9 := r_lt1 0 31 c8x10x9 i8x10x1 i8x2x9a rfl
              refine g_iconst 1 13 (gd rfl) rfl rfl ?_
              refine g_goto 17 (gd rfl) rfl ?_
              refine g_ireturn (gd rfl) rfl (nb01 (in_w 0 1 (in_c 1 rfl) rfl)) (hp8x10 _ _ ?_)
              show GG _ _ _ _ _ _ _ _ [.int (Int32.ofInt 1)] _ _ _
              refine g_if_eq 16 25 (gd rfl) rfl rfl (fun c8x13 => ?_) (fun c8x13 => ?_)
              · skip
                exact zn_eq c8x13 (in_c 1 rfl) rfl
              · skip
                refine g_iload_n 17 (gd rfl) rfl rfl ?_
                refine g_iload_n 18 (gd rfl) rfl rfl ?_
                refine g_cmp_eq 21 25 (gd rfl) rfl rfl (fun c8x18 => ?_) (fun c8x18 => ?_)
                · skip
                  refine g_iconst 0 26 (gd rfl) rfl rfl ?_
                  refine g_ireturn (gd rfl) rfl (nb01 (in_w 0 1 (in_c 0 rfl) rfl)) (hp8 _ _ ?_)
                  show GG _ _ _ _ _ _ _ _ [.int (Int32.ofInt 0)] _ _ _
                  refine g_thr (E := am_IA) (y := yX11_allow) 14 (gd rfl) rfl rfl (Or.inl ⟨rfl, rfl, rfl⟩) (by first | exact dq1 hd rfl | exact dq0 hd rfl | exact dq2 hd rfl | exact dq3 hd rfl | omega) (Nat.le_of_ble_eq_true rfl) (Nat.le_of_ble_eq_true rfl) (Nat.le_of_ble_eq_true rfl) (fun c11 => ?_) (fun c11 => ?_)
                  · skip
                    exact zn_ne c11 (in_c 0 rfl) rfl
                  · skip
                    exact (hX _ _ ⟨rfl, s, hI, fr_rf, rfl⟩)
                · skip
                  refine g_iconst 1 22 (gd rfl) rfl rfl ?_
                  refine g_goto 26 (gd rfl) rfl ?_
                  refine g_ireturn (gd rfl) rfl (nb01 (in_w 0 1 (in_c 1 rfl) rfl)) (hp8 _ _ ?_)
                  show GG _ _ _ _ _ _ _ _ [.int (Int32.ofInt 1)] _ _ _
                  refine g_thr (E := am_IA) (y := yX11_allow) 14 (gd rfl) rfl rfl (Or.inl ⟨rfl, rfl, rfl⟩) (by first | exact dq1 hd rfl | exact dq0 hd rfl | exact dq2 hd rfl | exact dq3 hd rfl | omega) (Nat.le_of_ble_eq_true rfl) (Nat.le_of_ble_eq_true rfl) (Nat.le_of_ble_eq_true rfl) (fun c11 => ?_) (fun c11 => ?_)
                  · skip
                    refine g_aload_n 15 (gd rfl) rfl rfl ?_
                    refine g_getA (q2 := 65) 18 (gd rfl) rfl rfl rfl rfl ?_
                    refine g_aload_n 19 (gd rfl) rfl rfl ?_
                    refine g_iload_n 20 (gd rfl) rfl rfl ?_
                    refine g_iload_n 21 (gd rfl) rfl rfl ?_
                    refine g_callv (X := _) (As := [.ref (A 32), .int x1, .int x2]) (r := []) (b := A 65) (q := 65) 24 (gd rfl) rfl rfl rfl rfl rfl (ww_o rfl) (Nat.le_of_ble_eq_true rfl) (Nat.zero_le _) (Nat.zero_le _) (k_75_65_32 (by first | exact dq1 hd rfl | exact dq0 hd rfl | exact dq2 hd rfl | exact dq3 hd rfl | omega) hI (in_w 0 31 i8x2x9 rfl) (in_w 0 31 i8x10x9 rfl)) (fun e u h => h) (fun v u h => ?_)
                    obtain ⟨s21, hI21, hF21, z21, rfl, rfl⟩ := h
                    show GG _ _ _ _ _ _ _ _ [.long z21] _ _ _
                    exact g_lreturn (gd rfl) rfl (hP _ _ ⟨s21, hI21, (fr_tr rfl fr_rf hF21), z21, rfl, rfl⟩)
                  · skip
                    exact zn_eq c11 (in_c 1 rfl) rfl
  · skip
    have i1x5 := r_eq1 (-1) (-1) c1x5 ro_0_2 (in_c (-1) rfl) rfl
    refine g_aload_n 9 (gd rfl) rfl rfl ?_
    refine g_getA (q2 := 1) 12 (gd rfl) rfl rfl rfl rfl ?_
    refine g_getA (q2 := 2) 15 (gd rfl) rfl rfl rfl rfl ?_
    refine g_goto 22 (gd rfl) rfl ?_
    refine g_areturn (gd rfl) rfl (hp1 _ _ ?_)
    show GG _ _ _ _ _ _ _ _ [.ref (A 2)] _ _ _
    refine g_astore_n 5 (gd rfl) rfl (Nat.le_of_ble_eq_true rfl) ?_
    refine g_aload_n 6 (gd rfl) rfl rfl ?_
    refine g_iload_n 7 (gd rfl) rfl rfl ?_
    refine g_iload_n 8 (gd rfl) rfl rfl ?_
    refine g_callv (X := _) (As := [.int x1, .int x2]) (r := []) (b := A 2) (q := 2) 11 (gd rfl) rfl rfl rfl rfl rfl (ww_o rfl) (Nat.le_of_ble_eq_true rfl) (mc := 0) (ms := 0) (Nat.zero_le _) (Nat.zero_le _) (P := fun v u => _) ?_ (fun e u h => h) (fun v u h => h)
    intro po8 xx8 hp8 hx8
    refine g_enter2 (k := 95) (N := 300) (by first | exact dq1 hd rfl | exact dq0 hd rfl | exact dq2 hd rfl | exact dq3 hd rfl | omega) rfl (Nat.le_of_ble_eq_true rfl) ?_
    refine g_aload_n 1 (gd rfl) rfl rfl ?_
    refine g_iload_n 2 (gd rfl) rfl rfl ?_
    refine g_callv (X := _) (As := [.int x1]) (r := []) (b := A 2) (q := 2) 5 (gd rfl) rfl rfl rfl rfl rfl (ww_o rfl) (Nat.le_of_ble_eq_true rfl) (mc := 0) (ms := 0) (Nat.zero_le _) (Nat.zero_le _) (P := fun v u => _) ?_ (fun e u h => h) (fun v u h => h)
    intro po8x2 xx8x2 hp8x2 hx8x2
    refine g_enter2 (k := 94) (N := 300) (by first | exact dq1 hd rfl | exact dq0 hd rfl | exact dq2 hd rfl | exact dq3 hd rfl | omega) rfl (Nat.le_of_ble_eq_true rfl) ?_
    refine g_iload_n 1 (gd rfl) rfl rfl ?_
    refine g_if_lt 4 16 (gd rfl) rfl rfl (fun c8x2x1 => ?_) (fun c8x2x1 => ?_)
    · skip
      have i8x2x1 := z_lt (-2147483648) (-1) c8x2x1 (i_rng x1) rfl
      refine g_iconst 0 17 (gd rfl) rfl rfl ?_
      refine g_ireturn (gd rfl) rfl (nb01 (in_w 0 1 (in_c 0 rfl) rfl)) (hp8x2 _ _ ?_)
      show GG _ _ _ _ _ _ _ _ [.int (Int32.ofInt 0)] _ _ _
      refine g_if_eq 8 25 (gd rfl) rfl rfl (fun c8x5 => ?_) (fun c8x5 => ?_)
      · skip
        refine g_iconst 0 26 (gd rfl) rfl rfl ?_
        refine g_ireturn (gd rfl) rfl (nb01 (in_w 0 1 (in_c 0 rfl) rfl)) (hp8 _ _ ?_)
        show GG _ _ _ _ _ _ _ _ [.int (Int32.ofInt 0)] _ _ _
        refine g_thr (E := am_IA) (y := yX11_allow) 14 (gd rfl) rfl rfl (Or.inl ⟨rfl, rfl, rfl⟩) (by first | exact dq1 hd rfl | exact dq0 hd rfl | exact dq2 hd rfl | exact dq3 hd rfl | omega) (Nat.le_of_ble_eq_true rfl) (Nat.le_of_ble_eq_true rfl) (Nat.le_of_ble_eq_true rfl) (fun c11 => ?_) (fun c11 => ?_)
        · skip
          exact zn_ne c11 (in_c 0 rfl) rfl
        · skip
          exact (hX _ _ ⟨rfl, s, hI, fr_rf, rfl⟩)
      · skip
        exact zn_ne c8x5 (in_c 0 rfl) rfl
    · skip
      have i8x2x1 := z_ge 0 2147483647 c8x2x1 (i_rng x1) rfl
      refine g_iload_n 5 (gd rfl) rfl rfl ?_
      refine g_aload_n 6 (gd rfl) rfl rfl ?_
      refine g_getI 9 (gd rfl) rfl rfl rfl (fun z8x2x6 e8x2x6 => ?_)
      have q8x2x6 : u_2_1 = z8x2x6 := (e_2_1).trans e8x2x6.symm
      subst q8x2x6
      refine g_cmp_ge 12 16 (gd rfl) rfl rfl (fun c8x2x9 => ?_) (fun c8x2x9 => ?_)
      · skip
        refine g_iconst 0 17 (gd rfl) rfl rfl ?_
        refine g_ireturn (gd rfl) rfl (nb01 (in_w 0 1 (in_c 0 rfl) rfl)) (hp8x2 _ _ ?_)
        show GG _ _ _ _ _ _ _ _ [.int (Int32.ofInt 0)] _ _ _
        refine g_if_eq 8 25 (gd rfl) rfl rfl (fun c8x5 => ?_) (fun c8x5 => ?_)
        · skip
          refine g_iconst 0 26 (gd rfl) rfl rfl ?_
          refine g_ireturn (gd rfl) rfl (nb01 (in_w 0 1 (in_c 0 rfl) rfl)) (hp8 _ _ ?_)
          show GG _ _ _ _ _ _ _ _ [.int (Int32.ofInt 0)] _ _ _
          refine g_thr (E := am_IA) (y := yX11_allow) 14 (gd rfl) rfl rfl (Or.inl ⟨rfl, rfl, rfl⟩) (by first | exact dq1 hd rfl | exact dq0 hd rfl | exact dq2 hd rfl | exact dq3 hd rfl | omega) (Nat.le_of_ble_eq_true rfl) (Nat.le_of_ble_eq_true rfl) (Nat.le_of_ble_eq_true rfl) (fun c11 => ?_) (fun c11 => ?_)
          · skip
            exact zn_ne c11 (in_c 0 rfl) rfl
          · skip
            exact (hX _ _ ⟨rfl, s, hI, fr_rf, rfl⟩)
        · skip
          exact zn_ne c8x5 (in_c 0 rfl) rfl
      · skip
        have i8x2x9 := r_lt1 0 31 c8x2x9 i8x2x1 ro_2_1 rfl
        have i8x2x9a := r_lt2 1 32 c8x2x9 i8x2x1 ro_2_1 rfl
        refine g_iconst 1 13 (gd rfl) rfl rfl ?_
        refine g_goto 17 (gd rfl) rfl ?_
        refine g_ireturn (gd rfl) rfl (nb01 (in_w 0 1 (in_c 1 rfl) rfl)) (hp8x2 _ _ ?_)
        show GG _ _ _ _ _ _ _ _ [.int (Int32.ofInt 1)] _ _ _
        refine g_if_eq 8 25 (gd rfl) rfl rfl (fun c8x5 => ?_) (fun c8x5 => ?_)
        · skip
          exact zn_eq c8x5 (in_c 1 rfl) rfl
        · skip
          refine g_aload_n 9 (gd rfl) rfl rfl ?_
          refine g_iload_n 10 (gd rfl) rfl rfl ?_
          refine g_callv (X := _) (As := [.int x2]) (r := []) (b := A 2) (q := 2) 13 (gd rfl) rfl rfl rfl rfl rfl (ww_o rfl) (Nat.le_of_ble_eq_true rfl) (mc := 0) (ms := 0) (Nat.zero_le _) (Nat.zero_le _) (P := fun v u => _) ?_ (fun e u h => h) (fun v u h => h)
          intro po8x10 xx8x10 hp8x10 hx8x10
          refine g_enter2 (k := 94) (N := 300) (by first | exact dq1 hd rfl | exact dq0 hd rfl | exact dq2 hd rfl | exact dq3 hd rfl | omega) rfl (Nat.le_of_ble_eq_true rfl) ?_
          refine g_iload_n 1 (gd rfl) rfl rfl ?_
          refine g_if_lt 4 16 (gd rfl) rfl rfl (fun c8x10x1 => ?_) (fun c8x10x1 => ?_)
          · skip
            have i8x10x1 := z_lt (-2147483648) (-1) c8x10x1 (i_rng x2) rfl
            refine g_iconst 0 17 (gd rfl) rfl rfl ?_
            refine g_ireturn (gd rfl) rfl (nb01 (in_w 0 1 (in_c 0 rfl) rfl)) (hp8x10 _ _ ?_)
            show GG _ _ _ _ _ _ _ _ [.int (Int32.ofInt 0)] _ _ _
            refine g_if_eq 16 25 (gd rfl) rfl rfl (fun c8x13 => ?_) (fun c8x13 => ?_)
            · skip
              refine g_iconst 0 26 (gd rfl) rfl rfl ?_
              refine g_ireturn (gd rfl) rfl (nb01 (in_w 0 1 (in_c 0 rfl) rfl)) (hp8 _ _ ?_)
              show GG _ _ _ _ _ _ _ _ [.int (Int32.ofInt 0)] _ _ _
              refine g_thr (E := am_IA) (y := yX11_allow) 14 (gd rfl) rfl rfl (Or.inl ⟨rfl, rfl, rfl⟩) (by first | exact dq1 hd rfl | exact dq0 hd rfl | exact dq2 hd rfl | exact dq3 hd rfl | omega) (Nat.le_of_ble_eq_true rfl) (Nat.le_of_ble_eq_true rfl) (Nat.le_of_ble_eq_true rfl) (fun c11 => ?_) (fun c11 => ?_)
              · skip
                exact zn_ne c11 (in_c 0 rfl) rfl
              · skip
                exact (hX _ _ ⟨rfl, s, hI, fr_rf, rfl⟩)
            · skip
              exact zn_ne c8x13 (in_c 0 rfl) rfl
          · skip
            have i8x10x1 := z_ge 0 2147483647 c8x10x1 (i_rng x2) rfl
            refine g_iload_n 5 (gd rfl) rfl rfl ?_
            refine g_aload_n 6 (gd rfl) rfl rfl ?_
            refine g_getI 9 (gd rfl) rfl rfl rfl (fun z8x10x6 e8x10x6 => ?_)
            have q8x10x6 : u_2_1 = z8x10x6 := (e_2_1).trans e8x10x6.symm
            subst q8x10x6
            refine g_cmp_ge 12 16 (gd rfl) rfl rfl (fun c8x10x9 => ?_) (fun c8x10x9 => ?_)
            · skip
              have i8x10x9 := r_le2 1 2147483647 c8x10x9 i8x2x9a i8x10x1 rfl
              refine g_iconst 0 17 (gd rfl) rfl rfl ?_
              refine g_ireturn (gd rfl) rfl (nb01 (in_w 0 1 (in_c 0 rfl) rfl)) (hp8x10 _ _ ?_)
              show GG _ _ _ _ _ _ _ _ [.int (Int32.ofInt 0)] _ _ _
              refine g_if_eq 16 25 (gd rfl) rfl rfl (fun c8x13 => ?_) (fun c8x13 => ?_)
              · skip
                refine g_iconst 0 26 (gd rfl) rfl rfl ?_
                refine g_ireturn (gd rfl) rfl (nb01 (in_w 0 1 (in_c 0 rfl) rfl)) (hp8 _ _ ?_)
                show GG _ _ _ _ _ _ _ _ [.int (Int32.ofInt 0)] _ _ _
                refine g_thr (E := am_IA) (y := yX11_allow) 14 (gd rfl) rfl rfl (Or.inl ⟨rfl, rfl, rfl⟩) (by first | exact dq1 hd rfl | exact dq0 hd rfl | exact dq2 hd rfl | exact dq3 hd rfl | omega) (Nat.le_of_ble_eq_true rfl) (Nat.le_of_ble_eq_true rfl) (Nat.le_of_ble_eq_true rfl) (fun c11 => ?_) (fun c11 => ?_)
                · skip
                  exact zn_ne c11 (in_c 0 rfl) rfl
                · skip
                  exact (hX _ _ ⟨rfl, s, hI, fr_rf, rfl⟩)
              · skip
                exact zn_ne c8x13 (in_c 0 rfl) rfl
            · skip
              have i8x10x9 := r_lt1 0 31 c8x10x9 i8x10x1 i8x2x9a rfl
              refine g_iconst 1 13 (gd rfl) rfl rfl ?_
              refine g_goto 17 (gd rfl) rfl ?_
              refine g_ireturn (gd rfl) rfl (nb01 (in_w 0 1 (in_c 1 rfl) rfl)) (hp8x10 _ _ ?_)
              show GG _ _ _ _ _ _ _ _ [.int (Int32.ofInt 1)] _ _ _
              refine g_if_eq 16 25 (gd rfl) rfl rfl (fun c8x13 => ?_) (fun c8x13 => ?_)
              · skip
                exact zn_eq c8x13 (in_c 1 rfl) rfl
              · skip
                refine g_iload_n 17 (gd rfl) rfl rfl ?_
                refine g_iload_n 18 (gd rfl) rfl rfl ?_
                refine g_cmp_eq 21 25 (gd rfl) rfl rfl (fun c8x18 => ?_) (fun c8x18 => ?_)
                · skip
                  refine g_iconst 0 26 (gd rfl) rfl rfl ?_
                  refine g_ireturn (gd rfl) rfl (nb01 (in_w 0 1 (in_c 0 rfl) rfl)) (hp8 _ _ ?_)
                  show GG _ _ _ _ _ _ _ _ [.int (Int32.ofInt 0)] _ _ _
                  refine g_thr (E := am_IA) (y := yX11_allow) 14 (gd rfl) rfl rfl (Or.inl ⟨rfl, rfl, rfl⟩) (by first | exact dq1 hd rfl | exact dq0 hd rfl | exact dq2 hd rfl | exact dq3 hd rfl | omega) (Nat.le_of_ble_eq_true rfl) (Nat.le_of_ble_eq_true rfl) (Nat.le_of_ble_eq_true rfl) (fun c11 => ?_) (fun c11 => ?_)
                  · skip
                    exact zn_ne c11 (in_c 0 rfl) rfl
                  · skip
                    exact (hX _ _ ⟨rfl, s, hI, fr_rf, rfl⟩)
                · skip
                  refine g_iconst 1 22 (gd rfl) rfl rfl ?_
                  refine g_goto 26 (gd rfl) rfl ?_
                  refine g_ireturn (gd rfl) rfl (nb01 (in_w 0 1 (in_c 1 rfl) rfl)) (hp8 _ _ ?_)
                  show GG _ _ _ _ _ _ _ _ [.int (Int32.ofInt 1)] _ _ _
                  refine g_thr (E := am_IA) (y := yX11_allow) 14 (gd rfl) rfl rfl (Or.inl ⟨rfl, rfl, rfl⟩) (by first | exact dq1 hd rfl | exact dq0 hd rfl | exact dq2 hd rfl | exact dq3 hd rfl | omega) (Nat.le_of_ble_eq_true rfl) (Nat.le_of_ble_eq_true rfl) (Nat.le_of_ble_eq_true rfl) (fun c11 => ?_) (fun c11 => ?_)
                  · skip
                    refine g_aload_n 15 (gd rfl) rfl rfl ?_
                    refine g_getA (q2 := 65) 18 (gd rfl) rfl rfl rfl rfl ?_
                    refine g_aload_n 19 (gd rfl) rfl rfl ?_
                    refine g_iload_n 20 (gd rfl) rfl rfl ?_
                    refine g_iload_n 21 (gd rfl) rfl rfl ?_
                    refine g_callv (X := _) (As := [.ref (A 2), .int x1, .int x2]) (r := []) (b := A 65) (q := 65) 24 (gd rfl) rfl rfl rfl rfl rfl (ww_o rfl) (Nat.le_of_ble_eq_true rfl) (Nat.zero_le _) (Nat.zero_le _) (k_75_65_2 (by first | exact dq1 hd rfl | exact dq0 hd rfl | exact dq2 hd rfl | exact dq3 hd rfl | omega) hI (in_w 0 31 i8x2x9 rfl) (in_w 0 31 i8x10x9 rfl)) (fun e u h => h) (fun v u h => ?_)
                    obtain ⟨s21, hI21, hF21, z21, rfl, rfl⟩ := h
                    show GG _ _ _ _ _ _ _ _ [.long z21] _ _ _
                    exact g_lreturn (gd rfl) rfl (hP _ _ ⟨s21, hI21, (fr_tr rfl fr_rf hF21), z21, rfl, rfl⟩)
                  · skip
                    exact zn_eq c11 (in_c 1 rfl) rfl

def fm_242_0 : FM := ([66, 67, 68], [], [(65, 0), (65, 1), (65, 2), (65, 4)], [(65, 3)])
/-- GraphHouse.side -/
theorem k_242_0 {Z : AmZ} {A : Nat → Nat} {s : GS} {ex : va_W} {d : Nat} {x1 : Int32} {x2 : Int32} {x3 : Int32} (hd : 7 ≤ d) (hI : Inv s)  : GC Z d 242 [.ref (A 0), .int x1, .int x2, .int x3] (WW Z A s ++ ex) 3 18 (fun v u => ∃ t : GS, Inv t ∧ Fr fm_242_0 s t ∧ ∃ z : Int32, v = some (.int z) ∧ u = WW Z A t ++ ex ∧ In z 0 1) (gE1 Z A ex fm_242_0 s) := by
  intro post xp hP hX
  obtain ⟨u_0_2, e_0_2⟩ : ∃ w, w = s.2.2.1 0 2 := ⟨_, rfl⟩
  have ro_0_2 := inv_F hI (-1) 4000 rfl e_0_2
  obtain ⟨u_2_1, e_2_1⟩ : ∃ w, w = s.2.2.1 2 1 := ⟨_, rfl⟩
  have ro_2_1 := inv_F hI 0 32 rfl e_2_1
  obtain ⟨u_32_1, e_32_1⟩ : ∃ w, w = s.2.2.1 32 1 := ⟨_, rfl⟩
  have ro_32_1 := inv_F hI 0 32 rfl e_32_1
  have ct29 : ∀ (sc29 : GS) , Inv sc29 → Fr fm_242_0 s sc29 → GG Z (d - 1) 242 post (gx xp) (901) 29 (fun j => xlook j [(0, .ref (A 0)), (1, .int x1), (2, .int x2), (3, .int x3)]) [] (WW Z A sc29 ++ ex) 3 18 := by
    intro sc29  hIc29 hFc29 
    refine g_iconst 0 30 (gd rfl) rfl rfl ?_
    refine g_thr (E := am_IA) (y := yX11_allow) 33 (gd rfl) rfl rfl (Or.inl ⟨rfl, rfl, rfl⟩) (by first | exact dq1 hd rfl | exact dq0 hd rfl | exact dq2 hd rfl | exact dq3 hd rfl | omega) (Nat.le_of_ble_eq_true rfl) (Nat.le_of_ble_eq_true rfl) (Nat.le_of_ble_eq_true rfl) (fun c30 => ?_) (fun c30 => ?_)
    · skip
      exact zn_ne c30 (in_c 0 rfl) rfl
    · skip
      exact (hX _ _ ⟨rfl, sc29, hIc29, hFc29, rfl⟩)
  refine g_enter2 (k := 242) (N := 1801) (by first | exact dq1 hd rfl | exact dq0 hd rfl | exact dq2 hd rfl | exact dq3 hd rfl | omega) rfl (Nat.le_of_ble_eq_true rfl) ?_
  refine g_aload_n 1 (gd rfl) rfl rfl ?_
  refine g_callv (X := _) (As := []) (r := []) (b := A 0) (q := 0) 4 (gd rfl) rfl rfl rfl rfl rfl (ww_o rfl) (Nat.le_of_ble_eq_true rfl) (mc := 0) (ms := 0) (Nat.zero_le _) (Nat.zero_le _) (P := fun v u => _) ?_ (fun e u h => h) (fun v u h => h)
  intro po1 xx1 hp1 hx1
  refine g_enter2 (k := 259) (N := 300) (by first | exact dq1 hd rfl | exact dq0 hd rfl | exact dq2 hd rfl | exact dq3 hd rfl | omega) rfl (Nat.le_of_ble_eq_true rfl) ?_
  refine g_aload_n 1 (gd rfl) rfl rfl ?_
  refine g_getI 4 (gd rfl) rfl rfl rfl (fun z1x1 e1x1 => ?_)
  have q1x1 : u_0_2 = z1x1 := (e_0_2).trans e1x1.symm
  subst q1x1
  refine g_iconst (-1) 5 (gd rfl) rfl rfl ?_
  refine g_cmp_ne 8 18 (gd rfl) rfl rfl (fun c1x5 => ?_) (fun c1x5 => ?_)
  · skip
    have i1x5 := r_ne1 0 4000 c1x5 ro_0_2 (in_c (-1) rfl) rfl
    refine g_aload_n 19 (gd rfl) rfl rfl ?_
    refine g_getA (q2 := 32) 22 (gd rfl) rfl rfl rfl rfl ?_
    refine g_areturn (gd rfl) rfl (hp1 _ _ ?_)
    show GG _ _ _ _ _ _ _ _ [.ref (A 32)] _ _ _
    refine g_astore 6 (gd rfl) rfl (Nat.le_of_ble_eq_true rfl) ?_
    refine g_aload 8 (gd rfl) rfl rfl ?_
    refine g_iload_n 9 (gd rfl) rfl rfl ?_
    refine g_iload_n 10 (gd rfl) rfl rfl ?_
    refine g_callv (X := _) (As := [.int x1, .int x2]) (r := []) (b := A 32) (q := 32) 13 (gd rfl) rfl rfl rfl rfl rfl (ww_o rfl) (Nat.le_of_ble_eq_true rfl) (mc := 0) (ms := 0) (Nat.zero_le _) (Nat.zero_le _) (P := fun v u => _) ?_ (fun e u h => h) (fun v u h => h)
    intro po10 xx10 hp10 hx10
    refine g_enter2 (k := 95) (N := 300) (by first | exact dq1 hd rfl | exact dq0 hd rfl | exact dq2 hd rfl | exact dq3 hd rfl | omega) rfl (Nat.le_of_ble_eq_true rfl) ?_
    refine g_aload_n 1 (gd rfl) rfl rfl ?_
    refine g_iload_n 2 (gd rfl) rfl rfl ?_
    refine g_callv (X := _) (As := [.int x1]) (r := []) (b := A 32) (q := 32) 5 (gd rfl) rfl rfl rfl rfl rfl (ww_o rfl) (Nat.le_of_ble_eq_true rfl) (mc := 0) (ms := 0) (Nat.zero_le _) (Nat.zero_le _) (P := fun v u => _) ?_ (fun e u h => h) (fun v u h => h)
    intro po10x2 xx10x2 hp10x2 hx10x2
    refine g_enter2 (k := 94) (N := 300) (by first | exact dq1 hd rfl | exact dq0 hd rfl | exact dq2 hd rfl | exact dq3 hd rfl | omega) rfl (Nat.le_of_ble_eq_true rfl) ?_
    refine g_iload_n 1 (gd rfl) rfl rfl ?_
    refine g_if_lt 4 16 (gd rfl) rfl rfl (fun c10x2x1 => ?_) (fun c10x2x1 => ?_)
    · skip
      have i10x2x1 := z_lt (-2147483648) (-1) c10x2x1 (i_rng x1) rfl
      refine g_iconst 0 17 (gd rfl) rfl rfl ?_
      refine g_ireturn (gd rfl) rfl (nb01 (in_w 0 1 (in_c 0 rfl) rfl)) (hp10x2 _ _ ?_)
      show GG _ _ _ _ _ _ _ _ [.int (Int32.ofInt 0)] _ _ _
      refine g_if_eq 8 25 (gd rfl) rfl rfl (fun c10x5 => ?_) (fun c10x5 => ?_)
      · skip
        refine g_iconst 0 26 (gd rfl) rfl rfl ?_
        refine g_ireturn (gd rfl) rfl (nb01 (in_w 0 1 (in_c 0 rfl) rfl)) (hp10 _ _ ?_)
        show GG _ _ _ _ _ _ _ _ [.int (Int32.ofInt 0)] _ _ _
        refine g_if_eq 16 29 (gd rfl) rfl rfl (fun c13 => ?_) (fun c13 => ?_)
        · skip
          exact gg_w (by first | exact Nat.le_of_ble_eq_true rfl | omega) (gg_f (gf_cons rfl (gf_cons rfl (gf_cons rfl (gf_cons rfl gf_nil)))) (ct29 s  hI fr_rf ))
        · skip
          exact zn_ne c13 (in_c 0 rfl) rfl
      · skip
        exact zn_ne c10x5 (in_c 0 rfl) rfl
    · skip
      have i10x2x1 := z_ge 0 2147483647 c10x2x1 (i_rng x1) rfl
      refine g_iload_n 5 (gd rfl) rfl rfl ?_
      refine g_aload_n 6 (gd rfl) rfl rfl ?_
      refine g_getI 9 (gd rfl) rfl rfl rfl (fun z10x2x6 e10x2x6 => ?_)
      have q10x2x6 : u_32_1 = z10x2x6 := (e_32_1).trans e10x2x6.symm
      subst q10x2x6
      refine g_cmp_ge 12 16 (gd rfl) rfl rfl (fun c10x2x9 => ?_) (fun c10x2x9 => ?_)
      · skip
        refine g_iconst 0 17 (gd rfl) rfl rfl ?_
        refine g_ireturn (gd rfl) rfl (nb01 (in_w 0 1 (in_c 0 rfl) rfl)) (hp10x2 _ _ ?_)
        show GG _ _ _ _ _ _ _ _ [.int (Int32.ofInt 0)] _ _ _
        refine g_if_eq 8 25 (gd rfl) rfl rfl (fun c10x5 => ?_) (fun c10x5 => ?_)
        · skip
          refine g_iconst 0 26 (gd rfl) rfl rfl ?_
          refine g_ireturn (gd rfl) rfl (nb01 (in_w 0 1 (in_c 0 rfl) rfl)) (hp10 _ _ ?_)
          show GG _ _ _ _ _ _ _ _ [.int (Int32.ofInt 0)] _ _ _
          refine g_if_eq 16 29 (gd rfl) rfl rfl (fun c13 => ?_) (fun c13 => ?_)
          · skip
            exact gg_w (by first | exact Nat.le_of_ble_eq_true rfl | omega) (gg_f (gf_cons rfl (gf_cons rfl (gf_cons rfl (gf_cons rfl gf_nil)))) (ct29 s  hI fr_rf ))
          · skip
            exact zn_ne c13 (in_c 0 rfl) rfl
        · skip
          exact zn_ne c10x5 (in_c 0 rfl) rfl
      · skip
        have i10x2x9 := r_lt1 0 31 c10x2x9 i10x2x1 ro_32_1 rfl
        have i10x2x9a := r_lt2 1 32 c10x2x9 i10x2x1 ro_32_1 rfl
        refine g_iconst 1 13 (gd rfl) rfl rfl ?_
        refine g_goto 17 (gd rfl) rfl ?_
        refine g_ireturn (gd rfl) rfl (nb01 (in_w 0 1 (in_c 1 rfl) rfl)) (hp10x2 _ _ ?_)
        show GG _ _ _ _ _ _ _ _ [.int (Int32.ofInt 1)] _ _ _
        refine g_if_eq 8 25 (gd rfl) rfl rfl (fun c10x5 => ?_) (fun c10x5 => ?_)
        · skip
          exact zn_eq c10x5 (in_c 1 rfl) rfl
        · skip
          refine g_aload_n 9 (gd rfl) rfl rfl ?_
          refine g_iload_n 10 (gd rfl) rfl rfl ?_
          refine g_callv (X := _) (As := [.int x2]) (r := []) (b := A 32) (q := 32) 13 (gd rfl) rfl rfl rfl rfl rfl (ww_o rfl) (Nat.le_of_ble_eq_true rfl) (mc := 0) (ms := 0) (Nat.zero_le _) (Nat.zero_le _) (P := fun v u => _) ?_ (fun e u h => h) (fun v u h => h)
          intro po10x10 xx10x10 hp10x10 hx10x10
          refine g_enter2 (k := 94) (N := 300) (by first | exact dq1 hd rfl | exact dq0 hd rfl | exact dq2 hd rfl | exact dq3 hd rfl | omega) rfl (Nat.le_of_ble_eq_true rfl) ?_
          refine g_iload_n 1 (gd rfl) rfl rfl ?_
          refine g_if_lt 4 16 (gd rfl) rfl rfl (fun c10x10x1 => ?_) (fun c10x10x1 => ?_)
          · skip
            have i10x10x1 := z_lt (-2147483648) (-1) c10x10x1 (i_rng x2) rfl
            refine g_iconst 0 17 (gd rfl) rfl rfl ?_
            refine g_ireturn (gd rfl) rfl (nb01 (in_w 0 1 (in_c 0 rfl) rfl)) (hp10x10 _ _ ?_)
            show GG _ _ _ _ _ _ _ _ [.int (Int32.ofInt 0)] _ _ _
            refine g_if_eq 16 25 (gd rfl) rfl rfl (fun c10x13 => ?_) (fun c10x13 => ?_)
            · skip
              refine g_iconst 0 26 (gd rfl) rfl rfl ?_
              refine g_ireturn (gd rfl) rfl (nb01 (in_w 0 1 (in_c 0 rfl) rfl)) (hp10 _ _ ?_)
              show GG _ _ _ _ _ _ _ _ [.int (Int32.ofInt 0)] _ _ _
              refine g_if_eq 16 29 (gd rfl) rfl rfl (fun c13 => ?_) (fun c13 => ?_)
              · skip
                exact gg_w (by first | exact Nat.le_of_ble_eq_true rfl | omega) (gg_f (gf_cons rfl (gf_cons rfl (gf_cons rfl (gf_cons rfl gf_nil)))) (ct29 s  hI fr_rf ))
              · skip
                exact zn_ne c13 (in_c 0 rfl) rfl
            · skip
              exact zn_ne c10x13 (in_c 0 rfl) rfl
          · skip
            have i10x10x1 := z_ge 0 2147483647 c10x10x1 (i_rng x2) rfl
            refine g_iload_n 5 (gd rfl) rfl rfl ?_
            refine g_aload_n 6 (gd rfl) rfl rfl ?_
            refine g_getI 9 (gd rfl) rfl rfl rfl (fun z10x10x6 e10x10x6 => ?_)
            have q10x10x6 : u_32_1 = z10x10x6 := (e_32_1).trans e10x10x6.symm
            subst q10x10x6
            refine g_cmp_ge 12 16 (gd rfl) rfl rfl (fun c10x10x9 => ?_) (fun c10x10x9 => ?_)
            · skip
              have i10x10x9 := r_le2 1 2147483647 c10x10x9 i10x2x9a i10x10x1 rfl
              refine g_iconst 0 17 (gd rfl) rfl rfl ?_
              refine g_ireturn (gd rfl) rfl (nb01 (in_w 0 1 (in_c 0 rfl) rfl)) (hp10x10 _ _ ?_)
              show GG _ _ _ _ _ _ _ _ [.int (Int32.ofInt 0)] _ _ _
              refine g_if_eq 16 25 (gd rfl) rfl rfl (fun c10x13 => ?_) (fun c10x13 => ?_)
              · skip
                refine g_iconst 0 26 (gd rfl) rfl rfl ?_
                refine g_ireturn (gd rfl) rfl (nb01 (in_w 0 1 (in_c 0 rfl) rfl)) (hp10 _ _ ?_)
                show GG _ _ _ _ _ _ _ _ [.int (Int32.ofInt 0)] _ _ _
                refine g_if_eq 16 29 (gd rfl) rfl rfl (fun c13 => ?_) (fun c13 => ?_)
                · skip
                  exact gg_w (by first | exact Nat.le_of_ble_eq_true rfl | omega) (gg_f (gf_cons rfl (gf_cons rfl (gf_cons rfl (gf_cons rfl gf_nil)))) (ct29 s  hI fr_rf ))
                · skip
                  exact zn_ne c13 (in_c 0 rfl) rfl
              · skip
                exact zn_ne c10x13 (in_c 0 rfl) rfl
            · skip
              have i10x10x9 := r_lt1 0 31 c10x10x9 i10x10x1 i10x2x9a rfl
              refine g_iconst 1 13 (gd rfl) rfl rfl ?_
              refine g_goto 17 (gd rfl) rfl ?_
              refine g_ireturn (gd rfl) rfl (nb01 (in_w 0 1 (in_c 1 rfl) rfl)) (hp10x10 _ _ ?_)
              show GG _ _ _ _ _ _ _ _ [.int (Int32.ofInt 1)] _ _ _
              refine g_if_eq 16 25 (gd rfl) rfl rfl (fun c10x13 => ?_) (fun c10x13 => ?_)
              · skip
                exact zn_eq c10x13 (in_c 1 rfl) rfl
              · skip
                refine g_iload_n 17 (gd rfl) rfl rfl ?_
                refine g_iload_n 18 (gd rfl) rfl rfl ?_
                refine g_cmp_eq 21 25 (gd rfl) rfl rfl (fun c10x18 => ?_) (fun c10x18 => ?_)
                · skip
                  refine g_iconst 0 26 (gd rfl) rfl rfl ?_
                  refine g_ireturn (gd rfl) rfl (nb01 (in_w 0 1 (in_c 0 rfl) rfl)) (hp10 _ _ ?_)
                  show GG _ _ _ _ _ _ _ _ [.int (Int32.ofInt 0)] _ _ _
                  refine g_if_eq 16 29 (gd rfl) rfl rfl (fun c13 => ?_) (fun c13 => ?_)
                  · skip
                    exact gg_w (by first | exact Nat.le_of_ble_eq_true rfl | omega) (gg_f (gf_cons rfl (gf_cons rfl (gf_cons rfl (gf_cons rfl gf_nil)))) (ct29 s  hI fr_rf ))
                  · skip
                    exact zn_ne c13 (in_c 0 rfl) rfl
                · skip
                  refine g_iconst 1 22 (gd rfl) rfl rfl ?_
                  refine g_goto 26 (gd rfl) rfl ?_
                  refine g_ireturn (gd rfl) rfl (nb01 (in_w 0 1 (in_c 1 rfl) rfl)) (hp10 _ _ ?_)
                  show GG _ _ _ _ _ _ _ _ [.int (Int32.ofInt 1)] _ _ _
                  refine g_if_eq 16 29 (gd rfl) rfl rfl (fun c13 => ?_) (fun c13 => ?_)
                  · skip
                    exact zn_eq c13 (in_c 1 rfl) rfl
                  · skip
                    refine g_aload 18 (gd rfl) rfl rfl ?_
                    refine g_iload_n 19 (gd rfl) rfl rfl ?_
                    refine g_callv (X := _) (As := [.int x3]) (r := []) (b := A 32) (q := 32) 22 (gd rfl) rfl rfl rfl rfl rfl (ww_o rfl) (Nat.le_of_ble_eq_true rfl) (mc := 0) (ms := 0) (Nat.zero_le _) (Nat.zero_le _) (P := fun v u => _) ?_ (fun e u h => h) (fun v u h => h)
                    intro po19 xx19 hp19 hx19
                    refine g_enter2 (k := 94) (N := 300) (by first | exact dq1 hd rfl | exact dq0 hd rfl | exact dq2 hd rfl | exact dq3 hd rfl | omega) rfl (Nat.le_of_ble_eq_true rfl) ?_
                    refine g_iload_n 1 (gd rfl) rfl rfl ?_
                    refine g_if_lt 4 16 (gd rfl) rfl rfl (fun c19x1 => ?_) (fun c19x1 => ?_)
                    · skip
                      have i19x1 := z_lt (-2147483648) (-1) c19x1 (i_rng x3) rfl
                      refine g_iconst 0 17 (gd rfl) rfl rfl ?_
                      refine g_ireturn (gd rfl) rfl (nb01 (in_w 0 1 (in_c 0 rfl) rfl)) (hp19 _ _ ?_)
                      show GG _ _ _ _ _ _ _ _ [.int (Int32.ofInt 0)] _ _ _
                      refine g_if_eq 25 29 (gd rfl) rfl rfl (fun c22 => ?_) (fun c22 => ?_)
                      · skip
                        exact gg_w (by first | exact Nat.le_of_ble_eq_true rfl | omega) (gg_f (gf_cons rfl (gf_cons rfl (gf_cons rfl (gf_cons rfl gf_nil)))) (ct29 s  hI fr_rf ))
                      · skip
                        exact zn_ne c22 (in_c 0 rfl) rfl
                    · skip
                      have i19x1 := z_ge 0 2147483647 c19x1 (i_rng x3) rfl
                      refine g_iload_n 5 (gd rfl) rfl rfl ?_
                      refine g_aload_n 6 (gd rfl) rfl rfl ?_
                      refine g_getI 9 (gd rfl) rfl rfl rfl (fun z19x6 e19x6 => ?_)
                      have q19x6 : u_32_1 = z19x6 := (e_32_1).trans e19x6.symm
                      subst q19x6
                      refine g_cmp_ge 12 16 (gd rfl) rfl rfl (fun c19x9 => ?_) (fun c19x9 => ?_)
                      · skip
                        have i19x9 := r_le2 1 2147483647 c19x9 i10x2x9a i19x1 rfl
                        refine g_iconst 0 17 (gd rfl) rfl rfl ?_
                        refine g_ireturn (gd rfl) rfl (nb01 (in_w 0 1 (in_c 0 rfl) rfl)) (hp19 _ _ ?_)
                        show GG _ _ _ _ _ _ _ _ [.int (Int32.ofInt 0)] _ _ _
                        refine g_if_eq 25 29 (gd rfl) rfl rfl (fun c22 => ?_) (fun c22 => ?_)
                        · skip
                          exact gg_w (by first | exact Nat.le_of_ble_eq_true rfl | omega) (gg_f (gf_cons rfl (gf_cons rfl (gf_cons rfl (gf_cons rfl gf_nil)))) (ct29 s  hI fr_rf ))
                        · skip
                          exact zn_ne c22 (in_c 0 rfl) rfl
                      · skip
                        have i19x9 := r_lt1 0 31 c19x9 i19x1 i10x2x9a rfl
                        refine g_iconst 1 13 (gd rfl) rfl rfl ?_
                        refine g_goto 17 (gd rfl) rfl ?_
                        refine g_ireturn (gd rfl) rfl (nb01 (in_w 0 1 (in_c 1 rfl) rfl)) (hp19 _ _ ?_)
                        show GG _ _ _ _ _ _ _ _ [.int (Int32.ofInt 1)] _ _ _
                        refine g_if_eq 25 29 (gd rfl) rfl rfl (fun c22 => ?_) (fun c22 => ?_)
                        · skip
                          exact zn_eq c22 (in_c 1 rfl) rfl
                        · skip
                          refine g_iconst 1 26 (gd rfl) rfl rfl ?_
                          refine g_goto 30 (gd rfl) rfl ?_
                          refine g_thr (E := am_IA) (y := yX11_allow) 33 (gd rfl) rfl rfl (Or.inl ⟨rfl, rfl, rfl⟩) (by first | exact dq1 hd rfl | exact dq0 hd rfl | exact dq2 hd rfl | exact dq3 hd rfl | omega) (Nat.le_of_ble_eq_true rfl) (Nat.le_of_ble_eq_true rfl) (Nat.le_of_ble_eq_true rfl) (fun c30 => ?_) (fun c30 => ?_)
                          · skip
                            refine g_aload_n 34 (gd rfl) rfl rfl ?_
                            refine g_getA (q2 := 65) 37 (gd rfl) rfl rfl rfl rfl ?_
                            refine g_aload 39 (gd rfl) rfl rfl ?_
                            refine g_iload_n 40 (gd rfl) rfl rfl ?_
                            refine g_iload_n 41 (gd rfl) rfl rfl ?_
                            refine g_callv (X := _) (As := [.ref (A 32), .int x1, .int x2]) (r := []) (b := A 65) (q := 65) 44 (gd rfl) rfl rfl rfl rfl rfl (ww_o rfl) (Nat.le_of_ble_eq_true rfl) (Nat.zero_le _) (Nat.zero_le _) (k_75_65_32 (by first | exact dq1 hd rfl | exact dq0 hd rfl | exact dq2 hd rfl | exact dq3 hd rfl | omega) hI (in_w 0 31 i10x2x9 rfl) (in_w 0 31 i10x10x9 rfl)) (fun e u h => h) (fun v u h => ?_)
                            obtain ⟨s41, hI41, hF41, z41, rfl, rfl⟩ := h
                            show GG _ _ _ _ _ _ _ _ [.long z41] _ _ _
                            refine g_pop2 45 (gd rfl) rfl rfl ?_
                            refine g_aload_n 46 (gd rfl) rfl rfl ?_
                            refine g_getA (q2 := 65) 49 (gd rfl) rfl rfl rfl rfl ?_
                            refine g_getI 52 (gd rfl) rfl rfl rfl (fun z49 e49 => ?_)
                            refine g_iload_n 53 (gd rfl) rfl rfl ?_
                            refine g_ishr 54 (gd rfl) rfl (fun z53 e53 => ?_)
                            refine g_iconst 1 55 (gd rfl) rfl rfl ?_
                            refine g_iand 56 (gd rfl) rfl (fun z55 e55 => ?_)
                            have i55 := in_and2 e55 (in_c 1 rfl) rfl
                            refine g_if_eq 59 63 (gd rfl) rfl rfl (fun c56 => ?_) (fun c56 => ?_)
                            · skip
                              have i56 := z_eq 0 0 c56 i55 rfl
                              refine g_iconst 0 64 (gd rfl) rfl rfl ?_
                              exact g_ireturn (gd rfl) rfl (nb01 (in_w 0 1 (in_c 0 rfl) rfl)) (hP _ _ ⟨s41, hI41, (fr_tr rfl fr_rf hF41), (Int32.ofInt 0), rfl, rfl, in_w 0 1 (in_c 0 rfl) rfl⟩)
                            · skip
                              have i56 := z_ne 1 1 c56 i55 rfl
                              refine g_iconst 1 60 (gd rfl) rfl rfl ?_
                              refine g_goto 64 (gd rfl) rfl ?_
                              exact g_ireturn (gd rfl) rfl (nb01 (in_w 0 1 (in_c 1 rfl) rfl)) (hP _ _ ⟨s41, hI41, (fr_tr rfl fr_rf hF41), (Int32.ofInt 1), rfl, rfl, in_w 0 1 (in_c 1 rfl) rfl⟩)
                          · skip
                            exact zn_eq c30 (in_c 1 rfl) rfl
  · skip
    have i1x5 := r_eq1 (-1) (-1) c1x5 ro_0_2 (in_c (-1) rfl) rfl
    refine g_aload_n 9 (gd rfl) rfl rfl ?_
    refine g_getA (q2 := 1) 12 (gd rfl) rfl rfl rfl rfl ?_
    refine g_getA (q2 := 2) 15 (gd rfl) rfl rfl rfl rfl ?_
    refine g_goto 22 (gd rfl) rfl ?_
    refine g_areturn (gd rfl) rfl (hp1 _ _ ?_)
    show GG _ _ _ _ _ _ _ _ [.ref (A 2)] _ _ _
    refine g_astore 6 (gd rfl) rfl (Nat.le_of_ble_eq_true rfl) ?_
    refine g_aload 8 (gd rfl) rfl rfl ?_
    refine g_iload_n 9 (gd rfl) rfl rfl ?_
    refine g_iload_n 10 (gd rfl) rfl rfl ?_
    refine g_callv (X := _) (As := [.int x1, .int x2]) (r := []) (b := A 2) (q := 2) 13 (gd rfl) rfl rfl rfl rfl rfl (ww_o rfl) (Nat.le_of_ble_eq_true rfl) (mc := 0) (ms := 0) (Nat.zero_le _) (Nat.zero_le _) (P := fun v u => _) ?_ (fun e u h => h) (fun v u h => h)
    intro po10 xx10 hp10 hx10
    refine g_enter2 (k := 95) (N := 300) (by first | exact dq1 hd rfl | exact dq0 hd rfl | exact dq2 hd rfl | exact dq3 hd rfl | omega) rfl (Nat.le_of_ble_eq_true rfl) ?_
    refine g_aload_n 1 (gd rfl) rfl rfl ?_
    refine g_iload_n 2 (gd rfl) rfl rfl ?_
    refine g_callv (X := _) (As := [.int x1]) (r := []) (b := A 2) (q := 2) 5 (gd rfl) rfl rfl rfl rfl rfl (ww_o rfl) (Nat.le_of_ble_eq_true rfl) (mc := 0) (ms := 0) (Nat.zero_le _) (Nat.zero_le _) (P := fun v u => _) ?_ (fun e u h => h) (fun v u h => h)
    intro po10x2 xx10x2 hp10x2 hx10x2
    refine g_enter2 (k := 94) (N := 300) (by first | exact dq1 hd rfl | exact dq0 hd rfl | exact dq2 hd rfl | exact dq3 hd rfl | omega) rfl (Nat.le_of_ble_eq_true rfl) ?_
    refine g_iload_n 1 (gd rfl) rfl rfl ?_
    refine g_if_lt 4 16 (gd rfl) rfl rfl (fun c10x2x1 => ?_) (fun c10x2x1 => ?_)
    · skip
      have i10x2x1 := z_lt (-2147483648) (-1) c10x2x1 (i_rng x1) rfl
      refine g_iconst 0 17 (gd rfl) rfl rfl ?_
      refine g_ireturn (gd rfl) rfl (nb01 (in_w 0 1 (in_c 0 rfl) rfl)) (hp10x2 _ _ ?_)
      show GG _ _ _ _ _ _ _ _ [.int (Int32.ofInt 0)] _ _ _
      refine g_if_eq 8 25 (gd rfl) rfl rfl (fun c10x5 => ?_) (fun c10x5 => ?_)
      · skip
        refine g_iconst 0 26 (gd rfl) rfl rfl ?_
        refine g_ireturn (gd rfl) rfl (nb01 (in_w 0 1 (in_c 0 rfl) rfl)) (hp10 _ _ ?_)
        show GG _ _ _ _ _ _ _ _ [.int (Int32.ofInt 0)] _ _ _
        refine g_if_eq 16 29 (gd rfl) rfl rfl (fun c13 => ?_) (fun c13 => ?_)
        · skip
          exact gg_w (by first | exact Nat.le_of_ble_eq_true rfl | omega) (gg_f (gf_cons rfl (gf_cons rfl (gf_cons rfl (gf_cons rfl gf_nil)))) (ct29 s  hI fr_rf ))
        · skip
          exact zn_ne c13 (in_c 0 rfl) rfl
      · skip
        exact zn_ne c10x5 (in_c 0 rfl) rfl
    · skip
      have i10x2x1 := z_ge 0 2147483647 c10x2x1 (i_rng x1) rfl
      refine g_iload_n 5 (gd rfl) rfl rfl ?_
      refine g_aload_n 6 (gd rfl) rfl rfl ?_
      refine g_getI 9 (gd rfl) rfl rfl rfl (fun z10x2x6 e10x2x6 => ?_)
      have q10x2x6 : u_2_1 = z10x2x6 := (e_2_1).trans e10x2x6.symm
      subst q10x2x6
      refine g_cmp_ge 12 16 (gd rfl) rfl rfl (fun c10x2x9 => ?_) (fun c10x2x9 => ?_)
      · skip
        refine g_iconst 0 17 (gd rfl) rfl rfl ?_
        refine g_ireturn (gd rfl) rfl (nb01 (in_w 0 1 (in_c 0 rfl) rfl)) (hp10x2 _ _ ?_)
        show GG _ _ _ _ _ _ _ _ [.int (Int32.ofInt 0)] _ _ _
        refine g_if_eq 8 25 (gd rfl) rfl rfl (fun c10x5 => ?_) (fun c10x5 => ?_)
        · skip
          refine g_iconst 0 26 (gd rfl) rfl rfl ?_
          refine g_ireturn (gd rfl) rfl (nb01 (in_w 0 1 (in_c 0 rfl) rfl)) (hp10 _ _ ?_)
          show GG _ _ _ _ _ _ _ _ [.int (Int32.ofInt 0)] _ _ _
          refine g_if_eq 16 29 (gd rfl) rfl rfl (fun c13 => ?_) (fun c13 => ?_)
          · skip
            exact gg_w (by first | exact Nat.le_of_ble_eq_true rfl | omega) (gg_f (gf_cons rfl (gf_cons rfl (gf_cons rfl (gf_cons rfl gf_nil)))) (ct29 s  hI fr_rf ))
          · skip
            exact zn_ne c13 (in_c 0 rfl) rfl
        · skip
          exact zn_ne c10x5 (in_c 0 rfl) rfl
      · skip
        have i10x2x9 := r_lt1 0 31 c10x2x9 i10x2x1 ro_2_1 rfl
        have i10x2x9a := r_lt2 1 32 c10x2x9 i10x2x1 ro_2_1 rfl
        refine g_iconst 1 13 (gd rfl) rfl rfl ?_
        refine g_goto 17 (gd rfl) rfl ?_
        refine g_ireturn (gd rfl) rfl (nb01 (in_w 0 1 (in_c 1 rfl) rfl)) (hp10x2 _ _ ?_)
        show GG _ _ _ _ _ _ _ _ [.int (Int32.ofInt 1)] _ _ _
        refine g_if_eq 8 25 (gd rfl) rfl rfl (fun c10x5 => ?_) (fun c10x5 => ?_)
        · skip
          exact zn_eq c10x5 (in_c 1 rfl) rfl
        · skip
          refine g_aload_n 9 (gd rfl) rfl rfl ?_
          refine g_iload_n 10 (gd rfl) rfl rfl ?_
          refine g_callv (X := _) (As := [.int x2]) (r := []) (b := A 2) (q := 2) 13 (gd rfl) rfl rfl rfl rfl rfl (ww_o rfl) (Nat.le_of_ble_eq_true rfl) (mc := 0) (ms := 0) (Nat.zero_le _) (Nat.zero_le _) (P := fun v u => _) ?_ (fun e u h => h) (fun v u h => h)
          intro po10x10 xx10x10 hp10x10 hx10x10
          refine g_enter2 (k := 94) (N := 300) (by first | exact dq1 hd rfl | exact dq0 hd rfl | exact dq2 hd rfl | exact dq3 hd rfl | omega) rfl (Nat.le_of_ble_eq_true rfl) ?_
          refine g_iload_n 1 (gd rfl) rfl rfl ?_
          refine g_if_lt 4 16 (gd rfl) rfl rfl (fun c10x10x1 => ?_) (fun c10x10x1 => ?_)
          · skip
            have i10x10x1 := z_lt (-2147483648) (-1) c10x10x1 (i_rng x2) rfl
            refine g_iconst 0 17 (gd rfl) rfl rfl ?_
            refine g_ireturn (gd rfl) rfl (nb01 (in_w 0 1 (in_c 0 rfl) rfl)) (hp10x10 _ _ ?_)
            show GG _ _ _ _ _ _ _ _ [.int (Int32.ofInt 0)] _ _ _
            refine g_if_eq 16 25 (gd rfl) rfl rfl (fun c10x13 => ?_) (fun c10x13 => ?_)
            · skip
              refine g_iconst 0 26 (gd rfl) rfl rfl ?_
              refine g_ireturn (gd rfl) rfl (nb01 (in_w 0 1 (in_c 0 rfl) rfl)) (hp10 _ _ ?_)
              show GG _ _ _ _ _ _ _ _ [.int (Int32.ofInt 0)] _ _ _
              refine g_if_eq 16 29 (gd rfl) rfl rfl (fun c13 => ?_) (fun c13 => ?_)
              · skip
                exact gg_w (by first | exact Nat.le_of_ble_eq_true rfl | omega) (gg_f (gf_cons rfl (gf_cons rfl (gf_cons rfl (gf_cons rfl gf_nil)))) (ct29 s  hI fr_rf ))
              · skip
                exact zn_ne c13 (in_c 0 rfl) rfl
            · skip
              exact zn_ne c10x13 (in_c 0 rfl) rfl
          · skip
            have i10x10x1 := z_ge 0 2147483647 c10x10x1 (i_rng x2) rfl
            refine g_iload_n 5 (gd rfl) rfl rfl ?_
            refine g_aload_n 6 (gd rfl) rfl rfl ?_
            refine g_getI 9 (gd rfl) rfl rfl rfl (fun z10x10x6 e10x10x6 => ?_)
            have q10x10x6 : u_2_1 = z10x10x6 := (e_2_1).trans e10x10x6.symm
            subst q10x10x6
            refine g_cmp_ge 12 16 (gd rfl) rfl rfl (fun c10x10x9 => ?_) (fun c10x10x9 => ?_)
            · skip
              have i10x10x9 := r_le2 1 2147483647 c10x10x9 i10x2x9a i10x10x1 rfl
              refine g_iconst 0 17 (gd rfl) rfl rfl ?_
              refine g_ireturn (gd rfl) rfl (nb01 (in_w 0 1 (in_c 0 rfl) rfl)) (hp10x10 _ _ ?_)
              show GG _ _ _ _ _ _ _ _ [.int (Int32.ofInt 0)] _ _ _
              refine g_if_eq 16 25 (gd rfl) rfl rfl (fun c10x13 => ?_) (fun c10x13 => ?_)
              · skip
                refine g_iconst 0 26 (gd rfl) rfl rfl ?_
                refine g_ireturn (gd rfl) rfl (nb01 (in_w 0 1 (in_c 0 rfl) rfl)) (hp10 _ _ ?_)
                show GG _ _ _ _ _ _ _ _ [.int (Int32.ofInt 0)] _ _ _
                refine g_if_eq 16 29 (gd rfl) rfl rfl (fun c13 => ?_) (fun c13 => ?_)
                · skip
                  exact gg_w (by first | exact Nat.le_of_ble_eq_true rfl | omega) (gg_f (gf_cons rfl (gf_cons rfl (gf_cons rfl (gf_cons rfl gf_nil)))) (ct29 s  hI fr_rf ))
                · skip
                  exact zn_ne c13 (in_c 0 rfl) rfl
              · skip
                exact zn_ne c10x13 (in_c 0 rfl) rfl
            · skip
              have i10x10x9 := r_lt1 0 31 c10x10x9 i10x10x1 i10x2x9a rfl
              refine g_iconst 1 13 (gd rfl) rfl rfl ?_
              refine g_goto 17 (gd rfl) rfl ?_
              refine g_ireturn (gd rfl) rfl (nb01 (in_w 0 1 (in_c 1 rfl) rfl)) (hp10x10 _ _ ?_)
              show GG _ _ _ _ _ _ _ _ [.int (Int32.ofInt 1)] _ _ _
              refine g_if_eq 16 25 (gd rfl) rfl rfl (fun c10x13 => ?_) (fun c10x13 => ?_)
              · skip
                exact zn_eq c10x13 (in_c 1 rfl) rfl
              · skip
                refine g_iload_n 17 (gd rfl) rfl rfl ?_
                refine g_iload_n 18 (gd rfl) rfl rfl ?_
                refine g_cmp_eq 21 25 (gd rfl) rfl rfl (fun c10x18 => ?_) (fun c10x18 => ?_)
                · skip
                  refine g_iconst 0 26 (gd rfl) rfl rfl ?_
                  refine g_ireturn (gd rfl) rfl (nb01 (in_w 0 1 (in_c 0 rfl) rfl)) (hp10 _ _ ?_)
                  show GG _ _ _ _ _ _ _ _ [.int (Int32.ofInt 0)] _ _ _
                  refine g_if_eq 16 29 (gd rfl) rfl rfl (fun c13 => ?_) (fun c13 => ?_)
                  · skip
                    exact gg_w (by first | exact Nat.le_of_ble_eq_true rfl | omega) (gg_f (gf_cons rfl (gf_cons rfl (gf_cons rfl (gf_cons rfl gf_nil)))) (ct29 s  hI fr_rf ))
                  · skip
                    exact zn_ne c13 (in_c 0 rfl) rfl
                · skip
                  refine g_iconst 1 22 (gd rfl) rfl rfl ?_
                  refine g_goto 26 (gd rfl) rfl ?_
                  refine g_ireturn (gd rfl) rfl (nb01 (in_w 0 1 (in_c 1 rfl) rfl)) (hp10 _ _ ?_)
                  show GG _ _ _ _ _ _ _ _ [.int (Int32.ofInt 1)] _ _ _
                  refine g_if_eq 16 29 (gd rfl) rfl rfl (fun c13 => ?_) (fun c13 => ?_)
                  · skip
                    exact zn_eq c13 (in_c 1 rfl) rfl
                  · skip
                    refine g_aload 18 (gd rfl) rfl rfl ?_
                    refine g_iload_n 19 (gd rfl) rfl rfl ?_
                    refine g_callv (X := _) (As := [.int x3]) (r := []) (b := A 2) (q := 2) 22 (gd rfl) rfl rfl rfl rfl rfl (ww_o rfl) (Nat.le_of_ble_eq_true rfl) (mc := 0) (ms := 0) (Nat.zero_le _) (Nat.zero_le _) (P := fun v u => _) ?_ (fun e u h => h) (fun v u h => h)
                    intro po19 xx19 hp19 hx19
                    refine g_enter2 (k := 94) (N := 300) (by first | exact dq1 hd rfl | exact dq0 hd rfl | exact dq2 hd rfl | exact dq3 hd rfl | omega) rfl (Nat.le_of_ble_eq_true rfl) ?_
                    refine g_iload_n 1 (gd rfl) rfl rfl ?_
                    refine g_if_lt 4 16 (gd rfl) rfl rfl (fun c19x1 => ?_) (fun c19x1 => ?_)
                    · skip
                      have i19x1 := z_lt (-2147483648) (-1) c19x1 (i_rng x3) rfl
                      refine g_iconst 0 17 (gd rfl) rfl rfl ?_
                      refine g_ireturn (gd rfl) rfl (nb01 (in_w 0 1 (in_c 0 rfl) rfl)) (hp19 _ _ ?_)
                      show GG _ _ _ _ _ _ _ _ [.int (Int32.ofInt 0)] _ _ _
                      refine g_if_eq 25 29 (gd rfl) rfl rfl (fun c22 => ?_) (fun c22 => ?_)
                      · skip
                        exact gg_w (by first | exact Nat.le_of_ble_eq_true rfl | omega) (gg_f (gf_cons rfl (gf_cons rfl (gf_cons rfl (gf_cons rfl gf_nil)))) (ct29 s  hI fr_rf ))
                      · skip
                        exact zn_ne c22 (in_c 0 rfl) rfl
                    · skip
                      have i19x1 := z_ge 0 2147483647 c19x1 (i_rng x3) rfl
                      refine g_iload_n 5 (gd rfl) rfl rfl ?_
                      refine g_aload_n 6 (gd rfl) rfl rfl ?_
                      refine g_getI 9 (gd rfl) rfl rfl rfl (fun z19x6 e19x6 => ?_)
                      have q19x6 : u_2_1 = z19x6 := (e_2_1).trans e19x6.symm
                      subst q19x6
                      refine g_cmp_ge 12 16 (gd rfl) rfl rfl (fun c19x9 => ?_) (fun c19x9 => ?_)
                      · skip
                        have i19x9 := r_le2 1 2147483647 c19x9 i10x2x9a i19x1 rfl
                        refine g_iconst 0 17 (gd rfl) rfl rfl ?_
                        refine g_ireturn (gd rfl) rfl (nb01 (in_w 0 1 (in_c 0 rfl) rfl)) (hp19 _ _ ?_)
                        show GG _ _ _ _ _ _ _ _ [.int (Int32.ofInt 0)] _ _ _
                        refine g_if_eq 25 29 (gd rfl) rfl rfl (fun c22 => ?_) (fun c22 => ?_)
                        · skip
                          exact gg_w (by first | exact Nat.le_of_ble_eq_true rfl | omega) (gg_f (gf_cons rfl (gf_cons rfl (gf_cons rfl (gf_cons rfl gf_nil)))) (ct29 s  hI fr_rf ))
                        · skip
                          exact zn_ne c22 (in_c 0 rfl) rfl
                      · skip
                        have i19x9 := r_lt1 0 31 c19x9 i19x1 i10x2x9a rfl
                        refine g_iconst 1 13 (gd rfl) rfl rfl ?_
                        refine g_goto 17 (gd rfl) rfl ?_
                        refine g_ireturn (gd rfl) rfl (nb01 (in_w 0 1 (in_c 1 rfl) rfl)) (hp19 _ _ ?_)
                        show GG _ _ _ _ _ _ _ _ [.int (Int32.ofInt 1)] _ _ _
                        refine g_if_eq 25 29 (gd rfl) rfl rfl (fun c22 => ?_) (fun c22 => ?_)
                        · skip
                          exact zn_eq c22 (in_c 1 rfl) rfl
                        · skip
                          refine g_iconst 1 26 (gd rfl) rfl rfl ?_
                          refine g_goto 30 (gd rfl) rfl ?_
                          refine g_thr (E := am_IA) (y := yX11_allow) 33 (gd rfl) rfl rfl (Or.inl ⟨rfl, rfl, rfl⟩) (by first | exact dq1 hd rfl | exact dq0 hd rfl | exact dq2 hd rfl | exact dq3 hd rfl | omega) (Nat.le_of_ble_eq_true rfl) (Nat.le_of_ble_eq_true rfl) (Nat.le_of_ble_eq_true rfl) (fun c30 => ?_) (fun c30 => ?_)
                          · skip
                            refine g_aload_n 34 (gd rfl) rfl rfl ?_
                            refine g_getA (q2 := 65) 37 (gd rfl) rfl rfl rfl rfl ?_
                            refine g_aload 39 (gd rfl) rfl rfl ?_
                            refine g_iload_n 40 (gd rfl) rfl rfl ?_
                            refine g_iload_n 41 (gd rfl) rfl rfl ?_
                            refine g_callv (X := _) (As := [.ref (A 2), .int x1, .int x2]) (r := []) (b := A 65) (q := 65) 44 (gd rfl) rfl rfl rfl rfl rfl (ww_o rfl) (Nat.le_of_ble_eq_true rfl) (Nat.zero_le _) (Nat.zero_le _) (k_75_65_2 (by first | exact dq1 hd rfl | exact dq0 hd rfl | exact dq2 hd rfl | exact dq3 hd rfl | omega) hI (in_w 0 31 i10x2x9 rfl) (in_w 0 31 i10x10x9 rfl)) (fun e u h => h) (fun v u h => ?_)
                            obtain ⟨s41, hI41, hF41, z41, rfl, rfl⟩ := h
                            show GG _ _ _ _ _ _ _ _ [.long z41] _ _ _
                            refine g_pop2 45 (gd rfl) rfl rfl ?_
                            refine g_aload_n 46 (gd rfl) rfl rfl ?_
                            refine g_getA (q2 := 65) 49 (gd rfl) rfl rfl rfl rfl ?_
                            refine g_getI 52 (gd rfl) rfl rfl rfl (fun z49 e49 => ?_)
                            refine g_iload_n 53 (gd rfl) rfl rfl ?_
                            refine g_ishr 54 (gd rfl) rfl (fun z53 e53 => ?_)
                            refine g_iconst 1 55 (gd rfl) rfl rfl ?_
                            refine g_iand 56 (gd rfl) rfl (fun z55 e55 => ?_)
                            have i55 := in_and2 e55 (in_c 1 rfl) rfl
                            refine g_if_eq 59 63 (gd rfl) rfl rfl (fun c56 => ?_) (fun c56 => ?_)
                            · skip
                              have i56 := z_eq 0 0 c56 i55 rfl
                              refine g_iconst 0 64 (gd rfl) rfl rfl ?_
                              exact g_ireturn (gd rfl) rfl (nb01 (in_w 0 1 (in_c 0 rfl) rfl)) (hP _ _ ⟨s41, hI41, (fr_tr rfl fr_rf hF41), (Int32.ofInt 0), rfl, rfl, in_w 0 1 (in_c 0 rfl) rfl⟩)
                            · skip
                              have i56 := z_ne 1 1 c56 i55 rfl
                              refine g_iconst 1 60 (gd rfl) rfl rfl ?_
                              refine g_goto 64 (gd rfl) rfl ?_
                              exact g_ireturn (gd rfl) rfl (nb01 (in_w 0 1 (in_c 1 rfl) rfl)) (hP _ _ ⟨s41, hI41, (fr_tr rfl fr_rf hF41), (Int32.ofInt 1), rfl, rfl, in_w 0 1 (in_c 1 rfl) rfl⟩)
                          · skip
                            exact zn_eq c30 (in_c 1 rfl) rfl

def fm_245_0 : FM := ([77, 78, 81, 82, 83], [79, 80], [(76, 0)], [])
/-- GraphHouse.tree -/
theorem k_245_0 {Z : AmZ} {A : Nat → Nat} {s : GS} {ex : va_W} {d : Nat} {x1 : Int32} {u_2_1 : Int32} {u_32_1 : Int32} (hd : 7 ≤ d) (hI : Inv s) (e_2_1 : u_2_1 = s.2.2.1 2 1) (e_32_1 : u_32_1 = s.2.2.1 32 1) (q_0 : KL s) : GC Z d 245 [.ref (A 0), .int x1] (WW Z A s ++ ex) 3 18 (fun v u => ∃ t : GS, Inv t ∧ Fr fm_245_0 s t ∧ ∃ z : Int64, v = some (.long z) ∧ u = WW Z A t ++ ex) (gE1 Z A ex ([], [], [], []) s) := by
  intro post xp hP hX
  obtain ⟨u_0_2, e_0_2⟩ : ∃ w, w = s.2.2.1 0 2 := ⟨_, rfl⟩
  have ro_0_2 := inv_F hI (-1) 4000 rfl e_0_2
  have ro_2_1 := inv_F hI 0 32 rfl e_2_1
  have ro_32_1 := inv_F hI 0 32 rfl e_32_1
  refine g_enter2 (k := 245) (N := 900) (by first | exact dq1 hd rfl | exact dq0 hd rfl | exact dq2 hd rfl | exact dq3 hd rfl | omega) rfl (Nat.le_of_ble_eq_true rfl) ?_
  refine g_aload_n 1 (gd rfl) rfl rfl ?_
  refine g_callv (X := _) (As := []) (r := []) (b := A 0) (q := 0) 4 (gd rfl) rfl rfl rfl rfl rfl (ww_o rfl) (Nat.le_of_ble_eq_true rfl) (mc := 0) (ms := 0) (Nat.zero_le _) (Nat.zero_le _) (P := fun v u => _) ?_ (fun e u h => h) (fun v u h => h)
  intro po1 xx1 hp1 hx1
  refine g_enter2 (k := 259) (N := 300) (by first | exact dq1 hd rfl | exact dq0 hd rfl | exact dq2 hd rfl | exact dq3 hd rfl | omega) rfl (Nat.le_of_ble_eq_true rfl) ?_
  refine g_aload_n 1 (gd rfl) rfl rfl ?_
  refine g_getI 4 (gd rfl) rfl rfl rfl (fun z1x1 e1x1 => ?_)
  have q1x1 : u_0_2 = z1x1 := (e_0_2).trans e1x1.symm
  subst q1x1
  refine g_iconst (-1) 5 (gd rfl) rfl rfl ?_
  refine g_cmp_ne 8 18 (gd rfl) rfl rfl (fun c1x5 => ?_) (fun c1x5 => ?_)
  · skip
    have i1x5 := r_ne1 0 4000 c1x5 ro_0_2 (in_c (-1) rfl) rfl
    refine g_aload_n 19 (gd rfl) rfl rfl ?_
    refine g_getA (q2 := 32) 22 (gd rfl) rfl rfl rfl rfl ?_
    refine g_areturn (gd rfl) rfl (hp1 _ _ ?_)
    show GG _ _ _ _ _ _ _ _ [.ref (A 32)] _ _ _
    refine g_astore_n 5 (gd rfl) rfl (Nat.le_of_ble_eq_true rfl) ?_
    refine g_aload_n 6 (gd rfl) rfl rfl ?_
    refine g_iload_n 7 (gd rfl) rfl rfl ?_
    refine g_callv (X := _) (As := [.int x1]) (r := []) (b := A 32) (q := 32) 10 (gd rfl) rfl rfl rfl rfl rfl (ww_o rfl) (Nat.le_of_ble_eq_true rfl) (mc := 0) (ms := 0) (Nat.zero_le _) (Nat.zero_le _) (P := fun v u => _) ?_ (fun e u h => h) (fun v u h => h)
    intro po7 xx7 hp7 hx7
    refine g_enter2 (k := 94) (N := 300) (by first | exact dq1 hd rfl | exact dq0 hd rfl | exact dq2 hd rfl | exact dq3 hd rfl | omega) rfl (Nat.le_of_ble_eq_true rfl) ?_
    refine g_iload_n 1 (gd rfl) rfl rfl ?_
    refine g_if_lt 4 16 (gd rfl) rfl rfl (fun c7x1 => ?_) (fun c7x1 => ?_)
    · skip
      have i7x1 := z_lt (-2147483648) (-1) c7x1 (i_rng x1) rfl
      refine g_iconst 0 17 (gd rfl) rfl rfl ?_
      refine g_ireturn (gd rfl) rfl (nb01 (in_w 0 1 (in_c 0 rfl) rfl)) (hp7 _ _ ?_)
      show GG _ _ _ _ _ _ _ _ [.int (Int32.ofInt 0)] _ _ _
      refine g_thr (E := am_IA) (y := yX11_allow) 13 (gd rfl) rfl rfl (Or.inl ⟨rfl, rfl, rfl⟩) (by first | exact dq1 hd rfl | exact dq0 hd rfl | exact dq2 hd rfl | exact dq3 hd rfl | omega) (Nat.le_of_ble_eq_true rfl) (Nat.le_of_ble_eq_true rfl) (Nat.le_of_ble_eq_true rfl) (fun c10 => ?_) (fun c10 => ?_)
      · skip
        exact zn_ne c10 (in_c 0 rfl) rfl
      · skip
        exact (hX _ _ ⟨rfl, s, hI, fr_rf, rfl⟩)
    · skip
      have i7x1 := z_ge 0 2147483647 c7x1 (i_rng x1) rfl
      refine g_iload_n 5 (gd rfl) rfl rfl ?_
      refine g_aload_n 6 (gd rfl) rfl rfl ?_
      refine g_getI 9 (gd rfl) rfl rfl rfl (fun z7x6 e7x6 => ?_)
      have q7x6 : u_32_1 = z7x6 := (e_32_1).trans e7x6.symm
      subst q7x6
      refine g_cmp_ge 12 16 (gd rfl) rfl rfl (fun c7x9 => ?_) (fun c7x9 => ?_)
      · skip
        refine g_iconst 0 17 (gd rfl) rfl rfl ?_
        refine g_ireturn (gd rfl) rfl (nb01 (in_w 0 1 (in_c 0 rfl) rfl)) (hp7 _ _ ?_)
        show GG _ _ _ _ _ _ _ _ [.int (Int32.ofInt 0)] _ _ _
        refine g_thr (E := am_IA) (y := yX11_allow) 13 (gd rfl) rfl rfl (Or.inl ⟨rfl, rfl, rfl⟩) (by first | exact dq1 hd rfl | exact dq0 hd rfl | exact dq2 hd rfl | exact dq3 hd rfl | omega) (Nat.le_of_ble_eq_true rfl) (Nat.le_of_ble_eq_true rfl) (Nat.le_of_ble_eq_true rfl) (fun c10 => ?_) (fun c10 => ?_)
        · skip
          exact zn_ne c10 (in_c 0 rfl) rfl
        · skip
          exact (hX _ _ ⟨rfl, s, hI, fr_rf, rfl⟩)
      · skip
        have i7x9 := r_lt1 0 31 c7x9 i7x1 (inv_F hI 0 32 rfl e_32_1) rfl
        have i7x9a := r_lt2 1 32 c7x9 i7x1 (inv_F hI 0 32 rfl e_32_1) rfl
        refine g_iconst 1 13 (gd rfl) rfl rfl ?_
        refine g_goto 17 (gd rfl) rfl ?_
        refine g_ireturn (gd rfl) rfl (nb01 (in_w 0 1 (in_c 1 rfl) rfl)) (hp7 _ _ ?_)
        show GG _ _ _ _ _ _ _ _ [.int (Int32.ofInt 1)] _ _ _
        refine g_thr (E := am_IA) (y := yX11_allow) 13 (gd rfl) rfl rfl (Or.inl ⟨rfl, rfl, rfl⟩) (by first | exact dq1 hd rfl | exact dq0 hd rfl | exact dq2 hd rfl | exact dq3 hd rfl | omega) (Nat.le_of_ble_eq_true rfl) (Nat.le_of_ble_eq_true rfl) (Nat.le_of_ble_eq_true rfl) (fun c10 => ?_) (fun c10 => ?_)
        · skip
          refine g_aload_n 14 (gd rfl) rfl rfl ?_
          refine g_getA (q2 := 76) 17 (gd rfl) rfl rfl rfl rfl ?_
          refine g_aload_n 18 (gd rfl) rfl rfl ?_
          refine g_iload_n 19 (gd rfl) rfl rfl ?_
          have n19 : (x1).toInt < (u_32_1).toInt := by have a0 := oa4 i7x9 i1x5 i7x9a ((inv_F hI 0 32 rfl e_2_1)); omega
          have p19 : KN (s.1 34) (s.1 35) (s.2.2.1 32 1) := by first | exact q_0.2.2.2.1.2 | exact q_0.2.2.2.2.2
          refine g_callv (X := _) (As := [.ref (A 32), .int x1]) (r := []) (b := A 76) (q := 76) 22 (gd rfl) rfl rfl rfl rfl rfl (ww_o rfl) (Nat.le_of_ble_eq_true rfl) (Nat.zero_le _) (Nat.zero_le _) (k_180_76_32 (by first | exact dq1 hd rfl | exact dq0 hd rfl | exact dq2 hd rfl | exact dq3 hd rfl | omega) hI (in_w 0 31 i7x9 rfl) e_32_1 n19 p19) (fun e u h => h) (fun v u h => ?_)
          obtain ⟨s19, hI19, hF19, z19, rfl, rfl⟩ := h
          show GG _ _ _ _ _ _ _ _ [.long z19] _ _ _
          exact g_lreturn (gd rfl) rfl (hP _ _ ⟨s19, hI19, (fr_tr rfl fr_rf hF19), z19, rfl, rfl⟩)
        · skip
          exact zn_eq c10 (in_c 1 rfl) rfl
  · skip
    have i1x5 := r_eq1 (-1) (-1) c1x5 ro_0_2 (in_c (-1) rfl) rfl
    refine g_aload_n 9 (gd rfl) rfl rfl ?_
    refine g_getA (q2 := 1) 12 (gd rfl) rfl rfl rfl rfl ?_
    refine g_getA (q2 := 2) 15 (gd rfl) rfl rfl rfl rfl ?_
    refine g_goto 22 (gd rfl) rfl ?_
    refine g_areturn (gd rfl) rfl (hp1 _ _ ?_)
    show GG _ _ _ _ _ _ _ _ [.ref (A 2)] _ _ _
    refine g_astore_n 5 (gd rfl) rfl (Nat.le_of_ble_eq_true rfl) ?_
    refine g_aload_n 6 (gd rfl) rfl rfl ?_
    refine g_iload_n 7 (gd rfl) rfl rfl ?_
    refine g_callv (X := _) (As := [.int x1]) (r := []) (b := A 2) (q := 2) 10 (gd rfl) rfl rfl rfl rfl rfl (ww_o rfl) (Nat.le_of_ble_eq_true rfl) (mc := 0) (ms := 0) (Nat.zero_le _) (Nat.zero_le _) (P := fun v u => _) ?_ (fun e u h => h) (fun v u h => h)
    intro po7 xx7 hp7 hx7
    refine g_enter2 (k := 94) (N := 300) (by first | exact dq1 hd rfl | exact dq0 hd rfl | exact dq2 hd rfl | exact dq3 hd rfl | omega) rfl (Nat.le_of_ble_eq_true rfl) ?_
    refine g_iload_n 1 (gd rfl) rfl rfl ?_
    refine g_if_lt 4 16 (gd rfl) rfl rfl (fun c7x1 => ?_) (fun c7x1 => ?_)
    · skip
      have i7x1 := z_lt (-2147483648) (-1) c7x1 (i_rng x1) rfl
      refine g_iconst 0 17 (gd rfl) rfl rfl ?_
      refine g_ireturn (gd rfl) rfl (nb01 (in_w 0 1 (in_c 0 rfl) rfl)) (hp7 _ _ ?_)
      show GG _ _ _ _ _ _ _ _ [.int (Int32.ofInt 0)] _ _ _
      refine g_thr (E := am_IA) (y := yX11_allow) 13 (gd rfl) rfl rfl (Or.inl ⟨rfl, rfl, rfl⟩) (by first | exact dq1 hd rfl | exact dq0 hd rfl | exact dq2 hd rfl | exact dq3 hd rfl | omega) (Nat.le_of_ble_eq_true rfl) (Nat.le_of_ble_eq_true rfl) (Nat.le_of_ble_eq_true rfl) (fun c10 => ?_) (fun c10 => ?_)
      · skip
        exact zn_ne c10 (in_c 0 rfl) rfl
      · skip
        exact (hX _ _ ⟨rfl, s, hI, fr_rf, rfl⟩)
    · skip
      have i7x1 := z_ge 0 2147483647 c7x1 (i_rng x1) rfl
      refine g_iload_n 5 (gd rfl) rfl rfl ?_
      refine g_aload_n 6 (gd rfl) rfl rfl ?_
      refine g_getI 9 (gd rfl) rfl rfl rfl (fun z7x6 e7x6 => ?_)
      have q7x6 : u_2_1 = z7x6 := (e_2_1).trans e7x6.symm
      subst q7x6
      refine g_cmp_ge 12 16 (gd rfl) rfl rfl (fun c7x9 => ?_) (fun c7x9 => ?_)
      · skip
        refine g_iconst 0 17 (gd rfl) rfl rfl ?_
        refine g_ireturn (gd rfl) rfl (nb01 (in_w 0 1 (in_c 0 rfl) rfl)) (hp7 _ _ ?_)
        show GG _ _ _ _ _ _ _ _ [.int (Int32.ofInt 0)] _ _ _
        refine g_thr (E := am_IA) (y := yX11_allow) 13 (gd rfl) rfl rfl (Or.inl ⟨rfl, rfl, rfl⟩) (by first | exact dq1 hd rfl | exact dq0 hd rfl | exact dq2 hd rfl | exact dq3 hd rfl | omega) (Nat.le_of_ble_eq_true rfl) (Nat.le_of_ble_eq_true rfl) (Nat.le_of_ble_eq_true rfl) (fun c10 => ?_) (fun c10 => ?_)
        · skip
          exact zn_ne c10 (in_c 0 rfl) rfl
        · skip
          exact (hX _ _ ⟨rfl, s, hI, fr_rf, rfl⟩)
      · skip
        have i7x9 := r_lt1 0 31 c7x9 i7x1 (inv_F hI 0 32 rfl e_2_1) rfl
        have i7x9a := r_lt2 1 32 c7x9 i7x1 (inv_F hI 0 32 rfl e_2_1) rfl
        refine g_iconst 1 13 (gd rfl) rfl rfl ?_
        refine g_goto 17 (gd rfl) rfl ?_
        refine g_ireturn (gd rfl) rfl (nb01 (in_w 0 1 (in_c 1 rfl) rfl)) (hp7 _ _ ?_)
        show GG _ _ _ _ _ _ _ _ [.int (Int32.ofInt 1)] _ _ _
        refine g_thr (E := am_IA) (y := yX11_allow) 13 (gd rfl) rfl rfl (Or.inl ⟨rfl, rfl, rfl⟩) (by first | exact dq1 hd rfl | exact dq0 hd rfl | exact dq2 hd rfl | exact dq3 hd rfl | omega) (Nat.le_of_ble_eq_true rfl) (Nat.le_of_ble_eq_true rfl) (Nat.le_of_ble_eq_true rfl) (fun c10 => ?_) (fun c10 => ?_)
        · skip
          refine g_aload_n 14 (gd rfl) rfl rfl ?_
          refine g_getA (q2 := 76) 17 (gd rfl) rfl rfl rfl rfl ?_
          refine g_aload_n 18 (gd rfl) rfl rfl ?_
          refine g_iload_n 19 (gd rfl) rfl rfl ?_
          have n19 : (x1).toInt < (u_2_1).toInt := by have a0 := oa4 i7x9 i1x5 ((inv_F hI 0 32 rfl e_32_1)) i7x9a; omega
          have p19 : KN (s.1 4) (s.1 5) (s.2.2.1 2 1) := by first | exact q_0.2.2.2.1.2 | exact q_0.2.2.2.2.2
          refine g_callv (X := _) (As := [.ref (A 2), .int x1]) (r := []) (b := A 76) (q := 76) 22 (gd rfl) rfl rfl rfl rfl rfl (ww_o rfl) (Nat.le_of_ble_eq_true rfl) (Nat.zero_le _) (Nat.zero_le _) (k_180_76_2 (by first | exact dq1 hd rfl | exact dq0 hd rfl | exact dq2 hd rfl | exact dq3 hd rfl | omega) hI (in_w 0 31 i7x9 rfl) e_2_1 n19 p19) (fun e u h => h) (fun v u h => ?_)
          obtain ⟨s19, hI19, hF19, z19, rfl, rfl⟩ := h
          show GG _ _ _ _ _ _ _ _ [.long z19] _ _ _
          exact g_lreturn (gd rfl) rfl (hP _ _ ⟨s19, hI19, (fr_tr rfl fr_rf hF19), z19, rfl, rfl⟩)
        · skip
          exact zn_eq c10 (in_c 1 rfl) rfl

def fm_246_0 : FM := ([84], [], [], [])
/-- GraphHouse.span -/
theorem k_246_0 {Z : AmZ} {A : Nat → Nat} {s : GS} {ex : va_W} {d : Nat} {x1 : Int32} (hd : 7 ≤ d) (hI : Inv s)  : GC Z d 246 [.ref (A 0), .int x1] (WW Z A s ++ ex) 3 18 (fun v u => ∃ t : GS, Inv t ∧ Fr fm_246_0 s t ∧ ∃ z : Int32, v = some (.int z) ∧ u = WW Z A t ++ ex ∧ In z 0 1) (gE1 Z A ex fm_246_0 s) := by
  intro post xp hP hX
  obtain ⟨u_0_2, e_0_2⟩ : ∃ w, w = s.2.2.1 0 2 := ⟨_, rfl⟩
  have ro_0_2 := inv_F hI (-1) 4000 rfl e_0_2
  obtain ⟨u_2_3, e_2_3⟩ : ∃ w, w = s.2.2.1 2 3 := ⟨_, rfl⟩
  have ro_2_3 := inv_F hI 0 160 rfl e_2_3
  obtain ⟨u_32_3, e_32_3⟩ : ∃ w, w = s.2.2.1 32 3 := ⟨_, rfl⟩
  have ro_32_3 := inv_F hI 0 160 rfl e_32_3
  refine g_enter2 (k := 246) (N := 900) (by first | exact dq1 hd rfl | exact dq0 hd rfl | exact dq2 hd rfl | exact dq3 hd rfl | omega) rfl (Nat.le_of_ble_eq_true rfl) ?_
  refine g_aload_n 1 (gd rfl) rfl rfl ?_
  refine g_callv (X := _) (As := []) (r := []) (b := A 0) (q := 0) 4 (gd rfl) rfl rfl rfl rfl rfl (ww_o rfl) (Nat.le_of_ble_eq_true rfl) (mc := 0) (ms := 0) (Nat.zero_le _) (Nat.zero_le _) (P := fun v u => _) ?_ (fun e u h => h) (fun v u h => h)
  intro po1 xx1 hp1 hx1
  refine g_enter2 (k := 259) (N := 300) (by first | exact dq1 hd rfl | exact dq0 hd rfl | exact dq2 hd rfl | exact dq3 hd rfl | omega) rfl (Nat.le_of_ble_eq_true rfl) ?_
  refine g_aload_n 1 (gd rfl) rfl rfl ?_
  refine g_getI 4 (gd rfl) rfl rfl rfl (fun z1x1 e1x1 => ?_)
  have q1x1 : u_0_2 = z1x1 := (e_0_2).trans e1x1.symm
  subst q1x1
  refine g_iconst (-1) 5 (gd rfl) rfl rfl ?_
  refine g_cmp_ne 8 18 (gd rfl) rfl rfl (fun c1x5 => ?_) (fun c1x5 => ?_)
  · skip
    have i1x5 := r_ne1 0 4000 c1x5 ro_0_2 (in_c (-1) rfl) rfl
    refine g_aload_n 19 (gd rfl) rfl rfl ?_
    refine g_getA (q2 := 32) 22 (gd rfl) rfl rfl rfl rfl ?_
    refine g_areturn (gd rfl) rfl (hp1 _ _ ?_)
    show GG _ _ _ _ _ _ _ _ [.ref (A 32)] _ _ _
    refine g_astore_n 5 (gd rfl) rfl (Nat.le_of_ble_eq_true rfl) ?_
    refine g_aload_n 6 (gd rfl) rfl rfl ?_
    refine g_iload_n 7 (gd rfl) rfl rfl ?_
    refine g_callv (X := _) (As := [.int x1]) (r := []) (b := A 32) (q := 32) 10 (gd rfl) rfl rfl rfl rfl rfl (ww_o rfl) (Nat.le_of_ble_eq_true rfl) (mc := 0) (ms := 0) (Nat.zero_le _) (Nat.zero_le _) (P := fun v u => _) ?_ (fun e u h => h) (fun v u h => h)
    intro po7 xx7 hp7 hx7
    refine g_enter2 (k := 96) (N := 300) (by first | exact dq1 hd rfl | exact dq0 hd rfl | exact dq2 hd rfl | exact dq3 hd rfl | omega) rfl (Nat.le_of_ble_eq_true rfl) ?_
    refine g_iload_n 1 (gd rfl) rfl rfl ?_
    refine g_if_lt 4 26 (gd rfl) rfl rfl (fun c7x1 => ?_) (fun c7x1 => ?_)
    · skip
      have i7x1 := z_lt (-2147483648) (-1) c7x1 (i_rng x1) rfl
      refine g_iconst 0 27 (gd rfl) rfl rfl ?_
      refine g_ireturn (gd rfl) rfl (nb01 (in_w 0 1 (in_c 0 rfl) rfl)) (hp7 _ _ ?_)
      show GG _ _ _ _ _ _ _ _ [.int (Int32.ofInt 0)] _ _ _
      refine g_thr (E := am_IA) (y := yX11_allow) 13 (gd rfl) rfl rfl (Or.inl ⟨rfl, rfl, rfl⟩) (by first | exact dq1 hd rfl | exact dq0 hd rfl | exact dq2 hd rfl | exact dq3 hd rfl | omega) (Nat.le_of_ble_eq_true rfl) (Nat.le_of_ble_eq_true rfl) (Nat.le_of_ble_eq_true rfl) (fun c10 => ?_) (fun c10 => ?_)
      · skip
        exact zn_ne c10 (in_c 0 rfl) rfl
      · skip
        exact (hX _ _ ⟨rfl, s, hI, fr_rf, rfl⟩)
    · skip
      have i7x1 := z_ge 0 2147483647 c7x1 (i_rng x1) rfl
      refine g_iload_n 5 (gd rfl) rfl rfl ?_
      refine g_aload_n 6 (gd rfl) rfl rfl ?_
      refine g_getI 9 (gd rfl) rfl rfl rfl (fun z7x6 e7x6 => ?_)
      have q7x6 : u_32_3 = z7x6 := (e_32_3).trans e7x6.symm
      subst q7x6
      refine g_cmp_ge 12 26 (gd rfl) rfl rfl (fun c7x9 => ?_) (fun c7x9 => ?_)
      · skip
        refine g_iconst 0 27 (gd rfl) rfl rfl ?_
        refine g_ireturn (gd rfl) rfl (nb01 (in_w 0 1 (in_c 0 rfl) rfl)) (hp7 _ _ ?_)
        show GG _ _ _ _ _ _ _ _ [.int (Int32.ofInt 0)] _ _ _
        refine g_thr (E := am_IA) (y := yX11_allow) 13 (gd rfl) rfl rfl (Or.inl ⟨rfl, rfl, rfl⟩) (by first | exact dq1 hd rfl | exact dq0 hd rfl | exact dq2 hd rfl | exact dq3 hd rfl | omega) (Nat.le_of_ble_eq_true rfl) (Nat.le_of_ble_eq_true rfl) (Nat.le_of_ble_eq_true rfl) (fun c10 => ?_) (fun c10 => ?_)
        · skip
          exact zn_ne c10 (in_c 0 rfl) rfl
        · skip
          exact (hX _ _ ⟨rfl, s, hI, fr_rf, rfl⟩)
      · skip
        have i7x9 := r_lt1 0 159 c7x9 i7x1 ro_32_3 rfl
        have i7x9a := r_lt2 1 160 c7x9 i7x1 ro_32_3 rfl
        refine g_aload_n 13 (gd rfl) rfl rfl ?_
        refine g_getA (q2 := 34) 16 (gd rfl) rfl rfl rfl rfl ?_
        refine g_iload_n 17 (gd rfl) rfl rfl ?_
        refine g_iaload 18 (gd rfl) rfl (n := 160) rfl (in_ix i7x9 rfl) (fun z7x17 e7x17 => ?_)
        have i7x17 := inv_I hI (n := 160) (t := 0) (-1) 31 rfl (in_ix i7x9 rfl) rfl e7x17
        refine g_iconst (-1) 19 (gd rfl) rfl rfl ?_
        refine g_cmp_eq 22 26 (gd rfl) rfl rfl (fun c7x19 => ?_) (fun c7x19 => ?_)
        · skip
          have i7x19 := r_eq1 (-1) (-1) c7x19 i7x17 (in_c (-1) rfl) rfl
          refine g_iconst 0 27 (gd rfl) rfl rfl ?_
          refine g_ireturn (gd rfl) rfl (nb01 (in_w 0 1 (in_c 0 rfl) rfl)) (hp7 _ _ ?_)
          show GG _ _ _ _ _ _ _ _ [.int (Int32.ofInt 0)] _ _ _
          refine g_thr (E := am_IA) (y := yX11_allow) 13 (gd rfl) rfl rfl (Or.inl ⟨rfl, rfl, rfl⟩) (by first | exact dq1 hd rfl | exact dq0 hd rfl | exact dq2 hd rfl | exact dq3 hd rfl | omega) (Nat.le_of_ble_eq_true rfl) (Nat.le_of_ble_eq_true rfl) (Nat.le_of_ble_eq_true rfl) (fun c10 => ?_) (fun c10 => ?_)
          · skip
            exact zn_ne c10 (in_c 0 rfl) rfl
          · skip
            exact (hX _ _ ⟨rfl, s, hI, fr_rf, rfl⟩)
        · skip
          have i7x19 := r_ne1 0 31 c7x19 i7x17 (in_c (-1) rfl) rfl
          refine g_iconst 1 23 (gd rfl) rfl rfl ?_
          refine g_goto 27 (gd rfl) rfl ?_
          refine g_ireturn (gd rfl) rfl (nb01 (in_w 0 1 (in_c 1 rfl) rfl)) (hp7 _ _ ?_)
          show GG _ _ _ _ _ _ _ _ [.int (Int32.ofInt 1)] _ _ _
          refine g_thr (E := am_IA) (y := yX11_allow) 13 (gd rfl) rfl rfl (Or.inl ⟨rfl, rfl, rfl⟩) (by first | exact dq1 hd rfl | exact dq0 hd rfl | exact dq2 hd rfl | exact dq3 hd rfl | omega) (Nat.le_of_ble_eq_true rfl) (Nat.le_of_ble_eq_true rfl) (Nat.le_of_ble_eq_true rfl) (fun c10 => ?_) (fun c10 => ?_)
          · skip
            refine g_aload_n 14 (gd rfl) rfl rfl ?_
            refine g_getA (q2 := 76) 17 (gd rfl) rfl rfl rfl rfl ?_
            refine g_aload_n 18 (gd rfl) rfl rfl ?_
            refine g_iload_n 19 (gd rfl) rfl rfl ?_
            refine g_callv (X := _) (As := [.ref (A 32), .int x1]) (r := []) (b := A 76) (q := 76) 22 (gd rfl) rfl rfl rfl rfl rfl (ww_o rfl) (Nat.le_of_ble_eq_true rfl) (Nat.zero_le _) (Nat.zero_le _) (k_186_76_32 (by first | exact dq1 hd rfl | exact dq0 hd rfl | exact dq2 hd rfl | exact dq3 hd rfl | omega) hI (in_w 0 159 i7x9 rfl)) (fun e u h => h) (fun v u h => ?_)
            obtain ⟨s19, hI19, hF19, z19, rfl, rfl, i19⟩ := h
            show GG _ _ _ _ _ _ _ _ [.int z19] _ _ _
            exact g_ireturn (gd rfl) rfl (nb01 (in_w 0 1 i19 rfl)) (hP _ _ ⟨s19, hI19, (fr_tr rfl fr_rf hF19), z19, rfl, rfl, in_w 0 1 i19 rfl⟩)
          · skip
            exact zn_eq c10 (in_c 1 rfl) rfl
  · skip
    have i1x5 := r_eq1 (-1) (-1) c1x5 ro_0_2 (in_c (-1) rfl) rfl
    refine g_aload_n 9 (gd rfl) rfl rfl ?_
    refine g_getA (q2 := 1) 12 (gd rfl) rfl rfl rfl rfl ?_
    refine g_getA (q2 := 2) 15 (gd rfl) rfl rfl rfl rfl ?_
    refine g_goto 22 (gd rfl) rfl ?_
    refine g_areturn (gd rfl) rfl (hp1 _ _ ?_)
    show GG _ _ _ _ _ _ _ _ [.ref (A 2)] _ _ _
    refine g_astore_n 5 (gd rfl) rfl (Nat.le_of_ble_eq_true rfl) ?_
    refine g_aload_n 6 (gd rfl) rfl rfl ?_
    refine g_iload_n 7 (gd rfl) rfl rfl ?_
    refine g_callv (X := _) (As := [.int x1]) (r := []) (b := A 2) (q := 2) 10 (gd rfl) rfl rfl rfl rfl rfl (ww_o rfl) (Nat.le_of_ble_eq_true rfl) (mc := 0) (ms := 0) (Nat.zero_le _) (Nat.zero_le _) (P := fun v u => _) ?_ (fun e u h => h) (fun v u h => h)
    intro po7 xx7 hp7 hx7
    refine g_enter2 (k := 96) (N := 300) (by first | exact dq1 hd rfl | exact dq0 hd rfl | exact dq2 hd rfl | exact dq3 hd rfl | omega) rfl (Nat.le_of_ble_eq_true rfl) ?_
    refine g_iload_n 1 (gd rfl) rfl rfl ?_
    refine g_if_lt 4 26 (gd rfl) rfl rfl (fun c7x1 => ?_) (fun c7x1 => ?_)
    · skip
      have i7x1 := z_lt (-2147483648) (-1) c7x1 (i_rng x1) rfl
      refine g_iconst 0 27 (gd rfl) rfl rfl ?_
      refine g_ireturn (gd rfl) rfl (nb01 (in_w 0 1 (in_c 0 rfl) rfl)) (hp7 _ _ ?_)
      show GG _ _ _ _ _ _ _ _ [.int (Int32.ofInt 0)] _ _ _
      refine g_thr (E := am_IA) (y := yX11_allow) 13 (gd rfl) rfl rfl (Or.inl ⟨rfl, rfl, rfl⟩) (by first | exact dq1 hd rfl | exact dq0 hd rfl | exact dq2 hd rfl | exact dq3 hd rfl | omega) (Nat.le_of_ble_eq_true rfl) (Nat.le_of_ble_eq_true rfl) (Nat.le_of_ble_eq_true rfl) (fun c10 => ?_) (fun c10 => ?_)
      · skip
        exact zn_ne c10 (in_c 0 rfl) rfl
      · skip
        exact (hX _ _ ⟨rfl, s, hI, fr_rf, rfl⟩)
    · skip
      have i7x1 := z_ge 0 2147483647 c7x1 (i_rng x1) rfl
      refine g_iload_n 5 (gd rfl) rfl rfl ?_
      refine g_aload_n 6 (gd rfl) rfl rfl ?_
      refine g_getI 9 (gd rfl) rfl rfl rfl (fun z7x6 e7x6 => ?_)
      have q7x6 : u_2_3 = z7x6 := (e_2_3).trans e7x6.symm
      subst q7x6
      refine g_cmp_ge 12 26 (gd rfl) rfl rfl (fun c7x9 => ?_) (fun c7x9 => ?_)
      · skip
        refine g_iconst 0 27 (gd rfl) rfl rfl ?_
        refine g_ireturn (gd rfl) rfl (nb01 (in_w 0 1 (in_c 0 rfl) rfl)) (hp7 _ _ ?_)
        show GG _ _ _ _ _ _ _ _ [.int (Int32.ofInt 0)] _ _ _
        refine g_thr (E := am_IA) (y := yX11_allow) 13 (gd rfl) rfl rfl (Or.inl ⟨rfl, rfl, rfl⟩) (by first | exact dq1 hd rfl | exact dq0 hd rfl | exact dq2 hd rfl | exact dq3 hd rfl | omega) (Nat.le_of_ble_eq_true rfl) (Nat.le_of_ble_eq_true rfl) (Nat.le_of_ble_eq_true rfl) (fun c10 => ?_) (fun c10 => ?_)
        · skip
          exact zn_ne c10 (in_c 0 rfl) rfl
        · skip
          exact (hX _ _ ⟨rfl, s, hI, fr_rf, rfl⟩)
      · skip
        have i7x9 := r_lt1 0 159 c7x9 i7x1 ro_2_3 rfl
        have i7x9a := r_lt2 1 160 c7x9 i7x1 ro_2_3 rfl
        refine g_aload_n 13 (gd rfl) rfl rfl ?_
        refine g_getA (q2 := 4) 16 (gd rfl) rfl rfl rfl rfl ?_
        refine g_iload_n 17 (gd rfl) rfl rfl ?_
        refine g_iaload 18 (gd rfl) rfl (n := 160) rfl (in_ix i7x9 rfl) (fun z7x17 e7x17 => ?_)
        have i7x17 := inv_I hI (n := 160) (t := 0) (-1) 31 rfl (in_ix i7x9 rfl) rfl e7x17
        refine g_iconst (-1) 19 (gd rfl) rfl rfl ?_
        refine g_cmp_eq 22 26 (gd rfl) rfl rfl (fun c7x19 => ?_) (fun c7x19 => ?_)
        · skip
          have i7x19 := r_eq1 (-1) (-1) c7x19 i7x17 (in_c (-1) rfl) rfl
          refine g_iconst 0 27 (gd rfl) rfl rfl ?_
          refine g_ireturn (gd rfl) rfl (nb01 (in_w 0 1 (in_c 0 rfl) rfl)) (hp7 _ _ ?_)
          show GG _ _ _ _ _ _ _ _ [.int (Int32.ofInt 0)] _ _ _
          refine g_thr (E := am_IA) (y := yX11_allow) 13 (gd rfl) rfl rfl (Or.inl ⟨rfl, rfl, rfl⟩) (by first | exact dq1 hd rfl | exact dq0 hd rfl | exact dq2 hd rfl | exact dq3 hd rfl | omega) (Nat.le_of_ble_eq_true rfl) (Nat.le_of_ble_eq_true rfl) (Nat.le_of_ble_eq_true rfl) (fun c10 => ?_) (fun c10 => ?_)
          · skip
            exact zn_ne c10 (in_c 0 rfl) rfl
          · skip
            exact (hX _ _ ⟨rfl, s, hI, fr_rf, rfl⟩)
        · skip
          have i7x19 := r_ne1 0 31 c7x19 i7x17 (in_c (-1) rfl) rfl
          refine g_iconst 1 23 (gd rfl) rfl rfl ?_
          refine g_goto 27 (gd rfl) rfl ?_
          refine g_ireturn (gd rfl) rfl (nb01 (in_w 0 1 (in_c 1 rfl) rfl)) (hp7 _ _ ?_)
          show GG _ _ _ _ _ _ _ _ [.int (Int32.ofInt 1)] _ _ _
          refine g_thr (E := am_IA) (y := yX11_allow) 13 (gd rfl) rfl rfl (Or.inl ⟨rfl, rfl, rfl⟩) (by first | exact dq1 hd rfl | exact dq0 hd rfl | exact dq2 hd rfl | exact dq3 hd rfl | omega) (Nat.le_of_ble_eq_true rfl) (Nat.le_of_ble_eq_true rfl) (Nat.le_of_ble_eq_true rfl) (fun c10 => ?_) (fun c10 => ?_)
          · skip
            refine g_aload_n 14 (gd rfl) rfl rfl ?_
            refine g_getA (q2 := 76) 17 (gd rfl) rfl rfl rfl rfl ?_
            refine g_aload_n 18 (gd rfl) rfl rfl ?_
            refine g_iload_n 19 (gd rfl) rfl rfl ?_
            refine g_callv (X := _) (As := [.ref (A 2), .int x1]) (r := []) (b := A 76) (q := 76) 22 (gd rfl) rfl rfl rfl rfl rfl (ww_o rfl) (Nat.le_of_ble_eq_true rfl) (Nat.zero_le _) (Nat.zero_le _) (k_186_76_2 (by first | exact dq1 hd rfl | exact dq0 hd rfl | exact dq2 hd rfl | exact dq3 hd rfl | omega) hI (in_w 0 159 i7x9 rfl)) (fun e u h => h) (fun v u h => ?_)
            obtain ⟨s19, hI19, hF19, z19, rfl, rfl, i19⟩ := h
            show GG _ _ _ _ _ _ _ _ [.int z19] _ _ _
            exact g_ireturn (gd rfl) rfl (nb01 (in_w 0 1 i19 rfl)) (hP _ _ ⟨s19, hI19, (fr_tr rfl fr_rf hF19), z19, rfl, rfl, in_w 0 1 i19 rfl⟩)
          · skip
            exact zn_eq c10 (in_c 1 rfl) rfl

def fm_248_0 : FM := ([9, 10, 11, 12, 13, 14, 15, 39, 40, 41, 42, 43, 44, 45], [87, 88], [(2, 4), (32, 4), (86, 0), (86, 1)], [])
/-- GraphHouse.rank -/
theorem k_248_0 {Z : AmZ} {A : Nat → Nat} {s : GS} {ex : va_W} {d : Nat} {x1 : Int32} {x2 : Int32} (hd : 7 ≤ d) (hI : Inv s)  : GC Z d 248 [.ref (A 0), .int x1, .int x2] (WW Z A s ++ ex) 3 18 (fun v u => ∃ xa ya : Nat, ∃ t : GS, Inv t ∧ Fr fm_248_0 s t ∧ ∃ z : Int64, v = some (.long z) ∧ u = WW Z (a2 A xa ya) t ++ ex) (gE1 Z A ex fm_248_0 s) := by
  intro post xp hP hX
  obtain ⟨u_0_2, e_0_2⟩ : ∃ w, w = s.2.2.1 0 2 := ⟨_, rfl⟩
  have ro_0_2 := inv_F hI (-1) 4000 rfl e_0_2
  obtain ⟨u_2_1, e_2_1⟩ : ∃ w, w = s.2.2.1 2 1 := ⟨_, rfl⟩
  have ro_2_1 := inv_F hI 0 32 rfl e_2_1
  obtain ⟨u_32_1, e_32_1⟩ : ∃ w, w = s.2.2.1 32 1 := ⟨_, rfl⟩
  have ro_32_1 := inv_F hI 0 32 rfl e_32_1
  refine g_enter2 (k := 248) (N := 900) (by first | exact dq1 hd rfl | exact dq0 hd rfl | exact dq2 hd rfl | exact dq3 hd rfl | omega) rfl (Nat.le_of_ble_eq_true rfl) ?_
  refine g_aload_n 1 (gd rfl) rfl rfl ?_
  refine g_callv (X := _) (As := []) (r := []) (b := A 0) (q := 0) 4 (gd rfl) rfl rfl rfl rfl rfl (ww_o rfl) (Nat.le_of_ble_eq_true rfl) (mc := 0) (ms := 0) (Nat.zero_le _) (Nat.zero_le _) (P := fun v u => _) ?_ (fun e u h => h) (fun v u h => h)
  intro po1 xx1 hp1 hx1
  refine g_enter2 (k := 259) (N := 300) (by first | exact dq1 hd rfl | exact dq0 hd rfl | exact dq2 hd rfl | exact dq3 hd rfl | omega) rfl (Nat.le_of_ble_eq_true rfl) ?_
  refine g_aload_n 1 (gd rfl) rfl rfl ?_
  refine g_getI 4 (gd rfl) rfl rfl rfl (fun z1x1 e1x1 => ?_)
  have q1x1 : u_0_2 = z1x1 := (e_0_2).trans e1x1.symm
  subst q1x1
  refine g_iconst (-1) 5 (gd rfl) rfl rfl ?_
  refine g_cmp_ne 8 18 (gd rfl) rfl rfl (fun c1x5 => ?_) (fun c1x5 => ?_)
  · skip
    have i1x5 := r_ne1 0 4000 c1x5 ro_0_2 (in_c (-1) rfl) rfl
    refine g_aload_n 19 (gd rfl) rfl rfl ?_
    refine g_getA (q2 := 32) 22 (gd rfl) rfl rfl rfl rfl ?_
    refine g_areturn (gd rfl) rfl (hp1 _ _ ?_)
    show GG _ _ _ _ _ _ _ _ [.ref (A 32)] _ _ _
    refine g_astore_n 5 (gd rfl) rfl (Nat.le_of_ble_eq_true rfl) ?_
    refine g_aload_n 6 (gd rfl) rfl rfl ?_
    refine g_iload_n 7 (gd rfl) rfl rfl ?_
    refine g_callv (X := _) (As := [.int x1]) (r := []) (b := A 32) (q := 32) 10 (gd rfl) rfl rfl rfl rfl rfl (ww_o rfl) (Nat.le_of_ble_eq_true rfl) (mc := 0) (ms := 0) (Nat.zero_le _) (Nat.zero_le _) (P := fun v u => _) ?_ (fun e u h => h) (fun v u h => h)
    intro po7 xx7 hp7 hx7
    refine g_enter2 (k := 94) (N := 300) (by first | exact dq1 hd rfl | exact dq0 hd rfl | exact dq2 hd rfl | exact dq3 hd rfl | omega) rfl (Nat.le_of_ble_eq_true rfl) ?_
    refine g_iload_n 1 (gd rfl) rfl rfl ?_
    refine g_if_lt 4 16 (gd rfl) rfl rfl (fun c7x1 => ?_) (fun c7x1 => ?_)
    · skip
      have i7x1 := z_lt (-2147483648) (-1) c7x1 (i_rng x1) rfl
      refine g_iconst 0 17 (gd rfl) rfl rfl ?_
      refine g_ireturn (gd rfl) rfl (nb01 (in_w 0 1 (in_c 0 rfl) rfl)) (hp7 _ _ ?_)
      show GG _ _ _ _ _ _ _ _ [.int (Int32.ofInt 0)] _ _ _
      refine g_if_eq 13 27 (gd rfl) rfl rfl (fun c10 => ?_) (fun c10 => ?_)
      · skip
        refine g_iconst 0 28 (gd rfl) rfl rfl ?_
        refine g_thr (E := am_IA) (y := yX11_allow) 31 (gd rfl) rfl rfl (Or.inl ⟨rfl, rfl, rfl⟩) (by first | exact dq1 hd rfl | exact dq0 hd rfl | exact dq2 hd rfl | exact dq3 hd rfl | omega) (Nat.le_of_ble_eq_true rfl) (Nat.le_of_ble_eq_true rfl) (Nat.le_of_ble_eq_true rfl) (fun c28 => ?_) (fun c28 => ?_)
        · skip
          exact zn_ne c28 (in_c 0 rfl) rfl
        · skip
          exact (hX _ _ ⟨rfl, s, hI, fr_rf, rfl⟩)
      · skip
        exact zn_ne c10 (in_c 0 rfl) rfl
    · skip
      have i7x1 := z_ge 0 2147483647 c7x1 (i_rng x1) rfl
      refine g_iload_n 5 (gd rfl) rfl rfl ?_
      refine g_aload_n 6 (gd rfl) rfl rfl ?_
      refine g_getI 9 (gd rfl) rfl rfl rfl (fun z7x6 e7x6 => ?_)
      have q7x6 : u_32_1 = z7x6 := (e_32_1).trans e7x6.symm
      subst q7x6
      refine g_cmp_ge 12 16 (gd rfl) rfl rfl (fun c7x9 => ?_) (fun c7x9 => ?_)
      · skip
        refine g_iconst 0 17 (gd rfl) rfl rfl ?_
        refine g_ireturn (gd rfl) rfl (nb01 (in_w 0 1 (in_c 0 rfl) rfl)) (hp7 _ _ ?_)
        show GG _ _ _ _ _ _ _ _ [.int (Int32.ofInt 0)] _ _ _
        refine g_if_eq 13 27 (gd rfl) rfl rfl (fun c10 => ?_) (fun c10 => ?_)
        · skip
          refine g_iconst 0 28 (gd rfl) rfl rfl ?_
          refine g_thr (E := am_IA) (y := yX11_allow) 31 (gd rfl) rfl rfl (Or.inl ⟨rfl, rfl, rfl⟩) (by first | exact dq1 hd rfl | exact dq0 hd rfl | exact dq2 hd rfl | exact dq3 hd rfl | omega) (Nat.le_of_ble_eq_true rfl) (Nat.le_of_ble_eq_true rfl) (Nat.le_of_ble_eq_true rfl) (fun c28 => ?_) (fun c28 => ?_)
          · skip
            exact zn_ne c28 (in_c 0 rfl) rfl
          · skip
            exact (hX _ _ ⟨rfl, s, hI, fr_rf, rfl⟩)
        · skip
          exact zn_ne c10 (in_c 0 rfl) rfl
      · skip
        have i7x9 := r_lt1 0 31 c7x9 i7x1 ro_32_1 rfl
        have i7x9a := r_lt2 1 32 c7x9 i7x1 ro_32_1 rfl
        refine g_iconst 1 13 (gd rfl) rfl rfl ?_
        refine g_goto 17 (gd rfl) rfl ?_
        refine g_ireturn (gd rfl) rfl (nb01 (in_w 0 1 (in_c 1 rfl) rfl)) (hp7 _ _ ?_)
        show GG _ _ _ _ _ _ _ _ [.int (Int32.ofInt 1)] _ _ _
        refine g_if_eq 13 27 (gd rfl) rfl rfl (fun c10 => ?_) (fun c10 => ?_)
        · skip
          exact zn_eq c10 (in_c 1 rfl) rfl
        · skip
          refine g_iload_n 14 (gd rfl) rfl rfl ?_
          refine g_if_lt 17 27 (gd rfl) rfl rfl (fun c14 => ?_) (fun c14 => ?_)
          · skip
            have i14 := z_lt (-2147483648) (-1) c14 (i_rng x2) rfl
            refine g_iconst 0 28 (gd rfl) rfl rfl ?_
            refine g_thr (E := am_IA) (y := yX11_allow) 31 (gd rfl) rfl rfl (Or.inl ⟨rfl, rfl, rfl⟩) (by first | exact dq1 hd rfl | exact dq0 hd rfl | exact dq2 hd rfl | exact dq3 hd rfl | omega) (Nat.le_of_ble_eq_true rfl) (Nat.le_of_ble_eq_true rfl) (Nat.le_of_ble_eq_true rfl) (fun c28 => ?_) (fun c28 => ?_)
            · skip
              exact zn_ne c28 (in_c 0 rfl) rfl
            · skip
              exact (hX _ _ ⟨rfl, s, hI, fr_rf, rfl⟩)
          · skip
            have i14 := z_ge 0 2147483647 c14 (i_rng x2) rfl
            refine g_iload_n 18 (gd rfl) rfl rfl ?_
            refine g_bipush 40 20 (gd rfl) rfl rfl ?_
            refine g_cmp_gt 23 27 (gd rfl) rfl rfl (fun c20 => ?_) (fun c20 => ?_)
            · skip
              have i20 := r_lt2 41 2147483647 c20 (in_c 40 rfl) i14 rfl
              refine g_iconst 0 28 (gd rfl) rfl rfl ?_
              refine g_thr (E := am_IA) (y := yX11_allow) 31 (gd rfl) rfl rfl (Or.inl ⟨rfl, rfl, rfl⟩) (by first | exact dq1 hd rfl | exact dq0 hd rfl | exact dq2 hd rfl | exact dq3 hd rfl | omega) (Nat.le_of_ble_eq_true rfl) (Nat.le_of_ble_eq_true rfl) (Nat.le_of_ble_eq_true rfl) (fun c28 => ?_) (fun c28 => ?_)
              · skip
                exact zn_ne c28 (in_c 0 rfl) rfl
              · skip
                exact (hX _ _ ⟨rfl, s, hI, fr_rf, rfl⟩)
            · skip
              have i20 := r_le1 0 40 c20 i14 (in_c 40 rfl) rfl
              refine g_iconst 1 24 (gd rfl) rfl rfl ?_
              refine g_goto 28 (gd rfl) rfl ?_
              refine g_thr (E := am_IA) (y := yX11_allow) 31 (gd rfl) rfl rfl (Or.inl ⟨rfl, rfl, rfl⟩) (by first | exact dq1 hd rfl | exact dq0 hd rfl | exact dq2 hd rfl | exact dq3 hd rfl | omega) (Nat.le_of_ble_eq_true rfl) (Nat.le_of_ble_eq_true rfl) (Nat.le_of_ble_eq_true rfl) (fun c28 => ?_) (fun c28 => ?_)
              · skip
                refine g_aload_n 32 (gd rfl) rfl rfl ?_
                refine g_getA (q2 := 86) 35 (gd rfl) rfl rfl rfl rfl ?_
                refine g_aload_n 36 (gd rfl) rfl rfl ?_
                refine g_iload_n 37 (gd rfl) rfl rfl ?_
                refine g_iload_n 38 (gd rfl) rfl rfl ?_
                refine g_callv (X := _) (As := [.ref (A 32), .int x1, .int x2]) (r := []) (b := A 86) (q := 86) 41 (gd rfl) rfl rfl rfl rfl rfl (ww_o rfl) (Nat.le_of_ble_eq_true rfl) (Nat.zero_le _) (Nat.zero_le _) (k_109_86_32 (by first | exact dq1 hd rfl | exact dq0 hd rfl | exact dq2 hd rfl | exact dq3 hd rfl | omega) hI (in_w 0 31 i7x9 rfl) (in_w 0 40 i20 rfl)) (fun e u h => h) (fun v u h => ?_)
                obtain ⟨xa38, ya38, s38, hI38, hF38, z38, rfl, rfl⟩ := h
                show GG _ _ _ _ _ _ _ _ [.long z38] _ _ _
                exact g_lreturn (gd rfl) rfl (hP _ _ ⟨xa38, ya38, s38, hI38, (fr_tr rfl fr_rf hF38), z38, rfl, rfl⟩)
              · skip
                exact zn_eq c28 (in_c 1 rfl) rfl
  · skip
    have i1x5 := r_eq1 (-1) (-1) c1x5 ro_0_2 (in_c (-1) rfl) rfl
    refine g_aload_n 9 (gd rfl) rfl rfl ?_
    refine g_getA (q2 := 1) 12 (gd rfl) rfl rfl rfl rfl ?_
    refine g_getA (q2 := 2) 15 (gd rfl) rfl rfl rfl rfl ?_
    refine g_goto 22 (gd rfl) rfl ?_
    refine g_areturn (gd rfl) rfl (hp1 _ _ ?_)
    show GG _ _ _ _ _ _ _ _ [.ref (A 2)] _ _ _
    refine g_astore_n 5 (gd rfl) rfl (Nat.le_of_ble_eq_true rfl) ?_
    refine g_aload_n 6 (gd rfl) rfl rfl ?_
    refine g_iload_n 7 (gd rfl) rfl rfl ?_
    refine g_callv (X := _) (As := [.int x1]) (r := []) (b := A 2) (q := 2) 10 (gd rfl) rfl rfl rfl rfl rfl (ww_o rfl) (Nat.le_of_ble_eq_true rfl) (mc := 0) (ms := 0) (Nat.zero_le _) (Nat.zero_le _) (P := fun v u => _) ?_ (fun e u h => h) (fun v u h => h)
    intro po7 xx7 hp7 hx7
    refine g_enter2 (k := 94) (N := 300) (by first | exact dq1 hd rfl | exact dq0 hd rfl | exact dq2 hd rfl | exact dq3 hd rfl | omega) rfl (Nat.le_of_ble_eq_true rfl) ?_
    refine g_iload_n 1 (gd rfl) rfl rfl ?_
    refine g_if_lt 4 16 (gd rfl) rfl rfl (fun c7x1 => ?_) (fun c7x1 => ?_)
    · skip
      have i7x1 := z_lt (-2147483648) (-1) c7x1 (i_rng x1) rfl
      refine g_iconst 0 17 (gd rfl) rfl rfl ?_
      refine g_ireturn (gd rfl) rfl (nb01 (in_w 0 1 (in_c 0 rfl) rfl)) (hp7 _ _ ?_)
      show GG _ _ _ _ _ _ _ _ [.int (Int32.ofInt 0)] _ _ _
      refine g_if_eq 13 27 (gd rfl) rfl rfl (fun c10 => ?_) (fun c10 => ?_)
      · skip
        refine g_iconst 0 28 (gd rfl) rfl rfl ?_
        refine g_thr (E := am_IA) (y := yX11_allow) 31 (gd rfl) rfl rfl (Or.inl ⟨rfl, rfl, rfl⟩) (by first | exact dq1 hd rfl | exact dq0 hd rfl | exact dq2 hd rfl | exact dq3 hd rfl | omega) (Nat.le_of_ble_eq_true rfl) (Nat.le_of_ble_eq_true rfl) (Nat.le_of_ble_eq_true rfl) (fun c28 => ?_) (fun c28 => ?_)
        · skip
          exact zn_ne c28 (in_c 0 rfl) rfl
        · skip
          exact (hX _ _ ⟨rfl, s, hI, fr_rf, rfl⟩)
      · skip
        exact zn_ne c10 (in_c 0 rfl) rfl
    · skip
      have i7x1 := z_ge 0 2147483647 c7x1 (i_rng x1) rfl
      refine g_iload_n 5 (gd rfl) rfl rfl ?_
      refine g_aload_n 6 (gd rfl) rfl rfl ?_
      refine g_getI 9 (gd rfl) rfl rfl rfl (fun z7x6 e7x6 => ?_)
      have q7x6 : u_2_1 = z7x6 := (e_2_1).trans e7x6.symm
      subst q7x6
      refine g_cmp_ge 12 16 (gd rfl) rfl rfl (fun c7x9 => ?_) (fun c7x9 => ?_)
      · skip
        refine g_iconst 0 17 (gd rfl) rfl rfl ?_
        refine g_ireturn (gd rfl) rfl (nb01 (in_w 0 1 (in_c 0 rfl) rfl)) (hp7 _ _ ?_)
        show GG _ _ _ _ _ _ _ _ [.int (Int32.ofInt 0)] _ _ _
        refine g_if_eq 13 27 (gd rfl) rfl rfl (fun c10 => ?_) (fun c10 => ?_)
        · skip
          refine g_iconst 0 28 (gd rfl) rfl rfl ?_
          refine g_thr (E := am_IA) (y := yX11_allow) 31 (gd rfl) rfl rfl (Or.inl ⟨rfl, rfl, rfl⟩) (by first | exact dq1 hd rfl | exact dq0 hd rfl | exact dq2 hd rfl | exact dq3 hd rfl | omega) (Nat.le_of_ble_eq_true rfl) (Nat.le_of_ble_eq_true rfl) (Nat.le_of_ble_eq_true rfl) (fun c28 => ?_) (fun c28 => ?_)
          · skip
            exact zn_ne c28 (in_c 0 rfl) rfl
          · skip
            exact (hX _ _ ⟨rfl, s, hI, fr_rf, rfl⟩)
        · skip
          exact zn_ne c10 (in_c 0 rfl) rfl
      · skip
        have i7x9 := r_lt1 0 31 c7x9 i7x1 ro_2_1 rfl
        have i7x9a := r_lt2 1 32 c7x9 i7x1 ro_2_1 rfl
        refine g_iconst 1 13 (gd rfl) rfl rfl ?_
        refine g_goto 17 (gd rfl) rfl ?_
        refine g_ireturn (gd rfl) rfl (nb01 (in_w 0 1 (in_c 1 rfl) rfl)) (hp7 _ _ ?_)
        show GG _ _ _ _ _ _ _ _ [.int (Int32.ofInt 1)] _ _ _
        refine g_if_eq 13 27 (gd rfl) rfl rfl (fun c10 => ?_) (fun c10 => ?_)
        · skip
          exact zn_eq c10 (in_c 1 rfl) rfl
        · skip
          refine g_iload_n 14 (gd rfl) rfl rfl ?_
          refine g_if_lt 17 27 (gd rfl) rfl rfl (fun c14 => ?_) (fun c14 => ?_)
          · skip
            have i14 := z_lt (-2147483648) (-1) c14 (i_rng x2) rfl
            refine g_iconst 0 28 (gd rfl) rfl rfl ?_
            refine g_thr (E := am_IA) (y := yX11_allow) 31 (gd rfl) rfl rfl (Or.inl ⟨rfl, rfl, rfl⟩) (by first | exact dq1 hd rfl | exact dq0 hd rfl | exact dq2 hd rfl | exact dq3 hd rfl | omega) (Nat.le_of_ble_eq_true rfl) (Nat.le_of_ble_eq_true rfl) (Nat.le_of_ble_eq_true rfl) (fun c28 => ?_) (fun c28 => ?_)
            · skip
              exact zn_ne c28 (in_c 0 rfl) rfl
            · skip
              exact (hX _ _ ⟨rfl, s, hI, fr_rf, rfl⟩)
          · skip
            have i14 := z_ge 0 2147483647 c14 (i_rng x2) rfl
            refine g_iload_n 18 (gd rfl) rfl rfl ?_
            refine g_bipush 40 20 (gd rfl) rfl rfl ?_
            refine g_cmp_gt 23 27 (gd rfl) rfl rfl (fun c20 => ?_) (fun c20 => ?_)
            · skip
              have i20 := r_lt2 41 2147483647 c20 (in_c 40 rfl) i14 rfl
              refine g_iconst 0 28 (gd rfl) rfl rfl ?_
              refine g_thr (E := am_IA) (y := yX11_allow) 31 (gd rfl) rfl rfl (Or.inl ⟨rfl, rfl, rfl⟩) (by first | exact dq1 hd rfl | exact dq0 hd rfl | exact dq2 hd rfl | exact dq3 hd rfl | omega) (Nat.le_of_ble_eq_true rfl) (Nat.le_of_ble_eq_true rfl) (Nat.le_of_ble_eq_true rfl) (fun c28 => ?_) (fun c28 => ?_)
              · skip
                exact zn_ne c28 (in_c 0 rfl) rfl
              · skip
                exact (hX _ _ ⟨rfl, s, hI, fr_rf, rfl⟩)
            · skip
              have i20 := r_le1 0 40 c20 i14 (in_c 40 rfl) rfl
              refine g_iconst 1 24 (gd rfl) rfl rfl ?_
              refine g_goto 28 (gd rfl) rfl ?_
              refine g_thr (E := am_IA) (y := yX11_allow) 31 (gd rfl) rfl rfl (Or.inl ⟨rfl, rfl, rfl⟩) (by first | exact dq1 hd rfl | exact dq0 hd rfl | exact dq2 hd rfl | exact dq3 hd rfl | omega) (Nat.le_of_ble_eq_true rfl) (Nat.le_of_ble_eq_true rfl) (Nat.le_of_ble_eq_true rfl) (fun c28 => ?_) (fun c28 => ?_)
              · skip
                refine g_aload_n 32 (gd rfl) rfl rfl ?_
                refine g_getA (q2 := 86) 35 (gd rfl) rfl rfl rfl rfl ?_
                refine g_aload_n 36 (gd rfl) rfl rfl ?_
                refine g_iload_n 37 (gd rfl) rfl rfl ?_
                refine g_iload_n 38 (gd rfl) rfl rfl ?_
                refine g_callv (X := _) (As := [.ref (A 2), .int x1, .int x2]) (r := []) (b := A 86) (q := 86) 41 (gd rfl) rfl rfl rfl rfl rfl (ww_o rfl) (Nat.le_of_ble_eq_true rfl) (Nat.zero_le _) (Nat.zero_le _) (k_109_86_2 (by first | exact dq1 hd rfl | exact dq0 hd rfl | exact dq2 hd rfl | exact dq3 hd rfl | omega) hI (in_w 0 31 i7x9 rfl) (in_w 0 40 i20 rfl)) (fun e u h => h) (fun v u h => ?_)
                obtain ⟨xa38, ya38, s38, hI38, hF38, z38, rfl, rfl⟩ := h
                show GG _ _ _ _ _ _ _ _ [.long z38] _ _ _
                exact g_lreturn (gd rfl) rfl (hP _ _ ⟨xa38, ya38, s38, hI38, (fr_tr rfl fr_rf hF38), z38, rfl, rfl⟩)
              · skip
                exact zn_eq c28 (in_c 1 rfl) rfl

def fm_249_0 : FM := ([9, 10, 11, 12, 13, 14, 15, 39, 40, 41, 42, 43, 44, 45, 52, 54], [53], [(2, 4), (32, 4)], [])
/-- GraphHouse.shortest -/
theorem k_249_0 {Z : AmZ} {A : Nat → Nat} {s : GS} {ex : va_W} {d : Nat} {x1 : Int32} {x2 : Int32} {x3 : Int32} {x4 : Int32} (hd : 7 ≤ d) (hI : Inv s)  : GC Z d 249 [.ref (A 0), .int x1, .int x2, .int x3, .int x4] (WW Z A s ++ ex) 3 18 (fun v u => ∃ t : GS, Inv t ∧ Fr fm_249_0 s t ∧ ∃ z : Int32, v = some (.int z) ∧ u = WW Z A t ++ ex ∧ In z (-2147483648) 2147483647) (gE1 Z A ex fm_249_0 s) := by
  intro post xp hP hX
  obtain ⟨u_0_2, e_0_2⟩ : ∃ w, w = s.2.2.1 0 2 := ⟨_, rfl⟩
  have ro_0_2 := inv_F hI (-1) 4000 rfl e_0_2
  obtain ⟨u_2_1, e_2_1⟩ : ∃ w, w = s.2.2.1 2 1 := ⟨_, rfl⟩
  have ro_2_1 := inv_F hI 0 32 rfl e_2_1
  obtain ⟨u_32_1, e_32_1⟩ : ∃ w, w = s.2.2.1 32 1 := ⟨_, rfl⟩
  have ro_32_1 := inv_F hI 0 32 rfl e_32_1
  have ct47 : ∀ (sc47 : GS) , Inv sc47 → Fr fm_249_0 s sc47 → GG Z (d - 1) 249 post (gx xp) (901) 47 (fun j => xlook j [(0, .ref (A 0)), (1, .int x1), (2, .int x2), (3, .int x3), (4, .int x4)]) [] (WW Z A sc47 ++ ex) 3 18 := by
    intro sc47  hIc47 hFc47 
    refine g_iconst 0 48 (gd rfl) rfl rfl ?_
    refine g_thr (E := am_IA) (y := yX11_allow) 51 (gd rfl) rfl rfl (Or.inl ⟨rfl, rfl, rfl⟩) (by first | exact dq1 hd rfl | exact dq0 hd rfl | exact dq2 hd rfl | exact dq3 hd rfl | omega) (Nat.le_of_ble_eq_true rfl) (Nat.le_of_ble_eq_true rfl) (Nat.le_of_ble_eq_true rfl) (fun c48 => ?_) (fun c48 => ?_)
    · skip
      exact zn_ne c48 (in_c 0 rfl) rfl
    · skip
      exact (hX _ _ ⟨rfl, sc47, hIc47, hFc47, rfl⟩)
  refine g_enter2 (k := 249) (N := 1801) (by first | exact dq1 hd rfl | exact dq0 hd rfl | exact dq2 hd rfl | exact dq3 hd rfl | omega) rfl (Nat.le_of_ble_eq_true rfl) ?_
  refine g_aload_n 1 (gd rfl) rfl rfl ?_
  refine g_callv (X := _) (As := []) (r := []) (b := A 0) (q := 0) 4 (gd rfl) rfl rfl rfl rfl rfl (ww_o rfl) (Nat.le_of_ble_eq_true rfl) (mc := 0) (ms := 0) (Nat.zero_le _) (Nat.zero_le _) (P := fun v u => _) ?_ (fun e u h => h) (fun v u h => h)
  intro po1 xx1 hp1 hx1
  refine g_enter2 (k := 259) (N := 300) (by first | exact dq1 hd rfl | exact dq0 hd rfl | exact dq2 hd rfl | exact dq3 hd rfl | omega) rfl (Nat.le_of_ble_eq_true rfl) ?_
  refine g_aload_n 1 (gd rfl) rfl rfl ?_
  refine g_getI 4 (gd rfl) rfl rfl rfl (fun z1x1 e1x1 => ?_)
  have q1x1 : u_0_2 = z1x1 := (e_0_2).trans e1x1.symm
  subst q1x1
  refine g_iconst (-1) 5 (gd rfl) rfl rfl ?_
  refine g_cmp_ne 8 18 (gd rfl) rfl rfl (fun c1x5 => ?_) (fun c1x5 => ?_)
  · skip
    have i1x5 := r_ne1 0 4000 c1x5 ro_0_2 (in_c (-1) rfl) rfl
    refine g_aload_n 19 (gd rfl) rfl rfl ?_
    refine g_getA (q2 := 32) 22 (gd rfl) rfl rfl rfl rfl ?_
    refine g_areturn (gd rfl) rfl (hp1 _ _ ?_)
    show GG _ _ _ _ _ _ _ _ [.ref (A 32)] _ _ _
    refine g_astore 6 (gd rfl) rfl (Nat.le_of_ble_eq_true rfl) ?_
    refine g_aload 8 (gd rfl) rfl rfl ?_
    refine g_iload_n 9 (gd rfl) rfl rfl ?_
    refine g_callv (X := _) (As := [.int x1]) (r := []) (b := A 32) (q := 32) 12 (gd rfl) rfl rfl rfl rfl rfl (ww_o rfl) (Nat.le_of_ble_eq_true rfl) (mc := 0) (ms := 0) (Nat.zero_le _) (Nat.zero_le _) (P := fun v u => _) ?_ (fun e u h => h) (fun v u h => h)
    intro po9 xx9 hp9 hx9
    refine g_enter2 (k := 94) (N := 300) (by first | exact dq1 hd rfl | exact dq0 hd rfl | exact dq2 hd rfl | exact dq3 hd rfl | omega) rfl (Nat.le_of_ble_eq_true rfl) ?_
    refine g_iload_n 1 (gd rfl) rfl rfl ?_
    refine g_if_lt 4 16 (gd rfl) rfl rfl (fun c9x1 => ?_) (fun c9x1 => ?_)
    · skip
      have i9x1 := z_lt (-2147483648) (-1) c9x1 (i_rng x1) rfl
      refine g_iconst 0 17 (gd rfl) rfl rfl ?_
      refine g_ireturn (gd rfl) rfl (nb01 (in_w 0 1 (in_c 0 rfl) rfl)) (hp9 _ _ ?_)
      show GG _ _ _ _ _ _ _ _ [.int (Int32.ofInt 0)] _ _ _
      refine g_if_eq 15 47 (gd rfl) rfl rfl (fun c12 => ?_) (fun c12 => ?_)
      · skip
        exact gg_w (by first | exact Nat.le_of_ble_eq_true rfl | omega) (gg_f (gf_cons rfl (gf_cons rfl (gf_cons rfl (gf_cons rfl (gf_cons rfl gf_nil))))) (ct47 s  hI fr_rf ))
      · skip
        exact zn_ne c12 (in_c 0 rfl) rfl
    · skip
      have i9x1 := z_ge 0 2147483647 c9x1 (i_rng x1) rfl
      refine g_iload_n 5 (gd rfl) rfl rfl ?_
      refine g_aload_n 6 (gd rfl) rfl rfl ?_
      refine g_getI 9 (gd rfl) rfl rfl rfl (fun z9x6 e9x6 => ?_)
      have q9x6 : u_32_1 = z9x6 := (e_32_1).trans e9x6.symm
      subst q9x6
      refine g_cmp_ge 12 16 (gd rfl) rfl rfl (fun c9x9 => ?_) (fun c9x9 => ?_)
      · skip
        refine g_iconst 0 17 (gd rfl) rfl rfl ?_
        refine g_ireturn (gd rfl) rfl (nb01 (in_w 0 1 (in_c 0 rfl) rfl)) (hp9 _ _ ?_)
        show GG _ _ _ _ _ _ _ _ [.int (Int32.ofInt 0)] _ _ _
        refine g_if_eq 15 47 (gd rfl) rfl rfl (fun c12 => ?_) (fun c12 => ?_)
        · skip
          exact gg_w (by first | exact Nat.le_of_ble_eq_true rfl | omega) (gg_f (gf_cons rfl (gf_cons rfl (gf_cons rfl (gf_cons rfl (gf_cons rfl gf_nil))))) (ct47 s  hI fr_rf ))
        · skip
          exact zn_ne c12 (in_c 0 rfl) rfl
      · skip
        have i9x9 := r_lt1 0 31 c9x9 i9x1 ro_32_1 rfl
        have i9x9a := r_lt2 1 32 c9x9 i9x1 ro_32_1 rfl
        refine g_iconst 1 13 (gd rfl) rfl rfl ?_
        refine g_goto 17 (gd rfl) rfl ?_
        refine g_ireturn (gd rfl) rfl (nb01 (in_w 0 1 (in_c 1 rfl) rfl)) (hp9 _ _ ?_)
        show GG _ _ _ _ _ _ _ _ [.int (Int32.ofInt 1)] _ _ _
        refine g_if_eq 15 47 (gd rfl) rfl rfl (fun c12 => ?_) (fun c12 => ?_)
        · skip
          exact zn_eq c12 (in_c 1 rfl) rfl
        · skip
          refine g_aload 17 (gd rfl) rfl rfl ?_
          refine g_iload_n 18 (gd rfl) rfl rfl ?_
          refine g_callv (X := _) (As := [.int x2]) (r := []) (b := A 32) (q := 32) 21 (gd rfl) rfl rfl rfl rfl rfl (ww_o rfl) (Nat.le_of_ble_eq_true rfl) (mc := 0) (ms := 0) (Nat.zero_le _) (Nat.zero_le _) (P := fun v u => _) ?_ (fun e u h => h) (fun v u h => h)
          intro po18 xx18 hp18 hx18
          refine g_enter2 (k := 94) (N := 300) (by first | exact dq1 hd rfl | exact dq0 hd rfl | exact dq2 hd rfl | exact dq3 hd rfl | omega) rfl (Nat.le_of_ble_eq_true rfl) ?_
          refine g_iload_n 1 (gd rfl) rfl rfl ?_
          refine g_if_lt 4 16 (gd rfl) rfl rfl (fun c18x1 => ?_) (fun c18x1 => ?_)
          · skip
            have i18x1 := z_lt (-2147483648) (-1) c18x1 (i_rng x2) rfl
            refine g_iconst 0 17 (gd rfl) rfl rfl ?_
            refine g_ireturn (gd rfl) rfl (nb01 (in_w 0 1 (in_c 0 rfl) rfl)) (hp18 _ _ ?_)
            show GG _ _ _ _ _ _ _ _ [.int (Int32.ofInt 0)] _ _ _
            refine g_if_eq 24 47 (gd rfl) rfl rfl (fun c21 => ?_) (fun c21 => ?_)
            · skip
              exact gg_w (by first | exact Nat.le_of_ble_eq_true rfl | omega) (gg_f (gf_cons rfl (gf_cons rfl (gf_cons rfl (gf_cons rfl (gf_cons rfl gf_nil))))) (ct47 s  hI fr_rf ))
            · skip
              exact zn_ne c21 (in_c 0 rfl) rfl
          · skip
            have i18x1 := z_ge 0 2147483647 c18x1 (i_rng x2) rfl
            refine g_iload_n 5 (gd rfl) rfl rfl ?_
            refine g_aload_n 6 (gd rfl) rfl rfl ?_
            refine g_getI 9 (gd rfl) rfl rfl rfl (fun z18x6 e18x6 => ?_)
            have q18x6 : u_32_1 = z18x6 := (e_32_1).trans e18x6.symm
            subst q18x6
            refine g_cmp_ge 12 16 (gd rfl) rfl rfl (fun c18x9 => ?_) (fun c18x9 => ?_)
            · skip
              have i18x9 := r_le2 1 2147483647 c18x9 i9x9a i18x1 rfl
              refine g_iconst 0 17 (gd rfl) rfl rfl ?_
              refine g_ireturn (gd rfl) rfl (nb01 (in_w 0 1 (in_c 0 rfl) rfl)) (hp18 _ _ ?_)
              show GG _ _ _ _ _ _ _ _ [.int (Int32.ofInt 0)] _ _ _
              refine g_if_eq 24 47 (gd rfl) rfl rfl (fun c21 => ?_) (fun c21 => ?_)
              · skip
                exact gg_w (by first | exact Nat.le_of_ble_eq_true rfl | omega) (gg_f (gf_cons rfl (gf_cons rfl (gf_cons rfl (gf_cons rfl (gf_cons rfl gf_nil))))) (ct47 s  hI fr_rf ))
              · skip
                exact zn_ne c21 (in_c 0 rfl) rfl
            · skip
              have i18x9 := r_lt1 0 31 c18x9 i18x1 i9x9a rfl
              refine g_iconst 1 13 (gd rfl) rfl rfl ?_
              refine g_goto 17 (gd rfl) rfl ?_
              refine g_ireturn (gd rfl) rfl (nb01 (in_w 0 1 (in_c 1 rfl) rfl)) (hp18 _ _ ?_)
              show GG _ _ _ _ _ _ _ _ [.int (Int32.ofInt 1)] _ _ _
              refine g_if_eq 24 47 (gd rfl) rfl rfl (fun c21 => ?_) (fun c21 => ?_)
              · skip
                exact zn_eq c21 (in_c 1 rfl) rfl
              · skip
                refine g_iload_n 25 (gd rfl) rfl rfl ?_
                refine g_if_lt 28 47 (gd rfl) rfl rfl (fun c25 => ?_) (fun c25 => ?_)
                · skip
                  have i25 := z_lt (-2147483648) (-1) c25 (i_rng x3) rfl
                  exact gg_w (by first | exact Nat.le_of_ble_eq_true rfl | omega) (gg_f (gf_cons rfl (gf_cons rfl (gf_cons rfl (gf_cons rfl (gf_cons rfl gf_nil))))) (ct47 s  hI fr_rf ))
                · skip
                  have i25 := z_ge 0 2147483647 c25 (i_rng x3) rfl
                  refine g_iload_n 29 (gd rfl) rfl rfl ?_
                  refine g_iconst 2 30 (gd rfl) rfl rfl ?_
                  refine g_cmp_gt 33 47 (gd rfl) rfl rfl (fun c30 => ?_) (fun c30 => ?_)
                  · skip
                    have i30 := r_lt2 3 2147483647 c30 (in_c 2 rfl) i25 rfl
                    exact gg_w (by first | exact Nat.le_of_ble_eq_true rfl | omega) (gg_f (gf_cons rfl (gf_cons rfl (gf_cons rfl (gf_cons rfl (gf_cons rfl gf_nil))))) (ct47 s  hI fr_rf ))
                  · skip
                    have i30 := r_le1 0 2 c30 i25 (in_c 2 rfl) rfl
                    refine g_aload 35 (gd rfl) rfl rfl ?_
                    refine g_iload 37 (gd rfl) rfl rfl ?_
                    refine g_callv (X := _) (As := [.int x4]) (r := []) (b := A 32) (q := 32) 40 (gd rfl) rfl rfl rfl rfl rfl (ww_o rfl) (Nat.le_of_ble_eq_true rfl) (mc := 0) (ms := 0) (Nat.zero_le _) (Nat.zero_le _) (P := fun v u => _) ?_ (fun e u h => h) (fun v u h => h)
                    intro po37 xx37 hp37 hx37
                    refine g_enter2 (k := 94) (N := 300) (by first | exact dq1 hd rfl | exact dq0 hd rfl | exact dq2 hd rfl | exact dq3 hd rfl | omega) rfl (Nat.le_of_ble_eq_true rfl) ?_
                    refine g_iload_n 1 (gd rfl) rfl rfl ?_
                    refine g_if_lt 4 16 (gd rfl) rfl rfl (fun c37x1 => ?_) (fun c37x1 => ?_)
                    · skip
                      have i37x1 := z_lt (-2147483648) (-1) c37x1 (i_rng x4) rfl
                      refine g_iconst 0 17 (gd rfl) rfl rfl ?_
                      refine g_ireturn (gd rfl) rfl (nb01 (in_w 0 1 (in_c 0 rfl) rfl)) (hp37 _ _ ?_)
                      show GG _ _ _ _ _ _ _ _ [.int (Int32.ofInt 0)] _ _ _
                      refine g_if_eq 43 47 (gd rfl) rfl rfl (fun c40 => ?_) (fun c40 => ?_)
                      · skip
                        exact gg_w (by first | exact Nat.le_of_ble_eq_true rfl | omega) (gg_f (gf_cons rfl (gf_cons rfl (gf_cons rfl (gf_cons rfl (gf_cons rfl gf_nil))))) (ct47 s  hI fr_rf ))
                      · skip
                        exact zn_ne c40 (in_c 0 rfl) rfl
                    · skip
                      have i37x1 := z_ge 0 2147483647 c37x1 (i_rng x4) rfl
                      refine g_iload_n 5 (gd rfl) rfl rfl ?_
                      refine g_aload_n 6 (gd rfl) rfl rfl ?_
                      refine g_getI 9 (gd rfl) rfl rfl rfl (fun z37x6 e37x6 => ?_)
                      have q37x6 : u_32_1 = z37x6 := (e_32_1).trans e37x6.symm
                      subst q37x6
                      refine g_cmp_ge 12 16 (gd rfl) rfl rfl (fun c37x9 => ?_) (fun c37x9 => ?_)
                      · skip
                        have i37x9 := r_le2 1 2147483647 c37x9 i9x9a i37x1 rfl
                        refine g_iconst 0 17 (gd rfl) rfl rfl ?_
                        refine g_ireturn (gd rfl) rfl (nb01 (in_w 0 1 (in_c 0 rfl) rfl)) (hp37 _ _ ?_)
                        show GG _ _ _ _ _ _ _ _ [.int (Int32.ofInt 0)] _ _ _
                        refine g_if_eq 43 47 (gd rfl) rfl rfl (fun c40 => ?_) (fun c40 => ?_)
                        · skip
                          exact gg_w (by first | exact Nat.le_of_ble_eq_true rfl | omega) (gg_f (gf_cons rfl (gf_cons rfl (gf_cons rfl (gf_cons rfl (gf_cons rfl gf_nil))))) (ct47 s  hI fr_rf ))
                        · skip
                          exact zn_ne c40 (in_c 0 rfl) rfl
                      · skip
                        have i37x9 := r_lt1 0 31 c37x9 i37x1 i9x9a rfl
                        refine g_iconst 1 13 (gd rfl) rfl rfl ?_
                        refine g_goto 17 (gd rfl) rfl ?_
                        refine g_ireturn (gd rfl) rfl (nb01 (in_w 0 1 (in_c 1 rfl) rfl)) (hp37 _ _ ?_)
                        show GG _ _ _ _ _ _ _ _ [.int (Int32.ofInt 1)] _ _ _
                        refine g_if_eq 43 47 (gd rfl) rfl rfl (fun c40 => ?_) (fun c40 => ?_)
                        · skip
                          exact zn_eq c40 (in_c 1 rfl) rfl
                        · skip
                          refine g_iconst 1 44 (gd rfl) rfl rfl ?_
                          refine g_goto 48 (gd rfl) rfl ?_
                          refine g_thr (E := am_IA) (y := yX11_allow) 51 (gd rfl) rfl rfl (Or.inl ⟨rfl, rfl, rfl⟩) (by first | exact dq1 hd rfl | exact dq0 hd rfl | exact dq2 hd rfl | exact dq3 hd rfl | omega) (Nat.le_of_ble_eq_true rfl) (Nat.le_of_ble_eq_true rfl) (Nat.le_of_ble_eq_true rfl) (fun c48 => ?_) (fun c48 => ?_)
                          · skip
                            refine g_iload_n 52 (gd rfl) rfl rfl ?_
                            refine g_if_ne 55 67 (gd rfl) rfl rfl (fun c52 => ?_) (fun c52 => ?_)
                            · skip
                              have i52 := z_ne 1 2 c52 i30 rfl
                              refine g_iload_n 68 (gd rfl) rfl rfl ?_
                              refine g_iconst 1 69 (gd rfl) rfl rfl ?_
                              refine g_cmp_ne 72 87 (gd rfl) rfl rfl (fun c69 => ?_) (fun c69 => ?_)
                              · skip
                                have i69 := r_ne1 2 2 c69 i52 (in_c 1 rfl) rfl
                                refine g_aload_n 88 (gd rfl) rfl rfl ?_
                                refine g_getA (q2 := 49) 91 (gd rfl) rfl rfl rfl rfl ?_
                                refine g_aload 93 (gd rfl) rfl rfl ?_
                                refine g_iload_n 94 (gd rfl) rfl rfl ?_
                                refine g_iload_n 95 (gd rfl) rfl rfl ?_
                                refine g_iload 97 (gd rfl) rfl rfl ?_
                                refine g_callv (X := _) (As := [.ref (A 32), .int x1, .int x2, .int x4]) (r := []) (b := A 49) (q := 49) 100 (gd rfl) rfl rfl rfl rfl rfl (ww_o rfl) (Nat.le_of_ble_eq_true rfl) (Nat.zero_le _) (Nat.zero_le _) (k_203_49_32 (by first | exact dq1 hd rfl | exact dq0 hd rfl | exact dq2 hd rfl | exact dq3 hd rfl | omega) hI (in_w 0 31 i9x9 rfl) (in_w 0 31 i18x9 rfl) (in_w 0 31 i37x9 rfl)) (fun e u h => h) (fun v u h => ?_)
                                obtain ⟨s97, hI97, hF97, z97, rfl, rfl, i97⟩ := h
                                show GG _ _ _ _ _ _ _ _ [.int z97] _ _ _
                                exact g_ireturn (gd rfl) rfl rfl (hP _ _ ⟨s97, hI97, (fr_tr rfl fr_rf hF97), z97, rfl, rfl, in_w (-2147483648) 2147483647 i97 rfl⟩)
                              · skip
                                have i69 := r_eq1 1 1 c69 i52 (in_c 1 rfl) rfl
                                refine g_aload_n 73 (gd rfl) rfl rfl ?_
                                refine g_getA (q2 := 49) 76 (gd rfl) rfl rfl rfl rfl ?_
                                refine g_aload 78 (gd rfl) rfl rfl ?_
                                refine g_iload_n 79 (gd rfl) rfl rfl ?_
                                refine g_iload_n 80 (gd rfl) rfl rfl ?_
                                refine g_iload_n 81 (gd rfl) rfl rfl ?_
                                refine g_callv (X := _) (As := [.ref (A 32), .int x1, .int x2, .int x1]) (r := []) (b := A 49) (q := 49) 84 (gd rfl) rfl rfl rfl rfl rfl (ww_o rfl) (Nat.le_of_ble_eq_true rfl) (Nat.zero_le _) (Nat.zero_le _) (k_203_49_32 (by first | exact dq1 hd rfl | exact dq0 hd rfl | exact dq2 hd rfl | exact dq3 hd rfl | omega) hI (in_w 0 31 i9x9 rfl) (in_w 0 31 i18x9 rfl) (in_w 0 31 i9x9 rfl)) (fun e u h => h) (fun v u h => ?_)
                                obtain ⟨s81, hI81, hF81, z81, rfl, rfl, i81⟩ := h
                                show GG _ _ _ _ _ _ _ _ [.int z81] _ _ _
                                refine g_goto 100 (gd rfl) rfl ?_
                                exact g_ireturn (gd rfl) rfl rfl (hP _ _ ⟨s81, hI81, (fr_tr rfl fr_rf hF81), z81, rfl, rfl, in_w (-2147483648) 2147483647 i81 rfl⟩)
                            · skip
                              have i52 := z_eq 0 0 c52 i30 rfl
                              refine g_aload_n 56 (gd rfl) rfl rfl ?_
                              refine g_getA (q2 := 49) 59 (gd rfl) rfl rfl rfl rfl ?_
                              refine g_aload 61 (gd rfl) rfl rfl ?_
                              refine g_iload_n 62 (gd rfl) rfl rfl ?_
                              refine g_iload_n 63 (gd rfl) rfl rfl ?_
                              refine g_callv (X := _) (As := [.ref (A 32), .int x1, .int x2]) (r := []) (b := A 49) (q := 49) 66 (gd rfl) rfl rfl rfl rfl rfl (ww_o rfl) (Nat.le_of_ble_eq_true rfl) (mc := 0) (ms := 0) (Nat.zero_le _) (Nat.zero_le _) (P := fun v u => _) ?_ (fun e u h => h) (fun v u h => h)
                              intro po63 xx63 hp63 hx63
                              refine g_enter2 (k := 202) (N := 300) (by first | exact dq1 hd rfl | exact dq0 hd rfl | exact dq2 hd rfl | exact dq3 hd rfl | omega) rfl (Nat.le_of_ble_eq_true rfl) ?_
                              refine g_aload_n 1 (gd rfl) rfl rfl ?_
                              refine g_aload_n 2 (gd rfl) rfl rfl ?_
                              refine g_iload_n 3 (gd rfl) rfl rfl ?_
                              refine g_callv (X := _) (As := [.ref (A 32), .int x1]) (r := []) (b := A 49) (q := 49) 6 (gd rfl) rfl rfl rfl rfl rfl (ww_o rfl) (Nat.le_of_ble_eq_true rfl) (Nat.zero_le _) (Nat.zero_le _) (k_204_49_32 (by first | exact dq1 hd rfl | exact dq0 hd rfl | exact dq2 hd rfl | exact dq3 hd rfl | omega) hI (in_w 0 31 i9x9 rfl)) (fun e u h => h) (fun v u h => ?_)
                              obtain ⟨s63x3, hI63x3, hF63x3, rfl, rfl⟩ := h
                              show GG _ _ _ _ _ _ _ _ [] _ _ _
                              refine g_aload_n 7 (gd rfl) rfl rfl ?_
                              refine g_getA (q2 := 52) 10 (gd rfl) rfl rfl rfl rfl ?_
                              refine g_iload_n 11 (gd rfl) rfl rfl ?_
                              refine g_iaload 12 (gd rfl) rfl (n := 32) rfl (in_ix i18x9 rfl) (fun z63x11 e63x11 => ?_)
                              refine g_ireturn (gd rfl) rfl rfl (hp63 _ _ ?_)
                              show GG _ _ _ _ _ _ _ _ [.int z63x11] _ _ _
                              exact g_ireturn (gd rfl) rfl rfl (hP _ _ ⟨s63x3, hI63x3, (fr_tr rfl fr_rf hF63x3), z63x11, rfl, rfl, in_w (-2147483648) 2147483647 (i_rng z63x11) rfl⟩)
                          · skip
                            exact zn_eq c48 (in_c 1 rfl) rfl
  · skip
    have i1x5 := r_eq1 (-1) (-1) c1x5 ro_0_2 (in_c (-1) rfl) rfl
    refine g_aload_n 9 (gd rfl) rfl rfl ?_
    refine g_getA (q2 := 1) 12 (gd rfl) rfl rfl rfl rfl ?_
    refine g_getA (q2 := 2) 15 (gd rfl) rfl rfl rfl rfl ?_
    refine g_goto 22 (gd rfl) rfl ?_
    refine g_areturn (gd rfl) rfl (hp1 _ _ ?_)
    show GG _ _ _ _ _ _ _ _ [.ref (A 2)] _ _ _
    refine g_astore 6 (gd rfl) rfl (Nat.le_of_ble_eq_true rfl) ?_
    refine g_aload 8 (gd rfl) rfl rfl ?_
    refine g_iload_n 9 (gd rfl) rfl rfl ?_
    refine g_callv (X := _) (As := [.int x1]) (r := []) (b := A 2) (q := 2) 12 (gd rfl) rfl rfl rfl rfl rfl (ww_o rfl) (Nat.le_of_ble_eq_true rfl) (mc := 0) (ms := 0) (Nat.zero_le _) (Nat.zero_le _) (P := fun v u => _) ?_ (fun e u h => h) (fun v u h => h)
    intro po9 xx9 hp9 hx9
    refine g_enter2 (k := 94) (N := 300) (by first | exact dq1 hd rfl | exact dq0 hd rfl | exact dq2 hd rfl | exact dq3 hd rfl | omega) rfl (Nat.le_of_ble_eq_true rfl) ?_
    refine g_iload_n 1 (gd rfl) rfl rfl ?_
    refine g_if_lt 4 16 (gd rfl) rfl rfl (fun c9x1 => ?_) (fun c9x1 => ?_)
    · skip
      have i9x1 := z_lt (-2147483648) (-1) c9x1 (i_rng x1) rfl
      refine g_iconst 0 17 (gd rfl) rfl rfl ?_
      refine g_ireturn (gd rfl) rfl (nb01 (in_w 0 1 (in_c 0 rfl) rfl)) (hp9 _ _ ?_)
      show GG _ _ _ _ _ _ _ _ [.int (Int32.ofInt 0)] _ _ _
      refine g_if_eq 15 47 (gd rfl) rfl rfl (fun c12 => ?_) (fun c12 => ?_)
      · skip
        exact gg_w (by first | exact Nat.le_of_ble_eq_true rfl | omega) (gg_f (gf_cons rfl (gf_cons rfl (gf_cons rfl (gf_cons rfl (gf_cons rfl gf_nil))))) (ct47 s  hI fr_rf ))
      · skip
        exact zn_ne c12 (in_c 0 rfl) rfl
    · skip
      have i9x1 := z_ge 0 2147483647 c9x1 (i_rng x1) rfl
      refine g_iload_n 5 (gd rfl) rfl rfl ?_
      refine g_aload_n 6 (gd rfl) rfl rfl ?_
      refine g_getI 9 (gd rfl) rfl rfl rfl (fun z9x6 e9x6 => ?_)
      have q9x6 : u_2_1 = z9x6 := (e_2_1).trans e9x6.symm
      subst q9x6
      refine g_cmp_ge 12 16 (gd rfl) rfl rfl (fun c9x9 => ?_) (fun c9x9 => ?_)
      · skip
        refine g_iconst 0 17 (gd rfl) rfl rfl ?_
        refine g_ireturn (gd rfl) rfl (nb01 (in_w 0 1 (in_c 0 rfl) rfl)) (hp9 _ _ ?_)
        show GG _ _ _ _ _ _ _ _ [.int (Int32.ofInt 0)] _ _ _
        refine g_if_eq 15 47 (gd rfl) rfl rfl (fun c12 => ?_) (fun c12 => ?_)
        · skip
          exact gg_w (by first | exact Nat.le_of_ble_eq_true rfl | omega) (gg_f (gf_cons rfl (gf_cons rfl (gf_cons rfl (gf_cons rfl (gf_cons rfl gf_nil))))) (ct47 s  hI fr_rf ))
        · skip
          exact zn_ne c12 (in_c 0 rfl) rfl
      · skip
        have i9x9 := r_lt1 0 31 c9x9 i9x1 ro_2_1 rfl
        have i9x9a := r_lt2 1 32 c9x9 i9x1 ro_2_1 rfl
        refine g_iconst 1 13 (gd rfl) rfl rfl ?_
        refine g_goto 17 (gd rfl) rfl ?_
        refine g_ireturn (gd rfl) rfl (nb01 (in_w 0 1 (in_c 1 rfl) rfl)) (hp9 _ _ ?_)
        show GG _ _ _ _ _ _ _ _ [.int (Int32.ofInt 1)] _ _ _
        refine g_if_eq 15 47 (gd rfl) rfl rfl (fun c12 => ?_) (fun c12 => ?_)
        · skip
          exact zn_eq c12 (in_c 1 rfl) rfl
        · skip
          refine g_aload 17 (gd rfl) rfl rfl ?_
          refine g_iload_n 18 (gd rfl) rfl rfl ?_
          refine g_callv (X := _) (As := [.int x2]) (r := []) (b := A 2) (q := 2) 21 (gd rfl) rfl rfl rfl rfl rfl (ww_o rfl) (Nat.le_of_ble_eq_true rfl) (mc := 0) (ms := 0) (Nat.zero_le _) (Nat.zero_le _) (P := fun v u => _) ?_ (fun e u h => h) (fun v u h => h)
          intro po18 xx18 hp18 hx18
          refine g_enter2 (k := 94) (N := 300) (by first | exact dq1 hd rfl | exact dq0 hd rfl | exact dq2 hd rfl | exact dq3 hd rfl | omega) rfl (Nat.le_of_ble_eq_true rfl) ?_
          refine g_iload_n 1 (gd rfl) rfl rfl ?_
          refine g_if_lt 4 16 (gd rfl) rfl rfl (fun c18x1 => ?_) (fun c18x1 => ?_)
          · skip
            have i18x1 := z_lt (-2147483648) (-1) c18x1 (i_rng x2) rfl
            refine g_iconst 0 17 (gd rfl) rfl rfl ?_
            refine g_ireturn (gd rfl) rfl (nb01 (in_w 0 1 (in_c 0 rfl) rfl)) (hp18 _ _ ?_)
            show GG _ _ _ _ _ _ _ _ [.int (Int32.ofInt 0)] _ _ _
            refine g_if_eq 24 47 (gd rfl) rfl rfl (fun c21 => ?_) (fun c21 => ?_)
            · skip
              exact gg_w (by first | exact Nat.le_of_ble_eq_true rfl | omega) (gg_f (gf_cons rfl (gf_cons rfl (gf_cons rfl (gf_cons rfl (gf_cons rfl gf_nil))))) (ct47 s  hI fr_rf ))
            · skip
              exact zn_ne c21 (in_c 0 rfl) rfl
          · skip
            have i18x1 := z_ge 0 2147483647 c18x1 (i_rng x2) rfl
            refine g_iload_n 5 (gd rfl) rfl rfl ?_
            refine g_aload_n 6 (gd rfl) rfl rfl ?_
            refine g_getI 9 (gd rfl) rfl rfl rfl (fun z18x6 e18x6 => ?_)
            have q18x6 : u_2_1 = z18x6 := (e_2_1).trans e18x6.symm
            subst q18x6
            refine g_cmp_ge 12 16 (gd rfl) rfl rfl (fun c18x9 => ?_) (fun c18x9 => ?_)
            · skip
              have i18x9 := r_le2 1 2147483647 c18x9 i9x9a i18x1 rfl
              refine g_iconst 0 17 (gd rfl) rfl rfl ?_
              refine g_ireturn (gd rfl) rfl (nb01 (in_w 0 1 (in_c 0 rfl) rfl)) (hp18 _ _ ?_)
              show GG _ _ _ _ _ _ _ _ [.int (Int32.ofInt 0)] _ _ _
              refine g_if_eq 24 47 (gd rfl) rfl rfl (fun c21 => ?_) (fun c21 => ?_)
              · skip
                exact gg_w (by first | exact Nat.le_of_ble_eq_true rfl | omega) (gg_f (gf_cons rfl (gf_cons rfl (gf_cons rfl (gf_cons rfl (gf_cons rfl gf_nil))))) (ct47 s  hI fr_rf ))
              · skip
                exact zn_ne c21 (in_c 0 rfl) rfl
            · skip
              have i18x9 := r_lt1 0 31 c18x9 i18x1 i9x9a rfl
              refine g_iconst 1 13 (gd rfl) rfl rfl ?_
              refine g_goto 17 (gd rfl) rfl ?_
              refine g_ireturn (gd rfl) rfl (nb01 (in_w 0 1 (in_c 1 rfl) rfl)) (hp18 _ _ ?_)
              show GG _ _ _ _ _ _ _ _ [.int (Int32.ofInt 1)] _ _ _
              refine g_if_eq 24 47 (gd rfl) rfl rfl (fun c21 => ?_) (fun c21 => ?_)
              · skip
                exact zn_eq c21 (in_c 1 rfl) rfl
              · skip
                refine g_iload_n 25 (gd rfl) rfl rfl ?_
                refine g_if_lt 28 47 (gd rfl) rfl rfl (fun c25 => ?_) (fun c25 => ?_)
                · skip
                  have i25 := z_lt (-2147483648) (-1) c25 (i_rng x3) rfl
                  exact gg_w (by first | exact Nat.le_of_ble_eq_true rfl | omega) (gg_f (gf_cons rfl (gf_cons rfl (gf_cons rfl (gf_cons rfl (gf_cons rfl gf_nil))))) (ct47 s  hI fr_rf ))
                · skip
                  have i25 := z_ge 0 2147483647 c25 (i_rng x3) rfl
                  refine g_iload_n 29 (gd rfl) rfl rfl ?_
                  refine g_iconst 2 30 (gd rfl) rfl rfl ?_
                  refine g_cmp_gt 33 47 (gd rfl) rfl rfl (fun c30 => ?_) (fun c30 => ?_)
                  · skip
                    have i30 := r_lt2 3 2147483647 c30 (in_c 2 rfl) i25 rfl
                    exact gg_w (by first | exact Nat.le_of_ble_eq_true rfl | omega) (gg_f (gf_cons rfl (gf_cons rfl (gf_cons rfl (gf_cons rfl (gf_cons rfl gf_nil))))) (ct47 s  hI fr_rf ))
                  · skip
                    have i30 := r_le1 0 2 c30 i25 (in_c 2 rfl) rfl
                    refine g_aload 35 (gd rfl) rfl rfl ?_
                    refine g_iload 37 (gd rfl) rfl rfl ?_
                    refine g_callv (X := _) (As := [.int x4]) (r := []) (b := A 2) (q := 2) 40 (gd rfl) rfl rfl rfl rfl rfl (ww_o rfl) (Nat.le_of_ble_eq_true rfl) (mc := 0) (ms := 0) (Nat.zero_le _) (Nat.zero_le _) (P := fun v u => _) ?_ (fun e u h => h) (fun v u h => h)
                    intro po37 xx37 hp37 hx37
                    refine g_enter2 (k := 94) (N := 300) (by first | exact dq1 hd rfl | exact dq0 hd rfl | exact dq2 hd rfl | exact dq3 hd rfl | omega) rfl (Nat.le_of_ble_eq_true rfl) ?_
                    refine g_iload_n 1 (gd rfl) rfl rfl ?_
                    refine g_if_lt 4 16 (gd rfl) rfl rfl (fun c37x1 => ?_) (fun c37x1 => ?_)
                    · skip
                      have i37x1 := z_lt (-2147483648) (-1) c37x1 (i_rng x4) rfl
                      refine g_iconst 0 17 (gd rfl) rfl rfl ?_
                      refine g_ireturn (gd rfl) rfl (nb01 (in_w 0 1 (in_c 0 rfl) rfl)) (hp37 _ _ ?_)
                      show GG _ _ _ _ _ _ _ _ [.int (Int32.ofInt 0)] _ _ _
                      refine g_if_eq 43 47 (gd rfl) rfl rfl (fun c40 => ?_) (fun c40 => ?_)
                      · skip
                        exact gg_w (by first | exact Nat.le_of_ble_eq_true rfl | omega) (gg_f (gf_cons rfl (gf_cons rfl (gf_cons rfl (gf_cons rfl (gf_cons rfl gf_nil))))) (ct47 s  hI fr_rf ))
                      · skip
                        exact zn_ne c40 (in_c 0 rfl) rfl
                    · skip
                      have i37x1 := z_ge 0 2147483647 c37x1 (i_rng x4) rfl
                      refine g_iload_n 5 (gd rfl) rfl rfl ?_
                      refine g_aload_n 6 (gd rfl) rfl rfl ?_
                      refine g_getI 9 (gd rfl) rfl rfl rfl (fun z37x6 e37x6 => ?_)
                      have q37x6 : u_2_1 = z37x6 := (e_2_1).trans e37x6.symm
                      subst q37x6
                      refine g_cmp_ge 12 16 (gd rfl) rfl rfl (fun c37x9 => ?_) (fun c37x9 => ?_)
                      · skip
                        have i37x9 := r_le2 1 2147483647 c37x9 i9x9a i37x1 rfl
                        refine g_iconst 0 17 (gd rfl) rfl rfl ?_
                        refine g_ireturn (gd rfl) rfl (nb01 (in_w 0 1 (in_c 0 rfl) rfl)) (hp37 _ _ ?_)
                        show GG _ _ _ _ _ _ _ _ [.int (Int32.ofInt 0)] _ _ _
                        refine g_if_eq 43 47 (gd rfl) rfl rfl (fun c40 => ?_) (fun c40 => ?_)
                        · skip
                          exact gg_w (by first | exact Nat.le_of_ble_eq_true rfl | omega) (gg_f (gf_cons rfl (gf_cons rfl (gf_cons rfl (gf_cons rfl (gf_cons rfl gf_nil))))) (ct47 s  hI fr_rf ))
                        · skip
                          exact zn_ne c40 (in_c 0 rfl) rfl
                      · skip
                        have i37x9 := r_lt1 0 31 c37x9 i37x1 i9x9a rfl
                        refine g_iconst 1 13 (gd rfl) rfl rfl ?_
                        refine g_goto 17 (gd rfl) rfl ?_
                        refine g_ireturn (gd rfl) rfl (nb01 (in_w 0 1 (in_c 1 rfl) rfl)) (hp37 _ _ ?_)
                        show GG _ _ _ _ _ _ _ _ [.int (Int32.ofInt 1)] _ _ _
                        refine g_if_eq 43 47 (gd rfl) rfl rfl (fun c40 => ?_) (fun c40 => ?_)
                        · skip
                          exact zn_eq c40 (in_c 1 rfl) rfl
                        · skip
                          refine g_iconst 1 44 (gd rfl) rfl rfl ?_
                          refine g_goto 48 (gd rfl) rfl ?_
                          refine g_thr (E := am_IA) (y := yX11_allow) 51 (gd rfl) rfl rfl (Or.inl ⟨rfl, rfl, rfl⟩) (by first | exact dq1 hd rfl | exact dq0 hd rfl | exact dq2 hd rfl | exact dq3 hd rfl | omega) (Nat.le_of_ble_eq_true rfl) (Nat.le_of_ble_eq_true rfl) (Nat.le_of_ble_eq_true rfl) (fun c48 => ?_) (fun c48 => ?_)
                          · skip
                            refine g_iload_n 52 (gd rfl) rfl rfl ?_
                            refine g_if_ne 55 67 (gd rfl) rfl rfl (fun c52 => ?_) (fun c52 => ?_)
                            · skip
                              have i52 := z_ne 1 2 c52 i30 rfl
                              refine g_iload_n 68 (gd rfl) rfl rfl ?_
                              refine g_iconst 1 69 (gd rfl) rfl rfl ?_
                              refine g_cmp_ne 72 87 (gd rfl) rfl rfl (fun c69 => ?_) (fun c69 => ?_)
                              · skip
                                have i69 := r_ne1 2 2 c69 i52 (in_c 1 rfl) rfl
                                refine g_aload_n 88 (gd rfl) rfl rfl ?_
                                refine g_getA (q2 := 49) 91 (gd rfl) rfl rfl rfl rfl ?_
                                refine g_aload 93 (gd rfl) rfl rfl ?_
                                refine g_iload_n 94 (gd rfl) rfl rfl ?_
                                refine g_iload_n 95 (gd rfl) rfl rfl ?_
                                refine g_iload 97 (gd rfl) rfl rfl ?_
                                refine g_callv (X := _) (As := [.ref (A 2), .int x1, .int x2, .int x4]) (r := []) (b := A 49) (q := 49) 100 (gd rfl) rfl rfl rfl rfl rfl (ww_o rfl) (Nat.le_of_ble_eq_true rfl) (Nat.zero_le _) (Nat.zero_le _) (k_203_49_2 (by first | exact dq1 hd rfl | exact dq0 hd rfl | exact dq2 hd rfl | exact dq3 hd rfl | omega) hI (in_w 0 31 i9x9 rfl) (in_w 0 31 i18x9 rfl) (in_w 0 31 i37x9 rfl)) (fun e u h => h) (fun v u h => ?_)
                                obtain ⟨s97, hI97, hF97, z97, rfl, rfl, i97⟩ := h
                                show GG _ _ _ _ _ _ _ _ [.int z97] _ _ _
                                exact g_ireturn (gd rfl) rfl rfl (hP _ _ ⟨s97, hI97, (fr_tr rfl fr_rf hF97), z97, rfl, rfl, in_w (-2147483648) 2147483647 i97 rfl⟩)
                              · skip
                                have i69 := r_eq1 1 1 c69 i52 (in_c 1 rfl) rfl
                                refine g_aload_n 73 (gd rfl) rfl rfl ?_
                                refine g_getA (q2 := 49) 76 (gd rfl) rfl rfl rfl rfl ?_
                                refine g_aload 78 (gd rfl) rfl rfl ?_
                                refine g_iload_n 79 (gd rfl) rfl rfl ?_
                                refine g_iload_n 80 (gd rfl) rfl rfl ?_
                                refine g_iload_n 81 (gd rfl) rfl rfl ?_
                                refine g_callv (X := _) (As := [.ref (A 2), .int x1, .int x2, .int x1]) (r := []) (b := A 49) (q := 49) 84 (gd rfl) rfl rfl rfl rfl rfl (ww_o rfl) (Nat.le_of_ble_eq_true rfl) (Nat.zero_le _) (Nat.zero_le _) (k_203_49_2 (by first | exact dq1 hd rfl | exact dq0 hd rfl | exact dq2 hd rfl | exact dq3 hd rfl | omega) hI (in_w 0 31 i9x9 rfl) (in_w 0 31 i18x9 rfl) (in_w 0 31 i9x9 rfl)) (fun e u h => h) (fun v u h => ?_)
                                obtain ⟨s81, hI81, hF81, z81, rfl, rfl, i81⟩ := h
                                show GG _ _ _ _ _ _ _ _ [.int z81] _ _ _
                                refine g_goto 100 (gd rfl) rfl ?_
                                exact g_ireturn (gd rfl) rfl rfl (hP _ _ ⟨s81, hI81, (fr_tr rfl fr_rf hF81), z81, rfl, rfl, in_w (-2147483648) 2147483647 i81 rfl⟩)
                            · skip
                              have i52 := z_eq 0 0 c52 i30 rfl
                              refine g_aload_n 56 (gd rfl) rfl rfl ?_
                              refine g_getA (q2 := 49) 59 (gd rfl) rfl rfl rfl rfl ?_
                              refine g_aload 61 (gd rfl) rfl rfl ?_
                              refine g_iload_n 62 (gd rfl) rfl rfl ?_
                              refine g_iload_n 63 (gd rfl) rfl rfl ?_
                              refine g_callv (X := _) (As := [.ref (A 2), .int x1, .int x2]) (r := []) (b := A 49) (q := 49) 66 (gd rfl) rfl rfl rfl rfl rfl (ww_o rfl) (Nat.le_of_ble_eq_true rfl) (mc := 0) (ms := 0) (Nat.zero_le _) (Nat.zero_le _) (P := fun v u => _) ?_ (fun e u h => h) (fun v u h => h)
                              intro po63 xx63 hp63 hx63
                              refine g_enter2 (k := 202) (N := 300) (by first | exact dq1 hd rfl | exact dq0 hd rfl | exact dq2 hd rfl | exact dq3 hd rfl | omega) rfl (Nat.le_of_ble_eq_true rfl) ?_
                              refine g_aload_n 1 (gd rfl) rfl rfl ?_
                              refine g_aload_n 2 (gd rfl) rfl rfl ?_
                              refine g_iload_n 3 (gd rfl) rfl rfl ?_
                              refine g_callv (X := _) (As := [.ref (A 2), .int x1]) (r := []) (b := A 49) (q := 49) 6 (gd rfl) rfl rfl rfl rfl rfl (ww_o rfl) (Nat.le_of_ble_eq_true rfl) (Nat.zero_le _) (Nat.zero_le _) (k_204_49_2 (by first | exact dq1 hd rfl | exact dq0 hd rfl | exact dq2 hd rfl | exact dq3 hd rfl | omega) hI (in_w 0 31 i9x9 rfl)) (fun e u h => h) (fun v u h => ?_)
                              obtain ⟨s63x3, hI63x3, hF63x3, rfl, rfl⟩ := h
                              show GG _ _ _ _ _ _ _ _ [] _ _ _
                              refine g_aload_n 7 (gd rfl) rfl rfl ?_
                              refine g_getA (q2 := 52) 10 (gd rfl) rfl rfl rfl rfl ?_
                              refine g_iload_n 11 (gd rfl) rfl rfl ?_
                              refine g_iaload 12 (gd rfl) rfl (n := 32) rfl (in_ix i18x9 rfl) (fun z63x11 e63x11 => ?_)
                              refine g_ireturn (gd rfl) rfl rfl (hp63 _ _ ?_)
                              show GG _ _ _ _ _ _ _ _ [.int z63x11] _ _ _
                              exact g_ireturn (gd rfl) rfl rfl (hP _ _ ⟨s63x3, hI63x3, (fr_tr rfl fr_rf hF63x3), z63x11, rfl, rfl, in_w (-2147483648) 2147483647 (i_rng z63x11) rfl⟩)
                          · skip
                            exact zn_eq c48 (in_c 1 rfl) rfl

def fm_253_0 : FM := ([97], [95, 96, 98], [(46, 2), (46, 6), (46, 7)], [(94, 0), (94, 1)])
/-- GraphHouse.pattern -/
theorem k_253_0 {Z : AmZ} {A : Nat → Nat} {s : GS} {ex : va_W} {d : Nat} {X : AmX}  (hd : 7 ≤ d) (hI : Inv s)  : GC Z d 253 [.ref (A 0)] (WW Z A s ++ ex) 3 18 (fun v u => ∃ t : GS, Inv t ∧ Fr fm_253_0 s t ∧ ∃ z : Int32, v = some (.int z) ∧ u = WW Z A t ++ ex ∧ In z (-4) 0) X := by
  intro post xp hP hX
  obtain ⟨u_46_1, e_46_1⟩ : ∃ w, w = s.2.2.1 46 1 := ⟨_, rfl⟩
  have ro_46_1 := inv_F hI 0 1000 rfl e_46_1
  refine g_enter2 (k := 253) (N := 900) (by first | exact dq1 hd rfl | exact dq0 hd rfl | exact dq2 hd rfl | exact dq3 hd rfl | omega) rfl (Nat.le_of_ble_eq_true rfl) ?_
  refine g_aload_n 1 (gd rfl) rfl rfl ?_
  refine g_getA (q2 := 94) 4 (gd rfl) rfl rfl rfl rfl ?_
  refine g_aload_n 5 (gd rfl) rfl rfl ?_
  refine g_getA (q2 := 46) 8 (gd rfl) rfl rfl rfl rfl ?_
  refine g_callv (X := _) (As := [.ref (A 46)]) (r := []) (b := A 94) (q := 94) 11 (gd rfl) rfl rfl rfl rfl rfl (ww_o rfl) (Nat.le_of_ble_eq_true rfl) (mc := 0) (ms := 0) (Nat.zero_le _) (Nat.zero_le _) (P := fun v u => _) ?_ (fun e u h => h) (fun v u h => h)
  intro po8 xx8 hp8 hx8
  refine g_enter2 (k := 154) (N := 300) (by first | exact dq1 hd rfl | exact dq0 hd rfl | exact dq2 hd rfl | exact dq3 hd rfl | omega) rfl (Nat.le_of_ble_eq_true rfl) ?_
  refine g_aload_n 1 (gd rfl) rfl rfl ?_
  refine g_callv (X := _) (As := []) (r := []) (b := A 46) (q := 46) 4 (gd rfl) rfl rfl rfl rfl rfl (ww_o rfl) (Nat.le_of_ble_eq_true rfl) (mc := 0) (ms := 0) (Nat.zero_le _) (Nat.zero_le _) (P := fun v u => _) ?_ (fun e u h => h) (fun v u h => h)
  intro po8x1 xx8x1 hp8x1 hx8x1
  refine g_enter2 (k := 167) (N := 300) (by first | exact dq1 hd rfl | exact dq0 hd rfl | exact dq2 hd rfl | exact dq3 hd rfl | omega) rfl (Nat.le_of_ble_eq_true rfl) ?_
  refine g_aload_n 1 (gd rfl) rfl rfl ?_
  refine g_iconst 0 2 (gd rfl) rfl rfl ?_
  refine g_putI 5 (gd rfl) rfl rfl rfl rfl ?_
  have hI8x1x2 := inv_sF (q := 46) (j := 2) hI rfl (in_w 0 1000 (in_c 0 rfl) rfl)
  refine g_aload_n 6 (gd rfl) rfl rfl ?_
  refine g_iconst (-1) 7 (gd rfl) rfl rfl ?_
  refine g_putI 10 (gd rfl) rfl rfl rfl rfl ?_
  have hI8x1x7 := inv_sF (q := 46) (j := 6) hI8x1x2 rfl (in_w (-1) 5 (in_c (-1) rfl) rfl)
  refine g_aload_n 11 (gd rfl) rfl rfl ?_
  refine g_iconst (-1) 12 (gd rfl) rfl rfl ?_
  refine g_putI 15 (gd rfl) rfl rfl rfl rfl ?_
  have hI8x1x12 := inv_sF (q := 46) (j := 7) hI8x1x7 rfl (in_w (-1) 1000 (in_c (-1) rfl) rfl)
  refine g_return (gd rfl) rfl (hp8x1 _ _ ?_)
  show GG _ _ _ _ _ _ _ _ [] _ _ _
  refine g_aload_n 5 (gd rfl) rfl rfl ?_
  refine g_getI 8 (gd rfl) rfl rfl rfl (fun z8x5 e8x5 => ?_)
  have q8x5 : u_46_1 = z8x5 := (sF_ne rfl (sF_ne rfl (sF_ne rfl (e_46_1)))).trans e8x5.symm
  subst q8x5
  refine g_bipush 60 10 (gd rfl) rfl rfl ?_
  refine g_cmp_le 13 21 (gd rfl) rfl rfl (fun c8x10 => ?_) (fun c8x10 => ?_)
  · skip
    have i8x10 := r_le1 0 60 c8x10 ro_46_1 (in_c 60 rfl) rfl
    refine g_aload_n 22 (gd rfl) rfl rfl ?_
    refine g_calls (As := [.ref (A 46)]) (r := []) 25 (gd rfl) rfl rfl rfl rfl rfl (Nat.le_of_ble_eq_true rfl) (Nat.zero_le _) (Nat.zero_le _) (k_155_46 (by first | exact dq1 hd rfl | exact dq0 hd rfl | exact dq2 hd rfl | exact dq3 hd rfl | omega) hI8x1x12 ) (fun v u h => ?_)
    obtain ⟨s8x22, hI8x22, hF8x22, z8x22, rfl, rfl, i8x22⟩ := h
    show GG _ _ _ _ _ _ _ _ [.int z8x22] _ _ _
    refine g_if_ne 28 30 (gd rfl) rfl rfl (fun c8x25 => ?_) (fun c8x25 => ?_)
    · skip
      have i8x25 := z_ne 1 1 c8x25 i8x22 rfl
      refine g_aload_n 31 (gd rfl) rfl rfl ?_
      refine g_aload_n 32 (gd rfl) rfl rfl ?_
      have v8x32 : u_46_1 = s8x22.2.2.1 46 1 := fr_F (s := (sF (sF (sF s 46 2 (Int32.ofInt 0)) 46 6 (Int32.ofInt (-1))) 46 7 (Int32.ofInt (-1)))) (sF_ne rfl (sF_ne rfl (sF_ne rfl (e_46_1)))) hF8x22 rfl
      refine g_callv (X := _) (As := [.ref (A 46)]) (r := []) (b := A 94) (q := 94) 35 (gd rfl) rfl rfl rfl rfl rfl (ww_o rfl) (Nat.le_of_ble_eq_true rfl) (Nat.zero_le _) (Nat.zero_le _) (k_158_94_46 (by first | exact dq1 hd rfl | exact dq0 hd rfl | exact dq2 hd rfl | exact dq3 hd rfl | omega) hI8x22 v8x32 (in_w 0 60 i8x10 rfl)) (fun e u h => h) (fun v u h => ?_)
      obtain ⟨s8x32, hI8x32, hF8x32, rfl, rfl⟩ := h
      show GG _ _ _ _ _ _ _ _ [] _ _ _
      refine g_iconst 1 36 (gd rfl) rfl rfl ?_
      refine g_ireturn (gd rfl) rfl (nb01 (in_w 0 1 (in_c 1 rfl) rfl)) (hp8 _ _ ?_)
      show GG _ _ _ _ _ _ _ _ [.int (Int32.ofInt 1)] _ _ _
      refine g_if_eq 14 18 (gd rfl) rfl rfl (fun c11 => ?_) (fun c11 => ?_)
      · skip
        exact zn_eq c11 (in_c 1 rfl) rfl
      · skip
        refine g_iconst 0 15 (gd rfl) rfl rfl ?_
        refine g_goto 20 (gd rfl) rfl ?_
        exact g_ireturn (gd rfl) rfl rfl (hP _ _ ⟨s8x32, hI8x32, (fr_tr rfl (fr_tr rfl (fr_sF rfl (fr_sF rfl (fr_sF rfl fr_rf))) hF8x22) hF8x32), (Int32.ofInt 0), rfl, rfl, in_w (-4) 0 (in_c 0 rfl) rfl⟩)
    · skip
      have i8x25 := z_eq 0 0 c8x25 i8x22 rfl
      refine g_iconst 0 29 (gd rfl) rfl rfl ?_
      refine g_ireturn (gd rfl) rfl (nb01 (in_w 0 1 (in_c 0 rfl) rfl)) (hp8 _ _ ?_)
      show GG _ _ _ _ _ _ _ _ [.int (Int32.ofInt 0)] _ _ _
      refine g_if_eq 14 18 (gd rfl) rfl rfl (fun c11 => ?_) (fun c11 => ?_)
      · skip
        refine g_bipush (-4) 20 (gd rfl) rfl rfl ?_
        exact g_ireturn (gd rfl) rfl rfl (hP _ _ ⟨s8x22, hI8x22, (fr_tr rfl (fr_sF rfl (fr_sF rfl (fr_sF rfl fr_rf))) hF8x22), (Int32.ofInt (-4)), rfl, rfl, in_w (-4) 0 (in_c (-4) rfl) rfl⟩)
      · skip
        exact zn_ne c11 (in_c 0 rfl) rfl
  · skip
    have i8x10 := r_lt2 61 1000 c8x10 (in_c 60 rfl) ro_46_1 rfl
    refine g_aload_n 14 (gd rfl) rfl rfl ?_
    refine g_iconst 2 15 (gd rfl) rfl rfl ?_
    refine g_bipush 60 17 (gd rfl) rfl rfl ?_
    refine g_callv (X := _) (As := [.int (Int32.ofInt 2), .int (Int32.ofInt 60)]) (r := []) (b := A 46) (q := 46) 20 (gd rfl) rfl rfl rfl rfl rfl (ww_o rfl) (Nat.le_of_ble_eq_true rfl) (Nat.zero_le _) (Nat.zero_le _) (k_168_46 (by first | exact dq1 hd rfl | exact dq0 hd rfl | exact dq2 hd rfl | exact dq3 hd rfl | omega) hI8x1x12 (in_w 1 5 (in_c 2 rfl) rfl) (in_w 0 1000 (in_c 60 rfl) rfl)) (fun e u h => h) (fun v u h => ?_)
    obtain ⟨s8x17, hI8x17, hF8x17, z8x17, rfl, rfl, i8x17⟩ := h
    show GG _ _ _ _ _ _ _ _ [.int z8x17] _ _ _
    refine g_ireturn (gd rfl) rfl (nb01 (in_w 0 1 i8x17 rfl)) (hp8 _ _ ?_)
    show GG _ _ _ _ _ _ _ _ [.int z8x17] _ _ _
    refine g_if_eq 14 18 (gd rfl) rfl rfl (fun c11 => ?_) (fun c11 => ?_)
    · skip
      refine g_bipush (-4) 20 (gd rfl) rfl rfl ?_
      exact g_ireturn (gd rfl) rfl rfl (hP _ _ ⟨s8x17, hI8x17, (fr_tr rfl (fr_sF rfl (fr_sF rfl (fr_sF rfl fr_rf))) hF8x17), (Int32.ofInt (-4)), rfl, rfl, in_w (-4) 0 (in_c (-4) rfl) rfl⟩)
    · skip
      exact zn_ne c11 i8x17 rfl

def fm_274 : FM := ([110, 111, 112, 113, 114, 115, 116, 117, 118, 119, 120, 121, 122, 123, 124], [], [(109, 9), (109, 18), (109, 19), (109, 20)], [])
def fm_281 : FM := ([110, 111, 112, 113, 114, 115, 116, 117, 118, 119, 120, 121, 122, 123, 124], [], [(109, 0), (109, 9), (109, 18), (109, 19), (109, 20)], [])
end
section
/-! methods, by vc.py -/
def fm_282 : FM := ([110, 111, 112, 113, 114, 115, 116, 117, 118, 119, 120, 121, 122, 123, 124], [], [(109, 0), (109, 9), (109, 18), (109, 19), (109, 20)], [])
def fm_283 : FM := ([110, 111, 112, 113, 114, 115, 116, 117, 118, 119, 120, 121, 122, 123, 124], [], [(109, 0), (109, 9), (109, 18), (109, 19), (109, 20)], [])
end
section
/-! methods, by vc.py -/
def fm_284 : FM := ([110, 111, 112, 113, 114, 115, 116, 117, 118, 119, 120, 121, 122, 123, 124], [], [(109, 0), (109, 9), (109, 18), (109, 19), (109, 20)], [])
end
section
/-! methods, by vc.py -/
def fm_285 : FM := ([110, 111, 112, 113, 114, 115, 116, 117, 118, 119, 120, 121, 122, 123, 124], [], [(109, 0), (109, 9), (109, 18), (109, 19), (109, 20)], [])
def fm_300 : FM := ([], [], [(109, 23), (109, 24), (109, 27)], [(109, 31)])
/-- GraphHouseModel.readNumber -/
theorem k_300 {Z : AmZ} {A : Nat → Nat} {s : GS} {ex : va_W} {d : Nat} {X : AmX} {x1 : Int32} {u_109_27 : Int32} {u_109_22 : Int32} (hd : 3 ≤ d) (hI : Inv s) (h1 : In x1 6 7) (e_109_27 : u_109_27 = s.2.2.1 109 27) (e_109_22 : u_109_22 = s.2.2.1 109 22) (p_0 : (u_109_27).toInt < (u_109_22).toInt) (q_0 : 48 ≤ (s.1 125 (s.2.2.1 109 27).toNatClampNeg).toInt ∧ (s.1 125 (s.2.2.1 109 27).toNatClampNeg).toInt ≤ 57) : GC Z d 300 [.ref (A 109), .int x1] (WW Z A s ++ ex) 0 0 (fun v u => ∃ t : GS, Inv t ∧ Fr fm_300 s t ∧ ((t.2.2.1 109 27).toInt ≤ (t.2.2.1 109 22).toInt) ∧ ((s.2.2.1 109 27).toInt + 1 ≤ (t.2.2.1 109 27).toInt) ∧ v = none ∧ u = WW Z A t ++ ex) X := by
  intro post xp hP hX
  have ro_109_22 := inv_F hI 0 1000 rfl e_109_22
  obtain ⟨u_109_29, e_109_29⟩ : ∃ w, w = s.2.2.1 109 29 := ⟨_, rfl⟩
  have ro_109_29 := inv_F hI 0 1000 rfl e_109_29
  have ct10 : ∀ (k10 : Nat) (sc10 : GS) (y10_2 : Int32) (w10_109_27 : Int32), Inv sc10 → Fr fm_300 s sc10 → (In y10_2 0 1000) → (w10_109_27 = sc10.2.2.1 109 27) → ((w10_109_27).toInt ≤ (u_109_22).toInt) → ((u_109_27).toInt ≤ (w10_109_27).toInt) → (u_109_22).toInt - (w10_109_27).toInt < (k10 : Int) → GG Z (d - 1) 300 post (gx xp) (1 + k10 * 900) 10 (fun j => xlook j [(0, .ref (A 109)), (1, .int x1), (2, .int y10_2)]) [] (WW Z A sc10 ++ ex) 0 0 := by
    intro k10
    induction k10 with
    | zero => intro sc10 y10_2 w10_109_27 hIc10 hFc10 j10_2 v10_109_27 n10_0 n10_1 mm10; exfalso; have a0 := oa4 h1 ro_109_29 ro_109_22 ((inv_F hIc10 0 1000 rfl v10_109_27)); have a4 := j10_2; unfold In at a4; omega
    | succ k10 ih10 =>
      intro sc10 y10_2 w10_109_27 hIc10 hFc10 j10_2 v10_109_27 n10_0 n10_1 mm10
      refine gg_w (M := 1 + k10 * 900 + 900) gws ?_
      refine g_aload_n 11 (gd rfl) rfl rfl ?_
      refine g_getI 14 (gd rfl) rfl rfl rfl (fun z11 e11 => ?_)
      have q11 : w10_109_27 = z11 := (v10_109_27).trans e11.symm
      subst q11
      refine g_aload_n 15 (gd rfl) rfl rfl ?_
      refine g_getI 18 (gd rfl) rfl rfl rfl (fun z15 e15 => ?_)
      have q15 : u_109_22 = z15 := (fr_F e_109_22 hFc10 rfl).trans e15.symm
      subst q15
      refine g_cmp_ge 21 93 (gd rfl) rfl rfl (fun c18 => ?_) (fun c18 => ?_)
      · skip
        have hq93 : (u_109_27).toInt + 1 ≤ (w10_109_27).toInt := (by first | (have a0 := oa5 h1 ro_109_29 ro_109_22 ((inv_F hIc10 0 1000 rfl v10_109_27)) j10_2; omega) | (have hi := i30x3; unfold In at hi; have a0 := oa5 h1 ro_109_29 ro_109_22 ((inv_F hIc10 0 1000 rfl v10_109_27)) j10_2; omega) | (have hi := i30x9; unfold In at hi; have a0 := oa5 h1 ro_109_29 ro_109_22 ((inv_F hIc10 0 1000 rfl v10_109_27)) j10_2; omega))
        refine g_aload_n 94 (gd rfl) rfl rfl ?_
        refine g_getI 97 (gd rfl) rfl rfl rfl (fun z94 e94 => ?_)
        have q94 : w10_109_27 = z94 := (v10_109_27).trans e94.symm
        subst q94
        refine g_iload_n 98 (gd rfl) rfl rfl ?_
        refine g_isub 99 (gd rfl) rfl (fun z98 e98 => ?_)
        have i98 := in_sub (-1000) 1000 e98 (inv_F hIc10 0 1000 rfl v10_109_27) j10_2 rfl rfl
        refine g_iload_n 100 (gd rfl) rfl rfl ?_
        refine g_cmp_le 103 122 (gd rfl) rfl rfl (fun c100 => ?_) (fun c100 => ?_)
        · skip
          have i100 := r_le1 (-1000) 7 c100 i98 h1 rfl
          have n122 : (w10_109_27).toInt ≤ (u_109_22).toInt := by first | exact n10_0 | (have a0 := oa6 h1 ro_109_29 ro_109_22 ((inv_F hIc10 0 1000 rfl v10_109_27)) j10_2 i100; have a6 := t_sub e98 (inv_F hIc10 0 1000 rfl v10_109_27) j10_2 rfl; omega)
          have n122a : (sc10.2.2.1 109 27).toInt ≤ (sc10.2.2.1 109 22).toInt := by have b0 : w10_109_27 = sc10.2.2.1 109 27 := v10_109_27; have b1 : u_109_22 = sc10.2.2.1 109 22 := fr_F e_109_22 hFc10 rfl; rw [← b0, ← b1]; exact n122
          have n122b : (u_109_27).toInt + 1 ≤ (w10_109_27).toInt := by have a0 := oa6 h1 ro_109_29 ro_109_22 ((inv_F hIc10 0 1000 rfl v10_109_27)) j10_2 i100; have a6 := t_sub e98 (inv_F hIc10 0 1000 rfl v10_109_27) j10_2 rfl; omega
          have n122c : (s.2.2.1 109 27).toInt + 1 ≤ (sc10.2.2.1 109 27).toInt := by have b0 : w10_109_27 = sc10.2.2.1 109 27 := v10_109_27; first | (rw [← b0, ← e_109_27]; exact n122b) | (rw [← b0]; exact n122b)
          exact g_return (gd rfl) rfl (hP _ _ ⟨sc10, hIc10, hFc10, n122a, n122c, rfl, rfl⟩)
        · skip
          have i100 := r_lt2 7 1000 c100 h1 i98 rfl
          refine g_aload_n 104 (gd rfl) rfl rfl ?_
          refine g_iload_n 105 (gd rfl) rfl rfl ?_
          refine g_bipush 7 107 (gd rfl) rfl rfl ?_
          refine g_cmp_ne 110 114 (gd rfl) rfl rfl (fun c107 => ?_) (fun c107 => ?_)
          · skip
            have i107 := r_ne1 6 6 c107 h1 (in_c 7 rfl) rfl
            refine g_iconst 4 115 (gd rfl) rfl rfl ?_
            refine g_aload_n 116 (gd rfl) rfl rfl ?_
            refine g_getI 119 (gd rfl) rfl rfl rfl (fun z116 e116 => ?_)
            have q116 : u_109_29 = z116 := (fr_F e_109_29 hFc10 rfl).trans e116.symm
            subst q116
            refine g_callv (X := _) (As := [.int (Int32.ofInt 4), .int u_109_29]) (r := []) (b := A 109) (q := 109) 122 (gd rfl) rfl rfl rfl rfl rfl (ww_o rfl) (Nat.le_of_ble_eq_true rfl) (Nat.zero_le _) (Nat.zero_le _) (k_298 (by first | exact dq1 hd rfl | exact dq0 hd rfl | exact dq2 hd rfl | exact dq3 hd rfl | omega) hIc10 (in_w 1 5 (in_c 4 rfl) rfl)) (fun e u h => h) (fun v u h => ?_)
            obtain ⟨s119, hI119, hF119, n119, rfl, rfl⟩ := h
            obtain ⟨z119a, e119⟩ : ∃ w, w = s119.2.2.1 109 23 := ⟨_, rfl⟩
            have i119a := inv_F hI119 0 9 rfl e119
            rw [← (show z119a = s119.2.2.1 109 23 from e119)] at n119
            show GG _ _ _ _ _ _ _ _ [] _ _ _
            have n122 : (w10_109_27).toInt ≤ (u_109_22).toInt := by first | exact n10_0 | (have a0 := oa7 i107 ro_109_29 ro_109_22 ((inv_F hIc10 0 1000 rfl v10_109_27)) j10_2 i119a i100; have a7 := t_sub e98 (inv_F hIc10 0 1000 rfl v10_109_27) j10_2 rfl; omega)
            have n122a : (s119.2.2.1 109 27).toInt ≤ (s119.2.2.1 109 22).toInt := by have b0 : w10_109_27 = s119.2.2.1 109 27 := fr_F (v10_109_27) hF119 rfl; have b1 : u_109_22 = s119.2.2.1 109 22 := fr_F (fr_F e_109_22 hFc10 rfl) hF119 rfl; rw [← b0, ← b1]; exact n122
            have n122b : (u_109_27).toInt + 1 ≤ (w10_109_27).toInt := by have a0 := oa7 i107 ro_109_29 ro_109_22 ((inv_F hIc10 0 1000 rfl v10_109_27)) j10_2 i119a i100; have a7 := t_sub e98 (inv_F hIc10 0 1000 rfl v10_109_27) j10_2 rfl; omega
            have n122c : (s.2.2.1 109 27).toInt + 1 ≤ (s119.2.2.1 109 27).toInt := by have b0 : w10_109_27 = s119.2.2.1 109 27 := fr_F (v10_109_27) hF119 rfl; first | (rw [← b0, ← e_109_27]; exact n122b) | (rw [← b0]; exact n122b)
            exact g_return (gd rfl) rfl (hP _ _ ⟨s119, hI119, (fr_tr rfl hFc10 hF119), n122a, n122c, rfl, rfl⟩)
          · skip
            have i107 := r_eq1 7 7 c107 h1 (in_c 7 rfl) rfl
            refine g_iconst 3 111 (gd rfl) rfl rfl ?_
            refine g_goto 115 (gd rfl) rfl ?_
            refine g_aload_n 116 (gd rfl) rfl rfl ?_
            refine g_getI 119 (gd rfl) rfl rfl rfl (fun z116 e116 => ?_)
            have q116 : u_109_29 = z116 := (fr_F e_109_29 hFc10 rfl).trans e116.symm
            subst q116
            refine g_callv (X := _) (As := [.int (Int32.ofInt 3), .int u_109_29]) (r := []) (b := A 109) (q := 109) 122 (gd rfl) rfl rfl rfl rfl rfl (ww_o rfl) (Nat.le_of_ble_eq_true rfl) (Nat.zero_le _) (Nat.zero_le _) (k_298 (by first | exact dq1 hd rfl | exact dq0 hd rfl | exact dq2 hd rfl | exact dq3 hd rfl | omega) hIc10 (in_w 1 5 (in_c 3 rfl) rfl)) (fun e u h => h) (fun v u h => ?_)
            obtain ⟨s119, hI119, hF119, n119, rfl, rfl⟩ := h
            obtain ⟨z119a, e119⟩ : ∃ w, w = s119.2.2.1 109 23 := ⟨_, rfl⟩
            have i119a := inv_F hI119 0 9 rfl e119
            rw [← (show z119a = s119.2.2.1 109 23 from e119)] at n119
            show GG _ _ _ _ _ _ _ _ [] _ _ _
            have n122 : (w10_109_27).toInt ≤ (u_109_22).toInt := by first | exact n10_0 | (have a0 := oa7 i107 ro_109_29 ro_109_22 ((inv_F hIc10 0 1000 rfl v10_109_27)) j10_2 i119a i100; have a7 := t_sub e98 (inv_F hIc10 0 1000 rfl v10_109_27) j10_2 rfl; omega)
            have n122a : (s119.2.2.1 109 27).toInt ≤ (s119.2.2.1 109 22).toInt := by have b0 : w10_109_27 = s119.2.2.1 109 27 := fr_F (v10_109_27) hF119 rfl; have b1 : u_109_22 = s119.2.2.1 109 22 := fr_F (fr_F e_109_22 hFc10 rfl) hF119 rfl; rw [← b0, ← b1]; exact n122
            have n122b : (u_109_27).toInt + 1 ≤ (w10_109_27).toInt := by have a0 := oa7 i107 ro_109_29 ro_109_22 ((inv_F hIc10 0 1000 rfl v10_109_27)) j10_2 i119a i100; have a7 := t_sub e98 (inv_F hIc10 0 1000 rfl v10_109_27) j10_2 rfl; omega
            have n122c : (s.2.2.1 109 27).toInt + 1 ≤ (s119.2.2.1 109 27).toInt := by have b0 : w10_109_27 = s119.2.2.1 109 27 := fr_F (v10_109_27) hF119 rfl; first | (rw [← b0, ← e_109_27]; exact n122b) | (rw [← b0]; exact n122b)
            exact g_return (gd rfl) rfl (hP _ _ ⟨s119, hI119, (fr_tr rfl hFc10 hF119), n122a, n122c, rfl, rfl⟩)
      · skip
        have i18 := r_lt1 0 999 c18 (inv_F hIc10 0 1000 rfl v10_109_27) ro_109_22 rfl
        have i18a := r_lt2 1 1000 c18 (inv_F hIc10 0 1000 rfl v10_109_27) ro_109_22 rfl
        refine g_aload_n 22 (gd rfl) rfl rfl ?_
        refine g_getA (q2 := 125) 25 (gd rfl) rfl rfl rfl rfl ?_
        refine g_aload_n 26 (gd rfl) rfl rfl ?_
        refine g_getI 29 (gd rfl) rfl rfl rfl (fun z26 e26 => ?_)
        have q26 : w10_109_27 = z26 := (v10_109_27).trans e26.symm
        subst q26
        refine g_iaload 30 (gd rfl) rfl (n := 1000) rfl (in_ix i18 rfl) (fun z29 e29 => ?_)
        have i29 := inv_I hIc10 (n := 1000) (t := 0) 0 126 rfl (in_ix i18 rfl) rfl e29
        have hd : w10_109_27.toInt = u_109_27.toInt → 48 ≤ (z29).toInt ∧ (z29).toInt ≤ 57 := (fun h => by rw [e29, Int32.toInt_inj.mp h, hFc10.1 125 rfl, e_109_27]; exact q_0)
        refine g_calls (As := [.int z29]) (r := []) 33 (gd rfl) rfl rfl rfl rfl rfl (Nat.le_of_ble_eq_true rfl) (mc := 0) (ms := 0) (Nat.zero_le _) (Nat.zero_le _) (P := fun v u => _) ?_ (fun v u h => h)
        intro po30 xx30 hp30 hx30
        refine g_enter2 (k := 297) (N := 300) (by first | exact dq1 hd rfl | exact dq0 hd rfl | exact dq2 hd rfl | exact dq3 hd rfl | omega) rfl (Nat.le_of_ble_eq_true rfl) ?_
        refine g_iload_n 1 (gd rfl) rfl rfl ?_
        refine g_bipush 48 3 (gd rfl) rfl rfl ?_
        refine g_cmp_lt 6 16 (gd rfl) rfl rfl (fun c30x3 => ?_) (fun c30x3 => ?_)
        · skip
          have i30x3 := r_lt1 0 47 c30x3 i29 (in_c 48 rfl) rfl
          refine g_iconst 0 17 (gd rfl) rfl rfl ?_
          refine g_ireturn (gd rfl) rfl (nb01 (in_w 0 1 (in_c 0 rfl) rfl)) (hp30 _ _ ?_)
          show GG _ _ _ _ _ _ _ _ [.int (Int32.ofInt 0)] _ _ _
          refine g_if_eq 36 93 (gd rfl) rfl rfl (fun c33 => ?_) (fun c33 => ?_)
          · skip
            have hq93 : (u_109_27).toInt + 1 ≤ (w10_109_27).toInt := (by first | (have a0 := oa5 h1 ro_109_29 i18a i18 j10_2; omega) | (have hi := i30x3; unfold In at hi; have a0 := oa5 h1 ro_109_29 i18a i18 j10_2; omega) | (have hi := i30x9; unfold In at hi; have a0 := oa5 h1 ro_109_29 i18a i18 j10_2; omega))
            refine g_aload_n 94 (gd rfl) rfl rfl ?_
            refine g_getI 97 (gd rfl) rfl rfl rfl (fun z94 e94 => ?_)
            have q94 : w10_109_27 = z94 := (v10_109_27).trans e94.symm
            subst q94
            refine g_iload_n 98 (gd rfl) rfl rfl ?_
            refine g_isub 99 (gd rfl) rfl (fun z98 e98 => ?_)
            have i98 := in_sub (-1000) 999 e98 i18 j10_2 rfl rfl
            refine g_iload_n 100 (gd rfl) rfl rfl ?_
            refine g_cmp_le 103 122 (gd rfl) rfl rfl (fun c100 => ?_) (fun c100 => ?_)
            · skip
              have i100 := r_le1 (-1000) 7 c100 i98 h1 rfl
              have n122 : (w10_109_27).toInt ≤ (u_109_22).toInt := by first | exact n10_0 | (have a0 := oa6 h1 ro_109_29 i18a i18 j10_2 i100; have a6 := t_sub e98 i18 j10_2 rfl; omega)
              have n122a : (sc10.2.2.1 109 27).toInt ≤ (sc10.2.2.1 109 22).toInt := by have b0 : w10_109_27 = sc10.2.2.1 109 27 := v10_109_27; have b1 : u_109_22 = sc10.2.2.1 109 22 := fr_F e_109_22 hFc10 rfl; rw [← b0, ← b1]; exact n122
              have n122b : (u_109_27).toInt + 1 ≤ (w10_109_27).toInt := by have a0 := oa6 h1 ro_109_29 i18a i18 j10_2 i100; have a6 := t_sub e98 i18 j10_2 rfl; omega
              have n122c : (s.2.2.1 109 27).toInt + 1 ≤ (sc10.2.2.1 109 27).toInt := by have b0 : w10_109_27 = sc10.2.2.1 109 27 := v10_109_27; first | (rw [← b0, ← e_109_27]; exact n122b) | (rw [← b0]; exact n122b)
              exact g_return (gd rfl) rfl (hP _ _ ⟨sc10, hIc10, hFc10, n122a, n122c, rfl, rfl⟩)
            · skip
              have i100 := r_lt2 7 999 c100 h1 i98 rfl
              refine g_aload_n 104 (gd rfl) rfl rfl ?_
              refine g_iload_n 105 (gd rfl) rfl rfl ?_
              refine g_bipush 7 107 (gd rfl) rfl rfl ?_
              refine g_cmp_ne 110 114 (gd rfl) rfl rfl (fun c107 => ?_) (fun c107 => ?_)
              · skip
                have i107 := r_ne1 6 6 c107 h1 (in_c 7 rfl) rfl
                refine g_iconst 4 115 (gd rfl) rfl rfl ?_
                refine g_aload_n 116 (gd rfl) rfl rfl ?_
                refine g_getI 119 (gd rfl) rfl rfl rfl (fun z116 e116 => ?_)
                have q116 : u_109_29 = z116 := (fr_F e_109_29 hFc10 rfl).trans e116.symm
                subst q116
                refine g_callv (X := _) (As := [.int (Int32.ofInt 4), .int u_109_29]) (r := []) (b := A 109) (q := 109) 122 (gd rfl) rfl rfl rfl rfl rfl (ww_o rfl) (Nat.le_of_ble_eq_true rfl) (Nat.zero_le _) (Nat.zero_le _) (k_298 (by first | exact dq1 hd rfl | exact dq0 hd rfl | exact dq2 hd rfl | exact dq3 hd rfl | omega) hIc10 (in_w 1 5 (in_c 4 rfl) rfl)) (fun e u h => h) (fun v u h => ?_)
                obtain ⟨s119, hI119, hF119, n119, rfl, rfl⟩ := h
                obtain ⟨z119a, e119⟩ : ∃ w, w = s119.2.2.1 109 23 := ⟨_, rfl⟩
                have i119a := inv_F hI119 0 9 rfl e119
                rw [← (show z119a = s119.2.2.1 109 23 from e119)] at n119
                show GG _ _ _ _ _ _ _ _ [] _ _ _
                have n122 : (w10_109_27).toInt ≤ (u_109_22).toInt := by first | exact n10_0 | (have a0 := oa7 i107 ro_109_29 i18a i18 j10_2 i119a i100; have a7 := t_sub e98 i18 j10_2 rfl; omega)
                have n122a : (s119.2.2.1 109 27).toInt ≤ (s119.2.2.1 109 22).toInt := by have b0 : w10_109_27 = s119.2.2.1 109 27 := fr_F (v10_109_27) hF119 rfl; have b1 : u_109_22 = s119.2.2.1 109 22 := fr_F (fr_F e_109_22 hFc10 rfl) hF119 rfl; rw [← b0, ← b1]; exact n122
                have n122b : (u_109_27).toInt + 1 ≤ (w10_109_27).toInt := by have a0 := oa7 i107 ro_109_29 i18a i18 j10_2 i119a i100; have a7 := t_sub e98 i18 j10_2 rfl; omega
                have n122c : (s.2.2.1 109 27).toInt + 1 ≤ (s119.2.2.1 109 27).toInt := by have b0 : w10_109_27 = s119.2.2.1 109 27 := fr_F (v10_109_27) hF119 rfl; first | (rw [← b0, ← e_109_27]; exact n122b) | (rw [← b0]; exact n122b)
                exact g_return (gd rfl) rfl (hP _ _ ⟨s119, hI119, (fr_tr rfl hFc10 hF119), n122a, n122c, rfl, rfl⟩)
              · skip
                have i107 := r_eq1 7 7 c107 h1 (in_c 7 rfl) rfl
                refine g_iconst 3 111 (gd rfl) rfl rfl ?_
                refine g_goto 115 (gd rfl) rfl ?_
                refine g_aload_n 116 (gd rfl) rfl rfl ?_
                refine g_getI 119 (gd rfl) rfl rfl rfl (fun z116 e116 => ?_)
                have q116 : u_109_29 = z116 := (fr_F e_109_29 hFc10 rfl).trans e116.symm
                subst q116
                refine g_callv (X := _) (As := [.int (Int32.ofInt 3), .int u_109_29]) (r := []) (b := A 109) (q := 109) 122 (gd rfl) rfl rfl rfl rfl rfl (ww_o rfl) (Nat.le_of_ble_eq_true rfl) (Nat.zero_le _) (Nat.zero_le _) (k_298 (by first | exact dq1 hd rfl | exact dq0 hd rfl | exact dq2 hd rfl | exact dq3 hd rfl | omega) hIc10 (in_w 1 5 (in_c 3 rfl) rfl)) (fun e u h => h) (fun v u h => ?_)
                obtain ⟨s119, hI119, hF119, n119, rfl, rfl⟩ := h
                obtain ⟨z119a, e119⟩ : ∃ w, w = s119.2.2.1 109 23 := ⟨_, rfl⟩
                have i119a := inv_F hI119 0 9 rfl e119
                rw [← (show z119a = s119.2.2.1 109 23 from e119)] at n119
                show GG _ _ _ _ _ _ _ _ [] _ _ _
                have n122 : (w10_109_27).toInt ≤ (u_109_22).toInt := by first | exact n10_0 | (have a0 := oa7 i107 ro_109_29 i18a i18 j10_2 i119a i100; have a7 := t_sub e98 i18 j10_2 rfl; omega)
                have n122a : (s119.2.2.1 109 27).toInt ≤ (s119.2.2.1 109 22).toInt := by have b0 : w10_109_27 = s119.2.2.1 109 27 := fr_F (v10_109_27) hF119 rfl; have b1 : u_109_22 = s119.2.2.1 109 22 := fr_F (fr_F e_109_22 hFc10 rfl) hF119 rfl; rw [← b0, ← b1]; exact n122
                have n122b : (u_109_27).toInt + 1 ≤ (w10_109_27).toInt := by have a0 := oa7 i107 ro_109_29 i18a i18 j10_2 i119a i100; have a7 := t_sub e98 i18 j10_2 rfl; omega
                have n122c : (s.2.2.1 109 27).toInt + 1 ≤ (s119.2.2.1 109 27).toInt := by have b0 : w10_109_27 = s119.2.2.1 109 27 := fr_F (v10_109_27) hF119 rfl; first | (rw [← b0, ← e_109_27]; exact n122b) | (rw [← b0]; exact n122b)
                exact g_return (gd rfl) rfl (hP _ _ ⟨s119, hI119, (fr_tr rfl hFc10 hF119), n122a, n122c, rfl, rfl⟩)
          · skip
            exact zn_ne c33 (in_c 0 rfl) rfl
        · skip
          have i30x3 := r_le2 48 126 c30x3 (in_c 48 rfl) i29 rfl
          refine g_iload_n 7 (gd rfl) rfl rfl ?_
          refine g_bipush 57 9 (gd rfl) rfl rfl ?_
          refine g_cmp_gt 12 16 (gd rfl) rfl rfl (fun c30x9 => ?_) (fun c30x9 => ?_)
          · skip
            have i30x9 := r_lt2 58 126 c30x9 (in_c 57 rfl) i30x3 rfl
            refine g_iconst 0 17 (gd rfl) rfl rfl ?_
            refine g_ireturn (gd rfl) rfl (nb01 (in_w 0 1 (in_c 0 rfl) rfl)) (hp30 _ _ ?_)
            show GG _ _ _ _ _ _ _ _ [.int (Int32.ofInt 0)] _ _ _
            refine g_if_eq 36 93 (gd rfl) rfl rfl (fun c33 => ?_) (fun c33 => ?_)
            · skip
              have hq93 : (u_109_27).toInt + 1 ≤ (w10_109_27).toInt := (by first | (have a0 := oa5 h1 ro_109_29 i18a i18 j10_2; omega) | (have hi := i30x3; unfold In at hi; have a0 := oa5 h1 ro_109_29 i18a i18 j10_2; omega) | (have hi := i30x9; unfold In at hi; have a0 := oa5 h1 ro_109_29 i18a i18 j10_2; omega))
              refine g_aload_n 94 (gd rfl) rfl rfl ?_
              refine g_getI 97 (gd rfl) rfl rfl rfl (fun z94 e94 => ?_)
              have q94 : w10_109_27 = z94 := (v10_109_27).trans e94.symm
              subst q94
              refine g_iload_n 98 (gd rfl) rfl rfl ?_
              refine g_isub 99 (gd rfl) rfl (fun z98 e98 => ?_)
              have i98 := in_sub (-1000) 999 e98 i18 j10_2 rfl rfl
              refine g_iload_n 100 (gd rfl) rfl rfl ?_
              refine g_cmp_le 103 122 (gd rfl) rfl rfl (fun c100 => ?_) (fun c100 => ?_)
              · skip
                have i100 := r_le1 (-1000) 7 c100 i98 h1 rfl
                have n122 : (w10_109_27).toInt ≤ (u_109_22).toInt := by first | exact n10_0 | (have a0 := oa6 h1 ro_109_29 i18a i18 j10_2 i100; have a6 := t_sub e98 i18 j10_2 rfl; omega)
                have n122a : (sc10.2.2.1 109 27).toInt ≤ (sc10.2.2.1 109 22).toInt := by have b0 : w10_109_27 = sc10.2.2.1 109 27 := v10_109_27; have b1 : u_109_22 = sc10.2.2.1 109 22 := fr_F e_109_22 hFc10 rfl; rw [← b0, ← b1]; exact n122
                have n122b : (u_109_27).toInt + 1 ≤ (w10_109_27).toInt := by have a0 := oa6 h1 ro_109_29 i18a i18 j10_2 i100; have a6 := t_sub e98 i18 j10_2 rfl; omega
                have n122c : (s.2.2.1 109 27).toInt + 1 ≤ (sc10.2.2.1 109 27).toInt := by have b0 : w10_109_27 = sc10.2.2.1 109 27 := v10_109_27; first | (rw [← b0, ← e_109_27]; exact n122b) | (rw [← b0]; exact n122b)
                exact g_return (gd rfl) rfl (hP _ _ ⟨sc10, hIc10, hFc10, n122a, n122c, rfl, rfl⟩)
              · skip
                have i100 := r_lt2 7 999 c100 h1 i98 rfl
                refine g_aload_n 104 (gd rfl) rfl rfl ?_
                refine g_iload_n 105 (gd rfl) rfl rfl ?_
                refine g_bipush 7 107 (gd rfl) rfl rfl ?_
                refine g_cmp_ne 110 114 (gd rfl) rfl rfl (fun c107 => ?_) (fun c107 => ?_)
                · skip
                  have i107 := r_ne1 6 6 c107 h1 (in_c 7 rfl) rfl
                  refine g_iconst 4 115 (gd rfl) rfl rfl ?_
                  refine g_aload_n 116 (gd rfl) rfl rfl ?_
                  refine g_getI 119 (gd rfl) rfl rfl rfl (fun z116 e116 => ?_)
                  have q116 : u_109_29 = z116 := (fr_F e_109_29 hFc10 rfl).trans e116.symm
                  subst q116
                  refine g_callv (X := _) (As := [.int (Int32.ofInt 4), .int u_109_29]) (r := []) (b := A 109) (q := 109) 122 (gd rfl) rfl rfl rfl rfl rfl (ww_o rfl) (Nat.le_of_ble_eq_true rfl) (Nat.zero_le _) (Nat.zero_le _) (k_298 (by first | exact dq1 hd rfl | exact dq0 hd rfl | exact dq2 hd rfl | exact dq3 hd rfl | omega) hIc10 (in_w 1 5 (in_c 4 rfl) rfl)) (fun e u h => h) (fun v u h => ?_)
                  obtain ⟨s119, hI119, hF119, n119, rfl, rfl⟩ := h
                  obtain ⟨z119a, e119⟩ : ∃ w, w = s119.2.2.1 109 23 := ⟨_, rfl⟩
                  have i119a := inv_F hI119 0 9 rfl e119
                  rw [← (show z119a = s119.2.2.1 109 23 from e119)] at n119
                  show GG _ _ _ _ _ _ _ _ [] _ _ _
                  have n122 : (w10_109_27).toInt ≤ (u_109_22).toInt := by first | exact n10_0 | (have a0 := oa7 i107 ro_109_29 i18a i18 j10_2 i119a i100; have a7 := t_sub e98 i18 j10_2 rfl; omega)
                  have n122a : (s119.2.2.1 109 27).toInt ≤ (s119.2.2.1 109 22).toInt := by have b0 : w10_109_27 = s119.2.2.1 109 27 := fr_F (v10_109_27) hF119 rfl; have b1 : u_109_22 = s119.2.2.1 109 22 := fr_F (fr_F e_109_22 hFc10 rfl) hF119 rfl; rw [← b0, ← b1]; exact n122
                  have n122b : (u_109_27).toInt + 1 ≤ (w10_109_27).toInt := by have a0 := oa7 i107 ro_109_29 i18a i18 j10_2 i119a i100; have a7 := t_sub e98 i18 j10_2 rfl; omega
                  have n122c : (s.2.2.1 109 27).toInt + 1 ≤ (s119.2.2.1 109 27).toInt := by have b0 : w10_109_27 = s119.2.2.1 109 27 := fr_F (v10_109_27) hF119 rfl; first | (rw [← b0, ← e_109_27]; exact n122b) | (rw [← b0]; exact n122b)
                  exact g_return (gd rfl) rfl (hP _ _ ⟨s119, hI119, (fr_tr rfl hFc10 hF119), n122a, n122c, rfl, rfl⟩)
                · skip
                  have i107 := r_eq1 7 7 c107 h1 (in_c 7 rfl) rfl
                  refine g_iconst 3 111 (gd rfl) rfl rfl ?_
                  refine g_goto 115 (gd rfl) rfl ?_
                  refine g_aload_n 116 (gd rfl) rfl rfl ?_
                  refine g_getI 119 (gd rfl) rfl rfl rfl (fun z116 e116 => ?_)
                  have q116 : u_109_29 = z116 := (fr_F e_109_29 hFc10 rfl).trans e116.symm
                  subst q116
                  refine g_callv (X := _) (As := [.int (Int32.ofInt 3), .int u_109_29]) (r := []) (b := A 109) (q := 109) 122 (gd rfl) rfl rfl rfl rfl rfl (ww_o rfl) (Nat.le_of_ble_eq_true rfl) (Nat.zero_le _) (Nat.zero_le _) (k_298 (by first | exact dq1 hd rfl | exact dq0 hd rfl | exact dq2 hd rfl | exact dq3 hd rfl | omega) hIc10 (in_w 1 5 (in_c 3 rfl) rfl)) (fun e u h => h) (fun v u h => ?_)
                  obtain ⟨s119, hI119, hF119, n119, rfl, rfl⟩ := h
                  obtain ⟨z119a, e119⟩ : ∃ w, w = s119.2.2.1 109 23 := ⟨_, rfl⟩
                  have i119a := inv_F hI119 0 9 rfl e119
                  rw [← (show z119a = s119.2.2.1 109 23 from e119)] at n119
                  show GG _ _ _ _ _ _ _ _ [] _ _ _
                  have n122 : (w10_109_27).toInt ≤ (u_109_22).toInt := by first | exact n10_0 | (have a0 := oa7 i107 ro_109_29 i18a i18 j10_2 i119a i100; have a7 := t_sub e98 i18 j10_2 rfl; omega)
                  have n122a : (s119.2.2.1 109 27).toInt ≤ (s119.2.2.1 109 22).toInt := by have b0 : w10_109_27 = s119.2.2.1 109 27 := fr_F (v10_109_27) hF119 rfl; have b1 : u_109_22 = s119.2.2.1 109 22 := fr_F (fr_F e_109_22 hFc10 rfl) hF119 rfl; rw [← b0, ← b1]; exact n122
                  have n122b : (u_109_27).toInt + 1 ≤ (w10_109_27).toInt := by have a0 := oa7 i107 ro_109_29 i18a i18 j10_2 i119a i100; have a7 := t_sub e98 i18 j10_2 rfl; omega
                  have n122c : (s.2.2.1 109 27).toInt + 1 ≤ (s119.2.2.1 109 27).toInt := by have b0 : w10_109_27 = s119.2.2.1 109 27 := fr_F (v10_109_27) hF119 rfl; first | (rw [← b0, ← e_109_27]; exact n122b) | (rw [← b0]; exact n122b)
                  exact g_return (gd rfl) rfl (hP _ _ ⟨s119, hI119, (fr_tr rfl hFc10 hF119), n122a, n122c, rfl, rfl⟩)
            · skip
              exact zn_ne c33 (in_c 0 rfl) rfl
          · skip
            have i30x9 := r_le1 48 57 c30x9 i30x3 (in_c 57 rfl) rfl
            refine g_iconst 1 13 (gd rfl) rfl rfl ?_
            refine g_goto 17 (gd rfl) rfl ?_
            refine g_ireturn (gd rfl) rfl (nb01 (in_w 0 1 (in_c 1 rfl) rfl)) (hp30 _ _ ?_)
            show GG _ _ _ _ _ _ _ _ [.int (Int32.ofInt 1)] _ _ _
            refine g_if_eq 36 93 (gd rfl) rfl rfl (fun c33 => ?_) (fun c33 => ?_)
            · skip
              exact zn_eq c33 (in_c 1 rfl) rfl
            · skip
              refine g_aload_n 37 (gd rfl) rfl rfl ?_
              refine g_aload_n 38 (gd rfl) rfl rfl ?_
              refine g_getI 41 (gd rfl) rfl rfl rfl (fun z38 e38 => ?_)
              have q38 : w10_109_27 = z38 := (v10_109_27).trans e38.symm
              subst q38
              refine g_iload_n 42 (gd rfl) rfl rfl ?_
              refine g_isub 43 (gd rfl) rfl (fun z42 e42 => ?_)
              have i42 := in_sub (-1000) 999 e42 i18 j10_2 rfl rfl
              refine g_iload_n 44 (gd rfl) rfl rfl ?_
              refine g_cmp_ge 47 73 (gd rfl) rfl rfl (fun c44 => ?_) (fun c44 => ?_)
              · skip
                have i44 := r_le2 6 999 c44 h1 i42 rfl
                refine g_aload_n 74 (gd rfl) rfl rfl ?_
                refine g_getL 77 (gd rfl) rfl rfl rfl (fun z74 e74 => ?_)
                refine g_putL 80 (gd rfl) rfl rfl rfl rfl ?_
                have hI77 := inv_sG (q := 109) (j := 31) (x := z74) hIc10 rfl (l_rng z74)
                refine g_aload_n 81 (gd rfl) rfl rfl ?_
                refine g_dup 82 (gd rfl) rfl rfl ?_
                refine g_getI 85 (gd rfl) rfl rfl rfl (fun z82 e82 => ?_)
                have q82 : w10_109_27 = z82 := (sG_F (v10_109_27)).trans e82.symm
                subst q82
                refine g_iconst 1 86 (gd rfl) rfl rfl ?_
                refine g_iadd 87 (gd rfl) rfl (fun z86 e86 => ?_)
                have i86 := in_add 1 1000 e86 i18 (in_c 1 rfl) rfl rfl
                refine g_putI 90 (gd rfl) rfl rfl rfl rfl ?_
                have hI87 := inv_sF (q := 109) (j := 27) hI77 rfl (in_w 0 1000 i86 rfl)
                refine g_goto 10 (gd rfl) rfl ?_
                have v10 : z86 = (sF (sG sc10 109 31 z74) 109 27 z86).2.2.1 109 27 := sF_get
                have n10 : (z86).toInt ≤ (u_109_22).toInt := by have a0 := oa6 h1 ro_109_29 i18a i18 j10_2 i86; have a6 := t_add e86 i18 (in_c 1 rfl) rfl; have a7 := oa2 ((in_c 1 rfl)) i44; have a9 := t_sub e42 i18 j10_2 rfl; omega
                have n10a : (u_109_27).toInt ≤ (z86).toInt := by have a0 := oa6 h1 ro_109_29 i18a i18 j10_2 i86; have a6 := t_add e86 i18 (in_c 1 rfl) rfl; have a7 := oa2 ((in_c 1 rfl)) i44; have a9 := t_sub e42 i18 j10_2 rfl; omega
                have m10 : (u_109_22).toInt - (z86).toInt < ((k10 : Nat) : Int) := by have a0 := oa6 h1 ro_109_29 i18a i18 j10_2 i86; have a6 := t_add e86 i18 (in_c 1 rfl) rfl; have a7 := oa2 ((in_c 1 rfl)) i44; have a9 := t_sub e42 i18 j10_2 rfl; omega
                exact gg_w (by first | exact Nat.le_add_right _ _ | exact gw2 | exact gw3 | exact gwe rfl | exact gwf rfl | exact gwg rfl | exact gwh rfl | omega) (gg_f (gf_cons rfl (gf_cons rfl (gf_cons rfl gf_nil))) (ih10  (sF (sG sc10 109 31 z74) 109 27 z86) y10_2 z86 hI87 (fr_sF rfl (fr_sG rfl hFc10)) (in_w 0 1000 j10_2 rfl) v10 n10 n10a m10))
              · skip
                have i44 := r_lt1 (-1000) 6 c44 i42 h1 rfl
                refine g_ldc2_w 10 50 (gd rfl) rfl rfl ?_
                refine g_aload_n 51 (gd rfl) rfl rfl ?_
                refine g_getL 54 (gd rfl) rfl rfl rfl (fun z51 e51 => ?_)
                refine g_lmul 55 (gd rfl) rfl (fun z54 e54 => ?_)
                refine g_aload_n 56 (gd rfl) rfl rfl ?_
                refine g_getA (q2 := 125) 59 (gd rfl) rfl rfl rfl rfl ?_
                refine g_aload_n 60 (gd rfl) rfl rfl ?_
                refine g_getI 63 (gd rfl) rfl rfl rfl (fun z60 e60 => ?_)
                have q60 : w10_109_27 = z60 := (v10_109_27).trans e60.symm
                subst q60
                refine g_iaload 64 (gd rfl) rfl (n := 1000) rfl (in_ix i18 rfl) (fun z63 e63 => ?_)
                have q63 : z29 = z63 := (e29).trans e63.symm
                subst q63
                refine g_i2l 65 (gd rfl) rfl (fun z64 e64 => ?_)
                have i64 := l_i e64 i30x9
                refine g_ladd 66 (gd rfl) rfl (fun z65 e65 => ?_)
                refine g_ldc2_w 48 69 (gd rfl) rfl rfl ?_
                refine g_lsub 70 (gd rfl) rfl (fun z69 e69 => ?_)
                refine g_goto 77 (gd rfl) rfl ?_
                refine g_putL 80 (gd rfl) rfl rfl rfl rfl ?_
                have hI77 := inv_sG (q := 109) (j := 31) (x := z69) hIc10 rfl (l_rng z69)
                refine g_aload_n 81 (gd rfl) rfl rfl ?_
                refine g_dup 82 (gd rfl) rfl rfl ?_
                refine g_getI 85 (gd rfl) rfl rfl rfl (fun z82 e82 => ?_)
                have q82 : w10_109_27 = z82 := (sG_F (v10_109_27)).trans e82.symm
                subst q82
                refine g_iconst 1 86 (gd rfl) rfl rfl ?_
                refine g_iadd 87 (gd rfl) rfl (fun z86 e86 => ?_)
                have i86 := in_add 1 1000 e86 i18 (in_c 1 rfl) rfl rfl
                refine g_putI 90 (gd rfl) rfl rfl rfl rfl ?_
                have hI87 := inv_sF (q := 109) (j := 27) hI77 rfl (in_w 0 1000 i86 rfl)
                refine g_goto 10 (gd rfl) rfl ?_
                have v10 : z86 = (sF (sG sc10 109 31 z69) 109 27 z86).2.2.1 109 27 := sF_get
                have n10 : (z86).toInt ≤ (u_109_22).toInt := by have a0 := oa6 h1 ro_109_29 i18a i18 j10_2 i86; have a6 := t_add e86 i18 (in_c 1 rfl) rfl; have a7 := in_u ((in_c 1 rfl)); have a8 := tx_i2l e64; have a9 := oa2 i30x9 i44; have a11 := t_sub e42 i18 j10_2 rfl; omega
                have n10a : (u_109_27).toInt ≤ (z86).toInt := by have a0 := oa6 h1 ro_109_29 i18a i18 j10_2 i86; have a6 := t_add e86 i18 (in_c 1 rfl) rfl; have a7 := in_u ((in_c 1 rfl)); have a8 := tx_i2l e64; have a9 := oa2 i30x9 i44; have a11 := t_sub e42 i18 j10_2 rfl; omega
                have m10 : (u_109_22).toInt - (z86).toInt < ((k10 : Nat) : Int) := by have a0 := oa6 h1 ro_109_29 i18a i18 j10_2 i86; have a6 := t_add e86 i18 (in_c 1 rfl) rfl; have a7 := in_u ((in_c 1 rfl)); have a8 := tx_i2l e64; have a9 := oa2 i30x9 i44; have a11 := t_sub e42 i18 j10_2 rfl; omega
                exact gg_w (by first | exact Nat.le_add_right _ _ | exact gw2 | exact gw3 | exact gwe rfl | exact gwf rfl | exact gwg rfl | exact gwh rfl | omega) (gg_f (gf_cons rfl (gf_cons rfl (gf_cons rfl gf_nil))) (ih10  (sF (sG sc10 109 31 z69) 109 27 z86) y10_2 z86 hI87 (fr_sF rfl (fr_sG rfl hFc10)) (in_w 0 1000 j10_2 rfl) v10 n10 n10a m10))
  refine g_enter2 (k := 300) (N := 901801) (by first | exact dq1 hd rfl | exact dq0 hd rfl | exact dq2 hd rfl | exact dq3 hd rfl | omega) rfl (Nat.le_of_ble_eq_true rfl) ?_
  refine g_aload_n 1 (gd rfl) rfl rfl ?_
  refine g_getI 4 (gd rfl) rfl rfl rfl (fun z1 e1 => ?_)
  have q1 : u_109_27 = z1 := (e_109_27).trans e1.symm
  subst q1
  refine g_istore_n 5 (gd rfl) rfl (Nat.le_of_ble_eq_true rfl) ?_
  refine g_aload_n 6 (gd rfl) rfl rfl ?_
  refine g_lconst 0 7 (gd rfl) rfl rfl ?_
  refine g_putL 10 (gd rfl) rfl rfl rfl rfl ?_
  have hI7 := inv_sG (q := 109) (j := 31) (x := (Int64.ofInt 0)) hI rfl (l_rng (Int64.ofInt 0))
  have v10 : u_109_27 = (sG s 109 31 (Int64.ofInt 0)).2.2.1 109 27 := sG_F (e_109_27)
  have n10 : (u_109_27).toInt ≤ (u_109_22).toInt := by have a0 := oa4 ro_109_29 ((inv_F hI 0 1000 rfl e_109_22)) ((inv_F hI 0 1000 rfl e_109_27)) h1; omega
  have n10a : (u_109_27).toInt ≤ (u_109_27).toInt := by exact Int.le_refl _
  have m10 : (u_109_22).toInt - (u_109_27).toInt < ((1001 : Nat) : Int) := by have a0 := oa4 ro_109_29 ((inv_F hI 0 1000 rfl e_109_22)) ((inv_F hI 0 1000 rfl e_109_27)) h1; omega
  exact gg_w (by first | exact Nat.le_of_ble_eq_true rfl | omega) (gg_f (gf_cons rfl (gf_cons rfl (gf_cons rfl gf_nil))) (ct10 1001 (sG s 109 31 (Int64.ofInt 0)) u_109_27 u_109_27 hI7 (fr_sG rfl fr_rf) (in_w 0 1000 (inv_F hI 0 1000 rfl e_109_27) rfl) v10 n10 n10a m10))

def fm_312 : FM := ([131], [130], [], [])
/-- GraphHouseModel.toGoal -/
theorem k_312 {Z : AmZ} {A : Nat → Nat} {s : GS} {ex : va_W} {d : Nat} {X : AmX} {x1 : Int32} {x2 : Int32} (hd : 4 ≤ d) (hI : Inv s) (h1 : In x1 0 31) (q_0 : BTS s (x1).toNatClampNeg (x2)) : GC Z d 312 [.ref (A 109), .int x1, .int x2] (WW Z A s ++ ex) 0 0 (fun v u => ∃ t : GS, Inv t ∧ Fr fm_312 s t ∧ ∃ z : Int32, v = some (.int z) ∧ u = WW Z A t ++ ex ∧ In z 0 1 ∧ ((z).toInt ≠ 0 → WFN t (x1).toNatClampNeg (x2))) X := by
  intro post xp hP hX
  obtain ⟨u_109_19, e_109_19⟩ : ∃ w, w = s.2.2.1 109 19 := ⟨_, rfl⟩
  have ro_109_19 := inv_F hI 0 160 rfl e_109_19
  obtain ⟨u_109_20, e_109_20⟩ : ∃ w, w = s.2.2.1 109 20 := ⟨_, rfl⟩
  have ro_109_20 := inv_F hI 0 32 rfl e_109_20
  have ct234 : ∀ (sc234 : GS) (y234_3 : Int32) (y234_4 : Int32), Inv sc234 → Fr fm_312 s sc234 → (In y234_3 0 1) → (In y234_4 0 33) → ((y234_3).toInt = 0 → TGI s (x1).toNatClampNeg (x2) 10000000000 sc234 ∧ TCL s (x2) sc234 160) → GG Z (d - 1) 312 post (gx xp) (901) 234 (fun j => xlook j [(0, .ref (A 109)), (1, .int x1), (2, .int x2), (3, .int y234_3), (4, .int y234_4)]) [] (WW Z A sc234 ++ ex) 0 0 := by
    intro sc234 y234_3 y234_4 hIc234 hFc234 j234_3 j234_4 g234_0
    refine g_iload_n 235 (gd rfl) rfl rfl ?_
    refine g_if_eq 238 240 (gd rfl) rfl rfl (fun c235 => ?_) (fun c235 => ?_)
    · skip
      have i235 := z_eq 0 0 c235 j234_3 rfl
      refine g_aload_n 241 (gd rfl) rfl rfl ?_
      refine g_iload_n 242 (gd rfl) rfl rfl ?_
      refine g_iload_n 243 (gd rfl) rfl rfl ?_
      have p243 : FWP sc234 (x1).toNatClampNeg (x2) := by exact fwp_i hI (hFc234.1 112 rfl) (hFc234.1 113 rfl) (hFc234.1 114 rfl) (hFc234.1 115 rfl) (hFc234.2.2.1 109 19 rfl) (hFc234.2.2.1 109 20 rfl) q_0 (g234_0 c235).1 (by omega) (g234_0 c235).2
      refine g_callv (X := _) (As := [.int x1, .int x2]) (r := []) (b := A 109) (q := 109) 246 (gd rfl) rfl rfl rfl rfl rfl (ww_o rfl) (Nat.le_of_ble_eq_true rfl) (Nat.zero_le _) (Nat.zero_le _) (k_313 (by first | exact dq1 hd rfl | exact dq0 hd rfl | exact dq2 hd rfl | exact dq3 hd rfl | omega) hIc234 (in_w 0 31 h1 rfl) p243) (fun e u h => h) (fun v u h => ?_)
      obtain ⟨s243, hI243, hF243, rfl, rfl, p243a⟩ := h
      show GG _ _ _ _ _ _ _ _ [] _ _ _
      refine g_iconst 1 247 (gd rfl) rfl rfl ?_
      have n247 : ((Int32.ofInt 1)).toInt ≠ 0 → WFN s243 (x1).toNatClampNeg (x2) := by exact fun _ => p243a
      exact g_ireturn (gd rfl) rfl (nb01 (in_w 0 1 (in_c 1 rfl) rfl)) (hP _ _ ⟨s243, hI243, (fr_tr rfl hFc234 hF243), (Int32.ofInt 1), rfl, rfl, in_w 0 1 (in_c 1 rfl) rfl, n247⟩)
    · skip
      have i235 := z_ne 1 1 c235 j234_3 rfl
      refine g_iconst 0 239 (gd rfl) rfl rfl ?_
      have n239 : ((Int32.ofInt 0)).toInt ≠ 0 → WFN sc234 (x1).toNatClampNeg (x2) := by exact fun hz => absurd (by decide) hz
      exact g_ireturn (gd rfl) rfl (nb01 (in_w 0 1 (in_c 0 rfl) rfl)) (hP _ _ ⟨sc234, hIc234, hFc234, (Int32.ofInt 0), rfl, rfl, in_w 0 1 (in_c 0 rfl) rfl, n239⟩)
  have ct44 : ∀ (k44 : Nat) (sc44 : GS) (y44_3 : Int32) (y44_4 : Int32), Inv sc44 → Fr fm_312 s sc44 → (In y44_3 0 1) → (In y44_4 0 33) → (TGI s (x1).toNatClampNeg (x2) (160000000 * (y44_4).toInt) sc44) → ((y44_3).toInt = 0 → TCL s (x2) sc44 160) → 33 - (y44_4).toInt < (k44 : Int) → GG Z (d - 1) 312 post (gx xp) (902 + k44 * 812251) 44 (fun j => xlook j [(0, .ref (A 109)), (1, .int x1), (2, .int x2), (3, .int y44_3), (4, .int y44_4)]) [] (WW Z A sc44 ++ ex) 0 0 := by
    intro k44
    induction k44 with
    | zero => intro sc44 y44_3 y44_4 hIc44 hFc44 j44_3 j44_4 g44_0 g44_1 mm44; exact m_no mm44 j44_4 rfl
    | succ k44 ih44 =>
      intro sc44 y44_3 y44_4 hIc44 hFc44 j44_3 j44_4 g44_0 g44_1 mm44
      refine gg_w (M := 902 + k44 * 812251 + 812251) gws ?_
      have ct65 : ∀ (k65 : Nat) (sc65 : GS) (y65_3 : Int32) (y65_5 : Int32), Inv sc65 → Fr fm_312 s sc65 → (In y65_3 0 1) → (In y44_4 0 32) → (In y65_5 0 448) → ((u_109_19).toInt ≤ (y65_5).toInt) → ((y65_5).toInt ≤ (u_109_19).toInt + 160) → (TGI s (x1).toNatClampNeg (x2) (160000000 * (y44_4).toInt + 1000000 * ((y65_5).toInt - u_109_19.toInt)) sc65) → ((y65_3).toInt = 0 → TCL s (x2) sc65 ((y65_5).toInt - u_109_19.toInt).toNat) → 448 - (y65_5).toInt < (k65 : Int) → GG Z (d - 1) 312 post (gx xp) (902 + k44 * 812251 + 1 + k65 * 1801) 65 (fun j => xlook j [(0, .ref (A 109)), (1, .int x1), (2, .int x2), (3, .int y65_3), (4, .int y44_4), (5, .int y65_5)]) [] (WW Z A sc65 ++ ex) 0 0 := by
        intro k65
        induction k65 with
        | zero => intro sc65 y65_3 y65_5 hIc65 hFc65 j65_3 j65_4 j65_5 n65_0 n65_1 g65_0 g65_1 mm65; exact m_no mm65 j65_5 rfl
        | succ k65 ih65 =>
          intro sc65 y65_3 y65_5 hIc65 hFc65 j65_3 j65_4 j65_5 n65_0 n65_1 g65_0 g65_1 mm65
          refine gg_w (M := 902 + k44 * 812251 + 1 + k65 * 1801 + 1801) gws ?_
          have ct222 : ∀ (sc222 : GS) (y222_3 : Int32), Inv sc222 → Fr fm_312 s sc222 → (In y222_3 0 1) → (In y65_5 0 400) → ((u_109_19).toInt ≤ (y65_5).toInt) → ((y65_5).toInt < (u_109_19).toInt + 160) → (TGI s (x1).toNatClampNeg (x2) ((160000000 * (y44_4).toInt + 1000000 * ((y65_5).toInt - u_109_19.toInt)) + 1000000) sc222) → ((y222_3).toInt = 0 → TCL s (x2) sc222 (((y65_5).toInt - u_109_19.toInt).toNat + 1)) → GG Z (d - 1) 312 post (gx xp) (902 + k44 * 812251 + 1 + k65 * 1801 + 901) 222 (fun j => xlook j [(0, .ref (A 109)), (1, .int x1), (2, .int x2), (3, .int y222_3), (4, .int y44_4), (5, .int y65_5)]) [] (WW Z A sc222 ++ ex) 0 0 := by
            intro sc222 y222_3 hIc222 hFc222 j222_3 j222_5 n222_0 n222_1 g222_0 g222_1
            refine g_iinc 225 (gd rfl) rfl rfl (Nat.le_of_ble_eq_true rfl) (fun z222 e222 => ?_)
            have i222 := in_add 1 401 e222 j222_5 (in_c 1 rfl) rfl rfl
            refine g_goto 65 (gd rfl) rfl ?_
            have n65 : (u_109_19).toInt ≤ (z222).toInt := by have a0 := oa7 j222_5 j65_4 h1 ro_109_20 ro_109_19 j222_3 i222; have a7 := t_add e222 j222_5 (in_c 1 rfl) rfl; have a8 := in_u ((in_c 1 rfl)); omega
            have n65a : (z222).toInt ≤ (u_109_19).toInt + 160 := by have a0 := oa7 j222_5 j65_4 h1 ro_109_20 ro_109_19 j222_3 i222; have a7 := t_add e222 j222_5 (in_c 1 rfl) rfl; have a8 := in_u ((in_c 1 rfl)); omega
            have n65b : TGI s (x1).toNatClampNeg (x2) (160000000 * (y44_4).toInt + 1000000 * ((z222).toInt - u_109_19.toInt)) sc222 := by exact tgi_w g222_0 (by have a0 := oa7 j222_5 j65_4 h1 ro_109_20 ro_109_19 j222_3 i222; have a7 := t_add e222 j222_5 (in_c 1 rfl) rfl; have a8 := in_u ((in_c 1 rfl)); omega)
            have n65c : (y222_3).toInt = 0 → TCL s (x2) sc222 ((z222).toInt - u_109_19.toInt).toNat := by (intro hz; rw [show (z222.toInt - u_109_19.toInt).toNat = (y65_5.toInt - u_109_19.toInt).toNat + 1 from (by have a0 := oa7 j222_5 j65_4 h1 ro_109_20 ro_109_19 j222_3 i222; have a7 := t_add e222 j222_5 (in_c 1 rfl) rfl; have a8 := in_u ((in_c 1 rfl)); omega)]; exact g222_1 hz)
            exact gg_w (by first | exact Nat.le_add_right _ _ | exact gw2 | exact gw3 | exact gwe rfl | exact gwf rfl | exact gwg rfl | exact gwh rfl | omega) (gg_f (gf_cons rfl (gf_cons rfl (gf_cons rfl (gf_cons rfl (gf_cons rfl (gf_cons rfl gf_nil)))))) (ih65 sc222 y222_3 z222 hIc222 hFc222 (in_w 0 1 j222_3 rfl) (in_w 0 32 j65_4 rfl) (in_w 0 448 i222 rfl) n65 n65a n65b n65c (m_up mm65 (t_add e222 j222_5 (in_c 1 rfl) rfl) (in_w 1 1 (in_c 1 rfl) rfl))))
          refine g_iload 67 (gd rfl) rfl rfl ?_
          refine g_aload_n 68 (gd rfl) rfl rfl ?_
          refine g_getI 71 (gd rfl) rfl rfl rfl (fun z68 e68 => ?_)
          have q68 : u_109_19 = z68 := (fr_F e_109_19 hFc65 rfl).trans e68.symm
          subst q68
          refine g_sipush 160 74 (gd rfl) rfl rfl ?_
          refine g_iadd 75 (gd rfl) rfl (fun z74 e74 => ?_)
          have i74 := in_add 160 320 e74 ro_109_19 (in_c 160 rfl) rfl rfl
          refine g_cmp_ge 78 228 (gd rfl) rfl rfl (fun c75 => ?_) (fun c75 => ?_)
          · skip
            have i75 := r_le2 160 448 c75 i74 j65_5 rfl
            refine g_iinc 231 (gd rfl) rfl rfl (Nat.le_of_ble_eq_true rfl) (fun z228 e228 => ?_)
            have i228 := in_add 1 33 e228 j65_4 (in_c 1 rfl) rfl rfl
            refine g_goto 44 (gd rfl) rfl ?_
            have n44 : TGI s (x1).toNatClampNeg (x2) (160000000 * (z228).toInt) sc65 := by exact tgi_w g65_0 (by have a0 := oa7 j65_4 h1 ro_109_20 ro_109_19 i75 j65_3 i228; have a7 := t_add e228 j65_4 (in_c 1 rfl) rfl; have a8 := oa2 ((in_c 1 rfl)) i74; have a10 := t_add e74 ro_109_19 (in_c 160 rfl) rfl; have a11 := in_u ((in_c 160 rfl)); omega)
            have n44a : (y65_3).toInt = 0 → TCL s (x2) sc65 160 := by (intro hz; have hc := g65_1 hz; rw [show (y65_5.toInt - u_109_19.toInt).toNat = 160 from (by have a0 := oa7 j65_4 h1 ro_109_20 ro_109_19 i75 j65_3 i228; have a7 := t_add e228 j65_4 (in_c 1 rfl) rfl; have a8 := oa2 ((in_c 1 rfl)) i74; have a10 := t_add e74 ro_109_19 (in_c 160 rfl) rfl; have a11 := in_u ((in_c 160 rfl)); omega)] at hc; exact hc)
            exact gg_w (by first | exact Nat.le_add_right _ _ | exact gw2 | exact gw3 | exact gwe rfl | exact gwf rfl | exact gwg rfl | exact gwh rfl | omega) (gg_f (gf_cons rfl (gf_cons rfl (gf_cons rfl (gf_cons rfl (gf_cons rfl gf_nil))))) (ih44 sc65 y65_3 z228 hIc65 hFc65 (in_w 0 1 j65_3 rfl) (in_w 0 33 i228 rfl) n44 n44a (m_up mm44 (t_add e228 j65_4 (in_c 1 rfl) rfl) (in_w 1 1 (in_c 1 rfl) rfl))))
          · skip
            have i75 := r_lt1 0 319 c75 j65_5 i74 rfl
            refine g_aload_n 79 (gd rfl) rfl rfl ?_
            refine g_getA (q2 := 112) 82 (gd rfl) rfl rfl rfl rfl ?_
            refine g_iload 84 (gd rfl) rfl rfl ?_
            refine g_baload 85 (gd rfl) rfl (n := 480) rfl (in_ix i75 rfl) (fun z84 e84 => ?_)
            have i84 := inv_I hIc65 (n := 480) (t := 3) 0 1 rfl (in_ix i75 rfl) rfl e84
            refine g_if_eq 88 222 (gd rfl) rfl rfl (fun c85 => ?_) (fun c85 => ?_)
            · skip
              have i85 := z_eq 0 0 c85 i84 rfl
              have n222 : (u_109_19).toInt ≤ (y65_5).toInt := by first | exact n65_0 | (have a0 := oa7 j65_4 h1 ro_109_20 ro_109_19 i75 j65_3 i74; have a7 := t_add e74 ro_109_19 (in_c 160 rfl) rfl; have a8 := in_u ((in_c 160 rfl)); omega)
              have n222a : (y65_5).toInt < (u_109_19).toInt + 160 := by have a0 := oa7 j65_4 h1 ro_109_20 ro_109_19 i75 j65_3 i74; have a7 := t_add e74 ro_109_19 (in_c 160 rfl) rfl; have a8 := in_u ((in_c 160 rfl)); omega
              have n222b : TGI s (x1).toNatClampNeg (x2) ((160000000 * (y44_4).toInt + 1000000 * ((y65_5).toInt - u_109_19.toInt)) + 1000000) sc65 := by exact tgi_w g65_0 (by have a0 := oa7 j65_4 h1 ro_109_20 ro_109_19 i75 j65_3 i74; have a7 := t_add e74 ro_109_19 (in_c 160 rfl) rfl; have a8 := in_u ((in_c 160 rfl)); omega)
              have n222c : (y65_3).toInt = 0 → TCL s (x2) sc65 (((y65_5).toInt - u_109_19.toInt).toNat + 1) := by (intro hz; exact tcl_s (g65_1 hz) (fun t1 t2 t3 t4 => by exfalso; rw [(ix_k (y := y65_5) e_109_19 (by have a0 := oa7 j65_4 h1 ro_109_20 ro_109_19 i75 j65_3 i74; have a7 := t_add e74 ro_109_19 (in_c 160 rfl) rfl; have a8 := in_u ((in_c 160 rfl)); omega) (by have a0 := oa7 j65_4 h1 ro_109_20 ro_109_19 i75 j65_3 i74; have a7 := t_add e74 ro_109_19 (in_c 160 rfl) rfl; have a8 := in_u ((in_c 160 rfl)); omega)), ← hFc65.1 112 rfl, ← e84] at t1; exact t1 c85))
              exact gg_w (by first | exact Nat.le_add_right _ _ | exact gw2 | exact gw3 | exact gwe rfl | exact gwf rfl | exact gwg rfl | exact gwh rfl | omega) (gg_f (gf_cons rfl (gf_cons rfl (gf_cons rfl (gf_cons rfl (gf_cons rfl (gf_cons rfl gf_nil)))))) (ct222 sc65 y65_3 hIc65 hFc65 (in_w 0 1 j65_3 rfl) (in_w 0 400 i75 rfl) n222 n222a n222b n222c))
            · skip
              have i85 := z_ne 1 1 c85 i84 rfl
              refine g_iload_n 89 (gd rfl) rfl rfl ?_
              refine g_aload_n 90 (gd rfl) rfl rfl ?_
              refine g_getA (q2 := 113) 93 (gd rfl) rfl rfl rfl rfl ?_
              refine g_iload 95 (gd rfl) rfl rfl ?_
              refine g_iaload 96 (gd rfl) rfl (n := 480) rfl (in_ix i75 rfl) (fun z95 e95 => ?_)
              have i95 := inv_I hIc65 (n := 480) (t := 0) 0 31 rfl (in_ix i75 rfl) rfl e95
              refine g_calls (As := [.int x2, .int z95]) (r := []) 99 (gd rfl) rfl rfl rfl rfl rfl (Nat.le_of_ble_eq_true rfl) (mc := 0) (ms := 0) (Nat.zero_le _) (Nat.zero_le _) (P := fun v u => _) ?_ (fun v u h => h)
              intro po96 xx96 hp96 hx96
              refine g_enter2 (k := 311) (N := 300) (by first | exact dq1 hd rfl | exact dq0 hd rfl | exact dq2 hd rfl | exact dq3 hd rfl | omega) rfl (Nat.le_of_ble_eq_true rfl) ?_
              refine g_iload_n 1 (gd rfl) rfl rfl ?_
              refine g_iload_n 2 (gd rfl) rfl rfl ?_
              refine g_ishr 3 (gd rfl) rfl (fun z96x2 e96x2 => ?_)
              refine g_iconst 1 4 (gd rfl) rfl rfl ?_
              refine g_iand 5 (gd rfl) rfl (fun z96x4 e96x4 => ?_)
              have i96x4 := in_and2 e96x4 (in_c 1 rfl) rfl
              refine g_iconst 1 6 (gd rfl) rfl rfl ?_
              refine g_cmp_ne 9 13 (gd rfl) rfl rfl (fun c96x6 => ?_) (fun c96x6 => ?_)
              · skip
                have i96x6 := r_ne1 0 0 c96x6 i96x4 (in_c 1 rfl) rfl
                refine g_iconst 0 14 (gd rfl) rfl rfl ?_
                refine g_ireturn (gd rfl) rfl (nb01 (in_w 0 1 (in_c 0 rfl) rfl)) (hp96 _ _ ?_)
                show GG _ _ _ _ _ _ _ _ [.int (Int32.ofInt 0)] _ _ _
                refine g_if_eq 102 222 (gd rfl) rfl rfl (fun c99 => ?_) (fun c99 => ?_)
                · skip
                  have n222 : (u_109_19).toInt ≤ (y65_5).toInt := by first | exact n65_0 | (have a0 := oa7 j65_4 h1 ro_109_20 ro_109_19 i75 j65_3 i74; have a7 := t_add e74 ro_109_19 (in_c 160 rfl) rfl; have a8 := in_u ((in_c 160 rfl)); omega)
                  have n222a : (y65_5).toInt < (u_109_19).toInt + 160 := by have a0 := oa7 j65_4 h1 ro_109_20 ro_109_19 i75 j65_3 i74; have a7 := t_add e74 ro_109_19 (in_c 160 rfl) rfl; have a8 := in_u ((in_c 160 rfl)); omega
                  have n222b : TGI s (x1).toNatClampNeg (x2) ((160000000 * (y44_4).toInt + 1000000 * ((y65_5).toInt - u_109_19.toInt)) + 1000000) sc65 := by exact tgi_w g65_0 (by have a0 := oa7 j65_4 h1 ro_109_20 ro_109_19 i75 j65_3 i74; have a7 := t_add e74 ro_109_19 (in_c 160 rfl) rfl; have a8 := in_u ((in_c 160 rfl)); omega)
                  have n222c : (y65_3).toInt = 0 → TCL s (x2) sc65 (((y65_5).toInt - u_109_19.toInt).toNat + 1) := by (intro hz; exact tcl_s (g65_1 hz) (fun t1 t2 t3 t4 => by exfalso; have hb := bt_no e96x2 e96x4 i95 c96x6; rw [(ix_k (y := y65_5) e_109_19 (by have a0 := oa7 j65_4 h1 ro_109_20 ro_109_19 i75 j65_3 i74; have a7 := t_add e74 ro_109_19 (in_c 160 rfl) rfl; have a8 := in_u ((in_c 160 rfl)); omega) (by have a0 := oa7 j65_4 h1 ro_109_20 ro_109_19 i75 j65_3 i74; have a7 := t_add e74 ro_109_19 (in_c 160 rfl) rfl; have a8 := in_u ((in_c 160 rfl)); omega)), ← hFc65.1 113 rfl, ← e95, hb] at t2; cases t2))
                  exact gg_w (by first | exact Nat.le_add_right _ _ | exact gw2 | exact gw3 | exact gwe rfl | exact gwf rfl | exact gwg rfl | exact gwh rfl | omega) (gg_f (gf_cons rfl (gf_cons rfl (gf_cons rfl (gf_cons rfl (gf_cons rfl (gf_cons rfl gf_nil)))))) (ct222 sc65 y65_3 hIc65 hFc65 (in_w 0 1 j65_3 rfl) (in_w 0 400 i75 rfl) n222 n222a n222b n222c))
                · skip
                  exact zn_ne c99 (in_c 0 rfl) rfl
              · skip
                have i96x6 := r_eq1 1 1 c96x6 i96x4 (in_c 1 rfl) rfl
                refine g_iconst 1 10 (gd rfl) rfl rfl ?_
                refine g_goto 14 (gd rfl) rfl ?_
                refine g_ireturn (gd rfl) rfl (nb01 (in_w 0 1 (in_c 1 rfl) rfl)) (hp96 _ _ ?_)
                show GG _ _ _ _ _ _ _ _ [.int (Int32.ofInt 1)] _ _ _
                refine g_if_eq 102 222 (gd rfl) rfl rfl (fun c99 => ?_) (fun c99 => ?_)
                · skip
                  exact zn_eq c99 (in_c 1 rfl) rfl
                · skip
                  refine g_iload_n 103 (gd rfl) rfl rfl ?_
                  refine g_aload_n 104 (gd rfl) rfl rfl ?_
                  refine g_getA (q2 := 114) 107 (gd rfl) rfl rfl rfl rfl ?_
                  refine g_iload 109 (gd rfl) rfl rfl ?_
                  refine g_iaload 110 (gd rfl) rfl (n := 480) rfl (in_ix i75 rfl) (fun z109 e109 => ?_)
                  have i109 := inv_I hIc65 (n := 480) (t := 0) 0 31 rfl (in_ix i75 rfl) rfl e109
                  refine g_calls (As := [.int x2, .int z109]) (r := []) 113 (gd rfl) rfl rfl rfl rfl rfl (Nat.le_of_ble_eq_true rfl) (mc := 0) (ms := 0) (Nat.zero_le _) (Nat.zero_le _) (P := fun v u => _) ?_ (fun v u h => h)
                  intro po110 xx110 hp110 hx110
                  refine g_enter2 (k := 311) (N := 300) (by first | exact dq1 hd rfl | exact dq0 hd rfl | exact dq2 hd rfl | exact dq3 hd rfl | omega) rfl (Nat.le_of_ble_eq_true rfl) ?_
                  refine g_iload_n 1 (gd rfl) rfl rfl ?_
                  refine g_iload_n 2 (gd rfl) rfl rfl ?_
                  refine g_ishr 3 (gd rfl) rfl (fun z110x2 e110x2 => ?_)
                  refine g_iconst 1 4 (gd rfl) rfl rfl ?_
                  refine g_iand 5 (gd rfl) rfl (fun z110x4 e110x4 => ?_)
                  have i110x4 := in_and2 e110x4 (in_c 1 rfl) rfl
                  refine g_iconst 1 6 (gd rfl) rfl rfl ?_
                  refine g_cmp_ne 9 13 (gd rfl) rfl rfl (fun c110x6 => ?_) (fun c110x6 => ?_)
                  · skip
                    have i110x6 := r_ne1 0 0 c110x6 i110x4 (in_c 1 rfl) rfl
                    refine g_iconst 0 14 (gd rfl) rfl rfl ?_
                    refine g_ireturn (gd rfl) rfl (nb01 (in_w 0 1 (in_c 0 rfl) rfl)) (hp110 _ _ ?_)
                    show GG _ _ _ _ _ _ _ _ [.int (Int32.ofInt 0)] _ _ _
                    refine g_if_eq 116 222 (gd rfl) rfl rfl (fun c113 => ?_) (fun c113 => ?_)
                    · skip
                      have n222 : (u_109_19).toInt ≤ (y65_5).toInt := by first | exact n65_0 | (have a0 := oa7 j65_4 h1 ro_109_20 ro_109_19 i75 j65_3 i74; have a7 := t_add e74 ro_109_19 (in_c 160 rfl) rfl; have a8 := in_u ((in_c 160 rfl)); omega)
                      have n222a : (y65_5).toInt < (u_109_19).toInt + 160 := by have a0 := oa7 j65_4 h1 ro_109_20 ro_109_19 i75 j65_3 i74; have a7 := t_add e74 ro_109_19 (in_c 160 rfl) rfl; have a8 := in_u ((in_c 160 rfl)); omega
                      have n222b : TGI s (x1).toNatClampNeg (x2) ((160000000 * (y44_4).toInt + 1000000 * ((y65_5).toInt - u_109_19.toInt)) + 1000000) sc65 := by exact tgi_w g65_0 (by have a0 := oa7 j65_4 h1 ro_109_20 ro_109_19 i75 j65_3 i74; have a7 := t_add e74 ro_109_19 (in_c 160 rfl) rfl; have a8 := in_u ((in_c 160 rfl)); omega)
                      have n222c : (y65_3).toInt = 0 → TCL s (x2) sc65 (((y65_5).toInt - u_109_19.toInt).toNat + 1) := by (intro hz; exact tcl_s (g65_1 hz) (fun t1 t2 t3 t4 => by exfalso; have hb := bt_no e110x2 e110x4 i109 c110x6; rw [(ix_k (y := y65_5) e_109_19 (by have a0 := oa7 j65_4 h1 ro_109_20 ro_109_19 i75 j65_3 i74; have a7 := t_add e74 ro_109_19 (in_c 160 rfl) rfl; have a8 := in_u ((in_c 160 rfl)); omega) (by have a0 := oa7 j65_4 h1 ro_109_20 ro_109_19 i75 j65_3 i74; have a7 := t_add e74 ro_109_19 (in_c 160 rfl) rfl; have a8 := in_u ((in_c 160 rfl)); omega)), ← hFc65.1 114 rfl, ← e109, hb] at t3; cases t3))
                      exact gg_w (by first | exact Nat.le_add_right _ _ | exact gw2 | exact gw3 | exact gwe rfl | exact gwf rfl | exact gwg rfl | exact gwh rfl | omega) (gg_f (gf_cons rfl (gf_cons rfl (gf_cons rfl (gf_cons rfl (gf_cons rfl (gf_cons rfl gf_nil)))))) (ct222 sc65 y65_3 hIc65 hFc65 (in_w 0 1 j65_3 rfl) (in_w 0 400 i75 rfl) n222 n222a n222b n222c))
                    · skip
                      exact zn_ne c113 (in_c 0 rfl) rfl
                  · skip
                    have i110x6 := r_eq1 1 1 c110x6 i110x4 (in_c 1 rfl) rfl
                    refine g_iconst 1 10 (gd rfl) rfl rfl ?_
                    refine g_goto 14 (gd rfl) rfl ?_
                    refine g_ireturn (gd rfl) rfl (nb01 (in_w 0 1 (in_c 1 rfl) rfl)) (hp110 _ _ ?_)
                    show GG _ _ _ _ _ _ _ _ [.int (Int32.ofInt 1)] _ _ _
                    refine g_if_eq 116 222 (gd rfl) rfl rfl (fun c113 => ?_) (fun c113 => ?_)
                    · skip
                      exact zn_eq c113 (in_c 1 rfl) rfl
                    · skip
                      refine g_aload_n 117 (gd rfl) rfl rfl ?_
                      refine g_getA (q2 := 130) 120 (gd rfl) rfl rfl rfl rfl ?_
                      refine g_aload_n 121 (gd rfl) rfl rfl ?_
                      refine g_getA (q2 := 114) 124 (gd rfl) rfl rfl rfl rfl ?_
                      refine g_iload 126 (gd rfl) rfl rfl ?_
                      refine g_iaload 127 (gd rfl) rfl (n := 480) rfl (in_ix i75 rfl) (fun z126 e126 => ?_)
                      have q126 : z109 = z126 := (e109).trans e126.symm
                      subst q126
                      refine g_laload 128 (gd rfl) rfl (n := 32) rfl (in_ix i109 rfl) (fun z127 e127 => ?_)
                      refine g_ldc2_w 9000000000000000 131 (gd rfl) rfl rfl ?_
                      refine g_lcmp 132 (gd rfl) rfl (fun z131 e131 => ?_)
                      have i131 := lc_in e131
                      refine g_if_ge 135 222 (gd rfl) rfl rfl (fun c132 => ?_) (fun c132 => ?_)
                      · skip
                        have i132 := z_ge 0 1 c132 i131 rfl
                        have c132a := lc_ge e131 c132
                        have i132a := lr_le2 9000000000000000 9223372036854775807 c132a (l_c 9000000000000000 rfl) (l_rng z127) rfl
                        have n222 : (u_109_19).toInt ≤ (y65_5).toInt := by first | exact n65_0 | (have a0 := oa7 j65_4 h1 ro_109_20 ro_109_19 i75 j65_3 i74; have a7 := t_add e74 ro_109_19 (in_c 160 rfl) rfl; have a8 := in_u ((in_c 160 rfl)); omega)
                        have n222a : (y65_5).toInt < (u_109_19).toInt + 160 := by have a0 := oa7 j65_4 h1 ro_109_20 ro_109_19 i75 j65_3 i74; have a7 := t_add e74 ro_109_19 (in_c 160 rfl) rfl; have a8 := in_u ((in_c 160 rfl)); omega
                        have n222b : TGI s (x1).toNatClampNeg (x2) ((160000000 * (y44_4).toInt + 1000000 * ((y65_5).toInt - u_109_19.toInt)) + 1000000) sc65 := by exact tgi_w g65_0 (by have a0 := oa7 j65_4 h1 ro_109_20 ro_109_19 i75 j65_3 i74; have a7 := t_add e74 ro_109_19 (in_c 160 rfl) rfl; have a8 := in_u ((in_c 160 rfl)); omega)
                        have n222c : (y65_3).toInt = 0 → TCL s (x2) sc65 (((y65_5).toInt - u_109_19.toInt).toNat + 1) := by (intro hz; exact tcl_s (g65_1 hz) (fun t1 t2 t3 t4 => by exfalso; rw [(ix_k (y := y65_5) e_109_19 (by have a0 := oa7 j65_4 h1 ro_109_20 ro_109_19 i75 j65_3 i74; have a7 := t_add e74 ro_109_19 (in_c 160 rfl) rfl; have a8 := in_u ((in_c 160 rfl)); omega) (by have a0 := oa7 j65_4 h1 ro_109_20 ro_109_19 i75 j65_3 i74; have a7 := t_add e74 ro_109_19 (in_c 160 rfl) rfl; have a8 := in_u ((in_c 160 rfl)); omega)), ← hFc65.1 114 rfl, ← e109, ← e127] at t4; have h := i132a.1; omega))
                        exact gg_w (by first | exact Nat.le_add_right _ _ | exact gw2 | exact gw3 | exact gwe rfl | exact gwf rfl | exact gwg rfl | exact gwh rfl | omega) (gg_f (gf_cons rfl (gf_cons rfl (gf_cons rfl (gf_cons rfl (gf_cons rfl (gf_cons rfl gf_nil)))))) (ct222 sc65 y65_3 hIc65 hFc65 (in_w 0 1 j65_3 rfl) (in_w 0 400 i75 rfl) n222 n222a n222b n222c))
                      · skip
                        have i132 := z_lt (-1) (-1) c132 i131 rfl
                        have c132a := lc_lt e131 c132
                        have i132a := lr_lt1 (-9223372036854775808) 8999999999999999 c132a (l_rng z127) (l_c 9000000000000000 rfl) rfl
                        refine g_aload_n 136 (gd rfl) rfl rfl ?_
                        refine g_getA (q2 := 130) 139 (gd rfl) rfl rfl rfl rfl ?_
                        refine g_aload_n 140 (gd rfl) rfl rfl ?_
                        refine g_getA (q2 := 114) 143 (gd rfl) rfl rfl rfl rfl ?_
                        refine g_iload 145 (gd rfl) rfl rfl ?_
                        refine g_iaload 146 (gd rfl) rfl (n := 480) rfl (in_ix i75 rfl) (fun z145 e145 => ?_)
                        have q145 : z109 = z145 := (e109).trans e145.symm
                        subst q145
                        refine g_laload 147 (gd rfl) rfl (n := 32) rfl (in_ix i109 rfl) (fun z146 e146 => ?_)
                        refine g_aload_n 148 (gd rfl) rfl rfl ?_
                        refine g_getA (q2 := 115) 151 (gd rfl) rfl rfl rfl rfl ?_
                        refine g_iload 153 (gd rfl) rfl rfl ?_
                        refine g_iaload 154 (gd rfl) rfl (n := 480) rfl (in_ix i75 rfl) (fun z153 e153 => ?_)
                        have i153 := inv_I hIc65 (n := 480) (t := 0) (-1000000) 1000000 rfl (in_ix i75 rfl) rfl e153
                        refine g_i2l 155 (gd rfl) rfl (fun z154 e154 => ?_)
                        have i154 := l_i e154 i153
                        refine g_ladd 156 (gd rfl) rfl (fun z155 e155 => ?_)
                        refine g_lstore 158 (gd rfl) rfl (Nat.le_of_ble_eq_true rfl) ?_
                        refine g_aload_n 159 (gd rfl) rfl rfl ?_
                        refine g_getA (q2 := 131) 162 (gd rfl) rfl rfl rfl rfl ?_
                        refine g_aload_n 163 (gd rfl) rfl rfl ?_
                        refine g_getA (q2 := 114) 166 (gd rfl) rfl rfl rfl rfl ?_
                        refine g_iload 168 (gd rfl) rfl rfl ?_
                        refine g_iaload 169 (gd rfl) rfl (n := 480) rfl (in_ix i75 rfl) (fun z168 e168 => ?_)
                        have q168 : z109 = z168 := (e109).trans e168.symm
                        subst q168
                        refine g_iaload 170 (gd rfl) rfl (n := 32) rfl (in_ix i109 rfl) (fun z169 e169 => ?_)
                        refine g_iconst 1 171 (gd rfl) rfl rfl ?_
                        refine g_iadd 172 (gd rfl) rfl (fun z171 e171 => ?_)
                        refine g_istore 174 (gd rfl) rfl (Nat.le_of_ble_eq_true rfl) ?_
                        refine g_lload 176 (gd rfl) rfl rfl ?_
                        refine g_aload_n 177 (gd rfl) rfl rfl ?_
                        refine g_getA (q2 := 130) 180 (gd rfl) rfl rfl rfl rfl ?_
                        refine g_aload_n 181 (gd rfl) rfl rfl ?_
                        refine g_getA (q2 := 113) 184 (gd rfl) rfl rfl rfl rfl ?_
                        refine g_iload 186 (gd rfl) rfl rfl ?_
                        refine g_iaload 187 (gd rfl) rfl (n := 480) rfl (in_ix i75 rfl) (fun z186 e186 => ?_)
                        have q186 : z95 = z186 := (e95).trans e186.symm
                        subst q186
                        refine g_laload 188 (gd rfl) rfl (n := 32) rfl (in_ix i95 rfl) (fun z187 e187 => ?_)
                        refine g_lcmp 189 (gd rfl) rfl (fun z188 e188 => ?_)
                        have i188 := lc_in e188
                        refine g_if_ge 192 222 (gd rfl) rfl rfl (fun c189 => ?_) (fun c189 => ?_)
                        · skip
                          have i189 := z_ge 0 1 c189 i188 rfl
                          have c189a := lc_ge e188 c189
                          have n222 : (u_109_19).toInt ≤ (y65_5).toInt := by first | exact n65_0 | (have a0 := oa6 j65_4 h1 ro_109_20 ro_109_19 i75 j65_3; have a6 := tx_i2l e154; have a7 := oa2 i153 i74; have a9 := t_add e74 ro_109_19 (in_c 160 rfl) rfl; have a10 := in_u ((in_c 160 rfl)); omega)
                          have n222a : (y65_5).toInt < (u_109_19).toInt + 160 := by have a0 := oa6 j65_4 h1 ro_109_20 ro_109_19 i75 j65_3; have a6 := tx_i2l e154; have a7 := oa2 i153 i74; have a9 := t_add e74 ro_109_19 (in_c 160 rfl) rfl; have a10 := in_u ((in_c 160 rfl)); omega
                          have n222b : TGI s (x1).toNatClampNeg (x2) ((160000000 * (y44_4).toInt + 1000000 * ((y65_5).toInt - u_109_19.toInt)) + 1000000) sc65 := by first | exact tgi_w g65_0 (by have a0 := oa6 j65_4 h1 ro_109_20 ro_109_19 i75 j65_3; have a6 := tx_i2l e154; have a7 := oa2 i153 i74; have a9 := t_add e74 ro_109_19 (in_c 160 rfl) rfl; have a10 := in_u ((in_c 160 rfl)); omega)
                          have n222c : (y65_3).toInt = 0 → TCL s (x2) sc65 (((y65_5).toInt - u_109_19.toInt).toNat + 1) := by (intro hz; exact tcl_s (g65_1 hz) (fun t1 t2 t3 t4 => by have hk := arc_n hI (a := (y65_5.toInt - u_109_19.toInt).toNat) (by have a0 := oa6 j65_4 h1 ro_109_20 ro_109_19 i75 j65_3; have a6 := tx_i2l e154; have a7 := oa2 i153 i74; have a9 := t_add e74 ro_109_19 (in_c 160 rfl) rfl; have a10 := in_u ((in_c 160 rfl)); omega) (by rw [(ix_k (y := y65_5) e_109_19 (by have a0 := oa6 j65_4 h1 ro_109_20 ro_109_19 i75 j65_3; have a6 := tx_i2l e154; have a7 := oa2 i153 i74; have a9 := t_add e74 ro_109_19 (in_c 160 rfl) rfl; have a10 := in_u ((in_c 160 rfl)); omega) (by have a0 := oa6 j65_4 h1 ro_109_20 ro_109_19 i75 j65_3; have a6 := tx_i2l e154; have a7 := oa2 i153 i74; have a9 := t_add e74 ro_109_19 (in_c 160 rfl) rfl; have a10 := in_u ((in_c 160 rfl)); omega)), ← hFc65.1 112 rfl, ← e84]; exact c85); rw [(ix_k (y := y65_5) e_109_19 (by have a0 := oa6 j65_4 h1 ro_109_20 ro_109_19 i75 j65_3; have a6 := tx_i2l e154; have a7 := oa2 i153 i74; have a9 := t_add e74 ro_109_19 (in_c 160 rfl) rfl; have a10 := in_u ((in_c 160 rfl)); omega) (by have a0 := oa6 j65_4 h1 ro_109_20 ro_109_19 i75 j65_3; have a6 := tx_i2l e154; have a7 := oa2 i153 i74; have a9 := t_add e74 ro_109_19 (in_c 160 rfl) rfl; have a10 := in_u ((in_c 160 rfl)); omega)), ← hFc65.1 114 rfl, ← e109] at hk; have hadd := tgi_add g65_0 (by have a0 := oa6 j65_4 h1 ro_109_20 ro_109_19 i75 j65_3; have a6 := tx_i2l e154; have a7 := oa2 i153 i74; have a9 := t_add e74 ro_109_19 (in_c 160 rfl) rfl; have a10 := in_u ((in_c 160 rfl)); omega) (by have a0 := oa6 j65_4 h1 ro_109_20 ro_109_19 i75 j65_3; have a6 := tx_i2l e154; have a7 := oa2 i153 i74; have a9 := t_add e74 ro_109_19 (in_c 160 rfl) rfl; have a10 := in_u ((in_c 160 rfl)); omega) i109 hk.2.1.2 e146 (by rw [e146, ← e127]; have h := i132a.2; omega) i153 e155 (tx_i2l e154); rw [(ix_k (y := y65_5) e_109_19 (by have a0 := oa6 j65_4 h1 ro_109_20 ro_109_19 i75 j65_3; have a6 := tx_i2l e154; have a7 := oa2 i153 i74; have a9 := t_add e74 ro_109_19 (in_c 160 rfl) rfl; have a10 := in_u ((in_c 160 rfl)); omega) (by have a0 := oa6 j65_4 h1 ro_109_20 ro_109_19 i75 j65_3; have a6 := tx_i2l e154; have a7 := oa2 i153 i74; have a9 := t_add e74 ro_109_19 (in_c 160 rfl) rfl; have a10 := in_u ((in_c 160 rfl)); omega)), ← hFc65.1 113 rfl, ← hFc65.1 114 rfl, ← hFc65.1 115 rfl, ← e95, ← e109, ← e153, ← e187, ← e146]; have h := c189a; omega))
                          exact gg_w (by first | exact Nat.le_add_right _ _ | exact gw2 | exact gw3 | exact gwe rfl | exact gwf rfl | exact gwg rfl | exact gwh rfl | omega) (gg_f (gf_cons rfl (gf_cons rfl (gf_cons rfl (gf_cons rfl (gf_cons rfl (gf_cons rfl gf_nil)))))) (ct222 sc65 y65_3 hIc65 hFc65 (in_w 0 1 j65_3 rfl) (in_w 0 400 i75 rfl) n222 n222a n222b n222c))
                        · skip
                          have i189 := z_lt (-1) (-1) c189 i188 rfl
                          have c189a := lc_lt e188 c189
                          have i189a := lr_lt1 (-9223372036854775808) 9223372036854775806 c189a (l_rng z155) (l_rng z187) rfl
                          have i189b := lr_lt2 (-9223372036854775807) 9223372036854775807 c189a (l_rng z155) (l_rng z187) rfl
                          refine g_aload_n 193 (gd rfl) rfl rfl ?_
                          refine g_getA (q2 := 130) 196 (gd rfl) rfl rfl rfl rfl ?_
                          refine g_aload_n 197 (gd rfl) rfl rfl ?_
                          refine g_getA (q2 := 113) 200 (gd rfl) rfl rfl rfl rfl ?_
                          refine g_iload 202 (gd rfl) rfl rfl ?_
                          refine g_iaload 203 (gd rfl) rfl (n := 480) rfl (in_ix i75 rfl) (fun z202 e202 => ?_)
                          have q202 : z95 = z202 := (e95).trans e202.symm
                          subst q202
                          refine g_lload 205 (gd rfl) rfl rfl ?_
                          refine g_lastore 206 (gd rfl) rfl (n := 32) rfl (in_ix i95 rfl) ?_
                          have hI205 := inv_sL (q := 130) (j := z95.toNatClampNeg) (x := z155) hIc65 rfl (l_rng z155)
                          refine g_aload_n 207 (gd rfl) rfl rfl ?_
                          refine g_getA (q2 := 131) 210 (gd rfl) rfl rfl rfl rfl ?_
                          refine g_aload_n 211 (gd rfl) rfl rfl ?_
                          refine g_getA (q2 := 113) 214 (gd rfl) rfl rfl rfl rfl ?_
                          refine g_iload 216 (gd rfl) rfl rfl ?_
                          refine g_iaload 217 (gd rfl) rfl (n := 480) rfl (in_ix i75 rfl) (fun z216 e216 => ?_)
                          have q216 : z95 = z216 := (sL_I (e95)).trans e216.symm
                          subst q216
                          refine g_iload 219 (gd rfl) rfl rfl ?_
                          refine g_iastore 220 (gd rfl) rfl (n := 32) rfl (in_ix i95 rfl) ?_
                          have hI219 := inv_sI (q := 131) (j := z95.toNatClampNeg) hI205 rfl (in_w (-2147483648) 2147483647 (i_rng z171) rfl)
                          refine g_iconst 1 221 (gd rfl) rfl rfl ?_
                          refine g_istore_n 222 (gd rfl) rfl (Nat.le_of_ble_eq_true rfl) ?_
                          have n222 : (u_109_19).toInt ≤ (y65_5).toInt := by first | exact n65_0 | (have a0 := oa7 j65_4 h1 ro_109_20 ro_109_19 i75 j65_3 ((in_c 1 rfl)); have a7 := tx_i2l e154; have a8 := oa2 i153 i74; have a10 := t_add e74 ro_109_19 (in_c 160 rfl) rfl; have a11 := in_u ((in_c 160 rfl)); omega)
                          have n222a : (y65_5).toInt < (u_109_19).toInt + 160 := by have a0 := oa7 j65_4 h1 ro_109_20 ro_109_19 i75 j65_3 ((in_c 1 rfl)); have a7 := tx_i2l e154; have a8 := oa2 i153 i74; have a10 := t_add e74 ro_109_19 (in_c 160 rfl) rfl; have a11 := in_u ((in_c 160 rfl)); omega
                          have n222b : TGI s (x1).toNatClampNeg (x2) ((160000000 * (y44_4).toInt + 1000000 * ((y65_5).toInt - u_109_19.toInt)) + 1000000) (sI (sL sc65 130 z95.toNatClampNeg z155) 131 z95.toNatClampNeg z171) := by exact tgi_ch (a := (y65_5.toInt - u_109_19.toInt).toNat) hI g65_0 (by have a0 := oa7 j65_4 h1 ro_109_20 ro_109_19 i75 j65_3 ((in_c 1 rfl)); have a7 := tx_i2l e154; have a8 := oa2 i153 i74; have a10 := t_add e74 ro_109_19 (in_c 160 rfl) rfl; have a11 := in_u ((in_c 160 rfl)); omega) (by rw [(ix_k (y := y65_5) e_109_19 (by have a0 := oa7 j65_4 h1 ro_109_20 ro_109_19 i75 j65_3 ((in_c 1 rfl)); have a7 := tx_i2l e154; have a8 := oa2 i153 i74; have a10 := t_add e74 ro_109_19 (in_c 160 rfl) rfl; have a11 := in_u ((in_c 160 rfl)); omega) (by have a0 := oa7 j65_4 h1 ro_109_20 ro_109_19 i75 j65_3 ((in_c 1 rfl)); have a7 := tx_i2l e154; have a8 := oa2 i153 i74; have a10 := t_add e74 ro_109_19 (in_c 160 rfl) rfl; have a11 := in_u ((in_c 160 rfl)); omega)), ← hFc65.1 112 rfl, ← e84]; exact c85) (by rw [(ix_k (y := y65_5) e_109_19 (by have a0 := oa7 j65_4 h1 ro_109_20 ro_109_19 i75 j65_3 ((in_c 1 rfl)); have a7 := tx_i2l e154; have a8 := oa2 i153 i74; have a10 := t_add e74 ro_109_19 (in_c 160 rfl) rfl; have a11 := in_u ((in_c 160 rfl)); omega) (by have a0 := oa7 j65_4 h1 ro_109_20 ro_109_19 i75 j65_3 ((in_c 1 rfl)); have a7 := tx_i2l e154; have a8 := oa2 i153 i74; have a10 := t_add e74 ro_109_19 (in_c 160 rfl) rfl; have a11 := in_u ((in_c 160 rfl)); omega)), ← hFc65.1 113 rfl]; exact e95) (by rw [(ix_k (y := y65_5) e_109_19 (by have a0 := oa7 j65_4 h1 ro_109_20 ro_109_19 i75 j65_3 ((in_c 1 rfl)); have a7 := tx_i2l e154; have a8 := oa2 i153 i74; have a10 := t_add e74 ro_109_19 (in_c 160 rfl) rfl; have a11 := in_u ((in_c 160 rfl)); omega) (by have a0 := oa7 j65_4 h1 ro_109_20 ro_109_19 i75 j65_3 ((in_c 1 rfl)); have a7 := tx_i2l e154; have a8 := oa2 i153 i74; have a10 := t_add e74 ro_109_19 (in_c 160 rfl) rfl; have a11 := in_u ((in_c 160 rfl)); omega)), ← hFc65.1 114 rfl]; exact e109) (by rw [(ix_k (y := y65_5) e_109_19 (by have a0 := oa7 j65_4 h1 ro_109_20 ro_109_19 i75 j65_3 ((in_c 1 rfl)); have a7 := tx_i2l e154; have a8 := oa2 i153 i74; have a10 := t_add e74 ro_109_19 (in_c 160 rfl) rfl; have a11 := in_u ((in_c 160 rfl)); omega) (by have a0 := oa7 j65_4 h1 ro_109_20 ro_109_19 i75 j65_3 ((in_c 1 rfl)); have a7 := tx_i2l e154; have a8 := oa2 i153 i74; have a10 := t_add e74 ro_109_19 (in_c 160 rfl) rfl; have a11 := in_u ((in_c 160 rfl)); omega)), ← hFc65.1 115 rfl]; exact e153) (bt_yes e96x2 e96x4 i95 c96x6) (bt_yes e110x2 e110x4 i109 c110x6) e146 (by rw [e146, ← e127]; have h := i132a.2; omega) e155 (tx_i2l e154) (by rw [← e187]; exact c189a) (by simp [sI, sL]) (by have a0 := oa7 j65_4 h1 ro_109_20 ro_109_19 i75 j65_3 ((in_c 1 rfl)); have a7 := tx_i2l e154; have a8 := oa2 i153 i74; have a10 := t_add e74 ro_109_19 (in_c 160 rfl) rfl; have a11 := in_u ((in_c 160 rfl)); omega) (by have a0 := oa7 j65_4 h1 ro_109_20 ro_109_19 i75 j65_3 ((in_c 1 rfl)); have a7 := tx_i2l e154; have a8 := oa2 i153 i74; have a10 := t_add e74 ro_109_19 (in_c 160 rfl) rfl; have a11 := in_u ((in_c 160 rfl)); omega) (by have a0 := oa7 j65_4 h1 ro_109_20 ro_109_19 i75 j65_3 ((in_c 1 rfl)); have a7 := tx_i2l e154; have a8 := oa2 i153 i74; have a10 := t_add e74 ro_109_19 (in_c 160 rfl) rfl; have a11 := in_u ((in_c 160 rfl)); omega)
                          have n222c : ((Int32.ofInt 1)).toInt = 0 → TCL s (x2) (sI (sL sc65 130 z95.toNatClampNeg z155) 131 z95.toNatClampNeg z171) (((y65_5).toInt - u_109_19.toInt).toNat + 1) := by exact fun h => absurd h (by decide)
                          exact gg_w (by first | exact Nat.le_add_right _ _ | exact gw2 | exact gw3 | exact gwe rfl | exact gwf rfl | exact gwg rfl | exact gwh rfl | omega) (gg_f (gf_cons rfl (gf_cons rfl (gf_cons rfl (gf_cons rfl (gf_cons rfl (gf_cons rfl gf_nil)))))) (ct222 (sI (sL sc65 130 z95.toNatClampNeg z155) 131 z95.toNatClampNeg z171) (Int32.ofInt 1) hI219 (fr_sI rfl (fr_sL rfl hFc65)) (in_w 0 1 (in_c 1 rfl) rfl) (in_w 0 400 i75 rfl) n222 n222a n222b n222c))
      refine g_iload 46 (gd rfl) rfl rfl ?_
      refine g_aload_n 47 (gd rfl) rfl rfl ?_
      refine g_getI 50 (gd rfl) rfl rfl rfl (fun z47 e47 => ?_)
      have q47 : u_109_20 = z47 := (fr_F e_109_20 hFc44 rfl).trans e47.symm
      subst q47
      refine g_cmp_gt 53 234 (gd rfl) rfl rfl (fun c50 => ?_) (fun c50 => ?_)
      · skip
        have i50 := r_lt2 1 33 c50 ro_109_20 j44_4 rfl
        have n234 : (y44_3).toInt = 0 → TGI s (x1).toNatClampNeg (x2) 10000000000 sc44 ∧ TCL s (x2) sc44 160 := by exact fun hz => ⟨tgi_w g44_0 (by have a0 := oa5 h1 ro_109_20 ro_109_19 i50 j44_3; omega), g44_1 hz⟩
        exact gg_w (by first | exact Nat.le_add_right _ _ | exact gw2 | exact gw3 | exact gwe rfl | exact gwf rfl | exact gwg rfl | exact gwh rfl | omega) (gg_f (gf_cons rfl (gf_cons rfl (gf_cons rfl (gf_cons rfl (gf_cons rfl gf_nil))))) (ct234 sc44 y44_3 y44_4 hIc44 hFc44 (in_w 0 1 j44_3 rfl) (in_w 0 33 i50 rfl) n234))
      · skip
        have i50 := r_le1 0 32 c50 j44_4 ro_109_20 rfl
        refine g_iload_n 54 (gd rfl) rfl rfl ?_
        refine g_if_eq 57 234 (gd rfl) rfl rfl (fun c54 => ?_) (fun c54 => ?_)
        · skip
          have i54 := z_eq 0 0 c54 j44_3 rfl
          have n234 : (y44_3).toInt = 0 → TGI s (x1).toNatClampNeg (x2) 10000000000 sc44 ∧ TCL s (x2) sc44 160 := by exact fun hz => ⟨tgi_w g44_0 (by have a0 := oa5 h1 ro_109_20 ro_109_19 i50 i54; omega), g44_1 hz⟩
          exact gg_w (by first | exact Nat.le_add_right _ _ | exact gw2 | exact gw3 | exact gwe rfl | exact gwf rfl | exact gwg rfl | exact gwh rfl | omega) (gg_f (gf_cons rfl (gf_cons rfl (gf_cons rfl (gf_cons rfl (gf_cons rfl gf_nil))))) (ct234 sc44 y44_3 y44_4 hIc44 hFc44 (in_w 0 1 i54 rfl) (in_w 0 33 i50 rfl) n234))
        · skip
          have i54 := z_ne 1 1 c54 j44_3 rfl
          refine g_iconst 0 58 (gd rfl) rfl rfl ?_
          refine g_istore_n 59 (gd rfl) rfl (Nat.le_of_ble_eq_true rfl) ?_
          refine g_aload_n 60 (gd rfl) rfl rfl ?_
          refine g_getI 63 (gd rfl) rfl rfl rfl (fun z60 e60 => ?_)
          have q60 : u_109_19 = z60 := (fr_F e_109_19 hFc44 rfl).trans e60.symm
          subst q60
          refine g_istore 65 (gd rfl) rfl (Nat.le_of_ble_eq_true rfl) ?_
          have n65 : (u_109_19).toInt ≤ (u_109_19).toInt := by exact Int.le_refl _
          have n65a : (u_109_19).toInt ≤ (u_109_19).toInt + 160 := by have a0 := oa6 h1 ro_109_20 ro_109_19 i50 i54 ((in_c 0 rfl)); omega
          have n65b : TGI s (x1).toNatClampNeg (x2) (160000000 * (y44_4).toInt + 1000000 * ((u_109_19).toInt - u_109_19.toInt)) sc44 := by exact tgi_w g44_0 (by have a0 := oa6 h1 ro_109_20 ro_109_19 i50 i54 ((in_c 0 rfl)); omega)
          have n65c : ((Int32.ofInt 0)).toInt = 0 → TCL s (x2) sc44 ((u_109_19).toInt - u_109_19.toInt).toNat := by (intro _ a ha; exfalso; omega)
          exact gg_w (by first | exact Nat.le_add_right _ _ | exact gw2 | exact gw3 | exact gwe rfl | exact gwf rfl | exact gwg rfl | exact gwh rfl | omega) (gg_f (gf_cons rfl (gf_cons rfl (gf_cons rfl (gf_cons rfl (gf_cons rfl (gf_cons rfl gf_nil)))))) (ct65 449 sc44 (Int32.ofInt 0) u_109_19 hIc44 hFc44 (in_w 0 1 (in_c 0 rfl) rfl) (in_w 0 32 i50 rfl) (in_w 0 448 ro_109_19 rfl) n65 n65a n65b n65c (m_in 449 (in_w 0 448 ro_109_19 rfl) rfl)))
  have ct2 : ∀ (k2 : Nat) (sc2 : GS) (y2_3 : Int32), Inv sc2 → Fr fm_312 s sc2 → (In y2_3 0 32) → (∀ k : Nat, (k : Int) < (y2_3).toInt → (sc2.2.1 130 k).toInt = 9000000000000000) → 32 - (y2_3).toInt < (k2 : Int) → GG Z (d - 1) 312 post (gx xp) (27617437 + k2 * 900) 2 (fun j => xlook j [(0, .ref (A 109)), (1, .int x1), (2, .int x2), (3, .int y2_3)]) [] (WW Z A sc2 ++ ex) 0 0 := by
    intro k2
    induction k2 with
    | zero => intro sc2 y2_3 hIc2 hFc2 j2_3 g2_0 mm2; exact m_no mm2 j2_3 rfl
    | succ k2 ih2 =>
      intro sc2 y2_3 hIc2 hFc2 j2_3 g2_0 mm2
      refine gg_w (M := 27617437 + k2 * 900 + 900) gws ?_
      refine g_iload_n 3 (gd rfl) rfl rfl ?_
      refine g_aload_n 4 (gd rfl) rfl rfl ?_
      refine g_getI 7 (gd rfl) rfl rfl rfl (fun z4 e4 => ?_)
      have q4 : u_109_20 = z4 := (fr_F e_109_20 hFc2 rfl).trans e4.symm
      subst q4
      refine g_cmp_ge 10 32 (gd rfl) rfl rfl (fun c7 => ?_) (fun c7 => ?_)
      · skip
        refine g_aload_n 33 (gd rfl) rfl rfl ?_
        refine g_getA (q2 := 130) 36 (gd rfl) rfl rfl rfl rfl ?_
        refine g_iload_n 37 (gd rfl) rfl rfl ?_
        refine g_lconst 0 38 (gd rfl) rfl rfl ?_
        refine g_lastore 39 (gd rfl) rfl (n := 32) rfl (in_ix h1 rfl) ?_
        have hI38 := inv_sL (q := 130) (j := x1.toNatClampNeg) (x := (Int64.ofInt 0)) hIc2 rfl (l_rng (Int64.ofInt 0))
        refine g_iconst 1 40 (gd rfl) rfl rfl ?_
        refine g_istore_n 41 (gd rfl) rfl (Nat.le_of_ble_eq_true rfl) ?_
        refine g_iconst 0 42 (gd rfl) rfl rfl ?_
        refine g_istore 44 (gd rfl) rfl (Nat.le_of_ble_eq_true rfl) ?_
        have n44 : TGI s (x1).toNatClampNeg (x2) (160000000 * ((Int32.ofInt 0)).toInt) (sL sc2 130 x1.toNatClampNeg (Int64.ofInt 0)) := by exact tgi_0 (by have h0 : (Int32.ofInt 0).toInt = 0 := rfl; omega) (by rw [show ((sL sc2 130 x1.toNatClampNeg (Int64.ofInt 0))).2.1 130 = vp_updL (sc2.2.1 130) x1.toNatClampNeg (Int64.ofInt 0) from (by simp [sL]), ul_eq]; rfl) (fun v hv hne => by rw [show ((sL sc2 130 x1.toNatClampNeg (Int64.ofInt 0))).2.1 130 = vp_updL (sc2.2.1 130) x1.toNatClampNeg (Int64.ofInt 0) from (by simp [sL]), ul_ne hne]; exact g2_0 v (by unfold nmx at hv; rw [← e_109_20] at hv; have a0 := oa6 h1 ro_109_20 ro_109_19 j2_3 ((in_c 0 rfl)) ((in_c 1 rfl)); omega))
        have n44a : ((Int32.ofInt 1)).toInt = 0 → TCL s (x2) (sL sc2 130 x1.toNatClampNeg (Int64.ofInt 0)) 160 := by exact fun h => absurd h (by decide)
        exact gg_w (by first | exact Nat.le_add_right _ _ | exact gw2 | exact gw3 | exact gwe rfl | exact gwf rfl | exact gwg rfl | exact gwh rfl | omega) (gg_f (gf_cons rfl (gf_cons rfl (gf_cons rfl (gf_cons rfl (gf_cons rfl gf_nil))))) (ct44 34 (sL sc2 130 x1.toNatClampNeg (Int64.ofInt 0)) (Int32.ofInt 1) (Int32.ofInt 0) hI38 (fr_sL rfl hFc2) (in_w 0 1 (in_c 1 rfl) rfl) (in_w 0 33 (in_c 0 rfl) rfl) n44 n44a (m_in 34 (in_w 0 33 (in_c 0 rfl) rfl) rfl)))
      · skip
        have i7 := r_lt1 0 31 c7 j2_3 ro_109_20 rfl
        have i7a := r_lt2 1 32 c7 j2_3 ro_109_20 rfl
        refine g_aload_n 11 (gd rfl) rfl rfl ?_
        refine g_getA (q2 := 130) 14 (gd rfl) rfl rfl rfl rfl ?_
        refine g_iload_n 15 (gd rfl) rfl rfl ?_
        refine g_ldc2_w 9000000000000000 18 (gd rfl) rfl rfl ?_
        refine g_lastore 19 (gd rfl) rfl (n := 32) rfl (in_ix i7 rfl) ?_
        have hI18 := inv_sL (q := 130) (j := y2_3.toNatClampNeg) (x := (Int64.ofInt 9000000000000000)) hIc2 rfl (l_rng (Int64.ofInt 9000000000000000))
        refine g_aload_n 20 (gd rfl) rfl rfl ?_
        refine g_getA (q2 := 131) 23 (gd rfl) rfl rfl rfl rfl ?_
        refine g_iload_n 24 (gd rfl) rfl rfl ?_
        refine g_iconst 0 25 (gd rfl) rfl rfl ?_
        refine g_iastore 26 (gd rfl) rfl (n := 32) rfl (in_ix i7 rfl) ?_
        have hI25 := inv_sI (q := 131) (j := y2_3.toNatClampNeg) hI18 rfl (in_w (-2147483648) 2147483647 (in_c 0 rfl) rfl)
        refine g_iinc 29 (gd rfl) rfl rfl (Nat.le_of_ble_eq_true rfl) (fun z26 e26 => ?_)
        have i26 := in_add 1 32 e26 i7 (in_c 1 rfl) rfl rfl
        refine g_goto 2 (gd rfl) rfl ?_
        have n2 : ∀ k : Nat, (k : Int) < (z26).toInt → ((sI (sL sc2 130 y2_3.toNatClampNeg (Int64.ofInt 9000000000000000)) 131 y2_3.toNatClampNeg (Int32.ofInt 0)).2.1 130 k).toInt = 9000000000000000 := by (intro k hk; have e2 : y2_3.toNatClampNeg = y2_3.toInt.toNat := rfl; rw [show ((sI (sL sc2 130 y2_3.toNatClampNeg (Int64.ofInt 9000000000000000)) 131 y2_3.toNatClampNeg (Int32.ofInt 0))).2.1 130 = vp_updL (sc2.2.1 130) y2_3.toNatClampNeg (Int64.ofInt 9000000000000000) from (by simp [sI, sL])]; by_cases c : k = y2_3.toNatClampNeg; (rw [c, ul_eq]; exact (by have hl : InL (Int64.ofInt 9000000000000000) 9000000000000000 9000000000000000 := l_c 9000000000000000 rfl; exact Int.le_antisymm hl.2 hl.1)); (rw [ul_ne c]; exact g2_0 k (by have a0 := oa5 h1 i7a ro_109_19 i7 i26; have a5 := t_add e26 i7 (in_c 1 rfl) rfl; have a6 := in_u ((in_c 1 rfl)); omega)))
        exact gg_w (by first | exact Nat.le_add_right _ _ | exact gw2 | exact gw3 | exact gwe rfl | exact gwf rfl | exact gwg rfl | exact gwh rfl | omega) (gg_f (gf_cons rfl (gf_cons rfl (gf_cons rfl (gf_cons rfl gf_nil)))) (ih2 (sI (sL sc2 130 y2_3.toNatClampNeg (Int64.ofInt 9000000000000000)) 131 y2_3.toNatClampNeg (Int32.ofInt 0)) z26 hI25 (fr_sI rfl (fr_sL rfl hFc2)) (in_w 0 32 i26 rfl) n2 (m_up mm2 (t_add e26 i7 (in_c 1 rfl) rfl) (in_w 1 1 (in_c 1 rfl) rfl))))
  refine g_enter2 (k := 312) (N := 27648037) (by first | exact dq1 hd rfl | exact dq0 hd rfl | exact dq2 hd rfl | exact dq3 hd rfl | omega) rfl (Nat.le_of_ble_eq_true rfl) ?_
  refine g_iconst 0 1 (gd rfl) rfl rfl ?_
  refine g_istore_n 2 (gd rfl) rfl (Nat.le_of_ble_eq_true rfl) ?_
  have n2 : ∀ k : Nat, (k : Int) < ((Int32.ofInt 0)).toInt → (s.2.1 130 k).toInt = 9000000000000000 := by (intro k hk; exfalso; have h0 : (Int32.ofInt 0).toInt = 0 := rfl; omega)
  exact gg_w (by first | exact Nat.le_of_ble_eq_true rfl | omega) (gg_f (gf_cons rfl (gf_cons rfl (gf_cons rfl (gf_cons rfl gf_nil)))) (ct2 33 s (Int32.ofInt 0) hI fr_rf (in_w 0 32 (in_c 0 rfl) rfl) n2 (m_in 33 (in_w 0 32 (in_c 0 rfl) rfl) rfl)))

def fm_315 : FM := ([129, 131], [130], [(109, 0)], [])
/-- GraphHouseModel.distance -/
theorem k_315 {Z : AmZ} {A : Nat → Nat} {s : GS} {ex : va_W} {d : Nat} {X : AmX} {x1 : Int32} {x2 : Int32} (hd : 5 ≤ d) (hI : Inv s)  : GC Z d 315 [.ref (A 109), .int x1, .int x2] (WW Z A s ++ ex) 0 0 (fun v u => ∃ t : GS, Inv t ∧ Fr fm_315 s t ∧ ∃ z : Int64, v = some (.long z) ∧ u = WW Z A t ++ ex) X := by
  intro post xp hP hX
  obtain ⟨u_109_20, e_109_20⟩ : ∃ w, w = s.2.2.1 109 20 := ⟨_, rfl⟩
  have ro_109_20 := inv_F hI 0 32 rfl e_109_20
  refine g_enter2 (k := 315) (N := 900) (by first | exact dq1 hd rfl | exact dq0 hd rfl | exact dq2 hd rfl | exact dq3 hd rfl | omega) rfl (Nat.le_of_ble_eq_true rfl) ?_
  refine g_aload_n 1 (gd rfl) rfl rfl ?_
  refine g_aload_n 2 (gd rfl) rfl rfl ?_
  refine g_iload_n 3 (gd rfl) rfl rfl ?_
  refine g_callv (X := _) (As := [.int x1]) (r := [.ref (A 109)]) (b := A 109) (q := 109) 6 (gd rfl) rfl rfl rfl rfl rfl (ww_o rfl) (Nat.le_of_ble_eq_true rfl) (mc := 0) (ms := 0) (Nat.zero_le _) (Nat.zero_le _) (P := fun v u => _) ?_ (fun e u h => h) (fun v u h => h)
  intro po3 xx3 hp3 hx3
  refine g_enter2 (k := 272) (N := 300) (by first | exact dq1 hd rfl | exact dq0 hd rfl | exact dq2 hd rfl | exact dq3 hd rfl | omega) rfl (Nat.le_of_ble_eq_true rfl) ?_
  refine g_iload_n 1 (gd rfl) rfl rfl ?_
  refine g_if_lt 4 16 (gd rfl) rfl rfl (fun c3x1 => ?_) (fun c3x1 => ?_)
  · skip
    have i3x1 := z_lt (-2147483648) (-1) c3x1 (i_rng x1) rfl
    refine g_iconst 0 17 (gd rfl) rfl rfl ?_
    refine g_ireturn (gd rfl) rfl (nb01 (in_w 0 1 (in_c 0 rfl) rfl)) (hp3 _ _ ?_)
    show GG _ _ _ _ _ _ _ _ [.int (Int32.ofInt 0), .ref (A 109)] _ _ _
    refine g_if_eq 9 21 (gd rfl) rfl rfl (fun c6 => ?_) (fun c6 => ?_)
    · skip
      refine g_iconst 0 22 (gd rfl) rfl rfl ?_
      refine g_callv (X := _) (As := [.int (Int32.ofInt 0)]) (r := []) (b := A 109) (q := 109) 25 (gd rfl) rfl rfl rfl rfl rfl (ww_o rfl) (Nat.le_of_ble_eq_true rfl) (mc := 0) (ms := 0) (Nat.zero_le _) (Nat.zero_le _) (P := fun v u => _) ?_ (fun e u h => h) (fun v u h => h)
      intro po22 xx22 hp22 hx22
      refine g_enter2 (k := 271) (N := 300) (by first | exact dq1 hd rfl | exact dq0 hd rfl | exact dq2 hd rfl | exact dq3 hd rfl | omega) rfl (Nat.le_of_ble_eq_true rfl) ?_
      refine g_aload_n 1 (gd rfl) rfl rfl ?_
      refine g_iload_n 2 (gd rfl) rfl rfl ?_
      refine g_iconst 1 3 (gd rfl) rfl rfl ?_
      refine g_callv (X := _) (As := [.int (Int32.ofInt 0), .int (Int32.ofInt 1)]) (r := []) (b := A 109) (q := 109) 6 (gd rfl) rfl rfl rfl rfl rfl (ww_o rfl) (Nat.le_of_ble_eq_true rfl) (mc := 0) (ms := 0) (Nat.zero_le _) (Nat.zero_le _) (P := fun v u => _) ?_ (fun e u h => h) (fun v u h => h)
      intro po22x3 xx22x3 hp22x3 hx22x3
      refine g_enter2 (k := 270) (N := 300) (by first | exact dq1 hd rfl | exact dq0 hd rfl | exact dq2 hd rfl | exact dq3 hd rfl | omega) rfl (Nat.le_of_ble_eq_true rfl) ?_
      refine g_aload_n 1 (gd rfl) rfl rfl ?_
      refine g_iload_n 2 (gd rfl) rfl rfl ?_
      refine g_if_ne 5 9 (gd rfl) rfl rfl (fun c22x3x2 => ?_) (fun c22x3x2 => ?_)
      · skip
        exact zn_ne c22x3x2 (in_c 0 rfl) rfl
      · skip
        refine g_iconst 1 6 (gd rfl) rfl rfl ?_
        refine g_goto 18 (gd rfl) rfl ?_
        refine g_putI 21 (gd rfl) rfl rfl rfl rfl ?_
        have hI22x3x18 := inv_sF (q := 109) (j := 0) hI rfl (in_w 0 2 (in_c 1 rfl) rfl)
        refine g_aload_n 22 (gd rfl) rfl rfl ?_
        refine g_getI 25 (gd rfl) rfl rfl rfl (fun z22x3x22 e22x3x22 => ?_)
        have q22x3x22 : (Int32.ofInt 1) = z22x3x22 := (sF_get).trans e22x3x22.symm
        subst q22x3x22
        refine g_if_le 28 32 (gd rfl) rfl rfl (fun c22x3x25 => ?_) (fun c22x3x25 => ?_)
        · skip
          exact zn_le c22x3x25 (in_c 1 rfl) rfl
        · skip
          refine g_iconst 1 29 (gd rfl) rfl rfl ?_
          refine g_goto 33 (gd rfl) rfl ?_
          refine g_ireturn (gd rfl) rfl (nb01 (in_w 0 1 (in_c 1 rfl) rfl)) (hp22x3 _ _ ?_)
          show GG _ _ _ _ _ _ _ _ [.int (Int32.ofInt 1)] _ _ _
          refine g_ireturn (gd rfl) rfl (nb01 (in_w 0 1 (in_c 1 rfl) rfl)) (hp22 _ _ ?_)
          show GG _ _ _ _ _ _ _ _ [.int (Int32.ofInt 1)] _ _ _
          refine g_if_eq 28 30 (gd rfl) rfl rfl (fun c25 => ?_) (fun c25 => ?_)
          · skip
            exact zn_eq c25 (in_c 1 rfl) rfl
          · skip
            refine g_lconst 0 29 (gd rfl) rfl rfl ?_
            exact g_lreturn (gd rfl) rfl (hP _ _ ⟨(sF s 109 0 (Int32.ofInt 1)), hI22x3x18, (fr_sF rfl fr_rf), (Int64.ofInt 0), rfl, rfl⟩)
    · skip
      exact zn_ne c6 (in_c 0 rfl) rfl
  · skip
    have i3x1 := z_ge 0 2147483647 c3x1 (i_rng x1) rfl
    refine g_iload_n 5 (gd rfl) rfl rfl ?_
    refine g_aload_n 6 (gd rfl) rfl rfl ?_
    refine g_getI 9 (gd rfl) rfl rfl rfl (fun z3x6 e3x6 => ?_)
    have q3x6 : u_109_20 = z3x6 := (e_109_20).trans e3x6.symm
    subst q3x6
    refine g_cmp_ge 12 16 (gd rfl) rfl rfl (fun c3x9 => ?_) (fun c3x9 => ?_)
    · skip
      refine g_iconst 0 17 (gd rfl) rfl rfl ?_
      refine g_ireturn (gd rfl) rfl (nb01 (in_w 0 1 (in_c 0 rfl) rfl)) (hp3 _ _ ?_)
      show GG _ _ _ _ _ _ _ _ [.int (Int32.ofInt 0), .ref (A 109)] _ _ _
      refine g_if_eq 9 21 (gd rfl) rfl rfl (fun c6 => ?_) (fun c6 => ?_)
      · skip
        refine g_iconst 0 22 (gd rfl) rfl rfl ?_
        refine g_callv (X := _) (As := [.int (Int32.ofInt 0)]) (r := []) (b := A 109) (q := 109) 25 (gd rfl) rfl rfl rfl rfl rfl (ww_o rfl) (Nat.le_of_ble_eq_true rfl) (mc := 0) (ms := 0) (Nat.zero_le _) (Nat.zero_le _) (P := fun v u => _) ?_ (fun e u h => h) (fun v u h => h)
        intro po22 xx22 hp22 hx22
        refine g_enter2 (k := 271) (N := 300) (by first | exact dq1 hd rfl | exact dq0 hd rfl | exact dq2 hd rfl | exact dq3 hd rfl | omega) rfl (Nat.le_of_ble_eq_true rfl) ?_
        refine g_aload_n 1 (gd rfl) rfl rfl ?_
        refine g_iload_n 2 (gd rfl) rfl rfl ?_
        refine g_iconst 1 3 (gd rfl) rfl rfl ?_
        refine g_callv (X := _) (As := [.int (Int32.ofInt 0), .int (Int32.ofInt 1)]) (r := []) (b := A 109) (q := 109) 6 (gd rfl) rfl rfl rfl rfl rfl (ww_o rfl) (Nat.le_of_ble_eq_true rfl) (mc := 0) (ms := 0) (Nat.zero_le _) (Nat.zero_le _) (P := fun v u => _) ?_ (fun e u h => h) (fun v u h => h)
        intro po22x3 xx22x3 hp22x3 hx22x3
        refine g_enter2 (k := 270) (N := 300) (by first | exact dq1 hd rfl | exact dq0 hd rfl | exact dq2 hd rfl | exact dq3 hd rfl | omega) rfl (Nat.le_of_ble_eq_true rfl) ?_
        refine g_aload_n 1 (gd rfl) rfl rfl ?_
        refine g_iload_n 2 (gd rfl) rfl rfl ?_
        refine g_if_ne 5 9 (gd rfl) rfl rfl (fun c22x3x2 => ?_) (fun c22x3x2 => ?_)
        · skip
          exact zn_ne c22x3x2 (in_c 0 rfl) rfl
        · skip
          refine g_iconst 1 6 (gd rfl) rfl rfl ?_
          refine g_goto 18 (gd rfl) rfl ?_
          refine g_putI 21 (gd rfl) rfl rfl rfl rfl ?_
          have hI22x3x18 := inv_sF (q := 109) (j := 0) hI rfl (in_w 0 2 (in_c 1 rfl) rfl)
          refine g_aload_n 22 (gd rfl) rfl rfl ?_
          refine g_getI 25 (gd rfl) rfl rfl rfl (fun z22x3x22 e22x3x22 => ?_)
          have q22x3x22 : (Int32.ofInt 1) = z22x3x22 := (sF_get).trans e22x3x22.symm
          subst q22x3x22
          refine g_if_le 28 32 (gd rfl) rfl rfl (fun c22x3x25 => ?_) (fun c22x3x25 => ?_)
          · skip
            exact zn_le c22x3x25 (in_c 1 rfl) rfl
          · skip
            refine g_iconst 1 29 (gd rfl) rfl rfl ?_
            refine g_goto 33 (gd rfl) rfl ?_
            refine g_ireturn (gd rfl) rfl (nb01 (in_w 0 1 (in_c 1 rfl) rfl)) (hp22x3 _ _ ?_)
            show GG _ _ _ _ _ _ _ _ [.int (Int32.ofInt 1)] _ _ _
            refine g_ireturn (gd rfl) rfl (nb01 (in_w 0 1 (in_c 1 rfl) rfl)) (hp22 _ _ ?_)
            show GG _ _ _ _ _ _ _ _ [.int (Int32.ofInt 1)] _ _ _
            refine g_if_eq 28 30 (gd rfl) rfl rfl (fun c25 => ?_) (fun c25 => ?_)
            · skip
              exact zn_eq c25 (in_c 1 rfl) rfl
            · skip
              refine g_lconst 0 29 (gd rfl) rfl rfl ?_
              exact g_lreturn (gd rfl) rfl (hP _ _ ⟨(sF s 109 0 (Int32.ofInt 1)), hI22x3x18, (fr_sF rfl fr_rf), (Int64.ofInt 0), rfl, rfl⟩)
      · skip
        exact zn_ne c6 (in_c 0 rfl) rfl
    · skip
      have i3x9 := r_lt1 0 31 c3x9 i3x1 ro_109_20 rfl
      have i3x9a := r_lt2 1 32 c3x9 i3x1 ro_109_20 rfl
      refine g_iconst 1 13 (gd rfl) rfl rfl ?_
      refine g_goto 17 (gd rfl) rfl ?_
      refine g_ireturn (gd rfl) rfl (nb01 (in_w 0 1 (in_c 1 rfl) rfl)) (hp3 _ _ ?_)
      show GG _ _ _ _ _ _ _ _ [.int (Int32.ofInt 1), .ref (A 109)] _ _ _
      refine g_if_eq 9 21 (gd rfl) rfl rfl (fun c6 => ?_) (fun c6 => ?_)
      · skip
        exact zn_eq c6 (in_c 1 rfl) rfl
      · skip
        refine g_aload_n 10 (gd rfl) rfl rfl ?_
        refine g_iload_n 11 (gd rfl) rfl rfl ?_
        refine g_callv (X := _) (As := [.int x2]) (r := [.ref (A 109)]) (b := A 109) (q := 109) 14 (gd rfl) rfl rfl rfl rfl rfl (ww_o rfl) (Nat.le_of_ble_eq_true rfl) (mc := 0) (ms := 0) (Nat.zero_le _) (Nat.zero_le _) (P := fun v u => _) ?_ (fun e u h => h) (fun v u h => h)
        intro po11 xx11 hp11 hx11
        refine g_enter2 (k := 272) (N := 300) (by first | exact dq1 hd rfl | exact dq0 hd rfl | exact dq2 hd rfl | exact dq3 hd rfl | omega) rfl (Nat.le_of_ble_eq_true rfl) ?_
        refine g_iload_n 1 (gd rfl) rfl rfl ?_
        refine g_if_lt 4 16 (gd rfl) rfl rfl (fun c11x1 => ?_) (fun c11x1 => ?_)
        · skip
          have i11x1 := z_lt (-2147483648) (-1) c11x1 (i_rng x2) rfl
          refine g_iconst 0 17 (gd rfl) rfl rfl ?_
          refine g_ireturn (gd rfl) rfl (nb01 (in_w 0 1 (in_c 0 rfl) rfl)) (hp11 _ _ ?_)
          show GG _ _ _ _ _ _ _ _ [.int (Int32.ofInt 0), .ref (A 109)] _ _ _
          refine g_if_eq 17 21 (gd rfl) rfl rfl (fun c14 => ?_) (fun c14 => ?_)
          · skip
            refine g_iconst 0 22 (gd rfl) rfl rfl ?_
            refine g_callv (X := _) (As := [.int (Int32.ofInt 0)]) (r := []) (b := A 109) (q := 109) 25 (gd rfl) rfl rfl rfl rfl rfl (ww_o rfl) (Nat.le_of_ble_eq_true rfl) (mc := 0) (ms := 0) (Nat.zero_le _) (Nat.zero_le _) (P := fun v u => _) ?_ (fun e u h => h) (fun v u h => h)
            intro po22 xx22 hp22 hx22
            refine g_enter2 (k := 271) (N := 300) (by first | exact dq1 hd rfl | exact dq0 hd rfl | exact dq2 hd rfl | exact dq3 hd rfl | omega) rfl (Nat.le_of_ble_eq_true rfl) ?_
            refine g_aload_n 1 (gd rfl) rfl rfl ?_
            refine g_iload_n 2 (gd rfl) rfl rfl ?_
            refine g_iconst 1 3 (gd rfl) rfl rfl ?_
            refine g_callv (X := _) (As := [.int (Int32.ofInt 0), .int (Int32.ofInt 1)]) (r := []) (b := A 109) (q := 109) 6 (gd rfl) rfl rfl rfl rfl rfl (ww_o rfl) (Nat.le_of_ble_eq_true rfl) (mc := 0) (ms := 0) (Nat.zero_le _) (Nat.zero_le _) (P := fun v u => _) ?_ (fun e u h => h) (fun v u h => h)
            intro po22x3 xx22x3 hp22x3 hx22x3
            refine g_enter2 (k := 270) (N := 300) (by first | exact dq1 hd rfl | exact dq0 hd rfl | exact dq2 hd rfl | exact dq3 hd rfl | omega) rfl (Nat.le_of_ble_eq_true rfl) ?_
            refine g_aload_n 1 (gd rfl) rfl rfl ?_
            refine g_iload_n 2 (gd rfl) rfl rfl ?_
            refine g_if_ne 5 9 (gd rfl) rfl rfl (fun c22x3x2 => ?_) (fun c22x3x2 => ?_)
            · skip
              exact zn_ne c22x3x2 (in_c 0 rfl) rfl
            · skip
              refine g_iconst 1 6 (gd rfl) rfl rfl ?_
              refine g_goto 18 (gd rfl) rfl ?_
              refine g_putI 21 (gd rfl) rfl rfl rfl rfl ?_
              have hI22x3x18 := inv_sF (q := 109) (j := 0) hI rfl (in_w 0 2 (in_c 1 rfl) rfl)
              refine g_aload_n 22 (gd rfl) rfl rfl ?_
              refine g_getI 25 (gd rfl) rfl rfl rfl (fun z22x3x22 e22x3x22 => ?_)
              have q22x3x22 : (Int32.ofInt 1) = z22x3x22 := (sF_get).trans e22x3x22.symm
              subst q22x3x22
              refine g_if_le 28 32 (gd rfl) rfl rfl (fun c22x3x25 => ?_) (fun c22x3x25 => ?_)
              · skip
                exact zn_le c22x3x25 (in_c 1 rfl) rfl
              · skip
                refine g_iconst 1 29 (gd rfl) rfl rfl ?_
                refine g_goto 33 (gd rfl) rfl ?_
                refine g_ireturn (gd rfl) rfl (nb01 (in_w 0 1 (in_c 1 rfl) rfl)) (hp22x3 _ _ ?_)
                show GG _ _ _ _ _ _ _ _ [.int (Int32.ofInt 1)] _ _ _
                refine g_ireturn (gd rfl) rfl (nb01 (in_w 0 1 (in_c 1 rfl) rfl)) (hp22 _ _ ?_)
                show GG _ _ _ _ _ _ _ _ [.int (Int32.ofInt 1)] _ _ _
                refine g_if_eq 28 30 (gd rfl) rfl rfl (fun c25 => ?_) (fun c25 => ?_)
                · skip
                  exact zn_eq c25 (in_c 1 rfl) rfl
                · skip
                  refine g_lconst 0 29 (gd rfl) rfl rfl ?_
                  exact g_lreturn (gd rfl) rfl (hP _ _ ⟨(sF s 109 0 (Int32.ofInt 1)), hI22x3x18, (fr_sF rfl fr_rf), (Int64.ofInt 0), rfl, rfl⟩)
          · skip
            exact zn_ne c14 (in_c 0 rfl) rfl
        · skip
          have i11x1 := z_ge 0 2147483647 c11x1 (i_rng x2) rfl
          refine g_iload_n 5 (gd rfl) rfl rfl ?_
          refine g_aload_n 6 (gd rfl) rfl rfl ?_
          refine g_getI 9 (gd rfl) rfl rfl rfl (fun z11x6 e11x6 => ?_)
          have q11x6 : u_109_20 = z11x6 := (e_109_20).trans e11x6.symm
          subst q11x6
          refine g_cmp_ge 12 16 (gd rfl) rfl rfl (fun c11x9 => ?_) (fun c11x9 => ?_)
          · skip
            have i11x9 := r_le2 1 2147483647 c11x9 i3x9a i11x1 rfl
            refine g_iconst 0 17 (gd rfl) rfl rfl ?_
            refine g_ireturn (gd rfl) rfl (nb01 (in_w 0 1 (in_c 0 rfl) rfl)) (hp11 _ _ ?_)
            show GG _ _ _ _ _ _ _ _ [.int (Int32.ofInt 0), .ref (A 109)] _ _ _
            refine g_if_eq 17 21 (gd rfl) rfl rfl (fun c14 => ?_) (fun c14 => ?_)
            · skip
              refine g_iconst 0 22 (gd rfl) rfl rfl ?_
              refine g_callv (X := _) (As := [.int (Int32.ofInt 0)]) (r := []) (b := A 109) (q := 109) 25 (gd rfl) rfl rfl rfl rfl rfl (ww_o rfl) (Nat.le_of_ble_eq_true rfl) (mc := 0) (ms := 0) (Nat.zero_le _) (Nat.zero_le _) (P := fun v u => _) ?_ (fun e u h => h) (fun v u h => h)
              intro po22 xx22 hp22 hx22
              refine g_enter2 (k := 271) (N := 300) (by first | exact dq1 hd rfl | exact dq0 hd rfl | exact dq2 hd rfl | exact dq3 hd rfl | omega) rfl (Nat.le_of_ble_eq_true rfl) ?_
              refine g_aload_n 1 (gd rfl) rfl rfl ?_
              refine g_iload_n 2 (gd rfl) rfl rfl ?_
              refine g_iconst 1 3 (gd rfl) rfl rfl ?_
              refine g_callv (X := _) (As := [.int (Int32.ofInt 0), .int (Int32.ofInt 1)]) (r := []) (b := A 109) (q := 109) 6 (gd rfl) rfl rfl rfl rfl rfl (ww_o rfl) (Nat.le_of_ble_eq_true rfl) (mc := 0) (ms := 0) (Nat.zero_le _) (Nat.zero_le _) (P := fun v u => _) ?_ (fun e u h => h) (fun v u h => h)
              intro po22x3 xx22x3 hp22x3 hx22x3
              refine g_enter2 (k := 270) (N := 300) (by first | exact dq1 hd rfl | exact dq0 hd rfl | exact dq2 hd rfl | exact dq3 hd rfl | omega) rfl (Nat.le_of_ble_eq_true rfl) ?_
              refine g_aload_n 1 (gd rfl) rfl rfl ?_
              refine g_iload_n 2 (gd rfl) rfl rfl ?_
              refine g_if_ne 5 9 (gd rfl) rfl rfl (fun c22x3x2 => ?_) (fun c22x3x2 => ?_)
              · skip
                exact zn_ne c22x3x2 (in_c 0 rfl) rfl
              · skip
                refine g_iconst 1 6 (gd rfl) rfl rfl ?_
                refine g_goto 18 (gd rfl) rfl ?_
                refine g_putI 21 (gd rfl) rfl rfl rfl rfl ?_
                have hI22x3x18 := inv_sF (q := 109) (j := 0) hI rfl (in_w 0 2 (in_c 1 rfl) rfl)
                refine g_aload_n 22 (gd rfl) rfl rfl ?_
                refine g_getI 25 (gd rfl) rfl rfl rfl (fun z22x3x22 e22x3x22 => ?_)
                have q22x3x22 : (Int32.ofInt 1) = z22x3x22 := (sF_get).trans e22x3x22.symm
                subst q22x3x22
                refine g_if_le 28 32 (gd rfl) rfl rfl (fun c22x3x25 => ?_) (fun c22x3x25 => ?_)
                · skip
                  exact zn_le c22x3x25 (in_c 1 rfl) rfl
                · skip
                  refine g_iconst 1 29 (gd rfl) rfl rfl ?_
                  refine g_goto 33 (gd rfl) rfl ?_
                  refine g_ireturn (gd rfl) rfl (nb01 (in_w 0 1 (in_c 1 rfl) rfl)) (hp22x3 _ _ ?_)
                  show GG _ _ _ _ _ _ _ _ [.int (Int32.ofInt 1)] _ _ _
                  refine g_ireturn (gd rfl) rfl (nb01 (in_w 0 1 (in_c 1 rfl) rfl)) (hp22 _ _ ?_)
                  show GG _ _ _ _ _ _ _ _ [.int (Int32.ofInt 1)] _ _ _
                  refine g_if_eq 28 30 (gd rfl) rfl rfl (fun c25 => ?_) (fun c25 => ?_)
                  · skip
                    exact zn_eq c25 (in_c 1 rfl) rfl
                  · skip
                    refine g_lconst 0 29 (gd rfl) rfl rfl ?_
                    exact g_lreturn (gd rfl) rfl (hP _ _ ⟨(sF s 109 0 (Int32.ofInt 1)), hI22x3x18, (fr_sF rfl fr_rf), (Int64.ofInt 0), rfl, rfl⟩)
            · skip
              exact zn_ne c14 (in_c 0 rfl) rfl
          · skip
            have i11x9 := r_lt1 0 31 c11x9 i11x1 i3x9a rfl
            refine g_iconst 1 13 (gd rfl) rfl rfl ?_
            refine g_goto 17 (gd rfl) rfl ?_
            refine g_ireturn (gd rfl) rfl (nb01 (in_w 0 1 (in_c 1 rfl) rfl)) (hp11 _ _ ?_)
            show GG _ _ _ _ _ _ _ _ [.int (Int32.ofInt 1), .ref (A 109)] _ _ _
            refine g_if_eq 17 21 (gd rfl) rfl rfl (fun c14 => ?_) (fun c14 => ?_)
            · skip
              exact zn_eq c14 (in_c 1 rfl) rfl
            · skip
              refine g_iconst 1 18 (gd rfl) rfl rfl ?_
              refine g_goto 22 (gd rfl) rfl ?_
              refine g_callv (X := _) (As := [.int (Int32.ofInt 1)]) (r := []) (b := A 109) (q := 109) 25 (gd rfl) rfl rfl rfl rfl rfl (ww_o rfl) (Nat.le_of_ble_eq_true rfl) (mc := 0) (ms := 0) (Nat.zero_le _) (Nat.zero_le _) (P := fun v u => _) ?_ (fun e u h => h) (fun v u h => h)
              intro po22 xx22 hp22 hx22
              refine g_enter2 (k := 271) (N := 300) (by first | exact dq1 hd rfl | exact dq0 hd rfl | exact dq2 hd rfl | exact dq3 hd rfl | omega) rfl (Nat.le_of_ble_eq_true rfl) ?_
              refine g_aload_n 1 (gd rfl) rfl rfl ?_
              refine g_iload_n 2 (gd rfl) rfl rfl ?_
              refine g_iconst 1 3 (gd rfl) rfl rfl ?_
              refine g_callv (X := _) (As := [.int (Int32.ofInt 1), .int (Int32.ofInt 1)]) (r := []) (b := A 109) (q := 109) 6 (gd rfl) rfl rfl rfl rfl rfl (ww_o rfl) (Nat.le_of_ble_eq_true rfl) (mc := 0) (ms := 0) (Nat.zero_le _) (Nat.zero_le _) (P := fun v u => _) ?_ (fun e u h => h) (fun v u h => h)
              intro po22x3 xx22x3 hp22x3 hx22x3
              refine g_enter2 (k := 270) (N := 300) (by first | exact dq1 hd rfl | exact dq0 hd rfl | exact dq2 hd rfl | exact dq3 hd rfl | omega) rfl (Nat.le_of_ble_eq_true rfl) ?_
              refine g_aload_n 1 (gd rfl) rfl rfl ?_
              refine g_iload_n 2 (gd rfl) rfl rfl ?_
              refine g_if_ne 5 9 (gd rfl) rfl rfl (fun c22x3x2 => ?_) (fun c22x3x2 => ?_)
              · skip
                refine g_iload_n 10 (gd rfl) rfl rfl ?_
                refine g_if_ne 13 17 (gd rfl) rfl rfl (fun c22x3x10 => ?_) (fun c22x3x10 => ?_)
                · skip
                  refine g_iconst 0 18 (gd rfl) rfl rfl ?_
                  refine g_putI 21 (gd rfl) rfl rfl rfl rfl ?_
                  have hI22x3x18 := inv_sF (q := 109) (j := 0) hI rfl (in_w 0 2 (in_c 0 rfl) rfl)
                  refine g_aload_n 22 (gd rfl) rfl rfl ?_
                  refine g_getI 25 (gd rfl) rfl rfl rfl (fun z22x3x22 e22x3x22 => ?_)
                  have q22x3x22 : (Int32.ofInt 0) = z22x3x22 := (sF_get).trans e22x3x22.symm
                  subst q22x3x22
                  refine g_if_le 28 32 (gd rfl) rfl rfl (fun c22x3x25 => ?_) (fun c22x3x25 => ?_)
                  · skip
                    refine g_iconst 0 33 (gd rfl) rfl rfl ?_
                    refine g_ireturn (gd rfl) rfl (nb01 (in_w 0 1 (in_c 0 rfl) rfl)) (hp22x3 _ _ ?_)
                    show GG _ _ _ _ _ _ _ _ [.int (Int32.ofInt 0)] _ _ _
                    refine g_ireturn (gd rfl) rfl (nb01 (in_w 0 1 (in_c 0 rfl) rfl)) (hp22 _ _ ?_)
                    show GG _ _ _ _ _ _ _ _ [.int (Int32.ofInt 0)] _ _ _
                    refine g_if_eq 28 30 (gd rfl) rfl rfl (fun c25 => ?_) (fun c25 => ?_)
                    · skip
                      refine g_aload_n 31 (gd rfl) rfl rfl ?_
                      refine g_iload_n 32 (gd rfl) rfl rfl ?_
                      refine g_iload_n 33 (gd rfl) rfl rfl ?_
                      have p33 : (x1).toInt < nmx (sF s 109 0 (Int32.ofInt 0)) ∧ (x2).toInt < nmx (sF s 109 0 (Int32.ofInt 0)) := by exact ⟨by unfold nmx; rw [← (show u_109_20 = (sF s 109 0 (Int32.ofInt 0)).2.2.1 109 20 from sF_ne rfl (e_109_20))]; have a0 := oa4 i11x9 i3x9 i3x9a ((in_c 0 rfl)); omega, by unfold nmx; rw [← (show u_109_20 = (sF s 109 0 (Int32.ofInt 0)).2.2.1 109 20 from sF_ne rfl (e_109_20))]; have a0 := oa4 i11x9 i3x9 i3x9a ((in_c 0 rfl)); omega⟩
                      refine g_callv (X := _) (As := [.int x1, .int x2]) (r := []) (b := A 109) (q := 109) 36 (gd rfl) rfl rfl rfl rfl rfl (ww_o rfl) (Nat.le_of_ble_eq_true rfl) (Nat.zero_le _) (Nat.zero_le _) (k_314 (by first | exact dq1 hd rfl | exact dq0 hd rfl | exact dq2 hd rfl | exact dq3 hd rfl | omega) hI22x3x18 (in_w 0 31 i3x9 rfl) (in_w 0 31 i11x9 rfl) p33) (fun e u h => h) (fun v u h => ?_)
                      obtain ⟨s33, hI33, hF33, z33, rfl, rfl, i33, p33a⟩ := h
                      show GG _ _ _ _ _ _ _ _ [.int z33] _ _ _
                      refine g_istore_n 37 (gd rfl) rfl (Nat.le_of_ble_eq_true rfl) ?_
                      refine g_iload_n 38 (gd rfl) rfl rfl ?_
                      refine g_if_ne 41 47 (gd rfl) rfl rfl (fun c38 => ?_) (fun c38 => ?_)
                      · skip
                        refine g_aload_n 48 (gd rfl) rfl rfl ?_
                        refine g_iload_n 49 (gd rfl) rfl rfl ?_
                        refine g_iload_n 50 (gd rfl) rfl rfl ?_
                        have p50 : BTS s33 (x2).toNatClampNeg (z33) := by exact (p33a (by have h := c38; omega)).1
                        refine g_callv (X := _) (As := [.int x2, .int z33]) (r := []) (b := A 109) (q := 109) 53 (gd rfl) rfl rfl rfl rfl rfl (ww_o rfl) (Nat.le_of_ble_eq_true rfl) (Nat.zero_le _) (Nat.zero_le _) (k_312 (by first | exact dq1 hd rfl | exact dq0 hd rfl | exact dq2 hd rfl | exact dq3 hd rfl | omega) hI33 (in_w 0 31 i11x9 rfl) p50) (fun e u h => h) (fun v u h => ?_)
                        obtain ⟨s50, hI50, hF50, z50, rfl, rfl, i50, p50a⟩ := h
                        show GG _ _ _ _ _ _ _ _ [.int z50] _ _ _
                        refine g_if_eq 56 65 (gd rfl) rfl rfl (fun c53 => ?_) (fun c53 => ?_)
                        · skip
                          have i53 := z_eq 0 0 c53 i50 rfl
                          refine g_ldc2_w 9000000000000001 68 (gd rfl) rfl rfl ?_
                          exact g_lreturn (gd rfl) rfl (hP _ _ ⟨s50, hI50, (fr_tr rfl (fr_tr rfl (fr_sF rfl fr_rf) hF33) hF50), (Int64.ofInt 9000000000000001), rfl, rfl⟩)
                        · skip
                          have i53 := z_ne 1 1 c53 i50 rfl
                          refine g_aload_n 57 (gd rfl) rfl rfl ?_
                          refine g_getA (q2 := 130) 60 (gd rfl) rfl rfl rfl rfl ?_
                          refine g_iload_n 61 (gd rfl) rfl rfl ?_
                          refine g_laload 62 (gd rfl) rfl (n := 32) rfl (in_ix i3x9 rfl) (fun z61 e61 => ?_)
                          refine g_goto 68 (gd rfl) rfl ?_
                          exact g_lreturn (gd rfl) rfl (hP _ _ ⟨s50, hI50, (fr_tr rfl (fr_tr rfl (fr_sF rfl fr_rf) hF33) hF50), z61, rfl, rfl⟩)
                      · skip
                        have i38 := z_eq 0 0 c38 i33 rfl
                        refine g_ldc2_w 9000000000000000 44 (gd rfl) rfl rfl ?_
                        refine g_goto 68 (gd rfl) rfl ?_
                        exact g_lreturn (gd rfl) rfl (hP _ _ ⟨s33, hI33, (fr_tr rfl (fr_sF rfl fr_rf) hF33), (Int64.ofInt 9000000000000000), rfl, rfl⟩)
                    · skip
                      exact zn_ne c25 (in_c 0 rfl) rfl
                  · skip
                    exact zn_gt c22x3x25 (in_c 0 rfl) rfl
                · skip
                  exact zn_eq c22x3x10 (in_c 1 rfl) rfl
              · skip
                exact zn_eq c22x3x2 (in_c 1 rfl) rfl
end
section
/-! methods, by vc.py -/
def fm_316 : FM := ([129, 131], [130], [(109, 0)], [])
/-- GraphHouseModel.way -/
theorem k_316 {Z : AmZ} {A : Nat → Nat} {s : GS} {ex : va_W} {d : Nat} {X : AmX} {x1 : Int32} {x2 : Int32} {x3 : Int32} (hd : 5 ≤ d) (hI : Inv s)  : GC Z d 316 [.ref (A 109), .int x1, .int x2, .int x3] (WW Z A s ++ ex) 0 0 (fun v u => ∃ t : GS, Inv t ∧ Fr fm_316 s t ∧ ∃ z : Int32, v = some (.int z) ∧ u = WW Z A t ++ ex ∧ In z (-1) 159) X := by
  intro post xp hP hX
  obtain ⟨u_109_19, e_109_19⟩ : ∃ w, w = s.2.2.1 109 19 := ⟨_, rfl⟩
  have ro_109_19 := inv_F hI 0 160 rfl e_109_19
  obtain ⟨u_109_20, e_109_20⟩ : ∃ w, w = s.2.2.1 109 20 := ⟨_, rfl⟩
  have ro_109_20 := inv_F hI 0 32 rfl e_109_20
  have ct78 : ∀ (k78 : Nat) (sc78 : GS) (y78_4 : Int32) (y78_5 : Int32) (y78_6 : Int32) (y78_7 : Int32), Inv sc78 → Fr fm_316 s sc78 → (In x1 0 31) → (In x2 0 31) → (In x3 0 2147483646) → (In y78_5 0 31) → (In y78_6 (-1) 159) → (In y78_7 0 1000) → ((y78_4).toInt ≠ 0) → (0 ≤ (y78_7).toInt) → (WFN sc78 (x2).toNatClampNeg (y78_4)) → (bt (y78_4) (y78_5).toNatClampNeg = true) → ((sc78.1 131 (y78_5).toNatClampNeg).toInt + (y78_7).toInt = (sc78.1 131 (x1).toNatClampNeg).toInt) → ((x3).toInt < (sc78.1 131 (x1).toNatClampNeg).toInt ∧ (sc78.1 131 (x1).toNatClampNeg).toInt ≤ 1000) → 1000 - (y78_7).toInt < (k78 : Int) → GG Z (d - 1) 316 post (gx xp) (1 + k78 * 147601) 78 (fun j => xlook j [(0, .ref (A 109)), (1, .int x1), (2, .int x2), (3, .int x3), (4, .int y78_4), (5, .int y78_5), (6, .int y78_6), (7, .int y78_7)]) [] (WW Z A sc78 ++ ex) 0 0 := by
    intro k78
    induction k78 with
    | zero => intro sc78 y78_4 y78_5 y78_6 y78_7 hIc78 hFc78 j78_1 j78_2 j78_3 j78_5 j78_6 j78_7 nz78_4 n78_0 g78_0 g78_1 g78_2 g78_3 mm78; exact m_no mm78 j78_7 rfl
    | succ k78 ih78 =>
      intro sc78 y78_4 y78_5 y78_6 y78_7 hIc78 hFc78 j78_1 j78_2 j78_3 j78_5 j78_6 j78_7 nz78_4 n78_0 g78_0 g78_1 g78_2 g78_3 mm78
      refine gg_w (M := 1 + k78 * 147601 + 147601) gws ?_
      have ct92 : ∀ (k92 : Nat) (sc92 : GS) (y92_6 : Int32) (y92_8 : Int32), Inv sc92 → Fr fm_316 s sc92 → (In y92_6 (-1) 159) → (In y92_8 (-1) 159) → ((y78_4).toInt ≠ 0) → ((y78_7).toInt ≤ (x3).toInt) → (0 ≤ (y78_7).toInt) → (WFN sc92 (x2).toNatClampNeg (y78_4)) → (bt (y78_4) (y78_5).toNatClampNeg = true) → ((sc92.1 131 (y78_5).toNatClampNeg).toInt + (y78_7).toInt = (sc92.1 131 (x1).toNatClampNeg).toInt) → ((x3).toInt < (sc92.1 131 (x1).toNatClampNeg).toInt ∧ (sc92.1 131 (x1).toNatClampNeg).toInt ≤ 1000) → ((∀ a : Nat, (y92_8).toInt < (a : Int) → a < 160 → WOK sc92 (y78_4) (y78_5).toNatClampNeg a → 0 ≤ (y92_6).toInt) ∧ (0 ≤ (y92_6).toInt → WOK sc92 (y78_4) (y78_5).toNatClampNeg (y92_6).toNatClampNeg)) → (y92_8).toInt - (-1) < (k92 : Int) → GG Z (d - 1) 316 post (gx xp) (1 + k78 * 147601 + 1 + k92 * 900) 92 (fun j => xlook j [(0, .ref (A 109)), (1, .int x1), (2, .int x2), (3, .int x3), (4, .int y78_4), (5, .int y78_5), (6, .int y92_6), (7, .int y78_7), (8, .int y92_8)]) [] (WW Z A sc92 ++ ex) 0 0 := by
        intro k92
        induction k92 with
        | zero => intro sc92 y92_6 y92_8 hIc92 hFc92 j92_6 j92_8 nz92_4 n92_0 n92_1 g92_0 g92_1 g92_2 g92_3 g92_4 mm92; exact m_nod mm92 j92_8 rfl
        | succ k92 ih92 =>
          intro sc92 y92_6 y92_8 hIc92 hFc92 j92_6 j92_8 nz92_4 n92_0 n92_1 g92_0 g92_1 g92_2 g92_3 g92_4 mm92
          refine gg_w (M := 1 + k78 * 147601 + 1 + k92 * 900 + 900) gws ?_
          refine g_iload 94 (gd rfl) rfl rfl ?_
          refine g_if_lt 97 245 (gd rfl) rfl rfl (fun c94 => ?_) (fun c94 => ?_)
          · skip
            have i94 := z_lt (-1) (-1) c94 j92_8 rfl
            have i245 : In y92_6 0 159 := by obtain ⟨wa, wa1, wa2⟩ := (g92_0 y78_5.toNatClampNeg g92_1).2.2.2 (by have h1 := g92_2; have h2 := g92_3; have a0 := oa9 j78_7 j78_5 j78_2 j78_1 ro_109_20 ro_109_19 i94 j92_6 j78_3; omega); have hge := g92_4.1 wa (by have a0 := oa9 j78_7 j78_5 j78_2 j78_1 ro_109_20 ro_109_19 i94 j92_6 j78_3; omega) wa1 wa2; have h6 := j92_6; unfold In at h6; exact ⟨hge, by omega⟩
            refine g_aload_n 246 (gd rfl) rfl rfl ?_
            refine g_getA (q2 := 114) 249 (gd rfl) rfl rfl rfl rfl ?_
            refine g_aload_n 250 (gd rfl) rfl rfl ?_
            refine g_getI 253 (gd rfl) rfl rfl rfl (fun z250 e250 => ?_)
            have q250 : u_109_19 = z250 := (fr_F e_109_19 hFc92 rfl).trans e250.symm
            subst q250
            refine g_iload 255 (gd rfl) rfl rfl ?_
            refine g_iadd 256 (gd rfl) rfl (fun z255 e255 => ?_)
            have i255 := in_add 0 319 e255 ro_109_19 i245 rfl rfl
            refine g_iaload 257 (gd rfl) rfl (n := 480) rfl (in_ix i255 rfl) (fun z256 e256 => ?_)
            have i256 := inv_I hIc92 (n := 480) (t := 0) 0 31 rfl (in_ix i255 rfl) rfl e256
            have hw := g92_4.2 (by have h := i245; unfold In at h; omega); have hb6 : bs sc92 + y92_6.toNatClampNeg = z255.toNatClampNeg := bs_x (show u_109_19 = sc92.2.2.1 109 19 from fr_F e_109_19 hFc92 rfl) (by have a0 := oa10 j78_7 j78_5 j78_2 j78_1 ro_109_20 ro_109_19 i94 i245 j78_3 i255; have a10 := t_add e255 ro_109_19 i245 rfl; omega) (by have a0 := oa10 j78_7 j78_5 j78_2 j78_1 ro_109_20 ro_109_19 i94 i245 j78_3 i255; have a10 := t_add e255 ro_109_19 i245 rfl; omega) (by have a0 := oa10 j78_7 j78_5 j78_2 j78_1 ro_109_20 ro_109_19 i94 i245 j78_3 i255; have a10 := t_add e255 ro_109_19 i245 rfl; omega); unfold WOK at hw; rw [hb6, ← e256] at hw
            refine g_istore 259 (gd rfl) rfl (Nat.le_of_ble_eq_true rfl) ?_
            refine g_iinc 262 (gd rfl) rfl rfl (Nat.le_of_ble_eq_true rfl) (fun z259 e259 => ?_)
            have i259 := in_add 1 1001 e259 j78_7 (in_c 1 rfl) rfl rfl
            refine g_goto 78 (gd rfl) rfl ?_
            have i78 : In z259 0 1000 := by have h3 := g92_3; exact ⟨by have a0 := oa9 j78_7 j78_5 j78_2 j78_1 ro_109_20 ro_109_19 i94 i245 i259; have a9 := t_add e259 j78_7 (in_c 1 rfl) rfl; have a10 := oa4 ((in_c 1 rfl)) i256 j78_3 i255; have a14 := t_add e255 ro_109_19 i245 rfl; omega, by have a0 := oa9 j78_7 j78_5 j78_2 j78_1 ro_109_20 ro_109_19 i94 i245 i259; have a9 := t_add e259 j78_7 (in_c 1 rfl) rfl; have a10 := oa4 ((in_c 1 rfl)) i256 j78_3 i255; have a14 := t_add e255 ro_109_19 i245 rfl; omega⟩
            have n78 : 0 ≤ (z259).toInt := by have a0 := oa9 j78_7 j78_5 j78_2 j78_1 ro_109_20 ro_109_19 i94 i245 i78; have a9 := t_add e259 j78_7 (in_c 1 rfl) rfl; have a10 := oa4 ((in_c 1 rfl)) i256 j78_3 i255; have a14 := t_add e255 ro_109_19 i245 rfl; omega
            have n78a : WFN sc92 (x2).toNatClampNeg (y78_4) := by exact g92_0
            have n78b : bt (y78_4) (z256).toNatClampNeg = true := by exact hw.2.2.1
            have n78c : (sc92.1 131 (z256).toNatClampNeg).toInt + (z259).toInt = (sc92.1 131 (x1).toNatClampNeg).toInt := by have h1 := hw.2.2.2.2.2; have h2 := g92_2; have a0 := oa9 j78_7 j78_5 j78_2 j78_1 ro_109_20 ro_109_19 i94 i245 i78; have a9 := t_add e259 j78_7 (in_c 1 rfl) rfl; have a10 := oa4 ((in_c 1 rfl)) i256 j78_3 i255; have a14 := t_add e255 ro_109_19 i245 rfl; omega
            have n78d : (x3).toInt < (sc92.1 131 (x1).toNatClampNeg).toInt ∧ (sc92.1 131 (x1).toNatClampNeg).toInt ≤ 1000 := by exact g92_3
            exact gg_w (by first | exact Nat.le_add_right _ _ | exact gw2 | exact gw3 | exact gwe rfl | exact gwf rfl | exact gwg rfl | exact gwh rfl | omega) (gg_f (gf_cons rfl (gf_cons rfl (gf_cons rfl (gf_cons rfl (gf_cons rfl (gf_cons rfl (gf_cons rfl (gf_cons rfl gf_nil)))))))) (ih78 sc92 y78_4 z256 y92_6 z259 hIc92 hFc92 (in_w 0 31 j78_1 rfl) (in_w 0 31 j78_2 rfl) (in_w 0 2147483646 j78_3 rfl) (in_w 0 31 i256 rfl) (in_w (-1) 159 i245 rfl) i78 nz92_4 n78 n78a n78b n78c n78d (m_up mm78 (t_add e259 j78_7 (in_c 1 rfl) rfl) (in_w 1 1 (in_c 1 rfl) rfl))))
          · skip
            have i94 := z_ge 0 159 c94 j92_8 rfl
            refine g_aload_n 98 (gd rfl) rfl rfl ?_
            refine g_getI 101 (gd rfl) rfl rfl rfl (fun z98 e98 => ?_)
            have q98 : u_109_19 = z98 := (fr_F e_109_19 hFc92 rfl).trans e98.symm
            subst q98
            refine g_iload 103 (gd rfl) rfl rfl ?_
            refine g_iadd 104 (gd rfl) rfl (fun z103 e103 => ?_)
            have i103 := in_add 0 319 e103 ro_109_19 i94 rfl rfl
            refine g_istore 106 (gd rfl) rfl (Nat.le_of_ble_eq_true rfl) ?_
            refine g_aload_n 107 (gd rfl) rfl rfl ?_
            refine g_getA (q2 := 112) 110 (gd rfl) rfl rfl rfl rfl ?_
            refine g_iload 112 (gd rfl) rfl rfl ?_
            refine g_baload 113 (gd rfl) rfl (n := 480) rfl (in_ix i103 rfl) (fun z112 e112 => ?_)
            have i112 := inv_I hIc92 (n := 480) (t := 3) 0 1 rfl (in_ix i103 rfl) rfl e112
            refine g_if_eq 116 166 (gd rfl) rfl rfl (fun c113 => ?_) (fun c113 => ?_)
            · skip
              have i113 := z_eq 0 0 c113 i112 rfl
              refine g_iconst 0 167 (gd rfl) rfl rfl ?_
              refine g_istore 169 (gd rfl) rfl (Nat.le_of_ble_eq_true rfl) ?_
              refine g_iload 171 (gd rfl) rfl rfl ?_
              refine g_if_eq 174 235 (gd rfl) rfl rfl (fun c171 => ?_) (fun c171 => ?_)
              · skip
                refine g_iload 237 (gd rfl) rfl rfl ?_
                refine g_istore 239 (gd rfl) rfl (Nat.le_of_ble_eq_true rfl) ?_
                refine g_iinc 242 (gd rfl) rfl rfl (Nat.le_of_ble_eq_true rfl) (fun z239 e239 => ?_)
                have i239 := in_add (-1) 158 e239 i94 (in_c (-1) rfl) rfl rfl
                refine g_goto 92 (gd rfl) rfl ?_
                have n92 : (y78_7).toInt ≤ (x3).toInt := by first | exact n92_0 | (have a0 := oa10 j78_7 j78_5 j78_2 j78_1 ro_109_20 ro_109_19 i94 j92_6 ((in_c 0 rfl)) i103; have a10 := t_add e103 ro_109_19 i94 rfl; have a11 := in_u i239; have a12 := t_add e239 i94 (in_c (-1) rfl) rfl; have a13 := oa2 ((in_c (-1) rfl)) j78_3; omega)
                have n92a : 0 ≤ (y78_7).toInt := by first | exact n78_0 | (have a0 := oa10 j78_7 j78_5 j78_2 j78_1 ro_109_20 ro_109_19 i94 j92_6 ((in_c 0 rfl)) i103; have a10 := t_add e103 ro_109_19 i94 rfl; have a11 := in_u i239; have a12 := t_add e239 i94 (in_c (-1) rfl) rfl; have a13 := oa2 ((in_c (-1) rfl)) j78_3; omega)
                have n92b : WFN sc92 (x2).toNatClampNeg (y78_4) := by exact g92_0
                have n92c : bt (y78_4) (y78_5).toNatClampNeg = true := by exact g92_1
                have n92d : (sc92.1 131 (y78_5).toNatClampNeg).toInt + (y78_7).toInt = (sc92.1 131 (x1).toNatClampNeg).toInt := by exact g92_2
                have n92e : (x3).toInt < (sc92.1 131 (x1).toNatClampNeg).toInt ∧ (sc92.1 131 (x1).toNatClampNeg).toInt ≤ 1000 := by exact g92_3
                have n92f : (∀ a : Nat, (z239).toInt < (a : Int) → a < 160 → WOK sc92 (y78_4) (y78_5).toNatClampNeg a → 0 ≤ (y92_6).toInt) ∧ (0 ≤ (y92_6).toInt → WOK sc92 (y78_4) (y78_5).toNatClampNeg (y92_6).toNatClampNeg) := by exact wa_no g92_4 (by have a0 := oa10 j78_7 j78_5 j78_2 j78_1 ro_109_20 ro_109_19 i94 j92_6 ((in_c 0 rfl)) i103; have a10 := t_add e103 ro_109_19 i94 rfl; have a11 := in_u i239; have a12 := t_add e239 i94 (in_c (-1) rfl) rfl; have a13 := oa2 ((in_c (-1) rfl)) j78_3; omega) (by have a0 := oa10 j78_7 j78_5 j78_2 j78_1 ro_109_20 ro_109_19 i94 j92_6 ((in_c 0 rfl)) i103; have a10 := t_add e103 ro_109_19 i94 rfl; have a11 := in_u i239; have a12 := t_add e239 i94 (in_c (-1) rfl) rfl; have a13 := oa2 ((in_c (-1) rfl)) j78_3; omega) (fun hw => by have h1 := hw.1; rw [(bs_x (x := z103) (a := y92_8) (show u_109_19 = sc92.2.2.1 109 19 from fr_F e_109_19 hFc92 rfl) (by have a0 := oa10 j78_7 j78_5 j78_2 j78_1 ro_109_20 ro_109_19 i94 j92_6 ((in_c 0 rfl)) i103; have a10 := t_add e103 ro_109_19 i94 rfl; have a11 := in_u i239; have a12 := t_add e239 i94 (in_c (-1) rfl) rfl; have a13 := oa2 ((in_c (-1) rfl)) j78_3; omega) (by have a0 := oa10 j78_7 j78_5 j78_2 j78_1 ro_109_20 ro_109_19 i94 j92_6 ((in_c 0 rfl)) i103; have a10 := t_add e103 ro_109_19 i94 rfl; have a11 := in_u i239; have a12 := t_add e239 i94 (in_c (-1) rfl) rfl; have a13 := oa2 ((in_c (-1) rfl)) j78_3; omega) (by have a0 := oa10 j78_7 j78_5 j78_2 j78_1 ro_109_20 ro_109_19 i94 j92_6 ((in_c 0 rfl)) i103; have a10 := t_add e103 ro_109_19 i94 rfl; have a11 := in_u i239; have a12 := t_add e239 i94 (in_c (-1) rfl) rfl; have a13 := oa2 ((in_c (-1) rfl)) j78_3; omega)), ← e112] at h1; exact h1 c113)
                exact gg_w (by first | exact Nat.le_add_right _ _ | exact gw2 | exact gw3 | exact gwe rfl | exact gwf rfl | exact gwg rfl | exact gwh rfl | omega) (gg_f (gf_cons rfl (gf_cons rfl (gf_cons rfl (gf_cons rfl (gf_cons rfl (gf_cons rfl (gf_cons rfl (gf_cons rfl (gf_cons rfl gf_nil))))))))) (ih92 sc92 y92_6 z239 hIc92 hFc92 (in_w (-1) 159 j92_6 rfl) (in_w (-1) 159 i239 rfl) nz92_4 n92 n92a n92b n92c n92d n92e n92f (m_dn mm92 (t_add e239 i94 (in_c (-1) rfl) rfl) (in_w (-1) (-1) (in_c (-1) rfl) rfl))))
              · skip
                exact zn_ne c171 (in_c 0 rfl) rfl
            · skip
              have i113 := z_ne 1 1 c113 i112 rfl
              refine g_aload_n 117 (gd rfl) rfl rfl ?_
              refine g_getA (q2 := 113) 120 (gd rfl) rfl rfl rfl rfl ?_
              refine g_iload 122 (gd rfl) rfl rfl ?_
              refine g_iaload 123 (gd rfl) rfl (n := 480) rfl (in_ix i103 rfl) (fun z122 e122 => ?_)
              have i122 := inv_I hIc92 (n := 480) (t := 0) 0 31 rfl (in_ix i103 rfl) rfl e122
              refine g_iload 125 (gd rfl) rfl rfl ?_
              refine g_cmp_ne 128 166 (gd rfl) rfl rfl (fun c125 => ?_) (fun c125 => ?_)
              · skip
                refine g_iconst 0 167 (gd rfl) rfl rfl ?_
                refine g_istore 169 (gd rfl) rfl (Nat.le_of_ble_eq_true rfl) ?_
                refine g_iload 171 (gd rfl) rfl rfl ?_
                refine g_if_eq 174 235 (gd rfl) rfl rfl (fun c171 => ?_) (fun c171 => ?_)
                · skip
                  refine g_iload 237 (gd rfl) rfl rfl ?_
                  refine g_istore 239 (gd rfl) rfl (Nat.le_of_ble_eq_true rfl) ?_
                  refine g_iinc 242 (gd rfl) rfl rfl (Nat.le_of_ble_eq_true rfl) (fun z239 e239 => ?_)
                  have i239 := in_add (-1) 158 e239 i94 (in_c (-1) rfl) rfl rfl
                  refine g_goto 92 (gd rfl) rfl ?_
                  have n92 : (y78_7).toInt ≤ (x3).toInt := by first | exact n92_0 | (have a0 := oa10 j78_7 j78_5 j78_2 j78_1 ro_109_20 ro_109_19 i94 j92_6 ((in_c 0 rfl)) i103; have a10 := t_add e103 ro_109_19 i94 rfl; have a11 := in_u i239; have a12 := t_add e239 i94 (in_c (-1) rfl) rfl; have a13 := oa2 ((in_c (-1) rfl)) j78_3; omega)
                  have n92a : 0 ≤ (y78_7).toInt := by first | exact n78_0 | (have a0 := oa10 j78_7 j78_5 j78_2 j78_1 ro_109_20 ro_109_19 i94 j92_6 ((in_c 0 rfl)) i103; have a10 := t_add e103 ro_109_19 i94 rfl; have a11 := in_u i239; have a12 := t_add e239 i94 (in_c (-1) rfl) rfl; have a13 := oa2 ((in_c (-1) rfl)) j78_3; omega)
                  have n92b : WFN sc92 (x2).toNatClampNeg (y78_4) := by exact g92_0
                  have n92c : bt (y78_4) (y78_5).toNatClampNeg = true := by exact g92_1
                  have n92d : (sc92.1 131 (y78_5).toNatClampNeg).toInt + (y78_7).toInt = (sc92.1 131 (x1).toNatClampNeg).toInt := by exact g92_2
                  have n92e : (x3).toInt < (sc92.1 131 (x1).toNatClampNeg).toInt ∧ (sc92.1 131 (x1).toNatClampNeg).toInt ≤ 1000 := by exact g92_3
                  have n92f : (∀ a : Nat, (z239).toInt < (a : Int) → a < 160 → WOK sc92 (y78_4) (y78_5).toNatClampNeg a → 0 ≤ (y92_6).toInt) ∧ (0 ≤ (y92_6).toInt → WOK sc92 (y78_4) (y78_5).toNatClampNeg (y92_6).toNatClampNeg) := by exact wa_no g92_4 (by have a0 := oa10 j78_7 j78_5 j78_2 j78_1 ro_109_20 ro_109_19 i94 j92_6 ((in_c 0 rfl)) i103; have a10 := t_add e103 ro_109_19 i94 rfl; have a11 := in_u i239; have a12 := t_add e239 i94 (in_c (-1) rfl) rfl; have a13 := oa2 ((in_c (-1) rfl)) j78_3; omega) (by have a0 := oa10 j78_7 j78_5 j78_2 j78_1 ro_109_20 ro_109_19 i94 j92_6 ((in_c 0 rfl)) i103; have a10 := t_add e103 ro_109_19 i94 rfl; have a11 := in_u i239; have a12 := t_add e239 i94 (in_c (-1) rfl) rfl; have a13 := oa2 ((in_c (-1) rfl)) j78_3; omega) (fun hw => by have h1 := hw.2.1; rw [(bs_x (x := z103) (a := y92_8) (show u_109_19 = sc92.2.2.1 109 19 from fr_F e_109_19 hFc92 rfl) (by have a0 := oa10 j78_7 j78_5 j78_2 j78_1 ro_109_20 ro_109_19 i94 j92_6 ((in_c 0 rfl)) i103; have a10 := t_add e103 ro_109_19 i94 rfl; have a11 := in_u i239; have a12 := t_add e239 i94 (in_c (-1) rfl) rfl; have a13 := oa2 ((in_c (-1) rfl)) j78_3; omega) (by have a0 := oa10 j78_7 j78_5 j78_2 j78_1 ro_109_20 ro_109_19 i94 j92_6 ((in_c 0 rfl)) i103; have a10 := t_add e103 ro_109_19 i94 rfl; have a11 := in_u i239; have a12 := t_add e239 i94 (in_c (-1) rfl) rfl; have a13 := oa2 ((in_c (-1) rfl)) j78_3; omega) (by have a0 := oa10 j78_7 j78_5 j78_2 j78_1 ro_109_20 ro_109_19 i94 j92_6 ((in_c 0 rfl)) i103; have a10 := t_add e103 ro_109_19 i94 rfl; have a11 := in_u i239; have a12 := t_add e239 i94 (in_c (-1) rfl) rfl; have a13 := oa2 ((in_c (-1) rfl)) j78_3; omega)), ← e122] at h1; have r1 := i122; have r2 := j78_5; unfold In at r1 r2; have e5 : y78_5.toNatClampNeg = y78_5.toInt.toNat := rfl; have e6 : z122.toNatClampNeg = z122.toInt.toNat := rfl; have hc := c125; omega)
                  exact gg_w (by first | exact Nat.le_add_right _ _ | exact gw2 | exact gw3 | exact gwe rfl | exact gwf rfl | exact gwg rfl | exact gwh rfl | omega) (gg_f (gf_cons rfl (gf_cons rfl (gf_cons rfl (gf_cons rfl (gf_cons rfl (gf_cons rfl (gf_cons rfl (gf_cons rfl (gf_cons rfl gf_nil))))))))) (ih92 sc92 y92_6 z239 hIc92 hFc92 (in_w (-1) 159 j92_6 rfl) (in_w (-1) 159 i239 rfl) nz92_4 n92 n92a n92b n92c n92d n92e n92f (m_dn mm92 (t_add e239 i94 (in_c (-1) rfl) rfl) (in_w (-1) (-1) (in_c (-1) rfl) rfl))))
                · skip
                  exact zn_ne c171 (in_c 0 rfl) rfl
              · skip
                refine g_iload 130 (gd rfl) rfl rfl ?_
                refine g_aload_n 131 (gd rfl) rfl rfl ?_
                refine g_getA (q2 := 114) 134 (gd rfl) rfl rfl rfl rfl ?_
                refine g_iload 136 (gd rfl) rfl rfl ?_
                refine g_iaload 137 (gd rfl) rfl (n := 480) rfl (in_ix i103 rfl) (fun z136 e136 => ?_)
                have i136 := inv_I hIc92 (n := 480) (t := 0) 0 31 rfl (in_ix i103 rfl) rfl e136
                refine g_calls (As := [.int y78_4, .int z136]) (r := []) 140 (gd rfl) rfl rfl rfl rfl rfl (Nat.le_of_ble_eq_true rfl) (mc := 0) (ms := 0) (Nat.zero_le _) (Nat.zero_le _) (P := fun v u => _) ?_ (fun v u h => h)
                intro po137 xx137 hp137 hx137
                refine g_enter2 (k := 311) (N := 300) (by first | exact dq1 hd rfl | exact dq0 hd rfl | exact dq2 hd rfl | exact dq3 hd rfl | omega) rfl (Nat.le_of_ble_eq_true rfl) ?_
                refine g_iload_n 1 (gd rfl) rfl rfl ?_
                refine g_iload_n 2 (gd rfl) rfl rfl ?_
                refine g_ishr 3 (gd rfl) rfl (fun z137x2 e137x2 => ?_)
                refine g_iconst 1 4 (gd rfl) rfl rfl ?_
                refine g_iand 5 (gd rfl) rfl (fun z137x4 e137x4 => ?_)
                have i137x4 := in_and2 e137x4 (in_c 1 rfl) rfl
                refine g_iconst 1 6 (gd rfl) rfl rfl ?_
                refine g_cmp_ne 9 13 (gd rfl) rfl rfl (fun c137x6 => ?_) (fun c137x6 => ?_)
                · skip
                  have i137x6 := r_ne1 0 0 c137x6 i137x4 (in_c 1 rfl) rfl
                  refine g_iconst 0 14 (gd rfl) rfl rfl ?_
                  refine g_ireturn (gd rfl) rfl (nb01 (in_w 0 1 (in_c 0 rfl) rfl)) (hp137 _ _ ?_)
                  show GG _ _ _ _ _ _ _ _ [.int (Int32.ofInt 0)] _ _ _
                  refine g_if_eq 143 166 (gd rfl) rfl rfl (fun c140 => ?_) (fun c140 => ?_)
                  · skip
                    refine g_iconst 0 167 (gd rfl) rfl rfl ?_
                    refine g_istore 169 (gd rfl) rfl (Nat.le_of_ble_eq_true rfl) ?_
                    refine g_iload 171 (gd rfl) rfl rfl ?_
                    refine g_if_eq 174 235 (gd rfl) rfl rfl (fun c171 => ?_) (fun c171 => ?_)
                    · skip
                      refine g_iload 237 (gd rfl) rfl rfl ?_
                      refine g_istore 239 (gd rfl) rfl (Nat.le_of_ble_eq_true rfl) ?_
                      refine g_iinc 242 (gd rfl) rfl rfl (Nat.le_of_ble_eq_true rfl) (fun z239 e239 => ?_)
                      have i239 := in_add (-1) 158 e239 i94 (in_c (-1) rfl) rfl rfl
                      refine g_goto 92 (gd rfl) rfl ?_
                      have n92 : (y78_7).toInt ≤ (x3).toInt := by first | exact n92_0 | (have a0 := oa10 j78_7 j78_5 j78_2 j78_1 ro_109_20 ro_109_19 i94 j92_6 ((in_c 0 rfl)) i103; have a10 := t_add e103 ro_109_19 i94 rfl; have a11 := in_u i239; have a12 := t_add e239 i94 (in_c (-1) rfl) rfl; have a13 := oa2 ((in_c (-1) rfl)) j78_3; omega)
                      have n92a : 0 ≤ (y78_7).toInt := by first | exact n78_0 | (have a0 := oa10 j78_7 j78_5 j78_2 j78_1 ro_109_20 ro_109_19 i94 j92_6 ((in_c 0 rfl)) i103; have a10 := t_add e103 ro_109_19 i94 rfl; have a11 := in_u i239; have a12 := t_add e239 i94 (in_c (-1) rfl) rfl; have a13 := oa2 ((in_c (-1) rfl)) j78_3; omega)
                      have n92b : WFN sc92 (x2).toNatClampNeg (y78_4) := by exact g92_0
                      have n92c : bt (y78_4) (y78_5).toNatClampNeg = true := by exact g92_1
                      have n92d : (sc92.1 131 (y78_5).toNatClampNeg).toInt + (y78_7).toInt = (sc92.1 131 (x1).toNatClampNeg).toInt := by exact g92_2
                      have n92e : (x3).toInt < (sc92.1 131 (x1).toNatClampNeg).toInt ∧ (sc92.1 131 (x1).toNatClampNeg).toInt ≤ 1000 := by exact g92_3
                      have n92f : (∀ a : Nat, (z239).toInt < (a : Int) → a < 160 → WOK sc92 (y78_4) (y78_5).toNatClampNeg a → 0 ≤ (y92_6).toInt) ∧ (0 ≤ (y92_6).toInt → WOK sc92 (y78_4) (y78_5).toNatClampNeg (y92_6).toNatClampNeg) := by exact wa_no g92_4 (by have a0 := oa10 j78_7 j78_5 j78_2 j78_1 ro_109_20 ro_109_19 i94 j92_6 ((in_c 0 rfl)) i103; have a10 := t_add e103 ro_109_19 i94 rfl; have a11 := in_u i239; have a12 := t_add e239 i94 (in_c (-1) rfl) rfl; have a13 := oa2 ((in_c (-1) rfl)) j78_3; omega) (by have a0 := oa10 j78_7 j78_5 j78_2 j78_1 ro_109_20 ro_109_19 i94 j92_6 ((in_c 0 rfl)) i103; have a10 := t_add e103 ro_109_19 i94 rfl; have a11 := in_u i239; have a12 := t_add e239 i94 (in_c (-1) rfl) rfl; have a13 := oa2 ((in_c (-1) rfl)) j78_3; omega) (fun hw => by have h1 := hw.2.2.1; have hb := bt_no e137x2 e137x4 i136 c137x6; rw [(bs_x (x := z103) (a := y92_8) (show u_109_19 = sc92.2.2.1 109 19 from fr_F e_109_19 hFc92 rfl) (by have a0 := oa10 j78_7 j78_5 j78_2 j78_1 ro_109_20 ro_109_19 i94 j92_6 ((in_c 0 rfl)) i103; have a10 := t_add e103 ro_109_19 i94 rfl; have a11 := in_u i239; have a12 := t_add e239 i94 (in_c (-1) rfl) rfl; have a13 := oa2 ((in_c (-1) rfl)) j78_3; omega) (by have a0 := oa10 j78_7 j78_5 j78_2 j78_1 ro_109_20 ro_109_19 i94 j92_6 ((in_c 0 rfl)) i103; have a10 := t_add e103 ro_109_19 i94 rfl; have a11 := in_u i239; have a12 := t_add e239 i94 (in_c (-1) rfl) rfl; have a13 := oa2 ((in_c (-1) rfl)) j78_3; omega) (by have a0 := oa10 j78_7 j78_5 j78_2 j78_1 ro_109_20 ro_109_19 i94 j92_6 ((in_c 0 rfl)) i103; have a10 := t_add e103 ro_109_19 i94 rfl; have a11 := in_u i239; have a12 := t_add e239 i94 (in_c (-1) rfl) rfl; have a13 := oa2 ((in_c (-1) rfl)) j78_3; omega)), ← e136, hb] at h1; cases h1)
                      exact gg_w (by first | exact Nat.le_add_right _ _ | exact gw2 | exact gw3 | exact gwe rfl | exact gwf rfl | exact gwg rfl | exact gwh rfl | omega) (gg_f (gf_cons rfl (gf_cons rfl (gf_cons rfl (gf_cons rfl (gf_cons rfl (gf_cons rfl (gf_cons rfl (gf_cons rfl (gf_cons rfl gf_nil))))))))) (ih92 sc92 y92_6 z239 hIc92 hFc92 (in_w (-1) 159 j92_6 rfl) (in_w (-1) 159 i239 rfl) nz92_4 n92 n92a n92b n92c n92d n92e n92f (m_dn mm92 (t_add e239 i94 (in_c (-1) rfl) rfl) (in_w (-1) (-1) (in_c (-1) rfl) rfl))))
                    · skip
                      exact zn_ne c171 (in_c 0 rfl) rfl
                  · skip
                    exact zn_ne c140 (in_c 0 rfl) rfl
                · skip
                  have i137x6 := r_eq1 1 1 c137x6 i137x4 (in_c 1 rfl) rfl
                  refine g_iconst 1 10 (gd rfl) rfl rfl ?_
                  refine g_goto 14 (gd rfl) rfl ?_
                  refine g_ireturn (gd rfl) rfl (nb01 (in_w 0 1 (in_c 1 rfl) rfl)) (hp137 _ _ ?_)
                  show GG _ _ _ _ _ _ _ _ [.int (Int32.ofInt 1)] _ _ _
                  refine g_if_eq 143 166 (gd rfl) rfl rfl (fun c140 => ?_) (fun c140 => ?_)
                  · skip
                    exact zn_eq c140 (in_c 1 rfl) rfl
                  · skip
                    refine g_aload_n 144 (gd rfl) rfl rfl ?_
                    refine g_getA (q2 := 130) 147 (gd rfl) rfl rfl rfl rfl ?_
                    refine g_aload_n 148 (gd rfl) rfl rfl ?_
                    refine g_getA (q2 := 114) 151 (gd rfl) rfl rfl rfl rfl ?_
                    refine g_iload 153 (gd rfl) rfl rfl ?_
                    refine g_iaload 154 (gd rfl) rfl (n := 480) rfl (in_ix i103 rfl) (fun z153 e153 => ?_)
                    have q153 : z136 = z153 := (e136).trans e153.symm
                    subst q153
                    refine g_laload 155 (gd rfl) rfl (n := 32) rfl (in_ix i136 rfl) (fun z154 e154 => ?_)
                    refine g_ldc2_w 9000000000000000 158 (gd rfl) rfl rfl ?_
                    refine g_lcmp 159 (gd rfl) rfl (fun z158 e158 => ?_)
                    have i158 := lc_in e158
                    refine g_if_ge 162 166 (gd rfl) rfl rfl (fun c159 => ?_) (fun c159 => ?_)
                    · skip
                      have i159 := z_ge 0 1 c159 i158 rfl
                      have c159a := lc_ge e158 c159
                      have i159a := lr_le2 9000000000000000 9223372036854775807 c159a (l_c 9000000000000000 rfl) (l_rng z154) rfl
                      refine g_iconst 0 167 (gd rfl) rfl rfl ?_
                      refine g_istore 169 (gd rfl) rfl (Nat.le_of_ble_eq_true rfl) ?_
                      refine g_iload 171 (gd rfl) rfl rfl ?_
                      refine g_if_eq 174 235 (gd rfl) rfl rfl (fun c171 => ?_) (fun c171 => ?_)
                      · skip
                        refine g_iload 237 (gd rfl) rfl rfl ?_
                        refine g_istore 239 (gd rfl) rfl (Nat.le_of_ble_eq_true rfl) ?_
                        refine g_iinc 242 (gd rfl) rfl rfl (Nat.le_of_ble_eq_true rfl) (fun z239 e239 => ?_)
                        have i239 := in_add (-1) 158 e239 i94 (in_c (-1) rfl) rfl rfl
                        refine g_goto 92 (gd rfl) rfl ?_
                        have n92 : (y78_7).toInt ≤ (x3).toInt := by first | exact n92_0 | (have a0 := oa10 j78_7 j78_5 j78_2 j78_1 ro_109_20 ro_109_19 i94 j92_6 ((in_c 0 rfl)) i103; have a10 := t_add e103 ro_109_19 i94 rfl; have a11 := in_u i239; have a12 := t_add e239 i94 (in_c (-1) rfl) rfl; have a13 := oa2 ((in_c (-1) rfl)) j78_3; omega)
                        have n92a : 0 ≤ (y78_7).toInt := by first | exact n78_0 | (have a0 := oa10 j78_7 j78_5 j78_2 j78_1 ro_109_20 ro_109_19 i94 j92_6 ((in_c 0 rfl)) i103; have a10 := t_add e103 ro_109_19 i94 rfl; have a11 := in_u i239; have a12 := t_add e239 i94 (in_c (-1) rfl) rfl; have a13 := oa2 ((in_c (-1) rfl)) j78_3; omega)
                        have n92b : WFN sc92 (x2).toNatClampNeg (y78_4) := by exact g92_0
                        have n92c : bt (y78_4) (y78_5).toNatClampNeg = true := by exact g92_1
                        have n92d : (sc92.1 131 (y78_5).toNatClampNeg).toInt + (y78_7).toInt = (sc92.1 131 (x1).toNatClampNeg).toInt := by exact g92_2
                        have n92e : (x3).toInt < (sc92.1 131 (x1).toNatClampNeg).toInt ∧ (sc92.1 131 (x1).toNatClampNeg).toInt ≤ 1000 := by exact g92_3
                        have n92f : (∀ a : Nat, (z239).toInt < (a : Int) → a < 160 → WOK sc92 (y78_4) (y78_5).toNatClampNeg a → 0 ≤ (y92_6).toInt) ∧ (0 ≤ (y92_6).toInt → WOK sc92 (y78_4) (y78_5).toNatClampNeg (y92_6).toNatClampNeg) := by exact wa_no g92_4 (by have a0 := oa10 j78_7 j78_5 j78_2 j78_1 ro_109_20 ro_109_19 i94 j92_6 ((in_c 0 rfl)) i103; have a10 := t_add e103 ro_109_19 i94 rfl; have a11 := in_u i239; have a12 := t_add e239 i94 (in_c (-1) rfl) rfl; have a13 := oa2 ((in_c (-1) rfl)) j78_3; omega) (by have a0 := oa10 j78_7 j78_5 j78_2 j78_1 ro_109_20 ro_109_19 i94 j92_6 ((in_c 0 rfl)) i103; have a10 := t_add e103 ro_109_19 i94 rfl; have a11 := in_u i239; have a12 := t_add e239 i94 (in_c (-1) rfl) rfl; have a13 := oa2 ((in_c (-1) rfl)) j78_3; omega) (fun hw => by have h1 := hw.2.2.2.1; rw [(bs_x (x := z103) (a := y92_8) (show u_109_19 = sc92.2.2.1 109 19 from fr_F e_109_19 hFc92 rfl) (by have a0 := oa10 j78_7 j78_5 j78_2 j78_1 ro_109_20 ro_109_19 i94 j92_6 ((in_c 0 rfl)) i103; have a10 := t_add e103 ro_109_19 i94 rfl; have a11 := in_u i239; have a12 := t_add e239 i94 (in_c (-1) rfl) rfl; have a13 := oa2 ((in_c (-1) rfl)) j78_3; omega) (by have a0 := oa10 j78_7 j78_5 j78_2 j78_1 ro_109_20 ro_109_19 i94 j92_6 ((in_c 0 rfl)) i103; have a10 := t_add e103 ro_109_19 i94 rfl; have a11 := in_u i239; have a12 := t_add e239 i94 (in_c (-1) rfl) rfl; have a13 := oa2 ((in_c (-1) rfl)) j78_3; omega) (by have a0 := oa10 j78_7 j78_5 j78_2 j78_1 ro_109_20 ro_109_19 i94 j92_6 ((in_c 0 rfl)) i103; have a10 := t_add e103 ro_109_19 i94 rfl; have a11 := in_u i239; have a12 := t_add e239 i94 (in_c (-1) rfl) rfl; have a13 := oa2 ((in_c (-1) rfl)) j78_3; omega)), ← e136, ← e154] at h1; have h := i159a.1; omega)
                        exact gg_w (by first | exact Nat.le_add_right _ _ | exact gw2 | exact gw3 | exact gwe rfl | exact gwf rfl | exact gwg rfl | exact gwh rfl | omega) (gg_f (gf_cons rfl (gf_cons rfl (gf_cons rfl (gf_cons rfl (gf_cons rfl (gf_cons rfl (gf_cons rfl (gf_cons rfl (gf_cons rfl gf_nil))))))))) (ih92 sc92 y92_6 z239 hIc92 hFc92 (in_w (-1) 159 j92_6 rfl) (in_w (-1) 159 i239 rfl) nz92_4 n92 n92a n92b n92c n92d n92e n92f (m_dn mm92 (t_add e239 i94 (in_c (-1) rfl) rfl) (in_w (-1) (-1) (in_c (-1) rfl) rfl))))
                      · skip
                        exact zn_ne c171 (in_c 0 rfl) rfl
                    · skip
                      have i159 := z_lt (-1) (-1) c159 i158 rfl
                      have c159a := lc_lt e158 c159
                      have i159a := lr_lt1 (-9223372036854775808) 8999999999999999 c159a (l_rng z154) (l_c 9000000000000000 rfl) rfl
                      refine g_iconst 1 163 (gd rfl) rfl rfl ?_
                      refine g_goto 167 (gd rfl) rfl ?_
                      refine g_istore 169 (gd rfl) rfl (Nat.le_of_ble_eq_true rfl) ?_
                      refine g_iload 171 (gd rfl) rfl rfl ?_
                      refine g_if_eq 174 235 (gd rfl) rfl rfl (fun c171 => ?_) (fun c171 => ?_)
                      · skip
                        exact zn_eq c171 (in_c 1 rfl) rfl
                      · skip
                        refine g_aload_n 175 (gd rfl) rfl rfl ?_
                        refine g_getA (q2 := 130) 178 (gd rfl) rfl rfl rfl rfl ?_
                        refine g_iload 180 (gd rfl) rfl rfl ?_
                        refine g_laload 181 (gd rfl) rfl (n := 32) rfl (in_ix j78_5 rfl) (fun z180 e180 => ?_)
                        refine g_aload_n 182 (gd rfl) rfl rfl ?_
                        refine g_getA (q2 := 130) 185 (gd rfl) rfl rfl rfl rfl ?_
                        refine g_aload_n 186 (gd rfl) rfl rfl ?_
                        refine g_getA (q2 := 114) 189 (gd rfl) rfl rfl rfl rfl ?_
                        refine g_iload 191 (gd rfl) rfl rfl ?_
                        refine g_iaload 192 (gd rfl) rfl (n := 480) rfl (in_ix i103 rfl) (fun z191 e191 => ?_)
                        have q191 : z136 = z191 := (e136).trans e191.symm
                        subst q191
                        refine g_laload 193 (gd rfl) rfl (n := 32) rfl (in_ix i136 rfl) (fun z192 e192 => ?_)
                        refine g_aload_n 194 (gd rfl) rfl rfl ?_
                        refine g_getA (q2 := 115) 197 (gd rfl) rfl rfl rfl rfl ?_
                        refine g_iload 199 (gd rfl) rfl rfl ?_
                        refine g_iaload 200 (gd rfl) rfl (n := 480) rfl (in_ix i103 rfl) (fun z199 e199 => ?_)
                        have i199 := inv_I hIc92 (n := 480) (t := 0) (-1000000) 1000000 rfl (in_ix i103 rfl) rfl e199
                        refine g_i2l 201 (gd rfl) rfl (fun z200 e200 => ?_)
                        have i200 := l_i e200 i199
                        refine g_ladd 202 (gd rfl) rfl (fun z201 e201 => ?_)
                        refine g_lcmp 203 (gd rfl) rfl (fun z202 e202 => ?_)
                        have i202 := lc_in e202
                        refine g_if_ne 206 235 (gd rfl) rfl rfl (fun c203 => ?_) (fun c203 => ?_)
                        · skip
                          have c203a := lc_ne e202 c203
                          refine g_iload 237 (gd rfl) rfl rfl ?_
                          refine g_istore 239 (gd rfl) rfl (Nat.le_of_ble_eq_true rfl) ?_
                          refine g_iinc 242 (gd rfl) rfl rfl (Nat.le_of_ble_eq_true rfl) (fun z239 e239 => ?_)
                          have i239 := in_add (-1) 158 e239 i94 (in_c (-1) rfl) rfl rfl
                          refine g_goto 92 (gd rfl) rfl ?_
                          have n92 : (y78_7).toInt ≤ (x3).toInt := by first | exact n92_0 | (have a0 := oa10 j78_7 j78_5 j78_2 j78_1 ro_109_20 ro_109_19 i94 j92_6 ((in_c 1 rfl)) i103; have a10 := t_add e103 ro_109_19 i94 rfl; have a11 := in_u i239; have a12 := t_add e239 i94 (in_c (-1) rfl) rfl; have a13 := oa2 ((in_c (-1) rfl)) j78_3; have a15 := tx_i2l e200; have a16 := in_u i199; omega)
                          have n92a : 0 ≤ (y78_7).toInt := by first | exact n78_0 | (have a0 := oa10 j78_7 j78_5 j78_2 j78_1 ro_109_20 ro_109_19 i94 j92_6 ((in_c 1 rfl)) i103; have a10 := t_add e103 ro_109_19 i94 rfl; have a11 := in_u i239; have a12 := t_add e239 i94 (in_c (-1) rfl) rfl; have a13 := oa2 ((in_c (-1) rfl)) j78_3; have a15 := tx_i2l e200; have a16 := in_u i199; omega)
                          have n92b : WFN sc92 (x2).toNatClampNeg (y78_4) := by exact g92_0
                          have n92c : bt (y78_4) (y78_5).toNatClampNeg = true := by exact g92_1
                          have n92d : (sc92.1 131 (y78_5).toNatClampNeg).toInt + (y78_7).toInt = (sc92.1 131 (x1).toNatClampNeg).toInt := by exact g92_2
                          have n92e : (x3).toInt < (sc92.1 131 (x1).toNatClampNeg).toInt ∧ (sc92.1 131 (x1).toNatClampNeg).toInt ≤ 1000 := by exact g92_3
                          have n92f : (∀ a : Nat, (z239).toInt < (a : Int) → a < 160 → WOK sc92 (y78_4) (y78_5).toNatClampNeg a → 0 ≤ (y92_6).toInt) ∧ (0 ≤ (y92_6).toInt → WOK sc92 (y78_4) (y78_5).toNatClampNeg (y92_6).toNatClampNeg) := by exact wa_no g92_4 (by have a0 := oa10 j78_7 j78_5 j78_2 j78_1 ro_109_20 ro_109_19 i94 j92_6 ((in_c 1 rfl)) i103; have a10 := t_add e103 ro_109_19 i94 rfl; have a11 := in_u i239; have a12 := t_add e239 i94 (in_c (-1) rfl) rfl; have a13 := oa2 ((in_c (-1) rfl)) j78_3; have a15 := tx_i2l e200; have a16 := in_u i199; omega) (by have a0 := oa10 j78_7 j78_5 j78_2 j78_1 ro_109_20 ro_109_19 i94 j92_6 ((in_c 1 rfl)) i103; have a10 := t_add e103 ro_109_19 i94 rfl; have a11 := in_u i239; have a12 := t_add e239 i94 (in_c (-1) rfl) rfl; have a13 := oa2 ((in_c (-1) rfl)) j78_3; have a15 := tx_i2l e200; have a16 := in_u i199; omega) (fun hw => by have hto := g92_0 z136.toNatClampNeg (bt_yes e137x2 e137x4 i136 c137x6); have hbd := hto.2.1; rw [← e192] at hbd; have hz201 : z201.toInt = z192.toInt + z199.toInt := (by have hw9 := i199; unfold In at hw9; rw [ladd_t e201 (by rw [tx_i2l e200]; omega) (by rw [tx_i2l e200]; omega), tx_i2l e200]); have h1 := hw.2.2.2.2.1; rw [(bs_x (x := z103) (a := y92_8) (show u_109_19 = sc92.2.2.1 109 19 from fr_F e_109_19 hFc92 rfl) (by have a0 := oa10 j78_7 j78_5 j78_2 j78_1 ro_109_20 ro_109_19 i94 j92_6 ((in_c 1 rfl)) i103; have a10 := t_add e103 ro_109_19 i94 rfl; have a11 := in_u i239; have a12 := t_add e239 i94 (in_c (-1) rfl) rfl; have a13 := oa2 ((in_c (-1) rfl)) j78_3; have a15 := tx_i2l e200; have a16 := in_u i199; omega) (by have a0 := oa10 j78_7 j78_5 j78_2 j78_1 ro_109_20 ro_109_19 i94 j92_6 ((in_c 1 rfl)) i103; have a10 := t_add e103 ro_109_19 i94 rfl; have a11 := in_u i239; have a12 := t_add e239 i94 (in_c (-1) rfl) rfl; have a13 := oa2 ((in_c (-1) rfl)) j78_3; have a15 := tx_i2l e200; have a16 := in_u i199; omega) (by have a0 := oa10 j78_7 j78_5 j78_2 j78_1 ro_109_20 ro_109_19 i94 j92_6 ((in_c 1 rfl)) i103; have a10 := t_add e103 ro_109_19 i94 rfl; have a11 := in_u i239; have a12 := t_add e239 i94 (in_c (-1) rfl) rfl; have a13 := oa2 ((in_c (-1) rfl)) j78_3; have a15 := tx_i2l e200; have a16 := in_u i199; omega)), ← e136, ← e199, ← e180, ← e192] at h1; have h := c203a; omega)
                          exact gg_w (by first | exact Nat.le_add_right _ _ | exact gw2 | exact gw3 | exact gwe rfl | exact gwf rfl | exact gwg rfl | exact gwh rfl | omega) (gg_f (gf_cons rfl (gf_cons rfl (gf_cons rfl (gf_cons rfl (gf_cons rfl (gf_cons rfl (gf_cons rfl (gf_cons rfl (gf_cons rfl gf_nil))))))))) (ih92 sc92 y92_6 z239 hIc92 hFc92 (in_w (-1) 159 j92_6 rfl) (in_w (-1) 159 i239 rfl) nz92_4 n92 n92a n92b n92c n92d n92e n92f (m_dn mm92 (t_add e239 i94 (in_c (-1) rfl) rfl) (in_w (-1) (-1) (in_c (-1) rfl) rfl))))
                        · skip
                          have i203 := z_eq 0 0 c203 i202 rfl
                          have c203a := lc_eq e202 c203
                          refine g_aload_n 207 (gd rfl) rfl rfl ?_
                          refine g_getA (q2 := 131) 210 (gd rfl) rfl rfl rfl rfl ?_
                          refine g_iload 212 (gd rfl) rfl rfl ?_
                          refine g_iaload 213 (gd rfl) rfl (n := 32) rfl (in_ix j78_5 rfl) (fun z212 e212 => ?_)
                          refine g_aload_n 214 (gd rfl) rfl rfl ?_
                          refine g_getA (q2 := 131) 217 (gd rfl) rfl rfl rfl rfl ?_
                          refine g_aload_n 218 (gd rfl) rfl rfl ?_
                          refine g_getA (q2 := 114) 221 (gd rfl) rfl rfl rfl rfl ?_
                          refine g_iload 223 (gd rfl) rfl rfl ?_
                          refine g_iaload 224 (gd rfl) rfl (n := 480) rfl (in_ix i103 rfl) (fun z223 e223 => ?_)
                          have q223 : z136 = z223 := (e136).trans e223.symm
                          subst q223
                          refine g_iaload 225 (gd rfl) rfl (n := 32) rfl (in_ix i136 rfl) (fun z224 e224 => ?_)
                          refine g_iconst 1 226 (gd rfl) rfl rfl ?_
                          refine g_iadd 227 (gd rfl) rfl (fun z226 e226 => ?_)
                          refine g_cmp_ne 230 235 (gd rfl) rfl rfl (fun c227 => ?_) (fun c227 => ?_)
                          · skip
                            refine g_iload 237 (gd rfl) rfl rfl ?_
                            refine g_istore 239 (gd rfl) rfl (Nat.le_of_ble_eq_true rfl) ?_
                            refine g_iinc 242 (gd rfl) rfl rfl (Nat.le_of_ble_eq_true rfl) (fun z239 e239 => ?_)
                            have i239 := in_add (-1) 158 e239 i94 (in_c (-1) rfl) rfl rfl
                            refine g_goto 92 (gd rfl) rfl ?_
                            have n92 : (y78_7).toInt ≤ (x3).toInt := by first | exact n92_0 | (have a0 := oa10 j78_7 j78_5 j78_2 j78_1 ro_109_20 ro_109_19 i94 j92_6 ((in_c 1 rfl)) i103; have a10 := t_add e103 ro_109_19 i94 rfl; have a11 := in_u i239; have a12 := t_add e239 i94 (in_c (-1) rfl) rfl; have a13 := oa2 ((in_c (-1) rfl)) j78_3; have a15 := tx_i2l e200; have a16 := in_u i199; omega)
                            have n92a : 0 ≤ (y78_7).toInt := by first | exact n78_0 | (have a0 := oa10 j78_7 j78_5 j78_2 j78_1 ro_109_20 ro_109_19 i94 j92_6 ((in_c 1 rfl)) i103; have a10 := t_add e103 ro_109_19 i94 rfl; have a11 := in_u i239; have a12 := t_add e239 i94 (in_c (-1) rfl) rfl; have a13 := oa2 ((in_c (-1) rfl)) j78_3; have a15 := tx_i2l e200; have a16 := in_u i199; omega)
                            have n92b : WFN sc92 (x2).toNatClampNeg (y78_4) := by exact g92_0
                            have n92c : bt (y78_4) (y78_5).toNatClampNeg = true := by exact g92_1
                            have n92d : (sc92.1 131 (y78_5).toNatClampNeg).toInt + (y78_7).toInt = (sc92.1 131 (x1).toNatClampNeg).toInt := by exact g92_2
                            have n92e : (x3).toInt < (sc92.1 131 (x1).toNatClampNeg).toInt ∧ (sc92.1 131 (x1).toNatClampNeg).toInt ≤ 1000 := by exact g92_3
                            have n92f : (∀ a : Nat, (z239).toInt < (a : Int) → a < 160 → WOK sc92 (y78_4) (y78_5).toNatClampNeg a → 0 ≤ (y92_6).toInt) ∧ (0 ≤ (y92_6).toInt → WOK sc92 (y78_4) (y78_5).toNatClampNeg (y92_6).toNatClampNeg) := by first | exact wa_yes (by have a0 := oa10 j78_7 j78_5 j78_2 j78_1 ro_109_20 ro_109_19 i94 j92_6 ((in_c 1 rfl)) i103; have a10 := t_add e103 ro_109_19 i94 rfl; have a11 := in_u i239; have a12 := t_add e239 i94 (in_c (-1) rfl) rfl; have a13 := oa2 ((in_c (-1) rfl)) j78_3; have a15 := tx_i2l e200; have a16 := in_u i199; omega) (by have hto := g92_0 z136.toNatClampNeg (bt_yes e137x2 e137x4 i136 c137x6); have hbd := hto.2.1; rw [← e192] at hbd; have hz201 : z201.toInt = z192.toInt + z199.toInt := (by have hw9 := i199; unfold In at hw9; rw [ladd_t e201 (by rw [tx_i2l e200]; omega) (by rw [tx_i2l e200]; omega), tx_i2l e200]); have hst := hto.2.2.1; rw [← e224] at hst; have hz226 : z226.toInt = z224.toInt + 1 := t_add (a := 0) (b := 1000) e226 ⟨hst.1, hst.2⟩ (in_c 1 rfl) rfl; unfold WOK; rw [(bs_x (x := z103) (a := y92_8) (show u_109_19 = sc92.2.2.1 109 19 from fr_F e_109_19 hFc92 rfl) (by have a0 := oa10 j78_7 j78_5 j78_2 j78_1 ro_109_20 ro_109_19 i94 j92_6 ((in_c 1 rfl)) i103; have a10 := t_add e103 ro_109_19 i94 rfl; have a11 := in_u i239; have a12 := t_add e239 i94 (in_c (-1) rfl) rfl; have a13 := oa2 ((in_c (-1) rfl)) j78_3; have a15 := tx_i2l e200; have a16 := in_u i199; omega) (by have a0 := oa10 j78_7 j78_5 j78_2 j78_1 ro_109_20 ro_109_19 i94 j92_6 ((in_c 1 rfl)) i103; have a10 := t_add e103 ro_109_19 i94 rfl; have a11 := in_u i239; have a12 := t_add e239 i94 (in_c (-1) rfl) rfl; have a13 := oa2 ((in_c (-1) rfl)) j78_3; have a15 := tx_i2l e200; have a16 := in_u i199; omega) (by have a0 := oa10 j78_7 j78_5 j78_2 j78_1 ro_109_20 ro_109_19 i94 j92_6 ((in_c 1 rfl)) i103; have a10 := t_add e103 ro_109_19 i94 rfl; have a11 := in_u i239; have a12 := t_add e239 i94 (in_c (-1) rfl) rfl; have a13 := oa2 ((in_c (-1) rfl)) j78_3; have a15 := tx_i2l e200; have a16 := in_u i199; omega)), ← e136, ← e112, ← e122, ← e199, ← e154, ← e180, ← e212, ← e224]; exact ⟨c113, by rw [Int32.toInt_inj.mp c125], bt_yes e137x2 e137x4 i136 c137x6, by have h := i159a.2; omega, by rw [show z154 = z192 from (e154.trans e192.symm)]; have h := c203a; omega, by have h := c227; omega⟩) | exact wa_no g92_4 (by have a0 := oa10 j78_7 j78_5 j78_2 j78_1 ro_109_20 ro_109_19 i94 j92_6 ((in_c 1 rfl)) i103; have a10 := t_add e103 ro_109_19 i94 rfl; have a11 := in_u i239; have a12 := t_add e239 i94 (in_c (-1) rfl) rfl; have a13 := oa2 ((in_c (-1) rfl)) j78_3; have a15 := tx_i2l e200; have a16 := in_u i199; omega) (by have a0 := oa10 j78_7 j78_5 j78_2 j78_1 ro_109_20 ro_109_19 i94 j92_6 ((in_c 1 rfl)) i103; have a10 := t_add e103 ro_109_19 i94 rfl; have a11 := in_u i239; have a12 := t_add e239 i94 (in_c (-1) rfl) rfl; have a13 := oa2 ((in_c (-1) rfl)) j78_3; have a15 := tx_i2l e200; have a16 := in_u i199; omega) (fun hw => by have hto := g92_0 z136.toNatClampNeg (bt_yes e137x2 e137x4 i136 c137x6); have hbd := hto.2.1; rw [← e192] at hbd; have hz201 : z201.toInt = z192.toInt + z199.toInt := (by have hw9 := i199; unfold In at hw9; rw [ladd_t e201 (by rw [tx_i2l e200]; omega) (by rw [tx_i2l e200]; omega), tx_i2l e200]); have hst := hto.2.2.1; rw [← e224] at hst; have hz226 : z226.toInt = z224.toInt + 1 := t_add (a := 0) (b := 1000) e226 ⟨hst.1, hst.2⟩ (in_c 1 rfl) rfl; have h1 := hw.2.2.2.2.2; rw [(bs_x (x := z103) (a := y92_8) (show u_109_19 = sc92.2.2.1 109 19 from fr_F e_109_19 hFc92 rfl) (by have a0 := oa10 j78_7 j78_5 j78_2 j78_1 ro_109_20 ro_109_19 i94 j92_6 ((in_c 1 rfl)) i103; have a10 := t_add e103 ro_109_19 i94 rfl; have a11 := in_u i239; have a12 := t_add e239 i94 (in_c (-1) rfl) rfl; have a13 := oa2 ((in_c (-1) rfl)) j78_3; have a15 := tx_i2l e200; have a16 := in_u i199; omega) (by have a0 := oa10 j78_7 j78_5 j78_2 j78_1 ro_109_20 ro_109_19 i94 j92_6 ((in_c 1 rfl)) i103; have a10 := t_add e103 ro_109_19 i94 rfl; have a11 := in_u i239; have a12 := t_add e239 i94 (in_c (-1) rfl) rfl; have a13 := oa2 ((in_c (-1) rfl)) j78_3; have a15 := tx_i2l e200; have a16 := in_u i199; omega) (by have a0 := oa10 j78_7 j78_5 j78_2 j78_1 ro_109_20 ro_109_19 i94 j92_6 ((in_c 1 rfl)) i103; have a10 := t_add e103 ro_109_19 i94 rfl; have a11 := in_u i239; have a12 := t_add e239 i94 (in_c (-1) rfl) rfl; have a13 := oa2 ((in_c (-1) rfl)) j78_3; have a15 := tx_i2l e200; have a16 := in_u i199; omega)), ← e136, ← e212, ← e224] at h1; have h := c227; omega)
                            exact gg_w (by first | exact Nat.le_add_right _ _ | exact gw2 | exact gw3 | exact gwe rfl | exact gwf rfl | exact gwg rfl | exact gwh rfl | omega) (gg_f (gf_cons rfl (gf_cons rfl (gf_cons rfl (gf_cons rfl (gf_cons rfl (gf_cons rfl (gf_cons rfl (gf_cons rfl (gf_cons rfl gf_nil))))))))) (ih92 sc92 y92_6 z239 hIc92 hFc92 (in_w (-1) 159 j92_6 rfl) (in_w (-1) 159 i239 rfl) nz92_4 n92 n92a n92b n92c n92d n92e n92f (m_dn mm92 (t_add e239 i94 (in_c (-1) rfl) rfl) (in_w (-1) (-1) (in_c (-1) rfl) rfl))))
                          · skip
                            refine g_iload 232 (gd rfl) rfl rfl ?_
                            refine g_goto 237 (gd rfl) rfl ?_
                            refine g_istore 239 (gd rfl) rfl (Nat.le_of_ble_eq_true rfl) ?_
                            refine g_iinc 242 (gd rfl) rfl rfl (Nat.le_of_ble_eq_true rfl) (fun z239 e239 => ?_)
                            have i239 := in_add (-1) 158 e239 i94 (in_c (-1) rfl) rfl rfl
                            refine g_goto 92 (gd rfl) rfl ?_
                            have n92 : (y78_7).toInt ≤ (x3).toInt := by first | exact n92_0 | (have a0 := oa10 j78_7 j78_5 j78_2 j78_1 ro_109_20 ro_109_19 i94 j92_6 ((in_c 1 rfl)) i103; have a10 := t_add e103 ro_109_19 i94 rfl; have a11 := in_u i239; have a12 := t_add e239 i94 (in_c (-1) rfl) rfl; have a13 := oa2 ((in_c (-1) rfl)) j78_3; have a15 := tx_i2l e200; have a16 := in_u i199; omega)
                            have n92a : 0 ≤ (y78_7).toInt := by first | exact n78_0 | (have a0 := oa10 j78_7 j78_5 j78_2 j78_1 ro_109_20 ro_109_19 i94 j92_6 ((in_c 1 rfl)) i103; have a10 := t_add e103 ro_109_19 i94 rfl; have a11 := in_u i239; have a12 := t_add e239 i94 (in_c (-1) rfl) rfl; have a13 := oa2 ((in_c (-1) rfl)) j78_3; have a15 := tx_i2l e200; have a16 := in_u i199; omega)
                            have n92b : WFN sc92 (x2).toNatClampNeg (y78_4) := by exact g92_0
                            have n92c : bt (y78_4) (y78_5).toNatClampNeg = true := by exact g92_1
                            have n92d : (sc92.1 131 (y78_5).toNatClampNeg).toInt + (y78_7).toInt = (sc92.1 131 (x1).toNatClampNeg).toInt := by exact g92_2
                            have n92e : (x3).toInt < (sc92.1 131 (x1).toNatClampNeg).toInt ∧ (sc92.1 131 (x1).toNatClampNeg).toInt ≤ 1000 := by exact g92_3
                            have n92f : (∀ a : Nat, (z239).toInt < (a : Int) → a < 160 → WOK sc92 (y78_4) (y78_5).toNatClampNeg a → 0 ≤ (y92_8).toInt) ∧ (0 ≤ (y92_8).toInt → WOK sc92 (y78_4) (y78_5).toNatClampNeg (y92_8).toNatClampNeg) := by first | exact wa_yes (by have a0 := oa10 j78_7 j78_5 j78_2 j78_1 ro_109_20 ro_109_19 i94 j92_6 ((in_c 1 rfl)) i103; have a10 := t_add e103 ro_109_19 i94 rfl; have a11 := in_u i239; have a12 := t_add e239 i94 (in_c (-1) rfl) rfl; have a13 := oa2 ((in_c (-1) rfl)) j78_3; have a15 := tx_i2l e200; have a16 := in_u i199; omega) (by have hto := g92_0 z136.toNatClampNeg (bt_yes e137x2 e137x4 i136 c137x6); have hbd := hto.2.1; rw [← e192] at hbd; have hz201 : z201.toInt = z192.toInt + z199.toInt := (by have hw9 := i199; unfold In at hw9; rw [ladd_t e201 (by rw [tx_i2l e200]; omega) (by rw [tx_i2l e200]; omega), tx_i2l e200]); have hst := hto.2.2.1; rw [← e224] at hst; have hz226 : z226.toInt = z224.toInt + 1 := t_add (a := 0) (b := 1000) e226 ⟨hst.1, hst.2⟩ (in_c 1 rfl) rfl; unfold WOK; rw [(bs_x (x := z103) (a := y92_8) (show u_109_19 = sc92.2.2.1 109 19 from fr_F e_109_19 hFc92 rfl) (by have a0 := oa10 j78_7 j78_5 j78_2 j78_1 ro_109_20 ro_109_19 i94 j92_6 ((in_c 1 rfl)) i103; have a10 := t_add e103 ro_109_19 i94 rfl; have a11 := in_u i239; have a12 := t_add e239 i94 (in_c (-1) rfl) rfl; have a13 := oa2 ((in_c (-1) rfl)) j78_3; have a15 := tx_i2l e200; have a16 := in_u i199; omega) (by have a0 := oa10 j78_7 j78_5 j78_2 j78_1 ro_109_20 ro_109_19 i94 j92_6 ((in_c 1 rfl)) i103; have a10 := t_add e103 ro_109_19 i94 rfl; have a11 := in_u i239; have a12 := t_add e239 i94 (in_c (-1) rfl) rfl; have a13 := oa2 ((in_c (-1) rfl)) j78_3; have a15 := tx_i2l e200; have a16 := in_u i199; omega) (by have a0 := oa10 j78_7 j78_5 j78_2 j78_1 ro_109_20 ro_109_19 i94 j92_6 ((in_c 1 rfl)) i103; have a10 := t_add e103 ro_109_19 i94 rfl; have a11 := in_u i239; have a12 := t_add e239 i94 (in_c (-1) rfl) rfl; have a13 := oa2 ((in_c (-1) rfl)) j78_3; have a15 := tx_i2l e200; have a16 := in_u i199; omega)), ← e136, ← e112, ← e122, ← e199, ← e154, ← e180, ← e212, ← e224]; exact ⟨c113, by rw [Int32.toInt_inj.mp c125], bt_yes e137x2 e137x4 i136 c137x6, by have h := i159a.2; omega, by rw [show z154 = z192 from (e154.trans e192.symm)]; have h := c203a; omega, by have h := c227; omega⟩) | exact wa_no g92_4 (by have a0 := oa10 j78_7 j78_5 j78_2 j78_1 ro_109_20 ro_109_19 i94 j92_6 ((in_c 1 rfl)) i103; have a10 := t_add e103 ro_109_19 i94 rfl; have a11 := in_u i239; have a12 := t_add e239 i94 (in_c (-1) rfl) rfl; have a13 := oa2 ((in_c (-1) rfl)) j78_3; have a15 := tx_i2l e200; have a16 := in_u i199; omega) (by have a0 := oa10 j78_7 j78_5 j78_2 j78_1 ro_109_20 ro_109_19 i94 j92_6 ((in_c 1 rfl)) i103; have a10 := t_add e103 ro_109_19 i94 rfl; have a11 := in_u i239; have a12 := t_add e239 i94 (in_c (-1) rfl) rfl; have a13 := oa2 ((in_c (-1) rfl)) j78_3; have a15 := tx_i2l e200; have a16 := in_u i199; omega) (fun hw => by have hto := g92_0 z136.toNatClampNeg (bt_yes e137x2 e137x4 i136 c137x6); have hbd := hto.2.1; rw [← e192] at hbd; have hz201 : z201.toInt = z192.toInt + z199.toInt := (by have hw9 := i199; unfold In at hw9; rw [ladd_t e201 (by rw [tx_i2l e200]; omega) (by rw [tx_i2l e200]; omega), tx_i2l e200]); have hst := hto.2.2.1; rw [← e224] at hst; have hz226 : z226.toInt = z224.toInt + 1 := t_add (a := 0) (b := 1000) e226 ⟨hst.1, hst.2⟩ (in_c 1 rfl) rfl; have h1 := hw.2.2.2.2.2; rw [(bs_x (x := z103) (a := y92_8) (show u_109_19 = sc92.2.2.1 109 19 from fr_F e_109_19 hFc92 rfl) (by have a0 := oa10 j78_7 j78_5 j78_2 j78_1 ro_109_20 ro_109_19 i94 j92_6 ((in_c 1 rfl)) i103; have a10 := t_add e103 ro_109_19 i94 rfl; have a11 := in_u i239; have a12 := t_add e239 i94 (in_c (-1) rfl) rfl; have a13 := oa2 ((in_c (-1) rfl)) j78_3; have a15 := tx_i2l e200; have a16 := in_u i199; omega) (by have a0 := oa10 j78_7 j78_5 j78_2 j78_1 ro_109_20 ro_109_19 i94 j92_6 ((in_c 1 rfl)) i103; have a10 := t_add e103 ro_109_19 i94 rfl; have a11 := in_u i239; have a12 := t_add e239 i94 (in_c (-1) rfl) rfl; have a13 := oa2 ((in_c (-1) rfl)) j78_3; have a15 := tx_i2l e200; have a16 := in_u i199; omega) (by have a0 := oa10 j78_7 j78_5 j78_2 j78_1 ro_109_20 ro_109_19 i94 j92_6 ((in_c 1 rfl)) i103; have a10 := t_add e103 ro_109_19 i94 rfl; have a11 := in_u i239; have a12 := t_add e239 i94 (in_c (-1) rfl) rfl; have a13 := oa2 ((in_c (-1) rfl)) j78_3; have a15 := tx_i2l e200; have a16 := in_u i199; omega)), ← e136, ← e212, ← e224] at h1; have h := c227; omega)
                            exact gg_w (by first | exact Nat.le_add_right _ _ | exact gw2 | exact gw3 | exact gwe rfl | exact gwf rfl | exact gwg rfl | exact gwh rfl | omega) (gg_f (gf_cons rfl (gf_cons rfl (gf_cons rfl (gf_cons rfl (gf_cons rfl (gf_cons rfl (gf_cons rfl (gf_cons rfl (gf_cons rfl gf_nil))))))))) (ih92 sc92 y92_8 z239 hIc92 hFc92 (in_w (-1) 159 i94 rfl) (in_w (-1) 159 i239 rfl) nz92_4 n92 n92a n92b n92c n92d n92e n92f (m_dn mm92 (t_add e239 i94 (in_c (-1) rfl) rfl) (in_w (-1) (-1) (in_c (-1) rfl) rfl))))
      refine g_iload 80 (gd rfl) rfl rfl ?_
      refine g_iload_n 81 (gd rfl) rfl rfl ?_
      refine g_cmp_gt 84 265 (gd rfl) rfl rfl (fun c81 => ?_) (fun c81 => ?_)
      · skip
        have i81 := r_lt1 0 999 c81 j78_3 j78_7 rfl
        have i81a := r_lt2 1 1000 c81 j78_3 j78_7 rfl
        refine g_iload 267 (gd rfl) rfl rfl ?_
        exact g_ireturn (gd rfl) rfl rfl (hP _ _ ⟨sc78, hIc78, hFc78, y78_6, rfl, rfl, in_w (-1) 159 j78_6 rfl⟩)
      · skip
        refine g_iconst (-1) 85 (gd rfl) rfl rfl ?_
        refine g_istore 87 (gd rfl) rfl (Nat.le_of_ble_eq_true rfl) ?_
        refine g_sipush 159 90 (gd rfl) rfl rfl ?_
        refine g_istore 92 (gd rfl) rfl (Nat.le_of_ble_eq_true rfl) ?_
        have n92 : (y78_7).toInt ≤ (x3).toInt := by have a0 := oa10 j78_2 j78_1 ro_109_20 ro_109_19 j78_7 j78_6 j78_5 ((in_c 159 rfl)) ((in_c (-1) rfl)) j78_3; omega
        have n92a : 0 ≤ (y78_7).toInt := by first | exact n78_0 | (have a0 := oa10 j78_2 j78_1 ro_109_20 ro_109_19 j78_7 j78_6 j78_5 ((in_c 159 rfl)) ((in_c (-1) rfl)) j78_3; omega)
        have n92b : WFN sc78 (x2).toNatClampNeg (y78_4) := by exact g78_0
        have n92c : bt (y78_4) (y78_5).toNatClampNeg = true := by exact g78_1
        have n92d : (sc78.1 131 (y78_5).toNatClampNeg).toInt + (y78_7).toInt = (sc78.1 131 (x1).toNatClampNeg).toInt := by exact g78_2
        have n92e : (x3).toInt < (sc78.1 131 (x1).toNatClampNeg).toInt ∧ (sc78.1 131 (x1).toNatClampNeg).toInt ≤ 1000 := by exact g78_3
        have n92f : (∀ a : Nat, ((Int32.ofInt 159)).toInt < (a : Int) → a < 160 → WOK sc78 (y78_4) (y78_5).toNatClampNeg a → 0 ≤ ((Int32.ofInt (-1))).toInt) ∧ (0 ≤ ((Int32.ofInt (-1))).toInt → WOK sc78 (y78_4) (y78_5).toNatClampNeg ((Int32.ofInt (-1))).toNatClampNeg) := by exact ⟨fun a h1 h2 => (by exfalso; have h0 : (Int32.ofInt 159).toInt = 159 := rfl; omega), fun h => (by exfalso; have h0 : (Int32.ofInt (-1)).toInt = -1 := rfl; omega)⟩
        exact gg_w (by first | exact Nat.le_add_right _ _ | exact gw2 | exact gw3 | exact gwe rfl | exact gwf rfl | exact gwg rfl | exact gwh rfl | omega) (gg_f (gf_cons rfl (gf_cons rfl (gf_cons rfl (gf_cons rfl (gf_cons rfl (gf_cons rfl (gf_cons rfl (gf_cons rfl (gf_cons rfl gf_nil))))))))) (ct92 161 sc78 (Int32.ofInt (-1)) (Int32.ofInt 159) hIc78 hFc78 (in_w (-1) 159 (in_c (-1) rfl) rfl) (in_w (-1) 159 (in_c 159 rfl) rfl) nz78_4 n92 n92a n92b n92c n92d n92e n92f (m_ind 161 (in_w (-1) 159 (in_c 159 rfl) rfl) rfl)))
  refine g_enter2 (k := 316) (N := 147749502) (by first | exact dq1 hd rfl | exact dq0 hd rfl | exact dq2 hd rfl | exact dq3 hd rfl | omega) rfl (Nat.le_of_ble_eq_true rfl) ?_
  refine g_aload_n 1 (gd rfl) rfl rfl ?_
  refine g_aload_n 2 (gd rfl) rfl rfl ?_
  refine g_iload_n 3 (gd rfl) rfl rfl ?_
  refine g_callv (X := _) (As := [.int x1]) (r := [.ref (A 109)]) (b := A 109) (q := 109) 6 (gd rfl) rfl rfl rfl rfl rfl (ww_o rfl) (Nat.le_of_ble_eq_true rfl) (mc := 0) (ms := 0) (Nat.zero_le _) (Nat.zero_le _) (P := fun v u => _) ?_ (fun e u h => h) (fun v u h => h)
  intro po3 xx3 hp3 hx3
  refine g_enter2 (k := 272) (N := 300) (by first | exact dq1 hd rfl | exact dq0 hd rfl | exact dq2 hd rfl | exact dq3 hd rfl | omega) rfl (Nat.le_of_ble_eq_true rfl) ?_
  refine g_iload_n 1 (gd rfl) rfl rfl ?_
  refine g_if_lt 4 16 (gd rfl) rfl rfl (fun c3x1 => ?_) (fun c3x1 => ?_)
  · skip
    have i3x1 := z_lt (-2147483648) (-1) c3x1 (i_rng x1) rfl
    refine g_iconst 0 17 (gd rfl) rfl rfl ?_
    refine g_ireturn (gd rfl) rfl (nb01 (in_w 0 1 (in_c 0 rfl) rfl)) (hp3 _ _ ?_)
    show GG _ _ _ _ _ _ _ _ [.int (Int32.ofInt 0), .ref (A 109)] _ _ _
    refine g_if_eq 9 25 (gd rfl) rfl rfl (fun c6 => ?_) (fun c6 => ?_)
    · skip
      refine g_iconst 0 26 (gd rfl) rfl rfl ?_
      refine g_callv (X := _) (As := [.int (Int32.ofInt 0)]) (r := []) (b := A 109) (q := 109) 29 (gd rfl) rfl rfl rfl rfl rfl (ww_o rfl) (Nat.le_of_ble_eq_true rfl) (mc := 0) (ms := 0) (Nat.zero_le _) (Nat.zero_le _) (P := fun v u => _) ?_ (fun e u h => h) (fun v u h => h)
      intro po26 xx26 hp26 hx26
      refine g_enter2 (k := 271) (N := 300) (by first | exact dq1 hd rfl | exact dq0 hd rfl | exact dq2 hd rfl | exact dq3 hd rfl | omega) rfl (Nat.le_of_ble_eq_true rfl) ?_
      refine g_aload_n 1 (gd rfl) rfl rfl ?_
      refine g_iload_n 2 (gd rfl) rfl rfl ?_
      refine g_iconst 1 3 (gd rfl) rfl rfl ?_
      refine g_callv (X := _) (As := [.int (Int32.ofInt 0), .int (Int32.ofInt 1)]) (r := []) (b := A 109) (q := 109) 6 (gd rfl) rfl rfl rfl rfl rfl (ww_o rfl) (Nat.le_of_ble_eq_true rfl) (mc := 0) (ms := 0) (Nat.zero_le _) (Nat.zero_le _) (P := fun v u => _) ?_ (fun e u h => h) (fun v u h => h)
      intro po26x3 xx26x3 hp26x3 hx26x3
      refine g_enter2 (k := 270) (N := 300) (by first | exact dq1 hd rfl | exact dq0 hd rfl | exact dq2 hd rfl | exact dq3 hd rfl | omega) rfl (Nat.le_of_ble_eq_true rfl) ?_
      refine g_aload_n 1 (gd rfl) rfl rfl ?_
      refine g_iload_n 2 (gd rfl) rfl rfl ?_
      refine g_if_ne 5 9 (gd rfl) rfl rfl (fun c26x3x2 => ?_) (fun c26x3x2 => ?_)
      · skip
        exact zn_ne c26x3x2 (in_c 0 rfl) rfl
      · skip
        refine g_iconst 1 6 (gd rfl) rfl rfl ?_
        refine g_goto 18 (gd rfl) rfl ?_
        refine g_putI 21 (gd rfl) rfl rfl rfl rfl ?_
        have hI26x3x18 := inv_sF (q := 109) (j := 0) hI rfl (in_w 0 2 (in_c 1 rfl) rfl)
        refine g_aload_n 22 (gd rfl) rfl rfl ?_
        refine g_getI 25 (gd rfl) rfl rfl rfl (fun z26x3x22 e26x3x22 => ?_)
        have q26x3x22 : (Int32.ofInt 1) = z26x3x22 := (sF_get).trans e26x3x22.symm
        subst q26x3x22
        refine g_if_le 28 32 (gd rfl) rfl rfl (fun c26x3x25 => ?_) (fun c26x3x25 => ?_)
        · skip
          exact zn_le c26x3x25 (in_c 1 rfl) rfl
        · skip
          refine g_iconst 1 29 (gd rfl) rfl rfl ?_
          refine g_goto 33 (gd rfl) rfl ?_
          refine g_ireturn (gd rfl) rfl (nb01 (in_w 0 1 (in_c 1 rfl) rfl)) (hp26x3 _ _ ?_)
          show GG _ _ _ _ _ _ _ _ [.int (Int32.ofInt 1)] _ _ _
          refine g_ireturn (gd rfl) rfl (nb01 (in_w 0 1 (in_c 1 rfl) rfl)) (hp26 _ _ ?_)
          show GG _ _ _ _ _ _ _ _ [.int (Int32.ofInt 1)] _ _ _
          refine g_if_eq 32 34 (gd rfl) rfl rfl (fun c29 => ?_) (fun c29 => ?_)
          · skip
            exact zn_eq c29 (in_c 1 rfl) rfl
          · skip
            refine g_iconst 0 33 (gd rfl) rfl rfl ?_
            exact g_ireturn (gd rfl) rfl rfl (hP _ _ ⟨(sF s 109 0 (Int32.ofInt 1)), hI26x3x18, (fr_sF rfl fr_rf), (Int32.ofInt 0), rfl, rfl, in_w (-1) 159 (in_c 0 rfl) rfl⟩)
    · skip
      exact zn_ne c6 (in_c 0 rfl) rfl
  · skip
    have i3x1 := z_ge 0 2147483647 c3x1 (i_rng x1) rfl
    refine g_iload_n 5 (gd rfl) rfl rfl ?_
    refine g_aload_n 6 (gd rfl) rfl rfl ?_
    refine g_getI 9 (gd rfl) rfl rfl rfl (fun z3x6 e3x6 => ?_)
    have q3x6 : u_109_20 = z3x6 := (e_109_20).trans e3x6.symm
    subst q3x6
    refine g_cmp_ge 12 16 (gd rfl) rfl rfl (fun c3x9 => ?_) (fun c3x9 => ?_)
    · skip
      refine g_iconst 0 17 (gd rfl) rfl rfl ?_
      refine g_ireturn (gd rfl) rfl (nb01 (in_w 0 1 (in_c 0 rfl) rfl)) (hp3 _ _ ?_)
      show GG _ _ _ _ _ _ _ _ [.int (Int32.ofInt 0), .ref (A 109)] _ _ _
      refine g_if_eq 9 25 (gd rfl) rfl rfl (fun c6 => ?_) (fun c6 => ?_)
      · skip
        refine g_iconst 0 26 (gd rfl) rfl rfl ?_
        refine g_callv (X := _) (As := [.int (Int32.ofInt 0)]) (r := []) (b := A 109) (q := 109) 29 (gd rfl) rfl rfl rfl rfl rfl (ww_o rfl) (Nat.le_of_ble_eq_true rfl) (mc := 0) (ms := 0) (Nat.zero_le _) (Nat.zero_le _) (P := fun v u => _) ?_ (fun e u h => h) (fun v u h => h)
        intro po26 xx26 hp26 hx26
        refine g_enter2 (k := 271) (N := 300) (by first | exact dq1 hd rfl | exact dq0 hd rfl | exact dq2 hd rfl | exact dq3 hd rfl | omega) rfl (Nat.le_of_ble_eq_true rfl) ?_
        refine g_aload_n 1 (gd rfl) rfl rfl ?_
        refine g_iload_n 2 (gd rfl) rfl rfl ?_
        refine g_iconst 1 3 (gd rfl) rfl rfl ?_
        refine g_callv (X := _) (As := [.int (Int32.ofInt 0), .int (Int32.ofInt 1)]) (r := []) (b := A 109) (q := 109) 6 (gd rfl) rfl rfl rfl rfl rfl (ww_o rfl) (Nat.le_of_ble_eq_true rfl) (mc := 0) (ms := 0) (Nat.zero_le _) (Nat.zero_le _) (P := fun v u => _) ?_ (fun e u h => h) (fun v u h => h)
        intro po26x3 xx26x3 hp26x3 hx26x3
        refine g_enter2 (k := 270) (N := 300) (by first | exact dq1 hd rfl | exact dq0 hd rfl | exact dq2 hd rfl | exact dq3 hd rfl | omega) rfl (Nat.le_of_ble_eq_true rfl) ?_
        refine g_aload_n 1 (gd rfl) rfl rfl ?_
        refine g_iload_n 2 (gd rfl) rfl rfl ?_
        refine g_if_ne 5 9 (gd rfl) rfl rfl (fun c26x3x2 => ?_) (fun c26x3x2 => ?_)
        · skip
          exact zn_ne c26x3x2 (in_c 0 rfl) rfl
        · skip
          refine g_iconst 1 6 (gd rfl) rfl rfl ?_
          refine g_goto 18 (gd rfl) rfl ?_
          refine g_putI 21 (gd rfl) rfl rfl rfl rfl ?_
          have hI26x3x18 := inv_sF (q := 109) (j := 0) hI rfl (in_w 0 2 (in_c 1 rfl) rfl)
          refine g_aload_n 22 (gd rfl) rfl rfl ?_
          refine g_getI 25 (gd rfl) rfl rfl rfl (fun z26x3x22 e26x3x22 => ?_)
          have q26x3x22 : (Int32.ofInt 1) = z26x3x22 := (sF_get).trans e26x3x22.symm
          subst q26x3x22
          refine g_if_le 28 32 (gd rfl) rfl rfl (fun c26x3x25 => ?_) (fun c26x3x25 => ?_)
          · skip
            exact zn_le c26x3x25 (in_c 1 rfl) rfl
          · skip
            refine g_iconst 1 29 (gd rfl) rfl rfl ?_
            refine g_goto 33 (gd rfl) rfl ?_
            refine g_ireturn (gd rfl) rfl (nb01 (in_w 0 1 (in_c 1 rfl) rfl)) (hp26x3 _ _ ?_)
            show GG _ _ _ _ _ _ _ _ [.int (Int32.ofInt 1)] _ _ _
            refine g_ireturn (gd rfl) rfl (nb01 (in_w 0 1 (in_c 1 rfl) rfl)) (hp26 _ _ ?_)
            show GG _ _ _ _ _ _ _ _ [.int (Int32.ofInt 1)] _ _ _
            refine g_if_eq 32 34 (gd rfl) rfl rfl (fun c29 => ?_) (fun c29 => ?_)
            · skip
              exact zn_eq c29 (in_c 1 rfl) rfl
            · skip
              refine g_iconst 0 33 (gd rfl) rfl rfl ?_
              exact g_ireturn (gd rfl) rfl rfl (hP _ _ ⟨(sF s 109 0 (Int32.ofInt 1)), hI26x3x18, (fr_sF rfl fr_rf), (Int32.ofInt 0), rfl, rfl, in_w (-1) 159 (in_c 0 rfl) rfl⟩)
      · skip
        exact zn_ne c6 (in_c 0 rfl) rfl
    · skip
      have i3x9 := r_lt1 0 31 c3x9 i3x1 ro_109_20 rfl
      have i3x9a := r_lt2 1 32 c3x9 i3x1 ro_109_20 rfl
      refine g_iconst 1 13 (gd rfl) rfl rfl ?_
      refine g_goto 17 (gd rfl) rfl ?_
      refine g_ireturn (gd rfl) rfl (nb01 (in_w 0 1 (in_c 1 rfl) rfl)) (hp3 _ _ ?_)
      show GG _ _ _ _ _ _ _ _ [.int (Int32.ofInt 1), .ref (A 109)] _ _ _
      refine g_if_eq 9 25 (gd rfl) rfl rfl (fun c6 => ?_) (fun c6 => ?_)
      · skip
        exact zn_eq c6 (in_c 1 rfl) rfl
      · skip
        refine g_aload_n 10 (gd rfl) rfl rfl ?_
        refine g_iload_n 11 (gd rfl) rfl rfl ?_
        refine g_callv (X := _) (As := [.int x2]) (r := [.ref (A 109)]) (b := A 109) (q := 109) 14 (gd rfl) rfl rfl rfl rfl rfl (ww_o rfl) (Nat.le_of_ble_eq_true rfl) (mc := 0) (ms := 0) (Nat.zero_le _) (Nat.zero_le _) (P := fun v u => _) ?_ (fun e u h => h) (fun v u h => h)
        intro po11 xx11 hp11 hx11
        refine g_enter2 (k := 272) (N := 300) (by first | exact dq1 hd rfl | exact dq0 hd rfl | exact dq2 hd rfl | exact dq3 hd rfl | omega) rfl (Nat.le_of_ble_eq_true rfl) ?_
        refine g_iload_n 1 (gd rfl) rfl rfl ?_
        refine g_if_lt 4 16 (gd rfl) rfl rfl (fun c11x1 => ?_) (fun c11x1 => ?_)
        · skip
          have i11x1 := z_lt (-2147483648) (-1) c11x1 (i_rng x2) rfl
          refine g_iconst 0 17 (gd rfl) rfl rfl ?_
          refine g_ireturn (gd rfl) rfl (nb01 (in_w 0 1 (in_c 0 rfl) rfl)) (hp11 _ _ ?_)
          show GG _ _ _ _ _ _ _ _ [.int (Int32.ofInt 0), .ref (A 109)] _ _ _
          refine g_if_eq 17 25 (gd rfl) rfl rfl (fun c14 => ?_) (fun c14 => ?_)
          · skip
            refine g_iconst 0 26 (gd rfl) rfl rfl ?_
            refine g_callv (X := _) (As := [.int (Int32.ofInt 0)]) (r := []) (b := A 109) (q := 109) 29 (gd rfl) rfl rfl rfl rfl rfl (ww_o rfl) (Nat.le_of_ble_eq_true rfl) (mc := 0) (ms := 0) (Nat.zero_le _) (Nat.zero_le _) (P := fun v u => _) ?_ (fun e u h => h) (fun v u h => h)
            intro po26 xx26 hp26 hx26
            refine g_enter2 (k := 271) (N := 300) (by first | exact dq1 hd rfl | exact dq0 hd rfl | exact dq2 hd rfl | exact dq3 hd rfl | omega) rfl (Nat.le_of_ble_eq_true rfl) ?_
            refine g_aload_n 1 (gd rfl) rfl rfl ?_
            refine g_iload_n 2 (gd rfl) rfl rfl ?_
            refine g_iconst 1 3 (gd rfl) rfl rfl ?_
            refine g_callv (X := _) (As := [.int (Int32.ofInt 0), .int (Int32.ofInt 1)]) (r := []) (b := A 109) (q := 109) 6 (gd rfl) rfl rfl rfl rfl rfl (ww_o rfl) (Nat.le_of_ble_eq_true rfl) (mc := 0) (ms := 0) (Nat.zero_le _) (Nat.zero_le _) (P := fun v u => _) ?_ (fun e u h => h) (fun v u h => h)
            intro po26x3 xx26x3 hp26x3 hx26x3
            refine g_enter2 (k := 270) (N := 300) (by first | exact dq1 hd rfl | exact dq0 hd rfl | exact dq2 hd rfl | exact dq3 hd rfl | omega) rfl (Nat.le_of_ble_eq_true rfl) ?_
            refine g_aload_n 1 (gd rfl) rfl rfl ?_
            refine g_iload_n 2 (gd rfl) rfl rfl ?_
            refine g_if_ne 5 9 (gd rfl) rfl rfl (fun c26x3x2 => ?_) (fun c26x3x2 => ?_)
            · skip
              exact zn_ne c26x3x2 (in_c 0 rfl) rfl
            · skip
              refine g_iconst 1 6 (gd rfl) rfl rfl ?_
              refine g_goto 18 (gd rfl) rfl ?_
              refine g_putI 21 (gd rfl) rfl rfl rfl rfl ?_
              have hI26x3x18 := inv_sF (q := 109) (j := 0) hI rfl (in_w 0 2 (in_c 1 rfl) rfl)
              refine g_aload_n 22 (gd rfl) rfl rfl ?_
              refine g_getI 25 (gd rfl) rfl rfl rfl (fun z26x3x22 e26x3x22 => ?_)
              have q26x3x22 : (Int32.ofInt 1) = z26x3x22 := (sF_get).trans e26x3x22.symm
              subst q26x3x22
              refine g_if_le 28 32 (gd rfl) rfl rfl (fun c26x3x25 => ?_) (fun c26x3x25 => ?_)
              · skip
                exact zn_le c26x3x25 (in_c 1 rfl) rfl
              · skip
                refine g_iconst 1 29 (gd rfl) rfl rfl ?_
                refine g_goto 33 (gd rfl) rfl ?_
                refine g_ireturn (gd rfl) rfl (nb01 (in_w 0 1 (in_c 1 rfl) rfl)) (hp26x3 _ _ ?_)
                show GG _ _ _ _ _ _ _ _ [.int (Int32.ofInt 1)] _ _ _
                refine g_ireturn (gd rfl) rfl (nb01 (in_w 0 1 (in_c 1 rfl) rfl)) (hp26 _ _ ?_)
                show GG _ _ _ _ _ _ _ _ [.int (Int32.ofInt 1)] _ _ _
                refine g_if_eq 32 34 (gd rfl) rfl rfl (fun c29 => ?_) (fun c29 => ?_)
                · skip
                  exact zn_eq c29 (in_c 1 rfl) rfl
                · skip
                  refine g_iconst 0 33 (gd rfl) rfl rfl ?_
                  exact g_ireturn (gd rfl) rfl rfl (hP _ _ ⟨(sF s 109 0 (Int32.ofInt 1)), hI26x3x18, (fr_sF rfl fr_rf), (Int32.ofInt 0), rfl, rfl, in_w (-1) 159 (in_c 0 rfl) rfl⟩)
          · skip
            exact zn_ne c14 (in_c 0 rfl) rfl
        · skip
          have i11x1 := z_ge 0 2147483647 c11x1 (i_rng x2) rfl
          refine g_iload_n 5 (gd rfl) rfl rfl ?_
          refine g_aload_n 6 (gd rfl) rfl rfl ?_
          refine g_getI 9 (gd rfl) rfl rfl rfl (fun z11x6 e11x6 => ?_)
          have q11x6 : u_109_20 = z11x6 := (e_109_20).trans e11x6.symm
          subst q11x6
          refine g_cmp_ge 12 16 (gd rfl) rfl rfl (fun c11x9 => ?_) (fun c11x9 => ?_)
          · skip
            have i11x9 := r_le2 1 2147483647 c11x9 i3x9a i11x1 rfl
            refine g_iconst 0 17 (gd rfl) rfl rfl ?_
            refine g_ireturn (gd rfl) rfl (nb01 (in_w 0 1 (in_c 0 rfl) rfl)) (hp11 _ _ ?_)
            show GG _ _ _ _ _ _ _ _ [.int (Int32.ofInt 0), .ref (A 109)] _ _ _
            refine g_if_eq 17 25 (gd rfl) rfl rfl (fun c14 => ?_) (fun c14 => ?_)
            · skip
              refine g_iconst 0 26 (gd rfl) rfl rfl ?_
              refine g_callv (X := _) (As := [.int (Int32.ofInt 0)]) (r := []) (b := A 109) (q := 109) 29 (gd rfl) rfl rfl rfl rfl rfl (ww_o rfl) (Nat.le_of_ble_eq_true rfl) (mc := 0) (ms := 0) (Nat.zero_le _) (Nat.zero_le _) (P := fun v u => _) ?_ (fun e u h => h) (fun v u h => h)
              intro po26 xx26 hp26 hx26
              refine g_enter2 (k := 271) (N := 300) (by first | exact dq1 hd rfl | exact dq0 hd rfl | exact dq2 hd rfl | exact dq3 hd rfl | omega) rfl (Nat.le_of_ble_eq_true rfl) ?_
              refine g_aload_n 1 (gd rfl) rfl rfl ?_
              refine g_iload_n 2 (gd rfl) rfl rfl ?_
              refine g_iconst 1 3 (gd rfl) rfl rfl ?_
              refine g_callv (X := _) (As := [.int (Int32.ofInt 0), .int (Int32.ofInt 1)]) (r := []) (b := A 109) (q := 109) 6 (gd rfl) rfl rfl rfl rfl rfl (ww_o rfl) (Nat.le_of_ble_eq_true rfl) (mc := 0) (ms := 0) (Nat.zero_le _) (Nat.zero_le _) (P := fun v u => _) ?_ (fun e u h => h) (fun v u h => h)
              intro po26x3 xx26x3 hp26x3 hx26x3
              refine g_enter2 (k := 270) (N := 300) (by first | exact dq1 hd rfl | exact dq0 hd rfl | exact dq2 hd rfl | exact dq3 hd rfl | omega) rfl (Nat.le_of_ble_eq_true rfl) ?_
              refine g_aload_n 1 (gd rfl) rfl rfl ?_
              refine g_iload_n 2 (gd rfl) rfl rfl ?_
              refine g_if_ne 5 9 (gd rfl) rfl rfl (fun c26x3x2 => ?_) (fun c26x3x2 => ?_)
              · skip
                exact zn_ne c26x3x2 (in_c 0 rfl) rfl
              · skip
                refine g_iconst 1 6 (gd rfl) rfl rfl ?_
                refine g_goto 18 (gd rfl) rfl ?_
                refine g_putI 21 (gd rfl) rfl rfl rfl rfl ?_
                have hI26x3x18 := inv_sF (q := 109) (j := 0) hI rfl (in_w 0 2 (in_c 1 rfl) rfl)
                refine g_aload_n 22 (gd rfl) rfl rfl ?_
                refine g_getI 25 (gd rfl) rfl rfl rfl (fun z26x3x22 e26x3x22 => ?_)
                have q26x3x22 : (Int32.ofInt 1) = z26x3x22 := (sF_get).trans e26x3x22.symm
                subst q26x3x22
                refine g_if_le 28 32 (gd rfl) rfl rfl (fun c26x3x25 => ?_) (fun c26x3x25 => ?_)
                · skip
                  exact zn_le c26x3x25 (in_c 1 rfl) rfl
                · skip
                  refine g_iconst 1 29 (gd rfl) rfl rfl ?_
                  refine g_goto 33 (gd rfl) rfl ?_
                  refine g_ireturn (gd rfl) rfl (nb01 (in_w 0 1 (in_c 1 rfl) rfl)) (hp26x3 _ _ ?_)
                  show GG _ _ _ _ _ _ _ _ [.int (Int32.ofInt 1)] _ _ _
                  refine g_ireturn (gd rfl) rfl (nb01 (in_w 0 1 (in_c 1 rfl) rfl)) (hp26 _ _ ?_)
                  show GG _ _ _ _ _ _ _ _ [.int (Int32.ofInt 1)] _ _ _
                  refine g_if_eq 32 34 (gd rfl) rfl rfl (fun c29 => ?_) (fun c29 => ?_)
                  · skip
                    exact zn_eq c29 (in_c 1 rfl) rfl
                  · skip
                    refine g_iconst 0 33 (gd rfl) rfl rfl ?_
                    exact g_ireturn (gd rfl) rfl rfl (hP _ _ ⟨(sF s 109 0 (Int32.ofInt 1)), hI26x3x18, (fr_sF rfl fr_rf), (Int32.ofInt 0), rfl, rfl, in_w (-1) 159 (in_c 0 rfl) rfl⟩)
            · skip
              exact zn_ne c14 (in_c 0 rfl) rfl
          · skip
            have i11x9 := r_lt1 0 31 c11x9 i11x1 i3x9a rfl
            refine g_iconst 1 13 (gd rfl) rfl rfl ?_
            refine g_goto 17 (gd rfl) rfl ?_
            refine g_ireturn (gd rfl) rfl (nb01 (in_w 0 1 (in_c 1 rfl) rfl)) (hp11 _ _ ?_)
            show GG _ _ _ _ _ _ _ _ [.int (Int32.ofInt 1), .ref (A 109)] _ _ _
            refine g_if_eq 17 25 (gd rfl) rfl rfl (fun c14 => ?_) (fun c14 => ?_)
            · skip
              exact zn_eq c14 (in_c 1 rfl) rfl
            · skip
              refine g_iload_n 18 (gd rfl) rfl rfl ?_
              refine g_if_lt 21 25 (gd rfl) rfl rfl (fun c18 => ?_) (fun c18 => ?_)
              · skip
                have i18 := z_lt (-2147483648) (-1) c18 (i_rng x3) rfl
                refine g_iconst 0 26 (gd rfl) rfl rfl ?_
                refine g_callv (X := _) (As := [.int (Int32.ofInt 0)]) (r := []) (b := A 109) (q := 109) 29 (gd rfl) rfl rfl rfl rfl rfl (ww_o rfl) (Nat.le_of_ble_eq_true rfl) (mc := 0) (ms := 0) (Nat.zero_le _) (Nat.zero_le _) (P := fun v u => _) ?_ (fun e u h => h) (fun v u h => h)
                intro po26 xx26 hp26 hx26
                refine g_enter2 (k := 271) (N := 300) (by first | exact dq1 hd rfl | exact dq0 hd rfl | exact dq2 hd rfl | exact dq3 hd rfl | omega) rfl (Nat.le_of_ble_eq_true rfl) ?_
                refine g_aload_n 1 (gd rfl) rfl rfl ?_
                refine g_iload_n 2 (gd rfl) rfl rfl ?_
                refine g_iconst 1 3 (gd rfl) rfl rfl ?_
                refine g_callv (X := _) (As := [.int (Int32.ofInt 0), .int (Int32.ofInt 1)]) (r := []) (b := A 109) (q := 109) 6 (gd rfl) rfl rfl rfl rfl rfl (ww_o rfl) (Nat.le_of_ble_eq_true rfl) (mc := 0) (ms := 0) (Nat.zero_le _) (Nat.zero_le _) (P := fun v u => _) ?_ (fun e u h => h) (fun v u h => h)
                intro po26x3 xx26x3 hp26x3 hx26x3
                refine g_enter2 (k := 270) (N := 300) (by first | exact dq1 hd rfl | exact dq0 hd rfl | exact dq2 hd rfl | exact dq3 hd rfl | omega) rfl (Nat.le_of_ble_eq_true rfl) ?_
                refine g_aload_n 1 (gd rfl) rfl rfl ?_
                refine g_iload_n 2 (gd rfl) rfl rfl ?_
                refine g_if_ne 5 9 (gd rfl) rfl rfl (fun c26x3x2 => ?_) (fun c26x3x2 => ?_)
                · skip
                  exact zn_ne c26x3x2 (in_c 0 rfl) rfl
                · skip
                  refine g_iconst 1 6 (gd rfl) rfl rfl ?_
                  refine g_goto 18 (gd rfl) rfl ?_
                  refine g_putI 21 (gd rfl) rfl rfl rfl rfl ?_
                  have hI26x3x18 := inv_sF (q := 109) (j := 0) hI rfl (in_w 0 2 (in_c 1 rfl) rfl)
                  refine g_aload_n 22 (gd rfl) rfl rfl ?_
                  refine g_getI 25 (gd rfl) rfl rfl rfl (fun z26x3x22 e26x3x22 => ?_)
                  have q26x3x22 : (Int32.ofInt 1) = z26x3x22 := (sF_get).trans e26x3x22.symm
                  subst q26x3x22
                  refine g_if_le 28 32 (gd rfl) rfl rfl (fun c26x3x25 => ?_) (fun c26x3x25 => ?_)
                  · skip
                    exact zn_le c26x3x25 (in_c 1 rfl) rfl
                  · skip
                    refine g_iconst 1 29 (gd rfl) rfl rfl ?_
                    refine g_goto 33 (gd rfl) rfl ?_
                    refine g_ireturn (gd rfl) rfl (nb01 (in_w 0 1 (in_c 1 rfl) rfl)) (hp26x3 _ _ ?_)
                    show GG _ _ _ _ _ _ _ _ [.int (Int32.ofInt 1)] _ _ _
                    refine g_ireturn (gd rfl) rfl (nb01 (in_w 0 1 (in_c 1 rfl) rfl)) (hp26 _ _ ?_)
                    show GG _ _ _ _ _ _ _ _ [.int (Int32.ofInt 1)] _ _ _
                    refine g_if_eq 32 34 (gd rfl) rfl rfl (fun c29 => ?_) (fun c29 => ?_)
                    · skip
                      exact zn_eq c29 (in_c 1 rfl) rfl
                    · skip
                      refine g_iconst 0 33 (gd rfl) rfl rfl ?_
                      exact g_ireturn (gd rfl) rfl rfl (hP _ _ ⟨(sF s 109 0 (Int32.ofInt 1)), hI26x3x18, (fr_sF rfl fr_rf), (Int32.ofInt 0), rfl, rfl, in_w (-1) 159 (in_c 0 rfl) rfl⟩)
              · skip
                have i18 := z_ge 0 2147483647 c18 (i_rng x3) rfl
                refine g_iconst 1 22 (gd rfl) rfl rfl ?_
                refine g_goto 26 (gd rfl) rfl ?_
                refine g_callv (X := _) (As := [.int (Int32.ofInt 1)]) (r := []) (b := A 109) (q := 109) 29 (gd rfl) rfl rfl rfl rfl rfl (ww_o rfl) (Nat.le_of_ble_eq_true rfl) (mc := 0) (ms := 0) (Nat.zero_le _) (Nat.zero_le _) (P := fun v u => _) ?_ (fun e u h => h) (fun v u h => h)
                intro po26 xx26 hp26 hx26
                refine g_enter2 (k := 271) (N := 300) (by first | exact dq1 hd rfl | exact dq0 hd rfl | exact dq2 hd rfl | exact dq3 hd rfl | omega) rfl (Nat.le_of_ble_eq_true rfl) ?_
                refine g_aload_n 1 (gd rfl) rfl rfl ?_
                refine g_iload_n 2 (gd rfl) rfl rfl ?_
                refine g_iconst 1 3 (gd rfl) rfl rfl ?_
                refine g_callv (X := _) (As := [.int (Int32.ofInt 1), .int (Int32.ofInt 1)]) (r := []) (b := A 109) (q := 109) 6 (gd rfl) rfl rfl rfl rfl rfl (ww_o rfl) (Nat.le_of_ble_eq_true rfl) (mc := 0) (ms := 0) (Nat.zero_le _) (Nat.zero_le _) (P := fun v u => _) ?_ (fun e u h => h) (fun v u h => h)
                intro po26x3 xx26x3 hp26x3 hx26x3
                refine g_enter2 (k := 270) (N := 300) (by first | exact dq1 hd rfl | exact dq0 hd rfl | exact dq2 hd rfl | exact dq3 hd rfl | omega) rfl (Nat.le_of_ble_eq_true rfl) ?_
                refine g_aload_n 1 (gd rfl) rfl rfl ?_
                refine g_iload_n 2 (gd rfl) rfl rfl ?_
                refine g_if_ne 5 9 (gd rfl) rfl rfl (fun c26x3x2 => ?_) (fun c26x3x2 => ?_)
                · skip
                  refine g_iload_n 10 (gd rfl) rfl rfl ?_
                  refine g_if_ne 13 17 (gd rfl) rfl rfl (fun c26x3x10 => ?_) (fun c26x3x10 => ?_)
                  · skip
                    refine g_iconst 0 18 (gd rfl) rfl rfl ?_
                    refine g_putI 21 (gd rfl) rfl rfl rfl rfl ?_
                    have hI26x3x18 := inv_sF (q := 109) (j := 0) hI rfl (in_w 0 2 (in_c 0 rfl) rfl)
                    refine g_aload_n 22 (gd rfl) rfl rfl ?_
                    refine g_getI 25 (gd rfl) rfl rfl rfl (fun z26x3x22 e26x3x22 => ?_)
                    have q26x3x22 : (Int32.ofInt 0) = z26x3x22 := (sF_get).trans e26x3x22.symm
                    subst q26x3x22
                    refine g_if_le 28 32 (gd rfl) rfl rfl (fun c26x3x25 => ?_) (fun c26x3x25 => ?_)
                    · skip
                      refine g_iconst 0 33 (gd rfl) rfl rfl ?_
                      refine g_ireturn (gd rfl) rfl (nb01 (in_w 0 1 (in_c 0 rfl) rfl)) (hp26x3 _ _ ?_)
                      show GG _ _ _ _ _ _ _ _ [.int (Int32.ofInt 0)] _ _ _
                      refine g_ireturn (gd rfl) rfl (nb01 (in_w 0 1 (in_c 0 rfl) rfl)) (hp26 _ _ ?_)
                      show GG _ _ _ _ _ _ _ _ [.int (Int32.ofInt 0)] _ _ _
                      refine g_if_eq 32 34 (gd rfl) rfl rfl (fun c29 => ?_) (fun c29 => ?_)
                      · skip
                        refine g_aload_n 35 (gd rfl) rfl rfl ?_
                        refine g_iload_n 36 (gd rfl) rfl rfl ?_
                        refine g_iload_n 37 (gd rfl) rfl rfl ?_
                        have p37 : (x1).toInt < nmx (sF s 109 0 (Int32.ofInt 0)) ∧ (x2).toInt < nmx (sF s 109 0 (Int32.ofInt 0)) := by exact ⟨by unfold nmx; rw [← (show u_109_20 = (sF s 109 0 (Int32.ofInt 0)).2.2.1 109 20 from sF_ne rfl (e_109_20))]; have a0 := oa6 i11x9 i3x9 i3x9a ro_109_19 i18 ((in_c 0 rfl)); omega, by unfold nmx; rw [← (show u_109_20 = (sF s 109 0 (Int32.ofInt 0)).2.2.1 109 20 from sF_ne rfl (e_109_20))]; have a0 := oa6 i11x9 i3x9 i3x9a ro_109_19 i18 ((in_c 0 rfl)); omega⟩
                        refine g_callv (X := _) (As := [.int x1, .int x2]) (r := []) (b := A 109) (q := 109) 40 (gd rfl) rfl rfl rfl rfl rfl (ww_o rfl) (Nat.le_of_ble_eq_true rfl) (Nat.zero_le _) (Nat.zero_le _) (k_314 (by first | exact dq1 hd rfl | exact dq0 hd rfl | exact dq2 hd rfl | exact dq3 hd rfl | omega) hI26x3x18 (in_w 0 31 i3x9 rfl) (in_w 0 31 i11x9 rfl) p37) (fun e u h => h) (fun v u h => ?_)
                        obtain ⟨s37, hI37, hF37, z37, rfl, rfl, i37, p37a⟩ := h
                        show GG _ _ _ _ _ _ _ _ [.int z37] _ _ _
                        refine g_istore 42 (gd rfl) rfl (Nat.le_of_ble_eq_true rfl) ?_
                        refine g_iload 44 (gd rfl) rfl rfl ?_
                        refine g_if_eq 47 67 (gd rfl) rfl rfl (fun c44 => ?_) (fun c44 => ?_)
                        · skip
                          have i44 := z_eq 0 0 c44 i37 rfl
                          refine g_iconst (-1) 68 (gd rfl) rfl rfl ?_
                          exact g_ireturn (gd rfl) rfl rfl (hP _ _ ⟨s37, hI37, (fr_tr rfl (fr_sF rfl fr_rf) hF37), (Int32.ofInt (-1)), rfl, rfl, in_w (-1) 159 (in_c (-1) rfl) rfl⟩)
                        · skip
                          refine g_aload_n 48 (gd rfl) rfl rfl ?_
                          refine g_iload_n 49 (gd rfl) rfl rfl ?_
                          refine g_iload 51 (gd rfl) rfl rfl ?_
                          have p51 : BTS s37 (x2).toNatClampNeg (z37) := by exact (p37a (by have h := c44; omega)).1
                          refine g_callv (X := _) (As := [.int x2, .int z37]) (r := []) (b := A 109) (q := 109) 54 (gd rfl) rfl rfl rfl rfl rfl (ww_o rfl) (Nat.le_of_ble_eq_true rfl) (Nat.zero_le _) (Nat.zero_le _) (k_312 (by first | exact dq1 hd rfl | exact dq0 hd rfl | exact dq2 hd rfl | exact dq3 hd rfl | omega) hI37 (in_w 0 31 i11x9 rfl) p51) (fun e u h => h) (fun v u h => ?_)
                          obtain ⟨s51, hI51, hF51, z51, rfl, rfl, i51, p51a⟩ := h
                          show GG _ _ _ _ _ _ _ _ [.int z51] _ _ _
                          refine g_if_eq 57 67 (gd rfl) rfl rfl (fun c54 => ?_) (fun c54 => ?_)
                          · skip
                            have i54 := z_eq 0 0 c54 i51 rfl
                            refine g_iconst (-1) 68 (gd rfl) rfl rfl ?_
                            exact g_ireturn (gd rfl) rfl rfl (hP _ _ ⟨s51, hI51, (fr_tr rfl (fr_tr rfl (fr_sF rfl fr_rf) hF37) hF51), (Int32.ofInt (-1)), rfl, rfl, in_w (-1) 159 (in_c (-1) rfl) rfl⟩)
                          · skip
                            have i54 := z_ne 1 1 c54 i51 rfl
                            refine g_iload_n 58 (gd rfl) rfl rfl ?_
                            refine g_aload_n 59 (gd rfl) rfl rfl ?_
                            refine g_getA (q2 := 131) 62 (gd rfl) rfl rfl rfl rfl ?_
                            refine g_iload_n 63 (gd rfl) rfl rfl ?_
                            refine g_iaload 64 (gd rfl) rfl (n := 32) rfl (in_ix i3x9 rfl) (fun z63 e63 => ?_)
                            refine g_cmp_lt 67 69 (gd rfl) rfl rfl (fun c64 => ?_) (fun c64 => ?_)
                            · skip
                              have i64 := r_lt1 0 2147483646 c64 i18 (i_rng z63) rfl
                              have i64a := r_lt2 1 2147483647 c64 i18 (i_rng z63) rfl
                              refine g_iload_n 70 (gd rfl) rfl rfl ?_
                              refine g_istore 72 (gd rfl) rfl (Nat.le_of_ble_eq_true rfl) ?_
                              refine g_iconst (-1) 73 (gd rfl) rfl rfl ?_
                              refine g_istore 75 (gd rfl) rfl (Nat.le_of_ble_eq_true rfl) ?_
                              refine g_iconst 0 76 (gd rfl) rfl rfl ?_
                              refine g_istore 78 (gd rfl) rfl (Nat.le_of_ble_eq_true rfl) ?_
                              have n78 : 0 ≤ ((Int32.ofInt 0)).toInt := by have a0 := oa7 i11x9 i3x9 i3x9a ro_109_19 ((in_c 0 rfl)) ((in_c (-1) rfl)) i64; omega
                              have n78a : WFN s51 (x2).toNatClampNeg (z37) := by exact p51a (by have h := c54; omega)
                              have n78b : bt (z37) (x1).toNatClampNeg = true := by exact (p37a (by have h := c44; omega)).2
                              have n78c : (s51.1 131 (x1).toNatClampNeg).toInt + ((Int32.ofInt 0)).toInt = (s51.1 131 (x1).toNatClampNeg).toInt := by have h0 : (Int32.ofInt 0).toInt = 0 := rfl; omega
                              have n78d : (x3).toInt < (s51.1 131 (x1).toNatClampNeg).toInt ∧ (s51.1 131 (x1).toNatClampNeg).toInt ≤ 1000 := by exact ⟨by rw [← e63]; exact c64, ((p51a (by have h := c54; omega)) _ (p37a (by have h := c44; omega)).2).2.2.1.2⟩
                              exact gg_w (by first | exact Nat.le_of_ble_eq_true rfl | omega) (gg_f (gf_cons rfl (gf_cons rfl (gf_cons rfl (gf_cons rfl (gf_cons rfl (gf_cons rfl (gf_cons rfl (gf_cons rfl gf_nil)))))))) (ct78 1001 s51 z37 x1 (Int32.ofInt (-1)) (Int32.ofInt 0) hI51 (fr_tr rfl (fr_tr rfl (fr_sF rfl fr_rf) hF37) hF51) (in_w 0 31 i3x9 rfl) (in_w 0 31 i11x9 rfl) (in_w 0 2147483646 i64 rfl) (in_w 0 31 i3x9 rfl) (in_w (-1) 159 (in_c (-1) rfl) rfl) (in_w 0 1000 (in_c 0 rfl) rfl) c44 n78 n78a n78b n78c n78d (m_in 1001 (in_w 0 1000 (in_c 0 rfl) rfl) rfl)))
                            · skip
                              refine g_iconst (-1) 68 (gd rfl) rfl rfl ?_
                              exact g_ireturn (gd rfl) rfl rfl (hP _ _ ⟨s51, hI51, (fr_tr rfl (fr_tr rfl (fr_sF rfl fr_rf) hF37) hF51), (Int32.ofInt (-1)), rfl, rfl, in_w (-1) 159 (in_c (-1) rfl) rfl⟩)
                      · skip
                        exact zn_ne c29 (in_c 0 rfl) rfl
                    · skip
                      exact zn_gt c26x3x25 (in_c 0 rfl) rfl
                  · skip
                    exact zn_eq c26x3x10 (in_c 1 rfl) rfl
                · skip
                  exact zn_eq c26x3x2 (in_c 1 rfl) rfl

def fm_321 : FM := ([134], [135], [(109, 40)], [])
/-- GraphHouseModel.second -/
theorem k_321 {Z : AmZ} {A : Nat → Nat} {s : GS} {ex : va_W} {d : Nat} {X : AmX} {x1 : Int32} {x2 : Int32} {x3 : Int32} {x4 : Int32} (hd : 5 ≤ d) (hI : Inv s) (h1 : In x1 0 159) (h2 : In x2 0 31) (h4 : In x4 0 31) : GC Z d 321 [.ref (A 109), .int x1, .int x2, .int x3, .int x4] (WW Z A s ++ ex) 0 0 (fun v u => ∃ t : GS, Inv t ∧ Fr fm_321 s t ∧ v = none ∧ u = WW Z A t ++ ex) X := by
  intro post xp hP hX
  obtain ⟨u_109_19, e_109_19⟩ : ∃ w, w = s.2.2.1 109 19 := ⟨_, rfl⟩
  have ro_109_19 := inv_F hI 0 160 rfl e_109_19
  have ct3 : ∀ (k3 : Nat) (sc3 : GS) (y3_5 : Int32), Inv sc3 → Fr fm_321 s sc3 → (In y3_5 0 160) → 160 - (y3_5).toInt < (k3 : Int) → GG Z (d - 1) 321 post (gx xp) (1 + k3 * 900) 3 (fun j => xlook j [(0, .ref (A 109)), (1, .int x1), (2, .int x2), (3, .int x3), (4, .int x4), (5, .int y3_5)]) [] (WW Z A sc3 ++ ex) 0 0 := by
    intro k3
    induction k3 with
    | zero => intro sc3 y3_5 hIc3 hFc3 j3_5 mm3; exact m_no mm3 j3_5 rfl
    | succ k3 ih3 =>
      intro sc3 y3_5 hIc3 hFc3 j3_5 mm3
      refine gg_w (M := 1 + k3 * 900 + 900) gws ?_
      refine g_iload 5 (gd rfl) rfl rfl ?_
      refine g_sipush 160 8 (gd rfl) rfl rfl ?_
      refine g_cmp_ge 11 89 (gd rfl) rfl rfl (fun c8 => ?_) (fun c8 => ?_)
      · skip
        have i8 := r_le2 160 160 c8 (in_c 160 rfl) j3_5 rfl
        exact g_return (gd rfl) rfl (hP _ _ ⟨sc3, hIc3, hFc3, rfl, rfl⟩)
      · skip
        have i8 := r_lt1 0 159 c8 j3_5 (in_c 160 rfl) rfl
        refine g_aload_n 12 (gd rfl) rfl rfl ?_
        refine g_getI 15 (gd rfl) rfl rfl rfl (fun z12 e12 => ?_)
        have i12 := inv_F hIc3 0 2001 rfl e12
        refine g_sipush 2000 18 (gd rfl) rfl rfl ?_
        refine g_cmp_gt 21 89 (gd rfl) rfl rfl (fun c18 => ?_) (fun c18 => ?_)
        · skip
          have i18 := r_lt2 2001 2001 c18 (in_c 2000 rfl) i12 rfl
          exact g_return (gd rfl) rfl (hP _ _ ⟨sc3, hIc3, hFc3, rfl, rfl⟩)
        · skip
          have i18 := r_le1 0 2000 c18 i12 (in_c 2000 rfl) rfl
          refine g_aload_n 22 (gd rfl) rfl rfl ?_
          refine g_iload 24 (gd rfl) rfl rfl ?_
          refine g_iload_n 25 (gd rfl) rfl rfl ?_
          refine g_iload_n 26 (gd rfl) rfl rfl ?_
          refine g_callv (X := _) (As := [.int y3_5, .int x2, .int x3]) (r := []) (b := A 109) (q := 109) 29 (gd rfl) rfl rfl rfl rfl rfl (ww_o rfl) (Nat.le_of_ble_eq_true rfl) (mc := 0) (ms := 0) (Nat.zero_le _) (Nat.zero_le _) (P := fun v u => _) ?_ (fun e u h => h) (fun v u h => h)
          intro po26 xx26 hp26 hx26
          refine g_enter2 (k := 319) (N := 300) (by first | exact dq1 hd rfl | exact dq0 hd rfl | exact dq2 hd rfl | exact dq3 hd rfl | omega) rfl (Nat.le_of_ble_eq_true rfl) ?_
          refine g_aload_n 1 (gd rfl) rfl rfl ?_
          refine g_getA (q2 := 112) 4 (gd rfl) rfl rfl rfl rfl ?_
          refine g_aload_n 5 (gd rfl) rfl rfl ?_
          refine g_getI 8 (gd rfl) rfl rfl rfl (fun z26x5 e26x5 => ?_)
          have q26x5 : u_109_19 = z26x5 := (fr_F e_109_19 hFc3 rfl).trans e26x5.symm
          subst q26x5
          refine g_iload_n 9 (gd rfl) rfl rfl ?_
          refine g_iadd 10 (gd rfl) rfl (fun z26x9 e26x9 => ?_)
          have i26x9 := in_add 0 319 e26x9 ro_109_19 i8 rfl rfl
          refine g_baload 11 (gd rfl) rfl (n := 480) rfl (in_ix i26x9 rfl) (fun z26x10 e26x10 => ?_)
          have i26x10 := inv_I hIc3 (n := 480) (t := 3) 0 1 rfl (in_ix i26x9 rfl) rfl e26x10
          refine g_if_eq 14 51 (gd rfl) rfl rfl (fun c26x11 => ?_) (fun c26x11 => ?_)
          · skip
            have i26x11 := z_eq 0 0 c26x11 i26x10 rfl
            refine g_iconst 0 52 (gd rfl) rfl rfl ?_
            refine g_ireturn (gd rfl) rfl (nb01 (in_w 0 1 (in_c 0 rfl) rfl)) (hp26 _ _ ?_)
            show GG _ _ _ _ _ _ _ _ [.int (Int32.ofInt 0)] _ _ _
            refine g_if_eq 32 83 (gd rfl) rfl rfl (fun c29 => ?_) (fun c29 => ?_)
            · skip
              refine g_iinc 86 (gd rfl) rfl rfl (Nat.le_of_ble_eq_true rfl) (fun z83 e83 => ?_)
              have i83 := in_add 1 160 e83 i8 (in_c 1 rfl) rfl rfl
              refine g_goto 3 (gd rfl) rfl ?_
              exact gg_w (by first | exact Nat.le_add_right _ _ | exact gw2 | exact gw3 | exact gwe rfl | exact gwf rfl | exact gwg rfl | exact gwh rfl | omega) (gg_f (gf_cons rfl (gf_cons rfl (gf_cons rfl (gf_cons rfl (gf_cons rfl (gf_cons rfl gf_nil)))))) (ih3 sc3 z83 hIc3 hFc3 (in_w 0 160 i83 rfl) (m_up mm3 (t_add e83 i8 (in_c 1 rfl) rfl) (in_w 1 1 (in_c 1 rfl) rfl))))
            · skip
              exact zn_ne c29 (in_c 0 rfl) rfl
          · skip
            have i26x11 := z_ne 1 1 c26x11 i26x10 rfl
            refine g_aload_n 15 (gd rfl) rfl rfl ?_
            refine g_getA (q2 := 113) 18 (gd rfl) rfl rfl rfl rfl ?_
            refine g_aload_n 19 (gd rfl) rfl rfl ?_
            refine g_getI 22 (gd rfl) rfl rfl rfl (fun z26x19 e26x19 => ?_)
            have q26x19 : u_109_19 = z26x19 := (fr_F e_109_19 hFc3 rfl).trans e26x19.symm
            subst q26x19
            refine g_iload_n 23 (gd rfl) rfl rfl ?_
            refine g_iadd 24 (gd rfl) rfl (fun z26x23 e26x23 => ?_)
            have i26x23 := in_add 0 319 e26x23 ro_109_19 i8 rfl rfl
            refine g_iaload 25 (gd rfl) rfl (n := 480) rfl (in_ix i26x23 rfl) (fun z26x24 e26x24 => ?_)
            have i26x24 := inv_I hIc3 (n := 480) (t := 0) 0 31 rfl (in_ix i26x23 rfl) rfl e26x24
            refine g_iload_n 26 (gd rfl) rfl rfl ?_
            refine g_cmp_ne 29 51 (gd rfl) rfl rfl (fun c26x26 => ?_) (fun c26x26 => ?_)
            · skip
              refine g_iconst 0 52 (gd rfl) rfl rfl ?_
              refine g_ireturn (gd rfl) rfl (nb01 (in_w 0 1 (in_c 0 rfl) rfl)) (hp26 _ _ ?_)
              show GG _ _ _ _ _ _ _ _ [.int (Int32.ofInt 0)] _ _ _
              refine g_if_eq 32 83 (gd rfl) rfl rfl (fun c29 => ?_) (fun c29 => ?_)
              · skip
                refine g_iinc 86 (gd rfl) rfl rfl (Nat.le_of_ble_eq_true rfl) (fun z83 e83 => ?_)
                have i83 := in_add 1 160 e83 i8 (in_c 1 rfl) rfl rfl
                refine g_goto 3 (gd rfl) rfl ?_
                exact gg_w (by first | exact Nat.le_add_right _ _ | exact gw2 | exact gw3 | exact gwe rfl | exact gwf rfl | exact gwg rfl | exact gwh rfl | omega) (gg_f (gf_cons rfl (gf_cons rfl (gf_cons rfl (gf_cons rfl (gf_cons rfl (gf_cons rfl gf_nil)))))) (ih3 sc3 z83 hIc3 hFc3 (in_w 0 160 i83 rfl) (m_up mm3 (t_add e83 i8 (in_c 1 rfl) rfl) (in_w 1 1 (in_c 1 rfl) rfl))))
              · skip
                exact zn_ne c29 (in_c 0 rfl) rfl
            · skip
              refine g_iload_n 30 (gd rfl) rfl rfl ?_
              refine g_aload_n 31 (gd rfl) rfl rfl ?_
              refine g_getA (q2 := 114) 34 (gd rfl) rfl rfl rfl rfl ?_
              refine g_aload_n 35 (gd rfl) rfl rfl ?_
              refine g_getI 38 (gd rfl) rfl rfl rfl (fun z26x35 e26x35 => ?_)
              have q26x35 : u_109_19 = z26x35 := (fr_F e_109_19 hFc3 rfl).trans e26x35.symm
              subst q26x35
              refine g_iload_n 39 (gd rfl) rfl rfl ?_
              refine g_iadd 40 (gd rfl) rfl (fun z26x39 e26x39 => ?_)
              have i26x39 := in_add 0 319 e26x39 ro_109_19 i8 rfl rfl
              refine g_iaload 41 (gd rfl) rfl (n := 480) rfl (in_ix i26x39 rfl) (fun z26x40 e26x40 => ?_)
              have i26x40 := inv_I hIc3 (n := 480) (t := 0) 0 31 rfl (in_ix i26x39 rfl) rfl e26x40
              refine g_calls (As := [.int x3, .int z26x40]) (r := []) 44 (gd rfl) rfl rfl rfl rfl rfl (Nat.le_of_ble_eq_true rfl) (mc := 0) (ms := 0) (Nat.zero_le _) (Nat.zero_le _) (P := fun v u => _) ?_ (fun v u h => h)
              intro po26x41 xx26x41 hp26x41 hx26x41
              refine g_enter2 (k := 311) (N := 300) (by first | exact dq1 hd rfl | exact dq0 hd rfl | exact dq2 hd rfl | exact dq3 hd rfl | omega) rfl (Nat.le_of_ble_eq_true rfl) ?_
              refine g_iload_n 1 (gd rfl) rfl rfl ?_
              refine g_iload_n 2 (gd rfl) rfl rfl ?_
              refine g_ishr 3 (gd rfl) rfl (fun z26x41x2 e26x41x2 => ?_)
              refine g_iconst 1 4 (gd rfl) rfl rfl ?_
              refine g_iand 5 (gd rfl) rfl (fun z26x41x4 e26x41x4 => ?_)
              have i26x41x4 := in_and2 e26x41x4 (in_c 1 rfl) rfl
              refine g_iconst 1 6 (gd rfl) rfl rfl ?_
              refine g_cmp_ne 9 13 (gd rfl) rfl rfl (fun c26x41x6 => ?_) (fun c26x41x6 => ?_)
              · skip
                have i26x41x6 := r_ne1 0 0 c26x41x6 i26x41x4 (in_c 1 rfl) rfl
                refine g_iconst 0 14 (gd rfl) rfl rfl ?_
                refine g_ireturn (gd rfl) rfl (nb01 (in_w 0 1 (in_c 0 rfl) rfl)) (hp26x41 _ _ ?_)
                show GG _ _ _ _ _ _ _ _ [.int (Int32.ofInt 0)] _ _ _
                refine g_if_ne 47 51 (gd rfl) rfl rfl (fun c26x44 => ?_) (fun c26x44 => ?_)
                · skip
                  exact zn_ne c26x44 (in_c 0 rfl) rfl
                · skip
                  refine g_iconst 1 48 (gd rfl) rfl rfl ?_
                  refine g_goto 52 (gd rfl) rfl ?_
                  refine g_ireturn (gd rfl) rfl (nb01 (in_w 0 1 (in_c 1 rfl) rfl)) (hp26 _ _ ?_)
                  show GG _ _ _ _ _ _ _ _ [.int (Int32.ofInt 1)] _ _ _
                  refine g_if_eq 32 83 (gd rfl) rfl rfl (fun c29 => ?_) (fun c29 => ?_)
                  · skip
                    exact zn_eq c29 (in_c 1 rfl) rfl
                  · skip
                    refine g_aload_n 33 (gd rfl) rfl rfl ?_
                    refine g_getA (q2 := 114) 36 (gd rfl) rfl rfl rfl rfl ?_
                    refine g_aload_n 37 (gd rfl) rfl rfl ?_
                    refine g_getI 40 (gd rfl) rfl rfl rfl (fun z37 e37 => ?_)
                    have q37 : u_109_19 = z37 := (fr_F e_109_19 hFc3 rfl).trans e37.symm
                    subst q37
                    refine g_iload 42 (gd rfl) rfl rfl ?_
                    refine g_iadd 43 (gd rfl) rfl (fun z42 e42 => ?_)
                    have i42 := in_add 0 319 e42 ro_109_19 i8 rfl rfl
                    refine g_iaload 44 (gd rfl) rfl (n := 480) rfl (in_ix i42 rfl) (fun z43 e43 => ?_)
                    have i43 := inv_I hIc3 (n := 480) (t := 0) 0 31 rfl (in_ix i42 rfl) rfl e43
                    refine g_istore 46 (gd rfl) rfl (Nat.le_of_ble_eq_true rfl) ?_
                    refine g_iload 48 (gd rfl) rfl rfl ?_
                    refine g_iload 50 (gd rfl) rfl rfl ?_
                    refine g_cmp_ne 53 66 (gd rfl) rfl rfl (fun c50 => ?_) (fun c50 => ?_)
                    · skip
                      refine g_aload_n 67 (gd rfl) rfl rfl ?_
                      refine g_iload_n 68 (gd rfl) rfl rfl ?_
                      refine g_iload 70 (gd rfl) rfl rfl ?_
                      refine g_iload 72 (gd rfl) rfl rfl ?_
                      refine g_iload_n 73 (gd rfl) rfl rfl ?_
                      refine g_iconst 1 74 (gd rfl) rfl rfl ?_
                      refine g_iload 76 (gd rfl) rfl rfl ?_
                      refine g_ishl 77 (gd rfl) rfl (fun z76 e76 => ?_)
                      refine g_ior 78 (gd rfl) rfl (fun z77 e77 => ?_)
                      refine g_iload 80 (gd rfl) rfl rfl ?_
                      refine g_callv (X := _) (As := [.int x1, .int y3_5, .int z43, .int z77, .int x4]) (r := []) (b := A 109) (q := 109) 83 (gd rfl) rfl rfl rfl rfl rfl (ww_o rfl) (Nat.le_of_ble_eq_true rfl) (Nat.zero_le _) (Nat.zero_le _) (k_322 (by first | exact dq1 hd rfl | exact dq0 hd rfl | exact dq2 hd rfl | exact dq3 hd rfl | omega) hIc3 (in_w 0 159 h1 rfl) (in_w 0 159 i8 rfl) (in_w 0 31 i43 rfl) (in_w 0 31 h4 rfl)) (fun e u h => h) (fun v u h => ?_)
                      obtain ⟨s80, hI80, hF80, rfl, rfl⟩ := h
                      show GG _ _ _ _ _ _ _ _ [] _ _ _
                      refine g_iinc 86 (gd rfl) rfl rfl (Nat.le_of_ble_eq_true rfl) (fun z83 e83 => ?_)
                      have i83 := in_add 1 160 e83 i8 (in_c 1 rfl) rfl rfl
                      refine g_goto 3 (gd rfl) rfl ?_
                      exact gg_w (by first | exact Nat.le_add_right _ _ | exact gw2 | exact gw3 | exact gwe rfl | exact gwf rfl | exact gwg rfl | exact gwh rfl | omega) (gg_f (gf_cons rfl (gf_cons rfl (gf_cons rfl (gf_cons rfl (gf_cons rfl (gf_cons rfl gf_nil)))))) (ih3 s80 z83 hI80 (fr_tr rfl hFc3 hF80) (in_w 0 160 i83 rfl) (m_up mm3 (t_add e83 i8 (in_c 1 rfl) rfl) (in_w 1 1 (in_c 1 rfl) rfl))))
                    · skip
                      refine g_aload_n 54 (gd rfl) rfl rfl ?_
                      refine g_iconst 2 55 (gd rfl) rfl rfl ?_
                      refine g_iload_n 56 (gd rfl) rfl rfl ?_
                      refine g_iload 58 (gd rfl) rfl rfl ?_
                      refine g_iconst 0 59 (gd rfl) rfl rfl ?_
                      refine g_iconst 0 60 (gd rfl) rfl rfl ?_
                      refine g_callv (X := _) (As := [.int (Int32.ofInt 2), .int x1, .int y3_5, .int (Int32.ofInt 0), .int (Int32.ofInt 0)]) (r := []) (b := A 109) (q := 109) 63 (gd rfl) rfl rfl rfl rfl rfl (ww_o rfl) (Nat.le_of_ble_eq_true rfl) (Nat.zero_le _) (Nat.zero_le _) (k_318 (by first | exact dq1 hd rfl | exact dq0 hd rfl | exact dq2 hd rfl | exact dq3 hd rfl | omega) hIc3 (in_w 1 4 (in_c 2 rfl) rfl) (in_w 0 159 h1 rfl) (in_w 0 159 i8 rfl) (in_w 0 159 (in_c 0 rfl) rfl) (in_w 0 159 (in_c 0 rfl) rfl)) (fun e u h => h) (fun v u h => ?_)
                      obtain ⟨s60, hI60, hF60, rfl, rfl⟩ := h
                      show GG _ _ _ _ _ _ _ _ [] _ _ _
                      refine g_goto 83 (gd rfl) rfl ?_
                      refine g_iinc 86 (gd rfl) rfl rfl (Nat.le_of_ble_eq_true rfl) (fun z83 e83 => ?_)
                      have i83 := in_add 1 160 e83 i8 (in_c 1 rfl) rfl rfl
                      refine g_goto 3 (gd rfl) rfl ?_
                      exact gg_w (by first | exact Nat.le_add_right _ _ | exact gw2 | exact gw3 | exact gwe rfl | exact gwf rfl | exact gwg rfl | exact gwh rfl | omega) (gg_f (gf_cons rfl (gf_cons rfl (gf_cons rfl (gf_cons rfl (gf_cons rfl (gf_cons rfl gf_nil)))))) (ih3 s60 z83 hI60 (fr_tr rfl hFc3 hF60) (in_w 0 160 i83 rfl) (m_up mm3 (t_add e83 i8 (in_c 1 rfl) rfl) (in_w 1 1 (in_c 1 rfl) rfl))))
              · skip
                have i26x41x6 := r_eq1 1 1 c26x41x6 i26x41x4 (in_c 1 rfl) rfl
                refine g_iconst 1 10 (gd rfl) rfl rfl ?_
                refine g_goto 14 (gd rfl) rfl ?_
                refine g_ireturn (gd rfl) rfl (nb01 (in_w 0 1 (in_c 1 rfl) rfl)) (hp26x41 _ _ ?_)
                show GG _ _ _ _ _ _ _ _ [.int (Int32.ofInt 1)] _ _ _
                refine g_if_ne 47 51 (gd rfl) rfl rfl (fun c26x44 => ?_) (fun c26x44 => ?_)
                · skip
                  refine g_iconst 0 52 (gd rfl) rfl rfl ?_
                  refine g_ireturn (gd rfl) rfl (nb01 (in_w 0 1 (in_c 0 rfl) rfl)) (hp26 _ _ ?_)
                  show GG _ _ _ _ _ _ _ _ [.int (Int32.ofInt 0)] _ _ _
                  refine g_if_eq 32 83 (gd rfl) rfl rfl (fun c29 => ?_) (fun c29 => ?_)
                  · skip
                    refine g_iinc 86 (gd rfl) rfl rfl (Nat.le_of_ble_eq_true rfl) (fun z83 e83 => ?_)
                    have i83 := in_add 1 160 e83 i8 (in_c 1 rfl) rfl rfl
                    refine g_goto 3 (gd rfl) rfl ?_
                    exact gg_w (by first | exact Nat.le_add_right _ _ | exact gw2 | exact gw3 | exact gwe rfl | exact gwf rfl | exact gwg rfl | exact gwh rfl | omega) (gg_f (gf_cons rfl (gf_cons rfl (gf_cons rfl (gf_cons rfl (gf_cons rfl (gf_cons rfl gf_nil)))))) (ih3 sc3 z83 hIc3 hFc3 (in_w 0 160 i83 rfl) (m_up mm3 (t_add e83 i8 (in_c 1 rfl) rfl) (in_w 1 1 (in_c 1 rfl) rfl))))
                  · skip
                    exact zn_ne c29 (in_c 0 rfl) rfl
                · skip
                  exact zn_eq c26x44 (in_c 1 rfl) rfl
  refine g_enter2 (k := 321) (N := 145801) (by first | exact dq1 hd rfl | exact dq0 hd rfl | exact dq2 hd rfl | exact dq3 hd rfl | omega) rfl (Nat.le_of_ble_eq_true rfl) ?_
  refine g_iconst 0 1 (gd rfl) rfl rfl ?_
  refine g_istore 3 (gd rfl) rfl (Nat.le_of_ble_eq_true rfl) ?_
  exact gg_w (by first | exact Nat.le_of_ble_eq_true rfl | omega) (gg_f (gf_cons rfl (gf_cons rfl (gf_cons rfl (gf_cons rfl (gf_cons rfl (gf_cons rfl gf_nil)))))) (ct3 161 s (Int32.ofInt 0) hI fr_rf (in_w 0 160 (in_c 0 rfl) rfl) (m_in 161 (in_w 0 160 (in_c 0 rfl) rfl) rfl)))

def fm_352 : FM := ([132, 148], [147], [], [])
/-- GraphHouseModel.most -/
theorem k_352 {Z : AmZ} {A : Nat → Nat} {s : GS} {ex : va_W} {d : Nat} {X : AmX} {x1 : Int32} {x2 : Int32} (hd : 2 ≤ d) (hI : Inv s) (h1 : In x1 0 31) (h2 : In x2 0 31) (q_0 : (x2).toInt < (s.2.2.1 109 20).toInt ∧ (x1).toInt ≠ (x2).toInt) : GC Z d 352 [.ref (A 109), .int x1, .int x2] (WW Z A s ++ ex) 0 0 (fun v u => ∃ t : GS, Inv t ∧ Fr fm_352 s t ∧ ∃ z : Int64, v = some (.long z) ∧ u = WW Z A t ++ ex) X := by
  intro post xp hP hX
  have ct29 : ∀ (k29 : Nat) (sc29 : GS) (y29_3 : Int64), Inv sc29 → Fr fm_352 s sc29 → (SR sc29 (x1).toInt) → (FB sc29 (sc29.2.1 147)) → (RS sc29 (x1).toInt (sc29.2.1 147) 160).toNat < k29 → GG Z (d - 1) 352 post (gx xp) (1 + k29 * 62102) 29 (fun j => xlook j [(0, .ref (A 109)), (1, .int x1), (2, .int x2), (3, .long y29_3)]) [] (WW Z A sc29 ++ ex) 0 0 := by
    intro k29
    induction k29 with
    | zero => intro sc29 y29_3 hIc29 hFc29 g29_0 g29_1 mm29; exact absurd mm29 (Nat.not_lt_zero _)
    | succ k29 ih29 =>
      intro sc29 y29_3 hIc29 hFc29 g29_0 g29_1 mm29
      refine gg_w (M := 1 + k29 * 62102 + 62102) gws ?_
      have ct91 : ∀ (k91 : Nat) (sc91 : GS) (y91_5 : Int64) (y91_7 : Int32), Inv sc91 → Fr fm_352 s sc91 → (In y91_7 0 31) → (sc91.1 = sc29.1 ∧ sc91.2.2.1 = sc29.2.2.1) → (PBW sc29 (x1).toInt (y91_5).toInt (x2).toNatClampNeg (sc91.2.1 147) (y91_7).toNatClampNeg) → (1 ≤ (y91_5).toInt ∧ (y91_5).toInt ≤ 1000000000) → rkf sc29 (x1).toInt (y91_7).toNatClampNeg < k91 → GG Z (d - 1) 352 post (gx xp) (1 + k29 * 62102 + 1 + k91 * 900) 91 (fun j => xlook j [(0, .ref (A 109)), (1, .int x1), (2, .int x2), (3, .long y29_3), (5, .long y91_5), (7, .int y91_7)]) [] (WW Z A sc91 ++ ex) 0 0 := by
        intro k91
        induction k91 with
        | zero => intro sc91 y91_5 y91_7 hIc91 hFc91 j91_7 g91_0 g91_1 g91_2 mm91; exact absurd mm91 (Nat.not_lt_zero _)
        | succ k91 ih91 =>
          intro sc91 y91_5 y91_7 hIc91 hFc91 j91_7 g91_0 g91_1 g91_2 mm91
          refine gg_w (M := 1 + k29 * 62102 + 1 + k91 * 900 + 900) gws ?_
          refine g_iload 93 (gd rfl) rfl rfl ?_
          refine g_iload_n 94 (gd rfl) rfl rfl ?_
          refine g_cmp_eq 97 120 (gd rfl) rfl rfl (fun c94 => ?_) (fun c94 => ?_)
          · skip
            refine g_lload_n 121 (gd rfl) rfl rfl ?_
            refine g_lload 123 (gd rfl) rfl rfl ?_
            refine g_ladd 124 (gd rfl) rfl (fun z123 e123 => ?_)
            refine g_lstore_n 125 (gd rfl) rfl (Nat.le_of_ble_eq_true rfl) ?_
            refine g_aload_n 126 (gd rfl) rfl rfl ?_
            refine g_iload_n 127 (gd rfl) rfl rfl ?_
            refine g_callv (X := _) (As := [.int x1]) (r := []) (b := A 109) (q := 109) 130 (gd rfl) rfl rfl rfl rfl rfl (ww_o rfl) (Nat.le_of_ble_eq_true rfl) (Nat.zero_le _) (Nat.zero_le _) (k_348 (by first | exact dq1 hd rfl | exact dq0 hd rfl | exact dq2 hd rfl | exact dq3 hd rfl | omega) hIc91 (in_w 0 31 h1 rfl)) (fun e u h => h) (fun v u h => ?_)
            obtain ⟨s127, hI127, hF127, rfl, rfl, p127⟩ := h
            show GG _ _ _ _ _ _ _ _ [] _ _ _
            refine g_goto 29 (gd rfl) rfl ?_
            have n29 : SR s127 (x1).toInt := by first | exact p26 | exact p127
            have n29a : FB s127 (s127.2.1 147) := by first | exact (ms_e hIc29 g91_0.1 g91_0.2 g91_1 (by show ((y91_7.toInt.toNat : Nat) : Int) = _; have a0 := oa3 h2 h1 j91_7; omega) g91_2.1 (hF127.2.1 147 rfl) (hF127.1 112 rfl) (hF127.1 113 rfl) (hF127.1 114 rfl) (hF127.1 116 rfl) (hF127.2.2.1 109 19 rfl) mm29).1 | (intro a ha ht; rw [hF26.2.1 147 rfl]; have h0 := g2_0 a (by have a0 := oa3 h2 h1 j91_7; omega); have hr := (arc_n hI127 ha ht).2.2.1; omega)
            have m29 : (RS s127 (x1).toInt (s127.2.1 147) 160).toNat < k29 := by exact (ms_e hIc29 g91_0.1 g91_0.2 g91_1 (by show ((y91_7.toInt.toNat : Nat) : Int) = _; have a0 := oa3 h2 h1 j91_7; omega) g91_2.1 (hF127.2.1 147 rfl) (hF127.1 112 rfl) (hF127.1 113 rfl) (hF127.1 114 rfl) (hF127.1 116 rfl) (hF127.2.2.1 109 19 rfl) mm29).2
            exact gg_w (by first | exact Nat.le_add_right _ _ | exact gw2 | exact gw3 | exact gwe rfl | exact gwf rfl | exact gwg rfl | exact gwh rfl | omega) (gg_f (gf_cons rfl (gf_cons rfl (gf_cons rfl (gf_cons rfl gf_nil)))) (ih29  s127 z123 hI127 (fr_tr rfl hFc91 hF127) n29 n29a m29))
          · skip
            have hx91 : ((y91_7.toNatClampNeg : Nat) : Int) ≠ x1.toInt := (by show ((y91_7.toInt.toNat : Nat) : Int) ≠ _; have a0 := oa3 h2 h1 j91_7; omega)
            have hev := ev_bf hIc29 (rkf_ok g29_0) (pbw_nd g91_1 hx91) hx91
            refine g_aload_n 98 (gd rfl) rfl rfl ?_
            refine g_iload 100 (gd rfl) rfl rfl ?_
            have p100 : BE sc91 (y91_7).toNatClampNeg := by exact be_cg g91_0.1 hev.1
            refine g_callv (X := _) (As := [.int y91_7]) (r := []) (b := A 109) (q := 109) 103 (gd rfl) rfl rfl rfl rfl rfl (ww_o rfl) (Nat.le_of_ble_eq_true rfl) (Nat.zero_le _) (Nat.zero_le _) (k_349 (by first | exact dq1 hd rfl | exact dq0 hd rfl | exact dq2 hd rfl | exact dq3 hd rfl | omega) hIc91 (in_w 0 31 j91_7 rfl) p100) (fun e u h => h) (fun v u h => ?_)
            obtain ⟨z100, rfl, rfl, i100, p100a⟩ := h
            show GG _ _ _ _ _ _ _ _ [.int z100] _ _ _
            refine g_istore 105 (gd rfl) rfl (Nat.le_of_ble_eq_true rfl) ?_
            refine g_aload_n 106 (gd rfl) rfl rfl ?_
            refine g_iload 108 (gd rfl) rfl rfl ?_
            refine g_lload 110 (gd rfl) rfl rfl ?_
            have p110 : BE sc91 (y91_7).toNatClampNeg := by exact be_cg g91_0.1 hev.1
            refine g_callv (X := _) (As := [.int y91_7, .long y91_5]) (r := []) (b := A 109) (q := 109) 113 (gd rfl) rfl rfl rfl rfl rfl (ww_o rfl) (Nat.le_of_ble_eq_true rfl) (Nat.zero_le _) (Nat.zero_le _) (k_351 (by first | exact dq1 hd rfl | exact dq0 hd rfl | exact dq2 hd rfl | exact dq3 hd rfl | omega) hIc91 (in_w 0 31 j91_7 rfl) p110) (fun e u h => h) (fun v u h => ?_)
            obtain ⟨s110, hI110, hF110, rfl, rfl, p110a⟩ := h
            show GG _ _ _ _ _ _ _ _ [] _ _ _
            refine g_iload 115 (gd rfl) rfl rfl ?_
            refine g_istore 117 (gd rfl) rfl (Nat.le_of_ble_eq_true rfl) ?_
            refine g_goto 91 (gd rfl) rfl ?_
            have n91 : s110.1 = sc29.1 ∧ s110.2.2.1 = sc29.2.2.1 := by first | exact ⟨(funext fun q => hF110.1 q rfl).trans g91_0.1, (funext fun q => funext fun k => hF110.2.2.1 q k rfl).trans g91_0.2⟩ | (rw [g46_0]; exact ⟨rfl, rfl⟩)
            have n91a : PBW sc29 (x1).toInt (y91_5).toInt (x2).toNatClampNeg (s110.2.1 147) (z100).toNatClampNeg := by first | exact pbw_pu hIc29 g29_0 g91_0.1 g91_0.2 g91_1 hx91 g91_2.1 g91_2.2 p110a p100a | (obtain ⟨k, hk1, hk2⟩ := g46_1; rw [g46_0]; exact pbw_0 hk2 hk1 (by show ((y46_7.toInt.toNat : Nat) : Int) = _; have a0 := oa4 h2 h1 j91_7 i100; omega) (by show ((x2.toInt.toNat : Nat) : Int) ≠ _; have hq := q_0; have a0 := oa4 h2 h1 j91_7 i100; omega) g29_1)
            have n91b : 1 ≤ (y91_5).toInt ∧ (y91_5).toInt ≤ 1000000000 := by first | exact g91_2 | exact g46_3
            have m91 : rkf sc29 (x1).toInt (z100).toNatClampNeg < k91 := by rw [p100a, bf_cg g91_0.1 g91_0.2]; have hl := hev.2.2.1; have hm := mm91; omega
            exact gg_w (by first | exact Nat.le_add_right _ _ | exact gw2 | exact gw3 | exact gwe rfl | exact gwf rfl | exact gwg rfl | exact gwh rfl | omega) (gg_f (gf_cons rfl (gf_cons rfl (gf_cons rfl (gf_cons rfl (gf_cons rfl (gf_cons rfl gf_nil)))))) (ih91  s110 y91_5 z100 hI110 (fr_tr rfl hFc91 hF110) (in_w 0 31 i100 rfl) n91 n91a n91b m91))
      have ct46 : ∀ (k46 : Nat) (sc46 : GS) (y46_5 : Int64) (y46_7 : Int32), Inv sc46 → Fr fm_352 s sc46 → (In y46_7 0 31) → (sc46 = sc29) → (∃ k, (y46_7).toNatClampNeg = it sc29 (x2).toNatClampNeg k ∧ WY sc29 (x1).toInt (y46_5).toInt (x2).toNatClampNeg k) → (ND sc29 (y46_7).toNatClampNeg) → (1 ≤ (y46_5).toInt ∧ (y46_5).toInt ≤ 1000000000) → rkf sc29 (x1).toInt (y46_7).toNatClampNeg < k46 → GG Z (d - 1) 352 post (gx xp) (1 + k29 * 62102 + 28802 + k46 * 900) 46 (fun j => xlook j [(0, .ref (A 109)), (1, .int x1), (2, .int x2), (3, .long y29_3), (5, .long y46_5), (7, .int y46_7)]) [] (WW Z A sc46 ++ ex) 0 0 := by
        intro k46
        induction k46 with
        | zero => intro sc46 y46_5 y46_7 hIc46 hFc46 j46_7 g46_0 g46_1 g46_2 g46_3 mm46; exact absurd mm46 (Nat.not_lt_zero _)
        | succ k46 ih46 =>
          intro sc46 y46_5 y46_7 hIc46 hFc46 j46_7 g46_0 g46_1 g46_2 g46_3 mm46
          refine gg_w (M := 1 + k29 * 62102 + 28802 + k46 * 900 + 900) gws ?_
          refine g_iload 48 (gd rfl) rfl rfl ?_
          refine g_iload_n 49 (gd rfl) rfl rfl ?_
          refine g_cmp_eq 52 88 (gd rfl) rfl rfl (fun c49 => ?_) (fun c49 => ?_)
          · skip
            refine g_iload_n 89 (gd rfl) rfl rfl ?_
            refine g_istore 91 (gd rfl) rfl (Nat.le_of_ble_eq_true rfl) ?_
            have n91 : sc46.1 = sc29.1 ∧ sc46.2.2.1 = sc29.2.2.1 := by first | exact ⟨(funext fun q => hF110.1 q rfl).trans g91_0.1, (funext fun q => funext fun k => hF110.2.2.1 q k rfl).trans g91_0.2⟩ | (rw [g46_0]; exact ⟨rfl, rfl⟩)
            have n91a : PBW sc29 (x1).toInt (y46_5).toInt (x2).toNatClampNeg (sc46.2.1 147) (x2).toNatClampNeg := by first | exact pbw_pu hIc29 g29_0 g91_0.1 g91_0.2 g91_1 hx91 g91_2.1 g91_2.2 p110a p100a | (obtain ⟨k, hk1, hk2⟩ := g46_1; rw [g46_0]; exact pbw_0 hk2 hk1 (by show ((y46_7.toInt.toNat : Nat) : Int) = _; have a0 := oa3 h2 h1 j46_7; omega) (by show ((x2.toInt.toNat : Nat) : Int) ≠ _; have hq := q_0; have a0 := oa3 h2 h1 j46_7; omega) g29_1)
            have n91b : 1 ≤ (y46_5).toInt ∧ (y46_5).toInt ≤ 1000000000 := by first | exact g91_2 | exact g46_3
            have m91 : rkf sc29 (x1).toInt (x2).toNatClampNeg < 32 := by have hnd := pbw_nd n91a (by show ((x2.toInt.toNat : Nat) : Int) ≠ _; have hq := q_0; have a0 := oa3 h2 h1 j46_7; omega); exact (rkf_ok g29_0).1 _ hnd.1 hnd.2.2
            exact gg_w (by first | exact Nat.le_add_right _ _ | exact gw2 | exact gw3 | exact gwe rfl | exact gwf rfl | exact gwg rfl | exact gwh rfl | omega) (gg_f (gf_cons rfl (gf_cons rfl (gf_cons rfl (gf_cons rfl (gf_cons rfl (gf_cons rfl gf_nil)))))) (ct91 (32) sc46 y46_5 x2 hIc46 hFc46 (in_w 0 31 h2 rfl) n91 n91a n91b m91))
          · skip
            have hx46 : ((y46_7.toNatClampNeg : Nat) : Int) ≠ x1.toInt := (by show ((y46_7.toInt.toNat : Nat) : Int) ≠ _; have a0 := oa3 h2 h1 j46_7; omega)
            have hev := ev_bf hIc29 (rkf_ok g29_0) g46_2 hx46
            have hfo := fb_fo hIc29 g29_1 hev.2.2.2.2.1 hev.2.2.2.2.2.1
            refine g_aload_n 53 (gd rfl) rfl rfl ?_
            refine g_iload 55 (gd rfl) rfl rfl ?_
            have p55 : BE sc46 (y46_7).toNatClampNeg := by rw [g46_0]; exact hev.1
            refine g_callv (X := _) (As := [.int y46_7]) (r := []) (b := A 109) (q := 109) 58 (gd rfl) rfl rfl rfl rfl rfl (ww_o rfl) (Nat.le_of_ble_eq_true rfl) (Nat.zero_le _) (Nat.zero_le _) (k_350 (by first | exact dq1 hd rfl | exact dq0 hd rfl | exact dq2 hd rfl | exact dq3 hd rfl | omega) hIc46 (in_w 0 31 j46_7 rfl) p55) (fun e u h => h) (fun v u h => ?_)
            obtain ⟨z55, rfl, rfl, p55a⟩ := h
            show GG _ _ _ _ _ _ _ _ [.long z55] _ _ _
            have hz55 : z55.toInt = rm sc29 y46_7.toNatClampNeg := (by have h := p55a; rw [g46_0] at h; exact h hfo)
            refine g_lload 60 (gd rfl) rfl rfl ?_
            refine g_lcmp 61 (gd rfl) rfl (fun z60 e60 => ?_)
            have i60 := lc_in e60
            refine g_if_ge 64 73 (gd rfl) rfl rfl (fun c61 => ?_) (fun c61 => ?_)
            · skip
              have i61 := z_ge 0 1 c61 i60 rfl
              have c61a := lc_ge e60 c61
              refine g_lload 75 (gd rfl) rfl rfl ?_
              refine g_lstore 77 (gd rfl) rfl (Nat.le_of_ble_eq_true rfl) ?_
              refine g_aload_n 78 (gd rfl) rfl rfl ?_
              refine g_iload 80 (gd rfl) rfl rfl ?_
              have p80 : BE sc46 (y46_7).toNatClampNeg := by rw [g46_0]; exact hev.1
              refine g_callv (X := _) (As := [.int y46_7]) (r := []) (b := A 109) (q := 109) 83 (gd rfl) rfl rfl rfl rfl rfl (ww_o rfl) (Nat.le_of_ble_eq_true rfl) (Nat.zero_le _) (Nat.zero_le _) (k_349 (by first | exact dq1 hd rfl | exact dq0 hd rfl | exact dq2 hd rfl | exact dq3 hd rfl | omega) hIc46 (in_w 0 31 j46_7 rfl) p80) (fun e u h => h) (fun v u h => ?_)
              obtain ⟨z80, rfl, rfl, i80, p80a⟩ := h
              show GG _ _ _ _ _ _ _ _ [.int z80] _ _ _
              refine g_istore 85 (gd rfl) rfl (Nat.le_of_ble_eq_true rfl) ?_
              refine g_goto 46 (gd rfl) rfl ?_
              have n46 : sc46 = sc29 := by first | exact g46_0 | rfl
              have n46a : ∃ k, (z80).toNatClampNeg = it sc29 (x2).toNatClampNeg k ∧ WY sc29 (x1).toInt (y46_5).toInt (x2).toNatClampNeg k := by first | (obtain ⟨k, hk1, hk2⟩ := g46_1; exact ⟨k + 1, by rw [p80a, g46_0, hk1]; rfl, wy_s hk2 (by rw [← hk1]; exact hx46) (by rw [← hk1]; exact g46_2) (by omega) (by rw [← hk1]; omega)⟩) | exact ⟨0, rfl, fun j hj => absurd hj (Nat.not_lt_zero _)⟩
              have n46b : ND sc29 (z80).toNatClampNeg := by first | (rw [p80a, g46_0]; exact hev.2.1) | exact ⟨by show x2.toInt.toNat < 32; have a0 := oa4 h2 h1 j46_7 i80; (first | exact zt_l (by decide) (by omega) | omega), by show ((x2.toInt.toNat : Nat) : Int) < _; rw [hFc29.2.2.1 109 20 rfl]; have hq := q_0; have a0 := oa4 h2 h1 j46_7 i80; omega, by rw [← e34]; have a0 := oa4 h2 h1 j46_7 i80; omega⟩
              have n46c : 1 ≤ (y46_5).toInt ∧ (y46_5).toInt ≤ 1000000000 := by first | exact g46_3 | (first | exact ⟨by decide, by decide⟩ | (have hr1 := hev.2.2.2.1; have hq := g46_3; exact ⟨by omega, by omega⟩))
              have m46 : rkf sc29 (x1).toInt (z80).toNatClampNeg < k46 := by rw [p80a, g46_0]; have hl := hev.2.2.1; have hm := mm46; omega
              exact gg_w (by first | exact Nat.le_add_right _ _ | exact gw2 | exact gw3 | exact gwe rfl | exact gwf rfl | exact gwg rfl | exact gwh rfl | omega) (gg_f (gf_cons rfl (gf_cons rfl (gf_cons rfl (gf_cons rfl (gf_cons rfl (gf_cons rfl gf_nil)))))) (ih46  sc46 y46_5 z80 hIc46 hFc46 (in_w 0 31 i80 rfl) n46 n46a n46b n46c m46))
            · skip
              have i61 := z_lt (-1) (-1) c61 i60 rfl
              have c61a := lc_lt e60 c61
              have i61a := lr_lt1 (-9223372036854775808) 9223372036854775806 c61a (l_rng z55) (l_rng y46_5) rfl
              have i61b := lr_lt2 (-9223372036854775807) 9223372036854775807 c61a (l_rng z55) (l_rng y46_5) rfl
              refine g_aload_n 65 (gd rfl) rfl rfl ?_
              refine g_iload 67 (gd rfl) rfl rfl ?_
              have p67 : BE sc46 (y46_7).toNatClampNeg := by rw [g46_0]; exact hev.1
              refine g_callv (X := _) (As := [.int y46_7]) (r := []) (b := A 109) (q := 109) 70 (gd rfl) rfl rfl rfl rfl rfl (ww_o rfl) (Nat.le_of_ble_eq_true rfl) (Nat.zero_le _) (Nat.zero_le _) (k_350 (by first | exact dq1 hd rfl | exact dq0 hd rfl | exact dq2 hd rfl | exact dq3 hd rfl | omega) hIc46 (in_w 0 31 j46_7 rfl) p67) (fun e u h => h) (fun v u h => ?_)
              obtain ⟨z67, rfl, rfl, p67a⟩ := h
              show GG _ _ _ _ _ _ _ _ [.long z67] _ _ _
              have hz67 : z67.toInt = rm sc29 y46_7.toNatClampNeg := (by have h := p67a; rw [g46_0] at h; exact h hfo)
              refine g_goto 75 (gd rfl) rfl ?_
              refine g_lstore 77 (gd rfl) rfl (Nat.le_of_ble_eq_true rfl) ?_
              refine g_aload_n 78 (gd rfl) rfl rfl ?_
              refine g_iload 80 (gd rfl) rfl rfl ?_
              have p80 : BE sc46 (y46_7).toNatClampNeg := by rw [g46_0]; exact hev.1
              refine g_callv (X := _) (As := [.int y46_7]) (r := []) (b := A 109) (q := 109) 83 (gd rfl) rfl rfl rfl rfl rfl (ww_o rfl) (Nat.le_of_ble_eq_true rfl) (Nat.zero_le _) (Nat.zero_le _) (k_349 (by first | exact dq1 hd rfl | exact dq0 hd rfl | exact dq2 hd rfl | exact dq3 hd rfl | omega) hIc46 (in_w 0 31 j46_7 rfl) p80) (fun e u h => h) (fun v u h => ?_)
              obtain ⟨z80, rfl, rfl, i80, p80a⟩ := h
              show GG _ _ _ _ _ _ _ _ [.int z80] _ _ _
              refine g_istore 85 (gd rfl) rfl (Nat.le_of_ble_eq_true rfl) ?_
              refine g_goto 46 (gd rfl) rfl ?_
              have n46 : sc46 = sc29 := by first | exact g46_0 | rfl
              have n46a : ∃ k, (z80).toNatClampNeg = it sc29 (x2).toNatClampNeg k ∧ WY sc29 (x1).toInt (z67).toInt (x2).toNatClampNeg k := by first | (obtain ⟨k, hk1, hk2⟩ := g46_1; exact ⟨k + 1, by rw [p80a, g46_0, hk1]; rfl, wy_s hk2 (by rw [← hk1]; exact hx46) (by rw [← hk1]; exact g46_2) (by omega) (by rw [← hk1]; omega)⟩) | exact ⟨0, rfl, fun j hj => absurd hj (Nat.not_lt_zero _)⟩
              have n46b : ND sc29 (z80).toNatClampNeg := by first | (rw [p80a, g46_0]; exact hev.2.1) | exact ⟨by show x2.toInt.toNat < 32; have a0 := oa4 h2 h1 j46_7 i80; (first | exact zt_l (by decide) (by omega) | omega), by show ((x2.toInt.toNat : Nat) : Int) < _; rw [hFc29.2.2.1 109 20 rfl]; have hq := q_0; have a0 := oa4 h2 h1 j46_7 i80; omega, by rw [← e34]; have a0 := oa4 h2 h1 j46_7 i80; omega⟩
              have n46c : 1 ≤ (z67).toInt ∧ (z67).toInt ≤ 1000000000 := by first | exact ⟨by decide, by decide⟩ | (have hr1 := hev.2.2.2.1; have hq := g46_3; exact ⟨by omega, by omega⟩)
              have m46 : rkf sc29 (x1).toInt (z80).toNatClampNeg < k46 := by rw [p80a, g46_0]; have hl := hev.2.2.1; have hm := mm46; omega
              exact gg_w (by first | exact Nat.le_add_right _ _ | exact gw2 | exact gw3 | exact gwe rfl | exact gwf rfl | exact gwg rfl | exact gwh rfl | omega) (gg_f (gf_cons rfl (gf_cons rfl (gf_cons rfl (gf_cons rfl (gf_cons rfl (gf_cons rfl gf_nil)))))) (ih46  sc46 z67 z80 hIc46 hFc46 (in_w 0 31 i80 rfl) n46 n46a n46b n46c m46))
      refine g_aload_n 30 (gd rfl) rfl rfl ?_
      refine g_getA (q2 := 148) 33 (gd rfl) rfl rfl rfl rfl ?_
      refine g_iload_n 34 (gd rfl) rfl rfl ?_
      refine g_iaload 35 (gd rfl) rfl (n := 34) rfl (in_ix h2 rfl) (fun z34 e34 => ?_)
      have i34 := inv_I hIc29 (n := 34) (t := 0) (-1) 1000 rfl (in_ix h2 rfl) rfl e34
      refine g_if_lt 38 133 (gd rfl) rfl rfl (fun c35 => ?_) (fun c35 => ?_)
      · skip
        have i35 := z_lt (-1) (-1) c35 i34 rfl
        refine g_lload_n 134 (gd rfl) rfl rfl ?_
        exact g_lreturn (gd rfl) rfl (hP _ _ ⟨sc29, hIc29, hFc29, y29_3, rfl, rfl⟩)
      · skip
        have i35 := z_ge 0 1000 c35 i34 rfl
        refine g_ldc2_w 1000000000 41 (gd rfl) rfl rfl ?_
        refine g_lstore 43 (gd rfl) rfl (Nat.le_of_ble_eq_true rfl) ?_
        refine g_iload_n 44 (gd rfl) rfl rfl ?_
        refine g_istore 46 (gd rfl) rfl (Nat.le_of_ble_eq_true rfl) ?_
        have n46 : sc29 = sc29 := by first | exact g46_0 | rfl
        have n46a : ∃ k, (x2).toNatClampNeg = it sc29 (x2).toNatClampNeg k ∧ WY sc29 (x1).toInt ((Int64.ofInt 1000000000)).toInt (x2).toNatClampNeg k := by first | (obtain ⟨k, hk1, hk2⟩ := g46_1; exact ⟨k + 1, by rw [p80a, g46_0, hk1]; rfl, wy_s hk2 (by rw [← hk1]; exact hx46) (by rw [← hk1]; exact g46_2) (by omega) (by rw [← hk1]; omega)⟩) | exact ⟨0, rfl, fun j hj => absurd hj (Nat.not_lt_zero _)⟩
        have n46b : ND sc29 (x2).toNatClampNeg := by first | (rw [p80a, g46_0]; exact hev.2.1) | exact ⟨by show x2.toInt.toNat < 32; have a0 := oa2 h2 h1; (first | exact zt_l (by decide) (by omega) | omega), by show ((x2.toInt.toNat : Nat) : Int) < _; rw [hFc29.2.2.1 109 20 rfl]; have hq := q_0; have a0 := oa2 h2 h1; omega, by rw [← e34]; have a0 := oa2 h2 h1; omega⟩
        have n46c : 1 ≤ ((Int64.ofInt 1000000000)).toInt ∧ ((Int64.ofInt 1000000000)).toInt ≤ 1000000000 := by first | exact ⟨by decide, by decide⟩ | (have hr1 := hev.2.2.2.1; have hq := g46_3; exact ⟨by omega, by omega⟩)
        have m46 : rkf sc29 (x1).toInt (x2).toNatClampNeg < 32 := by exact (rkf_ok g29_0).1 _ n46b.1 n46b.2.2
        exact gg_w (by first | exact Nat.le_add_right _ _ | exact gw2 | exact gw3 | exact gwe rfl | exact gwf rfl | exact gwg rfl | exact gwh rfl | omega) (gg_f (gf_cons rfl (gf_cons rfl (gf_cons rfl (gf_cons rfl (gf_cons rfl (gf_cons rfl gf_nil)))))) (ct46 (32) sc29 (Int64.ofInt 1000000000) x2 hIc29 hFc29 (in_w 0 31 h2 rfl) n46 n46a n46b n46c m46))
  have ct2 : ∀ (k2 : Nat) (sc2 : GS) (y2_3 : Int32), Inv sc2 → Fr fm_352 s sc2 → (In y2_3 0 160) → (∀ k : Nat, (k : Int) < (y2_3).toInt → (sc2.2.1 147 k).toInt = 0) → 160 - (y2_3).toInt < (k2 : Int) → GG Z (d - 1) 352 post (gx xp) (19872640062104 + k2 * 900) 2 (fun j => xlook j [(0, .ref (A 109)), (1, .int x1), (2, .int x2), (3, .int y2_3)]) [] (WW Z A sc2 ++ ex) 0 0 := by
    intro k2
    induction k2 with
    | zero => intro sc2 y2_3 hIc2 hFc2 j2_3 g2_0 mm2; exact m_no mm2 j2_3 rfl
    | succ k2 ih2 =>
      intro sc2 y2_3 hIc2 hFc2 j2_3 g2_0 mm2
      refine gg_w (M := 19872640062104 + k2 * 900 + 900) gws ?_
      refine g_iload_n 3 (gd rfl) rfl rfl ?_
      refine g_sipush 160 6 (gd rfl) rfl rfl ?_
      refine g_cmp_ge 9 22 (gd rfl) rfl rfl (fun c6 => ?_) (fun c6 => ?_)
      · skip
        have i6 := r_le2 160 160 c6 (in_c 160 rfl) j2_3 rfl
        refine g_lconst 0 23 (gd rfl) rfl rfl ?_
        refine g_lstore_n 24 (gd rfl) rfl (Nat.le_of_ble_eq_true rfl) ?_
        refine g_aload_n 25 (gd rfl) rfl rfl ?_
        refine g_iload_n 26 (gd rfl) rfl rfl ?_
        refine g_callv (X := _) (As := [.int x1]) (r := []) (b := A 109) (q := 109) 29 (gd rfl) rfl rfl rfl rfl rfl (ww_o rfl) (Nat.le_of_ble_eq_true rfl) (Nat.zero_le _) (Nat.zero_le _) (k_348 (by first | exact dq1 hd rfl | exact dq0 hd rfl | exact dq2 hd rfl | exact dq3 hd rfl | omega) hIc2 (in_w 0 31 h1 rfl)) (fun e u h => h) (fun v u h => ?_)
        obtain ⟨s26, hI26, hF26, rfl, rfl, p26⟩ := h
        show GG _ _ _ _ _ _ _ _ [] _ _ _
        have n29 : SR s26 (x1).toInt := by first | exact p26 | exact p127
        have n29a : FB s26 (s26.2.1 147) := by first | exact (ms_e hIc29 g91_0.1 g91_0.2 g91_1 (by show ((y91_7.toInt.toNat : Nat) : Int) = _; have a0 := oa3 h2 h1 i6; omega) g91_2.1 (hF127.2.1 147 rfl) (hF127.1 112 rfl) (hF127.1 113 rfl) (hF127.1 114 rfl) (hF127.1 116 rfl) (hF127.2.2.1 109 19 rfl) mm29).1 | (intro a ha ht; rw [hF26.2.1 147 rfl]; have h0 := g2_0 a (by have a0 := oa3 h2 h1 i6; omega); have hr := (arc_n hI26 ha ht).2.2.1; omega)
        have m29 : (RS s26 (x1).toInt (s26.2.1 147) 160).toNat < 320000001 := by have h := (RS_b (x := x1.toInt) hI26 n29a 160 (Nat.le_refl _)).2; omega
        exact gg_w (by first | exact Nat.le_add_right _ _ | exact gw2 | exact gw3 | exact gwe rfl | exact gwf rfl | exact gwg rfl | exact gwh rfl | omega) (gg_f (gf_cons rfl (gf_cons rfl (gf_cons rfl (gf_cons rfl gf_nil)))) (ct29 (320000001) s26 (Int64.ofInt 0) hI26 (fr_tr rfl hFc2 hF26) n29 n29a m29))
      · skip
        have i6 := r_lt1 0 159 c6 j2_3 (in_c 160 rfl) rfl
        refine g_aload_n 10 (gd rfl) rfl rfl ?_
        refine g_getA (q2 := 147) 13 (gd rfl) rfl rfl rfl rfl ?_
        refine g_iload_n 14 (gd rfl) rfl rfl ?_
        refine g_lconst 0 15 (gd rfl) rfl rfl ?_
        refine g_lastore 16 (gd rfl) rfl (n := 160) rfl (in_ix i6 rfl) ?_
        have hI15 := inv_sL (q := 147) (j := y2_3.toNatClampNeg) (x := (Int64.ofInt 0)) hIc2 rfl (l_rng (Int64.ofInt 0))
        refine g_iinc 19 (gd rfl) rfl rfl (Nat.le_of_ble_eq_true rfl) (fun z16 e16 => ?_)
        have i16 := in_add 1 160 e16 i6 (in_c 1 rfl) rfl rfl
        refine g_goto 2 (gd rfl) rfl ?_
        have n2 : ∀ k : Nat, (k : Int) < (z16).toInt → ((sL sc2 147 y2_3.toNatClampNeg (Int64.ofInt 0)).2.1 147 k).toInt = 0 := by first | (intro k hk; exfalso; have h0 : (Int32.ofInt 0).toInt = 0 := rfl; omega) | (intro k hk; rw [show ((sL sc2 147 y2_3.toNatClampNeg (Int64.ofInt 0))).2.1 147 = vp_updL (sc2.2.1 147) y2_3.toNatClampNeg (Int64.ofInt 0) from (by simp [sL])]; have e3 : y2_3.toNatClampNeg = y2_3.toInt.toNat := rfl; by_cases c : k = y2_3.toNatClampNeg; (rw [c, ul_eq]; decide); (rw [ul_ne c]; exact g2_0 k (by have a0 := oa4 h2 h1 i6 i16; have a4 := t_add e16 i6 (in_c 1 rfl) rfl; have a5 := in_u ((in_c 1 rfl)); omega)))
        exact gg_w (by first | exact Nat.le_add_right _ _ | exact gw2 | exact gw3 | exact gwe rfl | exact gwf rfl | exact gwg rfl | exact gwh rfl | omega) (gg_f (gf_cons rfl (gf_cons rfl (gf_cons rfl (gf_cons rfl gf_nil)))) (ih2 (sL sc2 147 y2_3.toNatClampNeg (Int64.ofInt 0)) z16 hI15 (fr_sL rfl hFc2) (in_w 0 160 i16 rfl) n2 (m_up mm2 (t_add e16 i6 (in_c 1 rfl) rfl) (in_w 1 1 (in_c 1 rfl) rfl))))
  refine g_enter2 (k := 352) (N := 19872640207904) (by first | exact dq1 hd rfl | exact dq0 hd rfl | exact dq2 hd rfl | exact dq3 hd rfl | omega) rfl (Nat.le_of_ble_eq_true rfl) ?_
  refine g_iconst 0 1 (gd rfl) rfl rfl ?_
  refine g_istore_n 2 (gd rfl) rfl (Nat.le_of_ble_eq_true rfl) ?_
  have n2 : ∀ k : Nat, (k : Int) < ((Int32.ofInt 0)).toInt → (s.2.1 147 k).toInt = 0 := by first | (intro k hk; exfalso; have h0 : (Int32.ofInt 0).toInt = 0 := rfl; omega) | (intro k hk; rw [show (s).2.1 147 = vp_updL (sc2.2.1 147) y2_3.toNatClampNeg (Int64.ofInt 0) from (by simp [sL])]; have e3 : y2_3.toNatClampNeg = y2_3.toInt.toNat := rfl; by_cases c : k = y2_3.toNatClampNeg; (rw [c, ul_eq]; decide); (rw [ul_ne c]; exact g2_0 k (by have a0 := oa3 h2 h1 ((in_c 0 rfl)); omega)))
  exact gg_w (by first | exact Nat.le_of_ble_eq_true rfl | omega) (gg_f (gf_cons rfl (gf_cons rfl (gf_cons rfl (gf_cons rfl gf_nil)))) (ct2 161 s (Int32.ofInt 0) hI fr_rf (in_w 0 160 (in_c 0 rfl) rfl) n2 (m_in 161 (in_w 0 160 (in_c 0 rfl) rfl) rfl)))

def fm_354 : FM := ([132, 148], [147], [(109, 0)], [])
/-- GraphHouseModel.flow -/
theorem k_354 {Z : AmZ} {A : Nat → Nat} {s : GS} {ex : va_W} {d : Nat} {X : AmX} {x1 : Int32} {x2 : Int32} (hd : 4 ≤ d) (hI : Inv s)  : GC Z d 354 [.ref (A 109), .int x1, .int x2] (WW Z A s ++ ex) 0 0 (fun v u => ∃ t : GS, Inv t ∧ Fr fm_354 s t ∧ ∃ z : Int64, v = some (.long z) ∧ u = WW Z A t ++ ex) X := by
  intro post xp hP hX
  obtain ⟨u_109_20, e_109_20⟩ : ∃ w, w = s.2.2.1 109 20 := ⟨_, rfl⟩
  have ro_109_20 := inv_F hI 0 32 rfl e_109_20
  refine g_enter2 (k := 354) (N := 900) (by first | exact dq1 hd rfl | exact dq0 hd rfl | exact dq2 hd rfl | exact dq3 hd rfl | omega) rfl (Nat.le_of_ble_eq_true rfl) ?_
  refine g_aload_n 1 (gd rfl) rfl rfl ?_
  refine g_aload_n 2 (gd rfl) rfl rfl ?_
  refine g_iload_n 3 (gd rfl) rfl rfl ?_
  refine g_iload_n 4 (gd rfl) rfl rfl ?_
  refine g_callv (X := _) (As := [.int x1, .int x2]) (r := [.ref (A 109)]) (b := A 109) (q := 109) 7 (gd rfl) rfl rfl rfl rfl rfl (ww_o rfl) (Nat.le_of_ble_eq_true rfl) (mc := 0) (ms := 0) (Nat.zero_le _) (Nat.zero_le _) (P := fun v u => _) ?_ (fun e u h => h) (fun v u h => h)
  intro po4 xx4 hp4 hx4
  refine g_enter2 (k := 353) (N := 300) (by first | exact dq1 hd rfl | exact dq0 hd rfl | exact dq2 hd rfl | exact dq3 hd rfl | omega) rfl (Nat.le_of_ble_eq_true rfl) ?_
  refine g_aload_n 1 (gd rfl) rfl rfl ?_
  refine g_iload_n 2 (gd rfl) rfl rfl ?_
  refine g_callv (X := _) (As := [.int x1]) (r := []) (b := A 109) (q := 109) 5 (gd rfl) rfl rfl rfl rfl rfl (ww_o rfl) (Nat.le_of_ble_eq_true rfl) (mc := 0) (ms := 0) (Nat.zero_le _) (Nat.zero_le _) (P := fun v u => _) ?_ (fun e u h => h) (fun v u h => h)
  intro po4x2 xx4x2 hp4x2 hx4x2
  refine g_enter2 (k := 272) (N := 300) (by first | exact dq1 hd rfl | exact dq0 hd rfl | exact dq2 hd rfl | exact dq3 hd rfl | omega) rfl (Nat.le_of_ble_eq_true rfl) ?_
  refine g_iload_n 1 (gd rfl) rfl rfl ?_
  refine g_if_lt 4 16 (gd rfl) rfl rfl (fun c4x2x1 => ?_) (fun c4x2x1 => ?_)
  · skip
    have i4x2x1 := z_lt (-2147483648) (-1) c4x2x1 (i_rng x1) rfl
    refine g_iconst 0 17 (gd rfl) rfl rfl ?_
    refine g_ireturn (gd rfl) rfl (nb01 (in_w 0 1 (in_c 0 rfl) rfl)) (hp4x2 _ _ ?_)
    show GG _ _ _ _ _ _ _ _ [.int (Int32.ofInt 0)] _ _ _
    refine g_if_eq 8 25 (gd rfl) rfl rfl (fun c4x5 => ?_) (fun c4x5 => ?_)
    · skip
      refine g_iconst 0 26 (gd rfl) rfl rfl ?_
      refine g_ireturn (gd rfl) rfl (nb01 (in_w 0 1 (in_c 0 rfl) rfl)) (hp4 _ _ ?_)
      show GG _ _ _ _ _ _ _ _ [.int (Int32.ofInt 0), .ref (A 109)] _ _ _
      refine g_callv (X := _) (As := [.int (Int32.ofInt 0)]) (r := []) (b := A 109) (q := 109) 10 (gd rfl) rfl rfl rfl rfl rfl (ww_o rfl) (Nat.le_of_ble_eq_true rfl) (mc := 0) (ms := 0) (Nat.zero_le _) (Nat.zero_le _) (P := fun v u => _) ?_ (fun e u h => h) (fun v u h => h)
      intro po7 xx7 hp7 hx7
      refine g_enter2 (k := 271) (N := 300) (by first | exact dq1 hd rfl | exact dq0 hd rfl | exact dq2 hd rfl | exact dq3 hd rfl | omega) rfl (Nat.le_of_ble_eq_true rfl) ?_
      refine g_aload_n 1 (gd rfl) rfl rfl ?_
      refine g_iload_n 2 (gd rfl) rfl rfl ?_
      refine g_iconst 1 3 (gd rfl) rfl rfl ?_
      refine g_callv (X := _) (As := [.int (Int32.ofInt 0), .int (Int32.ofInt 1)]) (r := []) (b := A 109) (q := 109) 6 (gd rfl) rfl rfl rfl rfl rfl (ww_o rfl) (Nat.le_of_ble_eq_true rfl) (mc := 0) (ms := 0) (Nat.zero_le _) (Nat.zero_le _) (P := fun v u => _) ?_ (fun e u h => h) (fun v u h => h)
      intro po7x3 xx7x3 hp7x3 hx7x3
      refine g_enter2 (k := 270) (N := 300) (by first | exact dq1 hd rfl | exact dq0 hd rfl | exact dq2 hd rfl | exact dq3 hd rfl | omega) rfl (Nat.le_of_ble_eq_true rfl) ?_
      refine g_aload_n 1 (gd rfl) rfl rfl ?_
      refine g_iload_n 2 (gd rfl) rfl rfl ?_
      refine g_if_ne 5 9 (gd rfl) rfl rfl (fun c7x3x2 => ?_) (fun c7x3x2 => ?_)
      · skip
        exact zn_ne c7x3x2 (in_c 0 rfl) rfl
      · skip
        refine g_iconst 1 6 (gd rfl) rfl rfl ?_
        refine g_goto 18 (gd rfl) rfl ?_
        refine g_putI 21 (gd rfl) rfl rfl rfl rfl ?_
        have hI7x3x18 := inv_sF (q := 109) (j := 0) hI rfl (in_w 0 2 (in_c 1 rfl) rfl)
        refine g_aload_n 22 (gd rfl) rfl rfl ?_
        refine g_getI 25 (gd rfl) rfl rfl rfl (fun z7x3x22 e7x3x22 => ?_)
        have q7x3x22 : (Int32.ofInt 1) = z7x3x22 := (sF_get).trans e7x3x22.symm
        subst q7x3x22
        refine g_if_le 28 32 (gd rfl) rfl rfl (fun c7x3x25 => ?_) (fun c7x3x25 => ?_)
        · skip
          exact zn_le c7x3x25 (in_c 1 rfl) rfl
        · skip
          refine g_iconst 1 29 (gd rfl) rfl rfl ?_
          refine g_goto 33 (gd rfl) rfl ?_
          refine g_ireturn (gd rfl) rfl (nb01 (in_w 0 1 (in_c 1 rfl) rfl)) (hp7x3 _ _ ?_)
          show GG _ _ _ _ _ _ _ _ [.int (Int32.ofInt 1)] _ _ _
          refine g_ireturn (gd rfl) rfl (nb01 (in_w 0 1 (in_c 1 rfl) rfl)) (hp7 _ _ ?_)
          show GG _ _ _ _ _ _ _ _ [.int (Int32.ofInt 1)] _ _ _
          refine g_if_eq 13 17 (gd rfl) rfl rfl (fun c10 => ?_) (fun c10 => ?_)
          · skip
            exact zn_eq c10 (in_c 1 rfl) rfl
          · skip
            refine g_lconst 0 14 (gd rfl) rfl rfl ?_
            refine g_goto 23 (gd rfl) rfl ?_
            exact g_lreturn (gd rfl) rfl (hP _ _ ⟨(sF s 109 0 (Int32.ofInt 1)), hI7x3x18, (fr_sF rfl fr_rf), (Int64.ofInt 0), rfl, rfl⟩)
    · skip
      exact zn_ne c4x5 (in_c 0 rfl) rfl
  · skip
    have i4x2x1 := z_ge 0 2147483647 c4x2x1 (i_rng x1) rfl
    refine g_iload_n 5 (gd rfl) rfl rfl ?_
    refine g_aload_n 6 (gd rfl) rfl rfl ?_
    refine g_getI 9 (gd rfl) rfl rfl rfl (fun z4x2x6 e4x2x6 => ?_)
    have q4x2x6 : u_109_20 = z4x2x6 := (e_109_20).trans e4x2x6.symm
    subst q4x2x6
    refine g_cmp_ge 12 16 (gd rfl) rfl rfl (fun c4x2x9 => ?_) (fun c4x2x9 => ?_)
    · skip
      refine g_iconst 0 17 (gd rfl) rfl rfl ?_
      refine g_ireturn (gd rfl) rfl (nb01 (in_w 0 1 (in_c 0 rfl) rfl)) (hp4x2 _ _ ?_)
      show GG _ _ _ _ _ _ _ _ [.int (Int32.ofInt 0)] _ _ _
      refine g_if_eq 8 25 (gd rfl) rfl rfl (fun c4x5 => ?_) (fun c4x5 => ?_)
      · skip
        refine g_iconst 0 26 (gd rfl) rfl rfl ?_
        refine g_ireturn (gd rfl) rfl (nb01 (in_w 0 1 (in_c 0 rfl) rfl)) (hp4 _ _ ?_)
        show GG _ _ _ _ _ _ _ _ [.int (Int32.ofInt 0), .ref (A 109)] _ _ _
        refine g_callv (X := _) (As := [.int (Int32.ofInt 0)]) (r := []) (b := A 109) (q := 109) 10 (gd rfl) rfl rfl rfl rfl rfl (ww_o rfl) (Nat.le_of_ble_eq_true rfl) (mc := 0) (ms := 0) (Nat.zero_le _) (Nat.zero_le _) (P := fun v u => _) ?_ (fun e u h => h) (fun v u h => h)
        intro po7 xx7 hp7 hx7
        refine g_enter2 (k := 271) (N := 300) (by first | exact dq1 hd rfl | exact dq0 hd rfl | exact dq2 hd rfl | exact dq3 hd rfl | omega) rfl (Nat.le_of_ble_eq_true rfl) ?_
        refine g_aload_n 1 (gd rfl) rfl rfl ?_
        refine g_iload_n 2 (gd rfl) rfl rfl ?_
        refine g_iconst 1 3 (gd rfl) rfl rfl ?_
        refine g_callv (X := _) (As := [.int (Int32.ofInt 0), .int (Int32.ofInt 1)]) (r := []) (b := A 109) (q := 109) 6 (gd rfl) rfl rfl rfl rfl rfl (ww_o rfl) (Nat.le_of_ble_eq_true rfl) (mc := 0) (ms := 0) (Nat.zero_le _) (Nat.zero_le _) (P := fun v u => _) ?_ (fun e u h => h) (fun v u h => h)
        intro po7x3 xx7x3 hp7x3 hx7x3
        refine g_enter2 (k := 270) (N := 300) (by first | exact dq1 hd rfl | exact dq0 hd rfl | exact dq2 hd rfl | exact dq3 hd rfl | omega) rfl (Nat.le_of_ble_eq_true rfl) ?_
        refine g_aload_n 1 (gd rfl) rfl rfl ?_
        refine g_iload_n 2 (gd rfl) rfl rfl ?_
        refine g_if_ne 5 9 (gd rfl) rfl rfl (fun c7x3x2 => ?_) (fun c7x3x2 => ?_)
        · skip
          exact zn_ne c7x3x2 (in_c 0 rfl) rfl
        · skip
          refine g_iconst 1 6 (gd rfl) rfl rfl ?_
          refine g_goto 18 (gd rfl) rfl ?_
          refine g_putI 21 (gd rfl) rfl rfl rfl rfl ?_
          have hI7x3x18 := inv_sF (q := 109) (j := 0) hI rfl (in_w 0 2 (in_c 1 rfl) rfl)
          refine g_aload_n 22 (gd rfl) rfl rfl ?_
          refine g_getI 25 (gd rfl) rfl rfl rfl (fun z7x3x22 e7x3x22 => ?_)
          have q7x3x22 : (Int32.ofInt 1) = z7x3x22 := (sF_get).trans e7x3x22.symm
          subst q7x3x22
          refine g_if_le 28 32 (gd rfl) rfl rfl (fun c7x3x25 => ?_) (fun c7x3x25 => ?_)
          · skip
            exact zn_le c7x3x25 (in_c 1 rfl) rfl
          · skip
            refine g_iconst 1 29 (gd rfl) rfl rfl ?_
            refine g_goto 33 (gd rfl) rfl ?_
            refine g_ireturn (gd rfl) rfl (nb01 (in_w 0 1 (in_c 1 rfl) rfl)) (hp7x3 _ _ ?_)
            show GG _ _ _ _ _ _ _ _ [.int (Int32.ofInt 1)] _ _ _
            refine g_ireturn (gd rfl) rfl (nb01 (in_w 0 1 (in_c 1 rfl) rfl)) (hp7 _ _ ?_)
            show GG _ _ _ _ _ _ _ _ [.int (Int32.ofInt 1)] _ _ _
            refine g_if_eq 13 17 (gd rfl) rfl rfl (fun c10 => ?_) (fun c10 => ?_)
            · skip
              exact zn_eq c10 (in_c 1 rfl) rfl
            · skip
              refine g_lconst 0 14 (gd rfl) rfl rfl ?_
              refine g_goto 23 (gd rfl) rfl ?_
              exact g_lreturn (gd rfl) rfl (hP _ _ ⟨(sF s 109 0 (Int32.ofInt 1)), hI7x3x18, (fr_sF rfl fr_rf), (Int64.ofInt 0), rfl, rfl⟩)
      · skip
        exact zn_ne c4x5 (in_c 0 rfl) rfl
    · skip
      have i4x2x9 := r_lt1 0 31 c4x2x9 i4x2x1 ro_109_20 rfl
      have i4x2x9a := r_lt2 1 32 c4x2x9 i4x2x1 ro_109_20 rfl
      refine g_iconst 1 13 (gd rfl) rfl rfl ?_
      refine g_goto 17 (gd rfl) rfl ?_
      refine g_ireturn (gd rfl) rfl (nb01 (in_w 0 1 (in_c 1 rfl) rfl)) (hp4x2 _ _ ?_)
      show GG _ _ _ _ _ _ _ _ [.int (Int32.ofInt 1)] _ _ _
      refine g_if_eq 8 25 (gd rfl) rfl rfl (fun c4x5 => ?_) (fun c4x5 => ?_)
      · skip
        exact zn_eq c4x5 (in_c 1 rfl) rfl
      · skip
        refine g_aload_n 9 (gd rfl) rfl rfl ?_
        refine g_iload_n 10 (gd rfl) rfl rfl ?_
        refine g_callv (X := _) (As := [.int x2]) (r := []) (b := A 109) (q := 109) 13 (gd rfl) rfl rfl rfl rfl rfl (ww_o rfl) (Nat.le_of_ble_eq_true rfl) (mc := 0) (ms := 0) (Nat.zero_le _) (Nat.zero_le _) (P := fun v u => _) ?_ (fun e u h => h) (fun v u h => h)
        intro po4x10 xx4x10 hp4x10 hx4x10
        refine g_enter2 (k := 272) (N := 300) (by first | exact dq1 hd rfl | exact dq0 hd rfl | exact dq2 hd rfl | exact dq3 hd rfl | omega) rfl (Nat.le_of_ble_eq_true rfl) ?_
        refine g_iload_n 1 (gd rfl) rfl rfl ?_
        refine g_if_lt 4 16 (gd rfl) rfl rfl (fun c4x10x1 => ?_) (fun c4x10x1 => ?_)
        · skip
          have i4x10x1 := z_lt (-2147483648) (-1) c4x10x1 (i_rng x2) rfl
          refine g_iconst 0 17 (gd rfl) rfl rfl ?_
          refine g_ireturn (gd rfl) rfl (nb01 (in_w 0 1 (in_c 0 rfl) rfl)) (hp4x10 _ _ ?_)
          show GG _ _ _ _ _ _ _ _ [.int (Int32.ofInt 0)] _ _ _
          refine g_if_eq 16 25 (gd rfl) rfl rfl (fun c4x13 => ?_) (fun c4x13 => ?_)
          · skip
            refine g_iconst 0 26 (gd rfl) rfl rfl ?_
            refine g_ireturn (gd rfl) rfl (nb01 (in_w 0 1 (in_c 0 rfl) rfl)) (hp4 _ _ ?_)
            show GG _ _ _ _ _ _ _ _ [.int (Int32.ofInt 0), .ref (A 109)] _ _ _
            refine g_callv (X := _) (As := [.int (Int32.ofInt 0)]) (r := []) (b := A 109) (q := 109) 10 (gd rfl) rfl rfl rfl rfl rfl (ww_o rfl) (Nat.le_of_ble_eq_true rfl) (mc := 0) (ms := 0) (Nat.zero_le _) (Nat.zero_le _) (P := fun v u => _) ?_ (fun e u h => h) (fun v u h => h)
            intro po7 xx7 hp7 hx7
            refine g_enter2 (k := 271) (N := 300) (by first | exact dq1 hd rfl | exact dq0 hd rfl | exact dq2 hd rfl | exact dq3 hd rfl | omega) rfl (Nat.le_of_ble_eq_true rfl) ?_
            refine g_aload_n 1 (gd rfl) rfl rfl ?_
            refine g_iload_n 2 (gd rfl) rfl rfl ?_
            refine g_iconst 1 3 (gd rfl) rfl rfl ?_
            refine g_callv (X := _) (As := [.int (Int32.ofInt 0), .int (Int32.ofInt 1)]) (r := []) (b := A 109) (q := 109) 6 (gd rfl) rfl rfl rfl rfl rfl (ww_o rfl) (Nat.le_of_ble_eq_true rfl) (mc := 0) (ms := 0) (Nat.zero_le _) (Nat.zero_le _) (P := fun v u => _) ?_ (fun e u h => h) (fun v u h => h)
            intro po7x3 xx7x3 hp7x3 hx7x3
            refine g_enter2 (k := 270) (N := 300) (by first | exact dq1 hd rfl | exact dq0 hd rfl | exact dq2 hd rfl | exact dq3 hd rfl | omega) rfl (Nat.le_of_ble_eq_true rfl) ?_
            refine g_aload_n 1 (gd rfl) rfl rfl ?_
            refine g_iload_n 2 (gd rfl) rfl rfl ?_
            refine g_if_ne 5 9 (gd rfl) rfl rfl (fun c7x3x2 => ?_) (fun c7x3x2 => ?_)
            · skip
              exact zn_ne c7x3x2 (in_c 0 rfl) rfl
            · skip
              refine g_iconst 1 6 (gd rfl) rfl rfl ?_
              refine g_goto 18 (gd rfl) rfl ?_
              refine g_putI 21 (gd rfl) rfl rfl rfl rfl ?_
              have hI7x3x18 := inv_sF (q := 109) (j := 0) hI rfl (in_w 0 2 (in_c 1 rfl) rfl)
              refine g_aload_n 22 (gd rfl) rfl rfl ?_
              refine g_getI 25 (gd rfl) rfl rfl rfl (fun z7x3x22 e7x3x22 => ?_)
              have q7x3x22 : (Int32.ofInt 1) = z7x3x22 := (sF_get).trans e7x3x22.symm
              subst q7x3x22
              refine g_if_le 28 32 (gd rfl) rfl rfl (fun c7x3x25 => ?_) (fun c7x3x25 => ?_)
              · skip
                exact zn_le c7x3x25 (in_c 1 rfl) rfl
              · skip
                refine g_iconst 1 29 (gd rfl) rfl rfl ?_
                refine g_goto 33 (gd rfl) rfl ?_
                refine g_ireturn (gd rfl) rfl (nb01 (in_w 0 1 (in_c 1 rfl) rfl)) (hp7x3 _ _ ?_)
                show GG _ _ _ _ _ _ _ _ [.int (Int32.ofInt 1)] _ _ _
                refine g_ireturn (gd rfl) rfl (nb01 (in_w 0 1 (in_c 1 rfl) rfl)) (hp7 _ _ ?_)
                show GG _ _ _ _ _ _ _ _ [.int (Int32.ofInt 1)] _ _ _
                refine g_if_eq 13 17 (gd rfl) rfl rfl (fun c10 => ?_) (fun c10 => ?_)
                · skip
                  exact zn_eq c10 (in_c 1 rfl) rfl
                · skip
                  refine g_lconst 0 14 (gd rfl) rfl rfl ?_
                  refine g_goto 23 (gd rfl) rfl ?_
                  exact g_lreturn (gd rfl) rfl (hP _ _ ⟨(sF s 109 0 (Int32.ofInt 1)), hI7x3x18, (fr_sF rfl fr_rf), (Int64.ofInt 0), rfl, rfl⟩)
          · skip
            exact zn_ne c4x13 (in_c 0 rfl) rfl
        · skip
          have i4x10x1 := z_ge 0 2147483647 c4x10x1 (i_rng x2) rfl
          refine g_iload_n 5 (gd rfl) rfl rfl ?_
          refine g_aload_n 6 (gd rfl) rfl rfl ?_
          refine g_getI 9 (gd rfl) rfl rfl rfl (fun z4x10x6 e4x10x6 => ?_)
          have q4x10x6 : u_109_20 = z4x10x6 := (e_109_20).trans e4x10x6.symm
          subst q4x10x6
          refine g_cmp_ge 12 16 (gd rfl) rfl rfl (fun c4x10x9 => ?_) (fun c4x10x9 => ?_)
          · skip
            have i4x10x9 := r_le2 1 2147483647 c4x10x9 i4x2x9a i4x10x1 rfl
            refine g_iconst 0 17 (gd rfl) rfl rfl ?_
            refine g_ireturn (gd rfl) rfl (nb01 (in_w 0 1 (in_c 0 rfl) rfl)) (hp4x10 _ _ ?_)
            show GG _ _ _ _ _ _ _ _ [.int (Int32.ofInt 0)] _ _ _
            refine g_if_eq 16 25 (gd rfl) rfl rfl (fun c4x13 => ?_) (fun c4x13 => ?_)
            · skip
              refine g_iconst 0 26 (gd rfl) rfl rfl ?_
              refine g_ireturn (gd rfl) rfl (nb01 (in_w 0 1 (in_c 0 rfl) rfl)) (hp4 _ _ ?_)
              show GG _ _ _ _ _ _ _ _ [.int (Int32.ofInt 0), .ref (A 109)] _ _ _
              refine g_callv (X := _) (As := [.int (Int32.ofInt 0)]) (r := []) (b := A 109) (q := 109) 10 (gd rfl) rfl rfl rfl rfl rfl (ww_o rfl) (Nat.le_of_ble_eq_true rfl) (mc := 0) (ms := 0) (Nat.zero_le _) (Nat.zero_le _) (P := fun v u => _) ?_ (fun e u h => h) (fun v u h => h)
              intro po7 xx7 hp7 hx7
              refine g_enter2 (k := 271) (N := 300) (by first | exact dq1 hd rfl | exact dq0 hd rfl | exact dq2 hd rfl | exact dq3 hd rfl | omega) rfl (Nat.le_of_ble_eq_true rfl) ?_
              refine g_aload_n 1 (gd rfl) rfl rfl ?_
              refine g_iload_n 2 (gd rfl) rfl rfl ?_
              refine g_iconst 1 3 (gd rfl) rfl rfl ?_
              refine g_callv (X := _) (As := [.int (Int32.ofInt 0), .int (Int32.ofInt 1)]) (r := []) (b := A 109) (q := 109) 6 (gd rfl) rfl rfl rfl rfl rfl (ww_o rfl) (Nat.le_of_ble_eq_true rfl) (mc := 0) (ms := 0) (Nat.zero_le _) (Nat.zero_le _) (P := fun v u => _) ?_ (fun e u h => h) (fun v u h => h)
              intro po7x3 xx7x3 hp7x3 hx7x3
              refine g_enter2 (k := 270) (N := 300) (by first | exact dq1 hd rfl | exact dq0 hd rfl | exact dq2 hd rfl | exact dq3 hd rfl | omega) rfl (Nat.le_of_ble_eq_true rfl) ?_
              refine g_aload_n 1 (gd rfl) rfl rfl ?_
              refine g_iload_n 2 (gd rfl) rfl rfl ?_
              refine g_if_ne 5 9 (gd rfl) rfl rfl (fun c7x3x2 => ?_) (fun c7x3x2 => ?_)
              · skip
                exact zn_ne c7x3x2 (in_c 0 rfl) rfl
              · skip
                refine g_iconst 1 6 (gd rfl) rfl rfl ?_
                refine g_goto 18 (gd rfl) rfl ?_
                refine g_putI 21 (gd rfl) rfl rfl rfl rfl ?_
                have hI7x3x18 := inv_sF (q := 109) (j := 0) hI rfl (in_w 0 2 (in_c 1 rfl) rfl)
                refine g_aload_n 22 (gd rfl) rfl rfl ?_
                refine g_getI 25 (gd rfl) rfl rfl rfl (fun z7x3x22 e7x3x22 => ?_)
                have q7x3x22 : (Int32.ofInt 1) = z7x3x22 := (sF_get).trans e7x3x22.symm
                subst q7x3x22
                refine g_if_le 28 32 (gd rfl) rfl rfl (fun c7x3x25 => ?_) (fun c7x3x25 => ?_)
                · skip
                  exact zn_le c7x3x25 (in_c 1 rfl) rfl
                · skip
                  refine g_iconst 1 29 (gd rfl) rfl rfl ?_
                  refine g_goto 33 (gd rfl) rfl ?_
                  refine g_ireturn (gd rfl) rfl (nb01 (in_w 0 1 (in_c 1 rfl) rfl)) (hp7x3 _ _ ?_)
                  show GG _ _ _ _ _ _ _ _ [.int (Int32.ofInt 1)] _ _ _
                  refine g_ireturn (gd rfl) rfl (nb01 (in_w 0 1 (in_c 1 rfl) rfl)) (hp7 _ _ ?_)
                  show GG _ _ _ _ _ _ _ _ [.int (Int32.ofInt 1)] _ _ _
                  refine g_if_eq 13 17 (gd rfl) rfl rfl (fun c10 => ?_) (fun c10 => ?_)
                  · skip
                    exact zn_eq c10 (in_c 1 rfl) rfl
                  · skip
                    refine g_lconst 0 14 (gd rfl) rfl rfl ?_
                    refine g_goto 23 (gd rfl) rfl ?_
                    exact g_lreturn (gd rfl) rfl (hP _ _ ⟨(sF s 109 0 (Int32.ofInt 1)), hI7x3x18, (fr_sF rfl fr_rf), (Int64.ofInt 0), rfl, rfl⟩)
            · skip
              exact zn_ne c4x13 (in_c 0 rfl) rfl
          · skip
            have i4x10x9 := r_lt1 0 31 c4x10x9 i4x10x1 i4x2x9a rfl
            refine g_iconst 1 13 (gd rfl) rfl rfl ?_
            refine g_goto 17 (gd rfl) rfl ?_
            refine g_ireturn (gd rfl) rfl (nb01 (in_w 0 1 (in_c 1 rfl) rfl)) (hp4x10 _ _ ?_)
            show GG _ _ _ _ _ _ _ _ [.int (Int32.ofInt 1)] _ _ _
            refine g_if_eq 16 25 (gd rfl) rfl rfl (fun c4x13 => ?_) (fun c4x13 => ?_)
            · skip
              exact zn_eq c4x13 (in_c 1 rfl) rfl
            · skip
              refine g_iload_n 17 (gd rfl) rfl rfl ?_
              refine g_iload_n 18 (gd rfl) rfl rfl ?_
              refine g_cmp_eq 21 25 (gd rfl) rfl rfl (fun c4x18 => ?_) (fun c4x18 => ?_)
              · skip
                refine g_iconst 0 26 (gd rfl) rfl rfl ?_
                refine g_ireturn (gd rfl) rfl (nb01 (in_w 0 1 (in_c 0 rfl) rfl)) (hp4 _ _ ?_)
                show GG _ _ _ _ _ _ _ _ [.int (Int32.ofInt 0), .ref (A 109)] _ _ _
                refine g_callv (X := _) (As := [.int (Int32.ofInt 0)]) (r := []) (b := A 109) (q := 109) 10 (gd rfl) rfl rfl rfl rfl rfl (ww_o rfl) (Nat.le_of_ble_eq_true rfl) (mc := 0) (ms := 0) (Nat.zero_le _) (Nat.zero_le _) (P := fun v u => _) ?_ (fun e u h => h) (fun v u h => h)
                intro po7 xx7 hp7 hx7
                refine g_enter2 (k := 271) (N := 300) (by first | exact dq1 hd rfl | exact dq0 hd rfl | exact dq2 hd rfl | exact dq3 hd rfl | omega) rfl (Nat.le_of_ble_eq_true rfl) ?_
                refine g_aload_n 1 (gd rfl) rfl rfl ?_
                refine g_iload_n 2 (gd rfl) rfl rfl ?_
                refine g_iconst 1 3 (gd rfl) rfl rfl ?_
                refine g_callv (X := _) (As := [.int (Int32.ofInt 0), .int (Int32.ofInt 1)]) (r := []) (b := A 109) (q := 109) 6 (gd rfl) rfl rfl rfl rfl rfl (ww_o rfl) (Nat.le_of_ble_eq_true rfl) (mc := 0) (ms := 0) (Nat.zero_le _) (Nat.zero_le _) (P := fun v u => _) ?_ (fun e u h => h) (fun v u h => h)
                intro po7x3 xx7x3 hp7x3 hx7x3
                refine g_enter2 (k := 270) (N := 300) (by first | exact dq1 hd rfl | exact dq0 hd rfl | exact dq2 hd rfl | exact dq3 hd rfl | omega) rfl (Nat.le_of_ble_eq_true rfl) ?_
                refine g_aload_n 1 (gd rfl) rfl rfl ?_
                refine g_iload_n 2 (gd rfl) rfl rfl ?_
                refine g_if_ne 5 9 (gd rfl) rfl rfl (fun c7x3x2 => ?_) (fun c7x3x2 => ?_)
                · skip
                  exact zn_ne c7x3x2 (in_c 0 rfl) rfl
                · skip
                  refine g_iconst 1 6 (gd rfl) rfl rfl ?_
                  refine g_goto 18 (gd rfl) rfl ?_
                  refine g_putI 21 (gd rfl) rfl rfl rfl rfl ?_
                  have hI7x3x18 := inv_sF (q := 109) (j := 0) hI rfl (in_w 0 2 (in_c 1 rfl) rfl)
                  refine g_aload_n 22 (gd rfl) rfl rfl ?_
                  refine g_getI 25 (gd rfl) rfl rfl rfl (fun z7x3x22 e7x3x22 => ?_)
                  have q7x3x22 : (Int32.ofInt 1) = z7x3x22 := (sF_get).trans e7x3x22.symm
                  subst q7x3x22
                  refine g_if_le 28 32 (gd rfl) rfl rfl (fun c7x3x25 => ?_) (fun c7x3x25 => ?_)
                  · skip
                    exact zn_le c7x3x25 (in_c 1 rfl) rfl
                  · skip
                    refine g_iconst 1 29 (gd rfl) rfl rfl ?_
                    refine g_goto 33 (gd rfl) rfl ?_
                    refine g_ireturn (gd rfl) rfl (nb01 (in_w 0 1 (in_c 1 rfl) rfl)) (hp7x3 _ _ ?_)
                    show GG _ _ _ _ _ _ _ _ [.int (Int32.ofInt 1)] _ _ _
                    refine g_ireturn (gd rfl) rfl (nb01 (in_w 0 1 (in_c 1 rfl) rfl)) (hp7 _ _ ?_)
                    show GG _ _ _ _ _ _ _ _ [.int (Int32.ofInt 1)] _ _ _
                    refine g_if_eq 13 17 (gd rfl) rfl rfl (fun c10 => ?_) (fun c10 => ?_)
                    · skip
                      exact zn_eq c10 (in_c 1 rfl) rfl
                    · skip
                      refine g_lconst 0 14 (gd rfl) rfl rfl ?_
                      refine g_goto 23 (gd rfl) rfl ?_
                      exact g_lreturn (gd rfl) rfl (hP _ _ ⟨(sF s 109 0 (Int32.ofInt 1)), hI7x3x18, (fr_sF rfl fr_rf), (Int64.ofInt 0), rfl, rfl⟩)
              · skip
                refine g_iconst 1 22 (gd rfl) rfl rfl ?_
                refine g_goto 26 (gd rfl) rfl ?_
                refine g_ireturn (gd rfl) rfl (nb01 (in_w 0 1 (in_c 1 rfl) rfl)) (hp4 _ _ ?_)
                show GG _ _ _ _ _ _ _ _ [.int (Int32.ofInt 1), .ref (A 109)] _ _ _
                refine g_callv (X := _) (As := [.int (Int32.ofInt 1)]) (r := []) (b := A 109) (q := 109) 10 (gd rfl) rfl rfl rfl rfl rfl (ww_o rfl) (Nat.le_of_ble_eq_true rfl) (mc := 0) (ms := 0) (Nat.zero_le _) (Nat.zero_le _) (P := fun v u => _) ?_ (fun e u h => h) (fun v u h => h)
                intro po7 xx7 hp7 hx7
                refine g_enter2 (k := 271) (N := 300) (by first | exact dq1 hd rfl | exact dq0 hd rfl | exact dq2 hd rfl | exact dq3 hd rfl | omega) rfl (Nat.le_of_ble_eq_true rfl) ?_
                refine g_aload_n 1 (gd rfl) rfl rfl ?_
                refine g_iload_n 2 (gd rfl) rfl rfl ?_
                refine g_iconst 1 3 (gd rfl) rfl rfl ?_
                refine g_callv (X := _) (As := [.int (Int32.ofInt 1), .int (Int32.ofInt 1)]) (r := []) (b := A 109) (q := 109) 6 (gd rfl) rfl rfl rfl rfl rfl (ww_o rfl) (Nat.le_of_ble_eq_true rfl) (mc := 0) (ms := 0) (Nat.zero_le _) (Nat.zero_le _) (P := fun v u => _) ?_ (fun e u h => h) (fun v u h => h)
                intro po7x3 xx7x3 hp7x3 hx7x3
                refine g_enter2 (k := 270) (N := 300) (by first | exact dq1 hd rfl | exact dq0 hd rfl | exact dq2 hd rfl | exact dq3 hd rfl | omega) rfl (Nat.le_of_ble_eq_true rfl) ?_
                refine g_aload_n 1 (gd rfl) rfl rfl ?_
                refine g_iload_n 2 (gd rfl) rfl rfl ?_
                refine g_if_ne 5 9 (gd rfl) rfl rfl (fun c7x3x2 => ?_) (fun c7x3x2 => ?_)
                · skip
                  refine g_iload_n 10 (gd rfl) rfl rfl ?_
                  refine g_if_ne 13 17 (gd rfl) rfl rfl (fun c7x3x10 => ?_) (fun c7x3x10 => ?_)
                  · skip
                    refine g_iconst 0 18 (gd rfl) rfl rfl ?_
                    refine g_putI 21 (gd rfl) rfl rfl rfl rfl ?_
                    have hI7x3x18 := inv_sF (q := 109) (j := 0) hI rfl (in_w 0 2 (in_c 0 rfl) rfl)
                    refine g_aload_n 22 (gd rfl) rfl rfl ?_
                    refine g_getI 25 (gd rfl) rfl rfl rfl (fun z7x3x22 e7x3x22 => ?_)
                    have q7x3x22 : (Int32.ofInt 0) = z7x3x22 := (sF_get).trans e7x3x22.symm
                    subst q7x3x22
                    refine g_if_le 28 32 (gd rfl) rfl rfl (fun c7x3x25 => ?_) (fun c7x3x25 => ?_)
                    · skip
                      refine g_iconst 0 33 (gd rfl) rfl rfl ?_
                      refine g_ireturn (gd rfl) rfl (nb01 (in_w 0 1 (in_c 0 rfl) rfl)) (hp7x3 _ _ ?_)
                      show GG _ _ _ _ _ _ _ _ [.int (Int32.ofInt 0)] _ _ _
                      refine g_ireturn (gd rfl) rfl (nb01 (in_w 0 1 (in_c 0 rfl) rfl)) (hp7 _ _ ?_)
                      show GG _ _ _ _ _ _ _ _ [.int (Int32.ofInt 0)] _ _ _
                      refine g_if_eq 13 17 (gd rfl) rfl rfl (fun c10 => ?_) (fun c10 => ?_)
                      · skip
                        refine g_aload_n 18 (gd rfl) rfl rfl ?_
                        refine g_iload_n 19 (gd rfl) rfl rfl ?_
                        refine g_iload_n 20 (gd rfl) rfl rfl ?_
                        have p20 : (x2).toInt < ((sF s 109 0 (Int32.ofInt 0)).2.2.1 109 20).toInt ∧ (x1).toInt ≠ (x2).toInt := by exact ⟨by rw [← (show u_109_20 = (sF s 109 0 (Int32.ofInt 0)).2.2.1 109 20 from sF_ne rfl (e_109_20))]; have a0 := oa4 i4x10x9 i4x2x9 i4x2x9a ((in_c 0 rfl)); omega, by have a0 := oa4 i4x10x9 i4x2x9 i4x2x9a ((in_c 0 rfl)); omega⟩
                        refine g_callv (X := _) (As := [.int x1, .int x2]) (r := []) (b := A 109) (q := 109) 23 (gd rfl) rfl rfl rfl rfl rfl (ww_o rfl) (Nat.le_of_ble_eq_true rfl) (Nat.zero_le _) (Nat.zero_le _) (k_352 (by first | exact dq1 hd rfl | exact dq0 hd rfl | exact dq2 hd rfl | exact dq3 hd rfl | omega) hI7x3x18 (in_w 0 31 i4x2x9 rfl) (in_w 0 31 i4x10x9 rfl) p20) (fun e u h => h) (fun v u h => ?_)
                        obtain ⟨s20, hI20, hF20, z20, rfl, rfl⟩ := h
                        show GG _ _ _ _ _ _ _ _ [.long z20] _ _ _
                        exact g_lreturn (gd rfl) rfl (hP _ _ ⟨s20, hI20, (fr_tr rfl (fr_sF rfl fr_rf) hF20), z20, rfl, rfl⟩)
                      · skip
                        exact zn_ne c10 (in_c 0 rfl) rfl
                    · skip
                      exact zn_gt c7x3x25 (in_c 0 rfl) rfl
                  · skip
                    exact zn_eq c7x3x10 (in_c 1 rfl) rfl
                · skip
                  exact zn_eq c7x3x2 (in_c 1 rfl) rfl

def fm_355 : FM := ([132, 148], [147], [(109, 0)], [])
/-- GraphHouseModel.side -/
theorem k_355 {Z : AmZ} {A : Nat → Nat} {s : GS} {ex : va_W} {d : Nat} {X : AmX} {x1 : Int32} {x2 : Int32} {x3 : Int32} (hd : 4 ≤ d) (hI : Inv s)  : GC Z d 355 [.ref (A 109), .int x1, .int x2, .int x3] (WW Z A s ++ ex) 0 0 (fun v u => ∃ t : GS, Inv t ∧ Fr fm_355 s t ∧ ∃ z : Int32, v = some (.int z) ∧ u = WW Z A t ++ ex ∧ In z 0 1) X := by
  intro post xp hP hX
  obtain ⟨u_109_20, e_109_20⟩ : ∃ w, w = s.2.2.1 109 20 := ⟨_, rfl⟩
  have ro_109_20 := inv_F hI 0 32 rfl e_109_20
  refine g_enter2 (k := 355) (N := 900) (by first | exact dq1 hd rfl | exact dq0 hd rfl | exact dq2 hd rfl | exact dq3 hd rfl | omega) rfl (Nat.le_of_ble_eq_true rfl) ?_
  refine g_aload_n 1 (gd rfl) rfl rfl ?_
  refine g_aload_n 2 (gd rfl) rfl rfl ?_
  refine g_iload_n 3 (gd rfl) rfl rfl ?_
  refine g_iload_n 4 (gd rfl) rfl rfl ?_
  refine g_callv (X := _) (As := [.int x1, .int x2]) (r := [.ref (A 109)]) (b := A 109) (q := 109) 7 (gd rfl) rfl rfl rfl rfl rfl (ww_o rfl) (Nat.le_of_ble_eq_true rfl) (mc := 0) (ms := 0) (Nat.zero_le _) (Nat.zero_le _) (P := fun v u => _) ?_ (fun e u h => h) (fun v u h => h)
  intro po4 xx4 hp4 hx4
  refine g_enter2 (k := 353) (N := 300) (by first | exact dq1 hd rfl | exact dq0 hd rfl | exact dq2 hd rfl | exact dq3 hd rfl | omega) rfl (Nat.le_of_ble_eq_true rfl) ?_
  refine g_aload_n 1 (gd rfl) rfl rfl ?_
  refine g_iload_n 2 (gd rfl) rfl rfl ?_
  refine g_callv (X := _) (As := [.int x1]) (r := []) (b := A 109) (q := 109) 5 (gd rfl) rfl rfl rfl rfl rfl (ww_o rfl) (Nat.le_of_ble_eq_true rfl) (mc := 0) (ms := 0) (Nat.zero_le _) (Nat.zero_le _) (P := fun v u => _) ?_ (fun e u h => h) (fun v u h => h)
  intro po4x2 xx4x2 hp4x2 hx4x2
  refine g_enter2 (k := 272) (N := 300) (by first | exact dq1 hd rfl | exact dq0 hd rfl | exact dq2 hd rfl | exact dq3 hd rfl | omega) rfl (Nat.le_of_ble_eq_true rfl) ?_
  refine g_iload_n 1 (gd rfl) rfl rfl ?_
  refine g_if_lt 4 16 (gd rfl) rfl rfl (fun c4x2x1 => ?_) (fun c4x2x1 => ?_)
  · skip
    have i4x2x1 := z_lt (-2147483648) (-1) c4x2x1 (i_rng x1) rfl
    refine g_iconst 0 17 (gd rfl) rfl rfl ?_
    refine g_ireturn (gd rfl) rfl (nb01 (in_w 0 1 (in_c 0 rfl) rfl)) (hp4x2 _ _ ?_)
    show GG _ _ _ _ _ _ _ _ [.int (Int32.ofInt 0)] _ _ _
    refine g_if_eq 8 25 (gd rfl) rfl rfl (fun c4x5 => ?_) (fun c4x5 => ?_)
    · skip
      refine g_iconst 0 26 (gd rfl) rfl rfl ?_
      refine g_ireturn (gd rfl) rfl (nb01 (in_w 0 1 (in_c 0 rfl) rfl)) (hp4 _ _ ?_)
      show GG _ _ _ _ _ _ _ _ [.int (Int32.ofInt 0), .ref (A 109)] _ _ _
      refine g_if_eq 10 22 (gd rfl) rfl rfl (fun c7 => ?_) (fun c7 => ?_)
      · skip
        refine g_iconst 0 23 (gd rfl) rfl rfl ?_
        refine g_callv (X := _) (As := [.int (Int32.ofInt 0)]) (r := []) (b := A 109) (q := 109) 26 (gd rfl) rfl rfl rfl rfl rfl (ww_o rfl) (Nat.le_of_ble_eq_true rfl) (mc := 0) (ms := 0) (Nat.zero_le _) (Nat.zero_le _) (P := fun v u => _) ?_ (fun e u h => h) (fun v u h => h)
        intro po23 xx23 hp23 hx23
        refine g_enter2 (k := 271) (N := 300) (by first | exact dq1 hd rfl | exact dq0 hd rfl | exact dq2 hd rfl | exact dq3 hd rfl | omega) rfl (Nat.le_of_ble_eq_true rfl) ?_
        refine g_aload_n 1 (gd rfl) rfl rfl ?_
        refine g_iload_n 2 (gd rfl) rfl rfl ?_
        refine g_iconst 1 3 (gd rfl) rfl rfl ?_
        refine g_callv (X := _) (As := [.int (Int32.ofInt 0), .int (Int32.ofInt 1)]) (r := []) (b := A 109) (q := 109) 6 (gd rfl) rfl rfl rfl rfl rfl (ww_o rfl) (Nat.le_of_ble_eq_true rfl) (mc := 0) (ms := 0) (Nat.zero_le _) (Nat.zero_le _) (P := fun v u => _) ?_ (fun e u h => h) (fun v u h => h)
        intro po23x3 xx23x3 hp23x3 hx23x3
        refine g_enter2 (k := 270) (N := 300) (by first | exact dq1 hd rfl | exact dq0 hd rfl | exact dq2 hd rfl | exact dq3 hd rfl | omega) rfl (Nat.le_of_ble_eq_true rfl) ?_
        refine g_aload_n 1 (gd rfl) rfl rfl ?_
        refine g_iload_n 2 (gd rfl) rfl rfl ?_
        refine g_if_ne 5 9 (gd rfl) rfl rfl (fun c23x3x2 => ?_) (fun c23x3x2 => ?_)
        · skip
          exact zn_ne c23x3x2 (in_c 0 rfl) rfl
        · skip
          refine g_iconst 1 6 (gd rfl) rfl rfl ?_
          refine g_goto 18 (gd rfl) rfl ?_
          refine g_putI 21 (gd rfl) rfl rfl rfl rfl ?_
          have hI23x3x18 := inv_sF (q := 109) (j := 0) hI rfl (in_w 0 2 (in_c 1 rfl) rfl)
          refine g_aload_n 22 (gd rfl) rfl rfl ?_
          refine g_getI 25 (gd rfl) rfl rfl rfl (fun z23x3x22 e23x3x22 => ?_)
          have q23x3x22 : (Int32.ofInt 1) = z23x3x22 := (sF_get).trans e23x3x22.symm
          subst q23x3x22
          refine g_if_le 28 32 (gd rfl) rfl rfl (fun c23x3x25 => ?_) (fun c23x3x25 => ?_)
          · skip
            exact zn_le c23x3x25 (in_c 1 rfl) rfl
          · skip
            refine g_iconst 1 29 (gd rfl) rfl rfl ?_
            refine g_goto 33 (gd rfl) rfl ?_
            refine g_ireturn (gd rfl) rfl (nb01 (in_w 0 1 (in_c 1 rfl) rfl)) (hp23x3 _ _ ?_)
            show GG _ _ _ _ _ _ _ _ [.int (Int32.ofInt 1)] _ _ _
            refine g_ireturn (gd rfl) rfl (nb01 (in_w 0 1 (in_c 1 rfl) rfl)) (hp23 _ _ ?_)
            show GG _ _ _ _ _ _ _ _ [.int (Int32.ofInt 1)] _ _ _
            refine g_if_eq 29 31 (gd rfl) rfl rfl (fun c26 => ?_) (fun c26 => ?_)
            · skip
              exact zn_eq c26 (in_c 1 rfl) rfl
            · skip
              refine g_iconst 0 30 (gd rfl) rfl rfl ?_
              exact g_ireturn (gd rfl) rfl (nb01 (in_w 0 1 (in_c 0 rfl) rfl)) (hP _ _ ⟨(sF s 109 0 (Int32.ofInt 1)), hI23x3x18, (fr_sF rfl fr_rf), (Int32.ofInt 0), rfl, rfl, in_w 0 1 (in_c 0 rfl) rfl⟩)
      · skip
        exact zn_ne c7 (in_c 0 rfl) rfl
    · skip
      exact zn_ne c4x5 (in_c 0 rfl) rfl
  · skip
    have i4x2x1 := z_ge 0 2147483647 c4x2x1 (i_rng x1) rfl
    refine g_iload_n 5 (gd rfl) rfl rfl ?_
    refine g_aload_n 6 (gd rfl) rfl rfl ?_
    refine g_getI 9 (gd rfl) rfl rfl rfl (fun z4x2x6 e4x2x6 => ?_)
    have q4x2x6 : u_109_20 = z4x2x6 := (e_109_20).trans e4x2x6.symm
    subst q4x2x6
    refine g_cmp_ge 12 16 (gd rfl) rfl rfl (fun c4x2x9 => ?_) (fun c4x2x9 => ?_)
    · skip
      refine g_iconst 0 17 (gd rfl) rfl rfl ?_
      refine g_ireturn (gd rfl) rfl (nb01 (in_w 0 1 (in_c 0 rfl) rfl)) (hp4x2 _ _ ?_)
      show GG _ _ _ _ _ _ _ _ [.int (Int32.ofInt 0)] _ _ _
      refine g_if_eq 8 25 (gd rfl) rfl rfl (fun c4x5 => ?_) (fun c4x5 => ?_)
      · skip
        refine g_iconst 0 26 (gd rfl) rfl rfl ?_
        refine g_ireturn (gd rfl) rfl (nb01 (in_w 0 1 (in_c 0 rfl) rfl)) (hp4 _ _ ?_)
        show GG _ _ _ _ _ _ _ _ [.int (Int32.ofInt 0), .ref (A 109)] _ _ _
        refine g_if_eq 10 22 (gd rfl) rfl rfl (fun c7 => ?_) (fun c7 => ?_)
        · skip
          refine g_iconst 0 23 (gd rfl) rfl rfl ?_
          refine g_callv (X := _) (As := [.int (Int32.ofInt 0)]) (r := []) (b := A 109) (q := 109) 26 (gd rfl) rfl rfl rfl rfl rfl (ww_o rfl) (Nat.le_of_ble_eq_true rfl) (mc := 0) (ms := 0) (Nat.zero_le _) (Nat.zero_le _) (P := fun v u => _) ?_ (fun e u h => h) (fun v u h => h)
          intro po23 xx23 hp23 hx23
          refine g_enter2 (k := 271) (N := 300) (by first | exact dq1 hd rfl | exact dq0 hd rfl | exact dq2 hd rfl | exact dq3 hd rfl | omega) rfl (Nat.le_of_ble_eq_true rfl) ?_
          refine g_aload_n 1 (gd rfl) rfl rfl ?_
          refine g_iload_n 2 (gd rfl) rfl rfl ?_
          refine g_iconst 1 3 (gd rfl) rfl rfl ?_
          refine g_callv (X := _) (As := [.int (Int32.ofInt 0), .int (Int32.ofInt 1)]) (r := []) (b := A 109) (q := 109) 6 (gd rfl) rfl rfl rfl rfl rfl (ww_o rfl) (Nat.le_of_ble_eq_true rfl) (mc := 0) (ms := 0) (Nat.zero_le _) (Nat.zero_le _) (P := fun v u => _) ?_ (fun e u h => h) (fun v u h => h)
          intro po23x3 xx23x3 hp23x3 hx23x3
          refine g_enter2 (k := 270) (N := 300) (by first | exact dq1 hd rfl | exact dq0 hd rfl | exact dq2 hd rfl | exact dq3 hd rfl | omega) rfl (Nat.le_of_ble_eq_true rfl) ?_
          refine g_aload_n 1 (gd rfl) rfl rfl ?_
          refine g_iload_n 2 (gd rfl) rfl rfl ?_
          refine g_if_ne 5 9 (gd rfl) rfl rfl (fun c23x3x2 => ?_) (fun c23x3x2 => ?_)
          · skip
            exact zn_ne c23x3x2 (in_c 0 rfl) rfl
          · skip
            refine g_iconst 1 6 (gd rfl) rfl rfl ?_
            refine g_goto 18 (gd rfl) rfl ?_
            refine g_putI 21 (gd rfl) rfl rfl rfl rfl ?_
            have hI23x3x18 := inv_sF (q := 109) (j := 0) hI rfl (in_w 0 2 (in_c 1 rfl) rfl)
            refine g_aload_n 22 (gd rfl) rfl rfl ?_
            refine g_getI 25 (gd rfl) rfl rfl rfl (fun z23x3x22 e23x3x22 => ?_)
            have q23x3x22 : (Int32.ofInt 1) = z23x3x22 := (sF_get).trans e23x3x22.symm
            subst q23x3x22
            refine g_if_le 28 32 (gd rfl) rfl rfl (fun c23x3x25 => ?_) (fun c23x3x25 => ?_)
            · skip
              exact zn_le c23x3x25 (in_c 1 rfl) rfl
            · skip
              refine g_iconst 1 29 (gd rfl) rfl rfl ?_
              refine g_goto 33 (gd rfl) rfl ?_
              refine g_ireturn (gd rfl) rfl (nb01 (in_w 0 1 (in_c 1 rfl) rfl)) (hp23x3 _ _ ?_)
              show GG _ _ _ _ _ _ _ _ [.int (Int32.ofInt 1)] _ _ _
              refine g_ireturn (gd rfl) rfl (nb01 (in_w 0 1 (in_c 1 rfl) rfl)) (hp23 _ _ ?_)
              show GG _ _ _ _ _ _ _ _ [.int (Int32.ofInt 1)] _ _ _
              refine g_if_eq 29 31 (gd rfl) rfl rfl (fun c26 => ?_) (fun c26 => ?_)
              · skip
                exact zn_eq c26 (in_c 1 rfl) rfl
              · skip
                refine g_iconst 0 30 (gd rfl) rfl rfl ?_
                exact g_ireturn (gd rfl) rfl (nb01 (in_w 0 1 (in_c 0 rfl) rfl)) (hP _ _ ⟨(sF s 109 0 (Int32.ofInt 1)), hI23x3x18, (fr_sF rfl fr_rf), (Int32.ofInt 0), rfl, rfl, in_w 0 1 (in_c 0 rfl) rfl⟩)
        · skip
          exact zn_ne c7 (in_c 0 rfl) rfl
      · skip
        exact zn_ne c4x5 (in_c 0 rfl) rfl
    · skip
      have i4x2x9 := r_lt1 0 31 c4x2x9 i4x2x1 ro_109_20 rfl
      have i4x2x9a := r_lt2 1 32 c4x2x9 i4x2x1 ro_109_20 rfl
      refine g_iconst 1 13 (gd rfl) rfl rfl ?_
      refine g_goto 17 (gd rfl) rfl ?_
      refine g_ireturn (gd rfl) rfl (nb01 (in_w 0 1 (in_c 1 rfl) rfl)) (hp4x2 _ _ ?_)
      show GG _ _ _ _ _ _ _ _ [.int (Int32.ofInt 1)] _ _ _
      refine g_if_eq 8 25 (gd rfl) rfl rfl (fun c4x5 => ?_) (fun c4x5 => ?_)
      · skip
        exact zn_eq c4x5 (in_c 1 rfl) rfl
      · skip
        refine g_aload_n 9 (gd rfl) rfl rfl ?_
        refine g_iload_n 10 (gd rfl) rfl rfl ?_
        refine g_callv (X := _) (As := [.int x2]) (r := []) (b := A 109) (q := 109) 13 (gd rfl) rfl rfl rfl rfl rfl (ww_o rfl) (Nat.le_of_ble_eq_true rfl) (mc := 0) (ms := 0) (Nat.zero_le _) (Nat.zero_le _) (P := fun v u => _) ?_ (fun e u h => h) (fun v u h => h)
        intro po4x10 xx4x10 hp4x10 hx4x10
        refine g_enter2 (k := 272) (N := 300) (by first | exact dq1 hd rfl | exact dq0 hd rfl | exact dq2 hd rfl | exact dq3 hd rfl | omega) rfl (Nat.le_of_ble_eq_true rfl) ?_
        refine g_iload_n 1 (gd rfl) rfl rfl ?_
        refine g_if_lt 4 16 (gd rfl) rfl rfl (fun c4x10x1 => ?_) (fun c4x10x1 => ?_)
        · skip
          have i4x10x1 := z_lt (-2147483648) (-1) c4x10x1 (i_rng x2) rfl
          refine g_iconst 0 17 (gd rfl) rfl rfl ?_
          refine g_ireturn (gd rfl) rfl (nb01 (in_w 0 1 (in_c 0 rfl) rfl)) (hp4x10 _ _ ?_)
          show GG _ _ _ _ _ _ _ _ [.int (Int32.ofInt 0)] _ _ _
          refine g_if_eq 16 25 (gd rfl) rfl rfl (fun c4x13 => ?_) (fun c4x13 => ?_)
          · skip
            refine g_iconst 0 26 (gd rfl) rfl rfl ?_
            refine g_ireturn (gd rfl) rfl (nb01 (in_w 0 1 (in_c 0 rfl) rfl)) (hp4 _ _ ?_)
            show GG _ _ _ _ _ _ _ _ [.int (Int32.ofInt 0), .ref (A 109)] _ _ _
            refine g_if_eq 10 22 (gd rfl) rfl rfl (fun c7 => ?_) (fun c7 => ?_)
            · skip
              refine g_iconst 0 23 (gd rfl) rfl rfl ?_
              refine g_callv (X := _) (As := [.int (Int32.ofInt 0)]) (r := []) (b := A 109) (q := 109) 26 (gd rfl) rfl rfl rfl rfl rfl (ww_o rfl) (Nat.le_of_ble_eq_true rfl) (mc := 0) (ms := 0) (Nat.zero_le _) (Nat.zero_le _) (P := fun v u => _) ?_ (fun e u h => h) (fun v u h => h)
              intro po23 xx23 hp23 hx23
              refine g_enter2 (k := 271) (N := 300) (by first | exact dq1 hd rfl | exact dq0 hd rfl | exact dq2 hd rfl | exact dq3 hd rfl | omega) rfl (Nat.le_of_ble_eq_true rfl) ?_
              refine g_aload_n 1 (gd rfl) rfl rfl ?_
              refine g_iload_n 2 (gd rfl) rfl rfl ?_
              refine g_iconst 1 3 (gd rfl) rfl rfl ?_
              refine g_callv (X := _) (As := [.int (Int32.ofInt 0), .int (Int32.ofInt 1)]) (r := []) (b := A 109) (q := 109) 6 (gd rfl) rfl rfl rfl rfl rfl (ww_o rfl) (Nat.le_of_ble_eq_true rfl) (mc := 0) (ms := 0) (Nat.zero_le _) (Nat.zero_le _) (P := fun v u => _) ?_ (fun e u h => h) (fun v u h => h)
              intro po23x3 xx23x3 hp23x3 hx23x3
              refine g_enter2 (k := 270) (N := 300) (by first | exact dq1 hd rfl | exact dq0 hd rfl | exact dq2 hd rfl | exact dq3 hd rfl | omega) rfl (Nat.le_of_ble_eq_true rfl) ?_
              refine g_aload_n 1 (gd rfl) rfl rfl ?_
              refine g_iload_n 2 (gd rfl) rfl rfl ?_
              refine g_if_ne 5 9 (gd rfl) rfl rfl (fun c23x3x2 => ?_) (fun c23x3x2 => ?_)
              · skip
                exact zn_ne c23x3x2 (in_c 0 rfl) rfl
              · skip
                refine g_iconst 1 6 (gd rfl) rfl rfl ?_
                refine g_goto 18 (gd rfl) rfl ?_
                refine g_putI 21 (gd rfl) rfl rfl rfl rfl ?_
                have hI23x3x18 := inv_sF (q := 109) (j := 0) hI rfl (in_w 0 2 (in_c 1 rfl) rfl)
                refine g_aload_n 22 (gd rfl) rfl rfl ?_
                refine g_getI 25 (gd rfl) rfl rfl rfl (fun z23x3x22 e23x3x22 => ?_)
                have q23x3x22 : (Int32.ofInt 1) = z23x3x22 := (sF_get).trans e23x3x22.symm
                subst q23x3x22
                refine g_if_le 28 32 (gd rfl) rfl rfl (fun c23x3x25 => ?_) (fun c23x3x25 => ?_)
                · skip
                  exact zn_le c23x3x25 (in_c 1 rfl) rfl
                · skip
                  refine g_iconst 1 29 (gd rfl) rfl rfl ?_
                  refine g_goto 33 (gd rfl) rfl ?_
                  refine g_ireturn (gd rfl) rfl (nb01 (in_w 0 1 (in_c 1 rfl) rfl)) (hp23x3 _ _ ?_)
                  show GG _ _ _ _ _ _ _ _ [.int (Int32.ofInt 1)] _ _ _
                  refine g_ireturn (gd rfl) rfl (nb01 (in_w 0 1 (in_c 1 rfl) rfl)) (hp23 _ _ ?_)
                  show GG _ _ _ _ _ _ _ _ [.int (Int32.ofInt 1)] _ _ _
                  refine g_if_eq 29 31 (gd rfl) rfl rfl (fun c26 => ?_) (fun c26 => ?_)
                  · skip
                    exact zn_eq c26 (in_c 1 rfl) rfl
                  · skip
                    refine g_iconst 0 30 (gd rfl) rfl rfl ?_
                    exact g_ireturn (gd rfl) rfl (nb01 (in_w 0 1 (in_c 0 rfl) rfl)) (hP _ _ ⟨(sF s 109 0 (Int32.ofInt 1)), hI23x3x18, (fr_sF rfl fr_rf), (Int32.ofInt 0), rfl, rfl, in_w 0 1 (in_c 0 rfl) rfl⟩)
            · skip
              exact zn_ne c7 (in_c 0 rfl) rfl
          · skip
            exact zn_ne c4x13 (in_c 0 rfl) rfl
        · skip
          have i4x10x1 := z_ge 0 2147483647 c4x10x1 (i_rng x2) rfl
          refine g_iload_n 5 (gd rfl) rfl rfl ?_
          refine g_aload_n 6 (gd rfl) rfl rfl ?_
          refine g_getI 9 (gd rfl) rfl rfl rfl (fun z4x10x6 e4x10x6 => ?_)
          have q4x10x6 : u_109_20 = z4x10x6 := (e_109_20).trans e4x10x6.symm
          subst q4x10x6
          refine g_cmp_ge 12 16 (gd rfl) rfl rfl (fun c4x10x9 => ?_) (fun c4x10x9 => ?_)
          · skip
            have i4x10x9 := r_le2 1 2147483647 c4x10x9 i4x2x9a i4x10x1 rfl
            refine g_iconst 0 17 (gd rfl) rfl rfl ?_
            refine g_ireturn (gd rfl) rfl (nb01 (in_w 0 1 (in_c 0 rfl) rfl)) (hp4x10 _ _ ?_)
            show GG _ _ _ _ _ _ _ _ [.int (Int32.ofInt 0)] _ _ _
            refine g_if_eq 16 25 (gd rfl) rfl rfl (fun c4x13 => ?_) (fun c4x13 => ?_)
            · skip
              refine g_iconst 0 26 (gd rfl) rfl rfl ?_
              refine g_ireturn (gd rfl) rfl (nb01 (in_w 0 1 (in_c 0 rfl) rfl)) (hp4 _ _ ?_)
              show GG _ _ _ _ _ _ _ _ [.int (Int32.ofInt 0), .ref (A 109)] _ _ _
              refine g_if_eq 10 22 (gd rfl) rfl rfl (fun c7 => ?_) (fun c7 => ?_)
              · skip
                refine g_iconst 0 23 (gd rfl) rfl rfl ?_
                refine g_callv (X := _) (As := [.int (Int32.ofInt 0)]) (r := []) (b := A 109) (q := 109) 26 (gd rfl) rfl rfl rfl rfl rfl (ww_o rfl) (Nat.le_of_ble_eq_true rfl) (mc := 0) (ms := 0) (Nat.zero_le _) (Nat.zero_le _) (P := fun v u => _) ?_ (fun e u h => h) (fun v u h => h)
                intro po23 xx23 hp23 hx23
                refine g_enter2 (k := 271) (N := 300) (by first | exact dq1 hd rfl | exact dq0 hd rfl | exact dq2 hd rfl | exact dq3 hd rfl | omega) rfl (Nat.le_of_ble_eq_true rfl) ?_
                refine g_aload_n 1 (gd rfl) rfl rfl ?_
                refine g_iload_n 2 (gd rfl) rfl rfl ?_
                refine g_iconst 1 3 (gd rfl) rfl rfl ?_
                refine g_callv (X := _) (As := [.int (Int32.ofInt 0), .int (Int32.ofInt 1)]) (r := []) (b := A 109) (q := 109) 6 (gd rfl) rfl rfl rfl rfl rfl (ww_o rfl) (Nat.le_of_ble_eq_true rfl) (mc := 0) (ms := 0) (Nat.zero_le _) (Nat.zero_le _) (P := fun v u => _) ?_ (fun e u h => h) (fun v u h => h)
                intro po23x3 xx23x3 hp23x3 hx23x3
                refine g_enter2 (k := 270) (N := 300) (by first | exact dq1 hd rfl | exact dq0 hd rfl | exact dq2 hd rfl | exact dq3 hd rfl | omega) rfl (Nat.le_of_ble_eq_true rfl) ?_
                refine g_aload_n 1 (gd rfl) rfl rfl ?_
                refine g_iload_n 2 (gd rfl) rfl rfl ?_
                refine g_if_ne 5 9 (gd rfl) rfl rfl (fun c23x3x2 => ?_) (fun c23x3x2 => ?_)
                · skip
                  exact zn_ne c23x3x2 (in_c 0 rfl) rfl
                · skip
                  refine g_iconst 1 6 (gd rfl) rfl rfl ?_
                  refine g_goto 18 (gd rfl) rfl ?_
                  refine g_putI 21 (gd rfl) rfl rfl rfl rfl ?_
                  have hI23x3x18 := inv_sF (q := 109) (j := 0) hI rfl (in_w 0 2 (in_c 1 rfl) rfl)
                  refine g_aload_n 22 (gd rfl) rfl rfl ?_
                  refine g_getI 25 (gd rfl) rfl rfl rfl (fun z23x3x22 e23x3x22 => ?_)
                  have q23x3x22 : (Int32.ofInt 1) = z23x3x22 := (sF_get).trans e23x3x22.symm
                  subst q23x3x22
                  refine g_if_le 28 32 (gd rfl) rfl rfl (fun c23x3x25 => ?_) (fun c23x3x25 => ?_)
                  · skip
                    exact zn_le c23x3x25 (in_c 1 rfl) rfl
                  · skip
                    refine g_iconst 1 29 (gd rfl) rfl rfl ?_
                    refine g_goto 33 (gd rfl) rfl ?_
                    refine g_ireturn (gd rfl) rfl (nb01 (in_w 0 1 (in_c 1 rfl) rfl)) (hp23x3 _ _ ?_)
                    show GG _ _ _ _ _ _ _ _ [.int (Int32.ofInt 1)] _ _ _
                    refine g_ireturn (gd rfl) rfl (nb01 (in_w 0 1 (in_c 1 rfl) rfl)) (hp23 _ _ ?_)
                    show GG _ _ _ _ _ _ _ _ [.int (Int32.ofInt 1)] _ _ _
                    refine g_if_eq 29 31 (gd rfl) rfl rfl (fun c26 => ?_) (fun c26 => ?_)
                    · skip
                      exact zn_eq c26 (in_c 1 rfl) rfl
                    · skip
                      refine g_iconst 0 30 (gd rfl) rfl rfl ?_
                      exact g_ireturn (gd rfl) rfl (nb01 (in_w 0 1 (in_c 0 rfl) rfl)) (hP _ _ ⟨(sF s 109 0 (Int32.ofInt 1)), hI23x3x18, (fr_sF rfl fr_rf), (Int32.ofInt 0), rfl, rfl, in_w 0 1 (in_c 0 rfl) rfl⟩)
              · skip
                exact zn_ne c7 (in_c 0 rfl) rfl
            · skip
              exact zn_ne c4x13 (in_c 0 rfl) rfl
          · skip
            have i4x10x9 := r_lt1 0 31 c4x10x9 i4x10x1 i4x2x9a rfl
            refine g_iconst 1 13 (gd rfl) rfl rfl ?_
            refine g_goto 17 (gd rfl) rfl ?_
            refine g_ireturn (gd rfl) rfl (nb01 (in_w 0 1 (in_c 1 rfl) rfl)) (hp4x10 _ _ ?_)
            show GG _ _ _ _ _ _ _ _ [.int (Int32.ofInt 1)] _ _ _
            refine g_if_eq 16 25 (gd rfl) rfl rfl (fun c4x13 => ?_) (fun c4x13 => ?_)
            · skip
              exact zn_eq c4x13 (in_c 1 rfl) rfl
            · skip
              refine g_iload_n 17 (gd rfl) rfl rfl ?_
              refine g_iload_n 18 (gd rfl) rfl rfl ?_
              refine g_cmp_eq 21 25 (gd rfl) rfl rfl (fun c4x18 => ?_) (fun c4x18 => ?_)
              · skip
                refine g_iconst 0 26 (gd rfl) rfl rfl ?_
                refine g_ireturn (gd rfl) rfl (nb01 (in_w 0 1 (in_c 0 rfl) rfl)) (hp4 _ _ ?_)
                show GG _ _ _ _ _ _ _ _ [.int (Int32.ofInt 0), .ref (A 109)] _ _ _
                refine g_if_eq 10 22 (gd rfl) rfl rfl (fun c7 => ?_) (fun c7 => ?_)
                · skip
                  refine g_iconst 0 23 (gd rfl) rfl rfl ?_
                  refine g_callv (X := _) (As := [.int (Int32.ofInt 0)]) (r := []) (b := A 109) (q := 109) 26 (gd rfl) rfl rfl rfl rfl rfl (ww_o rfl) (Nat.le_of_ble_eq_true rfl) (mc := 0) (ms := 0) (Nat.zero_le _) (Nat.zero_le _) (P := fun v u => _) ?_ (fun e u h => h) (fun v u h => h)
                  intro po23 xx23 hp23 hx23
                  refine g_enter2 (k := 271) (N := 300) (by first | exact dq1 hd rfl | exact dq0 hd rfl | exact dq2 hd rfl | exact dq3 hd rfl | omega) rfl (Nat.le_of_ble_eq_true rfl) ?_
                  refine g_aload_n 1 (gd rfl) rfl rfl ?_
                  refine g_iload_n 2 (gd rfl) rfl rfl ?_
                  refine g_iconst 1 3 (gd rfl) rfl rfl ?_
                  refine g_callv (X := _) (As := [.int (Int32.ofInt 0), .int (Int32.ofInt 1)]) (r := []) (b := A 109) (q := 109) 6 (gd rfl) rfl rfl rfl rfl rfl (ww_o rfl) (Nat.le_of_ble_eq_true rfl) (mc := 0) (ms := 0) (Nat.zero_le _) (Nat.zero_le _) (P := fun v u => _) ?_ (fun e u h => h) (fun v u h => h)
                  intro po23x3 xx23x3 hp23x3 hx23x3
                  refine g_enter2 (k := 270) (N := 300) (by first | exact dq1 hd rfl | exact dq0 hd rfl | exact dq2 hd rfl | exact dq3 hd rfl | omega) rfl (Nat.le_of_ble_eq_true rfl) ?_
                  refine g_aload_n 1 (gd rfl) rfl rfl ?_
                  refine g_iload_n 2 (gd rfl) rfl rfl ?_
                  refine g_if_ne 5 9 (gd rfl) rfl rfl (fun c23x3x2 => ?_) (fun c23x3x2 => ?_)
                  · skip
                    exact zn_ne c23x3x2 (in_c 0 rfl) rfl
                  · skip
                    refine g_iconst 1 6 (gd rfl) rfl rfl ?_
                    refine g_goto 18 (gd rfl) rfl ?_
                    refine g_putI 21 (gd rfl) rfl rfl rfl rfl ?_
                    have hI23x3x18 := inv_sF (q := 109) (j := 0) hI rfl (in_w 0 2 (in_c 1 rfl) rfl)
                    refine g_aload_n 22 (gd rfl) rfl rfl ?_
                    refine g_getI 25 (gd rfl) rfl rfl rfl (fun z23x3x22 e23x3x22 => ?_)
                    have q23x3x22 : (Int32.ofInt 1) = z23x3x22 := (sF_get).trans e23x3x22.symm
                    subst q23x3x22
                    refine g_if_le 28 32 (gd rfl) rfl rfl (fun c23x3x25 => ?_) (fun c23x3x25 => ?_)
                    · skip
                      exact zn_le c23x3x25 (in_c 1 rfl) rfl
                    · skip
                      refine g_iconst 1 29 (gd rfl) rfl rfl ?_
                      refine g_goto 33 (gd rfl) rfl ?_
                      refine g_ireturn (gd rfl) rfl (nb01 (in_w 0 1 (in_c 1 rfl) rfl)) (hp23x3 _ _ ?_)
                      show GG _ _ _ _ _ _ _ _ [.int (Int32.ofInt 1)] _ _ _
                      refine g_ireturn (gd rfl) rfl (nb01 (in_w 0 1 (in_c 1 rfl) rfl)) (hp23 _ _ ?_)
                      show GG _ _ _ _ _ _ _ _ [.int (Int32.ofInt 1)] _ _ _
                      refine g_if_eq 29 31 (gd rfl) rfl rfl (fun c26 => ?_) (fun c26 => ?_)
                      · skip
                        exact zn_eq c26 (in_c 1 rfl) rfl
                      · skip
                        refine g_iconst 0 30 (gd rfl) rfl rfl ?_
                        exact g_ireturn (gd rfl) rfl (nb01 (in_w 0 1 (in_c 0 rfl) rfl)) (hP _ _ ⟨(sF s 109 0 (Int32.ofInt 1)), hI23x3x18, (fr_sF rfl fr_rf), (Int32.ofInt 0), rfl, rfl, in_w 0 1 (in_c 0 rfl) rfl⟩)
                · skip
                  exact zn_ne c7 (in_c 0 rfl) rfl
              · skip
                refine g_iconst 1 22 (gd rfl) rfl rfl ?_
                refine g_goto 26 (gd rfl) rfl ?_
                refine g_ireturn (gd rfl) rfl (nb01 (in_w 0 1 (in_c 1 rfl) rfl)) (hp4 _ _ ?_)
                show GG _ _ _ _ _ _ _ _ [.int (Int32.ofInt 1), .ref (A 109)] _ _ _
                refine g_if_eq 10 22 (gd rfl) rfl rfl (fun c7 => ?_) (fun c7 => ?_)
                · skip
                  exact zn_eq c7 (in_c 1 rfl) rfl
                · skip
                  refine g_aload_n 11 (gd rfl) rfl rfl ?_
                  refine g_iload_n 12 (gd rfl) rfl rfl ?_
                  refine g_callv (X := _) (As := [.int x3]) (r := [.ref (A 109)]) (b := A 109) (q := 109) 15 (gd rfl) rfl rfl rfl rfl rfl (ww_o rfl) (Nat.le_of_ble_eq_true rfl) (mc := 0) (ms := 0) (Nat.zero_le _) (Nat.zero_le _) (P := fun v u => _) ?_ (fun e u h => h) (fun v u h => h)
                  intro po12 xx12 hp12 hx12
                  refine g_enter2 (k := 272) (N := 300) (by first | exact dq1 hd rfl | exact dq0 hd rfl | exact dq2 hd rfl | exact dq3 hd rfl | omega) rfl (Nat.le_of_ble_eq_true rfl) ?_
                  refine g_iload_n 1 (gd rfl) rfl rfl ?_
                  refine g_if_lt 4 16 (gd rfl) rfl rfl (fun c12x1 => ?_) (fun c12x1 => ?_)
                  · skip
                    have i12x1 := z_lt (-2147483648) (-1) c12x1 (i_rng x3) rfl
                    refine g_iconst 0 17 (gd rfl) rfl rfl ?_
                    refine g_ireturn (gd rfl) rfl (nb01 (in_w 0 1 (in_c 0 rfl) rfl)) (hp12 _ _ ?_)
                    show GG _ _ _ _ _ _ _ _ [.int (Int32.ofInt 0), .ref (A 109)] _ _ _
                    refine g_if_eq 18 22 (gd rfl) rfl rfl (fun c15 => ?_) (fun c15 => ?_)
                    · skip
                      refine g_iconst 0 23 (gd rfl) rfl rfl ?_
                      refine g_callv (X := _) (As := [.int (Int32.ofInt 0)]) (r := []) (b := A 109) (q := 109) 26 (gd rfl) rfl rfl rfl rfl rfl (ww_o rfl) (Nat.le_of_ble_eq_true rfl) (mc := 0) (ms := 0) (Nat.zero_le _) (Nat.zero_le _) (P := fun v u => _) ?_ (fun e u h => h) (fun v u h => h)
                      intro po23 xx23 hp23 hx23
                      refine g_enter2 (k := 271) (N := 300) (by first | exact dq1 hd rfl | exact dq0 hd rfl | exact dq2 hd rfl | exact dq3 hd rfl | omega) rfl (Nat.le_of_ble_eq_true rfl) ?_
                      refine g_aload_n 1 (gd rfl) rfl rfl ?_
                      refine g_iload_n 2 (gd rfl) rfl rfl ?_
                      refine g_iconst 1 3 (gd rfl) rfl rfl ?_
                      refine g_callv (X := _) (As := [.int (Int32.ofInt 0), .int (Int32.ofInt 1)]) (r := []) (b := A 109) (q := 109) 6 (gd rfl) rfl rfl rfl rfl rfl (ww_o rfl) (Nat.le_of_ble_eq_true rfl) (mc := 0) (ms := 0) (Nat.zero_le _) (Nat.zero_le _) (P := fun v u => _) ?_ (fun e u h => h) (fun v u h => h)
                      intro po23x3 xx23x3 hp23x3 hx23x3
                      refine g_enter2 (k := 270) (N := 300) (by first | exact dq1 hd rfl | exact dq0 hd rfl | exact dq2 hd rfl | exact dq3 hd rfl | omega) rfl (Nat.le_of_ble_eq_true rfl) ?_
                      refine g_aload_n 1 (gd rfl) rfl rfl ?_
                      refine g_iload_n 2 (gd rfl) rfl rfl ?_
                      refine g_if_ne 5 9 (gd rfl) rfl rfl (fun c23x3x2 => ?_) (fun c23x3x2 => ?_)
                      · skip
                        exact zn_ne c23x3x2 (in_c 0 rfl) rfl
                      · skip
                        refine g_iconst 1 6 (gd rfl) rfl rfl ?_
                        refine g_goto 18 (gd rfl) rfl ?_
                        refine g_putI 21 (gd rfl) rfl rfl rfl rfl ?_
                        have hI23x3x18 := inv_sF (q := 109) (j := 0) hI rfl (in_w 0 2 (in_c 1 rfl) rfl)
                        refine g_aload_n 22 (gd rfl) rfl rfl ?_
                        refine g_getI 25 (gd rfl) rfl rfl rfl (fun z23x3x22 e23x3x22 => ?_)
                        have q23x3x22 : (Int32.ofInt 1) = z23x3x22 := (sF_get).trans e23x3x22.symm
                        subst q23x3x22
                        refine g_if_le 28 32 (gd rfl) rfl rfl (fun c23x3x25 => ?_) (fun c23x3x25 => ?_)
                        · skip
                          exact zn_le c23x3x25 (in_c 1 rfl) rfl
                        · skip
                          refine g_iconst 1 29 (gd rfl) rfl rfl ?_
                          refine g_goto 33 (gd rfl) rfl ?_
                          refine g_ireturn (gd rfl) rfl (nb01 (in_w 0 1 (in_c 1 rfl) rfl)) (hp23x3 _ _ ?_)
                          show GG _ _ _ _ _ _ _ _ [.int (Int32.ofInt 1)] _ _ _
                          refine g_ireturn (gd rfl) rfl (nb01 (in_w 0 1 (in_c 1 rfl) rfl)) (hp23 _ _ ?_)
                          show GG _ _ _ _ _ _ _ _ [.int (Int32.ofInt 1)] _ _ _
                          refine g_if_eq 29 31 (gd rfl) rfl rfl (fun c26 => ?_) (fun c26 => ?_)
                          · skip
                            exact zn_eq c26 (in_c 1 rfl) rfl
                          · skip
                            refine g_iconst 0 30 (gd rfl) rfl rfl ?_
                            exact g_ireturn (gd rfl) rfl (nb01 (in_w 0 1 (in_c 0 rfl) rfl)) (hP _ _ ⟨(sF s 109 0 (Int32.ofInt 1)), hI23x3x18, (fr_sF rfl fr_rf), (Int32.ofInt 0), rfl, rfl, in_w 0 1 (in_c 0 rfl) rfl⟩)
                    · skip
                      exact zn_ne c15 (in_c 0 rfl) rfl
                  · skip
                    have i12x1 := z_ge 0 2147483647 c12x1 (i_rng x3) rfl
                    refine g_iload_n 5 (gd rfl) rfl rfl ?_
                    refine g_aload_n 6 (gd rfl) rfl rfl ?_
                    refine g_getI 9 (gd rfl) rfl rfl rfl (fun z12x6 e12x6 => ?_)
                    have q12x6 : u_109_20 = z12x6 := (e_109_20).trans e12x6.symm
                    subst q12x6
                    refine g_cmp_ge 12 16 (gd rfl) rfl rfl (fun c12x9 => ?_) (fun c12x9 => ?_)
                    · skip
                      have i12x9 := r_le2 1 2147483647 c12x9 i4x2x9a i12x1 rfl
                      refine g_iconst 0 17 (gd rfl) rfl rfl ?_
                      refine g_ireturn (gd rfl) rfl (nb01 (in_w 0 1 (in_c 0 rfl) rfl)) (hp12 _ _ ?_)
                      show GG _ _ _ _ _ _ _ _ [.int (Int32.ofInt 0), .ref (A 109)] _ _ _
                      refine g_if_eq 18 22 (gd rfl) rfl rfl (fun c15 => ?_) (fun c15 => ?_)
                      · skip
                        refine g_iconst 0 23 (gd rfl) rfl rfl ?_
                        refine g_callv (X := _) (As := [.int (Int32.ofInt 0)]) (r := []) (b := A 109) (q := 109) 26 (gd rfl) rfl rfl rfl rfl rfl (ww_o rfl) (Nat.le_of_ble_eq_true rfl) (mc := 0) (ms := 0) (Nat.zero_le _) (Nat.zero_le _) (P := fun v u => _) ?_ (fun e u h => h) (fun v u h => h)
                        intro po23 xx23 hp23 hx23
                        refine g_enter2 (k := 271) (N := 300) (by first | exact dq1 hd rfl | exact dq0 hd rfl | exact dq2 hd rfl | exact dq3 hd rfl | omega) rfl (Nat.le_of_ble_eq_true rfl) ?_
                        refine g_aload_n 1 (gd rfl) rfl rfl ?_
                        refine g_iload_n 2 (gd rfl) rfl rfl ?_
                        refine g_iconst 1 3 (gd rfl) rfl rfl ?_
                        refine g_callv (X := _) (As := [.int (Int32.ofInt 0), .int (Int32.ofInt 1)]) (r := []) (b := A 109) (q := 109) 6 (gd rfl) rfl rfl rfl rfl rfl (ww_o rfl) (Nat.le_of_ble_eq_true rfl) (mc := 0) (ms := 0) (Nat.zero_le _) (Nat.zero_le _) (P := fun v u => _) ?_ (fun e u h => h) (fun v u h => h)
                        intro po23x3 xx23x3 hp23x3 hx23x3
                        refine g_enter2 (k := 270) (N := 300) (by first | exact dq1 hd rfl | exact dq0 hd rfl | exact dq2 hd rfl | exact dq3 hd rfl | omega) rfl (Nat.le_of_ble_eq_true rfl) ?_
                        refine g_aload_n 1 (gd rfl) rfl rfl ?_
                        refine g_iload_n 2 (gd rfl) rfl rfl ?_
                        refine g_if_ne 5 9 (gd rfl) rfl rfl (fun c23x3x2 => ?_) (fun c23x3x2 => ?_)
                        · skip
                          exact zn_ne c23x3x2 (in_c 0 rfl) rfl
                        · skip
                          refine g_iconst 1 6 (gd rfl) rfl rfl ?_
                          refine g_goto 18 (gd rfl) rfl ?_
                          refine g_putI 21 (gd rfl) rfl rfl rfl rfl ?_
                          have hI23x3x18 := inv_sF (q := 109) (j := 0) hI rfl (in_w 0 2 (in_c 1 rfl) rfl)
                          refine g_aload_n 22 (gd rfl) rfl rfl ?_
                          refine g_getI 25 (gd rfl) rfl rfl rfl (fun z23x3x22 e23x3x22 => ?_)
                          have q23x3x22 : (Int32.ofInt 1) = z23x3x22 := (sF_get).trans e23x3x22.symm
                          subst q23x3x22
                          refine g_if_le 28 32 (gd rfl) rfl rfl (fun c23x3x25 => ?_) (fun c23x3x25 => ?_)
                          · skip
                            exact zn_le c23x3x25 (in_c 1 rfl) rfl
                          · skip
                            refine g_iconst 1 29 (gd rfl) rfl rfl ?_
                            refine g_goto 33 (gd rfl) rfl ?_
                            refine g_ireturn (gd rfl) rfl (nb01 (in_w 0 1 (in_c 1 rfl) rfl)) (hp23x3 _ _ ?_)
                            show GG _ _ _ _ _ _ _ _ [.int (Int32.ofInt 1)] _ _ _
                            refine g_ireturn (gd rfl) rfl (nb01 (in_w 0 1 (in_c 1 rfl) rfl)) (hp23 _ _ ?_)
                            show GG _ _ _ _ _ _ _ _ [.int (Int32.ofInt 1)] _ _ _
                            refine g_if_eq 29 31 (gd rfl) rfl rfl (fun c26 => ?_) (fun c26 => ?_)
                            · skip
                              exact zn_eq c26 (in_c 1 rfl) rfl
                            · skip
                              refine g_iconst 0 30 (gd rfl) rfl rfl ?_
                              exact g_ireturn (gd rfl) rfl (nb01 (in_w 0 1 (in_c 0 rfl) rfl)) (hP _ _ ⟨(sF s 109 0 (Int32.ofInt 1)), hI23x3x18, (fr_sF rfl fr_rf), (Int32.ofInt 0), rfl, rfl, in_w 0 1 (in_c 0 rfl) rfl⟩)
                      · skip
                        exact zn_ne c15 (in_c 0 rfl) rfl
                    · skip
                      have i12x9 := r_lt1 0 31 c12x9 i12x1 i4x2x9a rfl
                      refine g_iconst 1 13 (gd rfl) rfl rfl ?_
                      refine g_goto 17 (gd rfl) rfl ?_
                      refine g_ireturn (gd rfl) rfl (nb01 (in_w 0 1 (in_c 1 rfl) rfl)) (hp12 _ _ ?_)
                      show GG _ _ _ _ _ _ _ _ [.int (Int32.ofInt 1), .ref (A 109)] _ _ _
                      refine g_if_eq 18 22 (gd rfl) rfl rfl (fun c15 => ?_) (fun c15 => ?_)
                      · skip
                        exact zn_eq c15 (in_c 1 rfl) rfl
                      · skip
                        refine g_iconst 1 19 (gd rfl) rfl rfl ?_
                        refine g_goto 23 (gd rfl) rfl ?_
                        refine g_callv (X := _) (As := [.int (Int32.ofInt 1)]) (r := []) (b := A 109) (q := 109) 26 (gd rfl) rfl rfl rfl rfl rfl (ww_o rfl) (Nat.le_of_ble_eq_true rfl) (mc := 0) (ms := 0) (Nat.zero_le _) (Nat.zero_le _) (P := fun v u => _) ?_ (fun e u h => h) (fun v u h => h)
                        intro po23 xx23 hp23 hx23
                        refine g_enter2 (k := 271) (N := 300) (by first | exact dq1 hd rfl | exact dq0 hd rfl | exact dq2 hd rfl | exact dq3 hd rfl | omega) rfl (Nat.le_of_ble_eq_true rfl) ?_
                        refine g_aload_n 1 (gd rfl) rfl rfl ?_
                        refine g_iload_n 2 (gd rfl) rfl rfl ?_
                        refine g_iconst 1 3 (gd rfl) rfl rfl ?_
                        refine g_callv (X := _) (As := [.int (Int32.ofInt 1), .int (Int32.ofInt 1)]) (r := []) (b := A 109) (q := 109) 6 (gd rfl) rfl rfl rfl rfl rfl (ww_o rfl) (Nat.le_of_ble_eq_true rfl) (mc := 0) (ms := 0) (Nat.zero_le _) (Nat.zero_le _) (P := fun v u => _) ?_ (fun e u h => h) (fun v u h => h)
                        intro po23x3 xx23x3 hp23x3 hx23x3
                        refine g_enter2 (k := 270) (N := 300) (by first | exact dq1 hd rfl | exact dq0 hd rfl | exact dq2 hd rfl | exact dq3 hd rfl | omega) rfl (Nat.le_of_ble_eq_true rfl) ?_
                        refine g_aload_n 1 (gd rfl) rfl rfl ?_
                        refine g_iload_n 2 (gd rfl) rfl rfl ?_
                        refine g_if_ne 5 9 (gd rfl) rfl rfl (fun c23x3x2 => ?_) (fun c23x3x2 => ?_)
                        · skip
                          refine g_iload_n 10 (gd rfl) rfl rfl ?_
                          refine g_if_ne 13 17 (gd rfl) rfl rfl (fun c23x3x10 => ?_) (fun c23x3x10 => ?_)
                          · skip
                            refine g_iconst 0 18 (gd rfl) rfl rfl ?_
                            refine g_putI 21 (gd rfl) rfl rfl rfl rfl ?_
                            have hI23x3x18 := inv_sF (q := 109) (j := 0) hI rfl (in_w 0 2 (in_c 0 rfl) rfl)
                            refine g_aload_n 22 (gd rfl) rfl rfl ?_
                            refine g_getI 25 (gd rfl) rfl rfl rfl (fun z23x3x22 e23x3x22 => ?_)
                            have q23x3x22 : (Int32.ofInt 0) = z23x3x22 := (sF_get).trans e23x3x22.symm
                            subst q23x3x22
                            refine g_if_le 28 32 (gd rfl) rfl rfl (fun c23x3x25 => ?_) (fun c23x3x25 => ?_)
                            · skip
                              refine g_iconst 0 33 (gd rfl) rfl rfl ?_
                              refine g_ireturn (gd rfl) rfl (nb01 (in_w 0 1 (in_c 0 rfl) rfl)) (hp23x3 _ _ ?_)
                              show GG _ _ _ _ _ _ _ _ [.int (Int32.ofInt 0)] _ _ _
                              refine g_ireturn (gd rfl) rfl (nb01 (in_w 0 1 (in_c 0 rfl) rfl)) (hp23 _ _ ?_)
                              show GG _ _ _ _ _ _ _ _ [.int (Int32.ofInt 0)] _ _ _
                              refine g_if_eq 29 31 (gd rfl) rfl rfl (fun c26 => ?_) (fun c26 => ?_)
                              · skip
                                refine g_aload_n 32 (gd rfl) rfl rfl ?_
                                refine g_iload_n 33 (gd rfl) rfl rfl ?_
                                refine g_iload_n 34 (gd rfl) rfl rfl ?_
                                have p34 : (x2).toInt < ((sF s 109 0 (Int32.ofInt 0)).2.2.1 109 20).toInt ∧ (x1).toInt ≠ (x2).toInt := by exact ⟨by rw [← (show u_109_20 = (sF s 109 0 (Int32.ofInt 0)).2.2.1 109 20 from sF_ne rfl (e_109_20))]; have a0 := oa5 i12x9 i4x10x9 i4x2x9 i4x2x9a ((in_c 0 rfl)); omega, by have a0 := oa5 i12x9 i4x10x9 i4x2x9 i4x2x9a ((in_c 0 rfl)); omega⟩
                                refine g_callv (X := _) (As := [.int x1, .int x2]) (r := []) (b := A 109) (q := 109) 37 (gd rfl) rfl rfl rfl rfl rfl (ww_o rfl) (Nat.le_of_ble_eq_true rfl) (Nat.zero_le _) (Nat.zero_le _) (k_352 (by first | exact dq1 hd rfl | exact dq0 hd rfl | exact dq2 hd rfl | exact dq3 hd rfl | omega) hI23x3x18 (in_w 0 31 i4x2x9 rfl) (in_w 0 31 i4x10x9 rfl) p34) (fun e u h => h) (fun v u h => ?_)
                                obtain ⟨s34, hI34, hF34, z34, rfl, rfl⟩ := h
                                show GG _ _ _ _ _ _ _ _ [.long z34] _ _ _
                                refine g_lstore 39 (gd rfl) rfl (Nat.le_of_ble_eq_true rfl) ?_
                                refine g_aload_n 40 (gd rfl) rfl rfl ?_
                                refine g_getA (q2 := 148) 43 (gd rfl) rfl rfl rfl rfl ?_
                                refine g_iload_n 44 (gd rfl) rfl rfl ?_
                                refine g_iaload 45 (gd rfl) rfl (n := 34) rfl (in_ix i12x9 rfl) (fun z44 e44 => ?_)
                                have i44 := inv_I hI34 (n := 34) (t := 0) (-1) 1000 rfl (in_ix i12x9 rfl) rfl e44
                                refine g_if_lt 48 52 (gd rfl) rfl rfl (fun c45 => ?_) (fun c45 => ?_)
                                · skip
                                  have i45 := z_lt (-1) (-1) c45 i44 rfl
                                  refine g_iconst 0 53 (gd rfl) rfl rfl ?_
                                  exact g_ireturn (gd rfl) rfl (nb01 (in_w 0 1 (in_c 0 rfl) rfl)) (hP _ _ ⟨s34, hI34, (fr_tr rfl (fr_sF rfl fr_rf) hF34), (Int32.ofInt 0), rfl, rfl, in_w 0 1 (in_c 0 rfl) rfl⟩)
                                · skip
                                  have i45 := z_ge 0 1000 c45 i44 rfl
                                  refine g_iconst 1 49 (gd rfl) rfl rfl ?_
                                  refine g_goto 53 (gd rfl) rfl ?_
                                  exact g_ireturn (gd rfl) rfl (nb01 (in_w 0 1 (in_c 1 rfl) rfl)) (hP _ _ ⟨s34, hI34, (fr_tr rfl (fr_sF rfl fr_rf) hF34), (Int32.ofInt 1), rfl, rfl, in_w 0 1 (in_c 1 rfl) rfl⟩)
                              · skip
                                exact zn_ne c26 (in_c 0 rfl) rfl
                            · skip
                              exact zn_gt c23x3x25 (in_c 0 rfl) rfl
                          · skip
                            exact zn_eq c23x3x10 (in_c 1 rfl) rfl
                        · skip
                          exact zn_eq c23x3x2 (in_c 1 rfl) rfl
end
section
/-! methods, by vc.py -/
def fm_358 : FM := ([148], [147, 149, 150], [], [])
/-- GraphHouseModel.sends -/
theorem k_358 {Z : AmZ} {A : Nat → Nat} {s : GS} {ex : va_W} {d : Nat} {X : AmX} {x1 : Int32} (hd : 2 ≤ d) (hI : Inv s) (h1 : In x1 0 31) (q_0 : CO s) (q_1 : SU s) (q_2 : (x1).toInt < (s.2.2.1 109 20).toInt ∧ 0 < (s.2.1 150 (x1).toNatClampNeg).toInt) : GC Z d 358 [.ref (A 109), .int x1] (WW Z A s ++ ex) 0 0 (fun v u => ∃ t : GS, Inv t ∧ Fr fm_358 s t ∧ ∃ z : Int32, v = some (.int z) ∧ u = WW Z A t ++ ex ∧ In z 0 1 ∧ (CO t) ∧ (SU t) ∧ (((z).toInt ≠ 0 → (t.2.1 150 (x1).toNatClampNeg).toInt < (s.2.1 150 (x1).toNatClampNeg).toInt ∧ 0 ≤ (t.2.1 150 (x1).toNatClampNeg).toInt) ∧ ((z).toInt = 0 → t.2.1 150 = s.2.1 150))) X := by
  intro post xp hP hX
  obtain ⟨u_109_20, e_109_20⟩ : ∃ w, w = s.2.2.1 109 20 := ⟨_, rfl⟩
  have ro_109_20 := inv_F hI 0 32 rfl e_109_20
  have ct158 : ∀ (k158 : Nat) (sc158 : GS) (y158_2 : Int32) (y158_3 : Int64) (y158_5 : Int32), Inv sc158 → Fr fm_358 s sc158 → (In y158_2 0 31) → (In y158_5 0 31) → (PL sc158 (x1).toInt (y158_3).toInt (y158_2).toNatClampNeg (y158_5).toNatClampNeg) → (sc158.2.1 150 = s.2.1 150) → (MO s (x1).toNatClampNeg (y158_2).toNatClampNeg (y158_3).toInt) → ((((y158_2).toNatClampNeg : Nat) : Int) ≠ (x1).toInt) → ((y158_2).toInt < (s.2.2.1 109 20).toInt) → rkb sc158.1 sc158.2.2.1 (x1).toInt (y158_5).toNatClampNeg < k158 → GG Z (d - 1) 358 post (gx xp) (1 + k158 * 900) 158 (fun j => xlook j [(0, .ref (A 109)), (1, .int x1), (2, .int y158_2), (3, .long y158_3), (5, .int y158_5)]) [] (WW Z A sc158 ++ ex) 0 0 := by
    intro k158
    induction k158 with
    | zero => intro sc158 y158_2 y158_3 y158_5 hIc158 hFc158 j158_2 j158_5 g158_0 g158_1 g158_2 g158_3 g158_4 mm158; exact absurd mm158 (Nat.not_lt_zero _)
    | succ k158 ih158 =>
      intro sc158 y158_2 y158_3 y158_5 hIc158 hFc158 j158_2 j158_5 g158_0 g158_1 g158_2 g158_3 g158_4 mm158
      refine gg_w (M := 1 + k158 * 900 + 900) gws ?_
      refine g_iload 160 (gd rfl) rfl rfl ?_
      refine g_iload_n 161 (gd rfl) rfl rfl ?_
      refine g_cmp_eq 164 186 (gd rfl) rfl rfl (fun c161 => ?_) (fun c161 => ?_)
      · skip
        refine g_aload_n 187 (gd rfl) rfl rfl ?_
        refine g_getA (q2 := 150) 190 (gd rfl) rfl rfl rfl rfl ?_
        refine g_iload_n 191 (gd rfl) rfl rfl ?_
        refine g_dup2 192 (gd rfl) rfl rfl rfl ?_
        refine g_laload 193 (gd rfl) rfl (n := 32) rfl (in_ix h1 rfl) (fun z192 e192 => ?_)
        refine g_lload_n 194 (gd rfl) rfl rfl ?_
        refine g_lsub 195 (gd rfl) rfl (fun z194 e194 => ?_)
        refine g_lastore 196 (gd rfl) rfl (n := 32) rfl (in_ix h1 rfl) ?_
        have hI195 := inv_sL (q := 150) (j := x1.toNatClampNeg) (x := z194) hIc158 rfl (l_rng z194)
        refine g_aload_n 197 (gd rfl) rfl rfl ?_
        refine g_getA (q2 := 150) 200 (gd rfl) rfl rfl rfl rfl ?_
        refine g_iload_n 201 (gd rfl) rfl rfl ?_
        refine g_dup2 202 (gd rfl) rfl rfl rfl ?_
        refine g_laload 203 (gd rfl) rfl (n := 32) rfl (in_ix j158_2 rfl) (fun z202 e202 => ?_)
        refine g_lload_n 204 (gd rfl) rfl rfl ?_
        refine g_ladd 205 (gd rfl) rfl (fun z204 e204 => ?_)
        refine g_lastore 206 (gd rfl) rfl (n := 32) rfl (in_ix j158_2 rfl) ?_
        have hI205 := inv_sL (q := 150) (j := y158_2.toNatClampNeg) (x := z204) hI195 rfl (l_rng z204)
        refine g_iconst 1 207 (gd rfl) rfl rfl ?_
        have n207 : CO (sL (sL sc158 150 x1.toNatClampNeg z194) 150 y158_2.toNatClampNeg z204) := by first | exact g9_1 | exact co_cg (pl_e g158_0 (by show ((y158_5.toInt.toNat : Nat) : Int) = _; have a0 := oa4 h1 ro_109_20 j158_5 j158_2; omega)) ⟨rfl, rfl, rfl, rfl, rfl, by simp [sL], rfl, rfl⟩
        have n207a : SU (sL (sL sc158 150 x1.toNatClampNeg z194) 150 y158_2.toNatClampNeg z204) := by first | (intro v hv hvn; rw [g9_2]; rw [hFc9.2.2.1 109 20 rfl] at hvn; exact q_1 v hv hvn) | exact (su_t (T := (sL (sL sc158 150 x1.toNatClampNeg z194) 150 y158_2.toNatClampNeg z204)) (m := y158_3) q_1 (nat_in h1 q_2.1).1 (nat_in h1 q_2.1).2 (nat_in j158_2 g158_4).1 (nat_in j158_2 g158_4).2 (fun e => g158_3 (by rw [e]; show ((x1.toInt.toNat : Nat) : Int) = _; have a0 := oa4 h1 ro_109_20 j158_5 j158_2; omega)) g158_2 (by rw [← g158_1]; exact e192) e194 (by rw [e202, show (sL sc158 150 x1.toNatClampNeg z194).2.1 150 = vp_updL (sc158.2.1 150) x1.toNatClampNeg z194 from (by simp [sL]), g158_1]) e204 (by rw [show ((sL (sL sc158 150 x1.toNatClampNeg z194) 150 y158_2.toNatClampNeg z204)).2.1 150 = vp_updL (vp_updL (sc158.2.1 150) x1.toNatClampNeg z194) y158_2.toNatClampNeg z204 from (by simp [sL]), g158_1]) (hFc158.2.2.1 109 20 rfl)).1
        have n207b : (((Int32.ofInt 1)).toInt ≠ 0 → ((sL (sL sc158 150 x1.toNatClampNeg z194) 150 y158_2.toNatClampNeg z204).2.1 150 (x1).toNatClampNeg).toInt < (s.2.1 150 (x1).toNatClampNeg).toInt ∧ 0 ≤ ((sL (sL sc158 150 x1.toNatClampNeg z194) 150 y158_2.toNatClampNeg z204).2.1 150 (x1).toNatClampNeg).toInt) ∧ (((Int32.ofInt 1)).toInt = 0 → (sL (sL sc158 150 x1.toNatClampNeg z194) 150 y158_2.toNatClampNeg z204).2.1 150 = s.2.1 150) := by first | exact ⟨fun hz => absurd (by decide) hz, fun _ => g9_2⟩ | exact ⟨fun _ => (su_t (T := (sL (sL sc158 150 x1.toNatClampNeg z194) 150 y158_2.toNatClampNeg z204)) (m := y158_3) q_1 (nat_in h1 q_2.1).1 (nat_in h1 q_2.1).2 (nat_in j158_2 g158_4).1 (nat_in j158_2 g158_4).2 (fun e => g158_3 (by rw [e]; show ((x1.toInt.toNat : Nat) : Int) = _; have a0 := oa4 h1 ro_109_20 j158_5 j158_2; omega)) g158_2 (by rw [← g158_1]; exact e192) e194 (by rw [e202, show (sL sc158 150 x1.toNatClampNeg z194).2.1 150 = vp_updL (sc158.2.1 150) x1.toNatClampNeg z194 from (by simp [sL]), g158_1]) e204 (by rw [show ((sL (sL sc158 150 x1.toNatClampNeg z194) 150 y158_2.toNatClampNeg z204)).2.1 150 = vp_updL (vp_updL (sc158.2.1 150) x1.toNatClampNeg z194) y158_2.toNatClampNeg z204 from (by simp [sL]), g158_1]) (hFc158.2.2.1 109 20 rfl)).2, fun hz => absurd hz (by decide)⟩
        exact g_ireturn (gd rfl) rfl (nb01 (in_w 0 1 (in_c 1 rfl) rfl)) (hP _ _ ⟨(sL (sL sc158 150 x1.toNatClampNeg z194) 150 y158_2.toNatClampNeg z204), hI205, (fr_sL rfl (fr_sL rfl hFc158)), (Int32.ofInt 1), rfl, rfl, in_w 0 1 (in_c 1 rfl) rfl, n207, n207a, n207b⟩)
      · skip
        have hx158 : ((y158_5.toNatClampNeg : Nat) : Int) ≠ x1.toInt := (by show ((y158_5.toInt.toNat : Nat) : Int) ≠ _; have a0 := oa4 h1 ro_109_20 j158_5 j158_2; omega)
        have hpi := pl_i g158_0 hx158
        refine g_aload_n 165 (gd rfl) rfl rfl ?_
        refine g_iload 167 (gd rfl) rfl rfl ?_
        have p167 : BE sc158 (y158_5).toNatClampNeg := by exact hpi.1
        refine g_callv (X := _) (As := [.int y158_5]) (r := []) (b := A 109) (q := 109) 170 (gd rfl) rfl rfl rfl rfl rfl (ww_o rfl) (Nat.le_of_ble_eq_true rfl) (Nat.zero_le _) (Nat.zero_le _) (k_349 (by first | exact dq1 hd rfl | exact dq0 hd rfl | exact dq2 hd rfl | exact dq3 hd rfl | omega) hIc158 (in_w 0 31 j158_5 rfl) p167) (fun e u h => h) (fun v u h => ?_)
        obtain ⟨z167, rfl, rfl, i167, p167a⟩ := h
        show GG _ _ _ _ _ _ _ _ [.int z167] _ _ _
        refine g_istore 172 (gd rfl) rfl (Nat.le_of_ble_eq_true rfl) ?_
        refine g_aload_n 173 (gd rfl) rfl rfl ?_
        refine g_iload 175 (gd rfl) rfl rfl ?_
        refine g_lload_n 176 (gd rfl) rfl rfl ?_
        have p176 : BE sc158 (y158_5).toNatClampNeg := by exact hpi.1
        refine g_callv (X := _) (As := [.int y158_5, .long y158_3]) (r := []) (b := A 109) (q := 109) 179 (gd rfl) rfl rfl rfl rfl rfl (ww_o rfl) (Nat.le_of_ble_eq_true rfl) (Nat.zero_le _) (Nat.zero_le _) (k_351 (by first | exact dq1 hd rfl | exact dq0 hd rfl | exact dq2 hd rfl | exact dq3 hd rfl | omega) hIc158 (in_w 0 31 j158_5 rfl) p176) (fun e u h => h) (fun v u h => ?_)
        obtain ⟨s176, hI176, hF176, rfl, rfl, p176a⟩ := h
        show GG _ _ _ _ _ _ _ _ [] _ _ _
        refine g_iload 181 (gd rfl) rfl rfl ?_
        refine g_istore 183 (gd rfl) rfl (Nat.le_of_ble_eq_true rfl) ?_
        refine g_goto 158 (gd rfl) rfl ?_
        have n158 : PL s176 (x1).toInt (y158_3).toInt (y158_2).toNatClampNeg (z167).toNatClampNeg := by first | exact pl_s g158_0 hx158 g158_2.1 (by have h := g158_2.2.2.2; omega) p176a p167a (funext fun q => hF176.1 q rfl) (funext fun q => funext fun k => hF176.2.2.1 q k rfl) | (obtain ⟨k, hk1, hk2⟩ := g116_4; exact pl_0 hI176 g116_0 g116_1.1 hk2 hk1 (by show ((y116_5.toInt.toNat : Nat) : Int) = _; have a0 := oa5 h1 ro_109_20 j158_5 j158_2 i167; omega) g116_3.2 g116_3.1)
        have n158a : s176.2.1 150 = s.2.1 150 := by first | exact (hF176.2.1 150 rfl).trans g158_1 | exact g116_2
        have n158b : MO s (x1).toNatClampNeg (y158_2).toNatClampNeg (y158_3).toInt := by first | exact g158_2 | exact g116_6
        have n158c : (((y158_2).toNatClampNeg : Nat) : Int) ≠ (x1).toInt := by first | exact g158_3 | exact g116_3.2
        have n158d : (y158_2).toInt < (s.2.2.1 109 20).toInt := by first | exact g158_4 | (first | exact g158_4 | (have h := g116_3.1.2.1; rw [hFc116.2.2.1 109 20 rfl] at h; have e : ((y116_2.toNatClampNeg : Nat) : Int) = y116_2.toInt := (by show ((y116_2.toInt.toNat : Nat) : Int) = _; have a0 := oa5 h1 ro_109_20 j158_5 j158_2 i167; omega); rw [← e]; exact h))
        have m158 : rkb s176.1 s176.2.2.1 (x1).toInt (z167).toNatClampNeg < k158 := by rw [p167a, show (s176).1 = sc158.1 from (funext fun q => hF176.1 q rfl), show (s176).2.2.1 = sc158.2.2.1 from (funext fun q => funext fun k => hF176.2.2.1 q k rfl)]; have hl := hpi.2; have hm := mm158; omega
        exact gg_w (by first | exact Nat.le_add_right _ _ | exact gw2 | exact gw3 | exact gwe rfl | exact gwf rfl | exact gwg rfl | exact gwh rfl | omega) (gg_f (gf_cons rfl (gf_cons rfl (gf_cons rfl (gf_cons rfl (gf_cons rfl gf_nil))))) (ih158  s176 y158_2 y158_3 z167 hI176 (fr_tr rfl hFc158 hF176) (in_w 0 31 j158_2 rfl) (in_w 0 31 i167 rfl) n158 n158a n158b n158c n158d m158))
  have ct116 : ∀ (k116 : Nat) (sc116 : GS) (y116_2 : Int32) (y116_3 : Int64) (y116_5 : Int32), Inv sc116 → Fr fm_358 s sc116 → (In y116_2 0 31) → (In y116_5 0 31) → (CHE sc116 (x1).toInt) → (CO sc116) → (sc116.2.1 150 = s.2.1 150) → (ND sc116 (y116_2).toNatClampNeg ∧ (((y116_2).toNatClampNeg : Nat) : Int) ≠ (x1).toInt) → (∃ k, (y116_5).toNatClampNeg = it sc116 (y116_2).toNatClampNeg k ∧ WY sc116 (x1).toInt (y116_3).toInt (y116_2).toNatClampNeg k) → (ND sc116 (y116_5).toNatClampNeg) → (MO s (x1).toNatClampNeg (y116_2).toNatClampNeg (y116_3).toInt) → rkb sc116.1 sc116.2.2.1 (x1).toInt (y116_5).toNatClampNeg < k116 → GG Z (d - 1) 358 post (gx xp) (28802 + k116 * 900) 116 (fun j => xlook j [(0, .ref (A 109)), (1, .int x1), (2, .int y116_2), (3, .long y116_3), (5, .int y116_5)]) [] (WW Z A sc116 ++ ex) 0 0 := by
    intro k116
    induction k116 with
    | zero => intro sc116 y116_2 y116_3 y116_5 hIc116 hFc116 j116_2 j116_5 g116_0 g116_1 g116_2 g116_3 g116_4 g116_5 g116_6 mm116; exact absurd mm116 (Nat.not_lt_zero _)
    | succ k116 ih116 =>
      intro sc116 y116_2 y116_3 y116_5 hIc116 hFc116 j116_2 j116_5 g116_0 g116_1 g116_2 g116_3 g116_4 g116_5 g116_6 mm116
      refine gg_w (M := 28802 + k116 * 900 + 900) gws ?_
      refine g_iload 118 (gd rfl) rfl rfl ?_
      refine g_iload_n 119 (gd rfl) rfl rfl ?_
      refine g_cmp_eq 122 155 (gd rfl) rfl rfl (fun c119 => ?_) (fun c119 => ?_)
      · skip
        refine g_iload_n 156 (gd rfl) rfl rfl ?_
        refine g_istore 158 (gd rfl) rfl (Nat.le_of_ble_eq_true rfl) ?_
        have n158 : PL sc116 (x1).toInt (y116_3).toInt (y116_2).toNatClampNeg (y116_2).toNatClampNeg := by first | exact pl_s g158_0 hx158 g158_2.1 (by have h := g158_2.2.2.2; omega) p176a p167a (funext fun q => hF176.1 q rfl) (funext fun q => funext fun k => hF176.2.2.1 q k rfl) | (obtain ⟨k, hk1, hk2⟩ := g116_4; exact pl_0 hIc116 g116_0 g116_1.1 hk2 hk1 (by show ((y116_5.toInt.toNat : Nat) : Int) = _; have a0 := oa4 h1 ro_109_20 j116_5 j116_2; omega) g116_3.2 g116_3.1)
        have n158a : sc116.2.1 150 = s.2.1 150 := by first | exact (hF176.2.1 150 rfl).trans g158_1 | exact g116_2
        have n158b : MO s (x1).toNatClampNeg (y116_2).toNatClampNeg (y116_3).toInt := by first | exact g158_2 | exact g116_6
        have n158c : (((y116_2).toNatClampNeg : Nat) : Int) ≠ (x1).toInt := by first | exact g158_3 | exact g116_3.2
        have n158d : (y116_2).toInt < (s.2.2.1 109 20).toInt := by first | exact g158_4 | (have h := g116_3.1.2.1; rw [hFc116.2.2.1 109 20 rfl] at h; have e : ((y116_2.toNatClampNeg : Nat) : Int) = y116_2.toInt := (by show ((y116_2.toInt.toNat : Nat) : Int) = _; have a0 := oa4 h1 ro_109_20 j116_5 j116_2; omega); rw [← e]; exact h)
        have m158 : rkb sc116.1 sc116.2.2.1 (x1).toInt (y116_2).toNatClampNeg < 32 := by exact (br_ok hIc116 g116_0.1).1 _ g116_3.1.1 g116_3.1.2.2
        exact gg_w (by first | exact Nat.le_add_right _ _ | exact gw2 | exact gw3 | exact gwe rfl | exact gwf rfl | exact gwg rfl | exact gwh rfl | omega) (gg_f (gf_cons rfl (gf_cons rfl (gf_cons rfl (gf_cons rfl (gf_cons rfl gf_nil))))) (ct158 (32) sc116 y116_2 y116_3 y116_2 hIc116 hFc116 (in_w 0 31 j116_2 rfl) (in_w 0 31 j116_2 rfl) n158 n158a n158b n158c n158d m158))
      · skip
        have hx116 : ((y116_5.toNatClampNeg : Nat) : Int) ≠ x1.toInt := (by show ((y116_5.toInt.toNat : Nat) : Int) ≠ _; have a0 := oa4 h1 ro_109_20 j116_5 j116_2; omega)
        have hev := ev_bf hIc116 (rkf_ok g116_0.1) g116_5 hx116
        have hfo := fb_fo hIc116 g116_1.1 hev.2.2.2.2.1 hev.2.2.2.2.2.1
        refine g_aload_n 123 (gd rfl) rfl rfl ?_
        refine g_iload 125 (gd rfl) rfl rfl ?_
        have p125 : BE sc116 (y116_5).toNatClampNeg := by exact hev.1
        refine g_callv (X := _) (As := [.int y116_5]) (r := []) (b := A 109) (q := 109) 128 (gd rfl) rfl rfl rfl rfl rfl (ww_o rfl) (Nat.le_of_ble_eq_true rfl) (Nat.zero_le _) (Nat.zero_le _) (k_350 (by first | exact dq1 hd rfl | exact dq0 hd rfl | exact dq2 hd rfl | exact dq3 hd rfl | omega) hIc116 (in_w 0 31 j116_5 rfl) p125) (fun e u h => h) (fun v u h => ?_)
        obtain ⟨z125, rfl, rfl, p125a⟩ := h
        show GG _ _ _ _ _ _ _ _ [.long z125] _ _ _
        have hz125 := p125a hfo
        refine g_lload_n 129 (gd rfl) rfl rfl ?_
        refine g_lcmp 130 (gd rfl) rfl (fun z129 e129 => ?_)
        have i129 := lc_in e129
        refine g_if_ge 133 142 (gd rfl) rfl rfl (fun c130 => ?_) (fun c130 => ?_)
        · skip
          have i130 := z_ge 0 1 c130 i129 rfl
          have c130a := lc_ge e129 c130
          refine g_lload_n 143 (gd rfl) rfl rfl ?_
          refine g_lstore_n 144 (gd rfl) rfl (Nat.le_of_ble_eq_true rfl) ?_
          refine g_aload_n 145 (gd rfl) rfl rfl ?_
          refine g_iload 147 (gd rfl) rfl rfl ?_
          have p147 : BE sc116 (y116_5).toNatClampNeg := by exact hev.1
          refine g_callv (X := _) (As := [.int y116_5]) (r := []) (b := A 109) (q := 109) 150 (gd rfl) rfl rfl rfl rfl rfl (ww_o rfl) (Nat.le_of_ble_eq_true rfl) (Nat.zero_le _) (Nat.zero_le _) (k_349 (by first | exact dq1 hd rfl | exact dq0 hd rfl | exact dq2 hd rfl | exact dq3 hd rfl | omega) hIc116 (in_w 0 31 j116_5 rfl) p147) (fun e u h => h) (fun v u h => ?_)
          obtain ⟨z147, rfl, rfl, i147, p147a⟩ := h
          show GG _ _ _ _ _ _ _ _ [.int z147] _ _ _
          refine g_istore 152 (gd rfl) rfl (Nat.le_of_ble_eq_true rfl) ?_
          refine g_goto 116 (gd rfl) rfl ?_
          have n116 : CHE sc116 (x1).toInt := by first | exact g116_0 | exact g9_0
          have n116a : CO sc116 := by first | exact g116_1 | exact g9_1
          have n116b : sc116.2.1 150 = s.2.1 150 := by first | exact g116_2 | exact g9_2
          have n116c : ND sc116 (y116_2).toNatClampNeg ∧ (((y116_2).toNatClampNeg : Nat) : Int) ≠ (x1).toInt := by first | exact g116_3 | (first | exact g116_3 | (rcases g9_3 with hk | ⟨k1, k2, k3⟩; (exfalso; have a0 := oa5 h1 ro_109_20 j116_5 j116_2 i147; omega); exact gd_i g9_0 j116_2 h1 k1 k2 k3 g9_2 q_2.2))
          have n116d : ∃ k, (z147).toNatClampNeg = it sc116 (y116_2).toNatClampNeg k ∧ WY sc116 (x1).toInt (y116_3).toInt (y116_2).toNatClampNeg k := by first | (obtain ⟨k, hk1, hk2⟩ := g116_4; exact ⟨k + 1, by rw [p147a, hk1]; rfl, wy_s hk2 (by rw [← hk1]; exact hx116) (by rw [← hk1]; exact g116_5) (by omega) (by rw [← hk1]; omega)⟩) | exact ⟨0, rfl, fun j hj => absurd hj (Nat.not_lt_zero _)⟩
          have n116e : ND sc116 (z147).toNatClampNeg := by first | (rw [p147a]; exact hev.2.1) | (rcases g9_3 with hk | ⟨k1, k2, k3⟩; (exfalso; have a0 := oa5 h1 ro_109_20 j116_5 j116_2 i147; omega); exact (gd_i g9_0 j116_2 h1 k1 k2 k3 g9_2 q_2.2).1)
          have n116f : MO s (x1).toNatClampNeg (y116_2).toNatClampNeg (y116_3).toInt := by first | exact g116_6 | (first | (have hr1 := hev.2.2.2.1; have hq := g116_6; unfold MO at hq ⊢; exact ⟨by omega, by omega, by omega, by omega⟩) | (rcases g9_3 with hk | ⟨k1, k2, k3⟩; (exfalso; have a0 := oa5 h1 ro_109_20 j116_5 j116_2 i147; omega); (rw [hFc9.2.2.1 109 20 rfl] at k1; rw [g9_2] at k2; first | exact mo_1 q_1 h1 j116_2 q_2.1 k1 q_2.2 (by rw [← g9_2]; exact e84) (by rw [← g9_2]; exact e90) e91 (by rw [← g9_2]; exact e101) c93a | exact mo_2 q_1 h1 j116_2 q_2.1 k1 k2 (by rw [← g9_2]; exact e84) (by rw [← g9_2]; exact e90) e91 (by rw [← g9_2]; exact e110) e111 c93a)))
          have m116 : rkb sc116.1 sc116.2.2.1 (x1).toInt (z147).toNatClampNeg < k116 := by rw [p147a]; have hl := (br_ok hIc116 g116_0.1).2 _ g116_5 hx116; have hm := mm116; omega
          exact gg_w (by first | exact Nat.le_add_right _ _ | exact gw2 | exact gw3 | exact gwe rfl | exact gwf rfl | exact gwg rfl | exact gwh rfl | omega) (gg_f (gf_cons rfl (gf_cons rfl (gf_cons rfl (gf_cons rfl (gf_cons rfl gf_nil))))) (ih116  sc116 y116_2 y116_3 z147 hIc116 hFc116 (in_w 0 31 j116_2 rfl) (in_w 0 31 i147 rfl) n116 n116a n116b n116c n116d n116e n116f m116))
        · skip
          have i130 := z_lt (-1) (-1) c130 i129 rfl
          have c130a := lc_lt e129 c130
          have i130a := lr_lt1 (-9223372036854775808) 9223372036854775806 c130a (l_rng z125) (l_rng y116_3) rfl
          have i130b := lr_lt2 (-9223372036854775807) 9223372036854775807 c130a (l_rng z125) (l_rng y116_3) rfl
          refine g_aload_n 134 (gd rfl) rfl rfl ?_
          refine g_iload 136 (gd rfl) rfl rfl ?_
          have p136 : BE sc116 (y116_5).toNatClampNeg := by exact hev.1
          refine g_callv (X := _) (As := [.int y116_5]) (r := []) (b := A 109) (q := 109) 139 (gd rfl) rfl rfl rfl rfl rfl (ww_o rfl) (Nat.le_of_ble_eq_true rfl) (Nat.zero_le _) (Nat.zero_le _) (k_350 (by first | exact dq1 hd rfl | exact dq0 hd rfl | exact dq2 hd rfl | exact dq3 hd rfl | omega) hIc116 (in_w 0 31 j116_5 rfl) p136) (fun e u h => h) (fun v u h => ?_)
          obtain ⟨z136, rfl, rfl, p136a⟩ := h
          show GG _ _ _ _ _ _ _ _ [.long z136] _ _ _
          have hz136 := p136a hfo
          refine g_goto 143 (gd rfl) rfl ?_
          refine g_lstore_n 144 (gd rfl) rfl (Nat.le_of_ble_eq_true rfl) ?_
          refine g_aload_n 145 (gd rfl) rfl rfl ?_
          refine g_iload 147 (gd rfl) rfl rfl ?_
          have p147 : BE sc116 (y116_5).toNatClampNeg := by exact hev.1
          refine g_callv (X := _) (As := [.int y116_5]) (r := []) (b := A 109) (q := 109) 150 (gd rfl) rfl rfl rfl rfl rfl (ww_o rfl) (Nat.le_of_ble_eq_true rfl) (Nat.zero_le _) (Nat.zero_le _) (k_349 (by first | exact dq1 hd rfl | exact dq0 hd rfl | exact dq2 hd rfl | exact dq3 hd rfl | omega) hIc116 (in_w 0 31 j116_5 rfl) p147) (fun e u h => h) (fun v u h => ?_)
          obtain ⟨z147, rfl, rfl, i147, p147a⟩ := h
          show GG _ _ _ _ _ _ _ _ [.int z147] _ _ _
          refine g_istore 152 (gd rfl) rfl (Nat.le_of_ble_eq_true rfl) ?_
          refine g_goto 116 (gd rfl) rfl ?_
          have n116 : CHE sc116 (x1).toInt := by first | exact g116_0 | exact g9_0
          have n116a : CO sc116 := by first | exact g116_1 | exact g9_1
          have n116b : sc116.2.1 150 = s.2.1 150 := by first | exact g116_2 | exact g9_2
          have n116c : ND sc116 (y116_2).toNatClampNeg ∧ (((y116_2).toNatClampNeg : Nat) : Int) ≠ (x1).toInt := by first | exact g116_3 | (first | exact g116_3 | (rcases g9_3 with hk | ⟨k1, k2, k3⟩; (exfalso; have a0 := oa5 h1 ro_109_20 j116_5 j116_2 i147; omega); exact gd_i g9_0 j116_2 h1 k1 k2 k3 g9_2 q_2.2))
          have n116d : ∃ k, (z147).toNatClampNeg = it sc116 (y116_2).toNatClampNeg k ∧ WY sc116 (x1).toInt (z136).toInt (y116_2).toNatClampNeg k := by first | (obtain ⟨k, hk1, hk2⟩ := g116_4; exact ⟨k + 1, by rw [p147a, hk1]; rfl, wy_s hk2 (by rw [← hk1]; exact hx116) (by rw [← hk1]; exact g116_5) (by omega) (by rw [← hk1]; omega)⟩) | exact ⟨0, rfl, fun j hj => absurd hj (Nat.not_lt_zero _)⟩
          have n116e : ND sc116 (z147).toNatClampNeg := by first | (rw [p147a]; exact hev.2.1) | (rcases g9_3 with hk | ⟨k1, k2, k3⟩; (exfalso; have a0 := oa5 h1 ro_109_20 j116_5 j116_2 i147; omega); exact (gd_i g9_0 j116_2 h1 k1 k2 k3 g9_2 q_2.2).1)
          have n116f : MO s (x1).toNatClampNeg (y116_2).toNatClampNeg (z136).toInt := by first | (have hr1 := hev.2.2.2.1; have hq := g116_6; unfold MO at hq ⊢; exact ⟨by omega, by omega, by omega, by omega⟩) | (rcases g9_3 with hk | ⟨k1, k2, k3⟩; (exfalso; have a0 := oa5 h1 ro_109_20 j116_5 j116_2 i147; omega); (rw [hFc9.2.2.1 109 20 rfl] at k1; rw [g9_2] at k2; first | exact mo_1 q_1 h1 j116_2 q_2.1 k1 q_2.2 (by rw [← g9_2]; exact e84) (by rw [← g9_2]; exact e90) e91 (by rw [← g9_2]; exact e101) c93a | exact mo_2 q_1 h1 j116_2 q_2.1 k1 k2 (by rw [← g9_2]; exact e84) (by rw [← g9_2]; exact e90) e91 (by rw [← g9_2]; exact e110) e111 c93a))
          have m116 : rkb sc116.1 sc116.2.2.1 (x1).toInt (z147).toNatClampNeg < k116 := by rw [p147a]; have hl := (br_ok hIc116 g116_0.1).2 _ g116_5 hx116; have hm := mm116; omega
          exact gg_w (by first | exact Nat.le_add_right _ _ | exact gw2 | exact gw3 | exact gwe rfl | exact gwf rfl | exact gwg rfl | exact gwh rfl | omega) (gg_f (gf_cons rfl (gf_cons rfl (gf_cons rfl (gf_cons rfl (gf_cons rfl gf_nil))))) (ih116  sc116 y116_2 z136 z147 hIc116 hFc116 (in_w 0 31 j116_2 rfl) (in_w 0 31 i147 rfl) n116 n116a n116b n116c n116d n116e n116f m116))
  have ct9 : ∀ (k9 : Nat) (sc9 : GS) (y9_2 : Int32) (y9_3 : Int32), Inv sc9 → Fr fm_358 s sc9 → (In y9_2 (-1) 31) → (In y9_3 0 32) → (CHE sc9 (x1).toInt) → (CO sc9) → (sc9.2.1 150 = s.2.1 150) → ((y9_2).toInt < 0 ∨ ((y9_2).toInt < (sc9.2.2.1 109 20).toInt ∧ (sc9.2.1 150 (y9_2).toNatClampNeg).toInt < 0 ∧ (sc9.2.1 149 (y9_2).toNatClampNeg).toInt < 9000000000000000)) → 32 - (y9_3).toInt < (k9 : Int) → GG Z (d - 1) 358 post (gx xp) (57603 + k9 * 900) 9 (fun j => xlook j [(0, .ref (A 109)), (1, .int x1), (2, .int y9_2), (3, .int y9_3)]) [] (WW Z A sc9 ++ ex) 0 0 := by
    intro k9
    induction k9 with
    | zero => intro sc9 y9_2 y9_3 hIc9 hFc9 j9_2 j9_3 g9_0 g9_1 g9_2 g9_3 mm9; exact m_no mm9 j9_3 rfl
    | succ k9 ih9 =>
      intro sc9 y9_2 y9_3 hIc9 hFc9 j9_2 j9_3 g9_0 g9_1 g9_2 g9_3 mm9
      refine gg_w (M := 57603 + k9 * 900 + 900) gws ?_
      refine g_iload_n 10 (gd rfl) rfl rfl ?_
      refine g_aload_n 11 (gd rfl) rfl rfl ?_
      refine g_getI 14 (gd rfl) rfl rfl rfl (fun z11 e11 => ?_)
      have q11 : u_109_20 = z11 := (fr_F e_109_20 hFc9 rfl).trans e11.symm
      subst q11
      refine g_cmp_ge 17 73 (gd rfl) rfl rfl (fun c14 => ?_) (fun c14 => ?_)
      · skip
        refine g_iload_n 74 (gd rfl) rfl rfl ?_
        refine g_if_ge 77 79 (gd rfl) rfl rfl (fun c74 => ?_) (fun c74 => ?_)
        · skip
          have i74 := z_ge 0 31 c74 j9_2 rfl
          refine g_aload_n 80 (gd rfl) rfl rfl ?_
          refine g_getA (q2 := 150) 83 (gd rfl) rfl rfl rfl rfl ?_
          refine g_iload_n 84 (gd rfl) rfl rfl ?_
          refine g_laload 85 (gd rfl) rfl (n := 32) rfl (in_ix h1 rfl) (fun z84 e84 => ?_)
          refine g_aload_n 86 (gd rfl) rfl rfl ?_
          refine g_getA (q2 := 150) 89 (gd rfl) rfl rfl rfl rfl ?_
          refine g_iload_n 90 (gd rfl) rfl rfl ?_
          refine g_laload 91 (gd rfl) rfl (n := 32) rfl (in_ix i74 rfl) (fun z90 e90 => ?_)
          refine g_lneg 92 (gd rfl) rfl (fun z91 e91 => ?_)
          refine g_lcmp 93 (gd rfl) rfl (fun z92 e92 => ?_)
          have i92 := lc_in e92
          refine g_if_ge 96 105 (gd rfl) rfl rfl (fun c93 => ?_) (fun c93 => ?_)
          · skip
            have i93 := z_ge 0 1 c93 i92 rfl
            have c93a := lc_ge e92 c93
            refine g_aload_n 106 (gd rfl) rfl rfl ?_
            refine g_getA (q2 := 150) 109 (gd rfl) rfl rfl rfl rfl ?_
            refine g_iload_n 110 (gd rfl) rfl rfl ?_
            refine g_laload 111 (gd rfl) rfl (n := 32) rfl (in_ix i74 rfl) (fun z110 e110 => ?_)
            refine g_lneg 112 (gd rfl) rfl (fun z111 e111 => ?_)
            refine g_lstore_n 113 (gd rfl) rfl (Nat.le_of_ble_eq_true rfl) ?_
            refine g_iload_n 114 (gd rfl) rfl rfl ?_
            refine g_istore 116 (gd rfl) rfl (Nat.le_of_ble_eq_true rfl) ?_
            have n116 : CHE sc9 (x1).toInt := by first | exact g116_0 | exact g9_0
            have n116a : CO sc9 := by first | exact g116_1 | exact g9_1
            have n116b : sc9.2.1 150 = s.2.1 150 := by first | exact g116_2 | exact g9_2
            have n116c : ND sc9 (y9_2).toNatClampNeg ∧ (((y9_2).toNatClampNeg : Nat) : Int) ≠ (x1).toInt := by first | exact g116_3 | (rcases g9_3 with hk | ⟨k1, k2, k3⟩; (exfalso; have a0 := oa4 h1 ro_109_20 j9_3 i74; omega); exact gd_i g9_0 i74 h1 k1 k2 k3 g9_2 q_2.2)
            have n116d : ∃ k, (y9_2).toNatClampNeg = it sc9 (y9_2).toNatClampNeg k ∧ WY sc9 (x1).toInt (z111).toInt (y9_2).toNatClampNeg k := by first | (obtain ⟨k, hk1, hk2⟩ := g116_4; exact ⟨k + 1, by rw [p147a, hk1]; rfl, wy_s hk2 (by rw [← hk1]; exact hx116) (by rw [← hk1]; exact g116_5) (by omega) (by rw [← hk1]; omega)⟩) | exact ⟨0, rfl, fun j hj => absurd hj (Nat.not_lt_zero _)⟩
            have n116e : ND sc9 (y9_2).toNatClampNeg := by first | (rw [p147a]; exact hev.2.1) | (rcases g9_3 with hk | ⟨k1, k2, k3⟩; (exfalso; have a0 := oa4 h1 ro_109_20 j9_3 i74; omega); exact (gd_i g9_0 i74 h1 k1 k2 k3 g9_2 q_2.2).1)
            have n116f : MO s (x1).toNatClampNeg (y9_2).toNatClampNeg (z111).toInt := by first | (have hr1 := hev.2.2.2.1; have hq := g116_6; unfold MO at hq ⊢; exact ⟨by omega, by omega, by omega, by omega⟩) | (rcases g9_3 with hk | ⟨k1, k2, k3⟩; (exfalso; have a0 := oa4 h1 ro_109_20 j9_3 i74; omega); (rw [hFc9.2.2.1 109 20 rfl] at k1; rw [g9_2] at k2; first | exact mo_1 q_1 h1 i74 q_2.1 k1 q_2.2 (by rw [← g9_2]; exact e84) (by rw [← g9_2]; exact e90) e91 (by rw [← g9_2]; exact e101) c93a | exact mo_2 q_1 h1 i74 q_2.1 k1 k2 (by rw [← g9_2]; exact e84) (by rw [← g9_2]; exact e90) e91 (by rw [← g9_2]; exact e110) e111 c93a))
            have m116 : rkb sc9.1 sc9.2.2.1 (x1).toInt (y9_2).toNatClampNeg < 32 := by exact (br_ok hIc9 n116.1).1 _ n116e.1 n116e.2.2
            exact gg_w (by first | exact Nat.le_add_right _ _ | exact gw2 | exact gw3 | exact gwe rfl | exact gwf rfl | exact gwg rfl | exact gwh rfl | omega) (gg_f (gf_cons rfl (gf_cons rfl (gf_cons rfl (gf_cons rfl (gf_cons rfl gf_nil))))) (ct116 (32) sc9 y9_2 z111 y9_2 hIc9 hFc9 (in_w 0 31 i74 rfl) (in_w 0 31 i74 rfl) n116 n116a n116b n116c n116d n116e n116f m116))
          · skip
            have i93 := z_lt (-1) (-1) c93 i92 rfl
            have c93a := lc_lt e92 c93
            have i93a := lr_lt1 (-9223372036854775808) 9223372036854775806 c93a (l_rng z84) (l_rng z91) rfl
            have i93b := lr_lt2 (-9223372036854775807) 9223372036854775807 c93a (l_rng z84) (l_rng z91) rfl
            refine g_aload_n 97 (gd rfl) rfl rfl ?_
            refine g_getA (q2 := 150) 100 (gd rfl) rfl rfl rfl rfl ?_
            refine g_iload_n 101 (gd rfl) rfl rfl ?_
            refine g_laload 102 (gd rfl) rfl (n := 32) rfl (in_ix h1 rfl) (fun z101 e101 => ?_)
            refine g_goto 112 (gd rfl) rfl ?_
            refine g_lstore_n 113 (gd rfl) rfl (Nat.le_of_ble_eq_true rfl) ?_
            refine g_iload_n 114 (gd rfl) rfl rfl ?_
            refine g_istore 116 (gd rfl) rfl (Nat.le_of_ble_eq_true rfl) ?_
            have n116 : CHE sc9 (x1).toInt := by first | exact g116_0 | exact g9_0
            have n116a : CO sc9 := by first | exact g116_1 | exact g9_1
            have n116b : sc9.2.1 150 = s.2.1 150 := by first | exact g116_2 | exact g9_2
            have n116c : ND sc9 (y9_2).toNatClampNeg ∧ (((y9_2).toNatClampNeg : Nat) : Int) ≠ (x1).toInt := by first | exact g116_3 | (rcases g9_3 with hk | ⟨k1, k2, k3⟩; (exfalso; have a0 := oa4 h1 ro_109_20 j9_3 i74; omega); exact gd_i g9_0 i74 h1 k1 k2 k3 g9_2 q_2.2)
            have n116d : ∃ k, (y9_2).toNatClampNeg = it sc9 (y9_2).toNatClampNeg k ∧ WY sc9 (x1).toInt (z101).toInt (y9_2).toNatClampNeg k := by first | (obtain ⟨k, hk1, hk2⟩ := g116_4; exact ⟨k + 1, by rw [p147a, hk1]; rfl, wy_s hk2 (by rw [← hk1]; exact hx116) (by rw [← hk1]; exact g116_5) (by omega) (by rw [← hk1]; omega)⟩) | exact ⟨0, rfl, fun j hj => absurd hj (Nat.not_lt_zero _)⟩
            have n116e : ND sc9 (y9_2).toNatClampNeg := by first | (rw [p147a]; exact hev.2.1) | (rcases g9_3 with hk | ⟨k1, k2, k3⟩; (exfalso; have a0 := oa4 h1 ro_109_20 j9_3 i74; omega); exact (gd_i g9_0 i74 h1 k1 k2 k3 g9_2 q_2.2).1)
            have n116f : MO s (x1).toNatClampNeg (y9_2).toNatClampNeg (z101).toInt := by first | (have hr1 := hev.2.2.2.1; have hq := g116_6; unfold MO at hq ⊢; exact ⟨by omega, by omega, by omega, by omega⟩) | (rcases g9_3 with hk | ⟨k1, k2, k3⟩; (exfalso; have a0 := oa4 h1 ro_109_20 j9_3 i74; omega); (rw [hFc9.2.2.1 109 20 rfl] at k1; rw [g9_2] at k2; first | exact mo_1 q_1 h1 i74 q_2.1 k1 q_2.2 (by rw [← g9_2]; exact e84) (by rw [← g9_2]; exact e90) e91 (by rw [← g9_2]; exact e101) c93a | exact mo_2 q_1 h1 i74 q_2.1 k1 k2 (by rw [← g9_2]; exact e84) (by rw [← g9_2]; exact e90) e91 (by rw [← g9_2]; exact e110) e111 c93a))
            have m116 : rkb sc9.1 sc9.2.2.1 (x1).toInt (y9_2).toNatClampNeg < 32 := by exact (br_ok hIc9 n116.1).1 _ n116e.1 n116e.2.2
            exact gg_w (by first | exact Nat.le_add_right _ _ | exact gw2 | exact gw3 | exact gwe rfl | exact gwf rfl | exact gwg rfl | exact gwh rfl | omega) (gg_f (gf_cons rfl (gf_cons rfl (gf_cons rfl (gf_cons rfl (gf_cons rfl gf_nil))))) (ct116 (32) sc9 y9_2 z101 y9_2 hIc9 hFc9 (in_w 0 31 i74 rfl) (in_w 0 31 i74 rfl) n116 n116a n116b n116c n116d n116e n116f m116))
        · skip
          have i74 := z_lt (-1) (-1) c74 j9_2 rfl
          refine g_iconst 0 78 (gd rfl) rfl rfl ?_
          have n78 : CO sc9 := by first | exact g9_1 | (first | exact g9_1 | exact co_cg (pl_e g158_0 (by show ((y158_5.toInt.toNat : Nat) : Int) = _; have a0 := oa4 h1 ro_109_20 j9_3 i74; omega)) ⟨rfl, rfl, rfl, rfl, rfl, by simp [sL], rfl, rfl⟩)
          have n78a : SU sc9 := by first | (intro v hv hvn; rw [g9_2]; rw [hFc9.2.2.1 109 20 rfl] at hvn; exact q_1 v hv hvn) | exact (su_t (T := sc9) (m := y158_3) q_1 (nat_in h1 q_2.1).1 (nat_in h1 q_2.1).2 (nat_in i74 g158_4).1 (nat_in i74 g158_4).2 (fun e => g158_3 (by rw [e]; show ((x1.toInt.toNat : Nat) : Int) = _; have a0 := oa4 h1 ro_109_20 j9_3 i74; omega)) g158_2 (by rw [← g158_1]; exact e192) e194 (by rw [e202, show (sL sc158 150 x1.toNatClampNeg z194).2.1 150 = vp_updL (sc158.2.1 150) x1.toNatClampNeg z194 from (by simp [sL]), g158_1]) e204 (by rw [show (sc9).2.1 150 = vp_updL (vp_updL (sc158.2.1 150) x1.toNatClampNeg z194) y158_2.toNatClampNeg z204 from (by simp [sL]), g158_1]) (hFc158.2.2.1 109 20 rfl)).1
          have n78b : (((Int32.ofInt 0)).toInt ≠ 0 → (sc9.2.1 150 (x1).toNatClampNeg).toInt < (s.2.1 150 (x1).toNatClampNeg).toInt ∧ 0 ≤ (sc9.2.1 150 (x1).toNatClampNeg).toInt) ∧ (((Int32.ofInt 0)).toInt = 0 → sc9.2.1 150 = s.2.1 150) := by first | exact ⟨fun hz => absurd (by decide) hz, fun _ => g9_2⟩ | exact ⟨fun _ => (su_t (T := sc9) (m := y158_3) q_1 (nat_in h1 q_2.1).1 (nat_in h1 q_2.1).2 (nat_in i74 g158_4).1 (nat_in i74 g158_4).2 (fun e => g158_3 (by rw [e]; show ((x1.toInt.toNat : Nat) : Int) = _; have a0 := oa4 h1 ro_109_20 j9_3 i74; omega)) g158_2 (by rw [← g158_1]; exact e192) e194 (by rw [e202, show (sL sc158 150 x1.toNatClampNeg z194).2.1 150 = vp_updL (sc158.2.1 150) x1.toNatClampNeg z194 from (by simp [sL]), g158_1]) e204 (by rw [show (sc9).2.1 150 = vp_updL (vp_updL (sc158.2.1 150) x1.toNatClampNeg z194) y158_2.toNatClampNeg z204 from (by simp [sL]), g158_1]) (hFc158.2.2.1 109 20 rfl)).2, fun hz => absurd hz (by decide)⟩
          exact g_ireturn (gd rfl) rfl (nb01 (in_w 0 1 (in_c 0 rfl) rfl)) (hP _ _ ⟨sc9, hIc9, hFc9, (Int32.ofInt 0), rfl, rfl, in_w 0 1 (in_c 0 rfl) rfl, n78, n78a, n78b⟩)
      · skip
        have i14 := r_lt1 0 31 c14 j9_3 ro_109_20 rfl
        have i14a := r_lt2 1 32 c14 j9_3 ro_109_20 rfl
        refine g_aload_n 18 (gd rfl) rfl rfl ?_
        refine g_getA (q2 := 150) 21 (gd rfl) rfl rfl rfl rfl ?_
        refine g_iload_n 22 (gd rfl) rfl rfl ?_
        refine g_laload 23 (gd rfl) rfl (n := 32) rfl (in_ix i14 rfl) (fun z22 e22 => ?_)
        refine g_lconst 0 24 (gd rfl) rfl rfl ?_
        refine g_lcmp 25 (gd rfl) rfl (fun z24 e24 => ?_)
        have i24 := lc_in e24
        refine g_if_ge 28 65 (gd rfl) rfl rfl (fun c25 => ?_) (fun c25 => ?_)
        · skip
          have i25 := z_ge 0 1 c25 i24 rfl
          have c25a := lc_ge e24 c25
          have i25a := lr_le2 0 9223372036854775807 c25a (l_c 0 rfl) (l_rng z22) rfl
          refine g_iload_n 66 (gd rfl) rfl rfl ?_
          refine g_istore_n 67 (gd rfl) rfl (Nat.le_of_ble_eq_true rfl) ?_
          refine g_iinc 70 (gd rfl) rfl rfl (Nat.le_of_ble_eq_true rfl) (fun z67 e67 => ?_)
          have i67 := in_add 1 32 e67 i14 (in_c 1 rfl) rfl rfl
          refine g_goto 9 (gd rfl) rfl ?_
          have n9 : CHE sc9 (x1).toInt := by first | exact g9_0 | exact p2b
          have n9a : CO sc9 := by first | exact g9_1 | exact co_cg q_0 ⟨hF2.1 112 rfl, hF2.1 113 rfl, hF2.1 114 rfl, hF2.1 115 rfl, hF2.1 116 rfl, hF2.2.1 147 rfl, hF2.2.2.1 109 19 rfl, hF2.2.2.1 109 20 rfl⟩
          have n9b : sc9.2.1 150 = s.2.1 150 := by first | exact g9_2 | exact hF2.2.1 150 rfl
          have n9c : (y9_2).toInt < 0 ∨ ((y9_2).toInt < (sc9.2.2.1 109 20).toInt ∧ (sc9.2.1 150 (y9_2).toNatClampNeg).toInt < 0 ∧ (sc9.2.1 149 (y9_2).toNatClampNeg).toInt < 9000000000000000) := by first | exact g9_3 | (first | exact g9_3 | exact Or.inl (by decide) | exact Or.inr ⟨by rw [hFc9.2.2.1 109 20 rfl, ← e_109_20]; have a0 := oa5 h1 i14a i14 j9_2 i67; have a5 := t_add e67 i14 (in_c 1 rfl) rfl; have a6 := in_u ((in_c 1 rfl)); omega, by rw [← e22]; have h := i25a.2; omega, by rw [← e33]; have h := i38a.2; omega⟩)
          exact gg_w (by first | exact Nat.le_add_right _ _ | exact gw2 | exact gw3 | exact gwe rfl | exact gwf rfl | exact gwg rfl | exact gwh rfl | omega) (gg_f (gf_cons rfl (gf_cons rfl (gf_cons rfl (gf_cons rfl gf_nil)))) (ih9 sc9 y9_2 z67 hIc9 hFc9 (in_w (-1) 31 j9_2 rfl) (in_w 0 32 i67 rfl) n9 n9a n9b n9c (m_up mm9 (t_add e67 i14 (in_c 1 rfl) rfl) (in_w 1 1 (in_c 1 rfl) rfl))))
        · skip
          have i25 := z_lt (-1) (-1) c25 i24 rfl
          have c25a := lc_lt e24 c25
          have i25a := lr_lt1 (-9223372036854775808) (-1) c25a (l_rng z22) (l_c 0 rfl) rfl
          refine g_aload_n 29 (gd rfl) rfl rfl ?_
          refine g_getA (q2 := 149) 32 (gd rfl) rfl rfl rfl rfl ?_
          refine g_iload_n 33 (gd rfl) rfl rfl ?_
          refine g_laload 34 (gd rfl) rfl (n := 34) rfl (in_ix i14 rfl) (fun z33 e33 => ?_)
          refine g_ldc2_w 9000000000000000 37 (gd rfl) rfl rfl ?_
          refine g_lcmp 38 (gd rfl) rfl (fun z37 e37 => ?_)
          have i37 := lc_in e37
          refine g_if_ge 41 65 (gd rfl) rfl rfl (fun c38 => ?_) (fun c38 => ?_)
          · skip
            have i38 := z_ge 0 1 c38 i37 rfl
            have c38a := lc_ge e37 c38
            have i38a := lr_le2 9000000000000000 9223372036854775807 c38a (l_c 9000000000000000 rfl) (l_rng z33) rfl
            refine g_iload_n 66 (gd rfl) rfl rfl ?_
            refine g_istore_n 67 (gd rfl) rfl (Nat.le_of_ble_eq_true rfl) ?_
            refine g_iinc 70 (gd rfl) rfl rfl (Nat.le_of_ble_eq_true rfl) (fun z67 e67 => ?_)
            have i67 := in_add 1 32 e67 i14 (in_c 1 rfl) rfl rfl
            refine g_goto 9 (gd rfl) rfl ?_
            have n9 : CHE sc9 (x1).toInt := by first | exact g9_0 | exact p2b
            have n9a : CO sc9 := by first | exact g9_1 | exact co_cg q_0 ⟨hF2.1 112 rfl, hF2.1 113 rfl, hF2.1 114 rfl, hF2.1 115 rfl, hF2.1 116 rfl, hF2.2.1 147 rfl, hF2.2.2.1 109 19 rfl, hF2.2.2.1 109 20 rfl⟩
            have n9b : sc9.2.1 150 = s.2.1 150 := by first | exact g9_2 | exact hF2.2.1 150 rfl
            have n9c : (y9_2).toInt < 0 ∨ ((y9_2).toInt < (sc9.2.2.1 109 20).toInt ∧ (sc9.2.1 150 (y9_2).toNatClampNeg).toInt < 0 ∧ (sc9.2.1 149 (y9_2).toNatClampNeg).toInt < 9000000000000000) := by first | exact g9_3 | (first | exact g9_3 | exact Or.inl (by decide) | exact Or.inr ⟨by rw [hFc9.2.2.1 109 20 rfl, ← e_109_20]; have a0 := oa5 h1 i14a i14 j9_2 i67; have a5 := t_add e67 i14 (in_c 1 rfl) rfl; have a6 := in_u ((in_c 1 rfl)); omega, by rw [← e22]; have h := i25a.2; omega, by rw [← e33]; have h := i38a.2; omega⟩)
            exact gg_w (by first | exact Nat.le_add_right _ _ | exact gw2 | exact gw3 | exact gwe rfl | exact gwf rfl | exact gwg rfl | exact gwh rfl | omega) (gg_f (gf_cons rfl (gf_cons rfl (gf_cons rfl (gf_cons rfl gf_nil)))) (ih9 sc9 y9_2 z67 hIc9 hFc9 (in_w (-1) 31 j9_2 rfl) (in_w 0 32 i67 rfl) n9 n9a n9b n9c (m_up mm9 (t_add e67 i14 (in_c 1 rfl) rfl) (in_w 1 1 (in_c 1 rfl) rfl))))
          · skip
            have i38 := z_lt (-1) (-1) c38 i37 rfl
            have c38a := lc_lt e37 c38
            have i38a := lr_lt1 (-9223372036854775808) 8999999999999999 c38a (l_rng z33) (l_c 9000000000000000 rfl) rfl
            refine g_iload_n 42 (gd rfl) rfl rfl ?_
            refine g_if_lt 45 61 (gd rfl) rfl rfl (fun c42 => ?_) (fun c42 => ?_)
            · skip
              have i42 := z_lt (-1) (-1) c42 j9_2 rfl
              refine g_iload_n 62 (gd rfl) rfl rfl ?_
              refine g_goto 66 (gd rfl) rfl ?_
              refine g_istore_n 67 (gd rfl) rfl (Nat.le_of_ble_eq_true rfl) ?_
              refine g_iinc 70 (gd rfl) rfl rfl (Nat.le_of_ble_eq_true rfl) (fun z67 e67 => ?_)
              have i67 := in_add 1 32 e67 i14 (in_c 1 rfl) rfl rfl
              refine g_goto 9 (gd rfl) rfl ?_
              have n9 : CHE sc9 (x1).toInt := by first | exact g9_0 | exact p2b
              have n9a : CO sc9 := by first | exact g9_1 | exact co_cg q_0 ⟨hF2.1 112 rfl, hF2.1 113 rfl, hF2.1 114 rfl, hF2.1 115 rfl, hF2.1 116 rfl, hF2.2.1 147 rfl, hF2.2.2.1 109 19 rfl, hF2.2.2.1 109 20 rfl⟩
              have n9b : sc9.2.1 150 = s.2.1 150 := by first | exact g9_2 | exact hF2.2.1 150 rfl
              have n9c : (y9_3).toInt < 0 ∨ ((y9_3).toInt < (sc9.2.2.1 109 20).toInt ∧ (sc9.2.1 150 (y9_3).toNatClampNeg).toInt < 0 ∧ (sc9.2.1 149 (y9_3).toNatClampNeg).toInt < 9000000000000000) := by first | exact g9_3 | exact Or.inl (by decide) | exact Or.inr ⟨by rw [hFc9.2.2.1 109 20 rfl, ← e_109_20]; have a0 := oa5 h1 i14a i14 i42 i67; have a5 := t_add e67 i14 (in_c 1 rfl) rfl; have a6 := in_u ((in_c 1 rfl)); omega, by rw [← e22]; have h := i25a.2; omega, by rw [← e33]; have h := i38a.2; omega⟩
              exact gg_w (by first | exact Nat.le_add_right _ _ | exact gw2 | exact gw3 | exact gwe rfl | exact gwf rfl | exact gwg rfl | exact gwh rfl | omega) (gg_f (gf_cons rfl (gf_cons rfl (gf_cons rfl (gf_cons rfl gf_nil)))) (ih9 sc9 y9_3 z67 hIc9 hFc9 (in_w (-1) 31 i14 rfl) (in_w 0 32 i67 rfl) n9 n9a n9b n9c (m_up mm9 (t_add e67 i14 (in_c 1 rfl) rfl) (in_w 1 1 (in_c 1 rfl) rfl))))
            · skip
              have i42 := z_ge 0 31 c42 j9_2 rfl
              refine g_aload_n 46 (gd rfl) rfl rfl ?_
              refine g_getA (q2 := 149) 49 (gd rfl) rfl rfl rfl rfl ?_
              refine g_iload_n 50 (gd rfl) rfl rfl ?_
              refine g_laload 51 (gd rfl) rfl (n := 34) rfl (in_ix i14 rfl) (fun z50 e50 => ?_)
              refine g_aload_n 52 (gd rfl) rfl rfl ?_
              refine g_getA (q2 := 149) 55 (gd rfl) rfl rfl rfl rfl ?_
              refine g_iload_n 56 (gd rfl) rfl rfl ?_
              refine g_laload 57 (gd rfl) rfl (n := 34) rfl (in_ix i42 rfl) (fun z56 e56 => ?_)
              refine g_lcmp 58 (gd rfl) rfl (fun z57 e57 => ?_)
              have i57 := lc_in e57
              refine g_if_ge 61 65 (gd rfl) rfl rfl (fun c58 => ?_) (fun c58 => ?_)
              · skip
                have i58 := z_ge 0 1 c58 i57 rfl
                have c58a := lc_ge e57 c58
                refine g_iload_n 66 (gd rfl) rfl rfl ?_
                refine g_istore_n 67 (gd rfl) rfl (Nat.le_of_ble_eq_true rfl) ?_
                refine g_iinc 70 (gd rfl) rfl rfl (Nat.le_of_ble_eq_true rfl) (fun z67 e67 => ?_)
                have i67 := in_add 1 32 e67 i14 (in_c 1 rfl) rfl rfl
                refine g_goto 9 (gd rfl) rfl ?_
                have n9 : CHE sc9 (x1).toInt := by first | exact g9_0 | exact p2b
                have n9a : CO sc9 := by first | exact g9_1 | exact co_cg q_0 ⟨hF2.1 112 rfl, hF2.1 113 rfl, hF2.1 114 rfl, hF2.1 115 rfl, hF2.1 116 rfl, hF2.2.1 147 rfl, hF2.2.2.1 109 19 rfl, hF2.2.2.1 109 20 rfl⟩
                have n9b : sc9.2.1 150 = s.2.1 150 := by first | exact g9_2 | exact hF2.2.1 150 rfl
                have n9c : (y9_2).toInt < 0 ∨ ((y9_2).toInt < (sc9.2.2.1 109 20).toInt ∧ (sc9.2.1 150 (y9_2).toNatClampNeg).toInt < 0 ∧ (sc9.2.1 149 (y9_2).toNatClampNeg).toInt < 9000000000000000) := by first | exact g9_3 | (first | exact g9_3 | exact Or.inl (by decide) | exact Or.inr ⟨by rw [hFc9.2.2.1 109 20 rfl, ← e_109_20]; have a0 := oa5 h1 i14a i14 i42 i67; have a5 := t_add e67 i14 (in_c 1 rfl) rfl; have a6 := in_u ((in_c 1 rfl)); omega, by rw [← e22]; have h := i25a.2; omega, by rw [← e33]; have h := i38a.2; omega⟩)
                exact gg_w (by first | exact Nat.le_add_right _ _ | exact gw2 | exact gw3 | exact gwe rfl | exact gwf rfl | exact gwg rfl | exact gwh rfl | omega) (gg_f (gf_cons rfl (gf_cons rfl (gf_cons rfl (gf_cons rfl gf_nil)))) (ih9 sc9 y9_2 z67 hIc9 hFc9 (in_w (-1) 31 i42 rfl) (in_w 0 32 i67 rfl) n9 n9a n9b n9c (m_up mm9 (t_add e67 i14 (in_c 1 rfl) rfl) (in_w 1 1 (in_c 1 rfl) rfl))))
              · skip
                have i58 := z_lt (-1) (-1) c58 i57 rfl
                have c58a := lc_lt e57 c58
                have i58a := lr_lt1 (-9223372036854775808) 9223372036854775806 c58a (l_rng z50) (l_rng z56) rfl
                have i58b := lr_lt2 (-9223372036854775807) 9223372036854775807 c58a (l_rng z50) (l_rng z56) rfl
                refine g_iload_n 62 (gd rfl) rfl rfl ?_
                refine g_goto 66 (gd rfl) rfl ?_
                refine g_istore_n 67 (gd rfl) rfl (Nat.le_of_ble_eq_true rfl) ?_
                refine g_iinc 70 (gd rfl) rfl rfl (Nat.le_of_ble_eq_true rfl) (fun z67 e67 => ?_)
                have i67 := in_add 1 32 e67 i14 (in_c 1 rfl) rfl rfl
                refine g_goto 9 (gd rfl) rfl ?_
                have n9 : CHE sc9 (x1).toInt := by first | exact g9_0 | exact p2b
                have n9a : CO sc9 := by first | exact g9_1 | exact co_cg q_0 ⟨hF2.1 112 rfl, hF2.1 113 rfl, hF2.1 114 rfl, hF2.1 115 rfl, hF2.1 116 rfl, hF2.2.1 147 rfl, hF2.2.2.1 109 19 rfl, hF2.2.2.1 109 20 rfl⟩
                have n9b : sc9.2.1 150 = s.2.1 150 := by first | exact g9_2 | exact hF2.2.1 150 rfl
                have n9c : (y9_3).toInt < 0 ∨ ((y9_3).toInt < (sc9.2.2.1 109 20).toInt ∧ (sc9.2.1 150 (y9_3).toNatClampNeg).toInt < 0 ∧ (sc9.2.1 149 (y9_3).toNatClampNeg).toInt < 9000000000000000) := by first | exact g9_3 | exact Or.inl (by decide) | exact Or.inr ⟨by rw [hFc9.2.2.1 109 20 rfl, ← e_109_20]; have a0 := oa5 h1 i14a i14 i42 i67; have a5 := t_add e67 i14 (in_c 1 rfl) rfl; have a6 := in_u ((in_c 1 rfl)); omega, by rw [← e22]; have h := i25a.2; omega, by rw [← e33]; have h := i38a.2; omega⟩
                exact gg_w (by first | exact Nat.le_add_right _ _ | exact gw2 | exact gw3 | exact gwe rfl | exact gwf rfl | exact gwg rfl | exact gwh rfl | omega) (gg_f (gf_cons rfl (gf_cons rfl (gf_cons rfl (gf_cons rfl gf_nil)))) (ih9 sc9 y9_3 z67 hIc9 hFc9 (in_w (-1) 31 i14 rfl) (in_w 0 32 i67 rfl) n9 n9a n9b n9c (m_up mm9 (t_add e67 i14 (in_c 1 rfl) rfl) (in_w 1 1 (in_c 1 rfl) rfl))))
  refine g_enter2 (k := 358) (N := 88203) (by first | exact dq1 hd rfl | exact dq0 hd rfl | exact dq2 hd rfl | exact dq3 hd rfl | omega) rfl (Nat.le_of_ble_eq_true rfl) ?_
  refine g_aload_n 1 (gd rfl) rfl rfl ?_
  refine g_iload_n 2 (gd rfl) rfl rfl ?_
  have p2 : CP s := by exact q_0.2
  have p2a : (x1).toInt < (s.2.2.1 109 20).toInt := by exact q_2.1
  refine g_callv (X := _) (As := [.int x1]) (r := []) (b := A 109) (q := 109) 5 (gd rfl) rfl rfl rfl rfl rfl (ww_o rfl) (Nat.le_of_ble_eq_true rfl) (Nat.zero_le _) (Nat.zero_le _) (k_356 (by first | exact dq1 hd rfl | exact dq0 hd rfl | exact dq2 hd rfl | exact dq3 hd rfl | omega) hI (in_w 0 31 h1 rfl) p2 p2a) (fun e u h => h) (fun v u h => ?_)
  obtain ⟨s2, hI2, hF2, rfl, rfl, p2b⟩ := h
  show GG _ _ _ _ _ _ _ _ [] _ _ _
  refine g_iconst (-1) 6 (gd rfl) rfl rfl ?_
  refine g_istore_n 7 (gd rfl) rfl (Nat.le_of_ble_eq_true rfl) ?_
  refine g_iconst 0 8 (gd rfl) rfl rfl ?_
  refine g_istore_n 9 (gd rfl) rfl (Nat.le_of_ble_eq_true rfl) ?_
  have n9 : CHE s2 (x1).toInt := by first | exact g9_0 | exact p2b
  have n9a : CO s2 := by first | exact g9_1 | exact co_cg q_0 ⟨hF2.1 112 rfl, hF2.1 113 rfl, hF2.1 114 rfl, hF2.1 115 rfl, hF2.1 116 rfl, hF2.2.1 147 rfl, hF2.2.2.1 109 19 rfl, hF2.2.2.1 109 20 rfl⟩
  have n9b : s2.2.1 150 = s.2.1 150 := by first | exact g9_2 | exact hF2.2.1 150 rfl
  have n9c : ((Int32.ofInt (-1))).toInt < 0 ∨ (((Int32.ofInt (-1))).toInt < (s2.2.2.1 109 20).toInt ∧ (s2.2.1 150 ((Int32.ofInt (-1))).toNatClampNeg).toInt < 0 ∧ (s2.2.1 149 ((Int32.ofInt (-1))).toNatClampNeg).toInt < 9000000000000000) := by first | exact g9_3 | exact Or.inl (by decide) | exact Or.inr ⟨by rw [hFc9.2.2.1 109 20 rfl, ← e_109_20]; have a0 := oa4 ro_109_20 h1 ((in_c 0 rfl)) ((in_c (-1) rfl)); omega, by rw [← e22]; have h := i25a.2; omega, by rw [← e33]; have h := i38a.2; omega⟩
  exact gg_w (by first | exact Nat.le_of_ble_eq_true rfl | omega) (gg_f (gf_cons rfl (gf_cons rfl (gf_cons rfl (gf_cons rfl gf_nil)))) (ct9 33 s2 (Int32.ofInt (-1)) (Int32.ofInt 0) hI2 (fr_tr rfl fr_rf hF2) (in_w (-1) 31 (in_c (-1) rfl) rfl) (in_w 0 32 (in_c 0 rfl) rfl) n9 n9a n9b n9c (m_in 33 (in_w 0 32 (in_c 0 rfl) rfl) rfl)))

def fm_361 : FM := ([148], [149], [], [])
/-- GraphHouseModel.cheapestPair -/
theorem k_361 {Z : AmZ} {A : Nat → Nat} {s : GS} {ex : va_W} {d : Nat} {X : AmX}  (hd : 2 ≤ d) (hI : Inv s) (q_0 : PP s) : GC Z d 361 [.ref (A 109)] (WW Z A s ++ ex) 0 0 (fun v u => ∃ t : GS, Inv t ∧ Fr fm_361 s t ∧ ∃ z : Int32, v = some (.int z) ∧ u = WW Z A t ++ ex ∧ In z (-1) 31 ∧ (∃ n, n ≤ 32 ∧ FLP t (z).toInt n) ∧ (0 ≤ (z).toInt → (t.1 151 (z).toNatClampNeg).toInt < 0)) X := by
  intro post xp hP hX
  obtain ⟨u_109_20, e_109_20⟩ : ∃ w, w = s.2.2.1 109 20 := ⟨_, rfl⟩
  have ro_109_20 := inv_F hI 0 32 rfl e_109_20
  have ct233 : ∀ (k233 : Nat) (sc233 : GS) (y233_1 : Int32) (y233_2 : Int32) (y233_3 : Int32), Inv sc233 → Fr fm_361 s sc233 → (In y233_1 0 0) → (In y233_2 (-1) 31) → (In y233_3 0 32) → (CIP s sc233) → (CLP s sc233 1024) → ((y233_2).toInt < 0 ∨ (In (y233_2) 0 31 ∧ (y233_2).toInt < nnq s ∧ ¬ FSQ s (y233_2).toNatClampNeg ∧ (s.1 151 (y233_2).toNatClampNeg).toInt < 0 ∧ (sc233.2.1 149 (y233_2).toNatClampNeg).toInt < 9000000000000000)) → 32 - (y233_3).toInt < (k233 : Int) → GG Z (d - 1) 361 post (gx xp) (1 + k233 * 900) 233 (fun j => xlook j [(0, .ref (A 109)), (1, .int y233_1), (2, .int y233_2), (3, .int y233_3)]) [] (WW Z A sc233 ++ ex) 0 0 := by
    intro k233
    induction k233 with
    | zero => intro sc233 y233_1 y233_2 y233_3 hIc233 hFc233 j233_1 j233_2 j233_3 g233_0 g233_1 g233_2 mm233; exact m_no mm233 j233_3 rfl
    | succ k233 ih233 =>
      intro sc233 y233_1 y233_2 y233_3 hIc233 hFc233 j233_1 j233_2 j233_3 g233_0 g233_1 g233_2 mm233
      refine gg_w (M := 1 + k233 * 900 + 900) gws ?_
      refine g_iload_n 234 (gd rfl) rfl rfl ?_
      refine g_aload_n 235 (gd rfl) rfl rfl ?_
      refine g_getI 238 (gd rfl) rfl rfl rfl (fun z235 e235 => ?_)
      have q235 : u_109_20 = z235 := (fr_F e_109_20 hFc233 rfl).trans e235.symm
      subst q235
      refine g_cmp_ge 241 315 (gd rfl) rfl rfl (fun c238 => ?_) (fun c238 => ?_)
      · skip
        refine g_iload_n 316 (gd rfl) rfl rfl ?_
        have n316 : ∃ n, n ≤ 32 ∧ FLP sc233 (y233_2).toInt n := by exact flp_0 q_0 (hFc233.1 111 rfl) (hFc233.1 151 rfl) (hFc233.2.1 152 rfl) (hFc233.2.2.1 109 18 rfl) (hFc233.2.2.1 109 20 rfl) g233_0 g233_1 g233_2
        have n316a : 0 ≤ (y233_2).toInt → (sc233.1 151 (y233_2).toNatClampNeg).toInt < 0 := by intro h0; rcases g233_2 with h | h; (exfalso; omega); (rw [hFc233.1 151 rfl]; exact h.2.2.2.1)
        exact g_ireturn (gd rfl) rfl rfl (hP _ _ ⟨sc233, hIc233, hFc233, y233_2, rfl, rfl, in_w (-1) 31 j233_2 rfl, n316, n316a⟩)
      · skip
        have i238 := r_lt1 0 31 c238 j233_3 ro_109_20 rfl
        have i238a := r_lt2 1 32 c238 j233_3 ro_109_20 rfl
        refine g_aload_n 242 (gd rfl) rfl rfl ?_
        refine g_iload_n 243 (gd rfl) rfl rfl ?_
        refine g_callv (X := _) (As := [.int y233_3]) (r := []) (b := A 109) (q := 109) 246 (gd rfl) rfl rfl rfl rfl rfl (ww_o rfl) (Nat.le_of_ble_eq_true rfl) (Nat.zero_le _) (Nat.zero_le _) (k_359 (by first | exact dq1 hd rfl | exact dq0 hd rfl | exact dq2 hd rfl | exact dq3 hd rfl | omega) hIc233 (in_w 0 31 i238 rfl)) (fun e u h => h) (fun v u h => ?_)
        obtain ⟨z243, rfl, rfl, i243, p243⟩ := h
        show GG _ _ _ _ _ _ _ _ [.int z243] _ _ _
        refine g_if_ne 249 275 (gd rfl) rfl rfl (fun c246 => ?_) (fun c246 => ?_)
        · skip
          have i246 := z_ne 1 1 c246 i243 rfl
          refine g_iconst 0 276 (gd rfl) rfl rfl ?_
          refine g_istore 278 (gd rfl) rfl (Nat.le_of_ble_eq_true rfl) ?_
          refine g_iload 280 (gd rfl) rfl rfl ?_
          refine g_if_eq 283 307 (gd rfl) rfl rfl (fun c280 => ?_) (fun c280 => ?_)
          · skip
            refine g_iload_n 308 (gd rfl) rfl rfl ?_
            refine g_istore_n 309 (gd rfl) rfl (Nat.le_of_ble_eq_true rfl) ?_
            refine g_iinc 312 (gd rfl) rfl rfl (Nat.le_of_ble_eq_true rfl) (fun z309 e309 => ?_)
            have i309 := in_add 1 32 e309 i238 (in_c 1 rfl) rfl rfl
            refine g_goto 233 (gd rfl) rfl ?_
            have n233 : CIP s sc233 := by first | exact g55_0 | exact g233_0
            have n233a : CLP s sc233 1024 := by first | exact g233_1 | exact g55_1 c56
            have n233b : (y233_2).toInt < 0 ∨ (In (y233_2) 0 31 ∧ (y233_2).toInt < nnq s ∧ ¬ FSQ s (y233_2).toNatClampNeg ∧ (s.1 151 (y233_2).toNatClampNeg).toInt < 0 ∧ (sc233.2.1 149 (y233_2).toNatClampNeg).toInt < 9000000000000000) := by first | exact g233_2 | (first | exact g233_2 | exact Or.inl (by decide) | exact Or.inr ⟨i238, by unfold nnq; rw [← e_109_20]; have a0 := oa6 i238a i238 j233_2 j233_1 ((in_c 0 rfl)) i309; have a6 := t_add e309 i238 (in_c 1 rfl) rfl; have a7 := in_u ((in_c 1 rfl)); omega, fun h => absurd (p243.mpr ((fs_cg (hFc233.1 111 rfl) (hFc233.2.2.1 109 18 rfl)).mpr h)) (by have h2 := c246; omega), by rw [← hFc233.1 151 rfl, ← e254]; exact c255, by rw [← e263]; have h := i268a.2; omega⟩)
            exact gg_w (by first | exact Nat.le_add_right _ _ | exact gw2 | exact gw3 | exact gwe rfl | exact gwf rfl | exact gwg rfl | exact gwh rfl | omega) (gg_f (gf_cons rfl (gf_cons rfl (gf_cons rfl (gf_cons rfl gf_nil)))) (ih233 sc233 y233_1 y233_2 z309 hIc233 hFc233 (in_w 0 0 j233_1 rfl) (in_w (-1) 31 j233_2 rfl) (in_w 0 32 i309 rfl) n233 n233a n233b (m_up mm233 (t_add e309 i238 (in_c 1 rfl) rfl) (in_w 1 1 (in_c 1 rfl) rfl))))
          · skip
            exact zn_ne c280 (in_c 0 rfl) rfl
        · skip
          have i246 := z_eq 0 0 c246 i243 rfl
          refine g_aload_n 250 (gd rfl) rfl rfl ?_
          refine g_getA (q2 := 151) 253 (gd rfl) rfl rfl rfl rfl ?_
          refine g_iload_n 254 (gd rfl) rfl rfl ?_
          refine g_iaload 255 (gd rfl) rfl (n := 32) rfl (in_ix i238 rfl) (fun z254 e254 => ?_)
          have i254 := inv_I hIc233 (n := 32) (t := 0) (-1) 31 rfl (in_ix i238 rfl) rfl e254
          refine g_if_ge 258 275 (gd rfl) rfl rfl (fun c255 => ?_) (fun c255 => ?_)
          · skip
            have i255 := z_ge 0 31 c255 i254 rfl
            refine g_iconst 0 276 (gd rfl) rfl rfl ?_
            refine g_istore 278 (gd rfl) rfl (Nat.le_of_ble_eq_true rfl) ?_
            refine g_iload 280 (gd rfl) rfl rfl ?_
            refine g_if_eq 283 307 (gd rfl) rfl rfl (fun c280 => ?_) (fun c280 => ?_)
            · skip
              refine g_iload_n 308 (gd rfl) rfl rfl ?_
              refine g_istore_n 309 (gd rfl) rfl (Nat.le_of_ble_eq_true rfl) ?_
              refine g_iinc 312 (gd rfl) rfl rfl (Nat.le_of_ble_eq_true rfl) (fun z309 e309 => ?_)
              have i309 := in_add 1 32 e309 i238 (in_c 1 rfl) rfl rfl
              refine g_goto 233 (gd rfl) rfl ?_
              have n233 : CIP s sc233 := by first | exact g55_0 | exact g233_0
              have n233a : CLP s sc233 1024 := by first | exact g233_1 | exact g55_1 c56
              have n233b : (y233_2).toInt < 0 ∨ (In (y233_2) 0 31 ∧ (y233_2).toInt < nnq s ∧ ¬ FSQ s (y233_2).toNatClampNeg ∧ (s.1 151 (y233_2).toNatClampNeg).toInt < 0 ∧ (sc233.2.1 149 (y233_2).toNatClampNeg).toInt < 9000000000000000) := by first | exact g233_2 | (first | exact g233_2 | exact Or.inl (by decide) | exact Or.inr ⟨i238, by unfold nnq; rw [← e_109_20]; have a0 := oa6 i238a i238 j233_2 j233_1 ((in_c 0 rfl)) i309; have a6 := t_add e309 i238 (in_c 1 rfl) rfl; have a7 := in_u ((in_c 1 rfl)); omega, fun h => absurd (p243.mpr ((fs_cg (hFc233.1 111 rfl) (hFc233.2.2.1 109 18 rfl)).mpr h)) (by have h2 := c246; omega), by rw [← hFc233.1 151 rfl, ← e254]; exact c255, by rw [← e263]; have h := i268a.2; omega⟩)
              exact gg_w (by first | exact Nat.le_add_right _ _ | exact gw2 | exact gw3 | exact gwe rfl | exact gwf rfl | exact gwg rfl | exact gwh rfl | omega) (gg_f (gf_cons rfl (gf_cons rfl (gf_cons rfl (gf_cons rfl gf_nil)))) (ih233 sc233 y233_1 y233_2 z309 hIc233 hFc233 (in_w 0 0 j233_1 rfl) (in_w (-1) 31 j233_2 rfl) (in_w 0 32 i309 rfl) n233 n233a n233b (m_up mm233 (t_add e309 i238 (in_c 1 rfl) rfl) (in_w 1 1 (in_c 1 rfl) rfl))))
            · skip
              exact zn_ne c280 (in_c 0 rfl) rfl
          · skip
            have i255 := z_lt (-1) (-1) c255 i254 rfl
            refine g_aload_n 259 (gd rfl) rfl rfl ?_
            refine g_getA (q2 := 149) 262 (gd rfl) rfl rfl rfl rfl ?_
            refine g_iload_n 263 (gd rfl) rfl rfl ?_
            refine g_laload 264 (gd rfl) rfl (n := 34) rfl (in_ix i238 rfl) (fun z263 e263 => ?_)
            refine g_ldc2_w 9000000000000000 267 (gd rfl) rfl rfl ?_
            refine g_lcmp 268 (gd rfl) rfl (fun z267 e267 => ?_)
            have i267 := lc_in e267
            refine g_if_ge 271 275 (gd rfl) rfl rfl (fun c268 => ?_) (fun c268 => ?_)
            · skip
              have i268 := z_ge 0 1 c268 i267 rfl
              have c268a := lc_ge e267 c268
              have i268a := lr_le2 9000000000000000 9223372036854775807 c268a (l_c 9000000000000000 rfl) (l_rng z263) rfl
              refine g_iconst 0 276 (gd rfl) rfl rfl ?_
              refine g_istore 278 (gd rfl) rfl (Nat.le_of_ble_eq_true rfl) ?_
              refine g_iload 280 (gd rfl) rfl rfl ?_
              refine g_if_eq 283 307 (gd rfl) rfl rfl (fun c280 => ?_) (fun c280 => ?_)
              · skip
                refine g_iload_n 308 (gd rfl) rfl rfl ?_
                refine g_istore_n 309 (gd rfl) rfl (Nat.le_of_ble_eq_true rfl) ?_
                refine g_iinc 312 (gd rfl) rfl rfl (Nat.le_of_ble_eq_true rfl) (fun z309 e309 => ?_)
                have i309 := in_add 1 32 e309 i238 (in_c 1 rfl) rfl rfl
                refine g_goto 233 (gd rfl) rfl ?_
                have n233 : CIP s sc233 := by first | exact g55_0 | exact g233_0
                have n233a : CLP s sc233 1024 := by first | exact g233_1 | exact g55_1 c56
                have n233b : (y233_2).toInt < 0 ∨ (In (y233_2) 0 31 ∧ (y233_2).toInt < nnq s ∧ ¬ FSQ s (y233_2).toNatClampNeg ∧ (s.1 151 (y233_2).toNatClampNeg).toInt < 0 ∧ (sc233.2.1 149 (y233_2).toNatClampNeg).toInt < 9000000000000000) := by first | exact g233_2 | (first | exact g233_2 | exact Or.inl (by decide) | exact Or.inr ⟨i238, by unfold nnq; rw [← e_109_20]; have a0 := oa6 i238a i238 j233_2 j233_1 ((in_c 0 rfl)) i309; have a6 := t_add e309 i238 (in_c 1 rfl) rfl; have a7 := in_u ((in_c 1 rfl)); omega, fun h => absurd (p243.mpr ((fs_cg (hFc233.1 111 rfl) (hFc233.2.2.1 109 18 rfl)).mpr h)) (by have h2 := c246; omega), by rw [← hFc233.1 151 rfl, ← e254]; exact c255, by rw [← e263]; have h := i268a.2; omega⟩)
                exact gg_w (by first | exact Nat.le_add_right _ _ | exact gw2 | exact gw3 | exact gwe rfl | exact gwf rfl | exact gwg rfl | exact gwh rfl | omega) (gg_f (gf_cons rfl (gf_cons rfl (gf_cons rfl (gf_cons rfl gf_nil)))) (ih233 sc233 y233_1 y233_2 z309 hIc233 hFc233 (in_w 0 0 j233_1 rfl) (in_w (-1) 31 j233_2 rfl) (in_w 0 32 i309 rfl) n233 n233a n233b (m_up mm233 (t_add e309 i238 (in_c 1 rfl) rfl) (in_w 1 1 (in_c 1 rfl) rfl))))
              · skip
                exact zn_ne c280 (in_c 0 rfl) rfl
            · skip
              have i268 := z_lt (-1) (-1) c268 i267 rfl
              have c268a := lc_lt e267 c268
              have i268a := lr_lt1 (-9223372036854775808) 8999999999999999 c268a (l_rng z263) (l_c 9000000000000000 rfl) rfl
              refine g_iconst 1 272 (gd rfl) rfl rfl ?_
              refine g_goto 276 (gd rfl) rfl ?_
              refine g_istore 278 (gd rfl) rfl (Nat.le_of_ble_eq_true rfl) ?_
              refine g_iload 280 (gd rfl) rfl rfl ?_
              refine g_if_eq 283 307 (gd rfl) rfl rfl (fun c280 => ?_) (fun c280 => ?_)
              · skip
                exact zn_eq c280 (in_c 1 rfl) rfl
              · skip
                refine g_iload_n 284 (gd rfl) rfl rfl ?_
                refine g_if_lt 287 303 (gd rfl) rfl rfl (fun c284 => ?_) (fun c284 => ?_)
                · skip
                  have i284 := z_lt (-1) (-1) c284 j233_2 rfl
                  refine g_iload_n 304 (gd rfl) rfl rfl ?_
                  refine g_goto 308 (gd rfl) rfl ?_
                  refine g_istore_n 309 (gd rfl) rfl (Nat.le_of_ble_eq_true rfl) ?_
                  refine g_iinc 312 (gd rfl) rfl rfl (Nat.le_of_ble_eq_true rfl) (fun z309 e309 => ?_)
                  have i309 := in_add 1 32 e309 i238 (in_c 1 rfl) rfl rfl
                  refine g_goto 233 (gd rfl) rfl ?_
                  have n233 : CIP s sc233 := by first | exact g55_0 | exact g233_0
                  have n233a : CLP s sc233 1024 := by first | exact g233_1 | exact g55_1 c56
                  have n233b : (y233_3).toInt < 0 ∨ (In (y233_3) 0 31 ∧ (y233_3).toInt < nnq s ∧ ¬ FSQ s (y233_3).toNatClampNeg ∧ (s.1 151 (y233_3).toNatClampNeg).toInt < 0 ∧ (sc233.2.1 149 (y233_3).toNatClampNeg).toInt < 9000000000000000) := by first | exact g233_2 | exact Or.inl (by decide) | exact Or.inr ⟨i238, by unfold nnq; rw [← e_109_20]; have a0 := oa6 i238a i238 i284 j233_1 ((in_c 1 rfl)) i309; have a6 := t_add e309 i238 (in_c 1 rfl) rfl; omega, fun h => absurd (p243.mpr ((fs_cg (hFc233.1 111 rfl) (hFc233.2.2.1 109 18 rfl)).mpr h)) (by have h2 := c246; omega), by rw [← hFc233.1 151 rfl, ← e254]; exact c255, by rw [← e263]; have h := i268a.2; omega⟩
                  exact gg_w (by first | exact Nat.le_add_right _ _ | exact gw2 | exact gw3 | exact gwe rfl | exact gwf rfl | exact gwg rfl | exact gwh rfl | omega) (gg_f (gf_cons rfl (gf_cons rfl (gf_cons rfl (gf_cons rfl gf_nil)))) (ih233 sc233 y233_1 y233_3 z309 hIc233 hFc233 (in_w 0 0 j233_1 rfl) (in_w (-1) 31 i238 rfl) (in_w 0 32 i309 rfl) n233 n233a n233b (m_up mm233 (t_add e309 i238 (in_c 1 rfl) rfl) (in_w 1 1 (in_c 1 rfl) rfl))))
                · skip
                  have i284 := z_ge 0 31 c284 j233_2 rfl
                  refine g_aload_n 288 (gd rfl) rfl rfl ?_
                  refine g_getA (q2 := 149) 291 (gd rfl) rfl rfl rfl rfl ?_
                  refine g_iload_n 292 (gd rfl) rfl rfl ?_
                  refine g_laload 293 (gd rfl) rfl (n := 34) rfl (in_ix i238 rfl) (fun z292 e292 => ?_)
                  refine g_aload_n 294 (gd rfl) rfl rfl ?_
                  refine g_getA (q2 := 149) 297 (gd rfl) rfl rfl rfl rfl ?_
                  refine g_iload_n 298 (gd rfl) rfl rfl ?_
                  refine g_laload 299 (gd rfl) rfl (n := 34) rfl (in_ix i284 rfl) (fun z298 e298 => ?_)
                  refine g_lcmp 300 (gd rfl) rfl (fun z299 e299 => ?_)
                  have i299 := lc_in e299
                  refine g_if_ge 303 307 (gd rfl) rfl rfl (fun c300 => ?_) (fun c300 => ?_)
                  · skip
                    have i300 := z_ge 0 1 c300 i299 rfl
                    have c300a := lc_ge e299 c300
                    refine g_iload_n 308 (gd rfl) rfl rfl ?_
                    refine g_istore_n 309 (gd rfl) rfl (Nat.le_of_ble_eq_true rfl) ?_
                    refine g_iinc 312 (gd rfl) rfl rfl (Nat.le_of_ble_eq_true rfl) (fun z309 e309 => ?_)
                    have i309 := in_add 1 32 e309 i238 (in_c 1 rfl) rfl rfl
                    refine g_goto 233 (gd rfl) rfl ?_
                    have n233 : CIP s sc233 := by first | exact g55_0 | exact g233_0
                    have n233a : CLP s sc233 1024 := by first | exact g233_1 | exact g55_1 c56
                    have n233b : (y233_2).toInt < 0 ∨ (In (y233_2) 0 31 ∧ (y233_2).toInt < nnq s ∧ ¬ FSQ s (y233_2).toNatClampNeg ∧ (s.1 151 (y233_2).toNatClampNeg).toInt < 0 ∧ (sc233.2.1 149 (y233_2).toNatClampNeg).toInt < 9000000000000000) := by first | exact g233_2 | (first | exact g233_2 | exact Or.inl (by decide) | exact Or.inr ⟨i238, by unfold nnq; rw [← e_109_20]; have a0 := oa6 i238a i238 i284 j233_1 ((in_c 1 rfl)) i309; have a6 := t_add e309 i238 (in_c 1 rfl) rfl; omega, fun h => absurd (p243.mpr ((fs_cg (hFc233.1 111 rfl) (hFc233.2.2.1 109 18 rfl)).mpr h)) (by have h2 := c246; omega), by rw [← hFc233.1 151 rfl, ← e254]; exact c255, by rw [← e263]; have h := i268a.2; omega⟩)
                    exact gg_w (by first | exact Nat.le_add_right _ _ | exact gw2 | exact gw3 | exact gwe rfl | exact gwf rfl | exact gwg rfl | exact gwh rfl | omega) (gg_f (gf_cons rfl (gf_cons rfl (gf_cons rfl (gf_cons rfl gf_nil)))) (ih233 sc233 y233_1 y233_2 z309 hIc233 hFc233 (in_w 0 0 j233_1 rfl) (in_w (-1) 31 i284 rfl) (in_w 0 32 i309 rfl) n233 n233a n233b (m_up mm233 (t_add e309 i238 (in_c 1 rfl) rfl) (in_w 1 1 (in_c 1 rfl) rfl))))
                  · skip
                    have i300 := z_lt (-1) (-1) c300 i299 rfl
                    have c300a := lc_lt e299 c300
                    have i300a := lr_lt1 (-9223372036854775808) 9223372036854775806 c300a (l_rng z292) (l_rng z298) rfl
                    have i300b := lr_lt2 (-9223372036854775807) 9223372036854775807 c300a (l_rng z292) (l_rng z298) rfl
                    refine g_iload_n 304 (gd rfl) rfl rfl ?_
                    refine g_goto 308 (gd rfl) rfl ?_
                    refine g_istore_n 309 (gd rfl) rfl (Nat.le_of_ble_eq_true rfl) ?_
                    refine g_iinc 312 (gd rfl) rfl rfl (Nat.le_of_ble_eq_true rfl) (fun z309 e309 => ?_)
                    have i309 := in_add 1 32 e309 i238 (in_c 1 rfl) rfl rfl
                    refine g_goto 233 (gd rfl) rfl ?_
                    have n233 : CIP s sc233 := by first | exact g55_0 | exact g233_0
                    have n233a : CLP s sc233 1024 := by first | exact g233_1 | exact g55_1 c56
                    have n233b : (y233_3).toInt < 0 ∨ (In (y233_3) 0 31 ∧ (y233_3).toInt < nnq s ∧ ¬ FSQ s (y233_3).toNatClampNeg ∧ (s.1 151 (y233_3).toNatClampNeg).toInt < 0 ∧ (sc233.2.1 149 (y233_3).toNatClampNeg).toInt < 9000000000000000) := by first | exact g233_2 | exact Or.inl (by decide) | exact Or.inr ⟨i238, by unfold nnq; rw [← e_109_20]; have a0 := oa6 i238a i238 i284 j233_1 ((in_c 1 rfl)) i309; have a6 := t_add e309 i238 (in_c 1 rfl) rfl; omega, fun h => absurd (p243.mpr ((fs_cg (hFc233.1 111 rfl) (hFc233.2.2.1 109 18 rfl)).mpr h)) (by have h2 := c246; omega), by rw [← hFc233.1 151 rfl, ← e254]; exact c255, by rw [← e263]; have h := i268a.2; omega⟩
                    exact gg_w (by first | exact Nat.le_add_right _ _ | exact gw2 | exact gw3 | exact gwe rfl | exact gwf rfl | exact gwg rfl | exact gwh rfl | omega) (gg_f (gf_cons rfl (gf_cons rfl (gf_cons rfl (gf_cons rfl gf_nil)))) (ih233 sc233 y233_1 y233_3 z309 hIc233 hFc233 (in_w 0 0 j233_1 rfl) (in_w (-1) 31 i238 rfl) (in_w 0 32 i309 rfl) n233 n233a n233b (m_up mm233 (t_add e309 i238 (in_c 1 rfl) rfl) (in_w 1 1 (in_c 1 rfl) rfl))))
  have ct55 : ∀ (k55 : Nat) (sc55 : GS) (y55_1 : Int32), Inv sc55 → Fr fm_361 s sc55 → (In y55_1 0 1) → (CIP s sc55) → ((y55_1).toInt = 0 → CLP s sc55 1024) → 2 * mqp s sc55 + (y55_1).toInt.toNat < k55 → GG Z (d - 1) 361 post (gx xp) (29702 + k55 * 925201) 55 (fun j => xlook j [(0, .ref (A 109)), (1, .int y55_1)]) [] (WW Z A sc55 ++ ex) 0 0 := by
    intro k55
    induction k55 with
    | zero => intro sc55 y55_1 hIc55 hFc55 j55_1 g55_0 g55_1 mm55; exact absurd mm55 (Nat.not_lt_zero _)
    | succ k55 ih55 =>
      intro sc55 y55_1 hIc55 hFc55 j55_1 g55_0 g55_1 mm55
      refine gg_w (M := 29702 + k55 * 925201 + 925201) gws ?_
      have ct63 : ∀ (k63 : Nat) (sc63 : GS) (y63_1 : Int32) (y63_2 : Int32), Inv sc63 → Fr fm_361 s sc63 → (In y63_1 0 1) → (In y63_2 0 1024) → (WKP s (mqp s sc55) sc63 (y63_1).toInt (y63_2).toNatClampNeg) → (y55_1.toInt = 1) → 1024 - (y63_2).toInt < (k63 : Int) → GG Z (d - 1) 361 post (gx xp) (29702 + k55 * 925201 + 1 + k63 * 900) 63 (fun j => xlook j [(0, .ref (A 109)), (1, .int y63_1), (2, .int y63_2)]) [] (WW Z A sc63 ++ ex) 0 0 := by
        intro k63
        induction k63 with
        | zero => intro sc63 y63_1 y63_2 hIc63 hFc63 j63_1 j63_2 g63_0 g63_1 mm63; exact m_no mm63 j63_2 rfl
        | succ k63 ih63 =>
          intro sc63 y63_1 y63_2 hIc63 hFc63 j63_1 j63_2 g63_0 g63_1 mm63
          refine gg_w (M := 29702 + k55 * 925201 + 1 + k63 * 900 + 900) gws ?_
          refine g_iload_n 64 (gd rfl) rfl rfl ?_
          refine g_sipush 1024 67 (gd rfl) rfl rfl ?_
          refine g_cmp_ge 70 226 (gd rfl) rfl rfl (fun c67 => ?_) (fun c67 => ?_)
          · skip
            have i67 := r_le2 1024 1024 c67 (in_c 1024 rfl) j63_2 rfl
            refine g_goto 55 (gd rfl) rfl ?_
            have n55 : CIP s sc63 := by first | exact g63_0.1 | exact cip_0 q_0 (hFc2.2.2.1 109 20 rfl) (fun k hk => g2_0 k (by unfold nnq at hk; rw [← e_109_20] at hk; have a0 := oa3 ro_109_20 i67 j63_1; omega))
            have n55a : (y63_1).toInt = 0 → CLP s sc63 1024 := by first | (intro hz; exfalso; have h0 : (Int32.ofInt 1).toInt = 1 := rfl; omega) | (intro hz; have hc := g63_0.2.2.2 hz; rw [show y63_2.toNatClampNeg = 1024 from (by show y63_2.toInt.toNat = 1024; have a0 := oa3 ro_109_20 i67 j63_1; (first | exact zt_e (by omega) | omega))] at hc; exact hc)
            have m55 : 2 * mqp s sc63 + (y63_1).toInt.toNat < k55 := by have hm := mm55; have hj := g63_1; have hm1 := g63_0.2.1; have hm2 := g63_0.2.2.1; by_cases hz : y63_1.toInt = 0; (have a0 := oa3 ro_109_20 i67 j63_1; omega); (have hm3 := hm2 hz; have hjj := j63_1; unfold In at hjj; have a0 := oa3 ro_109_20 i67 j63_1; omega)
            exact gg_w (by first | exact Nat.le_add_right _ _ | exact gw2 | exact gw3 | exact gwe rfl | exact gwf rfl | exact gwg rfl | exact gwh rfl | omega) (gg_f (gf_cons rfl (gf_cons rfl gf_nil)) (ih55  sc63 y63_1 hIc63 hFc63 (in_w 0 1 j63_1 rfl) n55 n55a m55))
          · skip
            have i67 := r_lt1 0 1023 c67 j63_2 (in_c 1024 rfl) rfl
            refine g_iload_n 71 (gd rfl) rfl rfl ?_
            refine g_bipush 32 73 (gd rfl) rfl rfl ?_
            refine g_idiv 74 (gd rfl) rfl (by decide) (fun z73 e73 => ?_)
            have i73 := in_div 0 31 e73 i67 rfl rfl
            refine g_istore_n 75 (gd rfl) rfl (Nat.le_of_ble_eq_true rfl) ?_
            refine g_iload_n 76 (gd rfl) rfl rfl ?_
            refine g_bipush 32 78 (gd rfl) rfl rfl ?_
            refine g_irem 79 (gd rfl) rfl (by decide) (fun z78 e78 => ?_)
            have i78 := in_rem 31 e78 i67 rfl rfl
            refine g_istore 81 (gd rfl) rfl (Nat.le_of_ble_eq_true rfl) ?_
            refine g_aload_n 82 (gd rfl) rfl rfl ?_
            refine g_getA (q2 := 152) 85 (gd rfl) rfl rfl rfl rfl ?_
            refine g_iload_n 86 (gd rfl) rfl rfl ?_
            refine g_laload 87 (gd rfl) rfl (n := 1024) rfl (in_ix i67 rfl) (fun z86 e86 => ?_)
            refine g_ldc2_w 9000000000000000 90 (gd rfl) rfl rfl ?_
            refine g_lcmp 91 (gd rfl) rfl (fun z90 e90 => ?_)
            have i90 := lc_in e90
            refine g_if_ge 94 220 (gd rfl) rfl rfl (fun c91 => ?_) (fun c91 => ?_)
            · skip
              have i91 := z_ge 0 1 c91 i90 rfl
              have c91a := lc_ge e90 c91
              have i91a := lr_le2 9000000000000000 9223372036854775807 c91a (l_c 9000000000000000 rfl) (l_rng z86) rfl
              refine g_iinc 223 (gd rfl) rfl rfl (Nat.le_of_ble_eq_true rfl) (fun z220 e220 => ?_)
              have i220 := in_add 1 1024 e220 i67 (in_c 1 rfl) rfl rfl
              refine g_goto 63 (gd rfl) rfl ?_
              have n63 : WKP s (mqp s sc55) sc63 (y63_1).toInt (z220).toNatClampNeg := by rw [show (z220).toNatClampNeg = y63_2.toNatClampNeg + 1 from (by show z220.toInt.toNat = y63_2.toInt.toNat + 1; have a0 := oa5 ro_109_20 i67 j63_1 i78 i73; have a5 := t_div e73 i67 rfl; have a6 := in_u i220; have a7 := t_add e220 i67 (in_c 1 rfl) rfl; have a8 := in_u ((in_c 1 rfl)); (first | exact zt_s (by omega) (by omega) | omega))]; exact wkp_s g63_0 i73 i78 (kp32 i67 e73 e78) (fun h1 _ _ => by exfalso; rw [← hFc63.2.1 152 rfl, ← e86] at h1; have h := i91a.1; omega)
              have n63a : y55_1.toInt = 1 := by first | exact g63_1 | (first | exact g63_1 | (have hj := j55_1; unfold In at hj; have hc := c56; omega))
              exact gg_w (by first | exact Nat.le_add_right _ _ | exact gw2 | exact gw3 | exact gwe rfl | exact gwf rfl | exact gwg rfl | exact gwh rfl | omega) (gg_f (gf_cons rfl (gf_cons rfl (gf_cons rfl gf_nil))) (ih63 sc63 y63_1 z220 hIc63 hFc63 (in_w 0 1 j63_1 rfl) (in_w 0 1024 i220 rfl) n63 n63a (m_up mm63 (t_add e220 i67 (in_c 1 rfl) rfl) (in_w 1 1 (in_c 1 rfl) rfl))))
            · skip
              have i91 := z_lt (-1) (-1) c91 i90 rfl
              have c91a := lc_lt e90 c91
              have i91a := lr_lt1 (-9223372036854775808) 8999999999999999 c91a (l_rng z86) (l_c 9000000000000000 rfl) rfl
              refine g_aload_n 95 (gd rfl) rfl rfl ?_
              refine g_getA (q2 := 149) 98 (gd rfl) rfl rfl rfl rfl ?_
              refine g_iload_n 99 (gd rfl) rfl rfl ?_
              refine g_laload 100 (gd rfl) rfl (n := 34) rfl (in_ix i73 rfl) (fun z99 e99 => ?_)
              refine g_ldc2_w 9000000000000000 103 (gd rfl) rfl rfl ?_
              refine g_lcmp 104 (gd rfl) rfl (fun z103 e103 => ?_)
              have i103 := lc_in e103
              refine g_if_ge 107 220 (gd rfl) rfl rfl (fun c104 => ?_) (fun c104 => ?_)
              · skip
                have i104 := z_ge 0 1 c104 i103 rfl
                have c104a := lc_ge e103 c104
                have i104a := lr_le2 9000000000000000 9223372036854775807 c104a (l_c 9000000000000000 rfl) (l_rng z99) rfl
                refine g_iinc 223 (gd rfl) rfl rfl (Nat.le_of_ble_eq_true rfl) (fun z220 e220 => ?_)
                have i220 := in_add 1 1024 e220 i67 (in_c 1 rfl) rfl rfl
                refine g_goto 63 (gd rfl) rfl ?_
                have n63 : WKP s (mqp s sc55) sc63 (y63_1).toInt (z220).toNatClampNeg := by rw [show (z220).toNatClampNeg = y63_2.toNatClampNeg + 1 from (by show z220.toInt.toNat = y63_2.toInt.toNat + 1; have a0 := oa5 ro_109_20 i67 j63_1 i78 i73; have a5 := t_div e73 i67 rfl; have a6 := in_u i220; have a7 := t_add e220 i67 (in_c 1 rfl) rfl; have a8 := in_u ((in_c 1 rfl)); (first | exact zt_s (by omega) (by omega) | omega))]; exact wkp_s g63_0 i73 i78 (kp32 i67 e73 e78) (fun _ h2 _ => by exfalso; rw [← e99] at h2; have h := i104a.1; omega)
                have n63a : y55_1.toInt = 1 := by first | exact g63_1 | (first | exact g63_1 | (have hj := j55_1; unfold In at hj; have hc := c56; omega))
                exact gg_w (by first | exact Nat.le_add_right _ _ | exact gw2 | exact gw3 | exact gwe rfl | exact gwf rfl | exact gwg rfl | exact gwh rfl | omega) (gg_f (gf_cons rfl (gf_cons rfl (gf_cons rfl gf_nil))) (ih63 sc63 y63_1 z220 hIc63 hFc63 (in_w 0 1 j63_1 rfl) (in_w 0 1024 i220 rfl) n63 n63a (m_up mm63 (t_add e220 i67 (in_c 1 rfl) rfl) (in_w 1 1 (in_c 1 rfl) rfl))))
              · skip
                have i104 := z_lt (-1) (-1) c104 i103 rfl
                have c104a := lc_lt e103 c104
                have i104a := lr_lt1 (-9223372036854775808) 8999999999999999 c104a (l_rng z99) (l_c 9000000000000000 rfl) rfl
                refine g_aload_n 108 (gd rfl) rfl rfl ?_
                refine g_getA (q2 := 151) 111 (gd rfl) rfl rfl rfl rfl ?_
                refine g_iload_n 112 (gd rfl) rfl rfl ?_
                refine g_iaload 113 (gd rfl) rfl (n := 32) rfl (in_ix i73 rfl) (fun z112 e112 => ?_)
                have i112 := inv_I hIc63 (n := 32) (t := 0) (-1) 31 rfl (in_ix i73 rfl) rfl e112
                refine g_iload 115 (gd rfl) rfl rfl ?_
                refine g_cmp_eq 118 220 (gd rfl) rfl rfl (fun c115 => ?_) (fun c115 => ?_)
                · skip
                  have i115 := r_eq1 0 31 c115 i112 i78 rfl
                  refine g_iinc 223 (gd rfl) rfl rfl (Nat.le_of_ble_eq_true rfl) (fun z220 e220 => ?_)
                  have i220 := in_add 1 1024 e220 i67 (in_c 1 rfl) rfl rfl
                  refine g_goto 63 (gd rfl) rfl ?_
                  have n63 : WKP s (mqp s sc55) sc63 (y63_1).toInt (z220).toNatClampNeg := by rw [show (z220).toNatClampNeg = y63_2.toNatClampNeg + 1 from (by show z220.toInt.toNat = y63_2.toInt.toNat + 1; have a0 := oa5 ro_109_20 i67 j63_1 i78 i73; have a5 := t_div e73 i67 rfl; have a6 := in_u i220; have a7 := t_add e220 i67 (in_c 1 rfl) rfl; have a8 := in_u ((in_c 1 rfl)); (first | exact zt_s (by omega) (by omega) | omega))]; exact wkp_s g63_0 i73 i78 (kp32 i67 e73 e78) (fun _ _ h3 => absurd (by rw [← hFc63.1 151 rfl, ← e112]; exact c115) h3)
                  have n63a : y55_1.toInt = 1 := by first | exact g63_1 | (first | exact g63_1 | (have hj := j55_1; unfold In at hj; have hc := c56; omega))
                  exact gg_w (by first | exact Nat.le_add_right _ _ | exact gw2 | exact gw3 | exact gwe rfl | exact gwf rfl | exact gwg rfl | exact gwh rfl | omega) (gg_f (gf_cons rfl (gf_cons rfl (gf_cons rfl gf_nil))) (ih63 sc63 y63_1 z220 hIc63 hFc63 (in_w 0 1 j63_1 rfl) (in_w 0 1024 i220 rfl) n63 n63a (m_up mm63 (t_add e220 i67 (in_c 1 rfl) rfl) (in_w 1 1 (in_c 1 rfl) rfl))))
                · skip
                  refine g_aload_n 119 (gd rfl) rfl rfl ?_
                  refine g_getA (q2 := 149) 122 (gd rfl) rfl rfl rfl rfl ?_
                  refine g_iload_n 123 (gd rfl) rfl rfl ?_
                  refine g_laload 124 (gd rfl) rfl (n := 34) rfl (in_ix i73 rfl) (fun z123 e123 => ?_)
                  refine g_aload_n 125 (gd rfl) rfl rfl ?_
                  refine g_getA (q2 := 152) 128 (gd rfl) rfl rfl rfl rfl ?_
                  refine g_iload_n 129 (gd rfl) rfl rfl ?_
                  refine g_laload 130 (gd rfl) rfl (n := 1024) rfl (in_ix i67 rfl) (fun z129 e129 => ?_)
                  refine g_ladd 131 (gd rfl) rfl (fun z130 e130 => ?_)
                  refine g_aload_n 132 (gd rfl) rfl rfl ?_
                  refine g_getA (q2 := 149) 135 (gd rfl) rfl rfl rfl rfl ?_
                  refine g_iload 137 (gd rfl) rfl rfl ?_
                  refine g_laload 138 (gd rfl) rfl (n := 34) rfl (in_ix i78 rfl) (fun z137 e137 => ?_)
                  refine g_lcmp 139 (gd rfl) rfl (fun z138 e138 => ?_)
                  have i138 := lc_in e138
                  refine g_if_ge 142 220 (gd rfl) rfl rfl (fun c139 => ?_) (fun c139 => ?_)
                  · skip
                    have i139 := z_ge 0 1 c139 i138 rfl
                    have c139a := lc_ge e138 c139
                    refine g_iinc 223 (gd rfl) rfl rfl (Nat.le_of_ble_eq_true rfl) (fun z220 e220 => ?_)
                    have i220 := in_add 1 1024 e220 i67 (in_c 1 rfl) rfl rfl
                    refine g_goto 63 (gd rfl) rfl ?_
                    have n63 : WKP s (mqp s sc55) sc63 (y63_1).toInt (z220).toNatClampNeg := by rw [show (z220).toNatClampNeg = y63_2.toNatClampNeg + 1 from (by show z220.toInt.toNat = y63_2.toInt.toNat + 1; have a0 := oa5 ro_109_20 i67 j63_1 i78 i73; have a5 := t_div e73 i67 rfl; have a6 := in_u i220; have a7 := t_add e220 i67 (in_c 1 rfl) rfl; have a8 := in_u ((in_c 1 rfl)); (first | exact zt_s (by omega) (by omega) | omega))]; exact wkp_s g63_0 i73 i78 (kp32 i67 e73 e78) (fun _ _ _ => cip_add q_0 (hFc63.2.2.1 109 20 rfl) g63_0.1 i73 i78 (kp32 i67 e73 e78) (by rw [← hFc63.2.1 152 rfl]; exact e129) (by rw [e129, ← e86]; have h := i91a.2; omega) e123 (by rw [e123, ← e99]; have h := i104a.2; omega) e130 e137 c139a)
                    have n63a : y55_1.toInt = 1 := by first | exact g63_1 | (first | exact g63_1 | (have hj := j55_1; unfold In at hj; have hc := c56; omega))
                    exact gg_w (by first | exact Nat.le_add_right _ _ | exact gw2 | exact gw3 | exact gwe rfl | exact gwf rfl | exact gwg rfl | exact gwh rfl | omega) (gg_f (gf_cons rfl (gf_cons rfl (gf_cons rfl gf_nil))) (ih63 sc63 y63_1 z220 hIc63 hFc63 (in_w 0 1 j63_1 rfl) (in_w 0 1024 i220 rfl) n63 n63a (m_up mm63 (t_add e220 i67 (in_c 1 rfl) rfl) (in_w 1 1 (in_c 1 rfl) rfl))))
                  · skip
                    have i139 := z_lt (-1) (-1) c139 i138 rfl
                    have c139a := lc_lt e138 c139
                    have i139a := lr_lt1 (-9223372036854775808) 9223372036854775806 c139a (l_rng z130) (l_rng z137) rfl
                    have i139b := lr_lt2 (-9223372036854775807) 9223372036854775807 c139a (l_rng z130) (l_rng z137) rfl
                    refine g_aload_n 143 (gd rfl) rfl rfl ?_
                    refine g_getA (q2 := 149) 146 (gd rfl) rfl rfl rfl rfl ?_
                    refine g_iload 148 (gd rfl) rfl rfl ?_
                    refine g_aload_n 149 (gd rfl) rfl rfl ?_
                    refine g_getA (q2 := 149) 152 (gd rfl) rfl rfl rfl rfl ?_
                    refine g_iload_n 153 (gd rfl) rfl rfl ?_
                    refine g_laload 154 (gd rfl) rfl (n := 34) rfl (in_ix i73 rfl) (fun z153 e153 => ?_)
                    refine g_aload_n 155 (gd rfl) rfl rfl ?_
                    refine g_getA (q2 := 152) 158 (gd rfl) rfl rfl rfl rfl ?_
                    refine g_iload_n 159 (gd rfl) rfl rfl ?_
                    refine g_laload 160 (gd rfl) rfl (n := 1024) rfl (in_ix i67 rfl) (fun z159 e159 => ?_)
                    refine g_ladd 161 (gd rfl) rfl (fun z160 e160 => ?_)
                    refine g_lastore 162 (gd rfl) rfl (n := 34) rfl (in_ix i78 rfl) ?_
                    have hI161 := inv_sL (q := 149) (j := z78.toNatClampNeg) (x := z160) hIc63 rfl (l_rng z160)
                    refine g_aload_n 163 (gd rfl) rfl rfl ?_
                    refine g_getA (q2 := 148) 166 (gd rfl) rfl rfl rfl rfl ?_
                    refine g_iload 168 (gd rfl) rfl rfl ?_
                    refine g_iload_n 169 (gd rfl) rfl rfl ?_
                    refine g_iastore 170 (gd rfl) rfl (n := 34) rfl (in_ix i78 rfl) ?_
                    have hI169 := inv_sI (q := 148) (j := z78.toNatClampNeg) hI161 rfl (in_w (-1) 1000 i73 rfl)
                    refine g_iconst 1 171 (gd rfl) rfl rfl ?_
                    refine g_istore_n 172 (gd rfl) rfl (Nat.le_of_ble_eq_true rfl) ?_
                    refine g_aload_n 173 (gd rfl) rfl rfl ?_
                    refine g_getA (q2 := 151) 176 (gd rfl) rfl rfl rfl rfl ?_
                    refine g_iload 178 (gd rfl) rfl rfl ?_
                    refine g_iaload 179 (gd rfl) rfl (n := 32) rfl (in_ix i78 rfl) (fun z178 e178 => ?_)
                    have i178 := inv_I hI169 (n := 32) (t := 0) (-1) 31 rfl (in_ix i78 rfl) rfl e178
                    refine g_if_lt 182 220 (gd rfl) rfl rfl (fun c179 => ?_) (fun c179 => ?_)
                    · skip
                      have i179 := z_lt (-1) (-1) c179 i178 rfl
                      refine g_iinc 223 (gd rfl) rfl rfl (Nat.le_of_ble_eq_true rfl) (fun z220 e220 => ?_)
                      have i220 := in_add 1 1024 e220 i67 (in_c 1 rfl) rfl rfl
                      refine g_goto 63 (gd rfl) rfl ?_
                      have n63 : WKP s (mqp s sc55) (sI (sL sc63 149 z78.toNatClampNeg z160) 148 z78.toNatClampNeg z73) ((Int32.ofInt 1)).toInt (z220).toNatClampNeg := by rw [show (z220).toNatClampNeg = y63_2.toNatClampNeg + 1 from (by show z220.toInt.toNat = y63_2.toInt.toNat + 1; have a0 := oa5 ro_109_20 i67 j63_1 i78 i73; have a5 := t_div e73 i67 rfl; have a6 := in_u i220; have a7 := t_add e220 i67 (in_c 1 rfl) rfl; have a8 := in_u ((in_c 1 rfl)); (first | exact zt_s (by omega) (by omega) | omega))]; exact (wkp_ch g63_0 (cip_1 q_0 (hFc63.2.2.1 109 20 rfl) g63_0.1 i73 i78 (kp32 i67 e73 e78) (by rw [← hFc63.2.1 152 rfl]; exact e159) (by rw [e159, ← e86]; have h := i91a.2; omega) e153 (by rw [e153, ← e99]; have h := i104a.2; omega) e160 (by rw [show z160 = z130 from (by rw [e160, e130, e153, e123, e159, e129]), ← e137]; exact c139a) (by rw [← hFc63.1 151 rfl, show sc63.1 151 z78.toNatClampNeg = z178 from (by rw [e178, sI_p rfl]; rfl)]; exact c179)) _)
                      have n63a : y55_1.toInt = 1 := by first | exact g63_1 | (first | exact g63_1 | (have hj := j55_1; unfold In at hj; have hc := c56; omega))
                      exact gg_w (by first | exact Nat.le_add_right _ _ | exact gw2 | exact gw3 | exact gwe rfl | exact gwf rfl | exact gwg rfl | exact gwh rfl | omega) (gg_f (gf_cons rfl (gf_cons rfl (gf_cons rfl gf_nil))) (ih63 (sI (sL sc63 149 z78.toNatClampNeg z160) 148 z78.toNatClampNeg z73) (Int32.ofInt 1) z220 hI169 (fr_sI rfl (fr_sL rfl hFc63)) (in_w 0 1 (in_c 1 rfl) rfl) (in_w 0 1024 i220 rfl) n63 n63a (m_up mm63 (t_add e220 i67 (in_c 1 rfl) rfl) (in_w 1 1 (in_c 1 rfl) rfl))))
                    · skip
                      have i179 := z_ge 0 31 c179 i178 rfl
                      refine g_aload_n 183 (gd rfl) rfl rfl ?_
                      refine g_getA (q2 := 149) 186 (gd rfl) rfl rfl rfl rfl ?_
                      refine g_aload_n 187 (gd rfl) rfl rfl ?_
                      refine g_getA (q2 := 151) 190 (gd rfl) rfl rfl rfl rfl ?_
                      refine g_iload 192 (gd rfl) rfl rfl ?_
                      refine g_iaload 193 (gd rfl) rfl (n := 32) rfl (in_ix i78 rfl) (fun z192 e192 => ?_)
                      have q192 : z178 = z192 := (e178).trans e192.symm
                      subst q192
                      refine g_aload_n 194 (gd rfl) rfl rfl ?_
                      refine g_getA (q2 := 149) 197 (gd rfl) rfl rfl rfl rfl ?_
                      refine g_iload 199 (gd rfl) rfl rfl ?_
                      refine g_laload 200 (gd rfl) rfl (n := 34) rfl (in_ix i78 rfl) (fun z199 e199 => ?_)
                      refine g_aload_n 201 (gd rfl) rfl rfl ?_
                      refine g_getA (q2 := 152) 204 (gd rfl) rfl rfl rfl rfl ?_
                      refine g_bipush 32 206 (gd rfl) rfl rfl ?_
                      refine g_aload_n 207 (gd rfl) rfl rfl ?_
                      refine g_getA (q2 := 151) 210 (gd rfl) rfl rfl rfl rfl ?_
                      refine g_iload 212 (gd rfl) rfl rfl ?_
                      refine g_iaload 213 (gd rfl) rfl (n := 32) rfl (in_ix i78 rfl) (fun z212 e212 => ?_)
                      have q212 : z178 = z212 := (e178).trans e212.symm
                      subst q212
                      refine g_imul 214 (gd rfl) rfl (fun z213 e213 => ?_)
                      have i213 := in_mulc 32 0 992 (Or.inl e213) i179 rfl rfl
                      refine g_iload 216 (gd rfl) rfl rfl ?_
                      refine g_iadd 217 (gd rfl) rfl (fun z216 e216 => ?_)
                      have i216 := in_add 0 1023 e216 i213 i78 rfl rfl
                      refine g_laload 218 (gd rfl) rfl (n := 1024) rfl (in_ix i216 rfl) (fun z217 e217 => ?_)
                      refine g_lsub 219 (gd rfl) rfl (fun z218 e218 => ?_)
                      refine g_lastore 220 (gd rfl) rfl (n := 34) rfl (in_ix i179 rfl) ?_
                      have hI219 := inv_sL (q := 149) (j := z178.toNatClampNeg) (x := z218) hI169 rfl (l_rng z218)
                      refine g_iinc 223 (gd rfl) rfl rfl (Nat.le_of_ble_eq_true rfl) (fun z220 e220 => ?_)
                      have i220 := in_add 1 1024 e220 i67 (in_c 1 rfl) rfl rfl
                      refine g_goto 63 (gd rfl) rfl ?_
                      have n63 : WKP s (mqp s sc55) (sL (sI (sL sc63 149 z78.toNatClampNeg z160) 148 z78.toNatClampNeg z73) 149 z178.toNatClampNeg z218) ((Int32.ofInt 1)).toInt (z220).toNatClampNeg := by rw [show (z220).toNatClampNeg = y63_2.toNatClampNeg + 1 from (by show z220.toInt.toNat = y63_2.toInt.toNat + 1; have a0 := oa5 ro_109_20 i67 j63_1 i78 i73; have a5 := t_div e73 i67 rfl; have a6 := in_u i220; have a7 := t_add e220 i67 (in_c 1 rfl) rfl; have a8 := oa2 ((in_c 1 rfl)) i216; have a10 := t_add e216 i213 i78 rfl; have a11 := in_u i213; have a12 := (t_mulc 32 (Or.inl e213) i179 rfl).1; have a13 := in_u i179; (first | exact zt_s (by omega) (by omega) | omega))]; exact (wkp_ch g63_0 (cip_2 (w2 := z217) q_0 (hFc63.2.2.1 109 20 rfl) g63_0.1 i73 i78 (kp32 i67 e73 e78) (by rw [← hFc63.2.1 152 rfl]; exact e159) (by rw [e159, ← e86]; have h := i91a.2; omega) e153 (by rw [e153, ← e99]; have h := i104a.2; omega) e160 (by rw [show z160 = z130 from (by rw [e160, e130, e153, e123, e159, e129]), ← e137]; exact c139a) (by rw [← hFc63.1 151 rfl, show sc63.1 151 z78.toNatClampNeg = z178 from (by rw [e178, sI_p rfl]; rfl)]; have h := c179; omega) (by rw [← hFc63.1 151 rfl, show sc63.1 151 z78.toNatClampNeg = z178 from (by rw [e178, sI_p rfl]; rfl)]) (by rw [show 32 * z178.toNatClampNeg + z78.toNatClampNeg = z216.toNatClampNeg from (by show 32 * z178.toInt.toNat + z78.toInt.toNat = z216.toInt.toNat; have a0 := oa5 ro_109_20 i67 j63_1 i78 i73; have a5 := t_div e73 i67 rfl; have a6 := in_u i220; have a7 := t_add e220 i67 (in_c 1 rfl) rfl; have a8 := oa2 ((in_c 1 rfl)) i216; have a10 := t_add e216 i213 i78 rfl; have a11 := in_u i213; have a12 := (t_mulc 32 (Or.inl e213) i179 rfl).1; have a13 := in_u i179; omega), ← hFc63.2.1 152 rfl, e217]; simp [sI, sL]) (by rw [e218, show z199 = z160 from (by rw [e199]; simp [sI, sL, vp_updL])])) _)
                      have n63a : y55_1.toInt = 1 := by first | exact g63_1 | (first | exact g63_1 | (have hj := j55_1; unfold In at hj; have hc := c56; omega))
                      exact gg_w (by first | exact Nat.le_add_right _ _ | exact gw2 | exact gw3 | exact gwe rfl | exact gwf rfl | exact gwg rfl | exact gwh rfl | omega) (gg_f (gf_cons rfl (gf_cons rfl (gf_cons rfl gf_nil))) (ih63 (sL (sI (sL sc63 149 z78.toNatClampNeg z160) 148 z78.toNatClampNeg z73) 149 z178.toNatClampNeg z218) (Int32.ofInt 1) z220 hI219 (fr_sL rfl (fr_sI rfl (fr_sL rfl hFc63))) (in_w 0 1 (in_c 1 rfl) rfl) (in_w 0 1024 i220 rfl) n63 n63a (m_up mm63 (t_add e220 i67 (in_c 1 rfl) rfl) (in_w 1 1 (in_c 1 rfl) rfl))))
      refine g_iload_n 56 (gd rfl) rfl rfl ?_
      refine g_if_eq 59 229 (gd rfl) rfl rfl (fun c56 => ?_) (fun c56 => ?_)
      · skip
        have i56 := z_eq 0 0 c56 j55_1 rfl
        refine g_iconst (-1) 230 (gd rfl) rfl rfl ?_
        refine g_istore_n 231 (gd rfl) rfl (Nat.le_of_ble_eq_true rfl) ?_
        refine g_iconst 0 232 (gd rfl) rfl rfl ?_
        refine g_istore_n 233 (gd rfl) rfl (Nat.le_of_ble_eq_true rfl) ?_
        have n233 : CIP s sc55 := by first | exact g55_0 | exact g233_0
        have n233a : CLP s sc55 1024 := by first | exact g233_1 | exact g55_1 c56
        have n233b : ((Int32.ofInt (-1))).toInt < 0 ∨ (In ((Int32.ofInt (-1))) 0 31 ∧ ((Int32.ofInt (-1))).toInt < nnq s ∧ ¬ FSQ s ((Int32.ofInt (-1))).toNatClampNeg ∧ (s.1 151 ((Int32.ofInt (-1))).toNatClampNeg).toInt < 0 ∧ (sc55.2.1 149 ((Int32.ofInt (-1))).toNatClampNeg).toInt < 9000000000000000) := by first | exact g233_2 | exact Or.inl (by decide) | exact Or.inr ⟨i238, by unfold nnq; rw [← e_109_20]; have a0 := oa4 ro_109_20 i56 ((in_c 0 rfl)) ((in_c (-1) rfl)); omega, fun h => absurd (p243.mpr ((fs_cg (hFc233.1 111 rfl) (hFc233.2.2.1 109 18 rfl)).mpr h)) (by have h2 := c246; omega), by rw [← hFc233.1 151 rfl, ← e254]; exact c255, by rw [← e263]; have h := i268a.2; omega⟩
        exact gg_w (by first | exact Nat.le_add_right _ _ | exact gw2 | exact gw3 | exact gwe rfl | exact gwf rfl | exact gwg rfl | exact gwh rfl | omega) (gg_f (gf_cons rfl (gf_cons rfl (gf_cons rfl (gf_cons rfl gf_nil)))) (ct233 33 sc55 y55_1 (Int32.ofInt (-1)) (Int32.ofInt 0) hIc55 hFc55 (in_w 0 0 i56 rfl) (in_w (-1) 31 (in_c (-1) rfl) rfl) (in_w 0 32 (in_c 0 rfl) rfl) n233 n233a n233b (m_in 33 (in_w 0 32 (in_c 0 rfl) rfl) rfl)))
      · skip
        have i56 := z_ne 1 1 c56 j55_1 rfl
        refine g_iconst 0 60 (gd rfl) rfl rfl ?_
        refine g_istore_n 61 (gd rfl) rfl (Nat.le_of_ble_eq_true rfl) ?_
        refine g_iconst 0 62 (gd rfl) rfl rfl ?_
        refine g_istore_n 63 (gd rfl) rfl (Nat.le_of_ble_eq_true rfl) ?_
        have n63 : WKP s (mqp s sc55) sc55 ((Int32.ofInt 0)).toInt ((Int32.ofInt 0)).toNatClampNeg := by exact wkp_0 g55_0
        have n63a : y55_1.toInt = 1 := by first | exact g63_1 | (have hj := j55_1; unfold In at hj; have hc := c56; omega)
        exact gg_w (by first | exact Nat.le_add_right _ _ | exact gw2 | exact gw3 | exact gwe rfl | exact gwf rfl | exact gwg rfl | exact gwh rfl | omega) (gg_f (gf_cons rfl (gf_cons rfl (gf_cons rfl gf_nil))) (ct63 1025 sc55 (Int32.ofInt 0) (Int32.ofInt 0) hIc55 hFc55 (in_w 0 1 (in_c 0 rfl) rfl) (in_w 0 1024 (in_c 0 rfl) rfl) n63 n63a (m_in 1025 (in_w 0 1024 (in_c 0 rfl) rfl) rfl)))
  have ct2 : ∀ (k2 : Nat) (sc2 : GS) (y2_1 : Int32), Inv sc2 → Fr fm_361 s sc2 → (In y2_1 0 32) → (∀ k : Nat, (k : Int) < (y2_1).toInt → (spq s k → (sc2.2.1 149 k).toInt = 0) ∧ (¬ spq s k → (sc2.2.1 149 k).toInt = 9000000000000000)) → 32 - (y2_1).toInt < (k2 : Int) → GG Z (d - 1) 361 post (gx xp) (5921286401880105 + k2 * 900) 2 (fun j => xlook j [(0, .ref (A 109)), (1, .int y2_1)]) [] (WW Z A sc2 ++ ex) 0 0 := by
    intro k2
    induction k2 with
    | zero => intro sc2 y2_1 hIc2 hFc2 j2_1 g2_0 mm2; exact m_no mm2 j2_1 rfl
    | succ k2 ih2 =>
      intro sc2 y2_1 hIc2 hFc2 j2_1 g2_0 mm2
      refine gg_w (M := 5921286401880105 + k2 * 900 + 900) gws ?_
      refine g_iload_n 3 (gd rfl) rfl rfl ?_
      refine g_aload_n 4 (gd rfl) rfl rfl ?_
      refine g_getI 7 (gd rfl) rfl rfl rfl (fun z4 e4 => ?_)
      have q4 : u_109_20 = z4 := (fr_F e_109_20 hFc2 rfl).trans e4.symm
      subst q4
      refine g_cmp_ge 10 53 (gd rfl) rfl rfl (fun c7 => ?_) (fun c7 => ?_)
      · skip
        refine g_iconst 1 54 (gd rfl) rfl rfl ?_
        refine g_istore_n 55 (gd rfl) rfl (Nat.le_of_ble_eq_true rfl) ?_
        have n55 : CIP s sc2 := by first | exact g63_0.1 | exact cip_0 q_0 (hFc2.2.2.1 109 20 rfl) (fun k hk => g2_0 k (by unfold nnq at hk; rw [← e_109_20] at hk; have a0 := oa3 ro_109_20 j2_1 ((in_c 1 rfl)); omega))
        have n55a : ((Int32.ofInt 1)).toInt = 0 → CLP s sc2 1024 := by exact fun h => absurd h (by decide)
        have m55 : 2 * mqp s sc2 + ((Int32.ofInt 1)).toInt.toNat < 6400000002 := by have hm := cip_m n55; have h1 : (Int32.ofInt 1).toInt.toNat = 1 := rfl; omega
        exact gg_w (by first | exact Nat.le_add_right _ _ | exact gw2 | exact gw3 | exact gwe rfl | exact gwf rfl | exact gwg rfl | exact gwh rfl | omega) (gg_f (gf_cons rfl (gf_cons rfl gf_nil)) (ct55 (6400000002) sc2 (Int32.ofInt 1) hIc2 hFc2 (in_w 0 1 (in_c 1 rfl) rfl) n55 n55a m55))
      · skip
        have i7 := r_lt1 0 31 c7 j2_1 ro_109_20 rfl
        have i7a := r_lt2 1 32 c7 j2_1 ro_109_20 rfl
        refine g_aload_n 11 (gd rfl) rfl rfl ?_
        refine g_getA (q2 := 149) 14 (gd rfl) rfl rfl rfl rfl ?_
        refine g_iload_n 15 (gd rfl) rfl rfl ?_
        refine g_aload_n 16 (gd rfl) rfl rfl ?_
        refine g_iload_n 17 (gd rfl) rfl rfl ?_
        refine g_callv (X := _) (As := [.int y2_1]) (r := [.int y2_1, .ref (A 149)]) (b := A 109) (q := 109) 20 (gd rfl) rfl rfl rfl rfl rfl (ww_o rfl) (Nat.le_of_ble_eq_true rfl) (Nat.zero_le _) (Nat.zero_le _) (k_359 (by first | exact dq1 hd rfl | exact dq0 hd rfl | exact dq2 hd rfl | exact dq3 hd rfl | omega) hIc2 (in_w 0 31 i7 rfl)) (fun e u h => h) (fun v u h => ?_)
        obtain ⟨z17, rfl, rfl, i17, p17⟩ := h
        show GG _ _ _ _ _ _ _ _ [.int z17, .int y2_1, .ref (A 149)] _ _ _
        refine g_if_eq 23 36 (gd rfl) rfl rfl (fun c20 => ?_) (fun c20 => ?_)
        · skip
          have i20 := z_eq 0 0 c20 i17 rfl
          refine g_ldc2_w 9000000000000000 39 (gd rfl) rfl rfl ?_
          refine g_lastore 40 (gd rfl) rfl (n := 34) rfl (in_ix i7 rfl) ?_
          have hI39 := inv_sL (q := 149) (j := y2_1.toNatClampNeg) (x := (Int64.ofInt 9000000000000000)) hIc2 rfl (l_rng (Int64.ofInt 9000000000000000))
          refine g_aload_n 41 (gd rfl) rfl rfl ?_
          refine g_getA (q2 := 148) 44 (gd rfl) rfl rfl rfl rfl ?_
          refine g_iload_n 45 (gd rfl) rfl rfl ?_
          refine g_iconst (-1) 46 (gd rfl) rfl rfl ?_
          refine g_iastore 47 (gd rfl) rfl (n := 34) rfl (in_ix i7 rfl) ?_
          have hI46 := inv_sI (q := 148) (j := y2_1.toNatClampNeg) hI39 rfl (in_w (-1) 1000 (in_c (-1) rfl) rfl)
          refine g_iinc 50 (gd rfl) rfl rfl (Nat.le_of_ble_eq_true rfl) (fun z47 e47 => ?_)
          have i47 := in_add 1 32 e47 i7 (in_c 1 rfl) rfl rfl
          refine g_goto 2 (gd rfl) rfl ?_
          have n2 : ∀ k : Nat, (k : Int) < (z47).toInt → (spq s k → ((sI (sL sc2 149 y2_1.toNatClampNeg (Int64.ofInt 9000000000000000)) 148 y2_1.toNatClampNeg (Int32.ofInt (-1))).2.1 149 k).toInt = 0) ∧ (¬ spq s k → ((sI (sL sc2 149 y2_1.toNatClampNeg (Int64.ofInt 9000000000000000)) 148 y2_1.toNatClampNeg (Int32.ofInt (-1))).2.1 149 k).toInt = 9000000000000000) := by exact inp_s (w := Int64.ofInt 9000000000000000) g2_0 (by simp [sI, sL]) (by have a0 := oa3 i7a i7 i47; have a3 := t_add e47 i7 (in_c 1 rfl) rfl; have a4 := in_u ((in_c 1 rfl)); omega) (by have a0 := oa3 i7a i7 i47; have a3 := t_add e47 i7 (in_c 1 rfl) rfl; have a4 := in_u ((in_c 1 rfl)); omega) ⟨fun h => absurd (p17.mpr ((fs_cg (hFc2.1 111 rfl) (hFc2.2.2.1 109 18 rfl)).mpr h.1)) (by have h2 := c20; omega), fun _ => (by have hl : InL (Int64.ofInt 9000000000000000) 9000000000000000 9000000000000000 := l_c 9000000000000000 rfl; exact Int.le_antisymm hl.2 hl.1)⟩
          exact gg_w (by first | exact Nat.le_add_right _ _ | exact gw2 | exact gw3 | exact gwe rfl | exact gwf rfl | exact gwg rfl | exact gwh rfl | omega) (gg_f (gf_cons rfl (gf_cons rfl gf_nil)) (ih2 (sI (sL sc2 149 y2_1.toNatClampNeg (Int64.ofInt 9000000000000000)) 148 y2_1.toNatClampNeg (Int32.ofInt (-1))) z47 hI46 (fr_sI rfl (fr_sL rfl hFc2)) (in_w 0 32 i47 rfl) n2 (m_up mm2 (t_add e47 i7 (in_c 1 rfl) rfl) (in_w 1 1 (in_c 1 rfl) rfl))))
        · skip
          have i20 := z_ne 1 1 c20 i17 rfl
          refine g_aload_n 24 (gd rfl) rfl rfl ?_
          refine g_getA (q2 := 151) 27 (gd rfl) rfl rfl rfl rfl ?_
          refine g_iload_n 28 (gd rfl) rfl rfl ?_
          refine g_iaload 29 (gd rfl) rfl (n := 32) rfl (in_ix i7 rfl) (fun z28 e28 => ?_)
          have i28 := inv_I hIc2 (n := 32) (t := 0) (-1) 31 rfl (in_ix i7 rfl) rfl e28
          refine g_if_ge 32 36 (gd rfl) rfl rfl (fun c29 => ?_) (fun c29 => ?_)
          · skip
            have i29 := z_ge 0 31 c29 i28 rfl
            refine g_ldc2_w 9000000000000000 39 (gd rfl) rfl rfl ?_
            refine g_lastore 40 (gd rfl) rfl (n := 34) rfl (in_ix i7 rfl) ?_
            have hI39 := inv_sL (q := 149) (j := y2_1.toNatClampNeg) (x := (Int64.ofInt 9000000000000000)) hIc2 rfl (l_rng (Int64.ofInt 9000000000000000))
            refine g_aload_n 41 (gd rfl) rfl rfl ?_
            refine g_getA (q2 := 148) 44 (gd rfl) rfl rfl rfl rfl ?_
            refine g_iload_n 45 (gd rfl) rfl rfl ?_
            refine g_iconst (-1) 46 (gd rfl) rfl rfl ?_
            refine g_iastore 47 (gd rfl) rfl (n := 34) rfl (in_ix i7 rfl) ?_
            have hI46 := inv_sI (q := 148) (j := y2_1.toNatClampNeg) hI39 rfl (in_w (-1) 1000 (in_c (-1) rfl) rfl)
            refine g_iinc 50 (gd rfl) rfl rfl (Nat.le_of_ble_eq_true rfl) (fun z47 e47 => ?_)
            have i47 := in_add 1 32 e47 i7 (in_c 1 rfl) rfl rfl
            refine g_goto 2 (gd rfl) rfl ?_
            have n2 : ∀ k : Nat, (k : Int) < (z47).toInt → (spq s k → ((sI (sL sc2 149 y2_1.toNatClampNeg (Int64.ofInt 9000000000000000)) 148 y2_1.toNatClampNeg (Int32.ofInt (-1))).2.1 149 k).toInt = 0) ∧ (¬ spq s k → ((sI (sL sc2 149 y2_1.toNatClampNeg (Int64.ofInt 9000000000000000)) 148 y2_1.toNatClampNeg (Int32.ofInt (-1))).2.1 149 k).toInt = 9000000000000000) := by first | (exact inp_s (w := Int64.ofInt 0) g2_0 (by simp [sI, sL]) (by have a0 := oa3 i7a i7 i47; have a3 := t_add e47 i7 (in_c 1 rfl) rfl; have a4 := in_u ((in_c 1 rfl)); omega) (by have a0 := oa3 i7a i7 i47; have a3 := t_add e47 i7 (in_c 1 rfl) rfl; have a4 := in_u ((in_c 1 rfl)); omega) ⟨fun _ => by decide, fun h => absurd ⟨(fs_cg (hFc2.1 111 rfl) (hFc2.2.2.1 109 18 rfl)).mp (p17.mp c20), by rw [← hFc2.1 151 rfl, ← e28]; exact c29⟩ h⟩) | (exact inp_s (w := Int64.ofInt 9000000000000000) g2_0 (by simp [sI, sL]) (by have a0 := oa3 i7a i7 i47; have a3 := t_add e47 i7 (in_c 1 rfl) rfl; have a4 := in_u ((in_c 1 rfl)); omega) (by have a0 := oa3 i7a i7 i47; have a3 := t_add e47 i7 (in_c 1 rfl) rfl; have a4 := in_u ((in_c 1 rfl)); omega) ⟨fun h => by exfalso; have h2 := h.2; rw [← hFc2.1 151 rfl, ← e28] at h2; have h3 := c29; omega, fun _ => (by have hl : InL (Int64.ofInt 9000000000000000) 9000000000000000 9000000000000000 := l_c 9000000000000000 rfl; exact Int.le_antisymm hl.2 hl.1)⟩)
            exact gg_w (by first | exact Nat.le_add_right _ _ | exact gw2 | exact gw3 | exact gwe rfl | exact gwf rfl | exact gwg rfl | exact gwh rfl | omega) (gg_f (gf_cons rfl (gf_cons rfl gf_nil)) (ih2 (sI (sL sc2 149 y2_1.toNatClampNeg (Int64.ofInt 9000000000000000)) 148 y2_1.toNatClampNeg (Int32.ofInt (-1))) z47 hI46 (fr_sI rfl (fr_sL rfl hFc2)) (in_w 0 32 i47 rfl) n2 (m_up mm2 (t_add e47 i7 (in_c 1 rfl) rfl) (in_w 1 1 (in_c 1 rfl) rfl))))
          · skip
            have i29 := z_lt (-1) (-1) c29 i28 rfl
            refine g_lconst 0 33 (gd rfl) rfl rfl ?_
            refine g_goto 39 (gd rfl) rfl ?_
            refine g_lastore 40 (gd rfl) rfl (n := 34) rfl (in_ix i7 rfl) ?_
            have hI39 := inv_sL (q := 149) (j := y2_1.toNatClampNeg) (x := (Int64.ofInt 0)) hIc2 rfl (l_rng (Int64.ofInt 0))
            refine g_aload_n 41 (gd rfl) rfl rfl ?_
            refine g_getA (q2 := 148) 44 (gd rfl) rfl rfl rfl rfl ?_
            refine g_iload_n 45 (gd rfl) rfl rfl ?_
            refine g_iconst (-1) 46 (gd rfl) rfl rfl ?_
            refine g_iastore 47 (gd rfl) rfl (n := 34) rfl (in_ix i7 rfl) ?_
            have hI46 := inv_sI (q := 148) (j := y2_1.toNatClampNeg) hI39 rfl (in_w (-1) 1000 (in_c (-1) rfl) rfl)
            refine g_iinc 50 (gd rfl) rfl rfl (Nat.le_of_ble_eq_true rfl) (fun z47 e47 => ?_)
            have i47 := in_add 1 32 e47 i7 (in_c 1 rfl) rfl rfl
            refine g_goto 2 (gd rfl) rfl ?_
            have n2 : ∀ k : Nat, (k : Int) < (z47).toInt → (spq s k → ((sI (sL sc2 149 y2_1.toNatClampNeg (Int64.ofInt 0)) 148 y2_1.toNatClampNeg (Int32.ofInt (-1))).2.1 149 k).toInt = 0) ∧ (¬ spq s k → ((sI (sL sc2 149 y2_1.toNatClampNeg (Int64.ofInt 0)) 148 y2_1.toNatClampNeg (Int32.ofInt (-1))).2.1 149 k).toInt = 9000000000000000) := by first | (exact inp_s (w := Int64.ofInt 0) g2_0 (by simp [sI, sL]) (by have a0 := oa3 i7a i7 i47; have a3 := t_add e47 i7 (in_c 1 rfl) rfl; have a4 := in_u ((in_c 1 rfl)); omega) (by have a0 := oa3 i7a i7 i47; have a3 := t_add e47 i7 (in_c 1 rfl) rfl; have a4 := in_u ((in_c 1 rfl)); omega) ⟨fun _ => by decide, fun h => absurd ⟨(fs_cg (hFc2.1 111 rfl) (hFc2.2.2.1 109 18 rfl)).mp (p17.mp c20), by rw [← hFc2.1 151 rfl, ← e28]; exact c29⟩ h⟩) | (exact inp_s (w := Int64.ofInt 9000000000000000) g2_0 (by simp [sI, sL]) (by have a0 := oa3 i7a i7 i47; have a3 := t_add e47 i7 (in_c 1 rfl) rfl; have a4 := in_u ((in_c 1 rfl)); omega) (by have a0 := oa3 i7a i7 i47; have a3 := t_add e47 i7 (in_c 1 rfl) rfl; have a4 := in_u ((in_c 1 rfl)); omega) ⟨fun h => by exfalso; have h2 := h.2; rw [← hFc2.1 151 rfl, ← e28] at h2; have h3 := c29; omega, fun _ => (by have hl : InL (Int64.ofInt 9000000000000000) 9000000000000000 9000000000000000 := l_c 9000000000000000 rfl; exact Int.le_antisymm hl.2 hl.1)⟩)
            exact gg_w (by first | exact Nat.le_add_right _ _ | exact gw2 | exact gw3 | exact gwe rfl | exact gwf rfl | exact gwg rfl | exact gwh rfl | omega) (gg_f (gf_cons rfl (gf_cons rfl gf_nil)) (ih2 (sI (sL sc2 149 y2_1.toNatClampNeg (Int64.ofInt 0)) 148 y2_1.toNatClampNeg (Int32.ofInt (-1))) z47 hI46 (fr_sI rfl (fr_sL rfl hFc2)) (in_w 0 32 i47 rfl) n2 (m_up mm2 (t_add e47 i7 (in_c 1 rfl) rfl) (in_w 1 1 (in_c 1 rfl) rfl))))
  refine g_enter2 (k := 361) (N := 5921286401910705) (by first | exact dq1 hd rfl | exact dq0 hd rfl | exact dq2 hd rfl | exact dq3 hd rfl | omega) rfl (Nat.le_of_ble_eq_true rfl) ?_
  refine g_iconst 0 1 (gd rfl) rfl rfl ?_
  refine g_istore_n 2 (gd rfl) rfl (Nat.le_of_ble_eq_true rfl) ?_
  have n2 : ∀ k : Nat, (k : Int) < ((Int32.ofInt 0)).toInt → (spq s k → (s.2.1 149 k).toInt = 0) ∧ (¬ spq s k → (s.2.1 149 k).toInt = 9000000000000000) := by (intro k hk; exfalso; have h0 : (Int32.ofInt 0).toInt = 0 := rfl; omega)
  exact gg_w (by first | exact Nat.le_of_ble_eq_true rfl | omega) (gg_f (gf_cons rfl (gf_cons rfl gf_nil)) (ct2 33 s (Int32.ofInt 0) hI fr_rf (in_w 0 32 (in_c 0 rfl) rfl) n2 (m_in 33 (in_w 0 32 (in_c 0 rfl) rfl) rfl)))
end
