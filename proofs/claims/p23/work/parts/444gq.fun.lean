/-! FUNCTIONAL CONTRACTS, by fgen.py -/
theorem oc_210_49 : (Int32.ofInt (-1)).toInt = (-1) ∧ (Int32.ofInt 0).toInt = 0 ∧ (Int32.ofInt 1).toInt = 1 ∧ (Int32.ofInt 3).toInt = 3 := ⟨rfl, rfl, rfl, rfl⟩
set_option maxHeartbeats 4000000 in
/-- GraphHouse$Ways.sortKeys -/
theorem f_210_49 {Z : AmZ} {A : Nat → Nat} {s : GS} {ex : va_W} {d : Nat} {X : AmX}  (hd : 1 ≤ d) (hI : Inv s)  : GC Z d 210 [.ref (A 49)] (WW Z A s ++ ex) 0 0 (fun v u => ∃ t : GS, Inv t ∧ Fr fm_210_49 s t ∧ v = none ∧ u = WW Z A t ++ ex ∧ (PRM (t.2.1 55) (s.2.1 55) (s.2.2.1 49 11).toInt.toNat) ∧ (SRT (kvl (t.2.1 55)) (s.2.2.1 49 11).toInt.toNat)) X := by
  intro post xp hP hX
  obtain ⟨u_49_11, e_49_11⟩ : ∃ w, w = s.2.2.1 49 11 := ⟨_, rfl⟩
  have ro_49_11 := inv_F hI 0 2001 rfl e_49_11
  have ct21 : ∀ (k21 : Nat) (sc21 : GS) (y21_1 : Int32), Inv sc21 → Fr fm_210_49 s sc21 → (In y21_1 0 2001) → (PRM (sc21.2.1 55) (s.2.1 55) (s.2.2.1 49 11).toInt.toNat) → (GPS (y21_1).toInt) → ((y21_1).toInt = 0 → SRT (kvl (sc21.2.1 55)) (s.2.2.1 49 11).toInt.toNat) → (y21_1).toInt < (k21 : Int) → GG Z (d - 1) 210 post (gx xp) (1 + k21 * 10817109402) 21 (fun j => xlook j [(0, .ref (A 49)), (1, .int y21_1)]) [] (WW Z A sc21 ++ ex) 0 0 := by
    intro k21
    induction k21 with
    | zero => intro sc21 y21_1 hIc21 hFc21 j21_1 g21_0 g21_1 g21_2 mm21; exfalso; (first | have a0 := in_u ro_49_11 | (have a0 := ro_49_11; unfold In at a0)); have a1 := j21_1; unfold In at a1; have oc := oc_210_49; omega
    | succ k21 ih21 =>
      intro sc21 y21_1 hIc21 hFc21 j21_1 g21_0 g21_1 g21_2 mm21
      refine gg_w (M := 1 + k21 * 10817109402 + 10817109402) gws ?_
      have ct27 : ∀ (k27 : Nat) (sc27 : GS) (y27_2 : Int32), Inv sc27 → Fr fm_210_49 s sc27 → (In y21_1 1 2001) → (In y27_2 1 4000) → (PRM (sc27.2.1 55) (s.2.1 55) (s.2.2.1 49 11).toInt.toNat) → ((y21_1).toInt = 1 → SRT (kvl (sc27.2.1 55)) (y27_2).toInt.toNat) → 4000 - (y27_2).toInt < (k27 : Int) → GG Z (d - 1) 210 post (gx xp) (1 + k21 * 10817109402 + 1 + k27 * 2703601) 27 (fun j => xlook j [(0, .ref (A 49)), (1, .int y21_1), (2, .int y27_2)]) [] (WW Z A sc27 ++ ex) 0 0 := by
        intro k27
        induction k27 with
        | zero => intro sc27 y27_2 hIc27 hFc27 j27_1 j27_2 g27_0 g27_1 mm27; exact m_no mm27 j27_2 rfl
        | succ k27 ih27 =>
          intro sc27 y27_2 hIc27 hFc27 j27_1 j27_2 g27_0 g27_1 mm27
          refine gg_w (M := 1 + k21 * 10817109402 + 1 + k27 * 2703601 + 2703601) gws ?_
          have ct45 : ∀ (k45 : Nat) (sc45 : GS) (y45_3 : Int64) (y45_5 : Int32), Inv sc45 → Fr fm_210_49 s sc45 → (In y27_2 1 2001) → (In y45_5 0 2000) → ((y45_5).toInt ≤ (y27_2).toInt) → ((y27_2).toInt < (u_49_11).toInt) → (PRM (vp_updL (sc45.2.1 55) (y45_5).toNatClampNeg (y45_3)) (s.2.1 55) (s.2.2.1 49 11).toInt.toNat) → ((y21_1).toInt = 1 → IN2 (sc45.2.1 55) (y27_2).toNatClampNeg (y45_5).toNatClampNeg (y45_3)) → (y45_5).toInt < (k45 : Int) → GG Z (d - 1) 210 post (gx xp) (1 + k21 * 10817109402 + 1 + k27 * 2703601 + 1 + k45 * 900) 45 (fun j => xlook j [(0, .ref (A 49)), (1, .int y21_1), (2, .int y27_2), (3, .long y45_3), (5, .int y45_5)]) [] (WW Z A sc45 ++ ex) 0 0 := by
            intro k45
            induction k45 with
            | zero => intro sc45 y45_3 y45_5 hIc45 hFc45 j45_2 j45_5 n45_0 n45_1 g45_0 g45_1 mm45; exfalso; have a0 := j45_2; unfold In at a0; (first | have a1 := oa2 j27_1 ro_49_11 | ((first | have a1 := in_u j27_1 | (have a1 := j27_1; unfold In at a1)); (first | have a2 := in_u ro_49_11 | (have a2 := ro_49_11; unfold In at a2)))); have a3 := j45_5; unfold In at a3; have oc := oc_210_49; omega
            | succ k45 ih45 =>
              intro sc45 y45_3 y45_5 hIc45 hFc45 j45_2 j45_5 n45_0 n45_1 g45_0 g45_1 mm45
              refine gg_w (M := 1 + k21 * 10817109402 + 1 + k27 * 2703601 + 1 + k45 * 900 + 900) gws ?_
              refine g_iload 47 (gd rfl) rfl rfl ?_
              refine g_iload_n 48 (gd rfl) rfl rfl ?_
              refine g_cmp_lt 51 90 (gd rfl) rfl rfl (fun c48 => ?_) (fun c48 => ?_)
              · skip
                refine g_aload_n 91 (gd rfl) rfl rfl ?_
                refine g_getA (q2 := 55) 94 (gd rfl) rfl rfl rfl rfl ?_
                refine g_iload 96 (gd rfl) rfl rfl ?_
                refine g_lload_n 97 (gd rfl) rfl rfl ?_
                refine g_lastore 98 (gd rfl) rfl (n := 2001) rfl (in_ix j45_5 rfl) ?_
                have hI97 := inv_sL (q := 55) (j := y45_5.toNatClampNeg) (x := y45_3) hIc45 rfl (l_rng y45_3)
                refine g_iinc 101 (gd rfl) rfl rfl (Nat.le_of_ble_eq_true rfl) (fun z98 e98 => ?_)
                have i98 := in_add 2 2002 e98 j45_2 (in_c 1 rfl) rfl rfl
                refine g_goto 27 (gd rfl) rfl ?_
                have n27 : PRM ((sL sc45 55 y45_5.toNatClampNeg y45_3).2.1 55) (s.2.1 55) (s.2.2.1 49 11).toInt.toNat := by rw [sL_w]; exact g45_0
                have n27a : (y21_1).toInt = 1 → SRT (kvl ((sL sc45 55 y45_5.toNatClampNeg y45_3).2.1 55)) (z98).toInt.toNat := by intro h; rw [sL_w, (show (z98).toInt.toNat = (y27_2).toNatClampNeg + 1 from (by show (z98).toInt.toNat = (y27_2).toInt.toNat + 1; (first | have a0 := oa5 j45_2 j27_1 ro_49_11 j45_5 i98 | ((first | have a0 := in_u j45_2 | (have a0 := j45_2; unfold In at a0)); (first | have a1 := in_u j27_1 | (have a1 := j27_1; unfold In at a1)); (first | have a2 := in_u ro_49_11 | (have a2 := ro_49_11; unfold In at a2)); (first | have a3 := in_u j45_5 | (have a3 := j45_5; unfold In at a3)); (first | have a4 := in_u i98 | (have a4 := i98; unfold In at a4)))); have a5 := t_add e98 j45_2 (in_c 1 rfl) rfl; (first | have a6 := in_u ((in_c 1 rfl)) | (have a6 := (in_c 1 rfl); unfold In at a6)); have oc := oc_210_49; (first | exact zt_s (by omega) (by omega) | omega)))]; exact in2_e (g45_1 h) (fun p hp => by have ej : (y45_5).toNatClampNeg = (y45_5).toInt.toNat := rfl; exfalso; (first | have a0 := oa5 j45_2 j27_1 ro_49_11 j45_5 i98 | ((first | have a0 := in_u j45_2 | (have a0 := j45_2; unfold In at a0)); (first | have a1 := in_u j27_1 | (have a1 := j27_1; unfold In at a1)); (first | have a2 := in_u ro_49_11 | (have a2 := ro_49_11; unfold In at a2)); (first | have a3 := in_u j45_5 | (have a3 := j45_5; unfold In at a3)); (first | have a4 := in_u i98 | (have a4 := i98; unfold In at a4)))); have a5 := t_add e98 j45_2 (in_c 1 rfl) rfl; (first | have a6 := in_u ((in_c 1 rfl)) | (have a6 := (in_c 1 rfl); unfold In at a6)); have oc := oc_210_49; omega)
                exact gg_w (by first | exact Nat.le_add_right _ _ | exact gw2 | exact gw3 | exact gwe rfl | exact gwf rfl | exact gwg rfl | exact gwh rfl | omega) (gg_f (gf_cons rfl (gf_cons rfl (gf_cons rfl gf_nil))) (ih27 (sL sc45 55 y45_5.toNatClampNeg y45_3) z98 hI97 (fr_sL rfl hFc45) (in_w 1 2001 j27_1 rfl) (in_w 1 4000 i98 rfl) n27 n27a (m_up mm27 (t_add e98 j45_2 (in_c 1 rfl) rfl) (in_w 1 1 (in_c 1 rfl) rfl))))
              · skip
                have i48 := r_le1 1 2000 c48 j27_1 j45_5 rfl
                have i48a := r_le2 1 2000 c48 j27_1 j45_5 rfl
                refine g_aload_n 52 (gd rfl) rfl rfl ?_
                refine g_getA (q2 := 55) 55 (gd rfl) rfl rfl rfl rfl ?_
                refine g_iload 57 (gd rfl) rfl rfl ?_
                refine g_iload_n 58 (gd rfl) rfl rfl ?_
                refine g_isub 59 (gd rfl) rfl (fun z58 e58 => ?_)
                have i58 := in_sub (-1999) 1999 e58 i48a i48 rfl rfl
                have i59 : In z58 0 2000 := by (first | have a0 := oa5 j45_2 i48 ro_49_11 i48a i58 | ((first | have a0 := in_u j45_2 | (have a0 := j45_2; unfold In at a0)); (first | have a1 := in_u i48 | (have a1 := i48; unfold In at a1)); (first | have a2 := in_u ro_49_11 | (have a2 := ro_49_11; unfold In at a2)); (first | have a3 := in_u i48a | (have a3 := i48a; unfold In at a3)); (first | have a4 := in_u i58 | (have a4 := i58; unfold In at a4)))); have a5 := t_sub e58 i48a i48 rfl; have oc := oc_210_49; exact ⟨by omega, by omega⟩
                refine g_laload 60 (gd rfl) rfl (n := 2001) rfl (in_ix i59 rfl) (fun z59 e59 => ?_)
                refine g_lload_n 61 (gd rfl) rfl rfl ?_
                refine g_lcmp 62 (gd rfl) rfl (fun z61 e61 => ?_)
                have i61 := lc_in e61
                refine g_if_le 65 90 (gd rfl) rfl rfl (fun c62 => ?_) (fun c62 => ?_)
                · skip
                  have i62 := z_le (-1) 0 c62 i61 rfl
                  have c62a := lc_le e61 c62
                  refine g_aload_n 91 (gd rfl) rfl rfl ?_
                  refine g_getA (q2 := 55) 94 (gd rfl) rfl rfl rfl rfl ?_
                  refine g_iload 96 (gd rfl) rfl rfl ?_
                  refine g_lload_n 97 (gd rfl) rfl rfl ?_
                  refine g_lastore 98 (gd rfl) rfl (n := 2001) rfl (in_ix i48a rfl) ?_
                  have hI97 := inv_sL (q := 55) (j := y45_5.toNatClampNeg) (x := y45_3) hIc45 rfl (l_rng y45_3)
                  refine g_iinc 101 (gd rfl) rfl rfl (Nat.le_of_ble_eq_true rfl) (fun z98 e98 => ?_)
                  have i98 := in_add 2 2002 e98 j45_2 (in_c 1 rfl) rfl rfl
                  refine g_goto 27 (gd rfl) rfl ?_
                  have n27 : PRM ((sL sc45 55 y45_5.toNatClampNeg y45_3).2.1 55) (s.2.1 55) (s.2.2.1 49 11).toInt.toNat := by rw [sL_w]; exact g45_0
                  have n27a : (y21_1).toInt = 1 → SRT (kvl ((sL sc45 55 y45_5.toNatClampNeg y45_3).2.1 55)) (z98).toInt.toNat := by intro h; rw [sL_w, (show (z98).toInt.toNat = (y27_2).toNatClampNeg + 1 from (by show (z98).toInt.toNat = (y27_2).toInt.toNat + 1; (first | have a0 := oa5 j45_2 i48 ro_49_11 i48a i98 | ((first | have a0 := in_u j45_2 | (have a0 := j45_2; unfold In at a0)); (first | have a1 := in_u i48 | (have a1 := i48; unfold In at a1)); (first | have a2 := in_u ro_49_11 | (have a2 := ro_49_11; unfold In at a2)); (first | have a3 := in_u i48a | (have a3 := i48a; unfold In at a3)); (first | have a4 := in_u i98 | (have a4 := i98; unfold In at a4)))); have a5 := t_add e98 j45_2 (in_c 1 rfl) rfl; (first | have a6 := oa2 ((in_c 1 rfl)) i59 | ((first | have a6 := in_u ((in_c 1 rfl)) | (have a6 := (in_c 1 rfl); unfold In at a6)); (first | have a7 := in_u i59 | (have a7 := i59; unfold In at a7)))); have a8 := t_sub e58 i48a i48 rfl; have oc := oc_210_49; (first | exact zt_s (by omega) (by omega) | omega)))]; exact in2_e (g45_1 h) (fun p hp => by have ej : (y45_5).toNatClampNeg = (y45_5).toInt.toNat := rfl; have ez : z58.toNatClampNeg = p := (by show z58.toInt.toNat = p; (first | have a0 := oa5 j45_2 i48 ro_49_11 i48a i98 | ((first | have a0 := in_u j45_2 | (have a0 := j45_2; unfold In at a0)); (first | have a1 := in_u i48 | (have a1 := i48; unfold In at a1)); (first | have a2 := in_u ro_49_11 | (have a2 := ro_49_11; unfold In at a2)); (first | have a3 := in_u i48a | (have a3 := i48a; unfold In at a3)); (first | have a4 := in_u i98 | (have a4 := i98; unfold In at a4)))); have a5 := t_add e98 j45_2 (in_c 1 rfl) rfl; (first | have a6 := oa2 ((in_c 1 rfl)) i59 | ((first | have a6 := in_u ((in_c 1 rfl)) | (have a6 := (in_c 1 rfl); unfold In at a6)); (first | have a7 := in_u i59 | (have a7 := i59; unfold In at a7)))); have a8 := t_sub e58 i48a i48 rfl; have oc := oc_210_49; omega); have e9 := e59; rw [ez] at e9; rw [← e9]; (first | have a0 := oa5 j45_2 i48 ro_49_11 i48a i98 | ((first | have a0 := in_u j45_2 | (have a0 := j45_2; unfold In at a0)); (first | have a1 := in_u i48 | (have a1 := i48; unfold In at a1)); (first | have a2 := in_u ro_49_11 | (have a2 := ro_49_11; unfold In at a2)); (first | have a3 := in_u i48a | (have a3 := i48a; unfold In at a3)); (first | have a4 := in_u i98 | (have a4 := i98; unfold In at a4)))); have a5 := t_add e98 j45_2 (in_c 1 rfl) rfl; (first | have a6 := oa2 ((in_c 1 rfl)) i59 | ((first | have a6 := in_u ((in_c 1 rfl)) | (have a6 := (in_c 1 rfl); unfold In at a6)); (first | have a7 := in_u i59 | (have a7 := i59; unfold In at a7)))); have a8 := t_sub e58 i48a i48 rfl; have oc := oc_210_49; omega)
                  exact gg_w (by first | exact Nat.le_add_right _ _ | exact gw2 | exact gw3 | exact gwe rfl | exact gwf rfl | exact gwg rfl | exact gwh rfl | omega) (gg_f (gf_cons rfl (gf_cons rfl (gf_cons rfl gf_nil))) (ih27 (sL sc45 55 y45_5.toNatClampNeg y45_3) z98 hI97 (fr_sL rfl hFc45) (in_w 1 2001 i48 rfl) (in_w 1 4000 i98 rfl) n27 n27a (m_up mm27 (t_add e98 j45_2 (in_c 1 rfl) rfl) (in_w 1 1 (in_c 1 rfl) rfl))))
                · skip
                  have i62 := z_gt 1 1 c62 i61 rfl
                  have c62a := lc_gt e61 c62
                  have i62a := lr_lt1 (-9223372036854775808) 9223372036854775806 c62a (l_rng y45_3) (l_rng z59) rfl
                  have i62b := lr_lt2 (-9223372036854775807) 9223372036854775807 c62a (l_rng y45_3) (l_rng z59) rfl
                  refine g_aload_n 66 (gd rfl) rfl rfl ?_
                  refine g_getA (q2 := 55) 69 (gd rfl) rfl rfl rfl rfl ?_
                  refine g_iload 71 (gd rfl) rfl rfl ?_
                  refine g_aload_n 72 (gd rfl) rfl rfl ?_
                  refine g_getA (q2 := 55) 75 (gd rfl) rfl rfl rfl rfl ?_
                  refine g_iload 77 (gd rfl) rfl rfl ?_
                  refine g_iload_n 78 (gd rfl) rfl rfl ?_
                  refine g_isub 79 (gd rfl) rfl (fun z78 e78 => ?_)
                  have i78 := in_sub (-1999) 1999 e78 i48a i48 rfl rfl
                  have i79 : In z78 0 2000 := by (first | have a0 := oa5 j45_2 i48 ro_49_11 i48a i78 | ((first | have a0 := in_u j45_2 | (have a0 := j45_2; unfold In at a0)); (first | have a1 := in_u i48 | (have a1 := i48; unfold In at a1)); (first | have a2 := in_u ro_49_11 | (have a2 := ro_49_11; unfold In at a2)); (first | have a3 := in_u i48a | (have a3 := i48a; unfold In at a3)); (first | have a4 := in_u i78 | (have a4 := i78; unfold In at a4)))); have a5 := t_sub e78 i48a i48 rfl; (first | have a6 := in_u i59 | (have a6 := i59; unfold In at a6)); have a7 := t_sub e58 i48a i48 rfl; have oc := oc_210_49; exact ⟨by omega, by omega⟩
                  refine g_laload 80 (gd rfl) rfl (n := 2001) rfl (in_ix i79 rfl) (fun z79 e79 => ?_)
                  refine g_lastore 81 (gd rfl) rfl (n := 2001) rfl (in_ix i48a rfl) ?_
                  have hI80 := inv_sL (q := 55) (j := y45_5.toNatClampNeg) (x := z79) hIc45 rfl (l_rng z79)
                  refine g_iload 83 (gd rfl) rfl rfl ?_
                  refine g_iload_n 84 (gd rfl) rfl rfl ?_
                  refine g_isub 85 (gd rfl) rfl (fun z84 e84 => ?_)
                  have i84 := in_sub (-1999) 1999 e84 i48a i48 rfl rfl
                  refine g_istore 87 (gd rfl) rfl (Nat.le_of_ble_eq_true rfl) ?_
                  refine g_goto 45 (gd rfl) rfl ?_
                  have i45 : In z84 0 2000 := by exact ⟨by (first | have a0 := oa5 j45_2 i48 ro_49_11 i48a i84 | ((first | have a0 := in_u j45_2 | (have a0 := j45_2; unfold In at a0)); (first | have a1 := in_u i48 | (have a1 := i48; unfold In at a1)); (first | have a2 := in_u ro_49_11 | (have a2 := ro_49_11; unfold In at a2)); (first | have a3 := in_u i48a | (have a3 := i48a; unfold In at a3)); (first | have a4 := in_u i84 | (have a4 := i84; unfold In at a4)))); have a5 := t_sub e84 i48a i48 rfl; (first | have a6 := in_u i79 | (have a6 := i79; unfold In at a6)); have a7 := t_sub e78 i48a i48 rfl; (first | have a8 := in_u i59 | (have a8 := i59; unfold In at a8)); have a9 := t_sub e58 i48a i48 rfl; have oc := oc_210_49; omega, by (first | have a0 := oa5 j45_2 i48 ro_49_11 i48a i84 | ((first | have a0 := in_u j45_2 | (have a0 := j45_2; unfold In at a0)); (first | have a1 := in_u i48 | (have a1 := i48; unfold In at a1)); (first | have a2 := in_u ro_49_11 | (have a2 := ro_49_11; unfold In at a2)); (first | have a3 := in_u i48a | (have a3 := i48a; unfold In at a3)); (first | have a4 := in_u i84 | (have a4 := i84; unfold In at a4)))); have a5 := t_sub e84 i48a i48 rfl; (first | have a6 := in_u i79 | (have a6 := i79; unfold In at a6)); have a7 := t_sub e78 i48a i48 rfl; (first | have a8 := in_u i59 | (have a8 := i59; unfold In at a8)); have a9 := t_sub e58 i48a i48 rfl; have oc := oc_210_49; omega⟩
                  have n45 : (z84).toInt ≤ (y27_2).toInt := by (first | have a0 := oa5 j45_2 i48 ro_49_11 i48a i45 | ((first | have a0 := in_u j45_2 | (have a0 := j45_2; unfold In at a0)); (first | have a1 := in_u i48 | (have a1 := i48; unfold In at a1)); (first | have a2 := in_u ro_49_11 | (have a2 := ro_49_11; unfold In at a2)); (first | have a3 := in_u i48a | (have a3 := i48a; unfold In at a3)); (first | have a4 := in_u i45 | (have a4 := i45; unfold In at a4)))); have a5 := t_sub e84 i48a i48 rfl; (first | have a6 := in_u i79 | (have a6 := i79; unfold In at a6)); have a7 := t_sub e78 i48a i48 rfl; (first | have a8 := in_u i59 | (have a8 := i59; unfold In at a8)); have a9 := t_sub e58 i48a i48 rfl; have oc := oc_210_49; omega
                  have n45a : (y27_2).toInt < (u_49_11).toInt := by first | exact n45_1 | ((first | have a0 := oa5 j45_2 i48 ro_49_11 i48a i45 | ((first | have a0 := in_u j45_2 | (have a0 := j45_2; unfold In at a0)); (first | have a1 := in_u i48 | (have a1 := i48; unfold In at a1)); (first | have a2 := in_u ro_49_11 | (have a2 := ro_49_11; unfold In at a2)); (first | have a3 := in_u i48a | (have a3 := i48a; unfold In at a3)); (first | have a4 := in_u i45 | (have a4 := i45; unfold In at a4)))); have a5 := t_sub e84 i48a i48 rfl; (first | have a6 := in_u i79 | (have a6 := i79; unfold In at a6)); have a7 := t_sub e78 i48a i48 rfl; (first | have a8 := in_u i59 | (have a8 := i59; unfold In at a8)); have a9 := t_sub e58 i48a i48 rfl; have oc := oc_210_49; omega)
                  have n45b : PRM (vp_updL ((sL sc45 55 y45_5.toNatClampNeg z79).2.1 55) (z84).toNatClampNeg (y45_3)) (s.2.1 55) (s.2.2.1 49 11).toInt.toNat := by rw [sL_w]; exact hol_s g45_0 (by rw [← e_49_11]; show (y45_5).toInt.toNat < _; (first | have a0 := oa5 j45_2 i48 ro_49_11 i48a i45 | ((first | have a0 := in_u j45_2 | (have a0 := j45_2; unfold In at a0)); (first | have a1 := in_u i48 | (have a1 := i48; unfold In at a1)); (first | have a2 := in_u ro_49_11 | (have a2 := ro_49_11; unfold In at a2)); (first | have a3 := in_u i48a | (have a3 := i48a; unfold In at a3)); (first | have a4 := in_u i45 | (have a4 := i45; unfold In at a4)))); have a5 := t_sub e84 i48a i48 rfl; (first | have a6 := in_u i79 | (have a6 := i79; unfold In at a6)); have a7 := t_sub e78 i48a i48 rfl; (first | have a8 := in_u i59 | (have a8 := i59; unfold In at a8)); have a9 := t_sub e58 i48a i48 rfl; have oc := oc_210_49; omega) (by rw [← e_49_11]; show (z84).toInt.toNat < _; (first | have a0 := oa5 j45_2 i48 ro_49_11 i48a i45 | ((first | have a0 := in_u j45_2 | (have a0 := j45_2; unfold In at a0)); (first | have a1 := in_u i48 | (have a1 := i48; unfold In at a1)); (first | have a2 := in_u ro_49_11 | (have a2 := ro_49_11; unfold In at a2)); (first | have a3 := in_u i48a | (have a3 := i48a; unfold In at a3)); (first | have a4 := in_u i45 | (have a4 := i45; unfold In at a4)))); have a5 := t_sub e84 i48a i48 rfl; (first | have a6 := in_u i79 | (have a6 := i79; unfold In at a6)); have a7 := t_sub e78 i48a i48 rfl; (first | have a8 := in_u i59 | (have a8 := i59; unfold In at a8)); have a9 := t_sub e58 i48a i48 rfl; have oc := oc_210_49; omega) (fun e => by have h8 : (z84).toInt.toNat = (y45_5).toInt.toNat := e; (first | have a0 := oa5 j45_2 i48 ro_49_11 i48a i45 | ((first | have a0 := in_u j45_2 | (have a0 := j45_2; unfold In at a0)); (first | have a1 := in_u i48 | (have a1 := i48; unfold In at a1)); (first | have a2 := in_u ro_49_11 | (have a2 := ro_49_11; unfold In at a2)); (first | have a3 := in_u i48a | (have a3 := i48a; unfold In at a3)); (first | have a4 := in_u i45 | (have a4 := i45; unfold In at a4)))); have a5 := t_sub e84 i48a i48 rfl; (first | have a6 := in_u i79 | (have a6 := i79; unfold In at a6)); have a7 := t_sub e78 i48a i48 rfl; (first | have a8 := in_u i59 | (have a8 := i59; unfold In at a8)); have a9 := t_sub e58 i48a i48 rfl; have oc := oc_210_49; omega) (by have hz : z78 = z84 := (by rw [e78, e84]); rw [← hz]; exact e79)
                  have n45c : (y21_1).toInt = 1 → IN2 ((sL sc45 55 y45_5.toNatClampNeg z79).2.1 55) (y27_2).toNatClampNeg (z84).toNatClampNeg (y45_3) := by intro h; have h9 := g45_1 h; rw [(show (y45_5).toNatClampNeg = (z84).toNatClampNeg + 1 from (by show (y45_5).toInt.toNat = (z84).toInt.toNat + 1; (first | have a0 := oa5 j45_2 i48 ro_49_11 i48a i45 | ((first | have a0 := in_u j45_2 | (have a0 := j45_2; unfold In at a0)); (first | have a1 := in_u i48 | (have a1 := i48; unfold In at a1)); (first | have a2 := in_u ro_49_11 | (have a2 := ro_49_11; unfold In at a2)); (first | have a3 := in_u i48a | (have a3 := i48a; unfold In at a3)); (first | have a4 := in_u i45 | (have a4 := i45; unfold In at a4)))); have a5 := t_sub e84 i48a i48 rfl; (first | have a6 := in_u i79 | (have a6 := i79; unfold In at a6)); have a7 := t_sub e78 i48a i48 rfl; (first | have a8 := in_u i59 | (have a8 := i59; unfold In at a8)); have a9 := t_sub e58 i48a i48 rfl; have oc := oc_210_49; (first | exact zt_s (by omega) (by omega) | omega)))] at h9; rw [sL_w, (show (y45_5).toNatClampNeg = (z84).toNatClampNeg + 1 from (by show (y45_5).toInt.toNat = (z84).toInt.toNat + 1; (first | have a0 := oa5 j45_2 i48 ro_49_11 i48a i45 | ((first | have a0 := in_u j45_2 | (have a0 := j45_2; unfold In at a0)); (first | have a1 := in_u i48 | (have a1 := i48; unfold In at a1)); (first | have a2 := in_u ro_49_11 | (have a2 := ro_49_11; unfold In at a2)); (first | have a3 := in_u i48a | (have a3 := i48a; unfold In at a3)); (first | have a4 := in_u i45 | (have a4 := i45; unfold In at a4)))); have a5 := t_sub e84 i48a i48 rfl; (first | have a6 := in_u i79 | (have a6 := i79; unfold In at a6)); have a7 := t_sub e78 i48a i48 rfl; (first | have a8 := in_u i59 | (have a8 := i59; unfold In at a8)); have a9 := t_sub e58 i48a i48 rfl; have oc := oc_210_49; (first | exact zt_s (by omega) (by omega) | omega)))]; exact in2_s h9 (by have hz : z78 = z84 := (by rw [e78, e84]); rw [← hz]; exact e79) (by rw [show z79 = z59 from (by rw [e79, e59, e78, e58])]; (first | have a0 := oa5 j45_2 i48 ro_49_11 i48a i45 | ((first | have a0 := in_u j45_2 | (have a0 := j45_2; unfold In at a0)); (first | have a1 := in_u i48 | (have a1 := i48; unfold In at a1)); (first | have a2 := in_u ro_49_11 | (have a2 := ro_49_11; unfold In at a2)); (first | have a3 := in_u i48a | (have a3 := i48a; unfold In at a3)); (first | have a4 := in_u i45 | (have a4 := i45; unfold In at a4)))); have a5 := t_sub e84 i48a i48 rfl; (first | have a6 := in_u i79 | (have a6 := i79; unfold In at a6)); have a7 := t_sub e78 i48a i48 rfl; (first | have a8 := in_u i59 | (have a8 := i59; unfold In at a8)); have a9 := t_sub e58 i48a i48 rfl; have oc := oc_210_49; omega)
                  have m45 : (z84).toInt < ((k45 : Nat) : Int) := by (first | have a0 := oa5 j45_2 i48 ro_49_11 i48a i45 | ((first | have a0 := in_u j45_2 | (have a0 := j45_2; unfold In at a0)); (first | have a1 := in_u i48 | (have a1 := i48; unfold In at a1)); (first | have a2 := in_u ro_49_11 | (have a2 := ro_49_11; unfold In at a2)); (first | have a3 := in_u i48a | (have a3 := i48a; unfold In at a3)); (first | have a4 := in_u i45 | (have a4 := i45; unfold In at a4)))); have a5 := t_sub e84 i48a i48 rfl; (first | have a6 := in_u i79 | (have a6 := i79; unfold In at a6)); have a7 := t_sub e78 i48a i48 rfl; (first | have a8 := in_u i59 | (have a8 := i59; unfold In at a8)); have a9 := t_sub e58 i48a i48 rfl; have oc := oc_210_49; omega
                  exact gg_w (by first | exact Nat.le_add_right _ _ | exact gw2 | exact gw3 | exact gwe rfl | exact gwf rfl | exact gwg rfl | exact gwh rfl | omega) (gg_f (gf_cons rfl (gf_cons rfl (gf_cons rfl (gf_cons rfl (gf_cons rfl gf_nil))))) (ih45  (sL sc45 55 y45_5.toNatClampNeg z79) y45_3 z84 hI80 (fr_sL rfl hFc45) (in_w 1 2001 j45_2 rfl) i45 n45 n45a n45b n45c m45))
          refine g_iload_n 28 (gd rfl) rfl rfl ?_
          refine g_aload_n 29 (gd rfl) rfl rfl ?_
          refine g_getI 32 (gd rfl) rfl rfl rfl (fun z29 e29 => ?_)
          have q29 : u_49_11 = z29 := (fr_F e_49_11 hFc27 rfl).trans e29.symm
          subst q29
          refine g_cmp_ge 35 104 (gd rfl) rfl rfl (fun c32 => ?_) (fun c32 => ?_)
          · skip
            refine g_iload_n 105 (gd rfl) rfl rfl ?_
            refine g_iconst 3 106 (gd rfl) rfl rfl ?_
            refine g_idiv 107 (gd rfl) rfl (by decide) (fun z106 e106 => ?_)
            have i106 := in_div 0 667 e106 j27_1 rfl rfl
            refine g_istore_n 108 (gd rfl) rfl (Nat.le_of_ble_eq_true rfl) ?_
            refine g_goto 21 (gd rfl) rfl ?_
            have n21 : PRM (sc27.2.1 55) (s.2.1 55) (s.2.2.1 49 11).toInt.toNat := by exact g27_0
            have n21a : GPS (z106).toInt := by exact (gps_d g21_1 (show (z106).toInt = (y21_1).toInt / 3 from (by (first | have a0 := oa4 j27_1 ro_49_11 j27_2 i106 | ((first | have a0 := in_u j27_1 | (have a0 := j27_1; unfold In at a0)); (first | have a1 := in_u ro_49_11 | (have a1 := ro_49_11; unfold In at a1)); (first | have a2 := in_u j27_2 | (have a2 := j27_2; unfold In at a2)); (first | have a3 := in_u i106 | (have a3 := i106; unfold In at a3)))); have a4 := t_div e106 j27_1 rfl; have oc := oc_210_49; omega))).1
            have n21b : (z106).toInt = 0 → SRT (kvl (sc27.2.1 55)) (s.2.2.1 49 11).toInt.toNat := by intro h; exact srt_m (g27_1 (show (y21_1).toInt = 1 from (by have h8 := (gps_d g21_1 (show (z106).toInt = (y21_1).toInt / 3 from (by (first | have a0 := oa4 j27_1 ro_49_11 j27_2 i106 | ((first | have a0 := in_u j27_1 | (have a0 := j27_1; unfold In at a0)); (first | have a1 := in_u ro_49_11 | (have a1 := ro_49_11; unfold In at a1)); (first | have a2 := in_u j27_2 | (have a2 := j27_2; unfold In at a2)); (first | have a3 := in_u i106 | (have a3 := i106; unfold In at a3)))); have a4 := t_div e106 j27_1 rfl; have oc := oc_210_49; omega))).2 h; (first | have a0 := oa4 j27_1 ro_49_11 j27_2 i106 | ((first | have a0 := in_u j27_1 | (have a0 := j27_1; unfold In at a0)); (first | have a1 := in_u ro_49_11 | (have a1 := ro_49_11; unfold In at a1)); (first | have a2 := in_u j27_2 | (have a2 := j27_2; unfold In at a2)); (first | have a3 := in_u i106 | (have a3 := i106; unfold In at a3)))); have a4 := t_div e106 j27_1 rfl; have oc := oc_210_49; omega))) (by rw [← e_49_11]; (first | have a0 := oa4 j27_1 ro_49_11 j27_2 i106 | ((first | have a0 := in_u j27_1 | (have a0 := j27_1; unfold In at a0)); (first | have a1 := in_u ro_49_11 | (have a1 := ro_49_11; unfold In at a1)); (first | have a2 := in_u j27_2 | (have a2 := j27_2; unfold In at a2)); (first | have a3 := in_u i106 | (have a3 := i106; unfold In at a3)))); have a4 := t_div e106 j27_1 rfl; have oc := oc_210_49; omega)
            have m21 : (z106).toInt < ((k21 : Nat) : Int) := by (first | have a0 := oa4 j27_1 ro_49_11 j27_2 i106 | ((first | have a0 := in_u j27_1 | (have a0 := j27_1; unfold In at a0)); (first | have a1 := in_u ro_49_11 | (have a1 := ro_49_11; unfold In at a1)); (first | have a2 := in_u j27_2 | (have a2 := j27_2; unfold In at a2)); (first | have a3 := in_u i106 | (have a3 := i106; unfold In at a3)))); have a4 := t_div e106 j27_1 rfl; have oc := oc_210_49; omega
            exact gg_w (by first | exact Nat.le_add_right _ _ | exact gw2 | exact gw3 | exact gwe rfl | exact gwf rfl | exact gwg rfl | exact gwh rfl | omega) (gg_f (gf_cons rfl (gf_cons rfl gf_nil)) (ih21  sc27 z106 hIc27 hFc27 (in_w 0 2001 i106 rfl) n21 n21a n21b m21))
          · skip
            have i32 := r_lt1 1 2000 c32 j27_2 ro_49_11 rfl
            have i32a := r_lt2 2 2001 c32 j27_2 ro_49_11 rfl
            refine g_aload_n 36 (gd rfl) rfl rfl ?_
            refine g_getA (q2 := 55) 39 (gd rfl) rfl rfl rfl rfl ?_
            refine g_iload_n 40 (gd rfl) rfl rfl ?_
            refine g_laload 41 (gd rfl) rfl (n := 2001) rfl (in_ix i32 rfl) (fun z40 e40 => ?_)
            refine g_lstore_n 42 (gd rfl) rfl (Nat.le_of_ble_eq_true rfl) ?_
            refine g_iload_n 43 (gd rfl) rfl rfl ?_
            refine g_istore 45 (gd rfl) rfl (Nat.le_of_ble_eq_true rfl) ?_
            have n45 : (y27_2).toInt ≤ (y27_2).toInt := by exact Int.le_refl _
            have n45a : (y27_2).toInt < (u_49_11).toInt := by (first | have a0 := oa3 j27_1 i32a i32 | ((first | have a0 := in_u j27_1 | (have a0 := j27_1; unfold In at a0)); (first | have a1 := in_u i32a | (have a1 := i32a; unfold In at a1)); (first | have a2 := in_u i32 | (have a2 := i32; unfold In at a2)))); have oc := oc_210_49; omega
            have n45b : PRM (vp_updL (sc27.2.1 55) (y27_2).toNatClampNeg (z40)) (s.2.1 55) (s.2.2.1 49 11).toInt.toNat := by exact prm_t (hol_0 e40) g27_0
            have n45c : (y21_1).toInt = 1 → IN2 (sc27.2.1 55) (y27_2).toNatClampNeg (y27_2).toNatClampNeg (z40) := by intro h; exact in2_0 (g27_1 h)
            have m45 : (y27_2).toInt < ((3001 : Nat) : Int) := by (first | have a0 := oa3 j27_1 i32a i32 | ((first | have a0 := in_u j27_1 | (have a0 := j27_1; unfold In at a0)); (first | have a1 := in_u i32a | (have a1 := i32a; unfold In at a1)); (first | have a2 := in_u i32 | (have a2 := i32; unfold In at a2)))); have oc := oc_210_49; omega
            exact gg_w (by first | exact Nat.le_add_right _ _ | exact gw2 | exact gw3 | exact gwe rfl | exact gwf rfl | exact gwg rfl | exact gwh rfl | omega) (gg_f (gf_cons rfl (gf_cons rfl (gf_cons rfl (gf_cons rfl (gf_cons rfl gf_nil))))) (ct45 3001 sc27 z40 y27_2 hIc27 hFc27 (in_w 1 2001 i32 rfl) (in_w 0 2000 i32 rfl) n45 n45a n45b n45c m45))
      refine g_iload_n 22 (gd rfl) rfl rfl ?_
      refine g_if_le 25 111 (gd rfl) rfl rfl (fun c22 => ?_) (fun c22 => ?_)
      · skip
        have i22 := z_le 0 0 c22 j21_1 rfl
        have n111 : PRM (sc21.2.1 55) (s.2.1 55) (s.2.2.1 49 11).toInt.toNat := by exact g21_0
        have n111a : SRT (kvl (sc21.2.1 55)) (s.2.2.1 49 11).toInt.toNat := by exact g21_2 (by (first | have a0 := oa2 ro_49_11 i22 | ((first | have a0 := in_u ro_49_11 | (have a0 := ro_49_11; unfold In at a0)); (first | have a1 := in_u i22 | (have a1 := i22; unfold In at a1)))); have oc := oc_210_49; omega)
        exact g_return (gd rfl) rfl (hP _ _ ⟨sc21, hIc21, hFc21, rfl, rfl, n111, n111a⟩)
      · skip
        have i22 := z_gt 1 2001 c22 j21_1 rfl
        refine g_iload_n 26 (gd rfl) rfl rfl ?_
        refine g_istore_n 27 (gd rfl) rfl (Nat.le_of_ble_eq_true rfl) ?_
        have n27 : PRM (sc21.2.1 55) (s.2.1 55) (s.2.2.1 49 11).toInt.toNat := by exact g21_0
        have n27a : (y21_1).toInt = 1 → SRT (kvl (sc21.2.1 55)) (y21_1).toInt.toNat := by intro h; exact srt_1 (by (first | have a0 := oa2 ro_49_11 i22 | ((first | have a0 := in_u ro_49_11 | (have a0 := ro_49_11; unfold In at a0)); (first | have a1 := in_u i22 | (have a1 := i22; unfold In at a1)))); have oc := oc_210_49; omega)
        exact gg_w (by first | exact Nat.le_add_right _ _ | exact gw2 | exact gw3 | exact gwe rfl | exact gwf rfl | exact gwg rfl | exact gwh rfl | omega) (gg_f (gf_cons rfl (gf_cons rfl (gf_cons rfl gf_nil))) (ct27 4000 sc21 y21_1 hIc21 hFc21 (in_w 1 2001 i22 rfl) (in_w 1 4000 i22 rfl) n27 n27a (m_in 4000 (in_w 1 4000 i22 rfl) rfl)))
  have ct2 : ∀ (k2 : Nat) (sc2 : GS) (y2_1 : Int32), Inv sc2 → Fr fm_210_49 s sc2 → (In y2_1 1 2001) → (1 ≤ (y2_1).toInt) → (GPS (y2_1).toInt) → ((sc2.2.1 55) = (s.2.1 55)) → 3000 - (y2_1).toInt < (k2 : Int) → GG Z (d - 1) 210 post (gx xp) (32462145315404 + k2 * 900) 2 (fun j => xlook j [(0, .ref (A 49)), (1, .int y2_1)]) [] (WW Z A sc2 ++ ex) 0 0 := by
    intro k2
    induction k2 with
    | zero => intro sc2 y2_1 hIc2 hFc2 j2_1 n2_0 g2_0 g2_1 mm2; exfalso; (first | have a0 := in_u ro_49_11 | (have a0 := ro_49_11; unfold In at a0)); have a1 := j2_1; unfold In at a1; have oc := oc_210_49; omega
    | succ k2 ih2 =>
      intro sc2 y2_1 hIc2 hFc2 j2_1 n2_0 g2_0 g2_1 mm2
      refine gg_w (M := 32462145315404 + k2 * 900 + 900) gws ?_
      refine g_iload_n 3 (gd rfl) rfl rfl ?_
      refine g_aload_n 4 (gd rfl) rfl rfl ?_
      refine g_getI 7 (gd rfl) rfl rfl rfl (fun z4 e4 => ?_)
      have q4 : u_49_11 = z4 := (fr_F e_49_11 hFc2 rfl).trans e4.symm
      subst q4
      refine g_iconst 3 8 (gd rfl) rfl rfl ?_
      refine g_idiv 9 (gd rfl) rfl (by decide) (fun z8 e8 => ?_)
      have i8 := in_div 0 667 e8 ro_49_11 rfl rfl
      refine g_cmp_ge 12 21 (gd rfl) rfl rfl (fun c9 => ?_) (fun c9 => ?_)
      · skip
        have n21 : PRM (sc2.2.1 55) (s.2.1 55) (s.2.2.1 49 11).toInt.toNat := by rw [g2_1]; exact prm_r
        have n21a : GPS (y2_1).toInt := by exact g2_0
        have n21b : (y2_1).toInt = 0 → SRT (kvl (sc2.2.1 55)) (s.2.2.1 49 11).toInt.toNat := by intro h; exfalso; (first | have a0 := oa3 ro_49_11 j2_1 i8 | ((first | have a0 := in_u ro_49_11 | (have a0 := ro_49_11; unfold In at a0)); (first | have a1 := in_u j2_1 | (have a1 := j2_1; unfold In at a1)); (first | have a2 := in_u i8 | (have a2 := i8; unfold In at a2)))); have a3 := t_div e8 ro_49_11 rfl; have oc := oc_210_49; omega
        have m21 : (y2_1).toInt < ((3001 : Nat) : Int) := by (first | have a0 := oa3 ro_49_11 j2_1 i8 | ((first | have a0 := in_u ro_49_11 | (have a0 := ro_49_11; unfold In at a0)); (first | have a1 := in_u j2_1 | (have a1 := j2_1; unfold In at a1)); (first | have a2 := in_u i8 | (have a2 := i8; unfold In at a2)))); have a3 := t_div e8 ro_49_11 rfl; have oc := oc_210_49; omega
        exact gg_w (by first | exact Nat.le_add_right _ _ | exact gw2 | exact gw3 | exact gwe rfl | exact gwf rfl | exact gwg rfl | exact gwh rfl | omega) (gg_f (gf_cons rfl (gf_cons rfl gf_nil)) (ct21 3001 sc2 y2_1 hIc2 hFc2 (in_w 0 2001 j2_1 rfl) n21 n21a n21b m21))
      · skip
        have i9 := r_lt1 1 666 c9 j2_1 i8 rfl
        have i9a := r_lt2 2 667 c9 j2_1 i8 rfl
        refine g_iconst 3 13 (gd rfl) rfl rfl ?_
        refine g_iload_n 14 (gd rfl) rfl rfl ?_
        refine g_imul 15 (gd rfl) rfl (fun z14 e14 => ?_)
        have i14 := in_mulc 3 3 1998 (Or.inl e14) i9 rfl rfl
        refine g_iconst 1 16 (gd rfl) rfl rfl ?_
        refine g_iadd 17 (gd rfl) rfl (fun z16 e16 => ?_)
        have i16 := in_add 4 1999 e16 i14 (in_c 1 rfl) rfl rfl
        refine g_istore_n 18 (gd rfl) rfl (Nat.le_of_ble_eq_true rfl) ?_
        refine g_goto 2 (gd rfl) rfl ?_
        have n2 : 1 ≤ (z16).toInt := by (first | have a0 := oa3 ro_49_11 i9 i16 | ((first | have a0 := in_u ro_49_11 | (have a0 := ro_49_11; unfold In at a0)); (first | have a1 := in_u i9 | (have a1 := i9; unfold In at a1)); (first | have a2 := in_u i16 | (have a2 := i16; unfold In at a2)))); have a3 := t_add e16 i14 (in_c 1 rfl) rfl; (first | have a4 := oa2 ((in_c 1 rfl)) i14 | ((first | have a4 := in_u ((in_c 1 rfl)) | (have a4 := (in_c 1 rfl); unfold In at a4)); (first | have a5 := in_u i14 | (have a5 := i14; unfold In at a5)))); have a6 := (t_mulc 3 (Or.inl e14) i9 rfl).1; (first | have a7 := in_u i9a | (have a7 := i9a; unfold In at a7)); have a8 := t_div e8 ro_49_11 rfl; have oc := oc_210_49; omega
        have n2a : GPS (z16).toInt := by exact gps_3 g2_0 (by (first | have a0 := oa3 ro_49_11 i9 i16 | ((first | have a0 := in_u ro_49_11 | (have a0 := ro_49_11; unfold In at a0)); (first | have a1 := in_u i9 | (have a1 := i9; unfold In at a1)); (first | have a2 := in_u i16 | (have a2 := i16; unfold In at a2)))); have a3 := t_add e16 i14 (in_c 1 rfl) rfl; (first | have a4 := oa2 ((in_c 1 rfl)) i14 | ((first | have a4 := in_u ((in_c 1 rfl)) | (have a4 := (in_c 1 rfl); unfold In at a4)); (first | have a5 := in_u i14 | (have a5 := i14; unfold In at a5)))); have a6 := (t_mulc 3 (Or.inl e14) i9 rfl).1; (first | have a7 := in_u i9a | (have a7 := i9a; unfold In at a7)); have a8 := t_div e8 ro_49_11 rfl; have oc := oc_210_49; omega) (by (first | have a0 := oa3 ro_49_11 i9 i16 | ((first | have a0 := in_u ro_49_11 | (have a0 := ro_49_11; unfold In at a0)); (first | have a1 := in_u i9 | (have a1 := i9; unfold In at a1)); (first | have a2 := in_u i16 | (have a2 := i16; unfold In at a2)))); have a3 := t_add e16 i14 (in_c 1 rfl) rfl; (first | have a4 := oa2 ((in_c 1 rfl)) i14 | ((first | have a4 := in_u ((in_c 1 rfl)) | (have a4 := (in_c 1 rfl); unfold In at a4)); (first | have a5 := in_u i14 | (have a5 := i14; unfold In at a5)))); have a6 := (t_mulc 3 (Or.inl e14) i9 rfl).1; (first | have a7 := in_u i9a | (have a7 := i9a; unfold In at a7)); have a8 := t_div e8 ro_49_11 rfl; have oc := oc_210_49; omega) (by (first | have a0 := oa3 ro_49_11 i9 i16 | ((first | have a0 := in_u ro_49_11 | (have a0 := ro_49_11; unfold In at a0)); (first | have a1 := in_u i9 | (have a1 := i9; unfold In at a1)); (first | have a2 := in_u i16 | (have a2 := i16; unfold In at a2)))); have a3 := t_add e16 i14 (in_c 1 rfl) rfl; (first | have a4 := oa2 ((in_c 1 rfl)) i14 | ((first | have a4 := in_u ((in_c 1 rfl)) | (have a4 := (in_c 1 rfl); unfold In at a4)); (first | have a5 := in_u i14 | (have a5 := i14; unfold In at a5)))); have a6 := (t_mulc 3 (Or.inl e14) i9 rfl).1; (first | have a7 := in_u i9a | (have a7 := i9a; unfold In at a7)); have a8 := t_div e8 ro_49_11 rfl; have oc := oc_210_49; omega)
        have n2b : (sc2.2.1 55) = (s.2.1 55) := by exact g2_1
        have m2 : 3000 - (z16).toInt < ((k2 : Nat) : Int) := by (first | have a0 := oa3 ro_49_11 i9 i16 | ((first | have a0 := in_u ro_49_11 | (have a0 := ro_49_11; unfold In at a0)); (first | have a1 := in_u i9 | (have a1 := i9; unfold In at a1)); (first | have a2 := in_u i16 | (have a2 := i16; unfold In at a2)))); have a3 := t_add e16 i14 (in_c 1 rfl) rfl; (first | have a4 := oa2 ((in_c 1 rfl)) i14 | ((first | have a4 := in_u ((in_c 1 rfl)) | (have a4 := (in_c 1 rfl); unfold In at a4)); (first | have a5 := in_u i14 | (have a5 := i14; unfold In at a5)))); have a6 := (t_mulc 3 (Or.inl e14) i9 rfl).1; (first | have a7 := in_u i9a | (have a7 := i9a; unfold In at a7)); have a8 := t_div e8 ro_49_11 rfl; have oc := oc_210_49; omega
        exact gg_w (by first | exact Nat.le_add_right _ _ | exact gw2 | exact gw3 | exact gwe rfl | exact gwf rfl | exact gwg rfl | exact gwh rfl | omega) (gg_f (gf_cons rfl (gf_cons rfl gf_nil)) (ih2  sc2 z16 hIc2 hFc2 (in_w 1 2001 i16 rfl) n2 n2a n2b m2))
  refine g_enter2 (k := 210) (N := 32462148017204) (by first | exact dq1 hd rfl | exact dq0 hd rfl | exact dq2 hd rfl | exact dq3 hd rfl | omega) rfl (Nat.le_of_ble_eq_true rfl) ?_
  refine g_iconst 1 1 (gd rfl) rfl rfl ?_
  refine g_istore_n 2 (gd rfl) rfl (Nat.le_of_ble_eq_true rfl) ?_
  have n2 : 1 ≤ ((Int32.ofInt 1)).toInt := by (first | have a0 := oa2 ro_49_11 ((in_c 1 rfl)) | ((first | have a0 := in_u ro_49_11 | (have a0 := ro_49_11; unfold In at a0)); (first | have a1 := in_u ((in_c 1 rfl)) | (have a1 := (in_c 1 rfl); unfold In at a1)))); have oc := oc_210_49; omega
  have n2a : GPS ((Int32.ofInt 1)).toInt := by exact Or.inr (Or.inl rfl)
  have n2b : (s.2.1 55) = (s.2.1 55) := by rfl
  have m2 : 3000 - ((Int32.ofInt 1)).toInt < ((3001 : Nat) : Int) := by (first | have a0 := oa2 ro_49_11 ((in_c 1 rfl)) | ((first | have a0 := in_u ro_49_11 | (have a0 := ro_49_11; unfold In at a0)); (first | have a1 := in_u ((in_c 1 rfl)) | (have a1 := (in_c 1 rfl); unfold In at a1)))); have oc := oc_210_49; omega
  exact gg_w (by first | exact Nat.le_of_ble_eq_true rfl | omega) (gg_f (gf_cons rfl (gf_cons rfl gf_nil)) (ct2 3001 s (Int32.ofInt 1) hI fr_rf (in_w 1 2001 (in_c 1 rfl) rfl) n2 n2a n2b m2))

theorem oc_207_49_2 : (Int32.ofInt (-1)).toInt = (-1) ∧ (Int32.ofInt 0).toInt = 0 ∧ (Int32.ofInt 1).toInt = 1 ∧ (Int32.ofInt 2000).toInt = 2000 ∧ (Int64.ofInt 0).toInt = 0 := ⟨rfl, rfl, rfl, rfl, rfl⟩
/-- GraphHouse$Ways.collect -/
theorem f_207_49_2 {Z : AmZ} {A : Nat → Nat} {s : GS} {ex : va_W} {d : Nat} {X : AmX} {x2 : Int32} {x3 : Int32} (hd : 22 ≤ d) (hI : Inv s) (h2 : In x2 0 31) (h3 : In x3 0 31) (q_0 : TQ s) (q_1 : NDQ (gvC s)) (q_2 : SHB (gvC s) s) (q_3 : KSB (gvC s) s) : GC Z d 207 [.ref (A 49), .ref (A 2), .int x2, .int x3] (WW Z A s ++ ex) 0 0 (fun v u => ∃ t : GS, Inv t ∧ Fr fm_207_49_2 s t ∧ v = none ∧ u = WW Z A t ++ ex ∧ ((SHG (gvC s) t ∧ (t).2.2.1 49 9 = x2 ∧ (t).2.2.1 49 10 = x3)) ∧ (KSG (gvC s) t)) X := by
  intro post xp hP hX
  obtain ⟨u_2_0, e_2_0⟩ : ∃ w, w = s.2.2.1 2 0 := ⟨_, rfl⟩
  have ro_2_0 := inv_F hI 0 4000 rfl e_2_0
  refine g_enter2 (k := 207) (N := 900) (by first | exact dq1 hd rfl | exact dq0 hd rfl | exact dq2 hd rfl | exact dq3 hd rfl | omega) rfl (Nat.le_of_ble_eq_true rfl) ?_
  refine g_aload_n 1 (gd rfl) rfl rfl ?_
  refine g_getI 4 (gd rfl) rfl rfl rfl (fun z1 e1 => ?_)
  have i1 := inv_F hI (-1) 4000 rfl e1
  refine g_aload_n 5 (gd rfl) rfl rfl ?_
  refine g_getI 8 (gd rfl) rfl rfl rfl (fun z5 e5 => ?_)
  have q5 : u_2_0 = z5 := (e_2_0).trans e5.symm
  subst q5
  refine g_cmp_ne 11 28 (gd rfl) rfl rfl (fun c8 => ?_) (fun c8 => ?_)
  · skip
    refine g_aload_n 29 (gd rfl) rfl rfl ?_
    refine g_callv (X := _) (As := []) (r := []) (b := A 2) (q := 2) 32 (gd rfl) rfl rfl rfl rfl rfl (ww_o rfl) (Nat.le_of_ble_eq_true rfl) (Nat.zero_le _) (Nat.zero_le _) (k_106_2 (by first | exact dq1 hd rfl | exact dq0 hd rfl | exact dq2 hd rfl | exact dq3 hd rfl | omega) hI ) (fun e u h => h) (fun v u h => ?_)
    obtain ⟨s29, hI29, hF29, n29, rfl, rfl⟩ := h
    obtain ⟨z29a, e29⟩ : ∃ w, w = s29.2.2.1 2 4 := ⟨_, rfl⟩
    have i29a := inv_F hI29 (-1) 4000 rfl e29
    rw [← (show z29a = s29.2.2.1 2 4 from e29)] at n29
    rw [← (show u_2_0 = s29.2.2.1 2 0 from fr_F (e_2_0) hF29 rfl)] at n29
    show GG _ _ _ _ _ _ _ _ [] _ _ _
    refine g_aload_n 33 (gd rfl) rfl rfl ?_
    refine g_aload_n 34 (gd rfl) rfl rfl ?_
    refine g_getI 37 (gd rfl) rfl rfl rfl (fun z34 e34 => ?_)
    have q34 : u_2_0 = z34 := (fr_F (e_2_0) hF29 rfl).trans e34.symm
    subst q34
    refine g_putI 40 (gd rfl) rfl rfl rfl rfl ?_
    have hI37 := inv_sF (q := 49) (j := 8) hI29 rfl (in_w (-1) 4000 ro_2_0 rfl)
    refine g_aload_n 41 (gd rfl) rfl rfl ?_
    refine g_iload_n 42 (gd rfl) rfl rfl ?_
    refine g_putI 45 (gd rfl) rfl rfl rfl rfl ?_
    have hI42 := inv_sF (q := 49) (j := 9) hI37 rfl (in_w 0 31 h2 rfl)
    refine g_aload_n 46 (gd rfl) rfl rfl ?_
    refine g_iload_n 47 (gd rfl) rfl rfl ?_
    refine g_putI 50 (gd rfl) rfl rfl rfl rfl ?_
    have hI47 := inv_sF (q := 49) (j := 10) hI42 rfl (in_w 0 31 h3 rfl)
    refine g_aload_n 51 (gd rfl) rfl rfl ?_
    refine g_iconst 0 52 (gd rfl) rfl rfl ?_
    refine g_putI 55 (gd rfl) rfl rfl rfl rfl ?_
    have hI52 := inv_sF (q := 49) (j := 11) hI47 rfl (in_w 0 2001 (in_c 0 rfl) rfl)
    refine g_aload_n 56 (gd rfl) rfl rfl ?_
    refine g_aload_n 57 (gd rfl) rfl rfl ?_
    refine g_iload_n 58 (gd rfl) rfl rfl ?_
    refine g_iconst 1 59 (gd rfl) rfl rfl ?_
    refine g_iload_n 60 (gd rfl) rfl rfl ?_
    refine g_ishl 61 (gd rfl) rfl (fun z60 e60 => ?_)
    refine g_iconst 0 62 (gd rfl) rfl rfl ?_
    refine g_lconst 0 63 (gd rfl) rfl rfl ?_
    have p63 : TQ (sF (sF (sF (sF s29 49 8 u_2_0) 49 9 x2) 49 10 x3) 49 11 (Int32.ofInt 0)) := by exact tq_fr q_0 (show Fr fm_207_49_2 s (sF (sF (sF (sF s29 49 8 u_2_0) 49 9 x2) 49 10 x3) 49 11 (Int32.ofInt 0)) from (fr_sF rfl (fr_sF rfl (fr_sF rfl (fr_sF rfl (fr_tr rfl fr_rf hF29)))))) rfl
    have p63a : ((((sF (sF (sF (sF s29 49 8 u_2_0) 49 9 x2) 49 10 x3) 49 11 (Int32.ofInt 0))).2.2.1 2 4).toInt = (((sF (sF (sF (sF s29 49 8 u_2_0) 49 9 x2) 49 10 x3) 49 11 (Int32.ofInt 0))).2.2.1 2 0).toInt) := by exact (by show (s29.2.2.1 2 4).toInt = (s29.2.2.1 2 0).toInt; rw [← (show z29a = s29.2.2.1 2 4 from e29), ← (show u_2_0 = s29.2.2.1 2 0 from fr_F (e_2_0) hF29 rfl)]; exact n29)
    have p63b : NDQ (gvC (sF (sF (sF (sF s29 49 8 u_2_0) 49 9 x2) 49 10 x3) 49 11 (Int32.ofInt 0))) := by rw [gvC_cg (show Fr fm_207_49_2 s (sF (sF (sF (sF s29 49 8 u_2_0) 49 9 x2) 49 10 x3) 49 11 (Int32.ofInt 0)) from (fr_sF rfl (fr_sF rfl (fr_sF rfl (fr_sF rfl (fr_tr rfl fr_rf hF29)))))) rfl]; exact q_1
    have p63c : KBD ((Int64.ofInt 0)).toInt ((Int32.ofInt 0)).toInt := by show KBD 0 0; unfold KBD; omega
    refine g_callv (X := _) (As := [.ref (A 2), .int x2, .int z60, .int (Int32.ofInt 0), .long (Int64.ofInt 0)]) (r := []) (b := A 49) (q := 49) 66 (gd rfl) rfl rfl rfl rfl rfl (ww_o rfl) (Nat.le_of_ble_eq_true rfl) (Nat.zero_le _) (Nat.zero_le _) (f_208_49_2 (by first | exact dq1 hd rfl | exact dq0 hd rfl | exact dq2 hd rfl | exact dq3 hd rfl | omega) hI52 (in_w 0 31 h2 rfl) (in_w 0 4 (in_c 0 rfl) rfl) p63 p63a p63b p63c) (fun e u h => h) (fun v u h => ?_)
    obtain ⟨s63, hI63, hF63, rfl, rfl, p63d, p63e⟩ := h
    show GG _ _ _ _ _ _ _ _ [] _ _ _
    refine g_aload_n 67 (gd rfl) rfl rfl ?_
    refine g_getI 70 (gd rfl) rfl rfl rfl (fun z67 e67 => ?_)
    have i67 := inv_F hI63 0 2001 rfl e67
    refine g_sipush 2000 73 (gd rfl) rfl rfl ?_
    refine g_cmp_gt 76 80 (gd rfl) rfl rfl (fun c73 => ?_) (fun c73 => ?_)
    · skip
      have i73 := r_lt2 2001 2001 c73 (in_c 2000 rfl) i67 rfl
      have n80 : (SHG (gvC s) s63 ∧ (s63).2.2.1 49 9 = x2 ∧ (s63).2.2.1 49 10 = x3) := by exact ⟨shg_of (by rw [(((hF63.2.2.1 49 8 rfl).trans (show (sF (sF (sF (sF s29 49 8 u_2_0) 49 9 x2) 49 10 x3) 49 11 (Int32.ofInt 0)).2.2.1 49 8 = u_2_0 from rfl))), e_2_0]; rfl) (((hF63.2.2.1 49 9 rfl).trans (show (sF (sF (sF (sF s29 49 8 u_2_0) 49 9 x2) 49 10 x3) 49 11 (Int32.ofInt 0)).2.2.1 49 9 = x2 from rfl))) (((hF63.2.2.1 49 10 rfl).trans (show (sF (sF (sF (sF s29 49 8 u_2_0) 49 9 x2) 49 10 x3) 49 11 (Int32.ofInt 0)).2.2.1 49 10 = x3 from rfl))) h2 h3 e60 (by have h9 := p63d; rw [gvC_cg (show Fr fm_207_49_2 s (sF (sF (sF (sF s29 49 8 u_2_0) 49 9 x2) 49 10 x3) 49 11 (Int32.ofInt 0)) from fr_sF rfl (fr_sF rfl (fr_sF rfl (fr_sF rfl (fr_tr rfl fr_rf hF29))))) rfl] at h9; exact h9), (((hF63.2.2.1 49 9 rfl).trans (show (sF (sF (sF (sF s29 49 8 u_2_0) 49 9 x2) 49 10 x3) 49 11 (Int32.ofInt 0)).2.2.1 49 9 = x2 from rfl))), (((hF63.2.2.1 49 10 rfl).trans (show (sF (sF (sF (sF s29 49 8 u_2_0) 49 9 x2) 49 10 x3) 49 11 (Int32.ofInt 0)).2.2.1 49 10 = x3 from rfl)))⟩
      have n80a : KSG (gvC s) s63 := by exact ksg_of (m := z60) (f := s63.2.1 55) (c := (s63.2.2.1 49 11).toInt) (((hF63.2.2.1 49 9 rfl).trans (show (sF (sF (sF (sF s29 49 8 u_2_0) 49 9 x2) 49 10 x3) 49 11 (Int32.ofInt 0)).2.2.1 49 9 = x2 from rfl))) (((hF63.2.2.1 49 10 rfl).trans (show (sF (sF (sF (sF s29 49 8 u_2_0) 49 9 x2) 49 10 x3) 49 11 (Int32.ofInt 0)).2.2.1 49 10 = x3 from rfl))) h2 h3 e60 (by have h9 := p63e [] (kz_0 rfl); rw [gvC_cg (show Fr fm_207_49_2 s (sF (sF (sF (sF s29 49 8 u_2_0) 49 9 x2) 49 10 x3) 49 11 (Int32.ofInt 0)) from fr_sF rfl (fr_sF rfl (fr_sF rfl (fr_sF rfl (fr_tr rfl fr_rf hF29))))) rfl] at h9; exact h9) rfl (fun h => absurd h (by rw [← (show z67 = s63.2.2.1 49 11 from e67)]; (first | have a0 := oa5 ro_2_0 h3 h2 i73 i29a | ((first | have a0 := in_u ro_2_0 | (have a0 := ro_2_0; unfold In at a0)); (first | have a1 := in_u h3 | (have a1 := h3; unfold In at a1)); (first | have a2 := in_u h2 | (have a2 := h2; unfold In at a2)); (first | have a3 := in_u i73 | (have a3 := i73; unfold In at a3)); (first | have a4 := in_u i29a | (have a4 := i29a; unfold In at a4)))); have oc := oc_207_49_2; omega))
      exact g_return (gd rfl) rfl (hP _ _ ⟨s63, hI63, (fr_tr rfl (fr_sF rfl (fr_sF rfl (fr_sF rfl (fr_sF rfl (fr_tr rfl fr_rf hF29))))) hF63), rfl, rfl, n80, n80a⟩)
    · skip
      have i73 := r_le1 0 2000 c73 i67 (in_c 2000 rfl) rfl
      refine g_aload_n 77 (gd rfl) rfl rfl ?_
      refine g_callv (X := _) (As := []) (r := []) (b := A 49) (q := 49) 80 (gd rfl) rfl rfl rfl rfl rfl (ww_o rfl) (Nat.le_of_ble_eq_true rfl) (Nat.zero_le _) (Nat.zero_le _) (f_210_49 (by first | exact dq1 hd rfl | exact dq0 hd rfl | exact dq2 hd rfl | exact dq3 hd rfl | omega) hI63 ) (fun e u h => h) (fun v u h => ?_)
      obtain ⟨s77, hI77, hF77, rfl, rfl, p77, p77a⟩ := h
      show GG _ _ _ _ _ _ _ _ [] _ _ _
      have n80 : (SHG (gvC s) s77 ∧ (s77).2.2.1 49 9 = x2 ∧ (s77).2.2.1 49 10 = x3) := by exact ⟨shg_of (by rw [((hF77.2.2.1 49 8 rfl).trans ((hF63.2.2.1 49 8 rfl).trans (show (sF (sF (sF (sF s29 49 8 u_2_0) 49 9 x2) 49 10 x3) 49 11 (Int32.ofInt 0)).2.2.1 49 8 = u_2_0 from rfl))), e_2_0]; rfl) ((hF77.2.2.1 49 9 rfl).trans ((hF63.2.2.1 49 9 rfl).trans (show (sF (sF (sF (sF s29 49 8 u_2_0) 49 9 x2) 49 10 x3) 49 11 (Int32.ofInt 0)).2.2.1 49 9 = x2 from rfl))) ((hF77.2.2.1 49 10 rfl).trans ((hF63.2.2.1 49 10 rfl).trans (show (sF (sF (sF (sF s29 49 8 u_2_0) 49 9 x2) 49 10 x3) 49 11 (Int32.ofInt 0)).2.2.1 49 10 = x3 from rfl))) h2 h3 e60 (by rw [hF77.2.2.1 49 11 rfl]; have h9 := p63d; rw [gvC_cg (show Fr fm_207_49_2 s (sF (sF (sF (sF s29 49 8 u_2_0) 49 9 x2) 49 10 x3) 49 11 (Int32.ofInt 0)) from fr_sF rfl (fr_sF rfl (fr_sF rfl (fr_sF rfl (fr_tr rfl fr_rf hF29))))) rfl] at h9; exact h9), ((hF77.2.2.1 49 9 rfl).trans ((hF63.2.2.1 49 9 rfl).trans (show (sF (sF (sF (sF s29 49 8 u_2_0) 49 9 x2) 49 10 x3) 49 11 (Int32.ofInt 0)).2.2.1 49 9 = x2 from rfl))), ((hF77.2.2.1 49 10 rfl).trans ((hF63.2.2.1 49 10 rfl).trans (show (sF (sF (sF (sF s29 49 8 u_2_0) 49 9 x2) 49 10 x3) 49 11 (Int32.ofInt 0)).2.2.1 49 10 = x3 from rfl)))⟩
      have n80a : KSG (gvC s) s77 := by exact ksg_of (m := z60) (f := s63.2.1 55) (c := (s63.2.2.1 49 11).toInt) ((hF77.2.2.1 49 9 rfl).trans ((hF63.2.2.1 49 9 rfl).trans (show (sF (sF (sF (sF s29 49 8 u_2_0) 49 9 x2) 49 10 x3) 49 11 (Int32.ofInt 0)).2.2.1 49 9 = x2 from rfl))) ((hF77.2.2.1 49 10 rfl).trans ((hF63.2.2.1 49 10 rfl).trans (show (sF (sF (sF (sF s29 49 8 u_2_0) 49 9 x2) 49 10 x3) 49 11 (Int32.ofInt 0)).2.2.1 49 10 = x3 from rfl))) h2 h3 e60 (by have h9 := p63e [] (kz_0 rfl); rw [gvC_cg (show Fr fm_207_49_2 s (sF (sF (sF (sF s29 49 8 u_2_0) 49 9 x2) 49 10 x3) 49 11 (Int32.ofInt 0)) from fr_sF rfl (fr_sF rfl (fr_sF rfl (fr_sF rfl (fr_tr rfl fr_rf hF29))))) rfl] at h9; exact h9) (congrArg Int32.toInt (hF77.2.2.1 49 11 rfl)) (fun _ => ⟨p77, p77a⟩)
      exact g_return (gd rfl) rfl (hP _ _ ⟨s77, hI77, (fr_tr rfl (fr_tr rfl (fr_sF rfl (fr_sF rfl (fr_sF rfl (fr_sF rfl (fr_tr rfl fr_rf hF29))))) hF63) hF77), rfl, rfl, n80, n80a⟩)
  · skip
    have i8 := r_eq1 0 4000 c8 i1 ro_2_0 rfl
    refine g_aload_n 12 (gd rfl) rfl rfl ?_
    refine g_getI 15 (gd rfl) rfl rfl rfl (fun z12 e12 => ?_)
    have i12 := inv_F hI 0 31 rfl e12
    refine g_iload_n 16 (gd rfl) rfl rfl ?_
    refine g_cmp_ne 19 28 (gd rfl) rfl rfl (fun c16 => ?_) (fun c16 => ?_)
    · skip
      refine g_aload_n 29 (gd rfl) rfl rfl ?_
      refine g_callv (X := _) (As := []) (r := []) (b := A 2) (q := 2) 32 (gd rfl) rfl rfl rfl rfl rfl (ww_o rfl) (Nat.le_of_ble_eq_true rfl) (Nat.zero_le _) (Nat.zero_le _) (k_106_2 (by first | exact dq1 hd rfl | exact dq0 hd rfl | exact dq2 hd rfl | exact dq3 hd rfl | omega) hI ) (fun e u h => h) (fun v u h => ?_)
      obtain ⟨s29, hI29, hF29, n29, rfl, rfl⟩ := h
      obtain ⟨z29a, e29⟩ : ∃ w, w = s29.2.2.1 2 4 := ⟨_, rfl⟩
      have i29a := inv_F hI29 (-1) 4000 rfl e29
      rw [← (show z29a = s29.2.2.1 2 4 from e29)] at n29
      rw [← (show u_2_0 = s29.2.2.1 2 0 from fr_F (e_2_0) hF29 rfl)] at n29
      show GG _ _ _ _ _ _ _ _ [] _ _ _
      refine g_aload_n 33 (gd rfl) rfl rfl ?_
      refine g_aload_n 34 (gd rfl) rfl rfl ?_
      refine g_getI 37 (gd rfl) rfl rfl rfl (fun z34 e34 => ?_)
      have q34 : u_2_0 = z34 := (fr_F (e_2_0) hF29 rfl).trans e34.symm
      subst q34
      refine g_putI 40 (gd rfl) rfl rfl rfl rfl ?_
      have hI37 := inv_sF (q := 49) (j := 8) hI29 rfl (in_w (-1) 4000 ro_2_0 rfl)
      refine g_aload_n 41 (gd rfl) rfl rfl ?_
      refine g_iload_n 42 (gd rfl) rfl rfl ?_
      refine g_putI 45 (gd rfl) rfl rfl rfl rfl ?_
      have hI42 := inv_sF (q := 49) (j := 9) hI37 rfl (in_w 0 31 h2 rfl)
      refine g_aload_n 46 (gd rfl) rfl rfl ?_
      refine g_iload_n 47 (gd rfl) rfl rfl ?_
      refine g_putI 50 (gd rfl) rfl rfl rfl rfl ?_
      have hI47 := inv_sF (q := 49) (j := 10) hI42 rfl (in_w 0 31 h3 rfl)
      refine g_aload_n 51 (gd rfl) rfl rfl ?_
      refine g_iconst 0 52 (gd rfl) rfl rfl ?_
      refine g_putI 55 (gd rfl) rfl rfl rfl rfl ?_
      have hI52 := inv_sF (q := 49) (j := 11) hI47 rfl (in_w 0 2001 (in_c 0 rfl) rfl)
      refine g_aload_n 56 (gd rfl) rfl rfl ?_
      refine g_aload_n 57 (gd rfl) rfl rfl ?_
      refine g_iload_n 58 (gd rfl) rfl rfl ?_
      refine g_iconst 1 59 (gd rfl) rfl rfl ?_
      refine g_iload_n 60 (gd rfl) rfl rfl ?_
      refine g_ishl 61 (gd rfl) rfl (fun z60 e60 => ?_)
      refine g_iconst 0 62 (gd rfl) rfl rfl ?_
      refine g_lconst 0 63 (gd rfl) rfl rfl ?_
      have p63 : TQ (sF (sF (sF (sF s29 49 8 u_2_0) 49 9 x2) 49 10 x3) 49 11 (Int32.ofInt 0)) := by exact tq_fr q_0 (show Fr fm_207_49_2 s (sF (sF (sF (sF s29 49 8 u_2_0) 49 9 x2) 49 10 x3) 49 11 (Int32.ofInt 0)) from (fr_sF rfl (fr_sF rfl (fr_sF rfl (fr_sF rfl (fr_tr rfl fr_rf hF29)))))) rfl
      have p63a : ((((sF (sF (sF (sF s29 49 8 u_2_0) 49 9 x2) 49 10 x3) 49 11 (Int32.ofInt 0))).2.2.1 2 4).toInt = (((sF (sF (sF (sF s29 49 8 u_2_0) 49 9 x2) 49 10 x3) 49 11 (Int32.ofInt 0))).2.2.1 2 0).toInt) := by exact (by show (s29.2.2.1 2 4).toInt = (s29.2.2.1 2 0).toInt; rw [← (show z29a = s29.2.2.1 2 4 from e29), ← (show u_2_0 = s29.2.2.1 2 0 from fr_F (e_2_0) hF29 rfl)]; exact n29)
      have p63b : NDQ (gvC (sF (sF (sF (sF s29 49 8 u_2_0) 49 9 x2) 49 10 x3) 49 11 (Int32.ofInt 0))) := by rw [gvC_cg (show Fr fm_207_49_2 s (sF (sF (sF (sF s29 49 8 u_2_0) 49 9 x2) 49 10 x3) 49 11 (Int32.ofInt 0)) from (fr_sF rfl (fr_sF rfl (fr_sF rfl (fr_sF rfl (fr_tr rfl fr_rf hF29)))))) rfl]; exact q_1
      have p63c : KBD ((Int64.ofInt 0)).toInt ((Int32.ofInt 0)).toInt := by show KBD 0 0; unfold KBD; omega
      refine g_callv (X := _) (As := [.ref (A 2), .int x2, .int z60, .int (Int32.ofInt 0), .long (Int64.ofInt 0)]) (r := []) (b := A 49) (q := 49) 66 (gd rfl) rfl rfl rfl rfl rfl (ww_o rfl) (Nat.le_of_ble_eq_true rfl) (Nat.zero_le _) (Nat.zero_le _) (f_208_49_2 (by first | exact dq1 hd rfl | exact dq0 hd rfl | exact dq2 hd rfl | exact dq3 hd rfl | omega) hI52 (in_w 0 31 h2 rfl) (in_w 0 4 (in_c 0 rfl) rfl) p63 p63a p63b p63c) (fun e u h => h) (fun v u h => ?_)
      obtain ⟨s63, hI63, hF63, rfl, rfl, p63d, p63e⟩ := h
      show GG _ _ _ _ _ _ _ _ [] _ _ _
      refine g_aload_n 67 (gd rfl) rfl rfl ?_
      refine g_getI 70 (gd rfl) rfl rfl rfl (fun z67 e67 => ?_)
      have i67 := inv_F hI63 0 2001 rfl e67
      refine g_sipush 2000 73 (gd rfl) rfl rfl ?_
      refine g_cmp_gt 76 80 (gd rfl) rfl rfl (fun c73 => ?_) (fun c73 => ?_)
      · skip
        have i73 := r_lt2 2001 2001 c73 (in_c 2000 rfl) i67 rfl
        have n80 : (SHG (gvC s) s63 ∧ (s63).2.2.1 49 9 = x2 ∧ (s63).2.2.1 49 10 = x3) := by exact ⟨shg_of (by rw [(((hF63.2.2.1 49 8 rfl).trans (show (sF (sF (sF (sF s29 49 8 u_2_0) 49 9 x2) 49 10 x3) 49 11 (Int32.ofInt 0)).2.2.1 49 8 = u_2_0 from rfl))), e_2_0]; rfl) (((hF63.2.2.1 49 9 rfl).trans (show (sF (sF (sF (sF s29 49 8 u_2_0) 49 9 x2) 49 10 x3) 49 11 (Int32.ofInt 0)).2.2.1 49 9 = x2 from rfl))) (((hF63.2.2.1 49 10 rfl).trans (show (sF (sF (sF (sF s29 49 8 u_2_0) 49 9 x2) 49 10 x3) 49 11 (Int32.ofInt 0)).2.2.1 49 10 = x3 from rfl))) h2 h3 e60 (by have h9 := p63d; rw [gvC_cg (show Fr fm_207_49_2 s (sF (sF (sF (sF s29 49 8 u_2_0) 49 9 x2) 49 10 x3) 49 11 (Int32.ofInt 0)) from fr_sF rfl (fr_sF rfl (fr_sF rfl (fr_sF rfl (fr_tr rfl fr_rf hF29))))) rfl] at h9; exact h9), (((hF63.2.2.1 49 9 rfl).trans (show (sF (sF (sF (sF s29 49 8 u_2_0) 49 9 x2) 49 10 x3) 49 11 (Int32.ofInt 0)).2.2.1 49 9 = x2 from rfl))), (((hF63.2.2.1 49 10 rfl).trans (show (sF (sF (sF (sF s29 49 8 u_2_0) 49 9 x2) 49 10 x3) 49 11 (Int32.ofInt 0)).2.2.1 49 10 = x3 from rfl)))⟩
        have n80a : KSG (gvC s) s63 := by exact ksg_of (m := z60) (f := s63.2.1 55) (c := (s63.2.2.1 49 11).toInt) (((hF63.2.2.1 49 9 rfl).trans (show (sF (sF (sF (sF s29 49 8 u_2_0) 49 9 x2) 49 10 x3) 49 11 (Int32.ofInt 0)).2.2.1 49 9 = x2 from rfl))) (((hF63.2.2.1 49 10 rfl).trans (show (sF (sF (sF (sF s29 49 8 u_2_0) 49 9 x2) 49 10 x3) 49 11 (Int32.ofInt 0)).2.2.1 49 10 = x3 from rfl))) h2 h3 e60 (by have h9 := p63e [] (kz_0 rfl); rw [gvC_cg (show Fr fm_207_49_2 s (sF (sF (sF (sF s29 49 8 u_2_0) 49 9 x2) 49 10 x3) 49 11 (Int32.ofInt 0)) from fr_sF rfl (fr_sF rfl (fr_sF rfl (fr_sF rfl (fr_tr rfl fr_rf hF29))))) rfl] at h9; exact h9) rfl (fun h => absurd h (by rw [← (show z67 = s63.2.2.1 49 11 from e67)]; (first | have a0 := oa5 ro_2_0 h3 h2 i73 i29a | ((first | have a0 := in_u ro_2_0 | (have a0 := ro_2_0; unfold In at a0)); (first | have a1 := in_u h3 | (have a1 := h3; unfold In at a1)); (first | have a2 := in_u h2 | (have a2 := h2; unfold In at a2)); (first | have a3 := in_u i73 | (have a3 := i73; unfold In at a3)); (first | have a4 := in_u i29a | (have a4 := i29a; unfold In at a4)))); have oc := oc_207_49_2; omega))
        exact g_return (gd rfl) rfl (hP _ _ ⟨s63, hI63, (fr_tr rfl (fr_sF rfl (fr_sF rfl (fr_sF rfl (fr_sF rfl (fr_tr rfl fr_rf hF29))))) hF63), rfl, rfl, n80, n80a⟩)
      · skip
        have i73 := r_le1 0 2000 c73 i67 (in_c 2000 rfl) rfl
        refine g_aload_n 77 (gd rfl) rfl rfl ?_
        refine g_callv (X := _) (As := []) (r := []) (b := A 49) (q := 49) 80 (gd rfl) rfl rfl rfl rfl rfl (ww_o rfl) (Nat.le_of_ble_eq_true rfl) (Nat.zero_le _) (Nat.zero_le _) (f_210_49 (by first | exact dq1 hd rfl | exact dq0 hd rfl | exact dq2 hd rfl | exact dq3 hd rfl | omega) hI63 ) (fun e u h => h) (fun v u h => ?_)
        obtain ⟨s77, hI77, hF77, rfl, rfl, p77, p77a⟩ := h
        show GG _ _ _ _ _ _ _ _ [] _ _ _
        have n80 : (SHG (gvC s) s77 ∧ (s77).2.2.1 49 9 = x2 ∧ (s77).2.2.1 49 10 = x3) := by exact ⟨shg_of (by rw [((hF77.2.2.1 49 8 rfl).trans ((hF63.2.2.1 49 8 rfl).trans (show (sF (sF (sF (sF s29 49 8 u_2_0) 49 9 x2) 49 10 x3) 49 11 (Int32.ofInt 0)).2.2.1 49 8 = u_2_0 from rfl))), e_2_0]; rfl) ((hF77.2.2.1 49 9 rfl).trans ((hF63.2.2.1 49 9 rfl).trans (show (sF (sF (sF (sF s29 49 8 u_2_0) 49 9 x2) 49 10 x3) 49 11 (Int32.ofInt 0)).2.2.1 49 9 = x2 from rfl))) ((hF77.2.2.1 49 10 rfl).trans ((hF63.2.2.1 49 10 rfl).trans (show (sF (sF (sF (sF s29 49 8 u_2_0) 49 9 x2) 49 10 x3) 49 11 (Int32.ofInt 0)).2.2.1 49 10 = x3 from rfl))) h2 h3 e60 (by rw [hF77.2.2.1 49 11 rfl]; have h9 := p63d; rw [gvC_cg (show Fr fm_207_49_2 s (sF (sF (sF (sF s29 49 8 u_2_0) 49 9 x2) 49 10 x3) 49 11 (Int32.ofInt 0)) from fr_sF rfl (fr_sF rfl (fr_sF rfl (fr_sF rfl (fr_tr rfl fr_rf hF29))))) rfl] at h9; exact h9), ((hF77.2.2.1 49 9 rfl).trans ((hF63.2.2.1 49 9 rfl).trans (show (sF (sF (sF (sF s29 49 8 u_2_0) 49 9 x2) 49 10 x3) 49 11 (Int32.ofInt 0)).2.2.1 49 9 = x2 from rfl))), ((hF77.2.2.1 49 10 rfl).trans ((hF63.2.2.1 49 10 rfl).trans (show (sF (sF (sF (sF s29 49 8 u_2_0) 49 9 x2) 49 10 x3) 49 11 (Int32.ofInt 0)).2.2.1 49 10 = x3 from rfl)))⟩
        have n80a : KSG (gvC s) s77 := by exact ksg_of (m := z60) (f := s63.2.1 55) (c := (s63.2.2.1 49 11).toInt) ((hF77.2.2.1 49 9 rfl).trans ((hF63.2.2.1 49 9 rfl).trans (show (sF (sF (sF (sF s29 49 8 u_2_0) 49 9 x2) 49 10 x3) 49 11 (Int32.ofInt 0)).2.2.1 49 9 = x2 from rfl))) ((hF77.2.2.1 49 10 rfl).trans ((hF63.2.2.1 49 10 rfl).trans (show (sF (sF (sF (sF s29 49 8 u_2_0) 49 9 x2) 49 10 x3) 49 11 (Int32.ofInt 0)).2.2.1 49 10 = x3 from rfl))) h2 h3 e60 (by have h9 := p63e [] (kz_0 rfl); rw [gvC_cg (show Fr fm_207_49_2 s (sF (sF (sF (sF s29 49 8 u_2_0) 49 9 x2) 49 10 x3) 49 11 (Int32.ofInt 0)) from fr_sF rfl (fr_sF rfl (fr_sF rfl (fr_sF rfl (fr_tr rfl fr_rf hF29))))) rfl] at h9; exact h9) (congrArg Int32.toInt (hF77.2.2.1 49 11 rfl)) (fun _ => ⟨p77, p77a⟩)
        exact g_return (gd rfl) rfl (hP _ _ ⟨s77, hI77, (fr_tr rfl (fr_tr rfl (fr_sF rfl (fr_sF rfl (fr_sF rfl (fr_sF rfl (fr_tr rfl fr_rf hF29))))) hF63) hF77), rfl, rfl, n80, n80a⟩)
    · skip
      refine g_aload_n 20 (gd rfl) rfl rfl ?_
      refine g_getI 23 (gd rfl) rfl rfl rfl (fun z20 e20 => ?_)
      have i20 := inv_F hI 0 31 rfl e20
      refine g_iload_n 24 (gd rfl) rfl rfl ?_
      refine g_cmp_ne 27 28 (gd rfl) rfl rfl (fun c24 => ?_) (fun c24 => ?_)
      · skip
        refine g_aload_n 29 (gd rfl) rfl rfl ?_
        refine g_callv (X := _) (As := []) (r := []) (b := A 2) (q := 2) 32 (gd rfl) rfl rfl rfl rfl rfl (ww_o rfl) (Nat.le_of_ble_eq_true rfl) (Nat.zero_le _) (Nat.zero_le _) (k_106_2 (by first | exact dq1 hd rfl | exact dq0 hd rfl | exact dq2 hd rfl | exact dq3 hd rfl | omega) hI ) (fun e u h => h) (fun v u h => ?_)
        obtain ⟨s29, hI29, hF29, n29, rfl, rfl⟩ := h
        obtain ⟨z29a, e29⟩ : ∃ w, w = s29.2.2.1 2 4 := ⟨_, rfl⟩
        have i29a := inv_F hI29 (-1) 4000 rfl e29
        rw [← (show z29a = s29.2.2.1 2 4 from e29)] at n29
        rw [← (show u_2_0 = s29.2.2.1 2 0 from fr_F (e_2_0) hF29 rfl)] at n29
        show GG _ _ _ _ _ _ _ _ [] _ _ _
        refine g_aload_n 33 (gd rfl) rfl rfl ?_
        refine g_aload_n 34 (gd rfl) rfl rfl ?_
        refine g_getI 37 (gd rfl) rfl rfl rfl (fun z34 e34 => ?_)
        have q34 : u_2_0 = z34 := (fr_F (e_2_0) hF29 rfl).trans e34.symm
        subst q34
        refine g_putI 40 (gd rfl) rfl rfl rfl rfl ?_
        have hI37 := inv_sF (q := 49) (j := 8) hI29 rfl (in_w (-1) 4000 ro_2_0 rfl)
        refine g_aload_n 41 (gd rfl) rfl rfl ?_
        refine g_iload_n 42 (gd rfl) rfl rfl ?_
        refine g_putI 45 (gd rfl) rfl rfl rfl rfl ?_
        have hI42 := inv_sF (q := 49) (j := 9) hI37 rfl (in_w 0 31 h2 rfl)
        refine g_aload_n 46 (gd rfl) rfl rfl ?_
        refine g_iload_n 47 (gd rfl) rfl rfl ?_
        refine g_putI 50 (gd rfl) rfl rfl rfl rfl ?_
        have hI47 := inv_sF (q := 49) (j := 10) hI42 rfl (in_w 0 31 h3 rfl)
        refine g_aload_n 51 (gd rfl) rfl rfl ?_
        refine g_iconst 0 52 (gd rfl) rfl rfl ?_
        refine g_putI 55 (gd rfl) rfl rfl rfl rfl ?_
        have hI52 := inv_sF (q := 49) (j := 11) hI47 rfl (in_w 0 2001 (in_c 0 rfl) rfl)
        refine g_aload_n 56 (gd rfl) rfl rfl ?_
        refine g_aload_n 57 (gd rfl) rfl rfl ?_
        refine g_iload_n 58 (gd rfl) rfl rfl ?_
        refine g_iconst 1 59 (gd rfl) rfl rfl ?_
        refine g_iload_n 60 (gd rfl) rfl rfl ?_
        refine g_ishl 61 (gd rfl) rfl (fun z60 e60 => ?_)
        refine g_iconst 0 62 (gd rfl) rfl rfl ?_
        refine g_lconst 0 63 (gd rfl) rfl rfl ?_
        have p63 : TQ (sF (sF (sF (sF s29 49 8 u_2_0) 49 9 x2) 49 10 x3) 49 11 (Int32.ofInt 0)) := by exact tq_fr q_0 (show Fr fm_207_49_2 s (sF (sF (sF (sF s29 49 8 u_2_0) 49 9 x2) 49 10 x3) 49 11 (Int32.ofInt 0)) from (fr_sF rfl (fr_sF rfl (fr_sF rfl (fr_sF rfl (fr_tr rfl fr_rf hF29)))))) rfl
        have p63a : ((((sF (sF (sF (sF s29 49 8 u_2_0) 49 9 x2) 49 10 x3) 49 11 (Int32.ofInt 0))).2.2.1 2 4).toInt = (((sF (sF (sF (sF s29 49 8 u_2_0) 49 9 x2) 49 10 x3) 49 11 (Int32.ofInt 0))).2.2.1 2 0).toInt) := by exact (by show (s29.2.2.1 2 4).toInt = (s29.2.2.1 2 0).toInt; rw [← (show z29a = s29.2.2.1 2 4 from e29), ← (show u_2_0 = s29.2.2.1 2 0 from fr_F (e_2_0) hF29 rfl)]; exact n29)
        have p63b : NDQ (gvC (sF (sF (sF (sF s29 49 8 u_2_0) 49 9 x2) 49 10 x3) 49 11 (Int32.ofInt 0))) := by rw [gvC_cg (show Fr fm_207_49_2 s (sF (sF (sF (sF s29 49 8 u_2_0) 49 9 x2) 49 10 x3) 49 11 (Int32.ofInt 0)) from (fr_sF rfl (fr_sF rfl (fr_sF rfl (fr_sF rfl (fr_tr rfl fr_rf hF29)))))) rfl]; exact q_1
        have p63c : KBD ((Int64.ofInt 0)).toInt ((Int32.ofInt 0)).toInt := by show KBD 0 0; unfold KBD; omega
        refine g_callv (X := _) (As := [.ref (A 2), .int x2, .int z60, .int (Int32.ofInt 0), .long (Int64.ofInt 0)]) (r := []) (b := A 49) (q := 49) 66 (gd rfl) rfl rfl rfl rfl rfl (ww_o rfl) (Nat.le_of_ble_eq_true rfl) (Nat.zero_le _) (Nat.zero_le _) (f_208_49_2 (by first | exact dq1 hd rfl | exact dq0 hd rfl | exact dq2 hd rfl | exact dq3 hd rfl | omega) hI52 (in_w 0 31 h2 rfl) (in_w 0 4 (in_c 0 rfl) rfl) p63 p63a p63b p63c) (fun e u h => h) (fun v u h => ?_)
        obtain ⟨s63, hI63, hF63, rfl, rfl, p63d, p63e⟩ := h
        show GG _ _ _ _ _ _ _ _ [] _ _ _
        refine g_aload_n 67 (gd rfl) rfl rfl ?_
        refine g_getI 70 (gd rfl) rfl rfl rfl (fun z67 e67 => ?_)
        have i67 := inv_F hI63 0 2001 rfl e67
        refine g_sipush 2000 73 (gd rfl) rfl rfl ?_
        refine g_cmp_gt 76 80 (gd rfl) rfl rfl (fun c73 => ?_) (fun c73 => ?_)
        · skip
          have i73 := r_lt2 2001 2001 c73 (in_c 2000 rfl) i67 rfl
          have n80 : (SHG (gvC s) s63 ∧ (s63).2.2.1 49 9 = x2 ∧ (s63).2.2.1 49 10 = x3) := by exact ⟨shg_of (by rw [(((hF63.2.2.1 49 8 rfl).trans (show (sF (sF (sF (sF s29 49 8 u_2_0) 49 9 x2) 49 10 x3) 49 11 (Int32.ofInt 0)).2.2.1 49 8 = u_2_0 from rfl))), e_2_0]; rfl) (((hF63.2.2.1 49 9 rfl).trans (show (sF (sF (sF (sF s29 49 8 u_2_0) 49 9 x2) 49 10 x3) 49 11 (Int32.ofInt 0)).2.2.1 49 9 = x2 from rfl))) (((hF63.2.2.1 49 10 rfl).trans (show (sF (sF (sF (sF s29 49 8 u_2_0) 49 9 x2) 49 10 x3) 49 11 (Int32.ofInt 0)).2.2.1 49 10 = x3 from rfl))) h2 h3 e60 (by have h9 := p63d; rw [gvC_cg (show Fr fm_207_49_2 s (sF (sF (sF (sF s29 49 8 u_2_0) 49 9 x2) 49 10 x3) 49 11 (Int32.ofInt 0)) from fr_sF rfl (fr_sF rfl (fr_sF rfl (fr_sF rfl (fr_tr rfl fr_rf hF29))))) rfl] at h9; exact h9), (((hF63.2.2.1 49 9 rfl).trans (show (sF (sF (sF (sF s29 49 8 u_2_0) 49 9 x2) 49 10 x3) 49 11 (Int32.ofInt 0)).2.2.1 49 9 = x2 from rfl))), (((hF63.2.2.1 49 10 rfl).trans (show (sF (sF (sF (sF s29 49 8 u_2_0) 49 9 x2) 49 10 x3) 49 11 (Int32.ofInt 0)).2.2.1 49 10 = x3 from rfl)))⟩
          have n80a : KSG (gvC s) s63 := by exact ksg_of (m := z60) (f := s63.2.1 55) (c := (s63.2.2.1 49 11).toInt) (((hF63.2.2.1 49 9 rfl).trans (show (sF (sF (sF (sF s29 49 8 u_2_0) 49 9 x2) 49 10 x3) 49 11 (Int32.ofInt 0)).2.2.1 49 9 = x2 from rfl))) (((hF63.2.2.1 49 10 rfl).trans (show (sF (sF (sF (sF s29 49 8 u_2_0) 49 9 x2) 49 10 x3) 49 11 (Int32.ofInt 0)).2.2.1 49 10 = x3 from rfl))) h2 h3 e60 (by have h9 := p63e [] (kz_0 rfl); rw [gvC_cg (show Fr fm_207_49_2 s (sF (sF (sF (sF s29 49 8 u_2_0) 49 9 x2) 49 10 x3) 49 11 (Int32.ofInt 0)) from fr_sF rfl (fr_sF rfl (fr_sF rfl (fr_sF rfl (fr_tr rfl fr_rf hF29))))) rfl] at h9; exact h9) rfl (fun h => absurd h (by rw [← (show z67 = s63.2.2.1 49 11 from e67)]; (first | have a0 := oa5 ro_2_0 h3 h2 i73 i29a | ((first | have a0 := in_u ro_2_0 | (have a0 := ro_2_0; unfold In at a0)); (first | have a1 := in_u h3 | (have a1 := h3; unfold In at a1)); (first | have a2 := in_u h2 | (have a2 := h2; unfold In at a2)); (first | have a3 := in_u i73 | (have a3 := i73; unfold In at a3)); (first | have a4 := in_u i29a | (have a4 := i29a; unfold In at a4)))); have oc := oc_207_49_2; omega))
          exact g_return (gd rfl) rfl (hP _ _ ⟨s63, hI63, (fr_tr rfl (fr_sF rfl (fr_sF rfl (fr_sF rfl (fr_sF rfl (fr_tr rfl fr_rf hF29))))) hF63), rfl, rfl, n80, n80a⟩)
        · skip
          have i73 := r_le1 0 2000 c73 i67 (in_c 2000 rfl) rfl
          refine g_aload_n 77 (gd rfl) rfl rfl ?_
          refine g_callv (X := _) (As := []) (r := []) (b := A 49) (q := 49) 80 (gd rfl) rfl rfl rfl rfl rfl (ww_o rfl) (Nat.le_of_ble_eq_true rfl) (Nat.zero_le _) (Nat.zero_le _) (f_210_49 (by first | exact dq1 hd rfl | exact dq0 hd rfl | exact dq2 hd rfl | exact dq3 hd rfl | omega) hI63 ) (fun e u h => h) (fun v u h => ?_)
          obtain ⟨s77, hI77, hF77, rfl, rfl, p77, p77a⟩ := h
          show GG _ _ _ _ _ _ _ _ [] _ _ _
          have n80 : (SHG (gvC s) s77 ∧ (s77).2.2.1 49 9 = x2 ∧ (s77).2.2.1 49 10 = x3) := by exact ⟨shg_of (by rw [((hF77.2.2.1 49 8 rfl).trans ((hF63.2.2.1 49 8 rfl).trans (show (sF (sF (sF (sF s29 49 8 u_2_0) 49 9 x2) 49 10 x3) 49 11 (Int32.ofInt 0)).2.2.1 49 8 = u_2_0 from rfl))), e_2_0]; rfl) ((hF77.2.2.1 49 9 rfl).trans ((hF63.2.2.1 49 9 rfl).trans (show (sF (sF (sF (sF s29 49 8 u_2_0) 49 9 x2) 49 10 x3) 49 11 (Int32.ofInt 0)).2.2.1 49 9 = x2 from rfl))) ((hF77.2.2.1 49 10 rfl).trans ((hF63.2.2.1 49 10 rfl).trans (show (sF (sF (sF (sF s29 49 8 u_2_0) 49 9 x2) 49 10 x3) 49 11 (Int32.ofInt 0)).2.2.1 49 10 = x3 from rfl))) h2 h3 e60 (by rw [hF77.2.2.1 49 11 rfl]; have h9 := p63d; rw [gvC_cg (show Fr fm_207_49_2 s (sF (sF (sF (sF s29 49 8 u_2_0) 49 9 x2) 49 10 x3) 49 11 (Int32.ofInt 0)) from fr_sF rfl (fr_sF rfl (fr_sF rfl (fr_sF rfl (fr_tr rfl fr_rf hF29))))) rfl] at h9; exact h9), ((hF77.2.2.1 49 9 rfl).trans ((hF63.2.2.1 49 9 rfl).trans (show (sF (sF (sF (sF s29 49 8 u_2_0) 49 9 x2) 49 10 x3) 49 11 (Int32.ofInt 0)).2.2.1 49 9 = x2 from rfl))), ((hF77.2.2.1 49 10 rfl).trans ((hF63.2.2.1 49 10 rfl).trans (show (sF (sF (sF (sF s29 49 8 u_2_0) 49 9 x2) 49 10 x3) 49 11 (Int32.ofInt 0)).2.2.1 49 10 = x3 from rfl)))⟩
          have n80a : KSG (gvC s) s77 := by exact ksg_of (m := z60) (f := s63.2.1 55) (c := (s63.2.2.1 49 11).toInt) ((hF77.2.2.1 49 9 rfl).trans ((hF63.2.2.1 49 9 rfl).trans (show (sF (sF (sF (sF s29 49 8 u_2_0) 49 9 x2) 49 10 x3) 49 11 (Int32.ofInt 0)).2.2.1 49 9 = x2 from rfl))) ((hF77.2.2.1 49 10 rfl).trans ((hF63.2.2.1 49 10 rfl).trans (show (sF (sF (sF (sF s29 49 8 u_2_0) 49 9 x2) 49 10 x3) 49 11 (Int32.ofInt 0)).2.2.1 49 10 = x3 from rfl))) h2 h3 e60 (by have h9 := p63e [] (kz_0 rfl); rw [gvC_cg (show Fr fm_207_49_2 s (sF (sF (sF (sF s29 49 8 u_2_0) 49 9 x2) 49 10 x3) 49 11 (Int32.ofInt 0)) from fr_sF rfl (fr_sF rfl (fr_sF rfl (fr_sF rfl (fr_tr rfl fr_rf hF29))))) rfl] at h9; exact h9) (congrArg Int32.toInt (hF77.2.2.1 49 11 rfl)) (fun _ => ⟨p77, p77a⟩)
          exact g_return (gd rfl) rfl (hP _ _ ⟨s77, hI77, (fr_tr rfl (fr_tr rfl (fr_sF rfl (fr_sF rfl (fr_sF rfl (fr_sF rfl (fr_tr rfl fr_rf hF29))))) hF63) hF77), rfl, rfl, n80, n80a⟩)
      · skip
        have n27 : (SHG (gvC s) s ∧ (s).2.2.1 49 9 = x2 ∧ (s).2.2.1 49 10 = x3) := by exact ⟨⟨(by show (s.2.2.1 49 8).toInt = (s.2.2.1 2 0).toInt; rw [← e1, ← e_2_0]; exact c8), q_2 (by show (s.2.2.1 49 8).toInt = (s.2.2.1 2 0).toInt; rw [← e1, ← e_2_0]; exact c8)⟩, (show s.2.2.1 49 9 = x2 from i_eq.mpr (by rw [← e12]; exact c16)), (show s.2.2.1 49 10 = x3 from i_eq.mpr (by rw [← e20]; exact c24))⟩
        have n27a : KSG (gvC s) s := by exact q_3 (by show (s.2.2.1 49 8).toInt = (s.2.2.1 2 0).toInt; rw [← e1, ← e_2_0]; exact c8)
        exact g_return (gd rfl) rfl (hP _ _ ⟨s, hI, fr_rf, rfl, rfl, n27, n27a⟩)

theorem oc_207_49_32 : (Int32.ofInt (-1)).toInt = (-1) ∧ (Int32.ofInt 0).toInt = 0 ∧ (Int32.ofInt 1).toInt = 1 ∧ (Int32.ofInt 2000).toInt = 2000 ∧ (Int64.ofInt 0).toInt = 0 := ⟨rfl, rfl, rfl, rfl, rfl⟩
/-- GraphHouse$Ways.collect -/
theorem f_207_49_32 {Z : AmZ} {A : Nat → Nat} {s : GS} {ex : va_W} {d : Nat} {X : AmX} {x2 : Int32} {x3 : Int32} (hd : 22 ≤ d) (hI : Inv s) (h2 : In x2 0 31) (h3 : In x3 0 31) (q_0 : TQD s) (q_1 : NDQ (gvD s)) (q_2 : SHB (gvD s) s) (q_3 : KSB (gvD s) s) : GC Z d 207 [.ref (A 49), .ref (A 32), .int x2, .int x3] (WW Z A s ++ ex) 0 0 (fun v u => ∃ t : GS, Inv t ∧ Fr fm_207_49_32 s t ∧ v = none ∧ u = WW Z A t ++ ex ∧ ((SHG (gvD s) t ∧ (t).2.2.1 49 9 = x2 ∧ (t).2.2.1 49 10 = x3)) ∧ (KSG (gvD s) t)) X := by
  intro post xp hP hX
  obtain ⟨u_32_0, e_32_0⟩ : ∃ w, w = s.2.2.1 32 0 := ⟨_, rfl⟩
  have ro_32_0 := inv_F hI 0 4000 rfl e_32_0
  refine g_enter2 (k := 207) (N := 900) (by first | exact dq1 hd rfl | exact dq0 hd rfl | exact dq2 hd rfl | exact dq3 hd rfl | omega) rfl (Nat.le_of_ble_eq_true rfl) ?_
  refine g_aload_n 1 (gd rfl) rfl rfl ?_
  refine g_getI 4 (gd rfl) rfl rfl rfl (fun z1 e1 => ?_)
  have i1 := inv_F hI (-1) 4000 rfl e1
  refine g_aload_n 5 (gd rfl) rfl rfl ?_
  refine g_getI 8 (gd rfl) rfl rfl rfl (fun z5 e5 => ?_)
  have q5 : u_32_0 = z5 := (e_32_0).trans e5.symm
  subst q5
  refine g_cmp_ne 11 28 (gd rfl) rfl rfl (fun c8 => ?_) (fun c8 => ?_)
  · skip
    refine g_aload_n 29 (gd rfl) rfl rfl ?_
    refine g_callv (X := _) (As := []) (r := []) (b := A 32) (q := 32) 32 (gd rfl) rfl rfl rfl rfl rfl (ww_o rfl) (Nat.le_of_ble_eq_true rfl) (Nat.zero_le _) (Nat.zero_le _) (k_106_32 (by first | exact dq1 hd rfl | exact dq0 hd rfl | exact dq2 hd rfl | exact dq3 hd rfl | omega) hI ) (fun e u h => h) (fun v u h => ?_)
    obtain ⟨s29, hI29, hF29, n29, rfl, rfl⟩ := h
    obtain ⟨z29a, e29⟩ : ∃ w, w = s29.2.2.1 32 4 := ⟨_, rfl⟩
    have i29a := inv_F hI29 (-1) 4000 rfl e29
    rw [← (show z29a = s29.2.2.1 32 4 from e29)] at n29
    rw [← (show u_32_0 = s29.2.2.1 32 0 from fr_F (e_32_0) hF29 rfl)] at n29
    show GG _ _ _ _ _ _ _ _ [] _ _ _
    refine g_aload_n 33 (gd rfl) rfl rfl ?_
    refine g_aload_n 34 (gd rfl) rfl rfl ?_
    refine g_getI 37 (gd rfl) rfl rfl rfl (fun z34 e34 => ?_)
    have q34 : u_32_0 = z34 := (fr_F (e_32_0) hF29 rfl).trans e34.symm
    subst q34
    refine g_putI 40 (gd rfl) rfl rfl rfl rfl ?_
    have hI37 := inv_sF (q := 49) (j := 8) hI29 rfl (in_w (-1) 4000 ro_32_0 rfl)
    refine g_aload_n 41 (gd rfl) rfl rfl ?_
    refine g_iload_n 42 (gd rfl) rfl rfl ?_
    refine g_putI 45 (gd rfl) rfl rfl rfl rfl ?_
    have hI42 := inv_sF (q := 49) (j := 9) hI37 rfl (in_w 0 31 h2 rfl)
    refine g_aload_n 46 (gd rfl) rfl rfl ?_
    refine g_iload_n 47 (gd rfl) rfl rfl ?_
    refine g_putI 50 (gd rfl) rfl rfl rfl rfl ?_
    have hI47 := inv_sF (q := 49) (j := 10) hI42 rfl (in_w 0 31 h3 rfl)
    refine g_aload_n 51 (gd rfl) rfl rfl ?_
    refine g_iconst 0 52 (gd rfl) rfl rfl ?_
    refine g_putI 55 (gd rfl) rfl rfl rfl rfl ?_
    have hI52 := inv_sF (q := 49) (j := 11) hI47 rfl (in_w 0 2001 (in_c 0 rfl) rfl)
    refine g_aload_n 56 (gd rfl) rfl rfl ?_
    refine g_aload_n 57 (gd rfl) rfl rfl ?_
    refine g_iload_n 58 (gd rfl) rfl rfl ?_
    refine g_iconst 1 59 (gd rfl) rfl rfl ?_
    refine g_iload_n 60 (gd rfl) rfl rfl ?_
    refine g_ishl 61 (gd rfl) rfl (fun z60 e60 => ?_)
    refine g_iconst 0 62 (gd rfl) rfl rfl ?_
    refine g_lconst 0 63 (gd rfl) rfl rfl ?_
    have p63 : TQD (sF (sF (sF (sF s29 49 8 u_32_0) 49 9 x2) 49 10 x3) 49 11 (Int32.ofInt 0)) := by exact tqd_fr q_0 (show Fr fm_207_49_32 s (sF (sF (sF (sF s29 49 8 u_32_0) 49 9 x2) 49 10 x3) 49 11 (Int32.ofInt 0)) from (fr_sF rfl (fr_sF rfl (fr_sF rfl (fr_sF rfl (fr_tr rfl fr_rf hF29)))))) rfl
    have p63a : ((((sF (sF (sF (sF s29 49 8 u_32_0) 49 9 x2) 49 10 x3) 49 11 (Int32.ofInt 0))).2.2.1 32 4).toInt = (((sF (sF (sF (sF s29 49 8 u_32_0) 49 9 x2) 49 10 x3) 49 11 (Int32.ofInt 0))).2.2.1 32 0).toInt) := by exact (by show (s29.2.2.1 32 4).toInt = (s29.2.2.1 32 0).toInt; rw [← (show z29a = s29.2.2.1 32 4 from e29), ← (show u_32_0 = s29.2.2.1 32 0 from fr_F (e_32_0) hF29 rfl)]; exact n29)
    have p63b : NDQ (gvD (sF (sF (sF (sF s29 49 8 u_32_0) 49 9 x2) 49 10 x3) 49 11 (Int32.ofInt 0))) := by rw [gvD_fr (show Fr fm_207_49_32 s (sF (sF (sF (sF s29 49 8 u_32_0) 49 9 x2) 49 10 x3) 49 11 (Int32.ofInt 0)) from (fr_sF rfl (fr_sF rfl (fr_sF rfl (fr_sF rfl (fr_tr rfl fr_rf hF29)))))) rfl]; exact q_1
    have p63c : KBD ((Int64.ofInt 0)).toInt ((Int32.ofInt 0)).toInt := by show KBD 0 0; unfold KBD; omega
    refine g_callv (X := _) (As := [.ref (A 32), .int x2, .int z60, .int (Int32.ofInt 0), .long (Int64.ofInt 0)]) (r := []) (b := A 49) (q := 49) 66 (gd rfl) rfl rfl rfl rfl rfl (ww_o rfl) (Nat.le_of_ble_eq_true rfl) (Nat.zero_le _) (Nat.zero_le _) (f_208_49_32 (by first | exact dq1 hd rfl | exact dq0 hd rfl | exact dq2 hd rfl | exact dq3 hd rfl | omega) hI52 (in_w 0 31 h2 rfl) (in_w 0 4 (in_c 0 rfl) rfl) p63 p63a p63b p63c) (fun e u h => h) (fun v u h => ?_)
    obtain ⟨s63, hI63, hF63, rfl, rfl, p63d, p63e⟩ := h
    show GG _ _ _ _ _ _ _ _ [] _ _ _
    refine g_aload_n 67 (gd rfl) rfl rfl ?_
    refine g_getI 70 (gd rfl) rfl rfl rfl (fun z67 e67 => ?_)
    have i67 := inv_F hI63 0 2001 rfl e67
    refine g_sipush 2000 73 (gd rfl) rfl rfl ?_
    refine g_cmp_gt 76 80 (gd rfl) rfl rfl (fun c73 => ?_) (fun c73 => ?_)
    · skip
      have i73 := r_lt2 2001 2001 c73 (in_c 2000 rfl) i67 rfl
      have n80 : (SHG (gvD s) s63 ∧ (s63).2.2.1 49 9 = x2 ∧ (s63).2.2.1 49 10 = x3) := by exact ⟨shg_of (by rw [(((hF63.2.2.1 49 8 rfl).trans (show (sF (sF (sF (sF s29 49 8 u_32_0) 49 9 x2) 49 10 x3) 49 11 (Int32.ofInt 0)).2.2.1 49 8 = u_32_0 from rfl))), e_32_0]; rfl) (((hF63.2.2.1 49 9 rfl).trans (show (sF (sF (sF (sF s29 49 8 u_32_0) 49 9 x2) 49 10 x3) 49 11 (Int32.ofInt 0)).2.2.1 49 9 = x2 from rfl))) (((hF63.2.2.1 49 10 rfl).trans (show (sF (sF (sF (sF s29 49 8 u_32_0) 49 9 x2) 49 10 x3) 49 11 (Int32.ofInt 0)).2.2.1 49 10 = x3 from rfl))) h2 h3 e60 (by have h9 := p63d; rw [gvD_fr (show Fr fm_207_49_32 s (sF (sF (sF (sF s29 49 8 u_32_0) 49 9 x2) 49 10 x3) 49 11 (Int32.ofInt 0)) from fr_sF rfl (fr_sF rfl (fr_sF rfl (fr_sF rfl (fr_tr rfl fr_rf hF29))))) rfl] at h9; exact h9), (((hF63.2.2.1 49 9 rfl).trans (show (sF (sF (sF (sF s29 49 8 u_32_0) 49 9 x2) 49 10 x3) 49 11 (Int32.ofInt 0)).2.2.1 49 9 = x2 from rfl))), (((hF63.2.2.1 49 10 rfl).trans (show (sF (sF (sF (sF s29 49 8 u_32_0) 49 9 x2) 49 10 x3) 49 11 (Int32.ofInt 0)).2.2.1 49 10 = x3 from rfl)))⟩
      have n80a : KSG (gvD s) s63 := by exact ksg_of (m := z60) (f := s63.2.1 55) (c := (s63.2.2.1 49 11).toInt) (((hF63.2.2.1 49 9 rfl).trans (show (sF (sF (sF (sF s29 49 8 u_32_0) 49 9 x2) 49 10 x3) 49 11 (Int32.ofInt 0)).2.2.1 49 9 = x2 from rfl))) (((hF63.2.2.1 49 10 rfl).trans (show (sF (sF (sF (sF s29 49 8 u_32_0) 49 9 x2) 49 10 x3) 49 11 (Int32.ofInt 0)).2.2.1 49 10 = x3 from rfl))) h2 h3 e60 (by have h9 := p63e [] (kz_0 rfl); rw [gvD_fr (show Fr fm_207_49_32 s (sF (sF (sF (sF s29 49 8 u_32_0) 49 9 x2) 49 10 x3) 49 11 (Int32.ofInt 0)) from fr_sF rfl (fr_sF rfl (fr_sF rfl (fr_sF rfl (fr_tr rfl fr_rf hF29))))) rfl] at h9; exact h9) rfl (fun h => absurd h (by rw [← (show z67 = s63.2.2.1 49 11 from e67)]; (first | have a0 := oa5 ro_32_0 h3 h2 i73 i29a | ((first | have a0 := in_u ro_32_0 | (have a0 := ro_32_0; unfold In at a0)); (first | have a1 := in_u h3 | (have a1 := h3; unfold In at a1)); (first | have a2 := in_u h2 | (have a2 := h2; unfold In at a2)); (first | have a3 := in_u i73 | (have a3 := i73; unfold In at a3)); (first | have a4 := in_u i29a | (have a4 := i29a; unfold In at a4)))); have oc := oc_207_49_32; omega))
      exact g_return (gd rfl) rfl (hP _ _ ⟨s63, hI63, (fr_tr rfl (fr_sF rfl (fr_sF rfl (fr_sF rfl (fr_sF rfl (fr_tr rfl fr_rf hF29))))) hF63), rfl, rfl, n80, n80a⟩)
    · skip
      have i73 := r_le1 0 2000 c73 i67 (in_c 2000 rfl) rfl
      refine g_aload_n 77 (gd rfl) rfl rfl ?_
      refine g_callv (X := _) (As := []) (r := []) (b := A 49) (q := 49) 80 (gd rfl) rfl rfl rfl rfl rfl (ww_o rfl) (Nat.le_of_ble_eq_true rfl) (Nat.zero_le _) (Nat.zero_le _) (f_210_49 (by first | exact dq1 hd rfl | exact dq0 hd rfl | exact dq2 hd rfl | exact dq3 hd rfl | omega) hI63 ) (fun e u h => h) (fun v u h => ?_)
      obtain ⟨s77, hI77, hF77, rfl, rfl, p77, p77a⟩ := h
      show GG _ _ _ _ _ _ _ _ [] _ _ _
      have n80 : (SHG (gvD s) s77 ∧ (s77).2.2.1 49 9 = x2 ∧ (s77).2.2.1 49 10 = x3) := by exact ⟨shg_of (by rw [((hF77.2.2.1 49 8 rfl).trans ((hF63.2.2.1 49 8 rfl).trans (show (sF (sF (sF (sF s29 49 8 u_32_0) 49 9 x2) 49 10 x3) 49 11 (Int32.ofInt 0)).2.2.1 49 8 = u_32_0 from rfl))), e_32_0]; rfl) ((hF77.2.2.1 49 9 rfl).trans ((hF63.2.2.1 49 9 rfl).trans (show (sF (sF (sF (sF s29 49 8 u_32_0) 49 9 x2) 49 10 x3) 49 11 (Int32.ofInt 0)).2.2.1 49 9 = x2 from rfl))) ((hF77.2.2.1 49 10 rfl).trans ((hF63.2.2.1 49 10 rfl).trans (show (sF (sF (sF (sF s29 49 8 u_32_0) 49 9 x2) 49 10 x3) 49 11 (Int32.ofInt 0)).2.2.1 49 10 = x3 from rfl))) h2 h3 e60 (by rw [hF77.2.2.1 49 11 rfl]; have h9 := p63d; rw [gvD_fr (show Fr fm_207_49_32 s (sF (sF (sF (sF s29 49 8 u_32_0) 49 9 x2) 49 10 x3) 49 11 (Int32.ofInt 0)) from fr_sF rfl (fr_sF rfl (fr_sF rfl (fr_sF rfl (fr_tr rfl fr_rf hF29))))) rfl] at h9; exact h9), ((hF77.2.2.1 49 9 rfl).trans ((hF63.2.2.1 49 9 rfl).trans (show (sF (sF (sF (sF s29 49 8 u_32_0) 49 9 x2) 49 10 x3) 49 11 (Int32.ofInt 0)).2.2.1 49 9 = x2 from rfl))), ((hF77.2.2.1 49 10 rfl).trans ((hF63.2.2.1 49 10 rfl).trans (show (sF (sF (sF (sF s29 49 8 u_32_0) 49 9 x2) 49 10 x3) 49 11 (Int32.ofInt 0)).2.2.1 49 10 = x3 from rfl)))⟩
      have n80a : KSG (gvD s) s77 := by exact ksg_of (m := z60) (f := s63.2.1 55) (c := (s63.2.2.1 49 11).toInt) ((hF77.2.2.1 49 9 rfl).trans ((hF63.2.2.1 49 9 rfl).trans (show (sF (sF (sF (sF s29 49 8 u_32_0) 49 9 x2) 49 10 x3) 49 11 (Int32.ofInt 0)).2.2.1 49 9 = x2 from rfl))) ((hF77.2.2.1 49 10 rfl).trans ((hF63.2.2.1 49 10 rfl).trans (show (sF (sF (sF (sF s29 49 8 u_32_0) 49 9 x2) 49 10 x3) 49 11 (Int32.ofInt 0)).2.2.1 49 10 = x3 from rfl))) h2 h3 e60 (by have h9 := p63e [] (kz_0 rfl); rw [gvD_fr (show Fr fm_207_49_32 s (sF (sF (sF (sF s29 49 8 u_32_0) 49 9 x2) 49 10 x3) 49 11 (Int32.ofInt 0)) from fr_sF rfl (fr_sF rfl (fr_sF rfl (fr_sF rfl (fr_tr rfl fr_rf hF29))))) rfl] at h9; exact h9) (congrArg Int32.toInt (hF77.2.2.1 49 11 rfl)) (fun _ => ⟨p77, p77a⟩)
      exact g_return (gd rfl) rfl (hP _ _ ⟨s77, hI77, (fr_tr rfl (fr_tr rfl (fr_sF rfl (fr_sF rfl (fr_sF rfl (fr_sF rfl (fr_tr rfl fr_rf hF29))))) hF63) hF77), rfl, rfl, n80, n80a⟩)
  · skip
    have i8 := r_eq1 0 4000 c8 i1 ro_32_0 rfl
    refine g_aload_n 12 (gd rfl) rfl rfl ?_
    refine g_getI 15 (gd rfl) rfl rfl rfl (fun z12 e12 => ?_)
    have i12 := inv_F hI 0 31 rfl e12
    refine g_iload_n 16 (gd rfl) rfl rfl ?_
    refine g_cmp_ne 19 28 (gd rfl) rfl rfl (fun c16 => ?_) (fun c16 => ?_)
    · skip
      refine g_aload_n 29 (gd rfl) rfl rfl ?_
      refine g_callv (X := _) (As := []) (r := []) (b := A 32) (q := 32) 32 (gd rfl) rfl rfl rfl rfl rfl (ww_o rfl) (Nat.le_of_ble_eq_true rfl) (Nat.zero_le _) (Nat.zero_le _) (k_106_32 (by first | exact dq1 hd rfl | exact dq0 hd rfl | exact dq2 hd rfl | exact dq3 hd rfl | omega) hI ) (fun e u h => h) (fun v u h => ?_)
      obtain ⟨s29, hI29, hF29, n29, rfl, rfl⟩ := h
      obtain ⟨z29a, e29⟩ : ∃ w, w = s29.2.2.1 32 4 := ⟨_, rfl⟩
      have i29a := inv_F hI29 (-1) 4000 rfl e29
      rw [← (show z29a = s29.2.2.1 32 4 from e29)] at n29
      rw [← (show u_32_0 = s29.2.2.1 32 0 from fr_F (e_32_0) hF29 rfl)] at n29
      show GG _ _ _ _ _ _ _ _ [] _ _ _
      refine g_aload_n 33 (gd rfl) rfl rfl ?_
      refine g_aload_n 34 (gd rfl) rfl rfl ?_
      refine g_getI 37 (gd rfl) rfl rfl rfl (fun z34 e34 => ?_)
      have q34 : u_32_0 = z34 := (fr_F (e_32_0) hF29 rfl).trans e34.symm
      subst q34
      refine g_putI 40 (gd rfl) rfl rfl rfl rfl ?_
      have hI37 := inv_sF (q := 49) (j := 8) hI29 rfl (in_w (-1) 4000 ro_32_0 rfl)
      refine g_aload_n 41 (gd rfl) rfl rfl ?_
      refine g_iload_n 42 (gd rfl) rfl rfl ?_
      refine g_putI 45 (gd rfl) rfl rfl rfl rfl ?_
      have hI42 := inv_sF (q := 49) (j := 9) hI37 rfl (in_w 0 31 h2 rfl)
      refine g_aload_n 46 (gd rfl) rfl rfl ?_
      refine g_iload_n 47 (gd rfl) rfl rfl ?_
      refine g_putI 50 (gd rfl) rfl rfl rfl rfl ?_
      have hI47 := inv_sF (q := 49) (j := 10) hI42 rfl (in_w 0 31 h3 rfl)
      refine g_aload_n 51 (gd rfl) rfl rfl ?_
      refine g_iconst 0 52 (gd rfl) rfl rfl ?_
      refine g_putI 55 (gd rfl) rfl rfl rfl rfl ?_
      have hI52 := inv_sF (q := 49) (j := 11) hI47 rfl (in_w 0 2001 (in_c 0 rfl) rfl)
      refine g_aload_n 56 (gd rfl) rfl rfl ?_
      refine g_aload_n 57 (gd rfl) rfl rfl ?_
      refine g_iload_n 58 (gd rfl) rfl rfl ?_
      refine g_iconst 1 59 (gd rfl) rfl rfl ?_
      refine g_iload_n 60 (gd rfl) rfl rfl ?_
      refine g_ishl 61 (gd rfl) rfl (fun z60 e60 => ?_)
      refine g_iconst 0 62 (gd rfl) rfl rfl ?_
      refine g_lconst 0 63 (gd rfl) rfl rfl ?_
      have p63 : TQD (sF (sF (sF (sF s29 49 8 u_32_0) 49 9 x2) 49 10 x3) 49 11 (Int32.ofInt 0)) := by exact tqd_fr q_0 (show Fr fm_207_49_32 s (sF (sF (sF (sF s29 49 8 u_32_0) 49 9 x2) 49 10 x3) 49 11 (Int32.ofInt 0)) from (fr_sF rfl (fr_sF rfl (fr_sF rfl (fr_sF rfl (fr_tr rfl fr_rf hF29)))))) rfl
      have p63a : ((((sF (sF (sF (sF s29 49 8 u_32_0) 49 9 x2) 49 10 x3) 49 11 (Int32.ofInt 0))).2.2.1 32 4).toInt = (((sF (sF (sF (sF s29 49 8 u_32_0) 49 9 x2) 49 10 x3) 49 11 (Int32.ofInt 0))).2.2.1 32 0).toInt) := by exact (by show (s29.2.2.1 32 4).toInt = (s29.2.2.1 32 0).toInt; rw [← (show z29a = s29.2.2.1 32 4 from e29), ← (show u_32_0 = s29.2.2.1 32 0 from fr_F (e_32_0) hF29 rfl)]; exact n29)
      have p63b : NDQ (gvD (sF (sF (sF (sF s29 49 8 u_32_0) 49 9 x2) 49 10 x3) 49 11 (Int32.ofInt 0))) := by rw [gvD_fr (show Fr fm_207_49_32 s (sF (sF (sF (sF s29 49 8 u_32_0) 49 9 x2) 49 10 x3) 49 11 (Int32.ofInt 0)) from (fr_sF rfl (fr_sF rfl (fr_sF rfl (fr_sF rfl (fr_tr rfl fr_rf hF29)))))) rfl]; exact q_1
      have p63c : KBD ((Int64.ofInt 0)).toInt ((Int32.ofInt 0)).toInt := by show KBD 0 0; unfold KBD; omega
      refine g_callv (X := _) (As := [.ref (A 32), .int x2, .int z60, .int (Int32.ofInt 0), .long (Int64.ofInt 0)]) (r := []) (b := A 49) (q := 49) 66 (gd rfl) rfl rfl rfl rfl rfl (ww_o rfl) (Nat.le_of_ble_eq_true rfl) (Nat.zero_le _) (Nat.zero_le _) (f_208_49_32 (by first | exact dq1 hd rfl | exact dq0 hd rfl | exact dq2 hd rfl | exact dq3 hd rfl | omega) hI52 (in_w 0 31 h2 rfl) (in_w 0 4 (in_c 0 rfl) rfl) p63 p63a p63b p63c) (fun e u h => h) (fun v u h => ?_)
      obtain ⟨s63, hI63, hF63, rfl, rfl, p63d, p63e⟩ := h
      show GG _ _ _ _ _ _ _ _ [] _ _ _
      refine g_aload_n 67 (gd rfl) rfl rfl ?_
      refine g_getI 70 (gd rfl) rfl rfl rfl (fun z67 e67 => ?_)
      have i67 := inv_F hI63 0 2001 rfl e67
      refine g_sipush 2000 73 (gd rfl) rfl rfl ?_
      refine g_cmp_gt 76 80 (gd rfl) rfl rfl (fun c73 => ?_) (fun c73 => ?_)
      · skip
        have i73 := r_lt2 2001 2001 c73 (in_c 2000 rfl) i67 rfl
        have n80 : (SHG (gvD s) s63 ∧ (s63).2.2.1 49 9 = x2 ∧ (s63).2.2.1 49 10 = x3) := by exact ⟨shg_of (by rw [(((hF63.2.2.1 49 8 rfl).trans (show (sF (sF (sF (sF s29 49 8 u_32_0) 49 9 x2) 49 10 x3) 49 11 (Int32.ofInt 0)).2.2.1 49 8 = u_32_0 from rfl))), e_32_0]; rfl) (((hF63.2.2.1 49 9 rfl).trans (show (sF (sF (sF (sF s29 49 8 u_32_0) 49 9 x2) 49 10 x3) 49 11 (Int32.ofInt 0)).2.2.1 49 9 = x2 from rfl))) (((hF63.2.2.1 49 10 rfl).trans (show (sF (sF (sF (sF s29 49 8 u_32_0) 49 9 x2) 49 10 x3) 49 11 (Int32.ofInt 0)).2.2.1 49 10 = x3 from rfl))) h2 h3 e60 (by have h9 := p63d; rw [gvD_fr (show Fr fm_207_49_32 s (sF (sF (sF (sF s29 49 8 u_32_0) 49 9 x2) 49 10 x3) 49 11 (Int32.ofInt 0)) from fr_sF rfl (fr_sF rfl (fr_sF rfl (fr_sF rfl (fr_tr rfl fr_rf hF29))))) rfl] at h9; exact h9), (((hF63.2.2.1 49 9 rfl).trans (show (sF (sF (sF (sF s29 49 8 u_32_0) 49 9 x2) 49 10 x3) 49 11 (Int32.ofInt 0)).2.2.1 49 9 = x2 from rfl))), (((hF63.2.2.1 49 10 rfl).trans (show (sF (sF (sF (sF s29 49 8 u_32_0) 49 9 x2) 49 10 x3) 49 11 (Int32.ofInt 0)).2.2.1 49 10 = x3 from rfl)))⟩
        have n80a : KSG (gvD s) s63 := by exact ksg_of (m := z60) (f := s63.2.1 55) (c := (s63.2.2.1 49 11).toInt) (((hF63.2.2.1 49 9 rfl).trans (show (sF (sF (sF (sF s29 49 8 u_32_0) 49 9 x2) 49 10 x3) 49 11 (Int32.ofInt 0)).2.2.1 49 9 = x2 from rfl))) (((hF63.2.2.1 49 10 rfl).trans (show (sF (sF (sF (sF s29 49 8 u_32_0) 49 9 x2) 49 10 x3) 49 11 (Int32.ofInt 0)).2.2.1 49 10 = x3 from rfl))) h2 h3 e60 (by have h9 := p63e [] (kz_0 rfl); rw [gvD_fr (show Fr fm_207_49_32 s (sF (sF (sF (sF s29 49 8 u_32_0) 49 9 x2) 49 10 x3) 49 11 (Int32.ofInt 0)) from fr_sF rfl (fr_sF rfl (fr_sF rfl (fr_sF rfl (fr_tr rfl fr_rf hF29))))) rfl] at h9; exact h9) rfl (fun h => absurd h (by rw [← (show z67 = s63.2.2.1 49 11 from e67)]; (first | have a0 := oa5 ro_32_0 h3 h2 i73 i29a | ((first | have a0 := in_u ro_32_0 | (have a0 := ro_32_0; unfold In at a0)); (first | have a1 := in_u h3 | (have a1 := h3; unfold In at a1)); (first | have a2 := in_u h2 | (have a2 := h2; unfold In at a2)); (first | have a3 := in_u i73 | (have a3 := i73; unfold In at a3)); (first | have a4 := in_u i29a | (have a4 := i29a; unfold In at a4)))); have oc := oc_207_49_32; omega))
        exact g_return (gd rfl) rfl (hP _ _ ⟨s63, hI63, (fr_tr rfl (fr_sF rfl (fr_sF rfl (fr_sF rfl (fr_sF rfl (fr_tr rfl fr_rf hF29))))) hF63), rfl, rfl, n80, n80a⟩)
      · skip
        have i73 := r_le1 0 2000 c73 i67 (in_c 2000 rfl) rfl
        refine g_aload_n 77 (gd rfl) rfl rfl ?_
        refine g_callv (X := _) (As := []) (r := []) (b := A 49) (q := 49) 80 (gd rfl) rfl rfl rfl rfl rfl (ww_o rfl) (Nat.le_of_ble_eq_true rfl) (Nat.zero_le _) (Nat.zero_le _) (f_210_49 (by first | exact dq1 hd rfl | exact dq0 hd rfl | exact dq2 hd rfl | exact dq3 hd rfl | omega) hI63 ) (fun e u h => h) (fun v u h => ?_)
        obtain ⟨s77, hI77, hF77, rfl, rfl, p77, p77a⟩ := h
        show GG _ _ _ _ _ _ _ _ [] _ _ _
        have n80 : (SHG (gvD s) s77 ∧ (s77).2.2.1 49 9 = x2 ∧ (s77).2.2.1 49 10 = x3) := by exact ⟨shg_of (by rw [((hF77.2.2.1 49 8 rfl).trans ((hF63.2.2.1 49 8 rfl).trans (show (sF (sF (sF (sF s29 49 8 u_32_0) 49 9 x2) 49 10 x3) 49 11 (Int32.ofInt 0)).2.2.1 49 8 = u_32_0 from rfl))), e_32_0]; rfl) ((hF77.2.2.1 49 9 rfl).trans ((hF63.2.2.1 49 9 rfl).trans (show (sF (sF (sF (sF s29 49 8 u_32_0) 49 9 x2) 49 10 x3) 49 11 (Int32.ofInt 0)).2.2.1 49 9 = x2 from rfl))) ((hF77.2.2.1 49 10 rfl).trans ((hF63.2.2.1 49 10 rfl).trans (show (sF (sF (sF (sF s29 49 8 u_32_0) 49 9 x2) 49 10 x3) 49 11 (Int32.ofInt 0)).2.2.1 49 10 = x3 from rfl))) h2 h3 e60 (by rw [hF77.2.2.1 49 11 rfl]; have h9 := p63d; rw [gvD_fr (show Fr fm_207_49_32 s (sF (sF (sF (sF s29 49 8 u_32_0) 49 9 x2) 49 10 x3) 49 11 (Int32.ofInt 0)) from fr_sF rfl (fr_sF rfl (fr_sF rfl (fr_sF rfl (fr_tr rfl fr_rf hF29))))) rfl] at h9; exact h9), ((hF77.2.2.1 49 9 rfl).trans ((hF63.2.2.1 49 9 rfl).trans (show (sF (sF (sF (sF s29 49 8 u_32_0) 49 9 x2) 49 10 x3) 49 11 (Int32.ofInt 0)).2.2.1 49 9 = x2 from rfl))), ((hF77.2.2.1 49 10 rfl).trans ((hF63.2.2.1 49 10 rfl).trans (show (sF (sF (sF (sF s29 49 8 u_32_0) 49 9 x2) 49 10 x3) 49 11 (Int32.ofInt 0)).2.2.1 49 10 = x3 from rfl)))⟩
        have n80a : KSG (gvD s) s77 := by exact ksg_of (m := z60) (f := s63.2.1 55) (c := (s63.2.2.1 49 11).toInt) ((hF77.2.2.1 49 9 rfl).trans ((hF63.2.2.1 49 9 rfl).trans (show (sF (sF (sF (sF s29 49 8 u_32_0) 49 9 x2) 49 10 x3) 49 11 (Int32.ofInt 0)).2.2.1 49 9 = x2 from rfl))) ((hF77.2.2.1 49 10 rfl).trans ((hF63.2.2.1 49 10 rfl).trans (show (sF (sF (sF (sF s29 49 8 u_32_0) 49 9 x2) 49 10 x3) 49 11 (Int32.ofInt 0)).2.2.1 49 10 = x3 from rfl))) h2 h3 e60 (by have h9 := p63e [] (kz_0 rfl); rw [gvD_fr (show Fr fm_207_49_32 s (sF (sF (sF (sF s29 49 8 u_32_0) 49 9 x2) 49 10 x3) 49 11 (Int32.ofInt 0)) from fr_sF rfl (fr_sF rfl (fr_sF rfl (fr_sF rfl (fr_tr rfl fr_rf hF29))))) rfl] at h9; exact h9) (congrArg Int32.toInt (hF77.2.2.1 49 11 rfl)) (fun _ => ⟨p77, p77a⟩)
        exact g_return (gd rfl) rfl (hP _ _ ⟨s77, hI77, (fr_tr rfl (fr_tr rfl (fr_sF rfl (fr_sF rfl (fr_sF rfl (fr_sF rfl (fr_tr rfl fr_rf hF29))))) hF63) hF77), rfl, rfl, n80, n80a⟩)
    · skip
      refine g_aload_n 20 (gd rfl) rfl rfl ?_
      refine g_getI 23 (gd rfl) rfl rfl rfl (fun z20 e20 => ?_)
      have i20 := inv_F hI 0 31 rfl e20
      refine g_iload_n 24 (gd rfl) rfl rfl ?_
      refine g_cmp_ne 27 28 (gd rfl) rfl rfl (fun c24 => ?_) (fun c24 => ?_)
      · skip
        refine g_aload_n 29 (gd rfl) rfl rfl ?_
        refine g_callv (X := _) (As := []) (r := []) (b := A 32) (q := 32) 32 (gd rfl) rfl rfl rfl rfl rfl (ww_o rfl) (Nat.le_of_ble_eq_true rfl) (Nat.zero_le _) (Nat.zero_le _) (k_106_32 (by first | exact dq1 hd rfl | exact dq0 hd rfl | exact dq2 hd rfl | exact dq3 hd rfl | omega) hI ) (fun e u h => h) (fun v u h => ?_)
        obtain ⟨s29, hI29, hF29, n29, rfl, rfl⟩ := h
        obtain ⟨z29a, e29⟩ : ∃ w, w = s29.2.2.1 32 4 := ⟨_, rfl⟩
        have i29a := inv_F hI29 (-1) 4000 rfl e29
        rw [← (show z29a = s29.2.2.1 32 4 from e29)] at n29
        rw [← (show u_32_0 = s29.2.2.1 32 0 from fr_F (e_32_0) hF29 rfl)] at n29
        show GG _ _ _ _ _ _ _ _ [] _ _ _
        refine g_aload_n 33 (gd rfl) rfl rfl ?_
        refine g_aload_n 34 (gd rfl) rfl rfl ?_
        refine g_getI 37 (gd rfl) rfl rfl rfl (fun z34 e34 => ?_)
        have q34 : u_32_0 = z34 := (fr_F (e_32_0) hF29 rfl).trans e34.symm
        subst q34
        refine g_putI 40 (gd rfl) rfl rfl rfl rfl ?_
        have hI37 := inv_sF (q := 49) (j := 8) hI29 rfl (in_w (-1) 4000 ro_32_0 rfl)
        refine g_aload_n 41 (gd rfl) rfl rfl ?_
        refine g_iload_n 42 (gd rfl) rfl rfl ?_
        refine g_putI 45 (gd rfl) rfl rfl rfl rfl ?_
        have hI42 := inv_sF (q := 49) (j := 9) hI37 rfl (in_w 0 31 h2 rfl)
        refine g_aload_n 46 (gd rfl) rfl rfl ?_
        refine g_iload_n 47 (gd rfl) rfl rfl ?_
        refine g_putI 50 (gd rfl) rfl rfl rfl rfl ?_
        have hI47 := inv_sF (q := 49) (j := 10) hI42 rfl (in_w 0 31 h3 rfl)
        refine g_aload_n 51 (gd rfl) rfl rfl ?_
        refine g_iconst 0 52 (gd rfl) rfl rfl ?_
        refine g_putI 55 (gd rfl) rfl rfl rfl rfl ?_
        have hI52 := inv_sF (q := 49) (j := 11) hI47 rfl (in_w 0 2001 (in_c 0 rfl) rfl)
        refine g_aload_n 56 (gd rfl) rfl rfl ?_
        refine g_aload_n 57 (gd rfl) rfl rfl ?_
        refine g_iload_n 58 (gd rfl) rfl rfl ?_
        refine g_iconst 1 59 (gd rfl) rfl rfl ?_
        refine g_iload_n 60 (gd rfl) rfl rfl ?_
        refine g_ishl 61 (gd rfl) rfl (fun z60 e60 => ?_)
        refine g_iconst 0 62 (gd rfl) rfl rfl ?_
        refine g_lconst 0 63 (gd rfl) rfl rfl ?_
        have p63 : TQD (sF (sF (sF (sF s29 49 8 u_32_0) 49 9 x2) 49 10 x3) 49 11 (Int32.ofInt 0)) := by exact tqd_fr q_0 (show Fr fm_207_49_32 s (sF (sF (sF (sF s29 49 8 u_32_0) 49 9 x2) 49 10 x3) 49 11 (Int32.ofInt 0)) from (fr_sF rfl (fr_sF rfl (fr_sF rfl (fr_sF rfl (fr_tr rfl fr_rf hF29)))))) rfl
        have p63a : ((((sF (sF (sF (sF s29 49 8 u_32_0) 49 9 x2) 49 10 x3) 49 11 (Int32.ofInt 0))).2.2.1 32 4).toInt = (((sF (sF (sF (sF s29 49 8 u_32_0) 49 9 x2) 49 10 x3) 49 11 (Int32.ofInt 0))).2.2.1 32 0).toInt) := by exact (by show (s29.2.2.1 32 4).toInt = (s29.2.2.1 32 0).toInt; rw [← (show z29a = s29.2.2.1 32 4 from e29), ← (show u_32_0 = s29.2.2.1 32 0 from fr_F (e_32_0) hF29 rfl)]; exact n29)
        have p63b : NDQ (gvD (sF (sF (sF (sF s29 49 8 u_32_0) 49 9 x2) 49 10 x3) 49 11 (Int32.ofInt 0))) := by rw [gvD_fr (show Fr fm_207_49_32 s (sF (sF (sF (sF s29 49 8 u_32_0) 49 9 x2) 49 10 x3) 49 11 (Int32.ofInt 0)) from (fr_sF rfl (fr_sF rfl (fr_sF rfl (fr_sF rfl (fr_tr rfl fr_rf hF29)))))) rfl]; exact q_1
        have p63c : KBD ((Int64.ofInt 0)).toInt ((Int32.ofInt 0)).toInt := by show KBD 0 0; unfold KBD; omega
        refine g_callv (X := _) (As := [.ref (A 32), .int x2, .int z60, .int (Int32.ofInt 0), .long (Int64.ofInt 0)]) (r := []) (b := A 49) (q := 49) 66 (gd rfl) rfl rfl rfl rfl rfl (ww_o rfl) (Nat.le_of_ble_eq_true rfl) (Nat.zero_le _) (Nat.zero_le _) (f_208_49_32 (by first | exact dq1 hd rfl | exact dq0 hd rfl | exact dq2 hd rfl | exact dq3 hd rfl | omega) hI52 (in_w 0 31 h2 rfl) (in_w 0 4 (in_c 0 rfl) rfl) p63 p63a p63b p63c) (fun e u h => h) (fun v u h => ?_)
        obtain ⟨s63, hI63, hF63, rfl, rfl, p63d, p63e⟩ := h
        show GG _ _ _ _ _ _ _ _ [] _ _ _
        refine g_aload_n 67 (gd rfl) rfl rfl ?_
        refine g_getI 70 (gd rfl) rfl rfl rfl (fun z67 e67 => ?_)
        have i67 := inv_F hI63 0 2001 rfl e67
        refine g_sipush 2000 73 (gd rfl) rfl rfl ?_
        refine g_cmp_gt 76 80 (gd rfl) rfl rfl (fun c73 => ?_) (fun c73 => ?_)
        · skip
          have i73 := r_lt2 2001 2001 c73 (in_c 2000 rfl) i67 rfl
          have n80 : (SHG (gvD s) s63 ∧ (s63).2.2.1 49 9 = x2 ∧ (s63).2.2.1 49 10 = x3) := by exact ⟨shg_of (by rw [(((hF63.2.2.1 49 8 rfl).trans (show (sF (sF (sF (sF s29 49 8 u_32_0) 49 9 x2) 49 10 x3) 49 11 (Int32.ofInt 0)).2.2.1 49 8 = u_32_0 from rfl))), e_32_0]; rfl) (((hF63.2.2.1 49 9 rfl).trans (show (sF (sF (sF (sF s29 49 8 u_32_0) 49 9 x2) 49 10 x3) 49 11 (Int32.ofInt 0)).2.2.1 49 9 = x2 from rfl))) (((hF63.2.2.1 49 10 rfl).trans (show (sF (sF (sF (sF s29 49 8 u_32_0) 49 9 x2) 49 10 x3) 49 11 (Int32.ofInt 0)).2.2.1 49 10 = x3 from rfl))) h2 h3 e60 (by have h9 := p63d; rw [gvD_fr (show Fr fm_207_49_32 s (sF (sF (sF (sF s29 49 8 u_32_0) 49 9 x2) 49 10 x3) 49 11 (Int32.ofInt 0)) from fr_sF rfl (fr_sF rfl (fr_sF rfl (fr_sF rfl (fr_tr rfl fr_rf hF29))))) rfl] at h9; exact h9), (((hF63.2.2.1 49 9 rfl).trans (show (sF (sF (sF (sF s29 49 8 u_32_0) 49 9 x2) 49 10 x3) 49 11 (Int32.ofInt 0)).2.2.1 49 9 = x2 from rfl))), (((hF63.2.2.1 49 10 rfl).trans (show (sF (sF (sF (sF s29 49 8 u_32_0) 49 9 x2) 49 10 x3) 49 11 (Int32.ofInt 0)).2.2.1 49 10 = x3 from rfl)))⟩
          have n80a : KSG (gvD s) s63 := by exact ksg_of (m := z60) (f := s63.2.1 55) (c := (s63.2.2.1 49 11).toInt) (((hF63.2.2.1 49 9 rfl).trans (show (sF (sF (sF (sF s29 49 8 u_32_0) 49 9 x2) 49 10 x3) 49 11 (Int32.ofInt 0)).2.2.1 49 9 = x2 from rfl))) (((hF63.2.2.1 49 10 rfl).trans (show (sF (sF (sF (sF s29 49 8 u_32_0) 49 9 x2) 49 10 x3) 49 11 (Int32.ofInt 0)).2.2.1 49 10 = x3 from rfl))) h2 h3 e60 (by have h9 := p63e [] (kz_0 rfl); rw [gvD_fr (show Fr fm_207_49_32 s (sF (sF (sF (sF s29 49 8 u_32_0) 49 9 x2) 49 10 x3) 49 11 (Int32.ofInt 0)) from fr_sF rfl (fr_sF rfl (fr_sF rfl (fr_sF rfl (fr_tr rfl fr_rf hF29))))) rfl] at h9; exact h9) rfl (fun h => absurd h (by rw [← (show z67 = s63.2.2.1 49 11 from e67)]; (first | have a0 := oa5 ro_32_0 h3 h2 i73 i29a | ((first | have a0 := in_u ro_32_0 | (have a0 := ro_32_0; unfold In at a0)); (first | have a1 := in_u h3 | (have a1 := h3; unfold In at a1)); (first | have a2 := in_u h2 | (have a2 := h2; unfold In at a2)); (first | have a3 := in_u i73 | (have a3 := i73; unfold In at a3)); (first | have a4 := in_u i29a | (have a4 := i29a; unfold In at a4)))); have oc := oc_207_49_32; omega))
          exact g_return (gd rfl) rfl (hP _ _ ⟨s63, hI63, (fr_tr rfl (fr_sF rfl (fr_sF rfl (fr_sF rfl (fr_sF rfl (fr_tr rfl fr_rf hF29))))) hF63), rfl, rfl, n80, n80a⟩)
        · skip
          have i73 := r_le1 0 2000 c73 i67 (in_c 2000 rfl) rfl
          refine g_aload_n 77 (gd rfl) rfl rfl ?_
          refine g_callv (X := _) (As := []) (r := []) (b := A 49) (q := 49) 80 (gd rfl) rfl rfl rfl rfl rfl (ww_o rfl) (Nat.le_of_ble_eq_true rfl) (Nat.zero_le _) (Nat.zero_le _) (f_210_49 (by first | exact dq1 hd rfl | exact dq0 hd rfl | exact dq2 hd rfl | exact dq3 hd rfl | omega) hI63 ) (fun e u h => h) (fun v u h => ?_)
          obtain ⟨s77, hI77, hF77, rfl, rfl, p77, p77a⟩ := h
          show GG _ _ _ _ _ _ _ _ [] _ _ _
          have n80 : (SHG (gvD s) s77 ∧ (s77).2.2.1 49 9 = x2 ∧ (s77).2.2.1 49 10 = x3) := by exact ⟨shg_of (by rw [((hF77.2.2.1 49 8 rfl).trans ((hF63.2.2.1 49 8 rfl).trans (show (sF (sF (sF (sF s29 49 8 u_32_0) 49 9 x2) 49 10 x3) 49 11 (Int32.ofInt 0)).2.2.1 49 8 = u_32_0 from rfl))), e_32_0]; rfl) ((hF77.2.2.1 49 9 rfl).trans ((hF63.2.2.1 49 9 rfl).trans (show (sF (sF (sF (sF s29 49 8 u_32_0) 49 9 x2) 49 10 x3) 49 11 (Int32.ofInt 0)).2.2.1 49 9 = x2 from rfl))) ((hF77.2.2.1 49 10 rfl).trans ((hF63.2.2.1 49 10 rfl).trans (show (sF (sF (sF (sF s29 49 8 u_32_0) 49 9 x2) 49 10 x3) 49 11 (Int32.ofInt 0)).2.2.1 49 10 = x3 from rfl))) h2 h3 e60 (by rw [hF77.2.2.1 49 11 rfl]; have h9 := p63d; rw [gvD_fr (show Fr fm_207_49_32 s (sF (sF (sF (sF s29 49 8 u_32_0) 49 9 x2) 49 10 x3) 49 11 (Int32.ofInt 0)) from fr_sF rfl (fr_sF rfl (fr_sF rfl (fr_sF rfl (fr_tr rfl fr_rf hF29))))) rfl] at h9; exact h9), ((hF77.2.2.1 49 9 rfl).trans ((hF63.2.2.1 49 9 rfl).trans (show (sF (sF (sF (sF s29 49 8 u_32_0) 49 9 x2) 49 10 x3) 49 11 (Int32.ofInt 0)).2.2.1 49 9 = x2 from rfl))), ((hF77.2.2.1 49 10 rfl).trans ((hF63.2.2.1 49 10 rfl).trans (show (sF (sF (sF (sF s29 49 8 u_32_0) 49 9 x2) 49 10 x3) 49 11 (Int32.ofInt 0)).2.2.1 49 10 = x3 from rfl)))⟩
          have n80a : KSG (gvD s) s77 := by exact ksg_of (m := z60) (f := s63.2.1 55) (c := (s63.2.2.1 49 11).toInt) ((hF77.2.2.1 49 9 rfl).trans ((hF63.2.2.1 49 9 rfl).trans (show (sF (sF (sF (sF s29 49 8 u_32_0) 49 9 x2) 49 10 x3) 49 11 (Int32.ofInt 0)).2.2.1 49 9 = x2 from rfl))) ((hF77.2.2.1 49 10 rfl).trans ((hF63.2.2.1 49 10 rfl).trans (show (sF (sF (sF (sF s29 49 8 u_32_0) 49 9 x2) 49 10 x3) 49 11 (Int32.ofInt 0)).2.2.1 49 10 = x3 from rfl))) h2 h3 e60 (by have h9 := p63e [] (kz_0 rfl); rw [gvD_fr (show Fr fm_207_49_32 s (sF (sF (sF (sF s29 49 8 u_32_0) 49 9 x2) 49 10 x3) 49 11 (Int32.ofInt 0)) from fr_sF rfl (fr_sF rfl (fr_sF rfl (fr_sF rfl (fr_tr rfl fr_rf hF29))))) rfl] at h9; exact h9) (congrArg Int32.toInt (hF77.2.2.1 49 11 rfl)) (fun _ => ⟨p77, p77a⟩)
          exact g_return (gd rfl) rfl (hP _ _ ⟨s77, hI77, (fr_tr rfl (fr_tr rfl (fr_sF rfl (fr_sF rfl (fr_sF rfl (fr_sF rfl (fr_tr rfl fr_rf hF29))))) hF63) hF77), rfl, rfl, n80, n80a⟩)
      · skip
        have n27 : (SHG (gvD s) s ∧ (s).2.2.1 49 9 = x2 ∧ (s).2.2.1 49 10 = x3) := by exact ⟨⟨(by show (s.2.2.1 49 8).toInt = (s.2.2.1 32 0).toInt; rw [← e1, ← e_32_0]; exact c8), q_2 (by show (s.2.2.1 49 8).toInt = (s.2.2.1 32 0).toInt; rw [← e1, ← e_32_0]; exact c8)⟩, (show s.2.2.1 49 9 = x2 from i_eq.mpr (by rw [← e12]; exact c16)), (show s.2.2.1 49 10 = x3 from i_eq.mpr (by rw [← e20]; exact c24))⟩
        have n27a : KSG (gvD s) s := by exact q_3 (by show (s.2.2.1 49 8).toInt = (s.2.2.1 32 0).toInt; rw [← e1, ← e_32_0]; exact c8)
        exact g_return (gd rfl) rfl (hP _ _ ⟨s, hI, fr_rf, rfl, rfl, n27, n27a⟩)

theorem oc_205_49_2 : (Int32.ofInt (-2)).toInt = (-2) ∧ (Int32.ofInt (-1)).toInt = (-1) ∧ (Int32.ofInt 0).toInt = 0 ∧ (Int32.ofInt 1).toInt = 1 ∧ (Int32.ofInt 2000).toInt = 2000 := ⟨rfl, rfl, rfl, rfl, rfl⟩
def fm_205_49_2 : FM := ([9, 10, 11, 12, 13, 14, 15], [55], [(2, 4), (49, 8), (49, 9), (49, 10), (49, 11)], [])
/-- GraphHouse$Ways.countShort -/
theorem f_205_49_2 {Z : AmZ} {A : Nat → Nat} {s : GS} {ex : va_W} {d : Nat} {X : AmX} {x2 : Int32} {x3 : Int32} (hd : 23 ≤ d) (hI : Inv s) (h2 : In x2 0 31) (h3 : In x3 0 31) (q_0 : TQ s) (q_1 : NDQ (gvC s)) (q_2 : SHB (gvC s) s) (q_3 : KSB (gvC s) s) : GC Z d 205 [.ref (A 49), .ref (A 2), .int x2, .int x3] (WW Z A s ++ ex) 0 0 (fun v u => ∃ t : GS, Inv t ∧ Fr fm_205_49_2 s t ∧ ∃ z : Int32, v = some (.int z) ∧ u = WW Z A t ++ ex ∧ In z (-2) 2000 ∧ (SHV (gvC s) (x2).toNatClampNeg (x3).toNatClampNeg (z).toInt) ∧ (SHG (gvC s) t) ∧ (KSG (gvC s) t)) X := by
  intro post xp hP hX
  refine g_enter2 (k := 205) (N := 900) (by first | exact dq1 hd rfl | exact dq0 hd rfl | exact dq2 hd rfl | exact dq3 hd rfl | omega) rfl (Nat.le_of_ble_eq_true rfl) ?_
  refine g_aload_n 1 (gd rfl) rfl rfl ?_
  refine g_aload_n 2 (gd rfl) rfl rfl ?_
  refine g_iload_n 3 (gd rfl) rfl rfl ?_
  refine g_iload_n 4 (gd rfl) rfl rfl ?_
  have p4 : TQ s := by exact q_0
  have p4a : NDQ (gvC s) := by exact q_1
  have p4b : SHB (gvC s) s := by exact q_2
  have p4c : KSB (gvC s) s := by exact q_3
  refine g_callv (X := _) (As := [.ref (A 2), .int x2, .int x3]) (r := []) (b := A 49) (q := 49) 7 (gd rfl) rfl rfl rfl rfl rfl (ww_o rfl) (Nat.le_of_ble_eq_true rfl) (Nat.zero_le _) (Nat.zero_le _) (f_207_49_2 (by first | exact dq1 hd rfl | exact dq0 hd rfl | exact dq2 hd rfl | exact dq3 hd rfl | omega) hI (in_w 0 31 h2 rfl) (in_w 0 31 h3 rfl) p4 p4a p4b p4c) (fun e u h => h) (fun v u h => ?_)
  obtain ⟨s4, hI4, hF4, rfl, rfl, p4d, p4e⟩ := h
  show GG _ _ _ _ _ _ _ _ [] _ _ _
  refine g_aload_n 8 (gd rfl) rfl rfl ?_
  refine g_getI 11 (gd rfl) rfl rfl rfl (fun z8 e8 => ?_)
  have i8 := inv_F hI4 0 2001 rfl e8
  refine g_sipush 2000 14 (gd rfl) rfl rfl ?_
  refine g_cmp_le 17 22 (gd rfl) rfl rfl (fun c14 => ?_) (fun c14 => ?_)
  · skip
    have i14 := r_le1 0 2000 c14 i8 (in_c 2000 rfl) rfl
    refine g_aload_n 23 (gd rfl) rfl rfl ?_
    refine g_getI 26 (gd rfl) rfl rfl rfl (fun z23 e23 => ?_)
    have q23 : z8 = z23 := (e8).trans e23.symm
    subst q23
    have n26 : SHV (gvC s) (x2).toNatClampNeg (x3).toNatClampNeg (z8).toInt := by first | (exact shv_of p4d.1 p4d.2.1 p4d.2.2 (by rw [← (show z8 = s4.2.2.1 49 11 from e8)]; exact Or.inr ⟨by (first | have a0 := oa3 h3 h2 i14 | ((first | have a0 := in_u h3 | (have a0 := h3; unfold In at a0)); (first | have a1 := in_u h2 | (have a1 := h2; unfold In at a1)); (first | have a2 := in_u i14 | (have a2 := i14; unfold In at a2)))); have oc := oc_205_49_2; omega, rfl⟩)) | (exact shv_of p4d.1 p4d.2.1 p4d.2.2 (by rw [← (show z8 = s4.2.2.1 49 11 from e8)]; exact Or.inl ⟨by (first | have a0 := oa3 h3 h2 i14 | ((first | have a0 := in_u h3 | (have a0 := h3; unfold In at a0)); (first | have a1 := in_u h2 | (have a1 := h2; unfold In at a1)); (first | have a2 := in_u i14 | (have a2 := i14; unfold In at a2)))); have oc := oc_205_49_2; omega, rfl⟩))
    have n26a : SHG (gvC s) s4 := by exact p4d.1
    have n26b : KSG (gvC s) s4 := by exact p4e
    exact g_ireturn (gd rfl) rfl rfl (hP _ _ ⟨s4, hI4, (fr_tr rfl fr_rf hF4), z8, rfl, rfl, in_w (-2) 2000 i14 rfl, n26, n26a, n26b⟩)
  · skip
    have i14 := r_lt2 2001 2001 c14 (in_c 2000 rfl) i8 rfl
    refine g_bipush (-2) 19 (gd rfl) rfl rfl ?_
    refine g_goto 26 (gd rfl) rfl ?_
    have n26 : SHV (gvC s) (x2).toNatClampNeg (x3).toNatClampNeg ((Int32.ofInt (-2))).toInt := by first | (exact shv_of p4d.1 p4d.2.1 p4d.2.2 (by rw [← (show z8 = s4.2.2.1 49 11 from e8)]; exact Or.inr ⟨by (first | have a0 := oa3 h3 h2 i14 | ((first | have a0 := in_u h3 | (have a0 := h3; unfold In at a0)); (first | have a1 := in_u h2 | (have a1 := h2; unfold In at a1)); (first | have a2 := in_u i14 | (have a2 := i14; unfold In at a2)))); have oc := oc_205_49_2; omega, rfl⟩)) | (exact shv_of p4d.1 p4d.2.1 p4d.2.2 (by rw [← (show z8 = s4.2.2.1 49 11 from e8)]; exact Or.inl ⟨by (first | have a0 := oa3 h3 h2 i14 | ((first | have a0 := in_u h3 | (have a0 := h3; unfold In at a0)); (first | have a1 := in_u h2 | (have a1 := h2; unfold In at a1)); (first | have a2 := in_u i14 | (have a2 := i14; unfold In at a2)))); have oc := oc_205_49_2; omega, rfl⟩))
    have n26a : SHG (gvC s) s4 := by exact p4d.1
    have n26b : KSG (gvC s) s4 := by exact p4e
    exact g_ireturn (gd rfl) rfl rfl (hP _ _ ⟨s4, hI4, (fr_tr rfl fr_rf hF4), (Int32.ofInt (-2)), rfl, rfl, in_w (-2) 2000 (in_c (-2) rfl) rfl, n26, n26a, n26b⟩)

theorem oc_205_49_32 : (Int32.ofInt (-2)).toInt = (-2) ∧ (Int32.ofInt (-1)).toInt = (-1) ∧ (Int32.ofInt 0).toInt = 0 ∧ (Int32.ofInt 1).toInt = 1 ∧ (Int32.ofInt 2000).toInt = 2000 := ⟨rfl, rfl, rfl, rfl, rfl⟩
def fm_205_49_32 : FM := ([39, 40, 41, 42, 43, 44, 45], [55], [(32, 4), (49, 8), (49, 9), (49, 10), (49, 11)], [])
/-- GraphHouse$Ways.countShort -/
theorem f_205_49_32 {Z : AmZ} {A : Nat → Nat} {s : GS} {ex : va_W} {d : Nat} {X : AmX} {x2 : Int32} {x3 : Int32} (hd : 23 ≤ d) (hI : Inv s) (h2 : In x2 0 31) (h3 : In x3 0 31) (q_0 : TQD s) (q_1 : NDQ (gvD s)) (q_2 : SHB (gvD s) s) (q_3 : KSB (gvD s) s) : GC Z d 205 [.ref (A 49), .ref (A 32), .int x2, .int x3] (WW Z A s ++ ex) 0 0 (fun v u => ∃ t : GS, Inv t ∧ Fr fm_205_49_32 s t ∧ ∃ z : Int32, v = some (.int z) ∧ u = WW Z A t ++ ex ∧ In z (-2) 2000 ∧ (SHV (gvD s) (x2).toNatClampNeg (x3).toNatClampNeg (z).toInt) ∧ (SHG (gvD s) t) ∧ (KSG (gvD s) t)) X := by
  intro post xp hP hX
  refine g_enter2 (k := 205) (N := 900) (by first | exact dq1 hd rfl | exact dq0 hd rfl | exact dq2 hd rfl | exact dq3 hd rfl | omega) rfl (Nat.le_of_ble_eq_true rfl) ?_
  refine g_aload_n 1 (gd rfl) rfl rfl ?_
  refine g_aload_n 2 (gd rfl) rfl rfl ?_
  refine g_iload_n 3 (gd rfl) rfl rfl ?_
  refine g_iload_n 4 (gd rfl) rfl rfl ?_
  have p4 : TQD s := by exact q_0
  have p4a : NDQ (gvD s) := by exact q_1
  have p4b : SHB (gvD s) s := by exact q_2
  have p4c : KSB (gvD s) s := by exact q_3
  refine g_callv (X := _) (As := [.ref (A 32), .int x2, .int x3]) (r := []) (b := A 49) (q := 49) 7 (gd rfl) rfl rfl rfl rfl rfl (ww_o rfl) (Nat.le_of_ble_eq_true rfl) (Nat.zero_le _) (Nat.zero_le _) (f_207_49_32 (by first | exact dq1 hd rfl | exact dq0 hd rfl | exact dq2 hd rfl | exact dq3 hd rfl | omega) hI (in_w 0 31 h2 rfl) (in_w 0 31 h3 rfl) p4 p4a p4b p4c) (fun e u h => h) (fun v u h => ?_)
  obtain ⟨s4, hI4, hF4, rfl, rfl, p4d, p4e⟩ := h
  show GG _ _ _ _ _ _ _ _ [] _ _ _
  refine g_aload_n 8 (gd rfl) rfl rfl ?_
  refine g_getI 11 (gd rfl) rfl rfl rfl (fun z8 e8 => ?_)
  have i8 := inv_F hI4 0 2001 rfl e8
  refine g_sipush 2000 14 (gd rfl) rfl rfl ?_
  refine g_cmp_le 17 22 (gd rfl) rfl rfl (fun c14 => ?_) (fun c14 => ?_)
  · skip
    have i14 := r_le1 0 2000 c14 i8 (in_c 2000 rfl) rfl
    refine g_aload_n 23 (gd rfl) rfl rfl ?_
    refine g_getI 26 (gd rfl) rfl rfl rfl (fun z23 e23 => ?_)
    have q23 : z8 = z23 := (e8).trans e23.symm
    subst q23
    have n26 : SHV (gvD s) (x2).toNatClampNeg (x3).toNatClampNeg (z8).toInt := by first | (exact shv_of p4d.1 p4d.2.1 p4d.2.2 (by rw [← (show z8 = s4.2.2.1 49 11 from e8)]; exact Or.inr ⟨by (first | have a0 := oa3 h3 h2 i14 | ((first | have a0 := in_u h3 | (have a0 := h3; unfold In at a0)); (first | have a1 := in_u h2 | (have a1 := h2; unfold In at a1)); (first | have a2 := in_u i14 | (have a2 := i14; unfold In at a2)))); have oc := oc_205_49_32; omega, rfl⟩)) | (exact shv_of p4d.1 p4d.2.1 p4d.2.2 (by rw [← (show z8 = s4.2.2.1 49 11 from e8)]; exact Or.inl ⟨by (first | have a0 := oa3 h3 h2 i14 | ((first | have a0 := in_u h3 | (have a0 := h3; unfold In at a0)); (first | have a1 := in_u h2 | (have a1 := h2; unfold In at a1)); (first | have a2 := in_u i14 | (have a2 := i14; unfold In at a2)))); have oc := oc_205_49_32; omega, rfl⟩))
    have n26a : SHG (gvD s) s4 := by exact p4d.1
    have n26b : KSG (gvD s) s4 := by exact p4e
    exact g_ireturn (gd rfl) rfl rfl (hP _ _ ⟨s4, hI4, (fr_tr rfl fr_rf hF4), z8, rfl, rfl, in_w (-2) 2000 i14 rfl, n26, n26a, n26b⟩)
  · skip
    have i14 := r_lt2 2001 2001 c14 (in_c 2000 rfl) i8 rfl
    refine g_bipush (-2) 19 (gd rfl) rfl rfl ?_
    refine g_goto 26 (gd rfl) rfl ?_
    have n26 : SHV (gvD s) (x2).toNatClampNeg (x3).toNatClampNeg ((Int32.ofInt (-2))).toInt := by first | (exact shv_of p4d.1 p4d.2.1 p4d.2.2 (by rw [← (show z8 = s4.2.2.1 49 11 from e8)]; exact Or.inr ⟨by (first | have a0 := oa3 h3 h2 i14 | ((first | have a0 := in_u h3 | (have a0 := h3; unfold In at a0)); (first | have a1 := in_u h2 | (have a1 := h2; unfold In at a1)); (first | have a2 := in_u i14 | (have a2 := i14; unfold In at a2)))); have oc := oc_205_49_32; omega, rfl⟩)) | (exact shv_of p4d.1 p4d.2.1 p4d.2.2 (by rw [← (show z8 = s4.2.2.1 49 11 from e8)]; exact Or.inl ⟨by (first | have a0 := oa3 h3 h2 i14 | ((first | have a0 := in_u h3 | (have a0 := h3; unfold In at a0)); (first | have a1 := in_u h2 | (have a1 := h2; unfold In at a1)); (first | have a2 := in_u i14 | (have a2 := i14; unfold In at a2)))); have oc := oc_205_49_32; omega, rfl⟩))
    have n26a : SHG (gvD s) s4 := by exact p4d.1
    have n26b : KSG (gvD s) s4 := by exact p4e
    exact g_ireturn (gd rfl) rfl rfl (hP _ _ ⟨s4, hI4, (fr_tr rfl fr_rf hF4), (Int32.ofInt (-2)), rfl, rfl, in_w (-2) 2000 (in_c (-2) rfl) rfl, n26, n26a, n26b⟩)

theorem oc_206_49_2 : (Int32.ofInt (-1)).toInt = (-1) ∧ (Int32.ofInt 0).toInt = 0 ∧ (Int32.ofInt 1).toInt = 1 ∧ (Int32.ofInt 8).toInt = 8 ∧ (Int32.ofInt 24).toInt = 24 ∧ (Int32.ofInt 32).toInt = 32 ∧ (Int32.ofInt 2000).toInt = 2000 ∧ (Int64.ofInt 7).toInt = 7 ∧ (Int64.ofInt 255).toInt = 255 := ⟨rfl, rfl, rfl, rfl, rfl, rfl, rfl, rfl, rfl⟩
set_option maxHeartbeats 4000000 in
/-- GraphHouse$Ways.arcOfShort -/
theorem f_206_49_2 {Z : AmZ} {A : Nat → Nat} {s : GS} {ex : va_W} {d : Nat} {X : AmX} {x2 : Int32} {x3 : Int32} {x4 : Int32} {x5 : Int32} (hd : 23 ≤ d) (hI : Inv s) (h2 : In x2 0 31) (h3 : In x3 0 31) (h4 : In x4 0 2147483647) (h5 : In x5 0 2147483647) (q_0 : TQ s) (q_1 : NDQ (gvC s)) (q_2 : SHB (gvC s) s) (q_3 : KSB (gvC s) s) : GC Z d 206 [.ref (A 49), .ref (A 2), .int x2, .int x3, .int x4, .int x5] (WW Z A s ++ ex) 0 0 (fun v u => ∃ t : GS, Inv t ∧ Fr fm_206_49_2 s t ∧ ∃ z : Int32, v = some (.int z) ∧ u = WW Z A t ++ ex ∧ In z (-2147483648) 2147483647 ∧ (SHG (gvC s) t) ∧ (KSG (gvC s) t) ∧ (SAV (gvC s) (x2).toNatClampNeg (x3).toNatClampNeg (x4).toInt (x5).toInt (z).toInt)) X := by
  intro post xp hP hX
  refine g_enter2 (k := 206) (N := 900) (by first | exact dq1 hd rfl | exact dq0 hd rfl | exact dq2 hd rfl | exact dq3 hd rfl | omega) rfl (Nat.le_of_ble_eq_true rfl) ?_
  refine g_aload_n 1 (gd rfl) rfl rfl ?_
  refine g_aload_n 2 (gd rfl) rfl rfl ?_
  refine g_iload_n 3 (gd rfl) rfl rfl ?_
  refine g_iload_n 4 (gd rfl) rfl rfl ?_
  have p4 : TQ s := by exact q_0
  have p4a : NDQ (gvC s) := by exact q_1
  have p4b : SHB (gvC s) s := by exact q_2
  have p4c : KSB (gvC s) s := by exact q_3
  refine g_callv (X := _) (As := [.ref (A 2), .int x2, .int x3]) (r := []) (b := A 49) (q := 49) 7 (gd rfl) rfl rfl rfl rfl rfl (ww_o rfl) (Nat.le_of_ble_eq_true rfl) (Nat.zero_le _) (Nat.zero_le _) (f_207_49_2 (by first | exact dq1 hd rfl | exact dq0 hd rfl | exact dq2 hd rfl | exact dq3 hd rfl | omega) hI (in_w 0 31 h2 rfl) (in_w 0 31 h3 rfl) p4 p4a p4b p4c) (fun e u h => h) (fun v u h => ?_)
  obtain ⟨s4, hI4, hF4, rfl, rfl, p4d, p4e⟩ := h
  show GG _ _ _ _ _ _ _ _ [] _ _ _
  refine g_aload_n 8 (gd rfl) rfl rfl ?_
  refine g_getI 11 (gd rfl) rfl rfl rfl (fun z8 e8 => ?_)
  have i8 := inv_F hI4 0 2001 rfl e8
  refine g_sipush 2000 14 (gd rfl) rfl rfl ?_
  refine g_cmp_gt 17 26 (gd rfl) rfl rfl (fun c14 => ?_) (fun c14 => ?_)
  · skip
    have i14 := r_lt2 2001 2001 c14 (in_c 2000 rfl) i8 rfl
    refine g_iconst (-1) 27 (gd rfl) rfl rfl ?_
    have n27 : SHG (gvC s) s4 := by exact p4d.1
    have n27a : KSG (gvC s) s4 := by exact p4e
    have n27b : SAV (gvC s) (x2).toNatClampNeg (x3).toNatClampNeg (x4).toInt (x5).toInt ((Int32.ofInt (-1))).toInt := by have hn : (s4.2.2.1 49 11).toInt = (SHN (gvC s) (x2).toNatClampNeg (x3).toNatClampNeg) := (by have h9 := p4d.1.2; rw [p4d.2.1, p4d.2.2] at h9; exact h9); have h8 : (z8).toInt = (SHN (gvC s) (x2).toNatClampNeg (x3).toNatClampNeg) := (by rw [show z8 = s4.2.2.1 49 11 from e8]; exact hn); exact Or.inl ⟨Or.inl (by rw [← h8]; (first | have a0 := oa5 h3 h2 h5 h4 i14 | ((first | have a0 := in_u h3 | (have a0 := h3; unfold In at a0)); (first | have a1 := in_u h2 | (have a1 := h2; unfold In at a1)); (first | have a2 := in_u h5 | (have a2 := h5; unfold In at a2)); (first | have a3 := in_u h4 | (have a3 := h4; unfold In at a3)); (first | have a4 := in_u i14 | (have a4 := i14; unfold In at a4)))); have oc := oc_206_49_2; omega), rfl⟩
    exact g_ireturn (gd rfl) rfl rfl (hP _ _ ⟨s4, hI4, (fr_tr rfl fr_rf hF4), (Int32.ofInt (-1)), rfl, rfl, in_w (-2147483648) 2147483647 (in_c (-1) rfl) rfl, n27, n27a, n27b⟩)
  · skip
    have i14 := r_le1 0 2000 c14 i8 (in_c 2000 rfl) rfl
    refine g_iload 19 (gd rfl) rfl rfl ?_
    refine g_aload_n 20 (gd rfl) rfl rfl ?_
    refine g_getI 23 (gd rfl) rfl rfl rfl (fun z20 e20 => ?_)
    have q20 : z8 = z20 := (e8).trans e20.symm
    subst q20
    refine g_cmp_lt 26 28 (gd rfl) rfl rfl (fun c23 => ?_) (fun c23 => ?_)
    · skip
      have i23 := r_lt1 0 1999 c23 h4 i14 rfl
      have i23a := r_lt2 1 2000 c23 h4 i14 rfl
      refine g_aload_n 29 (gd rfl) rfl rfl ?_
      refine g_getA (q2 := 55) 32 (gd rfl) rfl rfl rfl rfl ?_
      refine g_iload 34 (gd rfl) rfl rfl ?_
      refine g_laload 35 (gd rfl) rfl (n := 2001) rfl (in_ix i23 rfl) (fun z34 e34 => ?_)
      refine g_lstore 37 (gd rfl) rfl (Nat.le_of_ble_eq_true rfl) ?_
      refine g_iload 39 (gd rfl) rfl rfl ?_
      refine g_lload 41 (gd rfl) rfl rfl ?_
      refine g_bipush 32 43 (gd rfl) rfl rfl ?_
      refine g_lshr 44 (gd rfl) rfl (fun z43 e43 => ?_)
      refine g_ldc2_w 7 47 (gd rfl) rfl rfl ?_
      refine g_land 48 (gd rfl) rfl (fun z47 e47 => ?_)
      have i47 := inl_and2 e47 (l_c 7 rfl) rfl
      refine g_l2i 49 (gd rfl) rfl (fun z48 e48 => ?_)
      refine g_cmp_lt 52 54 (gd rfl) rfl rfl (fun c49 => ?_) (fun c49 => ?_)
      · skip
        have i49 := r_lt1 0 2147483646 c49 h5 (i_rng z48) rfl
        have i49a := r_lt2 1 2147483647 c49 h5 (i_rng z48) rfl
        refine g_lload 56 (gd rfl) rfl rfl ?_
        refine g_bipush 24 58 (gd rfl) rfl rfl ?_
        refine g_bipush 8 60 (gd rfl) rfl rfl ?_
        refine g_iload 62 (gd rfl) rfl rfl ?_
        refine g_imul 63 (gd rfl) rfl (fun z62 e62 => ?_)
        refine g_isub 64 (gd rfl) rfl (fun z63 e63 => ?_)
        refine g_lshr 65 (gd rfl) rfl (fun z64 e64 => ?_)
        refine g_ldc2_w 255 68 (gd rfl) rfl rfl ?_
        refine g_land 69 (gd rfl) rfl (fun z68 e68 => ?_)
        have i68 := inl_and2 e68 (l_c 255 rfl) rfl
        refine g_l2i 70 (gd rfl) rfl (fun z69 e69 => ?_)
        have n70 : SHG (gvC s) s4 := by exact p4d.1
        have n70a : KSG (gvC s) s4 := by exact p4e
        have n70b : SAV (gvC s) (x2).toNatClampNeg (x3).toNatClampNeg (x4).toInt (x5).toInt (z69).toInt := by have hn : (s4.2.2.1 49 11).toInt = (SHN (gvC s) (x2).toNatClampNeg (x3).toNatClampNeg) := (by have h9 := p4d.1.2; rw [p4d.2.1, p4d.2.2] at h9; exact h9); have h8 : (z8).toInt = (SHN (gvC s) (x2).toNatClampNeg (x3).toNatClampNeg) := (by rw [show z8 = s4.2.2.1 49 11 from e8]; exact hn); have h20 := h8; have ks := p4e (by rw [hn, ← h8]; (first | have a0 := oa5 i23 h3 h2 i49 i23a | ((first | have a0 := in_u i23 | (have a0 := i23; unfold In at a0)); (first | have a1 := in_u h3 | (have a1 := h3; unfold In at a1)); (first | have a2 := in_u h2 | (have a2 := h2; unfold In at a2)); (first | have a3 := in_u i49 | (have a3 := i49; unfold In at a3)); (first | have a4 := in_u i23a | (have a4 := i23a; unfold In at a4)))); have oc := oc_206_49_2; omega); rw [hn, p4d.2.1, p4d.2.2] at ks; have kk : kvl (s4.2.1 55) (x4).toInt.toNat = (z34).toInt := congrArg Int64.toInt (show s4.2.1 55 (x4).toInt.toNat = z34 from e34.symm); have l43 := lsr_32 e43; have l47 := lan_8 e47; have l48 := l2i_v e48 (by (first | have a0 := oa5 i23 h3 h2 i49 i23a | ((first | have a0 := in_u i23 | (have a0 := i23; unfold In at a0)); (first | have a1 := in_u h3 | (have a1 := h3; unfold In at a1)); (first | have a2 := in_u h2 | (have a2 := h2; unfold In at a2)); (first | have a3 := in_u i49 | (have a3 := i49; unfold In at a3)); (first | have a4 := in_u i23a | (have a4 := i23a; unfold In at a4)))); have oc := oc_206_49_2; omega); have len : kvl (s4.2.1 55) (x4).toInt.toNat / 4294967296 % 8 = (z48).toInt := (by rw [kk, l48, l47, l43]); have l7 : (z48).toInt ≤ 7 := (by have h9 := len; omega); have ix5 : In x5 0 6 := ⟨h5.1, by have h9 := c49; omega⟩; have t62 := t_mulc 8 (show z62 = Int32.ofInt 8 * x5 ∨ z62 = x5 * Int32.ofInt 8 from (by first | exact Or.inl e62 | exact Or.inr e62)) ix5 rfl; have t63 := t_sub e63 (in_c 24 rfl) (show In z62 0 48 from ⟨by have h9 := t62.1; have h8 := ix5.1; omega, by have h9 := t62.1; have h8 := ix5.2; omega⟩) rfl; have c24 : (Int32.ofInt 24).toInt = 24 := rfl; exact Or.inr ⟨by rw [← h8]; (first | have a0 := oa5 i23 h3 h2 i49 i23a | ((first | have a0 := in_u i23 | (have a0 := i23; unfold In at a0)); (first | have a1 := in_u h3 | (have a1 := h3; unfold In at a1)); (first | have a2 := in_u h2 | (have a2 := h2; unfold In at a2)); (first | have a3 := in_u i49 | (have a3 := i49; unfold In at a3)); (first | have a4 := in_u i23a | (have a4 := i23a; unfold In at a4)))); have oc := oc_206_49_2; omega, by rw [← h20]; (first | have a0 := oa5 i23 h3 h2 i49 i23a | ((first | have a0 := in_u i23 | (have a0 := i23; unfold In at a0)); (first | have a1 := in_u h3 | (have a1 := h3; unfold In at a1)); (first | have a2 := in_u h2 | (have a2 := h2; unfold In at a2)); (first | have a3 := in_u i49 | (have a3 := i49; unfold In at a3)); (first | have a4 := in_u i23a | (have a4 := i23a; unfold In at a4)))); have oc := oc_206_49_2; omega, kvl (s4.2.1 55), ks.2, ks.1, Or.inr ⟨by rw [len]; (first | have a0 := oa5 i23 h3 h2 i49 i23a | ((first | have a0 := in_u i23 | (have a0 := i23; unfold In at a0)); (first | have a1 := in_u h3 | (have a1 := h3; unfold In at a1)); (first | have a2 := in_u h2 | (have a2 := h2; unfold In at a2)); (first | have a3 := in_u i49 | (have a3 := i49; unfold In at a3)); (first | have a4 := in_u i23a | (have a4 := i23a; unfold In at a4)))); have oc := oc_206_49_2; omega, (by rw [kk, l2i_v e69 (by have := lan_256 e68; (first | have a0 := oa5 i23 h3 h2 i49 i23a | ((first | have a0 := in_u i23 | (have a0 := i23; unfold In at a0)); (first | have a1 := in_u h3 | (have a1 := h3; unfold In at a1)); (first | have a2 := in_u h2 | (have a2 := h2; unfold In at a2)); (first | have a3 := in_u i49 | (have a3 := i49; unfold In at a3)); (first | have a4 := in_u i23a | (have a4 := i23a; unfold In at a4)))); have oc := oc_206_49_2; omega)]; exact lsr_j e64 (by have h9 := t62.1; omega) ix5.1 ix5.2 e68)⟩⟩
        exact g_ireturn (gd rfl) rfl rfl (hP _ _ ⟨s4, hI4, (fr_tr rfl fr_rf hF4), z69, rfl, rfl, in_w (-2147483648) 2147483647 (i_rng z69) rfl, n70, n70a, n70b⟩)
      · skip
        refine g_iconst (-1) 53 (gd rfl) rfl rfl ?_
        have n53 : SHG (gvC s) s4 := by exact p4d.1
        have n53a : KSG (gvC s) s4 := by exact p4e
        have n53b : SAV (gvC s) (x2).toNatClampNeg (x3).toNatClampNeg (x4).toInt (x5).toInt ((Int32.ofInt (-1))).toInt := by have hn : (s4.2.2.1 49 11).toInt = (SHN (gvC s) (x2).toNatClampNeg (x3).toNatClampNeg) := (by have h9 := p4d.1.2; rw [p4d.2.1, p4d.2.2] at h9; exact h9); have h8 : (z8).toInt = (SHN (gvC s) (x2).toNatClampNeg (x3).toNatClampNeg) := (by rw [show z8 = s4.2.2.1 49 11 from e8]; exact hn); have h20 := h8; have ks := p4e (by rw [hn, ← h8]; (first | have a0 := oa5 i23 h3 h2 h5 i23a | ((first | have a0 := in_u i23 | (have a0 := i23; unfold In at a0)); (first | have a1 := in_u h3 | (have a1 := h3; unfold In at a1)); (first | have a2 := in_u h2 | (have a2 := h2; unfold In at a2)); (first | have a3 := in_u h5 | (have a3 := h5; unfold In at a3)); (first | have a4 := in_u i23a | (have a4 := i23a; unfold In at a4)))); have oc := oc_206_49_2; omega); rw [hn, p4d.2.1, p4d.2.2] at ks; have kk : kvl (s4.2.1 55) (x4).toInt.toNat = (z34).toInt := congrArg Int64.toInt (show s4.2.1 55 (x4).toInt.toNat = z34 from e34.symm); have l43 := lsr_32 e43; have l47 := lan_8 e47; have l48 := l2i_v e48 (by (first | have a0 := oa5 i23 h3 h2 h5 i23a | ((first | have a0 := in_u i23 | (have a0 := i23; unfold In at a0)); (first | have a1 := in_u h3 | (have a1 := h3; unfold In at a1)); (first | have a2 := in_u h2 | (have a2 := h2; unfold In at a2)); (first | have a3 := in_u h5 | (have a3 := h5; unfold In at a3)); (first | have a4 := in_u i23a | (have a4 := i23a; unfold In at a4)))); have oc := oc_206_49_2; omega); have len : kvl (s4.2.1 55) (x4).toInt.toNat / 4294967296 % 8 = (z48).toInt := (by rw [kk, l48, l47, l43]); exact Or.inr ⟨by rw [← h8]; (first | have a0 := oa5 i23 h3 h2 h5 i23a | ((first | have a0 := in_u i23 | (have a0 := i23; unfold In at a0)); (first | have a1 := in_u h3 | (have a1 := h3; unfold In at a1)); (first | have a2 := in_u h2 | (have a2 := h2; unfold In at a2)); (first | have a3 := in_u h5 | (have a3 := h5; unfold In at a3)); (first | have a4 := in_u i23a | (have a4 := i23a; unfold In at a4)))); have oc := oc_206_49_2; omega, by rw [← h20]; (first | have a0 := oa5 i23 h3 h2 h5 i23a | ((first | have a0 := in_u i23 | (have a0 := i23; unfold In at a0)); (first | have a1 := in_u h3 | (have a1 := h3; unfold In at a1)); (first | have a2 := in_u h2 | (have a2 := h2; unfold In at a2)); (first | have a3 := in_u h5 | (have a3 := h5; unfold In at a3)); (first | have a4 := in_u i23a | (have a4 := i23a; unfold In at a4)))); have oc := oc_206_49_2; omega, kvl (s4.2.1 55), ks.2, ks.1, Or.inl ⟨by rw [len]; (first | have a0 := oa5 i23 h3 h2 h5 i23a | ((first | have a0 := in_u i23 | (have a0 := i23; unfold In at a0)); (first | have a1 := in_u h3 | (have a1 := h3; unfold In at a1)); (first | have a2 := in_u h2 | (have a2 := h2; unfold In at a2)); (first | have a3 := in_u h5 | (have a3 := h5; unfold In at a3)); (first | have a4 := in_u i23a | (have a4 := i23a; unfold In at a4)))); have oc := oc_206_49_2; omega, rfl⟩⟩
        exact g_ireturn (gd rfl) rfl rfl (hP _ _ ⟨s4, hI4, (fr_tr rfl fr_rf hF4), (Int32.ofInt (-1)), rfl, rfl, in_w (-2147483648) 2147483647 (in_c (-1) rfl) rfl, n53, n53a, n53b⟩)
    · skip
      refine g_iconst (-1) 27 (gd rfl) rfl rfl ?_
      have n27 : SHG (gvC s) s4 := by exact p4d.1
      have n27a : KSG (gvC s) s4 := by exact p4e
      have n27b : SAV (gvC s) (x2).toNatClampNeg (x3).toNatClampNeg (x4).toInt (x5).toInt ((Int32.ofInt (-1))).toInt := by have hn : (s4.2.2.1 49 11).toInt = (SHN (gvC s) (x2).toNatClampNeg (x3).toNatClampNeg) := (by have h9 := p4d.1.2; rw [p4d.2.1, p4d.2.2] at h9; exact h9); have h8 : (z8).toInt = (SHN (gvC s) (x2).toNatClampNeg (x3).toNatClampNeg) := (by rw [show z8 = s4.2.2.1 49 11 from e8]; exact hn); have h20 := h8; exact Or.inl ⟨Or.inr (by rw [← h20]; (first | have a0 := oa5 h3 h2 h5 h4 i14 | ((first | have a0 := in_u h3 | (have a0 := h3; unfold In at a0)); (first | have a1 := in_u h2 | (have a1 := h2; unfold In at a1)); (first | have a2 := in_u h5 | (have a2 := h5; unfold In at a2)); (first | have a3 := in_u h4 | (have a3 := h4; unfold In at a3)); (first | have a4 := in_u i14 | (have a4 := i14; unfold In at a4)))); have oc := oc_206_49_2; omega), rfl⟩
      exact g_ireturn (gd rfl) rfl rfl (hP _ _ ⟨s4, hI4, (fr_tr rfl fr_rf hF4), (Int32.ofInt (-1)), rfl, rfl, in_w (-2147483648) 2147483647 (in_c (-1) rfl) rfl, n27, n27a, n27b⟩)

theorem oc_206_49_32 : (Int32.ofInt (-1)).toInt = (-1) ∧ (Int32.ofInt 0).toInt = 0 ∧ (Int32.ofInt 1).toInt = 1 ∧ (Int32.ofInt 8).toInt = 8 ∧ (Int32.ofInt 24).toInt = 24 ∧ (Int32.ofInt 32).toInt = 32 ∧ (Int32.ofInt 2000).toInt = 2000 ∧ (Int64.ofInt 7).toInt = 7 ∧ (Int64.ofInt 255).toInt = 255 := ⟨rfl, rfl, rfl, rfl, rfl, rfl, rfl, rfl, rfl⟩
set_option maxHeartbeats 4000000 in
/-- GraphHouse$Ways.arcOfShort -/
theorem f_206_49_32 {Z : AmZ} {A : Nat → Nat} {s : GS} {ex : va_W} {d : Nat} {X : AmX} {x2 : Int32} {x3 : Int32} {x4 : Int32} {x5 : Int32} (hd : 23 ≤ d) (hI : Inv s) (h2 : In x2 0 31) (h3 : In x3 0 31) (h4 : In x4 0 2147483647) (h5 : In x5 0 2147483647) (q_0 : TQD s) (q_1 : NDQ (gvD s)) (q_2 : SHB (gvD s) s) (q_3 : KSB (gvD s) s) : GC Z d 206 [.ref (A 49), .ref (A 32), .int x2, .int x3, .int x4, .int x5] (WW Z A s ++ ex) 0 0 (fun v u => ∃ t : GS, Inv t ∧ Fr fm_206_49_32 s t ∧ ∃ z : Int32, v = some (.int z) ∧ u = WW Z A t ++ ex ∧ In z (-2147483648) 2147483647 ∧ (SHG (gvD s) t) ∧ (KSG (gvD s) t) ∧ (SAV (gvD s) (x2).toNatClampNeg (x3).toNatClampNeg (x4).toInt (x5).toInt (z).toInt)) X := by
  intro post xp hP hX
  refine g_enter2 (k := 206) (N := 900) (by first | exact dq1 hd rfl | exact dq0 hd rfl | exact dq2 hd rfl | exact dq3 hd rfl | omega) rfl (Nat.le_of_ble_eq_true rfl) ?_
  refine g_aload_n 1 (gd rfl) rfl rfl ?_
  refine g_aload_n 2 (gd rfl) rfl rfl ?_
  refine g_iload_n 3 (gd rfl) rfl rfl ?_
  refine g_iload_n 4 (gd rfl) rfl rfl ?_
  have p4 : TQD s := by exact q_0
  have p4a : NDQ (gvD s) := by exact q_1
  have p4b : SHB (gvD s) s := by exact q_2
  have p4c : KSB (gvD s) s := by exact q_3
  refine g_callv (X := _) (As := [.ref (A 32), .int x2, .int x3]) (r := []) (b := A 49) (q := 49) 7 (gd rfl) rfl rfl rfl rfl rfl (ww_o rfl) (Nat.le_of_ble_eq_true rfl) (Nat.zero_le _) (Nat.zero_le _) (f_207_49_32 (by first | exact dq1 hd rfl | exact dq0 hd rfl | exact dq2 hd rfl | exact dq3 hd rfl | omega) hI (in_w 0 31 h2 rfl) (in_w 0 31 h3 rfl) p4 p4a p4b p4c) (fun e u h => h) (fun v u h => ?_)
  obtain ⟨s4, hI4, hF4, rfl, rfl, p4d, p4e⟩ := h
  show GG _ _ _ _ _ _ _ _ [] _ _ _
  refine g_aload_n 8 (gd rfl) rfl rfl ?_
  refine g_getI 11 (gd rfl) rfl rfl rfl (fun z8 e8 => ?_)
  have i8 := inv_F hI4 0 2001 rfl e8
  refine g_sipush 2000 14 (gd rfl) rfl rfl ?_
  refine g_cmp_gt 17 26 (gd rfl) rfl rfl (fun c14 => ?_) (fun c14 => ?_)
  · skip
    have i14 := r_lt2 2001 2001 c14 (in_c 2000 rfl) i8 rfl
    refine g_iconst (-1) 27 (gd rfl) rfl rfl ?_
    have n27 : SHG (gvD s) s4 := by exact p4d.1
    have n27a : KSG (gvD s) s4 := by exact p4e
    have n27b : SAV (gvD s) (x2).toNatClampNeg (x3).toNatClampNeg (x4).toInt (x5).toInt ((Int32.ofInt (-1))).toInt := by have hn : (s4.2.2.1 49 11).toInt = (SHN (gvD s) (x2).toNatClampNeg (x3).toNatClampNeg) := (by have h9 := p4d.1.2; rw [p4d.2.1, p4d.2.2] at h9; exact h9); have h8 : (z8).toInt = (SHN (gvD s) (x2).toNatClampNeg (x3).toNatClampNeg) := (by rw [show z8 = s4.2.2.1 49 11 from e8]; exact hn); exact Or.inl ⟨Or.inl (by rw [← h8]; (first | have a0 := oa5 h3 h2 h5 h4 i14 | ((first | have a0 := in_u h3 | (have a0 := h3; unfold In at a0)); (first | have a1 := in_u h2 | (have a1 := h2; unfold In at a1)); (first | have a2 := in_u h5 | (have a2 := h5; unfold In at a2)); (first | have a3 := in_u h4 | (have a3 := h4; unfold In at a3)); (first | have a4 := in_u i14 | (have a4 := i14; unfold In at a4)))); have oc := oc_206_49_32; omega), rfl⟩
    exact g_ireturn (gd rfl) rfl rfl (hP _ _ ⟨s4, hI4, (fr_tr rfl fr_rf hF4), (Int32.ofInt (-1)), rfl, rfl, in_w (-2147483648) 2147483647 (in_c (-1) rfl) rfl, n27, n27a, n27b⟩)
  · skip
    have i14 := r_le1 0 2000 c14 i8 (in_c 2000 rfl) rfl
    refine g_iload 19 (gd rfl) rfl rfl ?_
    refine g_aload_n 20 (gd rfl) rfl rfl ?_
    refine g_getI 23 (gd rfl) rfl rfl rfl (fun z20 e20 => ?_)
    have q20 : z8 = z20 := (e8).trans e20.symm
    subst q20
    refine g_cmp_lt 26 28 (gd rfl) rfl rfl (fun c23 => ?_) (fun c23 => ?_)
    · skip
      have i23 := r_lt1 0 1999 c23 h4 i14 rfl
      have i23a := r_lt2 1 2000 c23 h4 i14 rfl
      refine g_aload_n 29 (gd rfl) rfl rfl ?_
      refine g_getA (q2 := 55) 32 (gd rfl) rfl rfl rfl rfl ?_
      refine g_iload 34 (gd rfl) rfl rfl ?_
      refine g_laload 35 (gd rfl) rfl (n := 2001) rfl (in_ix i23 rfl) (fun z34 e34 => ?_)
      refine g_lstore 37 (gd rfl) rfl (Nat.le_of_ble_eq_true rfl) ?_
      refine g_iload 39 (gd rfl) rfl rfl ?_
      refine g_lload 41 (gd rfl) rfl rfl ?_
      refine g_bipush 32 43 (gd rfl) rfl rfl ?_
      refine g_lshr 44 (gd rfl) rfl (fun z43 e43 => ?_)
      refine g_ldc2_w 7 47 (gd rfl) rfl rfl ?_
      refine g_land 48 (gd rfl) rfl (fun z47 e47 => ?_)
      have i47 := inl_and2 e47 (l_c 7 rfl) rfl
      refine g_l2i 49 (gd rfl) rfl (fun z48 e48 => ?_)
      refine g_cmp_lt 52 54 (gd rfl) rfl rfl (fun c49 => ?_) (fun c49 => ?_)
      · skip
        have i49 := r_lt1 0 2147483646 c49 h5 (i_rng z48) rfl
        have i49a := r_lt2 1 2147483647 c49 h5 (i_rng z48) rfl
        refine g_lload 56 (gd rfl) rfl rfl ?_
        refine g_bipush 24 58 (gd rfl) rfl rfl ?_
        refine g_bipush 8 60 (gd rfl) rfl rfl ?_
        refine g_iload 62 (gd rfl) rfl rfl ?_
        refine g_imul 63 (gd rfl) rfl (fun z62 e62 => ?_)
        refine g_isub 64 (gd rfl) rfl (fun z63 e63 => ?_)
        refine g_lshr 65 (gd rfl) rfl (fun z64 e64 => ?_)
        refine g_ldc2_w 255 68 (gd rfl) rfl rfl ?_
        refine g_land 69 (gd rfl) rfl (fun z68 e68 => ?_)
        have i68 := inl_and2 e68 (l_c 255 rfl) rfl
        refine g_l2i 70 (gd rfl) rfl (fun z69 e69 => ?_)
        have n70 : SHG (gvD s) s4 := by exact p4d.1
        have n70a : KSG (gvD s) s4 := by exact p4e
        have n70b : SAV (gvD s) (x2).toNatClampNeg (x3).toNatClampNeg (x4).toInt (x5).toInt (z69).toInt := by have hn : (s4.2.2.1 49 11).toInt = (SHN (gvD s) (x2).toNatClampNeg (x3).toNatClampNeg) := (by have h9 := p4d.1.2; rw [p4d.2.1, p4d.2.2] at h9; exact h9); have h8 : (z8).toInt = (SHN (gvD s) (x2).toNatClampNeg (x3).toNatClampNeg) := (by rw [show z8 = s4.2.2.1 49 11 from e8]; exact hn); have h20 := h8; have ks := p4e (by rw [hn, ← h8]; (first | have a0 := oa5 i23 h3 h2 i49 i23a | ((first | have a0 := in_u i23 | (have a0 := i23; unfold In at a0)); (first | have a1 := in_u h3 | (have a1 := h3; unfold In at a1)); (first | have a2 := in_u h2 | (have a2 := h2; unfold In at a2)); (first | have a3 := in_u i49 | (have a3 := i49; unfold In at a3)); (first | have a4 := in_u i23a | (have a4 := i23a; unfold In at a4)))); have oc := oc_206_49_32; omega); rw [hn, p4d.2.1, p4d.2.2] at ks; have kk : kvl (s4.2.1 55) (x4).toInt.toNat = (z34).toInt := congrArg Int64.toInt (show s4.2.1 55 (x4).toInt.toNat = z34 from e34.symm); have l43 := lsr_32 e43; have l47 := lan_8 e47; have l48 := l2i_v e48 (by (first | have a0 := oa5 i23 h3 h2 i49 i23a | ((first | have a0 := in_u i23 | (have a0 := i23; unfold In at a0)); (first | have a1 := in_u h3 | (have a1 := h3; unfold In at a1)); (first | have a2 := in_u h2 | (have a2 := h2; unfold In at a2)); (first | have a3 := in_u i49 | (have a3 := i49; unfold In at a3)); (first | have a4 := in_u i23a | (have a4 := i23a; unfold In at a4)))); have oc := oc_206_49_32; omega); have len : kvl (s4.2.1 55) (x4).toInt.toNat / 4294967296 % 8 = (z48).toInt := (by rw [kk, l48, l47, l43]); have l7 : (z48).toInt ≤ 7 := (by have h9 := len; omega); have ix5 : In x5 0 6 := ⟨h5.1, by have h9 := c49; omega⟩; have t62 := t_mulc 8 (show z62 = Int32.ofInt 8 * x5 ∨ z62 = x5 * Int32.ofInt 8 from (by first | exact Or.inl e62 | exact Or.inr e62)) ix5 rfl; have t63 := t_sub e63 (in_c 24 rfl) (show In z62 0 48 from ⟨by have h9 := t62.1; have h8 := ix5.1; omega, by have h9 := t62.1; have h8 := ix5.2; omega⟩) rfl; have c24 : (Int32.ofInt 24).toInt = 24 := rfl; exact Or.inr ⟨by rw [← h8]; (first | have a0 := oa5 i23 h3 h2 i49 i23a | ((first | have a0 := in_u i23 | (have a0 := i23; unfold In at a0)); (first | have a1 := in_u h3 | (have a1 := h3; unfold In at a1)); (first | have a2 := in_u h2 | (have a2 := h2; unfold In at a2)); (first | have a3 := in_u i49 | (have a3 := i49; unfold In at a3)); (first | have a4 := in_u i23a | (have a4 := i23a; unfold In at a4)))); have oc := oc_206_49_32; omega, by rw [← h20]; (first | have a0 := oa5 i23 h3 h2 i49 i23a | ((first | have a0 := in_u i23 | (have a0 := i23; unfold In at a0)); (first | have a1 := in_u h3 | (have a1 := h3; unfold In at a1)); (first | have a2 := in_u h2 | (have a2 := h2; unfold In at a2)); (first | have a3 := in_u i49 | (have a3 := i49; unfold In at a3)); (first | have a4 := in_u i23a | (have a4 := i23a; unfold In at a4)))); have oc := oc_206_49_32; omega, kvl (s4.2.1 55), ks.2, ks.1, Or.inr ⟨by rw [len]; (first | have a0 := oa5 i23 h3 h2 i49 i23a | ((first | have a0 := in_u i23 | (have a0 := i23; unfold In at a0)); (first | have a1 := in_u h3 | (have a1 := h3; unfold In at a1)); (first | have a2 := in_u h2 | (have a2 := h2; unfold In at a2)); (first | have a3 := in_u i49 | (have a3 := i49; unfold In at a3)); (first | have a4 := in_u i23a | (have a4 := i23a; unfold In at a4)))); have oc := oc_206_49_32; omega, (by rw [kk, l2i_v e69 (by have := lan_256 e68; (first | have a0 := oa5 i23 h3 h2 i49 i23a | ((first | have a0 := in_u i23 | (have a0 := i23; unfold In at a0)); (first | have a1 := in_u h3 | (have a1 := h3; unfold In at a1)); (first | have a2 := in_u h2 | (have a2 := h2; unfold In at a2)); (first | have a3 := in_u i49 | (have a3 := i49; unfold In at a3)); (first | have a4 := in_u i23a | (have a4 := i23a; unfold In at a4)))); have oc := oc_206_49_32; omega)]; exact lsr_j e64 (by have h9 := t62.1; omega) ix5.1 ix5.2 e68)⟩⟩
        exact g_ireturn (gd rfl) rfl rfl (hP _ _ ⟨s4, hI4, (fr_tr rfl fr_rf hF4), z69, rfl, rfl, in_w (-2147483648) 2147483647 (i_rng z69) rfl, n70, n70a, n70b⟩)
      · skip
        refine g_iconst (-1) 53 (gd rfl) rfl rfl ?_
        have n53 : SHG (gvD s) s4 := by exact p4d.1
        have n53a : KSG (gvD s) s4 := by exact p4e
        have n53b : SAV (gvD s) (x2).toNatClampNeg (x3).toNatClampNeg (x4).toInt (x5).toInt ((Int32.ofInt (-1))).toInt := by have hn : (s4.2.2.1 49 11).toInt = (SHN (gvD s) (x2).toNatClampNeg (x3).toNatClampNeg) := (by have h9 := p4d.1.2; rw [p4d.2.1, p4d.2.2] at h9; exact h9); have h8 : (z8).toInt = (SHN (gvD s) (x2).toNatClampNeg (x3).toNatClampNeg) := (by rw [show z8 = s4.2.2.1 49 11 from e8]; exact hn); have h20 := h8; have ks := p4e (by rw [hn, ← h8]; (first | have a0 := oa5 i23 h3 h2 h5 i23a | ((first | have a0 := in_u i23 | (have a0 := i23; unfold In at a0)); (first | have a1 := in_u h3 | (have a1 := h3; unfold In at a1)); (first | have a2 := in_u h2 | (have a2 := h2; unfold In at a2)); (first | have a3 := in_u h5 | (have a3 := h5; unfold In at a3)); (first | have a4 := in_u i23a | (have a4 := i23a; unfold In at a4)))); have oc := oc_206_49_32; omega); rw [hn, p4d.2.1, p4d.2.2] at ks; have kk : kvl (s4.2.1 55) (x4).toInt.toNat = (z34).toInt := congrArg Int64.toInt (show s4.2.1 55 (x4).toInt.toNat = z34 from e34.symm); have l43 := lsr_32 e43; have l47 := lan_8 e47; have l48 := l2i_v e48 (by (first | have a0 := oa5 i23 h3 h2 h5 i23a | ((first | have a0 := in_u i23 | (have a0 := i23; unfold In at a0)); (first | have a1 := in_u h3 | (have a1 := h3; unfold In at a1)); (first | have a2 := in_u h2 | (have a2 := h2; unfold In at a2)); (first | have a3 := in_u h5 | (have a3 := h5; unfold In at a3)); (first | have a4 := in_u i23a | (have a4 := i23a; unfold In at a4)))); have oc := oc_206_49_32; omega); have len : kvl (s4.2.1 55) (x4).toInt.toNat / 4294967296 % 8 = (z48).toInt := (by rw [kk, l48, l47, l43]); exact Or.inr ⟨by rw [← h8]; (first | have a0 := oa5 i23 h3 h2 h5 i23a | ((first | have a0 := in_u i23 | (have a0 := i23; unfold In at a0)); (first | have a1 := in_u h3 | (have a1 := h3; unfold In at a1)); (first | have a2 := in_u h2 | (have a2 := h2; unfold In at a2)); (first | have a3 := in_u h5 | (have a3 := h5; unfold In at a3)); (first | have a4 := in_u i23a | (have a4 := i23a; unfold In at a4)))); have oc := oc_206_49_32; omega, by rw [← h20]; (first | have a0 := oa5 i23 h3 h2 h5 i23a | ((first | have a0 := in_u i23 | (have a0 := i23; unfold In at a0)); (first | have a1 := in_u h3 | (have a1 := h3; unfold In at a1)); (first | have a2 := in_u h2 | (have a2 := h2; unfold In at a2)); (first | have a3 := in_u h5 | (have a3 := h5; unfold In at a3)); (first | have a4 := in_u i23a | (have a4 := i23a; unfold In at a4)))); have oc := oc_206_49_32; omega, kvl (s4.2.1 55), ks.2, ks.1, Or.inl ⟨by rw [len]; (first | have a0 := oa5 i23 h3 h2 h5 i23a | ((first | have a0 := in_u i23 | (have a0 := i23; unfold In at a0)); (first | have a1 := in_u h3 | (have a1 := h3; unfold In at a1)); (first | have a2 := in_u h2 | (have a2 := h2; unfold In at a2)); (first | have a3 := in_u h5 | (have a3 := h5; unfold In at a3)); (first | have a4 := in_u i23a | (have a4 := i23a; unfold In at a4)))); have oc := oc_206_49_32; omega, rfl⟩⟩
        exact g_ireturn (gd rfl) rfl rfl (hP _ _ ⟨s4, hI4, (fr_tr rfl fr_rf hF4), (Int32.ofInt (-1)), rfl, rfl, in_w (-2147483648) 2147483647 (in_c (-1) rfl) rfl, n53, n53a, n53b⟩)
    · skip
      refine g_iconst (-1) 27 (gd rfl) rfl rfl ?_
      have n27 : SHG (gvD s) s4 := by exact p4d.1
      have n27a : KSG (gvD s) s4 := by exact p4e
      have n27b : SAV (gvD s) (x2).toNatClampNeg (x3).toNatClampNeg (x4).toInt (x5).toInt ((Int32.ofInt (-1))).toInt := by have hn : (s4.2.2.1 49 11).toInt = (SHN (gvD s) (x2).toNatClampNeg (x3).toNatClampNeg) := (by have h9 := p4d.1.2; rw [p4d.2.1, p4d.2.2] at h9; exact h9); have h8 : (z8).toInt = (SHN (gvD s) (x2).toNatClampNeg (x3).toNatClampNeg) := (by rw [show z8 = s4.2.2.1 49 11 from e8]; exact hn); have h20 := h8; exact Or.inl ⟨Or.inr (by rw [← h20]; (first | have a0 := oa5 h3 h2 h5 h4 i14 | ((first | have a0 := in_u h3 | (have a0 := h3; unfold In at a0)); (first | have a1 := in_u h2 | (have a1 := h2; unfold In at a1)); (first | have a2 := in_u h5 | (have a2 := h5; unfold In at a2)); (first | have a3 := in_u h4 | (have a3 := h4; unfold In at a3)); (first | have a4 := in_u i14 | (have a4 := i14; unfold In at a4)))); have oc := oc_206_49_32; omega), rfl⟩
      exact g_ireturn (gd rfl) rfl rfl (hP _ _ ⟨s4, hI4, (fr_tr rfl fr_rf hF4), (Int32.ofInt (-1)), rfl, rfl, in_w (-2147483648) 2147483647 (in_c (-1) rfl) rfl, n27, n27a, n27b⟩)

theorem oc_232_0 : (Int32.ofInt (-1)).toInt = (-1) ∧ (Int32.ofInt 0).toInt = 0 ∧ (Int32.ofInt 1).toInt = 1 := ⟨rfl, rfl, rfl⟩
/-- GraphHouse.shorts -/
theorem f_232_0 {Z : AmZ} {A : Nat → Nat} {s : GS} {ex : va_W} {d : Nat} {x1 : Int32} {x2 : Int32} (hd : 24 ≤ d) (hI : Inv s) (q_0 : TQ s) (q_1 : TQD s) (q_2 : NDC s) (q_3 : SKBC s) : GC Z d 232 [.ref (A 0), .int x1, .int x2] (WW Z A s ++ ex) 3 18 (fun v u => ∃ t : GS, Inv t ∧ Fr fm_232_0 s t ∧ ∃ z : Int32, v = some (.int z) ∧ u = WW Z A t ++ ex ∧ In z (-2) 2000 ∧ ((TWO (shC s).2.2.2.2.2.2.1 x1 x2) ∧ SHV (shC s) x1.toNatClampNeg x2.toNatClampNeg (z).toInt) ∧ (SKG (shC s) t)) (gEx Z A ex ([], [], [], []) s (¬ (TWO (shC s).2.2.2.2.2.2.1 x1 x2)) (False)) := by
  intro post xp hP hX
  obtain ⟨u_0_2, e_0_2⟩ : ∃ w, w = s.2.2.1 0 2 := ⟨_, rfl⟩
  have ro_0_2 := inv_F hI (-1) 4000 rfl e_0_2
  obtain ⟨u_2_1, e_2_1⟩ : ∃ w, w = s.2.2.1 2 1 := ⟨_, rfl⟩
  have ro_2_1 := inv_F hI 0 32 rfl e_2_1
  obtain ⟨u_32_1, e_32_1⟩ : ∃ w, w = s.2.2.1 32 1 := ⟨_, rfl⟩
  have ro_32_1 := inv_F hI 0 32 rfl e_32_1
  refine g_enter2 (k := 232) (N := 900) (by first | exact dq1 hd rfl | exact dq0 hd rfl | exact dq2 hd rfl | exact dq3 hd rfl | omega) rfl (Nat.le_of_ble_eq_true rfl) ?_
  refine g_aload_n 1 (gd rfl) rfl rfl ?_
  refine g_callv (X := _) (As := []) (r := []) (b := A 0) (q := 0) 4 (gd rfl) rfl rfl rfl rfl rfl (ww_o rfl) (Nat.le_of_ble_eq_true rfl) (mc := 0) (ms := 0) (Nat.zero_le _) (Nat.zero_le _) (P := fun v u => _) ?_ (fun e u h => h) (fun v u h => h)
  intro po1 xx1 hp1 hx1
  refine g_enter2 (k := 259) (N := 300) (by first | exact dq1 hd rfl | exact dq0 hd rfl | exact dq2 hd rfl | exact dq3 hd rfl | omega) rfl (Nat.le_of_ble_eq_true rfl) ?_
  refine g_aload_n 1 (gd rfl) rfl rfl ?_
  refine g_getI 4 (gd rfl) rfl rfl rfl (fun z1x1 e1x1 => ?_)
  have q1x1 : u_0_2 = z1x1 := (e_0_2).trans e1x1.symm
  subst q1x1
  refine g_iconst (-1) 5 (gd rfl) rfl rfl ?_
  refine g_cmp_ne 8 18 (gd rfl) rfl rfl (fun c1x5 => ?_) (fun c1x5 => ?_)
  · skip
    have i1x5 := r_ne1 0 4000 c1x5 ro_0_2 (in_c (-1) rfl) rfl
    refine g_aload_n 19 (gd rfl) rfl rfl ?_
    refine g_getA (q2 := 32) 22 (gd rfl) rfl rfl rfl rfl ?_
    refine g_areturn (gd rfl) rfl (hp1 _ _ ?_)
    show GG _ _ _ _ _ _ _ _ [.ref (A 32)] _ _ _
    refine g_astore_n 5 (gd rfl) rfl (Nat.le_of_ble_eq_true rfl) ?_
    refine g_aload_n 6 (gd rfl) rfl rfl ?_
    refine g_iload_n 7 (gd rfl) rfl rfl ?_
    refine g_iload_n 8 (gd rfl) rfl rfl ?_
    refine g_callv (X := _) (As := [.int x1, .int x2]) (r := []) (b := A 32) (q := 32) 11 (gd rfl) rfl rfl rfl rfl rfl (ww_o rfl) (Nat.le_of_ble_eq_true rfl) (mc := 0) (ms := 0) (Nat.zero_le _) (Nat.zero_le _) (P := fun v u => _) ?_ (fun e u h => h) (fun v u h => h)
    intro po8 xx8 hp8 hx8
    refine g_enter2 (k := 95) (N := 300) (by first | exact dq1 hd rfl | exact dq0 hd rfl | exact dq2 hd rfl | exact dq3 hd rfl | omega) rfl (Nat.le_of_ble_eq_true rfl) ?_
    refine g_aload_n 1 (gd rfl) rfl rfl ?_
    refine g_iload_n 2 (gd rfl) rfl rfl ?_
    refine g_callv (X := _) (As := [.int x1]) (r := []) (b := A 32) (q := 32) 5 (gd rfl) rfl rfl rfl rfl rfl (ww_o rfl) (Nat.le_of_ble_eq_true rfl) (mc := 0) (ms := 0) (Nat.zero_le _) (Nat.zero_le _) (P := fun v u => _) ?_ (fun e u h => h) (fun v u h => h)
    intro po8x2 xx8x2 hp8x2 hx8x2
    refine g_enter2 (k := 94) (N := 300) (by first | exact dq1 hd rfl | exact dq0 hd rfl | exact dq2 hd rfl | exact dq3 hd rfl | omega) rfl (Nat.le_of_ble_eq_true rfl) ?_
    refine g_iload_n 1 (gd rfl) rfl rfl ?_
    refine g_if_lt 4 16 (gd rfl) rfl rfl (fun c8x2x1 => ?_) (fun c8x2x1 => ?_)
    · skip
      have i8x2x1 := z_lt (-2147483648) (-1) c8x2x1 (i_rng x1) rfl
      refine g_iconst 0 17 (gd rfl) rfl rfl ?_
      refine g_ireturn (gd rfl) rfl (nb01 (in_w 0 1 (in_c 0 rfl) rfl)) (hp8x2 _ _ ?_)
      show GG _ _ _ _ _ _ _ _ [.int (Int32.ofInt 0)] _ _ _
      refine g_if_eq 8 25 (gd rfl) rfl rfl (fun c8x5 => ?_) (fun c8x5 => ?_)
      · skip
        refine g_iconst 0 26 (gd rfl) rfl rfl ?_
        refine g_ireturn (gd rfl) rfl (nb01 (in_w 0 1 (in_c 0 rfl) rfl)) (hp8 _ _ ?_)
        show GG _ _ _ _ _ _ _ _ [.int (Int32.ofInt 0)] _ _ _
        refine g_thr (E := am_IA) (y := yX11_allow) 14 (gd rfl) rfl rfl (Or.inl ⟨rfl, rfl, rfl⟩) (by first | exact dq1 hd rfl | exact dq0 hd rfl | exact dq2 hd rfl | exact dq3 hd rfl | omega) (Nat.le_of_ble_eq_true rfl) (Nat.le_of_ble_eq_true rfl) (Nat.le_of_ble_eq_true rfl) (fun c11 => ?_) (fun c11 => ?_)
        · skip
          exact zn_ne c11 (in_c 0 rfl) rfl
        · skip
          have n11 : ¬ (TWO (shC s).2.2.2.2.2.2.1 x1 x2) := by first | (rw [shC_n (by rw [← e1x1]; exact c1x5)]; show ¬ TWO (s.2.2.1 2 1).toInt x1 x2; rw [← e_2_1]; (first | have a0 := oa4 ro_32_1 ro_2_1 i1x5 i8x2x1 | ((first | have a0 := in_u ro_32_1 | (have a0 := ro_32_1; unfold In at a0)); (first | have a1 := in_u ro_2_1 | (have a1 := ro_2_1; unfold In at a1)); (first | have a2 := in_u i1x5 | (have a2 := i1x5; unfold In at a2)); (first | have a3 := in_u i8x2x1 | (have a3 := i8x2x1; unfold In at a3)))); have oc := oc_232_0; omega) | (rw [shC_d (by rw [← e1x1]; exact c1x5)]; show ¬ TWO (s.2.2.1 32 1).toInt x1 x2; rw [← e_32_1]; (first | have a0 := oa4 ro_32_1 ro_2_1 i1x5 i8x2x1 | ((first | have a0 := in_u ro_32_1 | (have a0 := ro_32_1; unfold In at a0)); (first | have a1 := in_u ro_2_1 | (have a1 := ro_2_1; unfold In at a1)); (first | have a2 := in_u i1x5 | (have a2 := i1x5; unfold In at a2)); (first | have a3 := in_u i8x2x1 | (have a3 := i8x2x1; unfold In at a3)))); have oc := oc_232_0; omega)
          exact (hX _ _ ⟨Or.inl ⟨rfl, n11⟩, s, hI, fr_rf, rfl⟩)
      · skip
        exact zn_ne c8x5 (in_c 0 rfl) rfl
    · skip
      have i8x2x1 := z_ge 0 2147483647 c8x2x1 (i_rng x1) rfl
      refine g_iload_n 5 (gd rfl) rfl rfl ?_
      refine g_aload_n 6 (gd rfl) rfl rfl ?_
      refine g_getI 9 (gd rfl) rfl rfl rfl (fun z8x2x6 e8x2x6 => ?_)
      have q8x2x6 : u_32_1 = z8x2x6 := (e_32_1).trans e8x2x6.symm
      subst q8x2x6
      refine g_cmp_ge 12 16 (gd rfl) rfl rfl (fun c8x2x9 => ?_) (fun c8x2x9 => ?_)
      · skip
        refine g_iconst 0 17 (gd rfl) rfl rfl ?_
        refine g_ireturn (gd rfl) rfl (nb01 (in_w 0 1 (in_c 0 rfl) rfl)) (hp8x2 _ _ ?_)
        show GG _ _ _ _ _ _ _ _ [.int (Int32.ofInt 0)] _ _ _
        refine g_if_eq 8 25 (gd rfl) rfl rfl (fun c8x5 => ?_) (fun c8x5 => ?_)
        · skip
          refine g_iconst 0 26 (gd rfl) rfl rfl ?_
          refine g_ireturn (gd rfl) rfl (nb01 (in_w 0 1 (in_c 0 rfl) rfl)) (hp8 _ _ ?_)
          show GG _ _ _ _ _ _ _ _ [.int (Int32.ofInt 0)] _ _ _
          refine g_thr (E := am_IA) (y := yX11_allow) 14 (gd rfl) rfl rfl (Or.inl ⟨rfl, rfl, rfl⟩) (by first | exact dq1 hd rfl | exact dq0 hd rfl | exact dq2 hd rfl | exact dq3 hd rfl | omega) (Nat.le_of_ble_eq_true rfl) (Nat.le_of_ble_eq_true rfl) (Nat.le_of_ble_eq_true rfl) (fun c11 => ?_) (fun c11 => ?_)
          · skip
            exact zn_ne c11 (in_c 0 rfl) rfl
          · skip
            have n11 : ¬ (TWO (shC s).2.2.2.2.2.2.1 x1 x2) := by first | (rw [shC_n (by rw [← e1x1]; exact c1x5)]; show ¬ TWO (s.2.2.1 2 1).toInt x1 x2; rw [← e_2_1]; (first | have a0 := oa4 ro_32_1 ro_2_1 i1x5 i8x2x1 | ((first | have a0 := in_u ro_32_1 | (have a0 := ro_32_1; unfold In at a0)); (first | have a1 := in_u ro_2_1 | (have a1 := ro_2_1; unfold In at a1)); (first | have a2 := in_u i1x5 | (have a2 := i1x5; unfold In at a2)); (first | have a3 := in_u i8x2x1 | (have a3 := i8x2x1; unfold In at a3)))); have oc := oc_232_0; omega) | (rw [shC_d (by rw [← e1x1]; exact c1x5)]; show ¬ TWO (s.2.2.1 32 1).toInt x1 x2; rw [← e_32_1]; (first | have a0 := oa4 ro_32_1 ro_2_1 i1x5 i8x2x1 | ((first | have a0 := in_u ro_32_1 | (have a0 := ro_32_1; unfold In at a0)); (first | have a1 := in_u ro_2_1 | (have a1 := ro_2_1; unfold In at a1)); (first | have a2 := in_u i1x5 | (have a2 := i1x5; unfold In at a2)); (first | have a3 := in_u i8x2x1 | (have a3 := i8x2x1; unfold In at a3)))); have oc := oc_232_0; omega)
            exact (hX _ _ ⟨Or.inl ⟨rfl, n11⟩, s, hI, fr_rf, rfl⟩)
        · skip
          exact zn_ne c8x5 (in_c 0 rfl) rfl
      · skip
        have i8x2x9 := r_lt1 0 31 c8x2x9 i8x2x1 ro_32_1 rfl
        have i8x2x9a := r_lt2 1 32 c8x2x9 i8x2x1 ro_32_1 rfl
        refine g_iconst 1 13 (gd rfl) rfl rfl ?_
        refine g_goto 17 (gd rfl) rfl ?_
        refine g_ireturn (gd rfl) rfl (nb01 (in_w 0 1 (in_c 1 rfl) rfl)) (hp8x2 _ _ ?_)
        show GG _ _ _ _ _ _ _ _ [.int (Int32.ofInt 1)] _ _ _
        refine g_if_eq 8 25 (gd rfl) rfl rfl (fun c8x5 => ?_) (fun c8x5 => ?_)
        · skip
          exact zn_eq c8x5 (in_c 1 rfl) rfl
        · skip
          refine g_aload_n 9 (gd rfl) rfl rfl ?_
          refine g_iload_n 10 (gd rfl) rfl rfl ?_
          refine g_callv (X := _) (As := [.int x2]) (r := []) (b := A 32) (q := 32) 13 (gd rfl) rfl rfl rfl rfl rfl (ww_o rfl) (Nat.le_of_ble_eq_true rfl) (mc := 0) (ms := 0) (Nat.zero_le _) (Nat.zero_le _) (P := fun v u => _) ?_ (fun e u h => h) (fun v u h => h)
          intro po8x10 xx8x10 hp8x10 hx8x10
          refine g_enter2 (k := 94) (N := 300) (by first | exact dq1 hd rfl | exact dq0 hd rfl | exact dq2 hd rfl | exact dq3 hd rfl | omega) rfl (Nat.le_of_ble_eq_true rfl) ?_
          refine g_iload_n 1 (gd rfl) rfl rfl ?_
          refine g_if_lt 4 16 (gd rfl) rfl rfl (fun c8x10x1 => ?_) (fun c8x10x1 => ?_)
          · skip
            have i8x10x1 := z_lt (-2147483648) (-1) c8x10x1 (i_rng x2) rfl
            refine g_iconst 0 17 (gd rfl) rfl rfl ?_
            refine g_ireturn (gd rfl) rfl (nb01 (in_w 0 1 (in_c 0 rfl) rfl)) (hp8x10 _ _ ?_)
            show GG _ _ _ _ _ _ _ _ [.int (Int32.ofInt 0)] _ _ _
            refine g_if_eq 16 25 (gd rfl) rfl rfl (fun c8x13 => ?_) (fun c8x13 => ?_)
            · skip
              refine g_iconst 0 26 (gd rfl) rfl rfl ?_
              refine g_ireturn (gd rfl) rfl (nb01 (in_w 0 1 (in_c 0 rfl) rfl)) (hp8 _ _ ?_)
              show GG _ _ _ _ _ _ _ _ [.int (Int32.ofInt 0)] _ _ _
              refine g_thr (E := am_IA) (y := yX11_allow) 14 (gd rfl) rfl rfl (Or.inl ⟨rfl, rfl, rfl⟩) (by first | exact dq1 hd rfl | exact dq0 hd rfl | exact dq2 hd rfl | exact dq3 hd rfl | omega) (Nat.le_of_ble_eq_true rfl) (Nat.le_of_ble_eq_true rfl) (Nat.le_of_ble_eq_true rfl) (fun c11 => ?_) (fun c11 => ?_)
              · skip
                exact zn_ne c11 (in_c 0 rfl) rfl
              · skip
                have n11 : ¬ (TWO (shC s).2.2.2.2.2.2.1 x1 x2) := by first | (rw [shC_n (by rw [← e1x1]; exact c1x5)]; show ¬ TWO (s.2.2.1 2 1).toInt x1 x2; rw [← e_2_1]; (first | have a0 := oa5 i8x2x9 i8x2x9a ro_2_1 i1x5 i8x10x1 | ((first | have a0 := in_u i8x2x9 | (have a0 := i8x2x9; unfold In at a0)); (first | have a1 := in_u i8x2x9a | (have a1 := i8x2x9a; unfold In at a1)); (first | have a2 := in_u ro_2_1 | (have a2 := ro_2_1; unfold In at a2)); (first | have a3 := in_u i1x5 | (have a3 := i1x5; unfold In at a3)); (first | have a4 := in_u i8x10x1 | (have a4 := i8x10x1; unfold In at a4)))); have oc := oc_232_0; omega) | (rw [shC_d (by rw [← e1x1]; exact c1x5)]; show ¬ TWO (s.2.2.1 32 1).toInt x1 x2; rw [← e_32_1]; (first | have a0 := oa5 i8x2x9 i8x2x9a ro_2_1 i1x5 i8x10x1 | ((first | have a0 := in_u i8x2x9 | (have a0 := i8x2x9; unfold In at a0)); (first | have a1 := in_u i8x2x9a | (have a1 := i8x2x9a; unfold In at a1)); (first | have a2 := in_u ro_2_1 | (have a2 := ro_2_1; unfold In at a2)); (first | have a3 := in_u i1x5 | (have a3 := i1x5; unfold In at a3)); (first | have a4 := in_u i8x10x1 | (have a4 := i8x10x1; unfold In at a4)))); have oc := oc_232_0; omega)
                exact (hX _ _ ⟨Or.inl ⟨rfl, n11⟩, s, hI, fr_rf, rfl⟩)
            · skip
              exact zn_ne c8x13 (in_c 0 rfl) rfl
          · skip
            have i8x10x1 := z_ge 0 2147483647 c8x10x1 (i_rng x2) rfl
            refine g_iload_n 5 (gd rfl) rfl rfl ?_
            refine g_aload_n 6 (gd rfl) rfl rfl ?_
            refine g_getI 9 (gd rfl) rfl rfl rfl (fun z8x10x6 e8x10x6 => ?_)
            have q8x10x6 : u_32_1 = z8x10x6 := (e_32_1).trans e8x10x6.symm
            subst q8x10x6
            refine g_cmp_ge 12 16 (gd rfl) rfl rfl (fun c8x10x9 => ?_) (fun c8x10x9 => ?_)
            · skip
              have i8x10x9 := r_le2 1 2147483647 c8x10x9 i8x2x9a i8x10x1 rfl
              refine g_iconst 0 17 (gd rfl) rfl rfl ?_
              refine g_ireturn (gd rfl) rfl (nb01 (in_w 0 1 (in_c 0 rfl) rfl)) (hp8x10 _ _ ?_)
              show GG _ _ _ _ _ _ _ _ [.int (Int32.ofInt 0)] _ _ _
              refine g_if_eq 16 25 (gd rfl) rfl rfl (fun c8x13 => ?_) (fun c8x13 => ?_)
              · skip
                refine g_iconst 0 26 (gd rfl) rfl rfl ?_
                refine g_ireturn (gd rfl) rfl (nb01 (in_w 0 1 (in_c 0 rfl) rfl)) (hp8 _ _ ?_)
                show GG _ _ _ _ _ _ _ _ [.int (Int32.ofInt 0)] _ _ _
                refine g_thr (E := am_IA) (y := yX11_allow) 14 (gd rfl) rfl rfl (Or.inl ⟨rfl, rfl, rfl⟩) (by first | exact dq1 hd rfl | exact dq0 hd rfl | exact dq2 hd rfl | exact dq3 hd rfl | omega) (Nat.le_of_ble_eq_true rfl) (Nat.le_of_ble_eq_true rfl) (Nat.le_of_ble_eq_true rfl) (fun c11 => ?_) (fun c11 => ?_)
                · skip
                  exact zn_ne c11 (in_c 0 rfl) rfl
                · skip
                  have n11 : ¬ (TWO (shC s).2.2.2.2.2.2.1 x1 x2) := by first | (rw [shC_n (by rw [← e1x1]; exact c1x5)]; show ¬ TWO (s.2.2.1 2 1).toInt x1 x2; rw [← e_2_1]; (first | have a0 := oa5 i8x2x9 i8x2x9a ro_2_1 i1x5 i8x10x9 | ((first | have a0 := in_u i8x2x9 | (have a0 := i8x2x9; unfold In at a0)); (first | have a1 := in_u i8x2x9a | (have a1 := i8x2x9a; unfold In at a1)); (first | have a2 := in_u ro_2_1 | (have a2 := ro_2_1; unfold In at a2)); (first | have a3 := in_u i1x5 | (have a3 := i1x5; unfold In at a3)); (first | have a4 := in_u i8x10x9 | (have a4 := i8x10x9; unfold In at a4)))); have oc := oc_232_0; omega) | (rw [shC_d (by rw [← e1x1]; exact c1x5)]; show ¬ TWO (s.2.2.1 32 1).toInt x1 x2; rw [← e_32_1]; (first | have a0 := oa5 i8x2x9 i8x2x9a ro_2_1 i1x5 i8x10x9 | ((first | have a0 := in_u i8x2x9 | (have a0 := i8x2x9; unfold In at a0)); (first | have a1 := in_u i8x2x9a | (have a1 := i8x2x9a; unfold In at a1)); (first | have a2 := in_u ro_2_1 | (have a2 := ro_2_1; unfold In at a2)); (first | have a3 := in_u i1x5 | (have a3 := i1x5; unfold In at a3)); (first | have a4 := in_u i8x10x9 | (have a4 := i8x10x9; unfold In at a4)))); have oc := oc_232_0; omega)
                  exact (hX _ _ ⟨Or.inl ⟨rfl, n11⟩, s, hI, fr_rf, rfl⟩)
              · skip
                exact zn_ne c8x13 (in_c 0 rfl) rfl
            · skip
              have i8x10x9 := r_lt1 0 31 c8x10x9 i8x10x1 i8x2x9a rfl
              refine g_iconst 1 13 (gd rfl) rfl rfl ?_
              refine g_goto 17 (gd rfl) rfl ?_
              refine g_ireturn (gd rfl) rfl (nb01 (in_w 0 1 (in_c 1 rfl) rfl)) (hp8x10 _ _ ?_)
              show GG _ _ _ _ _ _ _ _ [.int (Int32.ofInt 1)] _ _ _
              refine g_if_eq 16 25 (gd rfl) rfl rfl (fun c8x13 => ?_) (fun c8x13 => ?_)
              · skip
                exact zn_eq c8x13 (in_c 1 rfl) rfl
              · skip
                refine g_iload_n 17 (gd rfl) rfl rfl ?_
                refine g_iload_n 18 (gd rfl) rfl rfl ?_
                refine g_cmp_eq 21 25 (gd rfl) rfl rfl (fun c8x18 => ?_) (fun c8x18 => ?_)
                · skip
                  refine g_iconst 0 26 (gd rfl) rfl rfl ?_
                  refine g_ireturn (gd rfl) rfl (nb01 (in_w 0 1 (in_c 0 rfl) rfl)) (hp8 _ _ ?_)
                  show GG _ _ _ _ _ _ _ _ [.int (Int32.ofInt 0)] _ _ _
                  refine g_thr (E := am_IA) (y := yX11_allow) 14 (gd rfl) rfl rfl (Or.inl ⟨rfl, rfl, rfl⟩) (by first | exact dq1 hd rfl | exact dq0 hd rfl | exact dq2 hd rfl | exact dq3 hd rfl | omega) (Nat.le_of_ble_eq_true rfl) (Nat.le_of_ble_eq_true rfl) (Nat.le_of_ble_eq_true rfl) (fun c11 => ?_) (fun c11 => ?_)
                  · skip
                    exact zn_ne c11 (in_c 0 rfl) rfl
                  · skip
                    have n11 : ¬ (TWO (shC s).2.2.2.2.2.2.1 x1 x2) := by first | (rw [shC_n (by rw [← e1x1]; exact c1x5)]; show ¬ TWO (s.2.2.1 2 1).toInt x1 x2; rw [← e_2_1]; (first | have a0 := oa5 i8x10x9 i8x2x9 i8x2x9a ro_2_1 i1x5 | ((first | have a0 := in_u i8x10x9 | (have a0 := i8x10x9; unfold In at a0)); (first | have a1 := in_u i8x2x9 | (have a1 := i8x2x9; unfold In at a1)); (first | have a2 := in_u i8x2x9a | (have a2 := i8x2x9a; unfold In at a2)); (first | have a3 := in_u ro_2_1 | (have a3 := ro_2_1; unfold In at a3)); (first | have a4 := in_u i1x5 | (have a4 := i1x5; unfold In at a4)))); have oc := oc_232_0; omega) | (rw [shC_d (by rw [← e1x1]; exact c1x5)]; show ¬ TWO (s.2.2.1 32 1).toInt x1 x2; rw [← e_32_1]; (first | have a0 := oa5 i8x10x9 i8x2x9 i8x2x9a ro_2_1 i1x5 | ((first | have a0 := in_u i8x10x9 | (have a0 := i8x10x9; unfold In at a0)); (first | have a1 := in_u i8x2x9 | (have a1 := i8x2x9; unfold In at a1)); (first | have a2 := in_u i8x2x9a | (have a2 := i8x2x9a; unfold In at a2)); (first | have a3 := in_u ro_2_1 | (have a3 := ro_2_1; unfold In at a3)); (first | have a4 := in_u i1x5 | (have a4 := i1x5; unfold In at a4)))); have oc := oc_232_0; omega)
                    exact (hX _ _ ⟨Or.inl ⟨rfl, n11⟩, s, hI, fr_rf, rfl⟩)
                · skip
                  refine g_iconst 1 22 (gd rfl) rfl rfl ?_
                  refine g_goto 26 (gd rfl) rfl ?_
                  refine g_ireturn (gd rfl) rfl (nb01 (in_w 0 1 (in_c 1 rfl) rfl)) (hp8 _ _ ?_)
                  show GG _ _ _ _ _ _ _ _ [.int (Int32.ofInt 1)] _ _ _
                  refine g_thr (E := am_IA) (y := yX11_allow) 14 (gd rfl) rfl rfl (Or.inl ⟨rfl, rfl, rfl⟩) (by first | exact dq1 hd rfl | exact dq0 hd rfl | exact dq2 hd rfl | exact dq3 hd rfl | omega) (Nat.le_of_ble_eq_true rfl) (Nat.le_of_ble_eq_true rfl) (Nat.le_of_ble_eq_true rfl) (fun c11 => ?_) (fun c11 => ?_)
                  · skip
                    refine g_aload_n 15 (gd rfl) rfl rfl ?_
                    refine g_getA (q2 := 49) 18 (gd rfl) rfl rfl rfl rfl ?_
                    refine g_aload_n 19 (gd rfl) rfl rfl ?_
                    refine g_iload_n 20 (gd rfl) rfl rfl ?_
                    refine g_iload_n 21 (gd rfl) rfl rfl ?_
                    have p21 : TQD s := by first | exact q_0 | exact q_1
                    have p21a : NDQ (gvD s) := by first | (rw [← shC_n (by rw [← e1x1]; exact c1x5)]; exact q_2) | (rw [← shC_d (by rw [← e1x1]; exact c1x5)]; exact q_2)
                    have p21b : SHB (gvD s) s := by first | (rw [← shC_n (by rw [← e1x1]; exact c1x5)]; exact q_3.1) | (rw [← shC_d (by rw [← e1x1]; exact c1x5)]; exact q_3.1)
                    have p21c : KSB (gvD s) s := by first | (rw [← shC_n (by rw [← e1x1]; exact c1x5)]; exact q_3.2) | (rw [← shC_d (by rw [← e1x1]; exact c1x5)]; exact q_3.2)
                    refine g_callv (X := _) (As := [.ref (A 32), .int x1, .int x2]) (r := []) (b := A 49) (q := 49) 24 (gd rfl) rfl rfl rfl rfl rfl (ww_o rfl) (Nat.le_of_ble_eq_true rfl) (Nat.zero_le _) (Nat.zero_le _) (f_205_49_32 (by first | exact dq1 hd rfl | exact dq0 hd rfl | exact dq2 hd rfl | exact dq3 hd rfl | omega) hI (in_w 0 31 i8x2x9 rfl) (in_w 0 31 i8x10x9 rfl) p21 p21a p21b p21c) (fun e u h => h) (fun v u h => ?_)
                    obtain ⟨s21, hI21, hF21, z21, rfl, rfl, i21, p21d, p21e, p21f⟩ := h
                    show GG _ _ _ _ _ _ _ _ [.int z21] _ _ _
                    have n24 : (TWO (shC s).2.2.2.2.2.2.1 x1 x2) ∧ SHV (shC s) x1.toNatClampNeg x2.toNatClampNeg (z21).toInt := by first | (rw [shC_n (by rw [← e1x1]; exact c1x5)]; exact ⟨⟨⟨by (first | have a0 := oa5 i8x10x9 i8x2x9 i8x2x9a ro_2_1 i1x5 | ((first | have a0 := in_u i8x10x9 | (have a0 := i8x10x9; unfold In at a0)); (first | have a1 := in_u i8x2x9 | (have a1 := i8x2x9; unfold In at a1)); (first | have a2 := in_u i8x2x9a | (have a2 := i8x2x9a; unfold In at a2)); (first | have a3 := in_u ro_2_1 | (have a3 := ro_2_1; unfold In at a3)); (first | have a4 := in_u i1x5 | (have a4 := i1x5; unfold In at a4)))); have oc := oc_232_0; omega, by show x1.toInt < (s.2.2.1 2 1).toInt; rw [← e_2_1]; (first | have a0 := oa5 i8x10x9 i8x2x9 i8x2x9a ro_2_1 i1x5 | ((first | have a0 := in_u i8x10x9 | (have a0 := i8x10x9; unfold In at a0)); (first | have a1 := in_u i8x2x9 | (have a1 := i8x2x9; unfold In at a1)); (first | have a2 := in_u i8x2x9a | (have a2 := i8x2x9a; unfold In at a2)); (first | have a3 := in_u ro_2_1 | (have a3 := ro_2_1; unfold In at a3)); (first | have a4 := in_u i1x5 | (have a4 := i1x5; unfold In at a4)))); have oc := oc_232_0; omega⟩, ⟨by (first | have a0 := oa5 i8x10x9 i8x2x9 i8x2x9a ro_2_1 i1x5 | ((first | have a0 := in_u i8x10x9 | (have a0 := i8x10x9; unfold In at a0)); (first | have a1 := in_u i8x2x9 | (have a1 := i8x2x9; unfold In at a1)); (first | have a2 := in_u i8x2x9a | (have a2 := i8x2x9a; unfold In at a2)); (first | have a3 := in_u ro_2_1 | (have a3 := ro_2_1; unfold In at a3)); (first | have a4 := in_u i1x5 | (have a4 := i1x5; unfold In at a4)))); have oc := oc_232_0; omega, by show x2.toInt < (s.2.2.1 2 1).toInt; rw [← e_2_1]; (first | have a0 := oa5 i8x10x9 i8x2x9 i8x2x9a ro_2_1 i1x5 | ((first | have a0 := in_u i8x10x9 | (have a0 := i8x10x9; unfold In at a0)); (first | have a1 := in_u i8x2x9 | (have a1 := i8x2x9; unfold In at a1)); (first | have a2 := in_u i8x2x9a | (have a2 := i8x2x9a; unfold In at a2)); (first | have a3 := in_u ro_2_1 | (have a3 := ro_2_1; unfold In at a3)); (first | have a4 := in_u i1x5 | (have a4 := i1x5; unfold In at a4)))); have oc := oc_232_0; omega⟩, by (first | have a0 := oa5 i8x10x9 i8x2x9 i8x2x9a ro_2_1 i1x5 | ((first | have a0 := in_u i8x10x9 | (have a0 := i8x10x9; unfold In at a0)); (first | have a1 := in_u i8x2x9 | (have a1 := i8x2x9; unfold In at a1)); (first | have a2 := in_u i8x2x9a | (have a2 := i8x2x9a; unfold In at a2)); (first | have a3 := in_u ro_2_1 | (have a3 := ro_2_1; unfold In at a3)); (first | have a4 := in_u i1x5 | (have a4 := i1x5; unfold In at a4)))); have oc := oc_232_0; omega⟩, p21d⟩) | (rw [shC_d (by rw [← e1x1]; exact c1x5)]; exact ⟨⟨⟨by (first | have a0 := oa5 i8x10x9 i8x2x9 i8x2x9a ro_2_1 i1x5 | ((first | have a0 := in_u i8x10x9 | (have a0 := i8x10x9; unfold In at a0)); (first | have a1 := in_u i8x2x9 | (have a1 := i8x2x9; unfold In at a1)); (first | have a2 := in_u i8x2x9a | (have a2 := i8x2x9a; unfold In at a2)); (first | have a3 := in_u ro_2_1 | (have a3 := ro_2_1; unfold In at a3)); (first | have a4 := in_u i1x5 | (have a4 := i1x5; unfold In at a4)))); have oc := oc_232_0; omega, by show x1.toInt < (s.2.2.1 32 1).toInt; rw [← e_32_1]; (first | have a0 := oa5 i8x10x9 i8x2x9 i8x2x9a ro_2_1 i1x5 | ((first | have a0 := in_u i8x10x9 | (have a0 := i8x10x9; unfold In at a0)); (first | have a1 := in_u i8x2x9 | (have a1 := i8x2x9; unfold In at a1)); (first | have a2 := in_u i8x2x9a | (have a2 := i8x2x9a; unfold In at a2)); (first | have a3 := in_u ro_2_1 | (have a3 := ro_2_1; unfold In at a3)); (first | have a4 := in_u i1x5 | (have a4 := i1x5; unfold In at a4)))); have oc := oc_232_0; omega⟩, ⟨by (first | have a0 := oa5 i8x10x9 i8x2x9 i8x2x9a ro_2_1 i1x5 | ((first | have a0 := in_u i8x10x9 | (have a0 := i8x10x9; unfold In at a0)); (first | have a1 := in_u i8x2x9 | (have a1 := i8x2x9; unfold In at a1)); (first | have a2 := in_u i8x2x9a | (have a2 := i8x2x9a; unfold In at a2)); (first | have a3 := in_u ro_2_1 | (have a3 := ro_2_1; unfold In at a3)); (first | have a4 := in_u i1x5 | (have a4 := i1x5; unfold In at a4)))); have oc := oc_232_0; omega, by show x2.toInt < (s.2.2.1 32 1).toInt; rw [← e_32_1]; (first | have a0 := oa5 i8x10x9 i8x2x9 i8x2x9a ro_2_1 i1x5 | ((first | have a0 := in_u i8x10x9 | (have a0 := i8x10x9; unfold In at a0)); (first | have a1 := in_u i8x2x9 | (have a1 := i8x2x9; unfold In at a1)); (first | have a2 := in_u i8x2x9a | (have a2 := i8x2x9a; unfold In at a2)); (first | have a3 := in_u ro_2_1 | (have a3 := ro_2_1; unfold In at a3)); (first | have a4 := in_u i1x5 | (have a4 := i1x5; unfold In at a4)))); have oc := oc_232_0; omega⟩, by (first | have a0 := oa5 i8x10x9 i8x2x9 i8x2x9a ro_2_1 i1x5 | ((first | have a0 := in_u i8x10x9 | (have a0 := i8x10x9; unfold In at a0)); (first | have a1 := in_u i8x2x9 | (have a1 := i8x2x9; unfold In at a1)); (first | have a2 := in_u i8x2x9a | (have a2 := i8x2x9a; unfold In at a2)); (first | have a3 := in_u ro_2_1 | (have a3 := ro_2_1; unfold In at a3)); (first | have a4 := in_u i1x5 | (have a4 := i1x5; unfold In at a4)))); have oc := oc_232_0; omega⟩, p21d⟩)
                    have n24a : SKG (shC s) s21 := by refine ⟨q_2, ?_⟩; first | (rw [shC_n (by rw [← e1x1]; exact c1x5)]; exact ⟨p21e, p21f⟩) | (rw [shC_d (by rw [← e1x1]; exact c1x5)]; exact ⟨p21e, p21f⟩)
                    exact g_ireturn (gd rfl) rfl rfl (hP _ _ ⟨s21, hI21, (fr_tr rfl fr_rf hF21), z21, rfl, rfl, in_w (-2) 2000 i21 rfl, n24, n24a⟩)
                  · skip
                    exact zn_eq c11 (in_c 1 rfl) rfl
  · skip
    have i1x5 := r_eq1 (-1) (-1) c1x5 ro_0_2 (in_c (-1) rfl) rfl
    refine g_aload_n 9 (gd rfl) rfl rfl ?_
    refine g_getA (q2 := 1) 12 (gd rfl) rfl rfl rfl rfl ?_
    refine g_getA (q2 := 2) 15 (gd rfl) rfl rfl rfl rfl ?_
    refine g_goto 22 (gd rfl) rfl ?_
    refine g_areturn (gd rfl) rfl (hp1 _ _ ?_)
    show GG _ _ _ _ _ _ _ _ [.ref (A 2)] _ _ _
    refine g_astore_n 5 (gd rfl) rfl (Nat.le_of_ble_eq_true rfl) ?_
    refine g_aload_n 6 (gd rfl) rfl rfl ?_
    refine g_iload_n 7 (gd rfl) rfl rfl ?_
    refine g_iload_n 8 (gd rfl) rfl rfl ?_
    refine g_callv (X := _) (As := [.int x1, .int x2]) (r := []) (b := A 2) (q := 2) 11 (gd rfl) rfl rfl rfl rfl rfl (ww_o rfl) (Nat.le_of_ble_eq_true rfl) (mc := 0) (ms := 0) (Nat.zero_le _) (Nat.zero_le _) (P := fun v u => _) ?_ (fun e u h => h) (fun v u h => h)
    intro po8 xx8 hp8 hx8
    refine g_enter2 (k := 95) (N := 300) (by first | exact dq1 hd rfl | exact dq0 hd rfl | exact dq2 hd rfl | exact dq3 hd rfl | omega) rfl (Nat.le_of_ble_eq_true rfl) ?_
    refine g_aload_n 1 (gd rfl) rfl rfl ?_
    refine g_iload_n 2 (gd rfl) rfl rfl ?_
    refine g_callv (X := _) (As := [.int x1]) (r := []) (b := A 2) (q := 2) 5 (gd rfl) rfl rfl rfl rfl rfl (ww_o rfl) (Nat.le_of_ble_eq_true rfl) (mc := 0) (ms := 0) (Nat.zero_le _) (Nat.zero_le _) (P := fun v u => _) ?_ (fun e u h => h) (fun v u h => h)
    intro po8x2 xx8x2 hp8x2 hx8x2
    refine g_enter2 (k := 94) (N := 300) (by first | exact dq1 hd rfl | exact dq0 hd rfl | exact dq2 hd rfl | exact dq3 hd rfl | omega) rfl (Nat.le_of_ble_eq_true rfl) ?_
    refine g_iload_n 1 (gd rfl) rfl rfl ?_
    refine g_if_lt 4 16 (gd rfl) rfl rfl (fun c8x2x1 => ?_) (fun c8x2x1 => ?_)
    · skip
      have i8x2x1 := z_lt (-2147483648) (-1) c8x2x1 (i_rng x1) rfl
      refine g_iconst 0 17 (gd rfl) rfl rfl ?_
      refine g_ireturn (gd rfl) rfl (nb01 (in_w 0 1 (in_c 0 rfl) rfl)) (hp8x2 _ _ ?_)
      show GG _ _ _ _ _ _ _ _ [.int (Int32.ofInt 0)] _ _ _
      refine g_if_eq 8 25 (gd rfl) rfl rfl (fun c8x5 => ?_) (fun c8x5 => ?_)
      · skip
        refine g_iconst 0 26 (gd rfl) rfl rfl ?_
        refine g_ireturn (gd rfl) rfl (nb01 (in_w 0 1 (in_c 0 rfl) rfl)) (hp8 _ _ ?_)
        show GG _ _ _ _ _ _ _ _ [.int (Int32.ofInt 0)] _ _ _
        refine g_thr (E := am_IA) (y := yX11_allow) 14 (gd rfl) rfl rfl (Or.inl ⟨rfl, rfl, rfl⟩) (by first | exact dq1 hd rfl | exact dq0 hd rfl | exact dq2 hd rfl | exact dq3 hd rfl | omega) (Nat.le_of_ble_eq_true rfl) (Nat.le_of_ble_eq_true rfl) (Nat.le_of_ble_eq_true rfl) (fun c11 => ?_) (fun c11 => ?_)
        · skip
          exact zn_ne c11 (in_c 0 rfl) rfl
        · skip
          have n11 : ¬ (TWO (shC s).2.2.2.2.2.2.1 x1 x2) := by first | (rw [shC_n (by rw [← e1x1]; exact c1x5)]; show ¬ TWO (s.2.2.1 2 1).toInt x1 x2; rw [← e_2_1]; (first | have a0 := oa4 ro_32_1 ro_2_1 i1x5 i8x2x1 | ((first | have a0 := in_u ro_32_1 | (have a0 := ro_32_1; unfold In at a0)); (first | have a1 := in_u ro_2_1 | (have a1 := ro_2_1; unfold In at a1)); (first | have a2 := in_u i1x5 | (have a2 := i1x5; unfold In at a2)); (first | have a3 := in_u i8x2x1 | (have a3 := i8x2x1; unfold In at a3)))); have oc := oc_232_0; omega) | (rw [shC_d (by rw [← e1x1]; exact c1x5)]; show ¬ TWO (s.2.2.1 32 1).toInt x1 x2; rw [← e_32_1]; (first | have a0 := oa4 ro_32_1 ro_2_1 i1x5 i8x2x1 | ((first | have a0 := in_u ro_32_1 | (have a0 := ro_32_1; unfold In at a0)); (first | have a1 := in_u ro_2_1 | (have a1 := ro_2_1; unfold In at a1)); (first | have a2 := in_u i1x5 | (have a2 := i1x5; unfold In at a2)); (first | have a3 := in_u i8x2x1 | (have a3 := i8x2x1; unfold In at a3)))); have oc := oc_232_0; omega)
          exact (hX _ _ ⟨Or.inl ⟨rfl, n11⟩, s, hI, fr_rf, rfl⟩)
      · skip
        exact zn_ne c8x5 (in_c 0 rfl) rfl
    · skip
      have i8x2x1 := z_ge 0 2147483647 c8x2x1 (i_rng x1) rfl
      refine g_iload_n 5 (gd rfl) rfl rfl ?_
      refine g_aload_n 6 (gd rfl) rfl rfl ?_
      refine g_getI 9 (gd rfl) rfl rfl rfl (fun z8x2x6 e8x2x6 => ?_)
      have q8x2x6 : u_2_1 = z8x2x6 := (e_2_1).trans e8x2x6.symm
      subst q8x2x6
      refine g_cmp_ge 12 16 (gd rfl) rfl rfl (fun c8x2x9 => ?_) (fun c8x2x9 => ?_)
      · skip
        refine g_iconst 0 17 (gd rfl) rfl rfl ?_
        refine g_ireturn (gd rfl) rfl (nb01 (in_w 0 1 (in_c 0 rfl) rfl)) (hp8x2 _ _ ?_)
        show GG _ _ _ _ _ _ _ _ [.int (Int32.ofInt 0)] _ _ _
        refine g_if_eq 8 25 (gd rfl) rfl rfl (fun c8x5 => ?_) (fun c8x5 => ?_)
        · skip
          refine g_iconst 0 26 (gd rfl) rfl rfl ?_
          refine g_ireturn (gd rfl) rfl (nb01 (in_w 0 1 (in_c 0 rfl) rfl)) (hp8 _ _ ?_)
          show GG _ _ _ _ _ _ _ _ [.int (Int32.ofInt 0)] _ _ _
          refine g_thr (E := am_IA) (y := yX11_allow) 14 (gd rfl) rfl rfl (Or.inl ⟨rfl, rfl, rfl⟩) (by first | exact dq1 hd rfl | exact dq0 hd rfl | exact dq2 hd rfl | exact dq3 hd rfl | omega) (Nat.le_of_ble_eq_true rfl) (Nat.le_of_ble_eq_true rfl) (Nat.le_of_ble_eq_true rfl) (fun c11 => ?_) (fun c11 => ?_)
          · skip
            exact zn_ne c11 (in_c 0 rfl) rfl
          · skip
            have n11 : ¬ (TWO (shC s).2.2.2.2.2.2.1 x1 x2) := by first | (rw [shC_n (by rw [← e1x1]; exact c1x5)]; show ¬ TWO (s.2.2.1 2 1).toInt x1 x2; rw [← e_2_1]; (first | have a0 := oa4 ro_32_1 ro_2_1 i1x5 i8x2x1 | ((first | have a0 := in_u ro_32_1 | (have a0 := ro_32_1; unfold In at a0)); (first | have a1 := in_u ro_2_1 | (have a1 := ro_2_1; unfold In at a1)); (first | have a2 := in_u i1x5 | (have a2 := i1x5; unfold In at a2)); (first | have a3 := in_u i8x2x1 | (have a3 := i8x2x1; unfold In at a3)))); have oc := oc_232_0; omega) | (rw [shC_d (by rw [← e1x1]; exact c1x5)]; show ¬ TWO (s.2.2.1 32 1).toInt x1 x2; rw [← e_32_1]; (first | have a0 := oa4 ro_32_1 ro_2_1 i1x5 i8x2x1 | ((first | have a0 := in_u ro_32_1 | (have a0 := ro_32_1; unfold In at a0)); (first | have a1 := in_u ro_2_1 | (have a1 := ro_2_1; unfold In at a1)); (first | have a2 := in_u i1x5 | (have a2 := i1x5; unfold In at a2)); (first | have a3 := in_u i8x2x1 | (have a3 := i8x2x1; unfold In at a3)))); have oc := oc_232_0; omega)
            exact (hX _ _ ⟨Or.inl ⟨rfl, n11⟩, s, hI, fr_rf, rfl⟩)
        · skip
          exact zn_ne c8x5 (in_c 0 rfl) rfl
      · skip
        have i8x2x9 := r_lt1 0 31 c8x2x9 i8x2x1 ro_2_1 rfl
        have i8x2x9a := r_lt2 1 32 c8x2x9 i8x2x1 ro_2_1 rfl
        refine g_iconst 1 13 (gd rfl) rfl rfl ?_
        refine g_goto 17 (gd rfl) rfl ?_
        refine g_ireturn (gd rfl) rfl (nb01 (in_w 0 1 (in_c 1 rfl) rfl)) (hp8x2 _ _ ?_)
        show GG _ _ _ _ _ _ _ _ [.int (Int32.ofInt 1)] _ _ _
        refine g_if_eq 8 25 (gd rfl) rfl rfl (fun c8x5 => ?_) (fun c8x5 => ?_)
        · skip
          exact zn_eq c8x5 (in_c 1 rfl) rfl
        · skip
          refine g_aload_n 9 (gd rfl) rfl rfl ?_
          refine g_iload_n 10 (gd rfl) rfl rfl ?_
          refine g_callv (X := _) (As := [.int x2]) (r := []) (b := A 2) (q := 2) 13 (gd rfl) rfl rfl rfl rfl rfl (ww_o rfl) (Nat.le_of_ble_eq_true rfl) (mc := 0) (ms := 0) (Nat.zero_le _) (Nat.zero_le _) (P := fun v u => _) ?_ (fun e u h => h) (fun v u h => h)
          intro po8x10 xx8x10 hp8x10 hx8x10
          refine g_enter2 (k := 94) (N := 300) (by first | exact dq1 hd rfl | exact dq0 hd rfl | exact dq2 hd rfl | exact dq3 hd rfl | omega) rfl (Nat.le_of_ble_eq_true rfl) ?_
          refine g_iload_n 1 (gd rfl) rfl rfl ?_
          refine g_if_lt 4 16 (gd rfl) rfl rfl (fun c8x10x1 => ?_) (fun c8x10x1 => ?_)
          · skip
            have i8x10x1 := z_lt (-2147483648) (-1) c8x10x1 (i_rng x2) rfl
            refine g_iconst 0 17 (gd rfl) rfl rfl ?_
            refine g_ireturn (gd rfl) rfl (nb01 (in_w 0 1 (in_c 0 rfl) rfl)) (hp8x10 _ _ ?_)
            show GG _ _ _ _ _ _ _ _ [.int (Int32.ofInt 0)] _ _ _
            refine g_if_eq 16 25 (gd rfl) rfl rfl (fun c8x13 => ?_) (fun c8x13 => ?_)
            · skip
              refine g_iconst 0 26 (gd rfl) rfl rfl ?_
              refine g_ireturn (gd rfl) rfl (nb01 (in_w 0 1 (in_c 0 rfl) rfl)) (hp8 _ _ ?_)
              show GG _ _ _ _ _ _ _ _ [.int (Int32.ofInt 0)] _ _ _
              refine g_thr (E := am_IA) (y := yX11_allow) 14 (gd rfl) rfl rfl (Or.inl ⟨rfl, rfl, rfl⟩) (by first | exact dq1 hd rfl | exact dq0 hd rfl | exact dq2 hd rfl | exact dq3 hd rfl | omega) (Nat.le_of_ble_eq_true rfl) (Nat.le_of_ble_eq_true rfl) (Nat.le_of_ble_eq_true rfl) (fun c11 => ?_) (fun c11 => ?_)
              · skip
                exact zn_ne c11 (in_c 0 rfl) rfl
              · skip
                have n11 : ¬ (TWO (shC s).2.2.2.2.2.2.1 x1 x2) := by first | (rw [shC_n (by rw [← e1x1]; exact c1x5)]; show ¬ TWO (s.2.2.1 2 1).toInt x1 x2; rw [← e_2_1]; (first | have a0 := oa5 i8x2x9 ro_32_1 i8x2x9a i1x5 i8x10x1 | ((first | have a0 := in_u i8x2x9 | (have a0 := i8x2x9; unfold In at a0)); (first | have a1 := in_u ro_32_1 | (have a1 := ro_32_1; unfold In at a1)); (first | have a2 := in_u i8x2x9a | (have a2 := i8x2x9a; unfold In at a2)); (first | have a3 := in_u i1x5 | (have a3 := i1x5; unfold In at a3)); (first | have a4 := in_u i8x10x1 | (have a4 := i8x10x1; unfold In at a4)))); have oc := oc_232_0; omega) | (rw [shC_d (by rw [← e1x1]; exact c1x5)]; show ¬ TWO (s.2.2.1 32 1).toInt x1 x2; rw [← e_32_1]; (first | have a0 := oa5 i8x2x9 ro_32_1 i8x2x9a i1x5 i8x10x1 | ((first | have a0 := in_u i8x2x9 | (have a0 := i8x2x9; unfold In at a0)); (first | have a1 := in_u ro_32_1 | (have a1 := ro_32_1; unfold In at a1)); (first | have a2 := in_u i8x2x9a | (have a2 := i8x2x9a; unfold In at a2)); (first | have a3 := in_u i1x5 | (have a3 := i1x5; unfold In at a3)); (first | have a4 := in_u i8x10x1 | (have a4 := i8x10x1; unfold In at a4)))); have oc := oc_232_0; omega)
                exact (hX _ _ ⟨Or.inl ⟨rfl, n11⟩, s, hI, fr_rf, rfl⟩)
            · skip
              exact zn_ne c8x13 (in_c 0 rfl) rfl
          · skip
            have i8x10x1 := z_ge 0 2147483647 c8x10x1 (i_rng x2) rfl
            refine g_iload_n 5 (gd rfl) rfl rfl ?_
            refine g_aload_n 6 (gd rfl) rfl rfl ?_
            refine g_getI 9 (gd rfl) rfl rfl rfl (fun z8x10x6 e8x10x6 => ?_)
            have q8x10x6 : u_2_1 = z8x10x6 := (e_2_1).trans e8x10x6.symm
            subst q8x10x6
            refine g_cmp_ge 12 16 (gd rfl) rfl rfl (fun c8x10x9 => ?_) (fun c8x10x9 => ?_)
            · skip
              have i8x10x9 := r_le2 1 2147483647 c8x10x9 i8x2x9a i8x10x1 rfl
              refine g_iconst 0 17 (gd rfl) rfl rfl ?_
              refine g_ireturn (gd rfl) rfl (nb01 (in_w 0 1 (in_c 0 rfl) rfl)) (hp8x10 _ _ ?_)
              show GG _ _ _ _ _ _ _ _ [.int (Int32.ofInt 0)] _ _ _
              refine g_if_eq 16 25 (gd rfl) rfl rfl (fun c8x13 => ?_) (fun c8x13 => ?_)
              · skip
                refine g_iconst 0 26 (gd rfl) rfl rfl ?_
                refine g_ireturn (gd rfl) rfl (nb01 (in_w 0 1 (in_c 0 rfl) rfl)) (hp8 _ _ ?_)
                show GG _ _ _ _ _ _ _ _ [.int (Int32.ofInt 0)] _ _ _
                refine g_thr (E := am_IA) (y := yX11_allow) 14 (gd rfl) rfl rfl (Or.inl ⟨rfl, rfl, rfl⟩) (by first | exact dq1 hd rfl | exact dq0 hd rfl | exact dq2 hd rfl | exact dq3 hd rfl | omega) (Nat.le_of_ble_eq_true rfl) (Nat.le_of_ble_eq_true rfl) (Nat.le_of_ble_eq_true rfl) (fun c11 => ?_) (fun c11 => ?_)
                · skip
                  exact zn_ne c11 (in_c 0 rfl) rfl
                · skip
                  have n11 : ¬ (TWO (shC s).2.2.2.2.2.2.1 x1 x2) := by first | (rw [shC_n (by rw [← e1x1]; exact c1x5)]; show ¬ TWO (s.2.2.1 2 1).toInt x1 x2; rw [← e_2_1]; (first | have a0 := oa5 i8x2x9 ro_32_1 i8x2x9a i1x5 i8x10x9 | ((first | have a0 := in_u i8x2x9 | (have a0 := i8x2x9; unfold In at a0)); (first | have a1 := in_u ro_32_1 | (have a1 := ro_32_1; unfold In at a1)); (first | have a2 := in_u i8x2x9a | (have a2 := i8x2x9a; unfold In at a2)); (first | have a3 := in_u i1x5 | (have a3 := i1x5; unfold In at a3)); (first | have a4 := in_u i8x10x9 | (have a4 := i8x10x9; unfold In at a4)))); have oc := oc_232_0; omega) | (rw [shC_d (by rw [← e1x1]; exact c1x5)]; show ¬ TWO (s.2.2.1 32 1).toInt x1 x2; rw [← e_32_1]; (first | have a0 := oa5 i8x2x9 ro_32_1 i8x2x9a i1x5 i8x10x9 | ((first | have a0 := in_u i8x2x9 | (have a0 := i8x2x9; unfold In at a0)); (first | have a1 := in_u ro_32_1 | (have a1 := ro_32_1; unfold In at a1)); (first | have a2 := in_u i8x2x9a | (have a2 := i8x2x9a; unfold In at a2)); (first | have a3 := in_u i1x5 | (have a3 := i1x5; unfold In at a3)); (first | have a4 := in_u i8x10x9 | (have a4 := i8x10x9; unfold In at a4)))); have oc := oc_232_0; omega)
                  exact (hX _ _ ⟨Or.inl ⟨rfl, n11⟩, s, hI, fr_rf, rfl⟩)
              · skip
                exact zn_ne c8x13 (in_c 0 rfl) rfl
            · skip
              have i8x10x9 := r_lt1 0 31 c8x10x9 i8x10x1 i8x2x9a rfl
              refine g_iconst 1 13 (gd rfl) rfl rfl ?_
              refine g_goto 17 (gd rfl) rfl ?_
              refine g_ireturn (gd rfl) rfl (nb01 (in_w 0 1 (in_c 1 rfl) rfl)) (hp8x10 _ _ ?_)
              show GG _ _ _ _ _ _ _ _ [.int (Int32.ofInt 1)] _ _ _
              refine g_if_eq 16 25 (gd rfl) rfl rfl (fun c8x13 => ?_) (fun c8x13 => ?_)
              · skip
                exact zn_eq c8x13 (in_c 1 rfl) rfl
              · skip
                refine g_iload_n 17 (gd rfl) rfl rfl ?_
                refine g_iload_n 18 (gd rfl) rfl rfl ?_
                refine g_cmp_eq 21 25 (gd rfl) rfl rfl (fun c8x18 => ?_) (fun c8x18 => ?_)
                · skip
                  refine g_iconst 0 26 (gd rfl) rfl rfl ?_
                  refine g_ireturn (gd rfl) rfl (nb01 (in_w 0 1 (in_c 0 rfl) rfl)) (hp8 _ _ ?_)
                  show GG _ _ _ _ _ _ _ _ [.int (Int32.ofInt 0)] _ _ _
                  refine g_thr (E := am_IA) (y := yX11_allow) 14 (gd rfl) rfl rfl (Or.inl ⟨rfl, rfl, rfl⟩) (by first | exact dq1 hd rfl | exact dq0 hd rfl | exact dq2 hd rfl | exact dq3 hd rfl | omega) (Nat.le_of_ble_eq_true rfl) (Nat.le_of_ble_eq_true rfl) (Nat.le_of_ble_eq_true rfl) (fun c11 => ?_) (fun c11 => ?_)
                  · skip
                    exact zn_ne c11 (in_c 0 rfl) rfl
                  · skip
                    have n11 : ¬ (TWO (shC s).2.2.2.2.2.2.1 x1 x2) := by first | (rw [shC_n (by rw [← e1x1]; exact c1x5)]; show ¬ TWO (s.2.2.1 2 1).toInt x1 x2; rw [← e_2_1]; (first | have a0 := oa5 i8x10x9 i8x2x9 ro_32_1 i8x2x9a i1x5 | ((first | have a0 := in_u i8x10x9 | (have a0 := i8x10x9; unfold In at a0)); (first | have a1 := in_u i8x2x9 | (have a1 := i8x2x9; unfold In at a1)); (first | have a2 := in_u ro_32_1 | (have a2 := ro_32_1; unfold In at a2)); (first | have a3 := in_u i8x2x9a | (have a3 := i8x2x9a; unfold In at a3)); (first | have a4 := in_u i1x5 | (have a4 := i1x5; unfold In at a4)))); have oc := oc_232_0; omega) | (rw [shC_d (by rw [← e1x1]; exact c1x5)]; show ¬ TWO (s.2.2.1 32 1).toInt x1 x2; rw [← e_32_1]; (first | have a0 := oa5 i8x10x9 i8x2x9 ro_32_1 i8x2x9a i1x5 | ((first | have a0 := in_u i8x10x9 | (have a0 := i8x10x9; unfold In at a0)); (first | have a1 := in_u i8x2x9 | (have a1 := i8x2x9; unfold In at a1)); (first | have a2 := in_u ro_32_1 | (have a2 := ro_32_1; unfold In at a2)); (first | have a3 := in_u i8x2x9a | (have a3 := i8x2x9a; unfold In at a3)); (first | have a4 := in_u i1x5 | (have a4 := i1x5; unfold In at a4)))); have oc := oc_232_0; omega)
                    exact (hX _ _ ⟨Or.inl ⟨rfl, n11⟩, s, hI, fr_rf, rfl⟩)
                · skip
                  refine g_iconst 1 22 (gd rfl) rfl rfl ?_
                  refine g_goto 26 (gd rfl) rfl ?_
                  refine g_ireturn (gd rfl) rfl (nb01 (in_w 0 1 (in_c 1 rfl) rfl)) (hp8 _ _ ?_)
                  show GG _ _ _ _ _ _ _ _ [.int (Int32.ofInt 1)] _ _ _
                  refine g_thr (E := am_IA) (y := yX11_allow) 14 (gd rfl) rfl rfl (Or.inl ⟨rfl, rfl, rfl⟩) (by first | exact dq1 hd rfl | exact dq0 hd rfl | exact dq2 hd rfl | exact dq3 hd rfl | omega) (Nat.le_of_ble_eq_true rfl) (Nat.le_of_ble_eq_true rfl) (Nat.le_of_ble_eq_true rfl) (fun c11 => ?_) (fun c11 => ?_)
                  · skip
                    refine g_aload_n 15 (gd rfl) rfl rfl ?_
                    refine g_getA (q2 := 49) 18 (gd rfl) rfl rfl rfl rfl ?_
                    refine g_aload_n 19 (gd rfl) rfl rfl ?_
                    refine g_iload_n 20 (gd rfl) rfl rfl ?_
                    refine g_iload_n 21 (gd rfl) rfl rfl ?_
                    have p21 : TQ s := by first | exact q_0 | exact q_1
                    have p21a : NDQ (gvC s) := by first | (rw [← shC_n (by rw [← e1x1]; exact c1x5)]; exact q_2) | (rw [← shC_d (by rw [← e1x1]; exact c1x5)]; exact q_2)
                    have p21b : SHB (gvC s) s := by first | (rw [← shC_n (by rw [← e1x1]; exact c1x5)]; exact q_3.1) | (rw [← shC_d (by rw [← e1x1]; exact c1x5)]; exact q_3.1)
                    have p21c : KSB (gvC s) s := by first | (rw [← shC_n (by rw [← e1x1]; exact c1x5)]; exact q_3.2) | (rw [← shC_d (by rw [← e1x1]; exact c1x5)]; exact q_3.2)
                    refine g_callv (X := _) (As := [.ref (A 2), .int x1, .int x2]) (r := []) (b := A 49) (q := 49) 24 (gd rfl) rfl rfl rfl rfl rfl (ww_o rfl) (Nat.le_of_ble_eq_true rfl) (Nat.zero_le _) (Nat.zero_le _) (f_205_49_2 (by first | exact dq1 hd rfl | exact dq0 hd rfl | exact dq2 hd rfl | exact dq3 hd rfl | omega) hI (in_w 0 31 i8x2x9 rfl) (in_w 0 31 i8x10x9 rfl) p21 p21a p21b p21c) (fun e u h => h) (fun v u h => ?_)
                    obtain ⟨s21, hI21, hF21, z21, rfl, rfl, i21, p21d, p21e, p21f⟩ := h
                    show GG _ _ _ _ _ _ _ _ [.int z21] _ _ _
                    have n24 : (TWO (shC s).2.2.2.2.2.2.1 x1 x2) ∧ SHV (shC s) x1.toNatClampNeg x2.toNatClampNeg (z21).toInt := by first | (rw [shC_n (by rw [← e1x1]; exact c1x5)]; exact ⟨⟨⟨by (first | have a0 := oa5 i8x10x9 i8x2x9 ro_32_1 i8x2x9a i1x5 | ((first | have a0 := in_u i8x10x9 | (have a0 := i8x10x9; unfold In at a0)); (first | have a1 := in_u i8x2x9 | (have a1 := i8x2x9; unfold In at a1)); (first | have a2 := in_u ro_32_1 | (have a2 := ro_32_1; unfold In at a2)); (first | have a3 := in_u i8x2x9a | (have a3 := i8x2x9a; unfold In at a3)); (first | have a4 := in_u i1x5 | (have a4 := i1x5; unfold In at a4)))); have oc := oc_232_0; omega, by show x1.toInt < (s.2.2.1 2 1).toInt; rw [← e_2_1]; (first | have a0 := oa5 i8x10x9 i8x2x9 ro_32_1 i8x2x9a i1x5 | ((first | have a0 := in_u i8x10x9 | (have a0 := i8x10x9; unfold In at a0)); (first | have a1 := in_u i8x2x9 | (have a1 := i8x2x9; unfold In at a1)); (first | have a2 := in_u ro_32_1 | (have a2 := ro_32_1; unfold In at a2)); (first | have a3 := in_u i8x2x9a | (have a3 := i8x2x9a; unfold In at a3)); (first | have a4 := in_u i1x5 | (have a4 := i1x5; unfold In at a4)))); have oc := oc_232_0; omega⟩, ⟨by (first | have a0 := oa5 i8x10x9 i8x2x9 ro_32_1 i8x2x9a i1x5 | ((first | have a0 := in_u i8x10x9 | (have a0 := i8x10x9; unfold In at a0)); (first | have a1 := in_u i8x2x9 | (have a1 := i8x2x9; unfold In at a1)); (first | have a2 := in_u ro_32_1 | (have a2 := ro_32_1; unfold In at a2)); (first | have a3 := in_u i8x2x9a | (have a3 := i8x2x9a; unfold In at a3)); (first | have a4 := in_u i1x5 | (have a4 := i1x5; unfold In at a4)))); have oc := oc_232_0; omega, by show x2.toInt < (s.2.2.1 2 1).toInt; rw [← e_2_1]; (first | have a0 := oa5 i8x10x9 i8x2x9 ro_32_1 i8x2x9a i1x5 | ((first | have a0 := in_u i8x10x9 | (have a0 := i8x10x9; unfold In at a0)); (first | have a1 := in_u i8x2x9 | (have a1 := i8x2x9; unfold In at a1)); (first | have a2 := in_u ro_32_1 | (have a2 := ro_32_1; unfold In at a2)); (first | have a3 := in_u i8x2x9a | (have a3 := i8x2x9a; unfold In at a3)); (first | have a4 := in_u i1x5 | (have a4 := i1x5; unfold In at a4)))); have oc := oc_232_0; omega⟩, by (first | have a0 := oa5 i8x10x9 i8x2x9 ro_32_1 i8x2x9a i1x5 | ((first | have a0 := in_u i8x10x9 | (have a0 := i8x10x9; unfold In at a0)); (first | have a1 := in_u i8x2x9 | (have a1 := i8x2x9; unfold In at a1)); (first | have a2 := in_u ro_32_1 | (have a2 := ro_32_1; unfold In at a2)); (first | have a3 := in_u i8x2x9a | (have a3 := i8x2x9a; unfold In at a3)); (first | have a4 := in_u i1x5 | (have a4 := i1x5; unfold In at a4)))); have oc := oc_232_0; omega⟩, p21d⟩) | (rw [shC_d (by rw [← e1x1]; exact c1x5)]; exact ⟨⟨⟨by (first | have a0 := oa5 i8x10x9 i8x2x9 ro_32_1 i8x2x9a i1x5 | ((first | have a0 := in_u i8x10x9 | (have a0 := i8x10x9; unfold In at a0)); (first | have a1 := in_u i8x2x9 | (have a1 := i8x2x9; unfold In at a1)); (first | have a2 := in_u ro_32_1 | (have a2 := ro_32_1; unfold In at a2)); (first | have a3 := in_u i8x2x9a | (have a3 := i8x2x9a; unfold In at a3)); (first | have a4 := in_u i1x5 | (have a4 := i1x5; unfold In at a4)))); have oc := oc_232_0; omega, by show x1.toInt < (s.2.2.1 32 1).toInt; rw [← e_32_1]; (first | have a0 := oa5 i8x10x9 i8x2x9 ro_32_1 i8x2x9a i1x5 | ((first | have a0 := in_u i8x10x9 | (have a0 := i8x10x9; unfold In at a0)); (first | have a1 := in_u i8x2x9 | (have a1 := i8x2x9; unfold In at a1)); (first | have a2 := in_u ro_32_1 | (have a2 := ro_32_1; unfold In at a2)); (first | have a3 := in_u i8x2x9a | (have a3 := i8x2x9a; unfold In at a3)); (first | have a4 := in_u i1x5 | (have a4 := i1x5; unfold In at a4)))); have oc := oc_232_0; omega⟩, ⟨by (first | have a0 := oa5 i8x10x9 i8x2x9 ro_32_1 i8x2x9a i1x5 | ((first | have a0 := in_u i8x10x9 | (have a0 := i8x10x9; unfold In at a0)); (first | have a1 := in_u i8x2x9 | (have a1 := i8x2x9; unfold In at a1)); (first | have a2 := in_u ro_32_1 | (have a2 := ro_32_1; unfold In at a2)); (first | have a3 := in_u i8x2x9a | (have a3 := i8x2x9a; unfold In at a3)); (first | have a4 := in_u i1x5 | (have a4 := i1x5; unfold In at a4)))); have oc := oc_232_0; omega, by show x2.toInt < (s.2.2.1 32 1).toInt; rw [← e_32_1]; (first | have a0 := oa5 i8x10x9 i8x2x9 ro_32_1 i8x2x9a i1x5 | ((first | have a0 := in_u i8x10x9 | (have a0 := i8x10x9; unfold In at a0)); (first | have a1 := in_u i8x2x9 | (have a1 := i8x2x9; unfold In at a1)); (first | have a2 := in_u ro_32_1 | (have a2 := ro_32_1; unfold In at a2)); (first | have a3 := in_u i8x2x9a | (have a3 := i8x2x9a; unfold In at a3)); (first | have a4 := in_u i1x5 | (have a4 := i1x5; unfold In at a4)))); have oc := oc_232_0; omega⟩, by (first | have a0 := oa5 i8x10x9 i8x2x9 ro_32_1 i8x2x9a i1x5 | ((first | have a0 := in_u i8x10x9 | (have a0 := i8x10x9; unfold In at a0)); (first | have a1 := in_u i8x2x9 | (have a1 := i8x2x9; unfold In at a1)); (first | have a2 := in_u ro_32_1 | (have a2 := ro_32_1; unfold In at a2)); (first | have a3 := in_u i8x2x9a | (have a3 := i8x2x9a; unfold In at a3)); (first | have a4 := in_u i1x5 | (have a4 := i1x5; unfold In at a4)))); have oc := oc_232_0; omega⟩, p21d⟩)
                    have n24a : SKG (shC s) s21 := by refine ⟨q_2, ?_⟩; first | (rw [shC_n (by rw [← e1x1]; exact c1x5)]; exact ⟨p21e, p21f⟩) | (rw [shC_d (by rw [← e1x1]; exact c1x5)]; exact ⟨p21e, p21f⟩)
                    exact g_ireturn (gd rfl) rfl rfl (hP _ _ ⟨s21, hI21, (fr_tr rfl fr_rf hF21), z21, rfl, rfl, in_w (-2) 2000 i21 rfl, n24, n24a⟩)
                  · skip
                    exact zn_eq c11 (in_c 1 rfl) rfl

theorem oc_233_0 : (Int32.ofInt (-1)).toInt = (-1) ∧ (Int32.ofInt 0).toInt = 0 ∧ (Int32.ofInt 1).toInt = 1 := ⟨rfl, rfl, rfl⟩
/-- GraphHouse.shortArc -/
theorem f_233_0 {Z : AmZ} {A : Nat → Nat} {s : GS} {ex : va_W} {d : Nat} {x1 : Int32} {x2 : Int32} {x3 : Int32} {x4 : Int32} (hd : 24 ≤ d) (hI : Inv s) (q_0 : TQ s) (q_1 : TQD s) (q_2 : NDC s) (q_3 : SKBC s) : GC Z d 233 [.ref (A 0), .int x1, .int x2, .int x3, .int x4] (WW Z A s ++ ex) 3 18 (fun v u => ∃ t : GS, Inv t ∧ Fr fm_233_0 s t ∧ ∃ z : Int32, v = some (.int z) ∧ u = WW Z A t ++ ex ∧ In z (-2147483648) 2147483647 ∧ (((TWO (shC s).2.2.2.2.2.2.1 x1 x2) ∧ 0 ≤ x3.toInt ∧ 0 ≤ x4.toInt) ∧ SAV (shC s) x1.toNatClampNeg x2.toNatClampNeg x3.toInt x4.toInt (z).toInt) ∧ (SKG (shC s) t)) (gEx Z A ex ([], [], [], []) s (¬ ((TWO (shC s).2.2.2.2.2.2.1 x1 x2) ∧ 0 ≤ x3.toInt ∧ 0 ≤ x4.toInt)) (False)) := by
  intro post xp hP hX
  obtain ⟨u_0_2, e_0_2⟩ : ∃ w, w = s.2.2.1 0 2 := ⟨_, rfl⟩
  have ro_0_2 := inv_F hI (-1) 4000 rfl e_0_2
  obtain ⟨u_2_1, e_2_1⟩ : ∃ w, w = s.2.2.1 2 1 := ⟨_, rfl⟩
  have ro_2_1 := inv_F hI 0 32 rfl e_2_1
  obtain ⟨u_32_1, e_32_1⟩ : ∃ w, w = s.2.2.1 32 1 := ⟨_, rfl⟩
  have ro_32_1 := inv_F hI 0 32 rfl e_32_1
  refine g_enter2 (k := 233) (N := 900) (by first | exact dq1 hd rfl | exact dq0 hd rfl | exact dq2 hd rfl | exact dq3 hd rfl | omega) rfl (Nat.le_of_ble_eq_true rfl) ?_
  refine g_aload_n 1 (gd rfl) rfl rfl ?_
  refine g_callv (X := _) (As := []) (r := []) (b := A 0) (q := 0) 4 (gd rfl) rfl rfl rfl rfl rfl (ww_o rfl) (Nat.le_of_ble_eq_true rfl) (mc := 0) (ms := 0) (Nat.zero_le _) (Nat.zero_le _) (P := fun v u => _) ?_ (fun e u h => h) (fun v u h => h)
  intro po1 xx1 hp1 hx1
  refine g_enter2 (k := 259) (N := 300) (by first | exact dq1 hd rfl | exact dq0 hd rfl | exact dq2 hd rfl | exact dq3 hd rfl | omega) rfl (Nat.le_of_ble_eq_true rfl) ?_
  refine g_aload_n 1 (gd rfl) rfl rfl ?_
  refine g_getI 4 (gd rfl) rfl rfl rfl (fun z1x1 e1x1 => ?_)
  have q1x1 : u_0_2 = z1x1 := (e_0_2).trans e1x1.symm
  subst q1x1
  refine g_iconst (-1) 5 (gd rfl) rfl rfl ?_
  refine g_cmp_ne 8 18 (gd rfl) rfl rfl (fun c1x5 => ?_) (fun c1x5 => ?_)
  · skip
    have i1x5 := r_ne1 0 4000 c1x5 ro_0_2 (in_c (-1) rfl) rfl
    refine g_aload_n 19 (gd rfl) rfl rfl ?_
    refine g_getA (q2 := 32) 22 (gd rfl) rfl rfl rfl rfl ?_
    refine g_areturn (gd rfl) rfl (hp1 _ _ ?_)
    show GG _ _ _ _ _ _ _ _ [.ref (A 32)] _ _ _
    refine g_astore 6 (gd rfl) rfl (Nat.le_of_ble_eq_true rfl) ?_
    refine g_aload 8 (gd rfl) rfl rfl ?_
    refine g_iload_n 9 (gd rfl) rfl rfl ?_
    refine g_iload_n 10 (gd rfl) rfl rfl ?_
    refine g_callv (X := _) (As := [.int x1, .int x2]) (r := []) (b := A 32) (q := 32) 13 (gd rfl) rfl rfl rfl rfl rfl (ww_o rfl) (Nat.le_of_ble_eq_true rfl) (mc := 0) (ms := 0) (Nat.zero_le _) (Nat.zero_le _) (P := fun v u => _) ?_ (fun e u h => h) (fun v u h => h)
    intro po10 xx10 hp10 hx10
    refine g_enter2 (k := 95) (N := 300) (by first | exact dq1 hd rfl | exact dq0 hd rfl | exact dq2 hd rfl | exact dq3 hd rfl | omega) rfl (Nat.le_of_ble_eq_true rfl) ?_
    refine g_aload_n 1 (gd rfl) rfl rfl ?_
    refine g_iload_n 2 (gd rfl) rfl rfl ?_
    refine g_callv (X := _) (As := [.int x1]) (r := []) (b := A 32) (q := 32) 5 (gd rfl) rfl rfl rfl rfl rfl (ww_o rfl) (Nat.le_of_ble_eq_true rfl) (mc := 0) (ms := 0) (Nat.zero_le _) (Nat.zero_le _) (P := fun v u => _) ?_ (fun e u h => h) (fun v u h => h)
    intro po10x2 xx10x2 hp10x2 hx10x2
    refine g_enter2 (k := 94) (N := 300) (by first | exact dq1 hd rfl | exact dq0 hd rfl | exact dq2 hd rfl | exact dq3 hd rfl | omega) rfl (Nat.le_of_ble_eq_true rfl) ?_
    refine g_iload_n 1 (gd rfl) rfl rfl ?_
    refine g_if_lt 4 16 (gd rfl) rfl rfl (fun c10x2x1 => ?_) (fun c10x2x1 => ?_)
    · skip
      have i10x2x1 := z_lt (-2147483648) (-1) c10x2x1 (i_rng x1) rfl
      refine g_iconst 0 17 (gd rfl) rfl rfl ?_
      refine g_ireturn (gd rfl) rfl (nb01 (in_w 0 1 (in_c 0 rfl) rfl)) (hp10x2 _ _ ?_)
      show GG _ _ _ _ _ _ _ _ [.int (Int32.ofInt 0)] _ _ _
      refine g_if_eq 8 25 (gd rfl) rfl rfl (fun c10x5 => ?_) (fun c10x5 => ?_)
      · skip
        refine g_iconst 0 26 (gd rfl) rfl rfl ?_
        refine g_ireturn (gd rfl) rfl (nb01 (in_w 0 1 (in_c 0 rfl) rfl)) (hp10 _ _ ?_)
        show GG _ _ _ _ _ _ _ _ [.int (Int32.ofInt 0)] _ _ _
        refine g_if_eq 16 29 (gd rfl) rfl rfl (fun c13 => ?_) (fun c13 => ?_)
        · skip
          refine g_iconst 0 30 (gd rfl) rfl rfl ?_
          refine g_thr (E := am_IA) (y := yX11_allow) 33 (gd rfl) rfl rfl (Or.inl ⟨rfl, rfl, rfl⟩) (by first | exact dq1 hd rfl | exact dq0 hd rfl | exact dq2 hd rfl | exact dq3 hd rfl | omega) (Nat.le_of_ble_eq_true rfl) (Nat.le_of_ble_eq_true rfl) (Nat.le_of_ble_eq_true rfl) (fun c30 => ?_) (fun c30 => ?_)
          · skip
            exact zn_ne c30 (in_c 0 rfl) rfl
          · skip
            have n30 : ¬ ((TWO (shC s).2.2.2.2.2.2.1 x1 x2) ∧ 0 ≤ x3.toInt ∧ 0 ≤ x4.toInt) := by first | (rw [shC_n (by rw [← e1x1]; exact c1x5)]; show ¬ (TWO (s.2.2.1 2 1).toInt x1 x2 ∧ 0 ≤ x3.toInt ∧ 0 ≤ x4.toInt); rw [← e_2_1]; (first | have a0 := oa4 ro_32_1 ro_2_1 i1x5 i10x2x1 | ((first | have a0 := in_u ro_32_1 | (have a0 := ro_32_1; unfold In at a0)); (first | have a1 := in_u ro_2_1 | (have a1 := ro_2_1; unfold In at a1)); (first | have a2 := in_u i1x5 | (have a2 := i1x5; unfold In at a2)); (first | have a3 := in_u i10x2x1 | (have a3 := i10x2x1; unfold In at a3)))); have oc := oc_233_0; omega) | (rw [shC_d (by rw [← e1x1]; exact c1x5)]; show ¬ (TWO (s.2.2.1 32 1).toInt x1 x2 ∧ 0 ≤ x3.toInt ∧ 0 ≤ x4.toInt); rw [← e_32_1]; (first | have a0 := oa4 ro_32_1 ro_2_1 i1x5 i10x2x1 | ((first | have a0 := in_u ro_32_1 | (have a0 := ro_32_1; unfold In at a0)); (first | have a1 := in_u ro_2_1 | (have a1 := ro_2_1; unfold In at a1)); (first | have a2 := in_u i1x5 | (have a2 := i1x5; unfold In at a2)); (first | have a3 := in_u i10x2x1 | (have a3 := i10x2x1; unfold In at a3)))); have oc := oc_233_0; omega)
            exact (hX _ _ ⟨Or.inl ⟨rfl, n30⟩, s, hI, fr_rf, rfl⟩)
        · skip
          exact zn_ne c13 (in_c 0 rfl) rfl
      · skip
        exact zn_ne c10x5 (in_c 0 rfl) rfl
    · skip
      have i10x2x1 := z_ge 0 2147483647 c10x2x1 (i_rng x1) rfl
      refine g_iload_n 5 (gd rfl) rfl rfl ?_
      refine g_aload_n 6 (gd rfl) rfl rfl ?_
      refine g_getI 9 (gd rfl) rfl rfl rfl (fun z10x2x6 e10x2x6 => ?_)
      have q10x2x6 : u_32_1 = z10x2x6 := (e_32_1).trans e10x2x6.symm
      subst q10x2x6
      refine g_cmp_ge 12 16 (gd rfl) rfl rfl (fun c10x2x9 => ?_) (fun c10x2x9 => ?_)
      · skip
        refine g_iconst 0 17 (gd rfl) rfl rfl ?_
        refine g_ireturn (gd rfl) rfl (nb01 (in_w 0 1 (in_c 0 rfl) rfl)) (hp10x2 _ _ ?_)
        show GG _ _ _ _ _ _ _ _ [.int (Int32.ofInt 0)] _ _ _
        refine g_if_eq 8 25 (gd rfl) rfl rfl (fun c10x5 => ?_) (fun c10x5 => ?_)
        · skip
          refine g_iconst 0 26 (gd rfl) rfl rfl ?_
          refine g_ireturn (gd rfl) rfl (nb01 (in_w 0 1 (in_c 0 rfl) rfl)) (hp10 _ _ ?_)
          show GG _ _ _ _ _ _ _ _ [.int (Int32.ofInt 0)] _ _ _
          refine g_if_eq 16 29 (gd rfl) rfl rfl (fun c13 => ?_) (fun c13 => ?_)
          · skip
            refine g_iconst 0 30 (gd rfl) rfl rfl ?_
            refine g_thr (E := am_IA) (y := yX11_allow) 33 (gd rfl) rfl rfl (Or.inl ⟨rfl, rfl, rfl⟩) (by first | exact dq1 hd rfl | exact dq0 hd rfl | exact dq2 hd rfl | exact dq3 hd rfl | omega) (Nat.le_of_ble_eq_true rfl) (Nat.le_of_ble_eq_true rfl) (Nat.le_of_ble_eq_true rfl) (fun c30 => ?_) (fun c30 => ?_)
            · skip
              exact zn_ne c30 (in_c 0 rfl) rfl
            · skip
              have n30 : ¬ ((TWO (shC s).2.2.2.2.2.2.1 x1 x2) ∧ 0 ≤ x3.toInt ∧ 0 ≤ x4.toInt) := by first | (rw [shC_n (by rw [← e1x1]; exact c1x5)]; show ¬ (TWO (s.2.2.1 2 1).toInt x1 x2 ∧ 0 ≤ x3.toInt ∧ 0 ≤ x4.toInt); rw [← e_2_1]; (first | have a0 := oa4 ro_32_1 ro_2_1 i1x5 i10x2x1 | ((first | have a0 := in_u ro_32_1 | (have a0 := ro_32_1; unfold In at a0)); (first | have a1 := in_u ro_2_1 | (have a1 := ro_2_1; unfold In at a1)); (first | have a2 := in_u i1x5 | (have a2 := i1x5; unfold In at a2)); (first | have a3 := in_u i10x2x1 | (have a3 := i10x2x1; unfold In at a3)))); have oc := oc_233_0; omega) | (rw [shC_d (by rw [← e1x1]; exact c1x5)]; show ¬ (TWO (s.2.2.1 32 1).toInt x1 x2 ∧ 0 ≤ x3.toInt ∧ 0 ≤ x4.toInt); rw [← e_32_1]; (first | have a0 := oa4 ro_32_1 ro_2_1 i1x5 i10x2x1 | ((first | have a0 := in_u ro_32_1 | (have a0 := ro_32_1; unfold In at a0)); (first | have a1 := in_u ro_2_1 | (have a1 := ro_2_1; unfold In at a1)); (first | have a2 := in_u i1x5 | (have a2 := i1x5; unfold In at a2)); (first | have a3 := in_u i10x2x1 | (have a3 := i10x2x1; unfold In at a3)))); have oc := oc_233_0; omega)
              exact (hX _ _ ⟨Or.inl ⟨rfl, n30⟩, s, hI, fr_rf, rfl⟩)
          · skip
            exact zn_ne c13 (in_c 0 rfl) rfl
        · skip
          exact zn_ne c10x5 (in_c 0 rfl) rfl
      · skip
        have i10x2x9 := r_lt1 0 31 c10x2x9 i10x2x1 ro_32_1 rfl
        have i10x2x9a := r_lt2 1 32 c10x2x9 i10x2x1 ro_32_1 rfl
        refine g_iconst 1 13 (gd rfl) rfl rfl ?_
        refine g_goto 17 (gd rfl) rfl ?_
        refine g_ireturn (gd rfl) rfl (nb01 (in_w 0 1 (in_c 1 rfl) rfl)) (hp10x2 _ _ ?_)
        show GG _ _ _ _ _ _ _ _ [.int (Int32.ofInt 1)] _ _ _
        refine g_if_eq 8 25 (gd rfl) rfl rfl (fun c10x5 => ?_) (fun c10x5 => ?_)
        · skip
          exact zn_eq c10x5 (in_c 1 rfl) rfl
        · skip
          refine g_aload_n 9 (gd rfl) rfl rfl ?_
          refine g_iload_n 10 (gd rfl) rfl rfl ?_
          refine g_callv (X := _) (As := [.int x2]) (r := []) (b := A 32) (q := 32) 13 (gd rfl) rfl rfl rfl rfl rfl (ww_o rfl) (Nat.le_of_ble_eq_true rfl) (mc := 0) (ms := 0) (Nat.zero_le _) (Nat.zero_le _) (P := fun v u => _) ?_ (fun e u h => h) (fun v u h => h)
          intro po10x10 xx10x10 hp10x10 hx10x10
          refine g_enter2 (k := 94) (N := 300) (by first | exact dq1 hd rfl | exact dq0 hd rfl | exact dq2 hd rfl | exact dq3 hd rfl | omega) rfl (Nat.le_of_ble_eq_true rfl) ?_
          refine g_iload_n 1 (gd rfl) rfl rfl ?_
          refine g_if_lt 4 16 (gd rfl) rfl rfl (fun c10x10x1 => ?_) (fun c10x10x1 => ?_)
          · skip
            have i10x10x1 := z_lt (-2147483648) (-1) c10x10x1 (i_rng x2) rfl
            refine g_iconst 0 17 (gd rfl) rfl rfl ?_
            refine g_ireturn (gd rfl) rfl (nb01 (in_w 0 1 (in_c 0 rfl) rfl)) (hp10x10 _ _ ?_)
            show GG _ _ _ _ _ _ _ _ [.int (Int32.ofInt 0)] _ _ _
            refine g_if_eq 16 25 (gd rfl) rfl rfl (fun c10x13 => ?_) (fun c10x13 => ?_)
            · skip
              refine g_iconst 0 26 (gd rfl) rfl rfl ?_
              refine g_ireturn (gd rfl) rfl (nb01 (in_w 0 1 (in_c 0 rfl) rfl)) (hp10 _ _ ?_)
              show GG _ _ _ _ _ _ _ _ [.int (Int32.ofInt 0)] _ _ _
              refine g_if_eq 16 29 (gd rfl) rfl rfl (fun c13 => ?_) (fun c13 => ?_)
              · skip
                refine g_iconst 0 30 (gd rfl) rfl rfl ?_
                refine g_thr (E := am_IA) (y := yX11_allow) 33 (gd rfl) rfl rfl (Or.inl ⟨rfl, rfl, rfl⟩) (by first | exact dq1 hd rfl | exact dq0 hd rfl | exact dq2 hd rfl | exact dq3 hd rfl | omega) (Nat.le_of_ble_eq_true rfl) (Nat.le_of_ble_eq_true rfl) (Nat.le_of_ble_eq_true rfl) (fun c30 => ?_) (fun c30 => ?_)
                · skip
                  exact zn_ne c30 (in_c 0 rfl) rfl
                · skip
                  have n30 : ¬ ((TWO (shC s).2.2.2.2.2.2.1 x1 x2) ∧ 0 ≤ x3.toInt ∧ 0 ≤ x4.toInt) := by first | (rw [shC_n (by rw [← e1x1]; exact c1x5)]; show ¬ (TWO (s.2.2.1 2 1).toInt x1 x2 ∧ 0 ≤ x3.toInt ∧ 0 ≤ x4.toInt); rw [← e_2_1]; (first | have a0 := oa5 i10x2x9 i10x2x9a ro_2_1 i1x5 i10x10x1 | ((first | have a0 := in_u i10x2x9 | (have a0 := i10x2x9; unfold In at a0)); (first | have a1 := in_u i10x2x9a | (have a1 := i10x2x9a; unfold In at a1)); (first | have a2 := in_u ro_2_1 | (have a2 := ro_2_1; unfold In at a2)); (first | have a3 := in_u i1x5 | (have a3 := i1x5; unfold In at a3)); (first | have a4 := in_u i10x10x1 | (have a4 := i10x10x1; unfold In at a4)))); have oc := oc_233_0; omega) | (rw [shC_d (by rw [← e1x1]; exact c1x5)]; show ¬ (TWO (s.2.2.1 32 1).toInt x1 x2 ∧ 0 ≤ x3.toInt ∧ 0 ≤ x4.toInt); rw [← e_32_1]; (first | have a0 := oa5 i10x2x9 i10x2x9a ro_2_1 i1x5 i10x10x1 | ((first | have a0 := in_u i10x2x9 | (have a0 := i10x2x9; unfold In at a0)); (first | have a1 := in_u i10x2x9a | (have a1 := i10x2x9a; unfold In at a1)); (first | have a2 := in_u ro_2_1 | (have a2 := ro_2_1; unfold In at a2)); (first | have a3 := in_u i1x5 | (have a3 := i1x5; unfold In at a3)); (first | have a4 := in_u i10x10x1 | (have a4 := i10x10x1; unfold In at a4)))); have oc := oc_233_0; omega)
                  exact (hX _ _ ⟨Or.inl ⟨rfl, n30⟩, s, hI, fr_rf, rfl⟩)
              · skip
                exact zn_ne c13 (in_c 0 rfl) rfl
            · skip
              exact zn_ne c10x13 (in_c 0 rfl) rfl
          · skip
            have i10x10x1 := z_ge 0 2147483647 c10x10x1 (i_rng x2) rfl
            refine g_iload_n 5 (gd rfl) rfl rfl ?_
            refine g_aload_n 6 (gd rfl) rfl rfl ?_
            refine g_getI 9 (gd rfl) rfl rfl rfl (fun z10x10x6 e10x10x6 => ?_)
            have q10x10x6 : u_32_1 = z10x10x6 := (e_32_1).trans e10x10x6.symm
            subst q10x10x6
            refine g_cmp_ge 12 16 (gd rfl) rfl rfl (fun c10x10x9 => ?_) (fun c10x10x9 => ?_)
            · skip
              have i10x10x9 := r_le2 1 2147483647 c10x10x9 i10x2x9a i10x10x1 rfl
              refine g_iconst 0 17 (gd rfl) rfl rfl ?_
              refine g_ireturn (gd rfl) rfl (nb01 (in_w 0 1 (in_c 0 rfl) rfl)) (hp10x10 _ _ ?_)
              show GG _ _ _ _ _ _ _ _ [.int (Int32.ofInt 0)] _ _ _
              refine g_if_eq 16 25 (gd rfl) rfl rfl (fun c10x13 => ?_) (fun c10x13 => ?_)
              · skip
                refine g_iconst 0 26 (gd rfl) rfl rfl ?_
                refine g_ireturn (gd rfl) rfl (nb01 (in_w 0 1 (in_c 0 rfl) rfl)) (hp10 _ _ ?_)
                show GG _ _ _ _ _ _ _ _ [.int (Int32.ofInt 0)] _ _ _
                refine g_if_eq 16 29 (gd rfl) rfl rfl (fun c13 => ?_) (fun c13 => ?_)
                · skip
                  refine g_iconst 0 30 (gd rfl) rfl rfl ?_
                  refine g_thr (E := am_IA) (y := yX11_allow) 33 (gd rfl) rfl rfl (Or.inl ⟨rfl, rfl, rfl⟩) (by first | exact dq1 hd rfl | exact dq0 hd rfl | exact dq2 hd rfl | exact dq3 hd rfl | omega) (Nat.le_of_ble_eq_true rfl) (Nat.le_of_ble_eq_true rfl) (Nat.le_of_ble_eq_true rfl) (fun c30 => ?_) (fun c30 => ?_)
                  · skip
                    exact zn_ne c30 (in_c 0 rfl) rfl
                  · skip
                    have n30 : ¬ ((TWO (shC s).2.2.2.2.2.2.1 x1 x2) ∧ 0 ≤ x3.toInt ∧ 0 ≤ x4.toInt) := by first | (rw [shC_n (by rw [← e1x1]; exact c1x5)]; show ¬ (TWO (s.2.2.1 2 1).toInt x1 x2 ∧ 0 ≤ x3.toInt ∧ 0 ≤ x4.toInt); rw [← e_2_1]; (first | have a0 := oa5 i10x2x9 i10x2x9a ro_2_1 i1x5 i10x10x9 | ((first | have a0 := in_u i10x2x9 | (have a0 := i10x2x9; unfold In at a0)); (first | have a1 := in_u i10x2x9a | (have a1 := i10x2x9a; unfold In at a1)); (first | have a2 := in_u ro_2_1 | (have a2 := ro_2_1; unfold In at a2)); (first | have a3 := in_u i1x5 | (have a3 := i1x5; unfold In at a3)); (first | have a4 := in_u i10x10x9 | (have a4 := i10x10x9; unfold In at a4)))); have oc := oc_233_0; omega) | (rw [shC_d (by rw [← e1x1]; exact c1x5)]; show ¬ (TWO (s.2.2.1 32 1).toInt x1 x2 ∧ 0 ≤ x3.toInt ∧ 0 ≤ x4.toInt); rw [← e_32_1]; (first | have a0 := oa5 i10x2x9 i10x2x9a ro_2_1 i1x5 i10x10x9 | ((first | have a0 := in_u i10x2x9 | (have a0 := i10x2x9; unfold In at a0)); (first | have a1 := in_u i10x2x9a | (have a1 := i10x2x9a; unfold In at a1)); (first | have a2 := in_u ro_2_1 | (have a2 := ro_2_1; unfold In at a2)); (first | have a3 := in_u i1x5 | (have a3 := i1x5; unfold In at a3)); (first | have a4 := in_u i10x10x9 | (have a4 := i10x10x9; unfold In at a4)))); have oc := oc_233_0; omega)
                    exact (hX _ _ ⟨Or.inl ⟨rfl, n30⟩, s, hI, fr_rf, rfl⟩)
                · skip
                  exact zn_ne c13 (in_c 0 rfl) rfl
              · skip
                exact zn_ne c10x13 (in_c 0 rfl) rfl
            · skip
              have i10x10x9 := r_lt1 0 31 c10x10x9 i10x10x1 i10x2x9a rfl
              refine g_iconst 1 13 (gd rfl) rfl rfl ?_
              refine g_goto 17 (gd rfl) rfl ?_
              refine g_ireturn (gd rfl) rfl (nb01 (in_w 0 1 (in_c 1 rfl) rfl)) (hp10x10 _ _ ?_)
              show GG _ _ _ _ _ _ _ _ [.int (Int32.ofInt 1)] _ _ _
              refine g_if_eq 16 25 (gd rfl) rfl rfl (fun c10x13 => ?_) (fun c10x13 => ?_)
              · skip
                exact zn_eq c10x13 (in_c 1 rfl) rfl
              · skip
                refine g_iload_n 17 (gd rfl) rfl rfl ?_
                refine g_iload_n 18 (gd rfl) rfl rfl ?_
                refine g_cmp_eq 21 25 (gd rfl) rfl rfl (fun c10x18 => ?_) (fun c10x18 => ?_)
                · skip
                  refine g_iconst 0 26 (gd rfl) rfl rfl ?_
                  refine g_ireturn (gd rfl) rfl (nb01 (in_w 0 1 (in_c 0 rfl) rfl)) (hp10 _ _ ?_)
                  show GG _ _ _ _ _ _ _ _ [.int (Int32.ofInt 0)] _ _ _
                  refine g_if_eq 16 29 (gd rfl) rfl rfl (fun c13 => ?_) (fun c13 => ?_)
                  · skip
                    refine g_iconst 0 30 (gd rfl) rfl rfl ?_
                    refine g_thr (E := am_IA) (y := yX11_allow) 33 (gd rfl) rfl rfl (Or.inl ⟨rfl, rfl, rfl⟩) (by first | exact dq1 hd rfl | exact dq0 hd rfl | exact dq2 hd rfl | exact dq3 hd rfl | omega) (Nat.le_of_ble_eq_true rfl) (Nat.le_of_ble_eq_true rfl) (Nat.le_of_ble_eq_true rfl) (fun c30 => ?_) (fun c30 => ?_)
                    · skip
                      exact zn_ne c30 (in_c 0 rfl) rfl
                    · skip
                      have n30 : ¬ ((TWO (shC s).2.2.2.2.2.2.1 x1 x2) ∧ 0 ≤ x3.toInt ∧ 0 ≤ x4.toInt) := by first | (rw [shC_n (by rw [← e1x1]; exact c1x5)]; show ¬ (TWO (s.2.2.1 2 1).toInt x1 x2 ∧ 0 ≤ x3.toInt ∧ 0 ≤ x4.toInt); rw [← e_2_1]; (first | have a0 := oa5 i10x10x9 i10x2x9 i10x2x9a ro_2_1 i1x5 | ((first | have a0 := in_u i10x10x9 | (have a0 := i10x10x9; unfold In at a0)); (first | have a1 := in_u i10x2x9 | (have a1 := i10x2x9; unfold In at a1)); (first | have a2 := in_u i10x2x9a | (have a2 := i10x2x9a; unfold In at a2)); (first | have a3 := in_u ro_2_1 | (have a3 := ro_2_1; unfold In at a3)); (first | have a4 := in_u i1x5 | (have a4 := i1x5; unfold In at a4)))); have oc := oc_233_0; omega) | (rw [shC_d (by rw [← e1x1]; exact c1x5)]; show ¬ (TWO (s.2.2.1 32 1).toInt x1 x2 ∧ 0 ≤ x3.toInt ∧ 0 ≤ x4.toInt); rw [← e_32_1]; (first | have a0 := oa5 i10x10x9 i10x2x9 i10x2x9a ro_2_1 i1x5 | ((first | have a0 := in_u i10x10x9 | (have a0 := i10x10x9; unfold In at a0)); (first | have a1 := in_u i10x2x9 | (have a1 := i10x2x9; unfold In at a1)); (first | have a2 := in_u i10x2x9a | (have a2 := i10x2x9a; unfold In at a2)); (first | have a3 := in_u ro_2_1 | (have a3 := ro_2_1; unfold In at a3)); (first | have a4 := in_u i1x5 | (have a4 := i1x5; unfold In at a4)))); have oc := oc_233_0; omega)
                      exact (hX _ _ ⟨Or.inl ⟨rfl, n30⟩, s, hI, fr_rf, rfl⟩)
                  · skip
                    exact zn_ne c13 (in_c 0 rfl) rfl
                · skip
                  refine g_iconst 1 22 (gd rfl) rfl rfl ?_
                  refine g_goto 26 (gd rfl) rfl ?_
                  refine g_ireturn (gd rfl) rfl (nb01 (in_w 0 1 (in_c 1 rfl) rfl)) (hp10 _ _ ?_)
                  show GG _ _ _ _ _ _ _ _ [.int (Int32.ofInt 1)] _ _ _
                  refine g_if_eq 16 29 (gd rfl) rfl rfl (fun c13 => ?_) (fun c13 => ?_)
                  · skip
                    exact zn_eq c13 (in_c 1 rfl) rfl
                  · skip
                    refine g_iload_n 17 (gd rfl) rfl rfl ?_
                    refine g_if_lt 20 29 (gd rfl) rfl rfl (fun c17 => ?_) (fun c17 => ?_)
                    · skip
                      have i17 := z_lt (-2147483648) (-1) c17 (i_rng x3) rfl
                      refine g_iconst 0 30 (gd rfl) rfl rfl ?_
                      refine g_thr (E := am_IA) (y := yX11_allow) 33 (gd rfl) rfl rfl (Or.inl ⟨rfl, rfl, rfl⟩) (by first | exact dq1 hd rfl | exact dq0 hd rfl | exact dq2 hd rfl | exact dq3 hd rfl | omega) (Nat.le_of_ble_eq_true rfl) (Nat.le_of_ble_eq_true rfl) (Nat.le_of_ble_eq_true rfl) (fun c30 => ?_) (fun c30 => ?_)
                      · skip
                        exact zn_ne c30 (in_c 0 rfl) rfl
                      · skip
                        have n30 : ¬ ((TWO (shC s).2.2.2.2.2.2.1 x1 x2) ∧ 0 ≤ x3.toInt ∧ 0 ≤ x4.toInt) := by first | (rw [shC_n (by rw [← e1x1]; exact c1x5)]; show ¬ (TWO (s.2.2.1 2 1).toInt x1 x2 ∧ 0 ≤ x3.toInt ∧ 0 ≤ x4.toInt); rw [← e_2_1]; (first | have a0 := oa6 i10x10x9 i10x2x9 i10x2x9a ro_2_1 i1x5 i17 | ((first | have a0 := in_u i10x10x9 | (have a0 := i10x10x9; unfold In at a0)); (first | have a1 := in_u i10x2x9 | (have a1 := i10x2x9; unfold In at a1)); (first | have a2 := in_u i10x2x9a | (have a2 := i10x2x9a; unfold In at a2)); (first | have a3 := in_u ro_2_1 | (have a3 := ro_2_1; unfold In at a3)); (first | have a4 := in_u i1x5 | (have a4 := i1x5; unfold In at a4)); (first | have a5 := in_u i17 | (have a5 := i17; unfold In at a5)))); have oc := oc_233_0; omega) | (rw [shC_d (by rw [← e1x1]; exact c1x5)]; show ¬ (TWO (s.2.2.1 32 1).toInt x1 x2 ∧ 0 ≤ x3.toInt ∧ 0 ≤ x4.toInt); rw [← e_32_1]; (first | have a0 := oa6 i10x10x9 i10x2x9 i10x2x9a ro_2_1 i1x5 i17 | ((first | have a0 := in_u i10x10x9 | (have a0 := i10x10x9; unfold In at a0)); (first | have a1 := in_u i10x2x9 | (have a1 := i10x2x9; unfold In at a1)); (first | have a2 := in_u i10x2x9a | (have a2 := i10x2x9a; unfold In at a2)); (first | have a3 := in_u ro_2_1 | (have a3 := ro_2_1; unfold In at a3)); (first | have a4 := in_u i1x5 | (have a4 := i1x5; unfold In at a4)); (first | have a5 := in_u i17 | (have a5 := i17; unfold In at a5)))); have oc := oc_233_0; omega)
                        exact (hX _ _ ⟨Or.inl ⟨rfl, n30⟩, s, hI, fr_rf, rfl⟩)
                    · skip
                      have i17 := z_ge 0 2147483647 c17 (i_rng x3) rfl
                      refine g_iload 22 (gd rfl) rfl rfl ?_
                      refine g_if_lt 25 29 (gd rfl) rfl rfl (fun c22 => ?_) (fun c22 => ?_)
                      · skip
                        have i22 := z_lt (-2147483648) (-1) c22 (i_rng x4) rfl
                        refine g_iconst 0 30 (gd rfl) rfl rfl ?_
                        refine g_thr (E := am_IA) (y := yX11_allow) 33 (gd rfl) rfl rfl (Or.inl ⟨rfl, rfl, rfl⟩) (by first | exact dq1 hd rfl | exact dq0 hd rfl | exact dq2 hd rfl | exact dq3 hd rfl | omega) (Nat.le_of_ble_eq_true rfl) (Nat.le_of_ble_eq_true rfl) (Nat.le_of_ble_eq_true rfl) (fun c30 => ?_) (fun c30 => ?_)
                        · skip
                          exact zn_ne c30 (in_c 0 rfl) rfl
                        · skip
                          have n30 : ¬ ((TWO (shC s).2.2.2.2.2.2.1 x1 x2) ∧ 0 ≤ x3.toInt ∧ 0 ≤ x4.toInt) := by first | (rw [shC_n (by rw [← e1x1]; exact c1x5)]; show ¬ (TWO (s.2.2.1 2 1).toInt x1 x2 ∧ 0 ≤ x3.toInt ∧ 0 ≤ x4.toInt); rw [← e_2_1]; (first | have a0 := oa7 i10x10x9 i10x2x9 i10x2x9a ro_2_1 i1x5 i22 i17 | ((first | have a0 := in_u i10x10x9 | (have a0 := i10x10x9; unfold In at a0)); (first | have a1 := in_u i10x2x9 | (have a1 := i10x2x9; unfold In at a1)); (first | have a2 := in_u i10x2x9a | (have a2 := i10x2x9a; unfold In at a2)); (first | have a3 := in_u ro_2_1 | (have a3 := ro_2_1; unfold In at a3)); (first | have a4 := in_u i1x5 | (have a4 := i1x5; unfold In at a4)); (first | have a5 := in_u i22 | (have a5 := i22; unfold In at a5)); (first | have a6 := in_u i17 | (have a6 := i17; unfold In at a6)))); have oc := oc_233_0; omega) | (rw [shC_d (by rw [← e1x1]; exact c1x5)]; show ¬ (TWO (s.2.2.1 32 1).toInt x1 x2 ∧ 0 ≤ x3.toInt ∧ 0 ≤ x4.toInt); rw [← e_32_1]; (first | have a0 := oa7 i10x10x9 i10x2x9 i10x2x9a ro_2_1 i1x5 i22 i17 | ((first | have a0 := in_u i10x10x9 | (have a0 := i10x10x9; unfold In at a0)); (first | have a1 := in_u i10x2x9 | (have a1 := i10x2x9; unfold In at a1)); (first | have a2 := in_u i10x2x9a | (have a2 := i10x2x9a; unfold In at a2)); (first | have a3 := in_u ro_2_1 | (have a3 := ro_2_1; unfold In at a3)); (first | have a4 := in_u i1x5 | (have a4 := i1x5; unfold In at a4)); (first | have a5 := in_u i22 | (have a5 := i22; unfold In at a5)); (first | have a6 := in_u i17 | (have a6 := i17; unfold In at a6)))); have oc := oc_233_0; omega)
                          exact (hX _ _ ⟨Or.inl ⟨rfl, n30⟩, s, hI, fr_rf, rfl⟩)
                      · skip
                        have i22 := z_ge 0 2147483647 c22 (i_rng x4) rfl
                        refine g_iconst 1 26 (gd rfl) rfl rfl ?_
                        refine g_goto 30 (gd rfl) rfl ?_
                        refine g_thr (E := am_IA) (y := yX11_allow) 33 (gd rfl) rfl rfl (Or.inl ⟨rfl, rfl, rfl⟩) (by first | exact dq1 hd rfl | exact dq0 hd rfl | exact dq2 hd rfl | exact dq3 hd rfl | omega) (Nat.le_of_ble_eq_true rfl) (Nat.le_of_ble_eq_true rfl) (Nat.le_of_ble_eq_true rfl) (fun c30 => ?_) (fun c30 => ?_)
                        · skip
                          refine g_aload_n 34 (gd rfl) rfl rfl ?_
                          refine g_getA (q2 := 49) 37 (gd rfl) rfl rfl rfl rfl ?_
                          refine g_aload 39 (gd rfl) rfl rfl ?_
                          refine g_iload_n 40 (gd rfl) rfl rfl ?_
                          refine g_iload_n 41 (gd rfl) rfl rfl ?_
                          refine g_iload_n 42 (gd rfl) rfl rfl ?_
                          refine g_iload 44 (gd rfl) rfl rfl ?_
                          have p44 : TQD s := by first | exact q_0 | exact q_1
                          have p44a : NDQ (gvD s) := by first | (rw [← shC_n (by rw [← e1x1]; exact c1x5)]; exact q_2) | (rw [← shC_d (by rw [← e1x1]; exact c1x5)]; exact q_2)
                          have p44b : SHB (gvD s) s := by first | (rw [← shC_n (by rw [← e1x1]; exact c1x5)]; exact q_3.1) | (rw [← shC_d (by rw [← e1x1]; exact c1x5)]; exact q_3.1)
                          have p44c : KSB (gvD s) s := by first | (rw [← shC_n (by rw [← e1x1]; exact c1x5)]; exact q_3.2) | (rw [← shC_d (by rw [← e1x1]; exact c1x5)]; exact q_3.2)
                          refine g_callv (X := _) (As := [.ref (A 32), .int x1, .int x2, .int x3, .int x4]) (r := []) (b := A 49) (q := 49) 47 (gd rfl) rfl rfl rfl rfl rfl (ww_o rfl) (Nat.le_of_ble_eq_true rfl) (Nat.zero_le _) (Nat.zero_le _) (f_206_49_32 (by first | exact dq1 hd rfl | exact dq0 hd rfl | exact dq2 hd rfl | exact dq3 hd rfl | omega) hI (in_w 0 31 i10x2x9 rfl) (in_w 0 31 i10x10x9 rfl) (in_w 0 2147483647 i17 rfl) (in_w 0 2147483647 i22 rfl) p44 p44a p44b p44c) (fun e u h => h) (fun v u h => ?_)
                          obtain ⟨s44, hI44, hF44, z44, rfl, rfl, i44, p44d, p44e, p44f⟩ := h
                          show GG _ _ _ _ _ _ _ _ [.int z44] _ _ _
                          have n47 : ((TWO (shC s).2.2.2.2.2.2.1 x1 x2) ∧ 0 ≤ x3.toInt ∧ 0 ≤ x4.toInt) ∧ SAV (shC s) x1.toNatClampNeg x2.toNatClampNeg x3.toInt x4.toInt (z44).toInt := by first | (rw [shC_n (by rw [← e1x1]; exact c1x5)]; exact ⟨⟨⟨⟨by (first | have a0 := oa7 i10x10x9 i10x2x9 i10x2x9a ro_2_1 i1x5 i22 i17 | ((first | have a0 := in_u i10x10x9 | (have a0 := i10x10x9; unfold In at a0)); (first | have a1 := in_u i10x2x9 | (have a1 := i10x2x9; unfold In at a1)); (first | have a2 := in_u i10x2x9a | (have a2 := i10x2x9a; unfold In at a2)); (first | have a3 := in_u ro_2_1 | (have a3 := ro_2_1; unfold In at a3)); (first | have a4 := in_u i1x5 | (have a4 := i1x5; unfold In at a4)); (first | have a5 := in_u i22 | (have a5 := i22; unfold In at a5)); (first | have a6 := in_u i17 | (have a6 := i17; unfold In at a6)))); have oc := oc_233_0; omega, by show x1.toInt < (s.2.2.1 2 1).toInt; rw [← e_2_1]; (first | have a0 := oa7 i10x10x9 i10x2x9 i10x2x9a ro_2_1 i1x5 i22 i17 | ((first | have a0 := in_u i10x10x9 | (have a0 := i10x10x9; unfold In at a0)); (first | have a1 := in_u i10x2x9 | (have a1 := i10x2x9; unfold In at a1)); (first | have a2 := in_u i10x2x9a | (have a2 := i10x2x9a; unfold In at a2)); (first | have a3 := in_u ro_2_1 | (have a3 := ro_2_1; unfold In at a3)); (first | have a4 := in_u i1x5 | (have a4 := i1x5; unfold In at a4)); (first | have a5 := in_u i22 | (have a5 := i22; unfold In at a5)); (first | have a6 := in_u i17 | (have a6 := i17; unfold In at a6)))); have oc := oc_233_0; omega⟩, ⟨by (first | have a0 := oa7 i10x10x9 i10x2x9 i10x2x9a ro_2_1 i1x5 i22 i17 | ((first | have a0 := in_u i10x10x9 | (have a0 := i10x10x9; unfold In at a0)); (first | have a1 := in_u i10x2x9 | (have a1 := i10x2x9; unfold In at a1)); (first | have a2 := in_u i10x2x9a | (have a2 := i10x2x9a; unfold In at a2)); (first | have a3 := in_u ro_2_1 | (have a3 := ro_2_1; unfold In at a3)); (first | have a4 := in_u i1x5 | (have a4 := i1x5; unfold In at a4)); (first | have a5 := in_u i22 | (have a5 := i22; unfold In at a5)); (first | have a6 := in_u i17 | (have a6 := i17; unfold In at a6)))); have oc := oc_233_0; omega, by show x2.toInt < (s.2.2.1 2 1).toInt; rw [← e_2_1]; (first | have a0 := oa7 i10x10x9 i10x2x9 i10x2x9a ro_2_1 i1x5 i22 i17 | ((first | have a0 := in_u i10x10x9 | (have a0 := i10x10x9; unfold In at a0)); (first | have a1 := in_u i10x2x9 | (have a1 := i10x2x9; unfold In at a1)); (first | have a2 := in_u i10x2x9a | (have a2 := i10x2x9a; unfold In at a2)); (first | have a3 := in_u ro_2_1 | (have a3 := ro_2_1; unfold In at a3)); (first | have a4 := in_u i1x5 | (have a4 := i1x5; unfold In at a4)); (first | have a5 := in_u i22 | (have a5 := i22; unfold In at a5)); (first | have a6 := in_u i17 | (have a6 := i17; unfold In at a6)))); have oc := oc_233_0; omega⟩, by (first | have a0 := oa7 i10x10x9 i10x2x9 i10x2x9a ro_2_1 i1x5 i22 i17 | ((first | have a0 := in_u i10x10x9 | (have a0 := i10x10x9; unfold In at a0)); (first | have a1 := in_u i10x2x9 | (have a1 := i10x2x9; unfold In at a1)); (first | have a2 := in_u i10x2x9a | (have a2 := i10x2x9a; unfold In at a2)); (first | have a3 := in_u ro_2_1 | (have a3 := ro_2_1; unfold In at a3)); (first | have a4 := in_u i1x5 | (have a4 := i1x5; unfold In at a4)); (first | have a5 := in_u i22 | (have a5 := i22; unfold In at a5)); (first | have a6 := in_u i17 | (have a6 := i17; unfold In at a6)))); have oc := oc_233_0; omega⟩, by (first | have a0 := oa7 i10x10x9 i10x2x9 i10x2x9a ro_2_1 i1x5 i22 i17 | ((first | have a0 := in_u i10x10x9 | (have a0 := i10x10x9; unfold In at a0)); (first | have a1 := in_u i10x2x9 | (have a1 := i10x2x9; unfold In at a1)); (first | have a2 := in_u i10x2x9a | (have a2 := i10x2x9a; unfold In at a2)); (first | have a3 := in_u ro_2_1 | (have a3 := ro_2_1; unfold In at a3)); (first | have a4 := in_u i1x5 | (have a4 := i1x5; unfold In at a4)); (first | have a5 := in_u i22 | (have a5 := i22; unfold In at a5)); (first | have a6 := in_u i17 | (have a6 := i17; unfold In at a6)))); have oc := oc_233_0; omega, by (first | have a0 := oa7 i10x10x9 i10x2x9 i10x2x9a ro_2_1 i1x5 i22 i17 | ((first | have a0 := in_u i10x10x9 | (have a0 := i10x10x9; unfold In at a0)); (first | have a1 := in_u i10x2x9 | (have a1 := i10x2x9; unfold In at a1)); (first | have a2 := in_u i10x2x9a | (have a2 := i10x2x9a; unfold In at a2)); (first | have a3 := in_u ro_2_1 | (have a3 := ro_2_1; unfold In at a3)); (first | have a4 := in_u i1x5 | (have a4 := i1x5; unfold In at a4)); (first | have a5 := in_u i22 | (have a5 := i22; unfold In at a5)); (first | have a6 := in_u i17 | (have a6 := i17; unfold In at a6)))); have oc := oc_233_0; omega⟩, p44f⟩) | (rw [shC_d (by rw [← e1x1]; exact c1x5)]; exact ⟨⟨⟨⟨by (first | have a0 := oa7 i10x10x9 i10x2x9 i10x2x9a ro_2_1 i1x5 i22 i17 | ((first | have a0 := in_u i10x10x9 | (have a0 := i10x10x9; unfold In at a0)); (first | have a1 := in_u i10x2x9 | (have a1 := i10x2x9; unfold In at a1)); (first | have a2 := in_u i10x2x9a | (have a2 := i10x2x9a; unfold In at a2)); (first | have a3 := in_u ro_2_1 | (have a3 := ro_2_1; unfold In at a3)); (first | have a4 := in_u i1x5 | (have a4 := i1x5; unfold In at a4)); (first | have a5 := in_u i22 | (have a5 := i22; unfold In at a5)); (first | have a6 := in_u i17 | (have a6 := i17; unfold In at a6)))); have oc := oc_233_0; omega, by show x1.toInt < (s.2.2.1 32 1).toInt; rw [← e_32_1]; (first | have a0 := oa7 i10x10x9 i10x2x9 i10x2x9a ro_2_1 i1x5 i22 i17 | ((first | have a0 := in_u i10x10x9 | (have a0 := i10x10x9; unfold In at a0)); (first | have a1 := in_u i10x2x9 | (have a1 := i10x2x9; unfold In at a1)); (first | have a2 := in_u i10x2x9a | (have a2 := i10x2x9a; unfold In at a2)); (first | have a3 := in_u ro_2_1 | (have a3 := ro_2_1; unfold In at a3)); (first | have a4 := in_u i1x5 | (have a4 := i1x5; unfold In at a4)); (first | have a5 := in_u i22 | (have a5 := i22; unfold In at a5)); (first | have a6 := in_u i17 | (have a6 := i17; unfold In at a6)))); have oc := oc_233_0; omega⟩, ⟨by (first | have a0 := oa7 i10x10x9 i10x2x9 i10x2x9a ro_2_1 i1x5 i22 i17 | ((first | have a0 := in_u i10x10x9 | (have a0 := i10x10x9; unfold In at a0)); (first | have a1 := in_u i10x2x9 | (have a1 := i10x2x9; unfold In at a1)); (first | have a2 := in_u i10x2x9a | (have a2 := i10x2x9a; unfold In at a2)); (first | have a3 := in_u ro_2_1 | (have a3 := ro_2_1; unfold In at a3)); (first | have a4 := in_u i1x5 | (have a4 := i1x5; unfold In at a4)); (first | have a5 := in_u i22 | (have a5 := i22; unfold In at a5)); (first | have a6 := in_u i17 | (have a6 := i17; unfold In at a6)))); have oc := oc_233_0; omega, by show x2.toInt < (s.2.2.1 32 1).toInt; rw [← e_32_1]; (first | have a0 := oa7 i10x10x9 i10x2x9 i10x2x9a ro_2_1 i1x5 i22 i17 | ((first | have a0 := in_u i10x10x9 | (have a0 := i10x10x9; unfold In at a0)); (first | have a1 := in_u i10x2x9 | (have a1 := i10x2x9; unfold In at a1)); (first | have a2 := in_u i10x2x9a | (have a2 := i10x2x9a; unfold In at a2)); (first | have a3 := in_u ro_2_1 | (have a3 := ro_2_1; unfold In at a3)); (first | have a4 := in_u i1x5 | (have a4 := i1x5; unfold In at a4)); (first | have a5 := in_u i22 | (have a5 := i22; unfold In at a5)); (first | have a6 := in_u i17 | (have a6 := i17; unfold In at a6)))); have oc := oc_233_0; omega⟩, by (first | have a0 := oa7 i10x10x9 i10x2x9 i10x2x9a ro_2_1 i1x5 i22 i17 | ((first | have a0 := in_u i10x10x9 | (have a0 := i10x10x9; unfold In at a0)); (first | have a1 := in_u i10x2x9 | (have a1 := i10x2x9; unfold In at a1)); (first | have a2 := in_u i10x2x9a | (have a2 := i10x2x9a; unfold In at a2)); (first | have a3 := in_u ro_2_1 | (have a3 := ro_2_1; unfold In at a3)); (first | have a4 := in_u i1x5 | (have a4 := i1x5; unfold In at a4)); (first | have a5 := in_u i22 | (have a5 := i22; unfold In at a5)); (first | have a6 := in_u i17 | (have a6 := i17; unfold In at a6)))); have oc := oc_233_0; omega⟩, by (first | have a0 := oa7 i10x10x9 i10x2x9 i10x2x9a ro_2_1 i1x5 i22 i17 | ((first | have a0 := in_u i10x10x9 | (have a0 := i10x10x9; unfold In at a0)); (first | have a1 := in_u i10x2x9 | (have a1 := i10x2x9; unfold In at a1)); (first | have a2 := in_u i10x2x9a | (have a2 := i10x2x9a; unfold In at a2)); (first | have a3 := in_u ro_2_1 | (have a3 := ro_2_1; unfold In at a3)); (first | have a4 := in_u i1x5 | (have a4 := i1x5; unfold In at a4)); (first | have a5 := in_u i22 | (have a5 := i22; unfold In at a5)); (first | have a6 := in_u i17 | (have a6 := i17; unfold In at a6)))); have oc := oc_233_0; omega, by (first | have a0 := oa7 i10x10x9 i10x2x9 i10x2x9a ro_2_1 i1x5 i22 i17 | ((first | have a0 := in_u i10x10x9 | (have a0 := i10x10x9; unfold In at a0)); (first | have a1 := in_u i10x2x9 | (have a1 := i10x2x9; unfold In at a1)); (first | have a2 := in_u i10x2x9a | (have a2 := i10x2x9a; unfold In at a2)); (first | have a3 := in_u ro_2_1 | (have a3 := ro_2_1; unfold In at a3)); (first | have a4 := in_u i1x5 | (have a4 := i1x5; unfold In at a4)); (first | have a5 := in_u i22 | (have a5 := i22; unfold In at a5)); (first | have a6 := in_u i17 | (have a6 := i17; unfold In at a6)))); have oc := oc_233_0; omega⟩, p44f⟩)
                          have n47a : SKG (shC s) s44 := by refine ⟨q_2, ?_⟩; first | (rw [shC_n (by rw [← e1x1]; exact c1x5)]; exact ⟨p44d, p44e⟩) | (rw [shC_d (by rw [← e1x1]; exact c1x5)]; exact ⟨p44d, p44e⟩)
                          exact g_ireturn (gd rfl) rfl rfl (hP _ _ ⟨s44, hI44, (fr_tr rfl fr_rf hF44), z44, rfl, rfl, in_w (-2147483648) 2147483647 i44 rfl, n47, n47a⟩)
                        · skip
                          exact zn_eq c30 (in_c 1 rfl) rfl
  · skip
    have i1x5 := r_eq1 (-1) (-1) c1x5 ro_0_2 (in_c (-1) rfl) rfl
    refine g_aload_n 9 (gd rfl) rfl rfl ?_
    refine g_getA (q2 := 1) 12 (gd rfl) rfl rfl rfl rfl ?_
    refine g_getA (q2 := 2) 15 (gd rfl) rfl rfl rfl rfl ?_
    refine g_goto 22 (gd rfl) rfl ?_
    refine g_areturn (gd rfl) rfl (hp1 _ _ ?_)
    show GG _ _ _ _ _ _ _ _ [.ref (A 2)] _ _ _
    refine g_astore 6 (gd rfl) rfl (Nat.le_of_ble_eq_true rfl) ?_
    refine g_aload 8 (gd rfl) rfl rfl ?_
    refine g_iload_n 9 (gd rfl) rfl rfl ?_
    refine g_iload_n 10 (gd rfl) rfl rfl ?_
    refine g_callv (X := _) (As := [.int x1, .int x2]) (r := []) (b := A 2) (q := 2) 13 (gd rfl) rfl rfl rfl rfl rfl (ww_o rfl) (Nat.le_of_ble_eq_true rfl) (mc := 0) (ms := 0) (Nat.zero_le _) (Nat.zero_le _) (P := fun v u => _) ?_ (fun e u h => h) (fun v u h => h)
    intro po10 xx10 hp10 hx10
    refine g_enter2 (k := 95) (N := 300) (by first | exact dq1 hd rfl | exact dq0 hd rfl | exact dq2 hd rfl | exact dq3 hd rfl | omega) rfl (Nat.le_of_ble_eq_true rfl) ?_
    refine g_aload_n 1 (gd rfl) rfl rfl ?_
    refine g_iload_n 2 (gd rfl) rfl rfl ?_
    refine g_callv (X := _) (As := [.int x1]) (r := []) (b := A 2) (q := 2) 5 (gd rfl) rfl rfl rfl rfl rfl (ww_o rfl) (Nat.le_of_ble_eq_true rfl) (mc := 0) (ms := 0) (Nat.zero_le _) (Nat.zero_le _) (P := fun v u => _) ?_ (fun e u h => h) (fun v u h => h)
    intro po10x2 xx10x2 hp10x2 hx10x2
    refine g_enter2 (k := 94) (N := 300) (by first | exact dq1 hd rfl | exact dq0 hd rfl | exact dq2 hd rfl | exact dq3 hd rfl | omega) rfl (Nat.le_of_ble_eq_true rfl) ?_
    refine g_iload_n 1 (gd rfl) rfl rfl ?_
    refine g_if_lt 4 16 (gd rfl) rfl rfl (fun c10x2x1 => ?_) (fun c10x2x1 => ?_)
    · skip
      have i10x2x1 := z_lt (-2147483648) (-1) c10x2x1 (i_rng x1) rfl
      refine g_iconst 0 17 (gd rfl) rfl rfl ?_
      refine g_ireturn (gd rfl) rfl (nb01 (in_w 0 1 (in_c 0 rfl) rfl)) (hp10x2 _ _ ?_)
      show GG _ _ _ _ _ _ _ _ [.int (Int32.ofInt 0)] _ _ _
      refine g_if_eq 8 25 (gd rfl) rfl rfl (fun c10x5 => ?_) (fun c10x5 => ?_)
      · skip
        refine g_iconst 0 26 (gd rfl) rfl rfl ?_
        refine g_ireturn (gd rfl) rfl (nb01 (in_w 0 1 (in_c 0 rfl) rfl)) (hp10 _ _ ?_)
        show GG _ _ _ _ _ _ _ _ [.int (Int32.ofInt 0)] _ _ _
        refine g_if_eq 16 29 (gd rfl) rfl rfl (fun c13 => ?_) (fun c13 => ?_)
        · skip
          refine g_iconst 0 30 (gd rfl) rfl rfl ?_
          refine g_thr (E := am_IA) (y := yX11_allow) 33 (gd rfl) rfl rfl (Or.inl ⟨rfl, rfl, rfl⟩) (by first | exact dq1 hd rfl | exact dq0 hd rfl | exact dq2 hd rfl | exact dq3 hd rfl | omega) (Nat.le_of_ble_eq_true rfl) (Nat.le_of_ble_eq_true rfl) (Nat.le_of_ble_eq_true rfl) (fun c30 => ?_) (fun c30 => ?_)
          · skip
            exact zn_ne c30 (in_c 0 rfl) rfl
          · skip
            have n30 : ¬ ((TWO (shC s).2.2.2.2.2.2.1 x1 x2) ∧ 0 ≤ x3.toInt ∧ 0 ≤ x4.toInt) := by first | (rw [shC_n (by rw [← e1x1]; exact c1x5)]; show ¬ (TWO (s.2.2.1 2 1).toInt x1 x2 ∧ 0 ≤ x3.toInt ∧ 0 ≤ x4.toInt); rw [← e_2_1]; (first | have a0 := oa4 ro_32_1 ro_2_1 i1x5 i10x2x1 | ((first | have a0 := in_u ro_32_1 | (have a0 := ro_32_1; unfold In at a0)); (first | have a1 := in_u ro_2_1 | (have a1 := ro_2_1; unfold In at a1)); (first | have a2 := in_u i1x5 | (have a2 := i1x5; unfold In at a2)); (first | have a3 := in_u i10x2x1 | (have a3 := i10x2x1; unfold In at a3)))); have oc := oc_233_0; omega) | (rw [shC_d (by rw [← e1x1]; exact c1x5)]; show ¬ (TWO (s.2.2.1 32 1).toInt x1 x2 ∧ 0 ≤ x3.toInt ∧ 0 ≤ x4.toInt); rw [← e_32_1]; (first | have a0 := oa4 ro_32_1 ro_2_1 i1x5 i10x2x1 | ((first | have a0 := in_u ro_32_1 | (have a0 := ro_32_1; unfold In at a0)); (first | have a1 := in_u ro_2_1 | (have a1 := ro_2_1; unfold In at a1)); (first | have a2 := in_u i1x5 | (have a2 := i1x5; unfold In at a2)); (first | have a3 := in_u i10x2x1 | (have a3 := i10x2x1; unfold In at a3)))); have oc := oc_233_0; omega)
            exact (hX _ _ ⟨Or.inl ⟨rfl, n30⟩, s, hI, fr_rf, rfl⟩)
        · skip
          exact zn_ne c13 (in_c 0 rfl) rfl
      · skip
        exact zn_ne c10x5 (in_c 0 rfl) rfl
    · skip
      have i10x2x1 := z_ge 0 2147483647 c10x2x1 (i_rng x1) rfl
      refine g_iload_n 5 (gd rfl) rfl rfl ?_
      refine g_aload_n 6 (gd rfl) rfl rfl ?_
      refine g_getI 9 (gd rfl) rfl rfl rfl (fun z10x2x6 e10x2x6 => ?_)
      have q10x2x6 : u_2_1 = z10x2x6 := (e_2_1).trans e10x2x6.symm
      subst q10x2x6
      refine g_cmp_ge 12 16 (gd rfl) rfl rfl (fun c10x2x9 => ?_) (fun c10x2x9 => ?_)
      · skip
        refine g_iconst 0 17 (gd rfl) rfl rfl ?_
        refine g_ireturn (gd rfl) rfl (nb01 (in_w 0 1 (in_c 0 rfl) rfl)) (hp10x2 _ _ ?_)
        show GG _ _ _ _ _ _ _ _ [.int (Int32.ofInt 0)] _ _ _
        refine g_if_eq 8 25 (gd rfl) rfl rfl (fun c10x5 => ?_) (fun c10x5 => ?_)
        · skip
          refine g_iconst 0 26 (gd rfl) rfl rfl ?_
          refine g_ireturn (gd rfl) rfl (nb01 (in_w 0 1 (in_c 0 rfl) rfl)) (hp10 _ _ ?_)
          show GG _ _ _ _ _ _ _ _ [.int (Int32.ofInt 0)] _ _ _
          refine g_if_eq 16 29 (gd rfl) rfl rfl (fun c13 => ?_) (fun c13 => ?_)
          · skip
            refine g_iconst 0 30 (gd rfl) rfl rfl ?_
            refine g_thr (E := am_IA) (y := yX11_allow) 33 (gd rfl) rfl rfl (Or.inl ⟨rfl, rfl, rfl⟩) (by first | exact dq1 hd rfl | exact dq0 hd rfl | exact dq2 hd rfl | exact dq3 hd rfl | omega) (Nat.le_of_ble_eq_true rfl) (Nat.le_of_ble_eq_true rfl) (Nat.le_of_ble_eq_true rfl) (fun c30 => ?_) (fun c30 => ?_)
            · skip
              exact zn_ne c30 (in_c 0 rfl) rfl
            · skip
              have n30 : ¬ ((TWO (shC s).2.2.2.2.2.2.1 x1 x2) ∧ 0 ≤ x3.toInt ∧ 0 ≤ x4.toInt) := by first | (rw [shC_n (by rw [← e1x1]; exact c1x5)]; show ¬ (TWO (s.2.2.1 2 1).toInt x1 x2 ∧ 0 ≤ x3.toInt ∧ 0 ≤ x4.toInt); rw [← e_2_1]; (first | have a0 := oa4 ro_32_1 ro_2_1 i1x5 i10x2x1 | ((first | have a0 := in_u ro_32_1 | (have a0 := ro_32_1; unfold In at a0)); (first | have a1 := in_u ro_2_1 | (have a1 := ro_2_1; unfold In at a1)); (first | have a2 := in_u i1x5 | (have a2 := i1x5; unfold In at a2)); (first | have a3 := in_u i10x2x1 | (have a3 := i10x2x1; unfold In at a3)))); have oc := oc_233_0; omega) | (rw [shC_d (by rw [← e1x1]; exact c1x5)]; show ¬ (TWO (s.2.2.1 32 1).toInt x1 x2 ∧ 0 ≤ x3.toInt ∧ 0 ≤ x4.toInt); rw [← e_32_1]; (first | have a0 := oa4 ro_32_1 ro_2_1 i1x5 i10x2x1 | ((first | have a0 := in_u ro_32_1 | (have a0 := ro_32_1; unfold In at a0)); (first | have a1 := in_u ro_2_1 | (have a1 := ro_2_1; unfold In at a1)); (first | have a2 := in_u i1x5 | (have a2 := i1x5; unfold In at a2)); (first | have a3 := in_u i10x2x1 | (have a3 := i10x2x1; unfold In at a3)))); have oc := oc_233_0; omega)
              exact (hX _ _ ⟨Or.inl ⟨rfl, n30⟩, s, hI, fr_rf, rfl⟩)
          · skip
            exact zn_ne c13 (in_c 0 rfl) rfl
        · skip
          exact zn_ne c10x5 (in_c 0 rfl) rfl
      · skip
        have i10x2x9 := r_lt1 0 31 c10x2x9 i10x2x1 ro_2_1 rfl
        have i10x2x9a := r_lt2 1 32 c10x2x9 i10x2x1 ro_2_1 rfl
        refine g_iconst 1 13 (gd rfl) rfl rfl ?_
        refine g_goto 17 (gd rfl) rfl ?_
        refine g_ireturn (gd rfl) rfl (nb01 (in_w 0 1 (in_c 1 rfl) rfl)) (hp10x2 _ _ ?_)
        show GG _ _ _ _ _ _ _ _ [.int (Int32.ofInt 1)] _ _ _
        refine g_if_eq 8 25 (gd rfl) rfl rfl (fun c10x5 => ?_) (fun c10x5 => ?_)
        · skip
          exact zn_eq c10x5 (in_c 1 rfl) rfl
        · skip
          refine g_aload_n 9 (gd rfl) rfl rfl ?_
          refine g_iload_n 10 (gd rfl) rfl rfl ?_
          refine g_callv (X := _) (As := [.int x2]) (r := []) (b := A 2) (q := 2) 13 (gd rfl) rfl rfl rfl rfl rfl (ww_o rfl) (Nat.le_of_ble_eq_true rfl) (mc := 0) (ms := 0) (Nat.zero_le _) (Nat.zero_le _) (P := fun v u => _) ?_ (fun e u h => h) (fun v u h => h)
          intro po10x10 xx10x10 hp10x10 hx10x10
          refine g_enter2 (k := 94) (N := 300) (by first | exact dq1 hd rfl | exact dq0 hd rfl | exact dq2 hd rfl | exact dq3 hd rfl | omega) rfl (Nat.le_of_ble_eq_true rfl) ?_
          refine g_iload_n 1 (gd rfl) rfl rfl ?_
          refine g_if_lt 4 16 (gd rfl) rfl rfl (fun c10x10x1 => ?_) (fun c10x10x1 => ?_)
          · skip
            have i10x10x1 := z_lt (-2147483648) (-1) c10x10x1 (i_rng x2) rfl
            refine g_iconst 0 17 (gd rfl) rfl rfl ?_
            refine g_ireturn (gd rfl) rfl (nb01 (in_w 0 1 (in_c 0 rfl) rfl)) (hp10x10 _ _ ?_)
            show GG _ _ _ _ _ _ _ _ [.int (Int32.ofInt 0)] _ _ _
            refine g_if_eq 16 25 (gd rfl) rfl rfl (fun c10x13 => ?_) (fun c10x13 => ?_)
            · skip
              refine g_iconst 0 26 (gd rfl) rfl rfl ?_
              refine g_ireturn (gd rfl) rfl (nb01 (in_w 0 1 (in_c 0 rfl) rfl)) (hp10 _ _ ?_)
              show GG _ _ _ _ _ _ _ _ [.int (Int32.ofInt 0)] _ _ _
              refine g_if_eq 16 29 (gd rfl) rfl rfl (fun c13 => ?_) (fun c13 => ?_)
              · skip
                refine g_iconst 0 30 (gd rfl) rfl rfl ?_
                refine g_thr (E := am_IA) (y := yX11_allow) 33 (gd rfl) rfl rfl (Or.inl ⟨rfl, rfl, rfl⟩) (by first | exact dq1 hd rfl | exact dq0 hd rfl | exact dq2 hd rfl | exact dq3 hd rfl | omega) (Nat.le_of_ble_eq_true rfl) (Nat.le_of_ble_eq_true rfl) (Nat.le_of_ble_eq_true rfl) (fun c30 => ?_) (fun c30 => ?_)
                · skip
                  exact zn_ne c30 (in_c 0 rfl) rfl
                · skip
                  have n30 : ¬ ((TWO (shC s).2.2.2.2.2.2.1 x1 x2) ∧ 0 ≤ x3.toInt ∧ 0 ≤ x4.toInt) := by first | (rw [shC_n (by rw [← e1x1]; exact c1x5)]; show ¬ (TWO (s.2.2.1 2 1).toInt x1 x2 ∧ 0 ≤ x3.toInt ∧ 0 ≤ x4.toInt); rw [← e_2_1]; (first | have a0 := oa5 i10x2x9 ro_32_1 i10x2x9a i1x5 i10x10x1 | ((first | have a0 := in_u i10x2x9 | (have a0 := i10x2x9; unfold In at a0)); (first | have a1 := in_u ro_32_1 | (have a1 := ro_32_1; unfold In at a1)); (first | have a2 := in_u i10x2x9a | (have a2 := i10x2x9a; unfold In at a2)); (first | have a3 := in_u i1x5 | (have a3 := i1x5; unfold In at a3)); (first | have a4 := in_u i10x10x1 | (have a4 := i10x10x1; unfold In at a4)))); have oc := oc_233_0; omega) | (rw [shC_d (by rw [← e1x1]; exact c1x5)]; show ¬ (TWO (s.2.2.1 32 1).toInt x1 x2 ∧ 0 ≤ x3.toInt ∧ 0 ≤ x4.toInt); rw [← e_32_1]; (first | have a0 := oa5 i10x2x9 ro_32_1 i10x2x9a i1x5 i10x10x1 | ((first | have a0 := in_u i10x2x9 | (have a0 := i10x2x9; unfold In at a0)); (first | have a1 := in_u ro_32_1 | (have a1 := ro_32_1; unfold In at a1)); (first | have a2 := in_u i10x2x9a | (have a2 := i10x2x9a; unfold In at a2)); (first | have a3 := in_u i1x5 | (have a3 := i1x5; unfold In at a3)); (first | have a4 := in_u i10x10x1 | (have a4 := i10x10x1; unfold In at a4)))); have oc := oc_233_0; omega)
                  exact (hX _ _ ⟨Or.inl ⟨rfl, n30⟩, s, hI, fr_rf, rfl⟩)
              · skip
                exact zn_ne c13 (in_c 0 rfl) rfl
            · skip
              exact zn_ne c10x13 (in_c 0 rfl) rfl
          · skip
            have i10x10x1 := z_ge 0 2147483647 c10x10x1 (i_rng x2) rfl
            refine g_iload_n 5 (gd rfl) rfl rfl ?_
            refine g_aload_n 6 (gd rfl) rfl rfl ?_
            refine g_getI 9 (gd rfl) rfl rfl rfl (fun z10x10x6 e10x10x6 => ?_)
            have q10x10x6 : u_2_1 = z10x10x6 := (e_2_1).trans e10x10x6.symm
            subst q10x10x6
            refine g_cmp_ge 12 16 (gd rfl) rfl rfl (fun c10x10x9 => ?_) (fun c10x10x9 => ?_)
            · skip
              have i10x10x9 := r_le2 1 2147483647 c10x10x9 i10x2x9a i10x10x1 rfl
              refine g_iconst 0 17 (gd rfl) rfl rfl ?_
              refine g_ireturn (gd rfl) rfl (nb01 (in_w 0 1 (in_c 0 rfl) rfl)) (hp10x10 _ _ ?_)
              show GG _ _ _ _ _ _ _ _ [.int (Int32.ofInt 0)] _ _ _
              refine g_if_eq 16 25 (gd rfl) rfl rfl (fun c10x13 => ?_) (fun c10x13 => ?_)
              · skip
                refine g_iconst 0 26 (gd rfl) rfl rfl ?_
                refine g_ireturn (gd rfl) rfl (nb01 (in_w 0 1 (in_c 0 rfl) rfl)) (hp10 _ _ ?_)
                show GG _ _ _ _ _ _ _ _ [.int (Int32.ofInt 0)] _ _ _
                refine g_if_eq 16 29 (gd rfl) rfl rfl (fun c13 => ?_) (fun c13 => ?_)
                · skip
                  refine g_iconst 0 30 (gd rfl) rfl rfl ?_
                  refine g_thr (E := am_IA) (y := yX11_allow) 33 (gd rfl) rfl rfl (Or.inl ⟨rfl, rfl, rfl⟩) (by first | exact dq1 hd rfl | exact dq0 hd rfl | exact dq2 hd rfl | exact dq3 hd rfl | omega) (Nat.le_of_ble_eq_true rfl) (Nat.le_of_ble_eq_true rfl) (Nat.le_of_ble_eq_true rfl) (fun c30 => ?_) (fun c30 => ?_)
                  · skip
                    exact zn_ne c30 (in_c 0 rfl) rfl
                  · skip
                    have n30 : ¬ ((TWO (shC s).2.2.2.2.2.2.1 x1 x2) ∧ 0 ≤ x3.toInt ∧ 0 ≤ x4.toInt) := by first | (rw [shC_n (by rw [← e1x1]; exact c1x5)]; show ¬ (TWO (s.2.2.1 2 1).toInt x1 x2 ∧ 0 ≤ x3.toInt ∧ 0 ≤ x4.toInt); rw [← e_2_1]; (first | have a0 := oa5 i10x2x9 ro_32_1 i10x2x9a i1x5 i10x10x9 | ((first | have a0 := in_u i10x2x9 | (have a0 := i10x2x9; unfold In at a0)); (first | have a1 := in_u ro_32_1 | (have a1 := ro_32_1; unfold In at a1)); (first | have a2 := in_u i10x2x9a | (have a2 := i10x2x9a; unfold In at a2)); (first | have a3 := in_u i1x5 | (have a3 := i1x5; unfold In at a3)); (first | have a4 := in_u i10x10x9 | (have a4 := i10x10x9; unfold In at a4)))); have oc := oc_233_0; omega) | (rw [shC_d (by rw [← e1x1]; exact c1x5)]; show ¬ (TWO (s.2.2.1 32 1).toInt x1 x2 ∧ 0 ≤ x3.toInt ∧ 0 ≤ x4.toInt); rw [← e_32_1]; (first | have a0 := oa5 i10x2x9 ro_32_1 i10x2x9a i1x5 i10x10x9 | ((first | have a0 := in_u i10x2x9 | (have a0 := i10x2x9; unfold In at a0)); (first | have a1 := in_u ro_32_1 | (have a1 := ro_32_1; unfold In at a1)); (first | have a2 := in_u i10x2x9a | (have a2 := i10x2x9a; unfold In at a2)); (first | have a3 := in_u i1x5 | (have a3 := i1x5; unfold In at a3)); (first | have a4 := in_u i10x10x9 | (have a4 := i10x10x9; unfold In at a4)))); have oc := oc_233_0; omega)
                    exact (hX _ _ ⟨Or.inl ⟨rfl, n30⟩, s, hI, fr_rf, rfl⟩)
                · skip
                  exact zn_ne c13 (in_c 0 rfl) rfl
              · skip
                exact zn_ne c10x13 (in_c 0 rfl) rfl
            · skip
              have i10x10x9 := r_lt1 0 31 c10x10x9 i10x10x1 i10x2x9a rfl
              refine g_iconst 1 13 (gd rfl) rfl rfl ?_
              refine g_goto 17 (gd rfl) rfl ?_
              refine g_ireturn (gd rfl) rfl (nb01 (in_w 0 1 (in_c 1 rfl) rfl)) (hp10x10 _ _ ?_)
              show GG _ _ _ _ _ _ _ _ [.int (Int32.ofInt 1)] _ _ _
              refine g_if_eq 16 25 (gd rfl) rfl rfl (fun c10x13 => ?_) (fun c10x13 => ?_)
              · skip
                exact zn_eq c10x13 (in_c 1 rfl) rfl
              · skip
                refine g_iload_n 17 (gd rfl) rfl rfl ?_
                refine g_iload_n 18 (gd rfl) rfl rfl ?_
                refine g_cmp_eq 21 25 (gd rfl) rfl rfl (fun c10x18 => ?_) (fun c10x18 => ?_)
                · skip
                  refine g_iconst 0 26 (gd rfl) rfl rfl ?_
                  refine g_ireturn (gd rfl) rfl (nb01 (in_w 0 1 (in_c 0 rfl) rfl)) (hp10 _ _ ?_)
                  show GG _ _ _ _ _ _ _ _ [.int (Int32.ofInt 0)] _ _ _
                  refine g_if_eq 16 29 (gd rfl) rfl rfl (fun c13 => ?_) (fun c13 => ?_)
                  · skip
                    refine g_iconst 0 30 (gd rfl) rfl rfl ?_
                    refine g_thr (E := am_IA) (y := yX11_allow) 33 (gd rfl) rfl rfl (Or.inl ⟨rfl, rfl, rfl⟩) (by first | exact dq1 hd rfl | exact dq0 hd rfl | exact dq2 hd rfl | exact dq3 hd rfl | omega) (Nat.le_of_ble_eq_true rfl) (Nat.le_of_ble_eq_true rfl) (Nat.le_of_ble_eq_true rfl) (fun c30 => ?_) (fun c30 => ?_)
                    · skip
                      exact zn_ne c30 (in_c 0 rfl) rfl
                    · skip
                      have n30 : ¬ ((TWO (shC s).2.2.2.2.2.2.1 x1 x2) ∧ 0 ≤ x3.toInt ∧ 0 ≤ x4.toInt) := by first | (rw [shC_n (by rw [← e1x1]; exact c1x5)]; show ¬ (TWO (s.2.2.1 2 1).toInt x1 x2 ∧ 0 ≤ x3.toInt ∧ 0 ≤ x4.toInt); rw [← e_2_1]; (first | have a0 := oa5 i10x10x9 i10x2x9 ro_32_1 i10x2x9a i1x5 | ((first | have a0 := in_u i10x10x9 | (have a0 := i10x10x9; unfold In at a0)); (first | have a1 := in_u i10x2x9 | (have a1 := i10x2x9; unfold In at a1)); (first | have a2 := in_u ro_32_1 | (have a2 := ro_32_1; unfold In at a2)); (first | have a3 := in_u i10x2x9a | (have a3 := i10x2x9a; unfold In at a3)); (first | have a4 := in_u i1x5 | (have a4 := i1x5; unfold In at a4)))); have oc := oc_233_0; omega) | (rw [shC_d (by rw [← e1x1]; exact c1x5)]; show ¬ (TWO (s.2.2.1 32 1).toInt x1 x2 ∧ 0 ≤ x3.toInt ∧ 0 ≤ x4.toInt); rw [← e_32_1]; (first | have a0 := oa5 i10x10x9 i10x2x9 ro_32_1 i10x2x9a i1x5 | ((first | have a0 := in_u i10x10x9 | (have a0 := i10x10x9; unfold In at a0)); (first | have a1 := in_u i10x2x9 | (have a1 := i10x2x9; unfold In at a1)); (first | have a2 := in_u ro_32_1 | (have a2 := ro_32_1; unfold In at a2)); (first | have a3 := in_u i10x2x9a | (have a3 := i10x2x9a; unfold In at a3)); (first | have a4 := in_u i1x5 | (have a4 := i1x5; unfold In at a4)))); have oc := oc_233_0; omega)
                      exact (hX _ _ ⟨Or.inl ⟨rfl, n30⟩, s, hI, fr_rf, rfl⟩)
                  · skip
                    exact zn_ne c13 (in_c 0 rfl) rfl
                · skip
                  refine g_iconst 1 22 (gd rfl) rfl rfl ?_
                  refine g_goto 26 (gd rfl) rfl ?_
                  refine g_ireturn (gd rfl) rfl (nb01 (in_w 0 1 (in_c 1 rfl) rfl)) (hp10 _ _ ?_)
                  show GG _ _ _ _ _ _ _ _ [.int (Int32.ofInt 1)] _ _ _
                  refine g_if_eq 16 29 (gd rfl) rfl rfl (fun c13 => ?_) (fun c13 => ?_)
                  · skip
                    exact zn_eq c13 (in_c 1 rfl) rfl
                  · skip
                    refine g_iload_n 17 (gd rfl) rfl rfl ?_
                    refine g_if_lt 20 29 (gd rfl) rfl rfl (fun c17 => ?_) (fun c17 => ?_)
                    · skip
                      have i17 := z_lt (-2147483648) (-1) c17 (i_rng x3) rfl
                      refine g_iconst 0 30 (gd rfl) rfl rfl ?_
                      refine g_thr (E := am_IA) (y := yX11_allow) 33 (gd rfl) rfl rfl (Or.inl ⟨rfl, rfl, rfl⟩) (by first | exact dq1 hd rfl | exact dq0 hd rfl | exact dq2 hd rfl | exact dq3 hd rfl | omega) (Nat.le_of_ble_eq_true rfl) (Nat.le_of_ble_eq_true rfl) (Nat.le_of_ble_eq_true rfl) (fun c30 => ?_) (fun c30 => ?_)
                      · skip
                        exact zn_ne c30 (in_c 0 rfl) rfl
                      · skip
                        have n30 : ¬ ((TWO (shC s).2.2.2.2.2.2.1 x1 x2) ∧ 0 ≤ x3.toInt ∧ 0 ≤ x4.toInt) := by first | (rw [shC_n (by rw [← e1x1]; exact c1x5)]; show ¬ (TWO (s.2.2.1 2 1).toInt x1 x2 ∧ 0 ≤ x3.toInt ∧ 0 ≤ x4.toInt); rw [← e_2_1]; (first | have a0 := oa6 i10x10x9 i10x2x9 ro_32_1 i10x2x9a i1x5 i17 | ((first | have a0 := in_u i10x10x9 | (have a0 := i10x10x9; unfold In at a0)); (first | have a1 := in_u i10x2x9 | (have a1 := i10x2x9; unfold In at a1)); (first | have a2 := in_u ro_32_1 | (have a2 := ro_32_1; unfold In at a2)); (first | have a3 := in_u i10x2x9a | (have a3 := i10x2x9a; unfold In at a3)); (first | have a4 := in_u i1x5 | (have a4 := i1x5; unfold In at a4)); (first | have a5 := in_u i17 | (have a5 := i17; unfold In at a5)))); have oc := oc_233_0; omega) | (rw [shC_d (by rw [← e1x1]; exact c1x5)]; show ¬ (TWO (s.2.2.1 32 1).toInt x1 x2 ∧ 0 ≤ x3.toInt ∧ 0 ≤ x4.toInt); rw [← e_32_1]; (first | have a0 := oa6 i10x10x9 i10x2x9 ro_32_1 i10x2x9a i1x5 i17 | ((first | have a0 := in_u i10x10x9 | (have a0 := i10x10x9; unfold In at a0)); (first | have a1 := in_u i10x2x9 | (have a1 := i10x2x9; unfold In at a1)); (first | have a2 := in_u ro_32_1 | (have a2 := ro_32_1; unfold In at a2)); (first | have a3 := in_u i10x2x9a | (have a3 := i10x2x9a; unfold In at a3)); (first | have a4 := in_u i1x5 | (have a4 := i1x5; unfold In at a4)); (first | have a5 := in_u i17 | (have a5 := i17; unfold In at a5)))); have oc := oc_233_0; omega)
                        exact (hX _ _ ⟨Or.inl ⟨rfl, n30⟩, s, hI, fr_rf, rfl⟩)
                    · skip
                      have i17 := z_ge 0 2147483647 c17 (i_rng x3) rfl
                      refine g_iload 22 (gd rfl) rfl rfl ?_
                      refine g_if_lt 25 29 (gd rfl) rfl rfl (fun c22 => ?_) (fun c22 => ?_)
                      · skip
                        have i22 := z_lt (-2147483648) (-1) c22 (i_rng x4) rfl
                        refine g_iconst 0 30 (gd rfl) rfl rfl ?_
                        refine g_thr (E := am_IA) (y := yX11_allow) 33 (gd rfl) rfl rfl (Or.inl ⟨rfl, rfl, rfl⟩) (by first | exact dq1 hd rfl | exact dq0 hd rfl | exact dq2 hd rfl | exact dq3 hd rfl | omega) (Nat.le_of_ble_eq_true rfl) (Nat.le_of_ble_eq_true rfl) (Nat.le_of_ble_eq_true rfl) (fun c30 => ?_) (fun c30 => ?_)
                        · skip
                          exact zn_ne c30 (in_c 0 rfl) rfl
                        · skip
                          have n30 : ¬ ((TWO (shC s).2.2.2.2.2.2.1 x1 x2) ∧ 0 ≤ x3.toInt ∧ 0 ≤ x4.toInt) := by first | (rw [shC_n (by rw [← e1x1]; exact c1x5)]; show ¬ (TWO (s.2.2.1 2 1).toInt x1 x2 ∧ 0 ≤ x3.toInt ∧ 0 ≤ x4.toInt); rw [← e_2_1]; (first | have a0 := oa7 i10x10x9 i10x2x9 ro_32_1 i10x2x9a i1x5 i22 i17 | ((first | have a0 := in_u i10x10x9 | (have a0 := i10x10x9; unfold In at a0)); (first | have a1 := in_u i10x2x9 | (have a1 := i10x2x9; unfold In at a1)); (first | have a2 := in_u ro_32_1 | (have a2 := ro_32_1; unfold In at a2)); (first | have a3 := in_u i10x2x9a | (have a3 := i10x2x9a; unfold In at a3)); (first | have a4 := in_u i1x5 | (have a4 := i1x5; unfold In at a4)); (first | have a5 := in_u i22 | (have a5 := i22; unfold In at a5)); (first | have a6 := in_u i17 | (have a6 := i17; unfold In at a6)))); have oc := oc_233_0; omega) | (rw [shC_d (by rw [← e1x1]; exact c1x5)]; show ¬ (TWO (s.2.2.1 32 1).toInt x1 x2 ∧ 0 ≤ x3.toInt ∧ 0 ≤ x4.toInt); rw [← e_32_1]; (first | have a0 := oa7 i10x10x9 i10x2x9 ro_32_1 i10x2x9a i1x5 i22 i17 | ((first | have a0 := in_u i10x10x9 | (have a0 := i10x10x9; unfold In at a0)); (first | have a1 := in_u i10x2x9 | (have a1 := i10x2x9; unfold In at a1)); (first | have a2 := in_u ro_32_1 | (have a2 := ro_32_1; unfold In at a2)); (first | have a3 := in_u i10x2x9a | (have a3 := i10x2x9a; unfold In at a3)); (first | have a4 := in_u i1x5 | (have a4 := i1x5; unfold In at a4)); (first | have a5 := in_u i22 | (have a5 := i22; unfold In at a5)); (first | have a6 := in_u i17 | (have a6 := i17; unfold In at a6)))); have oc := oc_233_0; omega)
                          exact (hX _ _ ⟨Or.inl ⟨rfl, n30⟩, s, hI, fr_rf, rfl⟩)
                      · skip
                        have i22 := z_ge 0 2147483647 c22 (i_rng x4) rfl
                        refine g_iconst 1 26 (gd rfl) rfl rfl ?_
                        refine g_goto 30 (gd rfl) rfl ?_
                        refine g_thr (E := am_IA) (y := yX11_allow) 33 (gd rfl) rfl rfl (Or.inl ⟨rfl, rfl, rfl⟩) (by first | exact dq1 hd rfl | exact dq0 hd rfl | exact dq2 hd rfl | exact dq3 hd rfl | omega) (Nat.le_of_ble_eq_true rfl) (Nat.le_of_ble_eq_true rfl) (Nat.le_of_ble_eq_true rfl) (fun c30 => ?_) (fun c30 => ?_)
                        · skip
                          refine g_aload_n 34 (gd rfl) rfl rfl ?_
                          refine g_getA (q2 := 49) 37 (gd rfl) rfl rfl rfl rfl ?_
                          refine g_aload 39 (gd rfl) rfl rfl ?_
                          refine g_iload_n 40 (gd rfl) rfl rfl ?_
                          refine g_iload_n 41 (gd rfl) rfl rfl ?_
                          refine g_iload_n 42 (gd rfl) rfl rfl ?_
                          refine g_iload 44 (gd rfl) rfl rfl ?_
                          have p44 : TQ s := by first | exact q_0 | exact q_1
                          have p44a : NDQ (gvC s) := by first | (rw [← shC_n (by rw [← e1x1]; exact c1x5)]; exact q_2) | (rw [← shC_d (by rw [← e1x1]; exact c1x5)]; exact q_2)
                          have p44b : SHB (gvC s) s := by first | (rw [← shC_n (by rw [← e1x1]; exact c1x5)]; exact q_3.1) | (rw [← shC_d (by rw [← e1x1]; exact c1x5)]; exact q_3.1)
                          have p44c : KSB (gvC s) s := by first | (rw [← shC_n (by rw [← e1x1]; exact c1x5)]; exact q_3.2) | (rw [← shC_d (by rw [← e1x1]; exact c1x5)]; exact q_3.2)
                          refine g_callv (X := _) (As := [.ref (A 2), .int x1, .int x2, .int x3, .int x4]) (r := []) (b := A 49) (q := 49) 47 (gd rfl) rfl rfl rfl rfl rfl (ww_o rfl) (Nat.le_of_ble_eq_true rfl) (Nat.zero_le _) (Nat.zero_le _) (f_206_49_2 (by first | exact dq1 hd rfl | exact dq0 hd rfl | exact dq2 hd rfl | exact dq3 hd rfl | omega) hI (in_w 0 31 i10x2x9 rfl) (in_w 0 31 i10x10x9 rfl) (in_w 0 2147483647 i17 rfl) (in_w 0 2147483647 i22 rfl) p44 p44a p44b p44c) (fun e u h => h) (fun v u h => ?_)
                          obtain ⟨s44, hI44, hF44, z44, rfl, rfl, i44, p44d, p44e, p44f⟩ := h
                          show GG _ _ _ _ _ _ _ _ [.int z44] _ _ _
                          have n47 : ((TWO (shC s).2.2.2.2.2.2.1 x1 x2) ∧ 0 ≤ x3.toInt ∧ 0 ≤ x4.toInt) ∧ SAV (shC s) x1.toNatClampNeg x2.toNatClampNeg x3.toInt x4.toInt (z44).toInt := by first | (rw [shC_n (by rw [← e1x1]; exact c1x5)]; exact ⟨⟨⟨⟨by (first | have a0 := oa7 i10x10x9 i10x2x9 ro_32_1 i10x2x9a i1x5 i22 i17 | ((first | have a0 := in_u i10x10x9 | (have a0 := i10x10x9; unfold In at a0)); (first | have a1 := in_u i10x2x9 | (have a1 := i10x2x9; unfold In at a1)); (first | have a2 := in_u ro_32_1 | (have a2 := ro_32_1; unfold In at a2)); (first | have a3 := in_u i10x2x9a | (have a3 := i10x2x9a; unfold In at a3)); (first | have a4 := in_u i1x5 | (have a4 := i1x5; unfold In at a4)); (first | have a5 := in_u i22 | (have a5 := i22; unfold In at a5)); (first | have a6 := in_u i17 | (have a6 := i17; unfold In at a6)))); have oc := oc_233_0; omega, by show x1.toInt < (s.2.2.1 2 1).toInt; rw [← e_2_1]; (first | have a0 := oa7 i10x10x9 i10x2x9 ro_32_1 i10x2x9a i1x5 i22 i17 | ((first | have a0 := in_u i10x10x9 | (have a0 := i10x10x9; unfold In at a0)); (first | have a1 := in_u i10x2x9 | (have a1 := i10x2x9; unfold In at a1)); (first | have a2 := in_u ro_32_1 | (have a2 := ro_32_1; unfold In at a2)); (first | have a3 := in_u i10x2x9a | (have a3 := i10x2x9a; unfold In at a3)); (first | have a4 := in_u i1x5 | (have a4 := i1x5; unfold In at a4)); (first | have a5 := in_u i22 | (have a5 := i22; unfold In at a5)); (first | have a6 := in_u i17 | (have a6 := i17; unfold In at a6)))); have oc := oc_233_0; omega⟩, ⟨by (first | have a0 := oa7 i10x10x9 i10x2x9 ro_32_1 i10x2x9a i1x5 i22 i17 | ((first | have a0 := in_u i10x10x9 | (have a0 := i10x10x9; unfold In at a0)); (first | have a1 := in_u i10x2x9 | (have a1 := i10x2x9; unfold In at a1)); (first | have a2 := in_u ro_32_1 | (have a2 := ro_32_1; unfold In at a2)); (first | have a3 := in_u i10x2x9a | (have a3 := i10x2x9a; unfold In at a3)); (first | have a4 := in_u i1x5 | (have a4 := i1x5; unfold In at a4)); (first | have a5 := in_u i22 | (have a5 := i22; unfold In at a5)); (first | have a6 := in_u i17 | (have a6 := i17; unfold In at a6)))); have oc := oc_233_0; omega, by show x2.toInt < (s.2.2.1 2 1).toInt; rw [← e_2_1]; (first | have a0 := oa7 i10x10x9 i10x2x9 ro_32_1 i10x2x9a i1x5 i22 i17 | ((first | have a0 := in_u i10x10x9 | (have a0 := i10x10x9; unfold In at a0)); (first | have a1 := in_u i10x2x9 | (have a1 := i10x2x9; unfold In at a1)); (first | have a2 := in_u ro_32_1 | (have a2 := ro_32_1; unfold In at a2)); (first | have a3 := in_u i10x2x9a | (have a3 := i10x2x9a; unfold In at a3)); (first | have a4 := in_u i1x5 | (have a4 := i1x5; unfold In at a4)); (first | have a5 := in_u i22 | (have a5 := i22; unfold In at a5)); (first | have a6 := in_u i17 | (have a6 := i17; unfold In at a6)))); have oc := oc_233_0; omega⟩, by (first | have a0 := oa7 i10x10x9 i10x2x9 ro_32_1 i10x2x9a i1x5 i22 i17 | ((first | have a0 := in_u i10x10x9 | (have a0 := i10x10x9; unfold In at a0)); (first | have a1 := in_u i10x2x9 | (have a1 := i10x2x9; unfold In at a1)); (first | have a2 := in_u ro_32_1 | (have a2 := ro_32_1; unfold In at a2)); (first | have a3 := in_u i10x2x9a | (have a3 := i10x2x9a; unfold In at a3)); (first | have a4 := in_u i1x5 | (have a4 := i1x5; unfold In at a4)); (first | have a5 := in_u i22 | (have a5 := i22; unfold In at a5)); (first | have a6 := in_u i17 | (have a6 := i17; unfold In at a6)))); have oc := oc_233_0; omega⟩, by (first | have a0 := oa7 i10x10x9 i10x2x9 ro_32_1 i10x2x9a i1x5 i22 i17 | ((first | have a0 := in_u i10x10x9 | (have a0 := i10x10x9; unfold In at a0)); (first | have a1 := in_u i10x2x9 | (have a1 := i10x2x9; unfold In at a1)); (first | have a2 := in_u ro_32_1 | (have a2 := ro_32_1; unfold In at a2)); (first | have a3 := in_u i10x2x9a | (have a3 := i10x2x9a; unfold In at a3)); (first | have a4 := in_u i1x5 | (have a4 := i1x5; unfold In at a4)); (first | have a5 := in_u i22 | (have a5 := i22; unfold In at a5)); (first | have a6 := in_u i17 | (have a6 := i17; unfold In at a6)))); have oc := oc_233_0; omega, by (first | have a0 := oa7 i10x10x9 i10x2x9 ro_32_1 i10x2x9a i1x5 i22 i17 | ((first | have a0 := in_u i10x10x9 | (have a0 := i10x10x9; unfold In at a0)); (first | have a1 := in_u i10x2x9 | (have a1 := i10x2x9; unfold In at a1)); (first | have a2 := in_u ro_32_1 | (have a2 := ro_32_1; unfold In at a2)); (first | have a3 := in_u i10x2x9a | (have a3 := i10x2x9a; unfold In at a3)); (first | have a4 := in_u i1x5 | (have a4 := i1x5; unfold In at a4)); (first | have a5 := in_u i22 | (have a5 := i22; unfold In at a5)); (first | have a6 := in_u i17 | (have a6 := i17; unfold In at a6)))); have oc := oc_233_0; omega⟩, p44f⟩) | (rw [shC_d (by rw [← e1x1]; exact c1x5)]; exact ⟨⟨⟨⟨by (first | have a0 := oa7 i10x10x9 i10x2x9 ro_32_1 i10x2x9a i1x5 i22 i17 | ((first | have a0 := in_u i10x10x9 | (have a0 := i10x10x9; unfold In at a0)); (first | have a1 := in_u i10x2x9 | (have a1 := i10x2x9; unfold In at a1)); (first | have a2 := in_u ro_32_1 | (have a2 := ro_32_1; unfold In at a2)); (first | have a3 := in_u i10x2x9a | (have a3 := i10x2x9a; unfold In at a3)); (first | have a4 := in_u i1x5 | (have a4 := i1x5; unfold In at a4)); (first | have a5 := in_u i22 | (have a5 := i22; unfold In at a5)); (first | have a6 := in_u i17 | (have a6 := i17; unfold In at a6)))); have oc := oc_233_0; omega, by show x1.toInt < (s.2.2.1 32 1).toInt; rw [← e_32_1]; (first | have a0 := oa7 i10x10x9 i10x2x9 ro_32_1 i10x2x9a i1x5 i22 i17 | ((first | have a0 := in_u i10x10x9 | (have a0 := i10x10x9; unfold In at a0)); (first | have a1 := in_u i10x2x9 | (have a1 := i10x2x9; unfold In at a1)); (first | have a2 := in_u ro_32_1 | (have a2 := ro_32_1; unfold In at a2)); (first | have a3 := in_u i10x2x9a | (have a3 := i10x2x9a; unfold In at a3)); (first | have a4 := in_u i1x5 | (have a4 := i1x5; unfold In at a4)); (first | have a5 := in_u i22 | (have a5 := i22; unfold In at a5)); (first | have a6 := in_u i17 | (have a6 := i17; unfold In at a6)))); have oc := oc_233_0; omega⟩, ⟨by (first | have a0 := oa7 i10x10x9 i10x2x9 ro_32_1 i10x2x9a i1x5 i22 i17 | ((first | have a0 := in_u i10x10x9 | (have a0 := i10x10x9; unfold In at a0)); (first | have a1 := in_u i10x2x9 | (have a1 := i10x2x9; unfold In at a1)); (first | have a2 := in_u ro_32_1 | (have a2 := ro_32_1; unfold In at a2)); (first | have a3 := in_u i10x2x9a | (have a3 := i10x2x9a; unfold In at a3)); (first | have a4 := in_u i1x5 | (have a4 := i1x5; unfold In at a4)); (first | have a5 := in_u i22 | (have a5 := i22; unfold In at a5)); (first | have a6 := in_u i17 | (have a6 := i17; unfold In at a6)))); have oc := oc_233_0; omega, by show x2.toInt < (s.2.2.1 32 1).toInt; rw [← e_32_1]; (first | have a0 := oa7 i10x10x9 i10x2x9 ro_32_1 i10x2x9a i1x5 i22 i17 | ((first | have a0 := in_u i10x10x9 | (have a0 := i10x10x9; unfold In at a0)); (first | have a1 := in_u i10x2x9 | (have a1 := i10x2x9; unfold In at a1)); (first | have a2 := in_u ro_32_1 | (have a2 := ro_32_1; unfold In at a2)); (first | have a3 := in_u i10x2x9a | (have a3 := i10x2x9a; unfold In at a3)); (first | have a4 := in_u i1x5 | (have a4 := i1x5; unfold In at a4)); (first | have a5 := in_u i22 | (have a5 := i22; unfold In at a5)); (first | have a6 := in_u i17 | (have a6 := i17; unfold In at a6)))); have oc := oc_233_0; omega⟩, by (first | have a0 := oa7 i10x10x9 i10x2x9 ro_32_1 i10x2x9a i1x5 i22 i17 | ((first | have a0 := in_u i10x10x9 | (have a0 := i10x10x9; unfold In at a0)); (first | have a1 := in_u i10x2x9 | (have a1 := i10x2x9; unfold In at a1)); (first | have a2 := in_u ro_32_1 | (have a2 := ro_32_1; unfold In at a2)); (first | have a3 := in_u i10x2x9a | (have a3 := i10x2x9a; unfold In at a3)); (first | have a4 := in_u i1x5 | (have a4 := i1x5; unfold In at a4)); (first | have a5 := in_u i22 | (have a5 := i22; unfold In at a5)); (first | have a6 := in_u i17 | (have a6 := i17; unfold In at a6)))); have oc := oc_233_0; omega⟩, by (first | have a0 := oa7 i10x10x9 i10x2x9 ro_32_1 i10x2x9a i1x5 i22 i17 | ((first | have a0 := in_u i10x10x9 | (have a0 := i10x10x9; unfold In at a0)); (first | have a1 := in_u i10x2x9 | (have a1 := i10x2x9; unfold In at a1)); (first | have a2 := in_u ro_32_1 | (have a2 := ro_32_1; unfold In at a2)); (first | have a3 := in_u i10x2x9a | (have a3 := i10x2x9a; unfold In at a3)); (first | have a4 := in_u i1x5 | (have a4 := i1x5; unfold In at a4)); (first | have a5 := in_u i22 | (have a5 := i22; unfold In at a5)); (first | have a6 := in_u i17 | (have a6 := i17; unfold In at a6)))); have oc := oc_233_0; omega, by (first | have a0 := oa7 i10x10x9 i10x2x9 ro_32_1 i10x2x9a i1x5 i22 i17 | ((first | have a0 := in_u i10x10x9 | (have a0 := i10x10x9; unfold In at a0)); (first | have a1 := in_u i10x2x9 | (have a1 := i10x2x9; unfold In at a1)); (first | have a2 := in_u ro_32_1 | (have a2 := ro_32_1; unfold In at a2)); (first | have a3 := in_u i10x2x9a | (have a3 := i10x2x9a; unfold In at a3)); (first | have a4 := in_u i1x5 | (have a4 := i1x5; unfold In at a4)); (first | have a5 := in_u i22 | (have a5 := i22; unfold In at a5)); (first | have a6 := in_u i17 | (have a6 := i17; unfold In at a6)))); have oc := oc_233_0; omega⟩, p44f⟩)
                          have n47a : SKG (shC s) s44 := by refine ⟨q_2, ?_⟩; first | (rw [shC_n (by rw [← e1x1]; exact c1x5)]; exact ⟨p44d, p44e⟩) | (rw [shC_d (by rw [← e1x1]; exact c1x5)]; exact ⟨p44d, p44e⟩)
                          exact g_ireturn (gd rfl) rfl rfl (hP _ _ ⟨s44, hI44, (fr_tr rfl fr_rf hF44), z44, rfl, rfl, in_w (-2147483648) 2147483647 i44 rfl, n47, n47a⟩)
                        · skip
                          exact zn_eq c30 (in_c 1 rfl) rfl
