/-! FUNCTIONAL CONTRACTS, by fgen.py -/
theorem oc_175_46_2 : (Int32.ofInt (-1)).toInt = (-1) ∧ (Int32.ofInt 0).toInt = 0 ∧ (Int32.ofInt 1).toInt = 1 ∧ (Int32.ofInt 97).toInt = 97 ∧ (Int32.ofInt 110).toInt = 110 := ⟨rfl, rfl, rfl, rfl, rfl⟩
/-- GraphHouse$Script.write -/
theorem f_175_46_2 {Z : AmZ} {A : Nat → Nat} {s : GS} {ex : va_W} {d : Nat} {X : AmX}  (hd : 4 ≤ d) (hI : Inv s)  : GC Z d 175 [.ref (A 46), .ref (A 2)] (WW Z A s ++ ex) 0 0 (fun v u => ∃ t : GS, Inv t ∧ Fr fm_175_46_2 s t ∧ ∃ z : Int32, v = some (.int z) ∧ u = WW Z A t ++ ex ∧ In z 0 4608 ∧ (PGC t (PRN (gvC s) (s.2.2.1 2 1).toInt.toNat ++ PRA (gvC s) (s.2.2.1 2 3).toInt.toNat) ∧ (z).toInt = ((PRN (gvC s) (s.2.2.1 2 1).toInt.toNat ++ PRA (gvC s) (s.2.2.1 2 3).toInt.toNat).length : Int))) X := by
  intro post xp hP hX
  obtain ⟨u_2_1, e_2_1⟩ : ∃ w, w = s.2.2.1 2 1 := ⟨_, rfl⟩
  have ro_2_1 := inv_F hI 0 32 rfl e_2_1
  obtain ⟨u_2_3, e_2_3⟩ : ∃ w, w = s.2.2.1 2 3 := ⟨_, rfl⟩
  have ro_2_3 := inv_F hI 0 160 rfl e_2_3
  have ct39 : ∀ (k39 : Nat) (sc39 : GS) (y39_2 : Int32), Inv sc39 → Fr fm_175_46_2 s sc39 → (In y39_2 0 160) → (PGC sc39 (PRN (gvC s) (s.2.2.1 2 1).toInt.toNat ++ PRA (gvC s) (y39_2).toInt.toNat) ∧ (PRA (gvC s) (y39_2).toInt.toNat).length ≤ 27 * (y39_2).toInt.toNat) → ((y39_2).toInt ≤ (s.2.2.1 2 3).toInt) → 160 - (y39_2).toInt < (k39 : Int) → GG Z (d - 1) 175 post (gx xp) (1 + k39 * 900) 39 (fun j => xlook j [(0, .ref (A 46)), (1, .ref (A 2)), (2, .int y39_2)]) [] (WW Z A sc39 ++ ex) 0 0 := by
    intro k39
    induction k39 with
    | zero => intro sc39 y39_2 hIc39 hFc39 j39_2 g39_0 g39_1 mm39; exact m_no mm39 j39_2 rfl
    | succ k39 ih39 =>
      intro sc39 y39_2 hIc39 hFc39 j39_2 g39_0 g39_1 mm39
      refine gg_w (M := 1 + k39 * 900 + 900) gws ?_
      refine g_iload_n 40 (gd rfl) rfl rfl ?_
      refine g_aload_n 41 (gd rfl) rfl rfl ?_
      refine g_getI 44 (gd rfl) rfl rfl rfl (fun z41 e41 => ?_)
      have q41 : u_2_3 = z41 := (fr_F e_2_3 hFc39 rfl).trans e41.symm
      subst q41
      refine g_cmp_ge 47 119 (gd rfl) rfl rfl (fun c44 => ?_) (fun c44 => ?_)
      · skip
        refine g_aload_n 120 (gd rfl) rfl rfl ?_
        refine g_getI 123 (gd rfl) rfl rfl rfl (fun z120 e120 => ?_)
        have i120 := inv_F hIc39 0 4608 rfl e120
        have n123 : PGC sc39 (PRN (gvC s) (s.2.2.1 2 1).toInt.toNat ++ PRA (gvC s) (s.2.2.1 2 3).toInt.toNat) ∧ (z120).toInt = ((PRN (gvC s) (s.2.2.1 2 1).toInt.toNat ++ PRA (gvC s) (s.2.2.1 2 3).toInt.toNat).length : Int) := by rw [show (s.2.2.1 2 3).toInt.toNat = (y39_2).toInt.toNat from (by rw [← e_2_3]; have h9 := g39_1; rw [← e_2_3] at h9; (first | have a0 := oa4 ro_2_3 ro_2_1 j39_2 i120 | ((first | have a0 := in_u ro_2_3 | (have a0 := ro_2_3; unfold In at a0)); (first | have a1 := in_u ro_2_1 | (have a1 := ro_2_1; unfold In at a1)); (first | have a2 := in_u j39_2 | (have a2 := j39_2; unfold In at a2)); (first | have a3 := in_u i120 | (have a3 := i120; unfold In at a3)))); have oc := oc_175_46_2; omega)]; exact ⟨g39_0.1, by rw [e120]; exact g39_0.1.1⟩
        exact g_ireturn (gd rfl) rfl rfl (hP _ _ ⟨sc39, hIc39, hFc39, z120, rfl, rfl, in_w 0 4608 i120 rfl, n123⟩)
      · skip
        have i44 := r_lt1 0 159 c44 j39_2 ro_2_3 rfl
        have i44a := r_lt2 1 160 c44 j39_2 ro_2_3 rfl
        refine g_aload_n 48 (gd rfl) rfl rfl ?_
        refine g_getA (q2 := 4) 51 (gd rfl) rfl rfl rfl rfl ?_
        refine g_iload_n 52 (gd rfl) rfl rfl ?_
        refine g_iaload 53 (gd rfl) rfl (n := 160) rfl (in_ix i44 rfl) (fun z52 e52 => ?_)
        have i52 := inv_I hIc39 (n := 160) (t := 0) (-1) 31 rfl (in_ix i44 rfl) rfl e52
        refine g_iconst (-1) 54 (gd rfl) rfl rfl ?_
        refine g_cmp_eq 57 113 (gd rfl) rfl rfl (fun c54 => ?_) (fun c54 => ?_)
        · skip
          have i54 := r_eq1 (-1) (-1) c54 i52 (in_c (-1) rfl) rfl
          refine g_iinc 116 (gd rfl) rfl rfl (Nat.le_of_ble_eq_true rfl) (fun z113 e113 => ?_)
          have i113 := in_add 1 160 e113 i44 (in_c 1 rfl) rfl rfl
          refine g_goto 39 (gd rfl) rfl ?_
          have n39 : PGC sc39 (PRN (gvC s) (s.2.2.1 2 1).toInt.toNat ++ PRA (gvC s) (z113).toInt.toNat) ∧ (PRA (gvC s) (z113).toInt.toNat).length ≤ 27 * (z113).toInt.toNat := by rw [show (z113).toInt.toNat = (y39_2).toInt.toNat + 1 from (by (first | have a0 := oa4 i44a ro_2_1 i44 i113 | ((first | have a0 := in_u i44a | (have a0 := i44a; unfold In at a0)); (first | have a1 := in_u ro_2_1 | (have a1 := ro_2_1; unfold In at a1)); (first | have a2 := in_u i44 | (have a2 := i44; unfold In at a2)); (first | have a3 := in_u i113 | (have a3 := i113; unfold In at a3)))); have a4 := t_add e113 i44 (in_c 1 rfl) rfl; (first | have a5 := in_u ((in_c 1 rfl)) | (have a5 := (in_c 1 rfl); unfold In at a5)); have oc := oc_175_46_2; omega)]; exact pra_0 g39_0 (tl_eq (e52.trans (congrFun (hFc39.1 4 rfl) _)) (by (first | have a0 := oa4 i44a ro_2_1 i44 i113 | ((first | have a0 := in_u i44a | (have a0 := i44a; unfold In at a0)); (first | have a1 := in_u ro_2_1 | (have a1 := ro_2_1; unfold In at a1)); (first | have a2 := in_u i44 | (have a2 := i44; unfold In at a2)); (first | have a3 := in_u i113 | (have a3 := i113; unfold In at a3)))); have a4 := t_add e113 i44 (in_c 1 rfl) rfl; (first | have a5 := in_u ((in_c 1 rfl)) | (have a5 := (in_c 1 rfl); unfold In at a5)); have oc := oc_175_46_2; omega))
          have n39a : (z113).toInt ≤ (s.2.2.1 2 3).toInt := by rw [← e_2_3]; (first | have a0 := oa4 i44a ro_2_1 i44 i113 | ((first | have a0 := in_u i44a | (have a0 := i44a; unfold In at a0)); (first | have a1 := in_u ro_2_1 | (have a1 := ro_2_1; unfold In at a1)); (first | have a2 := in_u i44 | (have a2 := i44; unfold In at a2)); (first | have a3 := in_u i113 | (have a3 := i113; unfold In at a3)))); have a4 := t_add e113 i44 (in_c 1 rfl) rfl; (first | have a5 := in_u ((in_c 1 rfl)) | (have a5 := (in_c 1 rfl); unfold In at a5)); have oc := oc_175_46_2; omega
          exact gg_w (by first | exact Nat.le_add_right _ _ | exact gw2 | exact gw3 | exact gwe rfl | exact gwf rfl | exact gwg rfl | exact gwh rfl | omega) (gg_f (gf_cons rfl (gf_cons rfl (gf_cons rfl gf_nil))) (ih39 sc39 z113 hIc39 hFc39 (in_w 0 160 i113 rfl) n39 n39a (m_up mm39 (t_add e113 i44 (in_c 1 rfl) rfl) (in_w 1 1 (in_c 1 rfl) rfl))))
        · skip
          have i54 := r_ne1 0 31 c54 i52 (in_c (-1) rfl) rfl
          refine g_aload_n 58 (gd rfl) rfl rfl ?_
          refine g_bipush 97 60 (gd rfl) rfl rfl ?_
          refine g_callv (X := _) (As := [.int (Int32.ofInt 97)]) (r := []) (b := A 46) (q := 46) 63 (gd rfl) rfl rfl rfl rfl rfl (ww_o rfl) (Nat.le_of_ble_eq_true rfl) (Nat.zero_le _) (Nat.zero_le _) (f_177_46 (by first | exact dq1 hd rfl | exact dq0 hd rfl | exact dq2 hd rfl | exact dq3 hd rfl | omega) hIc39 (in_w 0 65535 (in_c 97 rfl) rfl)) (fun e u h => h) (fun v u h => ?_)
          obtain ⟨s60, hI60, hF60, rfl, rfl, p60⟩ := h
          show GG _ _ _ _ _ _ _ _ [] _ _ _
          refine g_aload_n 64 (gd rfl) rfl rfl ?_
          refine g_aload_n 65 (gd rfl) rfl rfl ?_
          refine g_getA (q2 := 4) 68 (gd rfl) rfl rfl rfl rfl ?_
          refine g_iload_n 69 (gd rfl) rfl rfl ?_
          refine g_iaload 70 (gd rfl) rfl (n := 160) rfl (in_ix i44 rfl) (fun z69 e69 => ?_)
          have q69 : z52 = z69 := (fr_I (e52) hF60 rfl).trans e69.symm
          subst q69
          refine g_callv (X := _) (As := [.int z52]) (r := []) (b := A 46) (q := 46) 73 (gd rfl) rfl rfl rfl rfl rfl (ww_o rfl) (Nat.le_of_ble_eq_true rfl) (Nat.zero_le _) (Nat.zero_le _) (f_178_46 (by first | exact dq1 hd rfl | exact dq0 hd rfl | exact dq2 hd rfl | exact dq3 hd rfl | omega) hI60 (in_w (-1000000) 1000000 i54 rfl)) (fun e u h => h) (fun v u h => ?_)
          obtain ⟨s70, hI70, hF70, rfl, rfl, p70⟩ := h
          show GG _ _ _ _ _ _ _ _ [] _ _ _
          refine g_aload_n 74 (gd rfl) rfl rfl ?_
          refine g_aload_n 75 (gd rfl) rfl rfl ?_
          refine g_getA (q2 := 5) 78 (gd rfl) rfl rfl rfl rfl ?_
          refine g_iload_n 79 (gd rfl) rfl rfl ?_
          refine g_iaload 80 (gd rfl) rfl (n := 160) rfl (in_ix i44 rfl) (fun z79 e79 => ?_)
          have i79 := inv_I hI70 (n := 160) (t := 0) 0 31 rfl (in_ix i44 rfl) rfl e79
          refine g_callv (X := _) (As := [.int z79]) (r := []) (b := A 46) (q := 46) 83 (gd rfl) rfl rfl rfl rfl rfl (ww_o rfl) (Nat.le_of_ble_eq_true rfl) (Nat.zero_le _) (Nat.zero_le _) (f_178_46 (by first | exact dq1 hd rfl | exact dq0 hd rfl | exact dq2 hd rfl | exact dq3 hd rfl | omega) hI70 (in_w (-1000000) 1000000 i79 rfl)) (fun e u h => h) (fun v u h => ?_)
          obtain ⟨s80, hI80, hF80, rfl, rfl, p80⟩ := h
          show GG _ _ _ _ _ _ _ _ [] _ _ _
          refine g_aload_n 84 (gd rfl) rfl rfl ?_
          refine g_aload_n 85 (gd rfl) rfl rfl ?_
          refine g_getA (q2 := 6) 88 (gd rfl) rfl rfl rfl rfl ?_
          refine g_iload_n 89 (gd rfl) rfl rfl ?_
          refine g_iaload 90 (gd rfl) rfl (n := 160) rfl (in_ix i44 rfl) (fun z89 e89 => ?_)
          have i89 := inv_I hI80 (n := 160) (t := 0) (-1000000) 1000000 rfl (in_ix i44 rfl) rfl e89
          refine g_callv (X := _) (As := [.int z89]) (r := []) (b := A 46) (q := 46) 93 (gd rfl) rfl rfl rfl rfl rfl (ww_o rfl) (Nat.le_of_ble_eq_true rfl) (Nat.zero_le _) (Nat.zero_le _) (f_178_46 (by first | exact dq1 hd rfl | exact dq0 hd rfl | exact dq2 hd rfl | exact dq3 hd rfl | omega) hI80 (in_w (-1000000) 1000000 i89 rfl)) (fun e u h => h) (fun v u h => ?_)
          obtain ⟨s90, hI90, hF90, rfl, rfl, p90⟩ := h
          show GG _ _ _ _ _ _ _ _ [] _ _ _
          refine g_aload_n 94 (gd rfl) rfl rfl ?_
          refine g_aload_n 95 (gd rfl) rfl rfl ?_
          refine g_getA (q2 := 7) 98 (gd rfl) rfl rfl rfl rfl ?_
          refine g_iload_n 99 (gd rfl) rfl rfl ?_
          refine g_iaload 100 (gd rfl) rfl (n := 160) rfl (in_ix i44 rfl) (fun z99 e99 => ?_)
          have i99 := inv_I hI90 (n := 160) (t := 0) 0 1000000 rfl (in_ix i44 rfl) rfl e99
          refine g_callv (X := _) (As := [.int z99]) (r := []) (b := A 46) (q := 46) 103 (gd rfl) rfl rfl rfl rfl rfl (ww_o rfl) (Nat.le_of_ble_eq_true rfl) (Nat.zero_le _) (Nat.zero_le _) (f_178_46 (by first | exact dq1 hd rfl | exact dq0 hd rfl | exact dq2 hd rfl | exact dq3 hd rfl | omega) hI90 (in_w (-1000000) 1000000 i99 rfl)) (fun e u h => h) (fun v u h => ?_)
          obtain ⟨s100, hI100, hF100, rfl, rfl, p100⟩ := h
          show GG _ _ _ _ _ _ _ _ [] _ _ _
          refine g_aload_n 104 (gd rfl) rfl rfl ?_
          refine g_aload_n 105 (gd rfl) rfl rfl ?_
          refine g_getA (q2 := 8) 108 (gd rfl) rfl rfl rfl rfl ?_
          refine g_iload_n 109 (gd rfl) rfl rfl ?_
          refine g_iaload 110 (gd rfl) rfl (n := 160) rfl (in_ix i44 rfl) (fun z109 e109 => ?_)
          have i109 := inv_I hI100 (n := 160) (t := 0) 0 25 rfl (in_ix i44 rfl) rfl e109
          refine g_callv (X := _) (As := [.int z109]) (r := []) (b := A 46) (q := 46) 113 (gd rfl) rfl rfl rfl rfl rfl (ww_o rfl) (Nat.le_of_ble_eq_true rfl) (Nat.zero_le _) (Nat.zero_le _) (f_176_46 (by first | exact dq1 hd rfl | exact dq0 hd rfl | exact dq2 hd rfl | exact dq3 hd rfl | omega) hI100 (in_w 0 25 i109 rfl)) (fun e u h => h) (fun v u h => ?_)
          obtain ⟨s110, hI110, hF110, rfl, rfl, p110⟩ := h
          show GG _ _ _ _ _ _ _ _ [] _ _ _
          refine g_iinc 116 (gd rfl) rfl rfl (Nat.le_of_ble_eq_true rfl) (fun z113 e113 => ?_)
          have i113 := in_add 1 160 e113 i44 (in_c 1 rfl) rfl rfl
          refine g_goto 39 (gd rfl) rfl ?_
          have n39 : PGC s110 (PRN (gvC s) (s.2.2.1 2 1).toInt.toNat ++ PRA (gvC s) (z113).toInt.toNat) ∧ (PRA (gvC s) (z113).toInt.toNat).length ≤ 27 * (z113).toInt.toNat := by rw [show (z113).toInt.toNat = (y39_2).toInt.toNat + 1 from (by (first | have a0 := oa4 i44a ro_2_1 i44 i113 | ((first | have a0 := in_u i44a | (have a0 := i44a; unfold In at a0)); (first | have a1 := in_u ro_2_1 | (have a1 := ro_2_1; unfold In at a1)); (first | have a2 := in_u i44 | (have a2 := i44; unfold In at a2)); (first | have a3 := in_u i113 | (have a3 := i113; unfold In at a3)))); have a4 := t_add e113 i44 (in_c 1 rfl) rfl; (first | have a5 := in_u ((in_c 1 rfl)) | (have a5 := (in_c 1 rfl); unfold In at a5)); have oc := oc_175_46_2; omega)]; exact pra_C g39_0 (by rw [prn_l]; have h9 := inv_F hI 0 32 rfl e_2_1; rw [← e_2_1]; unfold In at h9; omega) (by (first | have a0 := oa4 i44a ro_2_1 i44 i113 | ((first | have a0 := in_u i44a | (have a0 := i44a; unfold In at a0)); (first | have a1 := in_u ro_2_1 | (have a1 := ro_2_1; unfold In at a1)); (first | have a2 := in_u i44 | (have a2 := i44; unfold In at a2)); (first | have a3 := in_u i113 | (have a3 := i113; unfold In at a3)))); have a4 := t_add e113 i44 (in_c 1 rfl) rfl; (first | have a5 := in_u ((in_c 1 rfl)) | (have a5 := (in_c 1 rfl); unfold In at a5)); have oc := oc_175_46_2; omega) p60 p70 p80 p90 p100 p110 (e52.trans (congrFun (hFc39.1 4 rfl) _)) (e79.trans (congrFun ((hF70.1 5 rfl).trans ((hF60.1 5 rfl).trans (hFc39.1 5 rfl))) _)) (e89.trans (congrFun ((hF80.1 6 rfl).trans ((hF70.1 6 rfl).trans ((hF60.1 6 rfl).trans (hFc39.1 6 rfl)))) _)) (e99.trans (congrFun ((hF90.1 7 rfl).trans ((hF80.1 7 rfl).trans ((hF70.1 7 rfl).trans ((hF60.1 7 rfl).trans (hFc39.1 7 rfl))))) _)) (e109.trans (congrFun ((hF100.1 8 rfl).trans ((hF90.1 8 rfl).trans ((hF80.1 8 rfl).trans ((hF70.1 8 rfl).trans ((hF60.1 8 rfl).trans (hFc39.1 8 rfl)))))) _)) i54 i79 i99
          have n39a : (z113).toInt ≤ (s.2.2.1 2 3).toInt := by rw [← e_2_3]; (first | have a0 := oa4 i44a ro_2_1 i44 i113 | ((first | have a0 := in_u i44a | (have a0 := i44a; unfold In at a0)); (first | have a1 := in_u ro_2_1 | (have a1 := ro_2_1; unfold In at a1)); (first | have a2 := in_u i44 | (have a2 := i44; unfold In at a2)); (first | have a3 := in_u i113 | (have a3 := i113; unfold In at a3)))); have a4 := t_add e113 i44 (in_c 1 rfl) rfl; (first | have a5 := in_u ((in_c 1 rfl)) | (have a5 := (in_c 1 rfl); unfold In at a5)); have oc := oc_175_46_2; omega
          exact gg_w (by first | exact Nat.le_add_right _ _ | exact gw2 | exact gw3 | exact gwe rfl | exact gwf rfl | exact gwg rfl | exact gwh rfl | omega) (gg_f (gf_cons rfl (gf_cons rfl (gf_cons rfl gf_nil))) (ih39 s110 z113 hI110 (fr_tr rfl (fr_tr rfl (fr_tr rfl (fr_tr rfl (fr_tr rfl (fr_tr rfl hFc39 hF60) hF70) hF80) hF90) hF100) hF110) (in_w 0 160 i113 rfl) n39 n39a (m_up mm39 (t_add e113 i44 (in_c 1 rfl) rfl) (in_w 1 1 (in_c 1 rfl) rfl))))
  have ct7 : ∀ (k7 : Nat) (sc7 : GS) (y7_2 : Int32), Inv sc7 → Fr fm_175_46_2 s sc7 → (In y7_2 0 32) → (PGC sc7 (PRN (gvC s) (y7_2).toInt.toNat)) → ((y7_2).toInt ≤ (s.2.2.1 2 1).toInt) → 32 - (y7_2).toInt < (k7 : Int) → GG Z (d - 1) 175 post (gx xp) (144902 + k7 * 900) 7 (fun j => xlook j [(0, .ref (A 46)), (1, .ref (A 2)), (2, .int y7_2)]) [] (WW Z A sc7 ++ ex) 0 0 := by
    intro k7
    induction k7 with
    | zero => intro sc7 y7_2 hIc7 hFc7 j7_2 g7_0 g7_1 mm7; exact m_no mm7 j7_2 rfl
    | succ k7 ih7 =>
      intro sc7 y7_2 hIc7 hFc7 j7_2 g7_0 g7_1 mm7
      refine gg_w (M := 144902 + k7 * 900 + 900) gws ?_
      refine g_iload_n 8 (gd rfl) rfl rfl ?_
      refine g_aload_n 9 (gd rfl) rfl rfl ?_
      refine g_getI 12 (gd rfl) rfl rfl rfl (fun z9 e9 => ?_)
      have q9 : u_2_1 = z9 := (fr_F e_2_1 hFc7 rfl).trans e9.symm
      subst q9
      refine g_cmp_ge 15 37 (gd rfl) rfl rfl (fun c12 => ?_) (fun c12 => ?_)
      · skip
        refine g_iconst 0 38 (gd rfl) rfl rfl ?_
        refine g_istore_n 39 (gd rfl) rfl (Nat.le_of_ble_eq_true rfl) ?_
        have n39 : PGC sc7 (PRN (gvC s) (s.2.2.1 2 1).toInt.toNat ++ PRA (gvC s) ((Int32.ofInt 0)).toInt.toNat) ∧ (PRA (gvC s) ((Int32.ofInt 0)).toInt.toNat).length ≤ 27 * ((Int32.ofInt 0)).toInt.toNat := by rw [show (s.2.2.1 2 1).toInt.toNat = (y7_2).toInt.toNat from (by rw [← e_2_1]; have h9 := g7_1; rw [← e_2_1] at h9; (first | have a0 := oa4 ro_2_3 ro_2_1 j7_2 ((in_c 0 rfl)) | ((first | have a0 := in_u ro_2_3 | (have a0 := ro_2_3; unfold In at a0)); (first | have a1 := in_u ro_2_1 | (have a1 := ro_2_1; unfold In at a1)); (first | have a2 := in_u j7_2 | (have a2 := j7_2; unfold In at a2)); (first | have a3 := in_u ((in_c 0 rfl)) | (have a3 := (in_c 0 rfl); unfold In at a3)))); have oc := oc_175_46_2; omega)]; refine ⟨?_, Nat.zero_le _⟩; show PGC sc7 (PRN (gvC s) (y7_2).toInt.toNat ++ []); rw [List.append_nil]; exact g7_0
        have n39a : ((Int32.ofInt 0)).toInt ≤ (s.2.2.1 2 3).toInt := by rw [← e_2_3]; (first | have a0 := oa4 ro_2_3 ro_2_1 j7_2 ((in_c 0 rfl)) | ((first | have a0 := in_u ro_2_3 | (have a0 := ro_2_3; unfold In at a0)); (first | have a1 := in_u ro_2_1 | (have a1 := ro_2_1; unfold In at a1)); (first | have a2 := in_u j7_2 | (have a2 := j7_2; unfold In at a2)); (first | have a3 := in_u ((in_c 0 rfl)) | (have a3 := (in_c 0 rfl); unfold In at a3)))); have oc := oc_175_46_2; omega
        exact gg_w (by first | exact Nat.le_add_right _ _ | exact gw2 | exact gw3 | exact gwe rfl | exact gwf rfl | exact gwg rfl | exact gwh rfl | omega) (gg_f (gf_cons rfl (gf_cons rfl (gf_cons rfl gf_nil))) (ct39 161 sc7 (Int32.ofInt 0) hIc7 hFc7 (in_w 0 160 (in_c 0 rfl) rfl) n39 n39a (m_in 161 (in_w 0 160 (in_c 0 rfl) rfl) rfl)))
      · skip
        have i12 := r_lt1 0 31 c12 j7_2 ro_2_1 rfl
        have i12a := r_lt2 1 32 c12 j7_2 ro_2_1 rfl
        refine g_aload_n 16 (gd rfl) rfl rfl ?_
        refine g_bipush 110 18 (gd rfl) rfl rfl ?_
        refine g_callv (X := _) (As := [.int (Int32.ofInt 110)]) (r := []) (b := A 46) (q := 46) 21 (gd rfl) rfl rfl rfl rfl rfl (ww_o rfl) (Nat.le_of_ble_eq_true rfl) (Nat.zero_le _) (Nat.zero_le _) (f_177_46 (by first | exact dq1 hd rfl | exact dq0 hd rfl | exact dq2 hd rfl | exact dq3 hd rfl | omega) hIc7 (in_w 0 65535 (in_c 110 rfl) rfl)) (fun e u h => h) (fun v u h => ?_)
        obtain ⟨s18, hI18, hF18, rfl, rfl, p18⟩ := h
        show GG _ _ _ _ _ _ _ _ [] _ _ _
        refine g_aload_n 22 (gd rfl) rfl rfl ?_
        refine g_aload_n 23 (gd rfl) rfl rfl ?_
        refine g_getA (q2 := 3) 26 (gd rfl) rfl rfl rfl rfl ?_
        refine g_iload_n 27 (gd rfl) rfl rfl ?_
        refine g_iaload 28 (gd rfl) rfl (n := 32) rfl (in_ix i12 rfl) (fun z27 e27 => ?_)
        have i27 := inv_I hI18 (n := 32) (t := 0) 0 25 rfl (in_ix i12 rfl) rfl e27
        refine g_callv (X := _) (As := [.int z27]) (r := []) (b := A 46) (q := 46) 31 (gd rfl) rfl rfl rfl rfl rfl (ww_o rfl) (Nat.le_of_ble_eq_true rfl) (Nat.zero_le _) (Nat.zero_le _) (f_176_46 (by first | exact dq1 hd rfl | exact dq0 hd rfl | exact dq2 hd rfl | exact dq3 hd rfl | omega) hI18 (in_w 0 25 i27 rfl)) (fun e u h => h) (fun v u h => ?_)
        obtain ⟨s28, hI28, hF28, rfl, rfl, p28⟩ := h
        show GG _ _ _ _ _ _ _ _ [] _ _ _
        refine g_iinc 34 (gd rfl) rfl rfl (Nat.le_of_ble_eq_true rfl) (fun z31 e31 => ?_)
        have i31 := in_add 1 32 e31 i12 (in_c 1 rfl) rfl rfl
        refine g_goto 7 (gd rfl) rfl ?_
        have n7 : PGC s28 (PRN (gvC s) (z31).toInt.toNat) := by rw [show (z31).toInt.toNat = (y7_2).toInt.toNat + 1 from (by (first | have a0 := oa4 ro_2_3 i12a i12 i31 | ((first | have a0 := in_u ro_2_3 | (have a0 := ro_2_3; unfold In at a0)); (first | have a1 := in_u i12a | (have a1 := i12a; unfold In at a1)); (first | have a2 := in_u i12 | (have a2 := i12; unfold In at a2)); (first | have a3 := in_u i31 | (have a3 := i31; unfold In at a3)))); have a4 := t_add e31 i12 (in_c 1 rfl) rfl; (first | have a5 := in_u ((in_c 1 rfl)) | (have a5 := (in_c 1 rfl); unfold In at a5)); have oc := oc_175_46_2; omega)]; exact prn_C g7_0 (by (first | have a0 := oa4 ro_2_3 i12a i12 i31 | ((first | have a0 := in_u ro_2_3 | (have a0 := ro_2_3; unfold In at a0)); (first | have a1 := in_u i12a | (have a1 := i12a; unfold In at a1)); (first | have a2 := in_u i12 | (have a2 := i12; unfold In at a2)); (first | have a3 := in_u i31 | (have a3 := i31; unfold In at a3)))); have a4 := t_add e31 i12 (in_c 1 rfl) rfl; (first | have a5 := in_u ((in_c 1 rfl)) | (have a5 := (in_c 1 rfl); unfold In at a5)); have oc := oc_175_46_2; omega) p18 p28 (e27.trans (congrFun ((hF18.1 3 rfl).trans (hFc7.1 3 rfl)) _))
        have n7a : (z31).toInt ≤ (s.2.2.1 2 1).toInt := by rw [← e_2_1]; (first | have a0 := oa4 ro_2_3 i12a i12 i31 | ((first | have a0 := in_u ro_2_3 | (have a0 := ro_2_3; unfold In at a0)); (first | have a1 := in_u i12a | (have a1 := i12a; unfold In at a1)); (first | have a2 := in_u i12 | (have a2 := i12; unfold In at a2)); (first | have a3 := in_u i31 | (have a3 := i31; unfold In at a3)))); have a4 := t_add e31 i12 (in_c 1 rfl) rfl; (first | have a5 := in_u ((in_c 1 rfl)) | (have a5 := (in_c 1 rfl); unfold In at a5)); have oc := oc_175_46_2; omega
        exact gg_w (by first | exact Nat.le_add_right _ _ | exact gw2 | exact gw3 | exact gwe rfl | exact gwf rfl | exact gwg rfl | exact gwh rfl | omega) (gg_f (gf_cons rfl (gf_cons rfl (gf_cons rfl gf_nil))) (ih7 s28 z31 hI28 (fr_tr rfl (fr_tr rfl hFc7 hF18) hF28) (in_w 0 32 i31 rfl) n7 n7a (m_up mm7 (t_add e31 i12 (in_c 1 rfl) rfl) (in_w 1 1 (in_c 1 rfl) rfl))))
  refine g_enter2 (k := 175) (N := 175502) (by first | exact dq1 hd rfl | exact dq0 hd rfl | exact dq2 hd rfl | exact dq3 hd rfl | omega) rfl (Nat.le_of_ble_eq_true rfl) ?_
  refine g_aload_n 1 (gd rfl) rfl rfl ?_
  refine g_iconst 0 2 (gd rfl) rfl rfl ?_
  refine g_putI 5 (gd rfl) rfl rfl rfl rfl ?_
  have hI2 := inv_sF (q := 46) (j := 9) hI rfl (in_w 0 4608 (in_c 0 rfl) rfl)
  refine g_iconst 0 6 (gd rfl) rfl rfl ?_
  refine g_istore_n 7 (gd rfl) rfl (Nat.le_of_ble_eq_true rfl) ?_
  have n7 : PGC (sF s 46 9 (Int32.ofInt 0)) (PRN (gvC s) ((Int32.ofInt 0)).toInt.toNat) := by show PGC (sF s 46 9 (Int32.ofInt 0)) []; exact pge_0 (by have hz : ((sF s 46 9 (Int32.ofInt 0))).2.2.1 46 9 = Int32.ofInt 0 := sF_get.symm; rw [hz]; rfl)
  have n7a : ((Int32.ofInt 0)).toInt ≤ (s.2.2.1 2 1).toInt := by rw [← e_2_1]; (first | have a0 := oa3 ro_2_3 ro_2_1 ((in_c 0 rfl)) | ((first | have a0 := in_u ro_2_3 | (have a0 := ro_2_3; unfold In at a0)); (first | have a1 := in_u ro_2_1 | (have a1 := ro_2_1; unfold In at a1)); (first | have a2 := in_u ((in_c 0 rfl)) | (have a2 := (in_c 0 rfl); unfold In at a2)))); have oc := oc_175_46_2; omega
  exact gg_w (by first | exact Nat.le_of_ble_eq_true rfl | omega) (gg_f (gf_cons rfl (gf_cons rfl (gf_cons rfl gf_nil))) (ct7 33 (sF s 46 9 (Int32.ofInt 0)) (Int32.ofInt 0) hI2 (fr_sF rfl fr_rf) (in_w 0 32 (in_c 0 rfl) rfl) n7 n7a (m_in 33 (in_w 0 32 (in_c 0 rfl) rfl) rfl)))

theorem oc_175_46_32 : (Int32.ofInt (-1)).toInt = (-1) ∧ (Int32.ofInt 0).toInt = 0 ∧ (Int32.ofInt 1).toInt = 1 ∧ (Int32.ofInt 97).toInt = 97 ∧ (Int32.ofInt 110).toInt = 110 := ⟨rfl, rfl, rfl, rfl, rfl⟩
/-- GraphHouse$Script.write -/
theorem f_175_46_32 {Z : AmZ} {A : Nat → Nat} {s : GS} {ex : va_W} {d : Nat} {X : AmX}  (hd : 4 ≤ d) (hI : Inv s)  : GC Z d 175 [.ref (A 46), .ref (A 32)] (WW Z A s ++ ex) 0 0 (fun v u => ∃ t : GS, Inv t ∧ Fr fm_175_46_32 s t ∧ ∃ z : Int32, v = some (.int z) ∧ u = WW Z A t ++ ex ∧ In z 0 4608 ∧ (PGC t (PRN (gvD s) (s.2.2.1 32 1).toInt.toNat ++ PRA (gvD s) (s.2.2.1 32 3).toInt.toNat) ∧ (z).toInt = ((PRN (gvD s) (s.2.2.1 32 1).toInt.toNat ++ PRA (gvD s) (s.2.2.1 32 3).toInt.toNat).length : Int))) X := by
  intro post xp hP hX
  obtain ⟨u_32_1, e_32_1⟩ : ∃ w, w = s.2.2.1 32 1 := ⟨_, rfl⟩
  have ro_32_1 := inv_F hI 0 32 rfl e_32_1
  obtain ⟨u_32_3, e_32_3⟩ : ∃ w, w = s.2.2.1 32 3 := ⟨_, rfl⟩
  have ro_32_3 := inv_F hI 0 160 rfl e_32_3
  have ct39 : ∀ (k39 : Nat) (sc39 : GS) (y39_2 : Int32), Inv sc39 → Fr fm_175_46_32 s sc39 → (In y39_2 0 160) → (PGC sc39 (PRN (gvD s) (s.2.2.1 32 1).toInt.toNat ++ PRA (gvD s) (y39_2).toInt.toNat) ∧ (PRA (gvD s) (y39_2).toInt.toNat).length ≤ 27 * (y39_2).toInt.toNat) → ((y39_2).toInt ≤ (s.2.2.1 32 3).toInt) → 160 - (y39_2).toInt < (k39 : Int) → GG Z (d - 1) 175 post (gx xp) (1 + k39 * 900) 39 (fun j => xlook j [(0, .ref (A 46)), (1, .ref (A 32)), (2, .int y39_2)]) [] (WW Z A sc39 ++ ex) 0 0 := by
    intro k39
    induction k39 with
    | zero => intro sc39 y39_2 hIc39 hFc39 j39_2 g39_0 g39_1 mm39; exact m_no mm39 j39_2 rfl
    | succ k39 ih39 =>
      intro sc39 y39_2 hIc39 hFc39 j39_2 g39_0 g39_1 mm39
      refine gg_w (M := 1 + k39 * 900 + 900) gws ?_
      refine g_iload_n 40 (gd rfl) rfl rfl ?_
      refine g_aload_n 41 (gd rfl) rfl rfl ?_
      refine g_getI 44 (gd rfl) rfl rfl rfl (fun z41 e41 => ?_)
      have q41 : u_32_3 = z41 := (fr_F e_32_3 hFc39 rfl).trans e41.symm
      subst q41
      refine g_cmp_ge 47 119 (gd rfl) rfl rfl (fun c44 => ?_) (fun c44 => ?_)
      · skip
        refine g_aload_n 120 (gd rfl) rfl rfl ?_
        refine g_getI 123 (gd rfl) rfl rfl rfl (fun z120 e120 => ?_)
        have i120 := inv_F hIc39 0 4608 rfl e120
        have n123 : PGC sc39 (PRN (gvD s) (s.2.2.1 32 1).toInt.toNat ++ PRA (gvD s) (s.2.2.1 32 3).toInt.toNat) ∧ (z120).toInt = ((PRN (gvD s) (s.2.2.1 32 1).toInt.toNat ++ PRA (gvD s) (s.2.2.1 32 3).toInt.toNat).length : Int) := by rw [show (s.2.2.1 32 3).toInt.toNat = (y39_2).toInt.toNat from (by rw [← e_32_3]; have h9 := g39_1; rw [← e_32_3] at h9; (first | have a0 := oa4 ro_32_3 ro_32_1 j39_2 i120 | ((first | have a0 := in_u ro_32_3 | (have a0 := ro_32_3; unfold In at a0)); (first | have a1 := in_u ro_32_1 | (have a1 := ro_32_1; unfold In at a1)); (first | have a2 := in_u j39_2 | (have a2 := j39_2; unfold In at a2)); (first | have a3 := in_u i120 | (have a3 := i120; unfold In at a3)))); have oc := oc_175_46_32; omega)]; exact ⟨g39_0.1, by rw [e120]; exact g39_0.1.1⟩
        exact g_ireturn (gd rfl) rfl rfl (hP _ _ ⟨sc39, hIc39, hFc39, z120, rfl, rfl, in_w 0 4608 i120 rfl, n123⟩)
      · skip
        have i44 := r_lt1 0 159 c44 j39_2 ro_32_3 rfl
        have i44a := r_lt2 1 160 c44 j39_2 ro_32_3 rfl
        refine g_aload_n 48 (gd rfl) rfl rfl ?_
        refine g_getA (q2 := 34) 51 (gd rfl) rfl rfl rfl rfl ?_
        refine g_iload_n 52 (gd rfl) rfl rfl ?_
        refine g_iaload 53 (gd rfl) rfl (n := 160) rfl (in_ix i44 rfl) (fun z52 e52 => ?_)
        have i52 := inv_I hIc39 (n := 160) (t := 0) (-1) 31 rfl (in_ix i44 rfl) rfl e52
        refine g_iconst (-1) 54 (gd rfl) rfl rfl ?_
        refine g_cmp_eq 57 113 (gd rfl) rfl rfl (fun c54 => ?_) (fun c54 => ?_)
        · skip
          have i54 := r_eq1 (-1) (-1) c54 i52 (in_c (-1) rfl) rfl
          refine g_iinc 116 (gd rfl) rfl rfl (Nat.le_of_ble_eq_true rfl) (fun z113 e113 => ?_)
          have i113 := in_add 1 160 e113 i44 (in_c 1 rfl) rfl rfl
          refine g_goto 39 (gd rfl) rfl ?_
          have n39 : PGC sc39 (PRN (gvD s) (s.2.2.1 32 1).toInt.toNat ++ PRA (gvD s) (z113).toInt.toNat) ∧ (PRA (gvD s) (z113).toInt.toNat).length ≤ 27 * (z113).toInt.toNat := by rw [show (z113).toInt.toNat = (y39_2).toInt.toNat + 1 from (by (first | have a0 := oa4 i44a ro_32_1 i44 i113 | ((first | have a0 := in_u i44a | (have a0 := i44a; unfold In at a0)); (first | have a1 := in_u ro_32_1 | (have a1 := ro_32_1; unfold In at a1)); (first | have a2 := in_u i44 | (have a2 := i44; unfold In at a2)); (first | have a3 := in_u i113 | (have a3 := i113; unfold In at a3)))); have a4 := t_add e113 i44 (in_c 1 rfl) rfl; (first | have a5 := in_u ((in_c 1 rfl)) | (have a5 := (in_c 1 rfl); unfold In at a5)); have oc := oc_175_46_32; omega)]; exact pra_0 g39_0 (tl_eq (e52.trans (congrFun (hFc39.1 34 rfl) _)) (by (first | have a0 := oa4 i44a ro_32_1 i44 i113 | ((first | have a0 := in_u i44a | (have a0 := i44a; unfold In at a0)); (first | have a1 := in_u ro_32_1 | (have a1 := ro_32_1; unfold In at a1)); (first | have a2 := in_u i44 | (have a2 := i44; unfold In at a2)); (first | have a3 := in_u i113 | (have a3 := i113; unfold In at a3)))); have a4 := t_add e113 i44 (in_c 1 rfl) rfl; (first | have a5 := in_u ((in_c 1 rfl)) | (have a5 := (in_c 1 rfl); unfold In at a5)); have oc := oc_175_46_32; omega))
          have n39a : (z113).toInt ≤ (s.2.2.1 32 3).toInt := by rw [← e_32_3]; (first | have a0 := oa4 i44a ro_32_1 i44 i113 | ((first | have a0 := in_u i44a | (have a0 := i44a; unfold In at a0)); (first | have a1 := in_u ro_32_1 | (have a1 := ro_32_1; unfold In at a1)); (first | have a2 := in_u i44 | (have a2 := i44; unfold In at a2)); (first | have a3 := in_u i113 | (have a3 := i113; unfold In at a3)))); have a4 := t_add e113 i44 (in_c 1 rfl) rfl; (first | have a5 := in_u ((in_c 1 rfl)) | (have a5 := (in_c 1 rfl); unfold In at a5)); have oc := oc_175_46_32; omega
          exact gg_w (by first | exact Nat.le_add_right _ _ | exact gw2 | exact gw3 | exact gwe rfl | exact gwf rfl | exact gwg rfl | exact gwh rfl | omega) (gg_f (gf_cons rfl (gf_cons rfl (gf_cons rfl gf_nil))) (ih39 sc39 z113 hIc39 hFc39 (in_w 0 160 i113 rfl) n39 n39a (m_up mm39 (t_add e113 i44 (in_c 1 rfl) rfl) (in_w 1 1 (in_c 1 rfl) rfl))))
        · skip
          have i54 := r_ne1 0 31 c54 i52 (in_c (-1) rfl) rfl
          refine g_aload_n 58 (gd rfl) rfl rfl ?_
          refine g_bipush 97 60 (gd rfl) rfl rfl ?_
          refine g_callv (X := _) (As := [.int (Int32.ofInt 97)]) (r := []) (b := A 46) (q := 46) 63 (gd rfl) rfl rfl rfl rfl rfl (ww_o rfl) (Nat.le_of_ble_eq_true rfl) (Nat.zero_le _) (Nat.zero_le _) (f_177_46 (by first | exact dq1 hd rfl | exact dq0 hd rfl | exact dq2 hd rfl | exact dq3 hd rfl | omega) hIc39 (in_w 0 65535 (in_c 97 rfl) rfl)) (fun e u h => h) (fun v u h => ?_)
          obtain ⟨s60, hI60, hF60, rfl, rfl, p60⟩ := h
          show GG _ _ _ _ _ _ _ _ [] _ _ _
          refine g_aload_n 64 (gd rfl) rfl rfl ?_
          refine g_aload_n 65 (gd rfl) rfl rfl ?_
          refine g_getA (q2 := 34) 68 (gd rfl) rfl rfl rfl rfl ?_
          refine g_iload_n 69 (gd rfl) rfl rfl ?_
          refine g_iaload 70 (gd rfl) rfl (n := 160) rfl (in_ix i44 rfl) (fun z69 e69 => ?_)
          have q69 : z52 = z69 := (fr_I (e52) hF60 rfl).trans e69.symm
          subst q69
          refine g_callv (X := _) (As := [.int z52]) (r := []) (b := A 46) (q := 46) 73 (gd rfl) rfl rfl rfl rfl rfl (ww_o rfl) (Nat.le_of_ble_eq_true rfl) (Nat.zero_le _) (Nat.zero_le _) (f_178_46 (by first | exact dq1 hd rfl | exact dq0 hd rfl | exact dq2 hd rfl | exact dq3 hd rfl | omega) hI60 (in_w (-1000000) 1000000 i54 rfl)) (fun e u h => h) (fun v u h => ?_)
          obtain ⟨s70, hI70, hF70, rfl, rfl, p70⟩ := h
          show GG _ _ _ _ _ _ _ _ [] _ _ _
          refine g_aload_n 74 (gd rfl) rfl rfl ?_
          refine g_aload_n 75 (gd rfl) rfl rfl ?_
          refine g_getA (q2 := 35) 78 (gd rfl) rfl rfl rfl rfl ?_
          refine g_iload_n 79 (gd rfl) rfl rfl ?_
          refine g_iaload 80 (gd rfl) rfl (n := 160) rfl (in_ix i44 rfl) (fun z79 e79 => ?_)
          have i79 := inv_I hI70 (n := 160) (t := 0) 0 31 rfl (in_ix i44 rfl) rfl e79
          refine g_callv (X := _) (As := [.int z79]) (r := []) (b := A 46) (q := 46) 83 (gd rfl) rfl rfl rfl rfl rfl (ww_o rfl) (Nat.le_of_ble_eq_true rfl) (Nat.zero_le _) (Nat.zero_le _) (f_178_46 (by first | exact dq1 hd rfl | exact dq0 hd rfl | exact dq2 hd rfl | exact dq3 hd rfl | omega) hI70 (in_w (-1000000) 1000000 i79 rfl)) (fun e u h => h) (fun v u h => ?_)
          obtain ⟨s80, hI80, hF80, rfl, rfl, p80⟩ := h
          show GG _ _ _ _ _ _ _ _ [] _ _ _
          refine g_aload_n 84 (gd rfl) rfl rfl ?_
          refine g_aload_n 85 (gd rfl) rfl rfl ?_
          refine g_getA (q2 := 36) 88 (gd rfl) rfl rfl rfl rfl ?_
          refine g_iload_n 89 (gd rfl) rfl rfl ?_
          refine g_iaload 90 (gd rfl) rfl (n := 160) rfl (in_ix i44 rfl) (fun z89 e89 => ?_)
          have i89 := inv_I hI80 (n := 160) (t := 0) (-1000000) 1000000 rfl (in_ix i44 rfl) rfl e89
          refine g_callv (X := _) (As := [.int z89]) (r := []) (b := A 46) (q := 46) 93 (gd rfl) rfl rfl rfl rfl rfl (ww_o rfl) (Nat.le_of_ble_eq_true rfl) (Nat.zero_le _) (Nat.zero_le _) (f_178_46 (by first | exact dq1 hd rfl | exact dq0 hd rfl | exact dq2 hd rfl | exact dq3 hd rfl | omega) hI80 (in_w (-1000000) 1000000 i89 rfl)) (fun e u h => h) (fun v u h => ?_)
          obtain ⟨s90, hI90, hF90, rfl, rfl, p90⟩ := h
          show GG _ _ _ _ _ _ _ _ [] _ _ _
          refine g_aload_n 94 (gd rfl) rfl rfl ?_
          refine g_aload_n 95 (gd rfl) rfl rfl ?_
          refine g_getA (q2 := 37) 98 (gd rfl) rfl rfl rfl rfl ?_
          refine g_iload_n 99 (gd rfl) rfl rfl ?_
          refine g_iaload 100 (gd rfl) rfl (n := 160) rfl (in_ix i44 rfl) (fun z99 e99 => ?_)
          have i99 := inv_I hI90 (n := 160) (t := 0) 0 1000000 rfl (in_ix i44 rfl) rfl e99
          refine g_callv (X := _) (As := [.int z99]) (r := []) (b := A 46) (q := 46) 103 (gd rfl) rfl rfl rfl rfl rfl (ww_o rfl) (Nat.le_of_ble_eq_true rfl) (Nat.zero_le _) (Nat.zero_le _) (f_178_46 (by first | exact dq1 hd rfl | exact dq0 hd rfl | exact dq2 hd rfl | exact dq3 hd rfl | omega) hI90 (in_w (-1000000) 1000000 i99 rfl)) (fun e u h => h) (fun v u h => ?_)
          obtain ⟨s100, hI100, hF100, rfl, rfl, p100⟩ := h
          show GG _ _ _ _ _ _ _ _ [] _ _ _
          refine g_aload_n 104 (gd rfl) rfl rfl ?_
          refine g_aload_n 105 (gd rfl) rfl rfl ?_
          refine g_getA (q2 := 38) 108 (gd rfl) rfl rfl rfl rfl ?_
          refine g_iload_n 109 (gd rfl) rfl rfl ?_
          refine g_iaload 110 (gd rfl) rfl (n := 160) rfl (in_ix i44 rfl) (fun z109 e109 => ?_)
          have i109 := inv_I hI100 (n := 160) (t := 0) 0 25 rfl (in_ix i44 rfl) rfl e109
          refine g_callv (X := _) (As := [.int z109]) (r := []) (b := A 46) (q := 46) 113 (gd rfl) rfl rfl rfl rfl rfl (ww_o rfl) (Nat.le_of_ble_eq_true rfl) (Nat.zero_le _) (Nat.zero_le _) (f_176_46 (by first | exact dq1 hd rfl | exact dq0 hd rfl | exact dq2 hd rfl | exact dq3 hd rfl | omega) hI100 (in_w 0 25 i109 rfl)) (fun e u h => h) (fun v u h => ?_)
          obtain ⟨s110, hI110, hF110, rfl, rfl, p110⟩ := h
          show GG _ _ _ _ _ _ _ _ [] _ _ _
          refine g_iinc 116 (gd rfl) rfl rfl (Nat.le_of_ble_eq_true rfl) (fun z113 e113 => ?_)
          have i113 := in_add 1 160 e113 i44 (in_c 1 rfl) rfl rfl
          refine g_goto 39 (gd rfl) rfl ?_
          have n39 : PGC s110 (PRN (gvD s) (s.2.2.1 32 1).toInt.toNat ++ PRA (gvD s) (z113).toInt.toNat) ∧ (PRA (gvD s) (z113).toInt.toNat).length ≤ 27 * (z113).toInt.toNat := by rw [show (z113).toInt.toNat = (y39_2).toInt.toNat + 1 from (by (first | have a0 := oa4 i44a ro_32_1 i44 i113 | ((first | have a0 := in_u i44a | (have a0 := i44a; unfold In at a0)); (first | have a1 := in_u ro_32_1 | (have a1 := ro_32_1; unfold In at a1)); (first | have a2 := in_u i44 | (have a2 := i44; unfold In at a2)); (first | have a3 := in_u i113 | (have a3 := i113; unfold In at a3)))); have a4 := t_add e113 i44 (in_c 1 rfl) rfl; (first | have a5 := in_u ((in_c 1 rfl)) | (have a5 := (in_c 1 rfl); unfold In at a5)); have oc := oc_175_46_32; omega)]; exact pra_C g39_0 (by rw [prn_l]; have h9 := inv_F hI 0 32 rfl e_32_1; rw [← e_32_1]; unfold In at h9; omega) (by (first | have a0 := oa4 i44a ro_32_1 i44 i113 | ((first | have a0 := in_u i44a | (have a0 := i44a; unfold In at a0)); (first | have a1 := in_u ro_32_1 | (have a1 := ro_32_1; unfold In at a1)); (first | have a2 := in_u i44 | (have a2 := i44; unfold In at a2)); (first | have a3 := in_u i113 | (have a3 := i113; unfold In at a3)))); have a4 := t_add e113 i44 (in_c 1 rfl) rfl; (first | have a5 := in_u ((in_c 1 rfl)) | (have a5 := (in_c 1 rfl); unfold In at a5)); have oc := oc_175_46_32; omega) p60 p70 p80 p90 p100 p110 (e52.trans (congrFun (hFc39.1 34 rfl) _)) (e79.trans (congrFun ((hF70.1 35 rfl).trans ((hF60.1 35 rfl).trans (hFc39.1 35 rfl))) _)) (e89.trans (congrFun ((hF80.1 36 rfl).trans ((hF70.1 36 rfl).trans ((hF60.1 36 rfl).trans (hFc39.1 36 rfl)))) _)) (e99.trans (congrFun ((hF90.1 37 rfl).trans ((hF80.1 37 rfl).trans ((hF70.1 37 rfl).trans ((hF60.1 37 rfl).trans (hFc39.1 37 rfl))))) _)) (e109.trans (congrFun ((hF100.1 38 rfl).trans ((hF90.1 38 rfl).trans ((hF80.1 38 rfl).trans ((hF70.1 38 rfl).trans ((hF60.1 38 rfl).trans (hFc39.1 38 rfl)))))) _)) i54 i79 i99
          have n39a : (z113).toInt ≤ (s.2.2.1 32 3).toInt := by rw [← e_32_3]; (first | have a0 := oa4 i44a ro_32_1 i44 i113 | ((first | have a0 := in_u i44a | (have a0 := i44a; unfold In at a0)); (first | have a1 := in_u ro_32_1 | (have a1 := ro_32_1; unfold In at a1)); (first | have a2 := in_u i44 | (have a2 := i44; unfold In at a2)); (first | have a3 := in_u i113 | (have a3 := i113; unfold In at a3)))); have a4 := t_add e113 i44 (in_c 1 rfl) rfl; (first | have a5 := in_u ((in_c 1 rfl)) | (have a5 := (in_c 1 rfl); unfold In at a5)); have oc := oc_175_46_32; omega
          exact gg_w (by first | exact Nat.le_add_right _ _ | exact gw2 | exact gw3 | exact gwe rfl | exact gwf rfl | exact gwg rfl | exact gwh rfl | omega) (gg_f (gf_cons rfl (gf_cons rfl (gf_cons rfl gf_nil))) (ih39 s110 z113 hI110 (fr_tr rfl (fr_tr rfl (fr_tr rfl (fr_tr rfl (fr_tr rfl (fr_tr rfl hFc39 hF60) hF70) hF80) hF90) hF100) hF110) (in_w 0 160 i113 rfl) n39 n39a (m_up mm39 (t_add e113 i44 (in_c 1 rfl) rfl) (in_w 1 1 (in_c 1 rfl) rfl))))
  have ct7 : ∀ (k7 : Nat) (sc7 : GS) (y7_2 : Int32), Inv sc7 → Fr fm_175_46_32 s sc7 → (In y7_2 0 32) → (PGC sc7 (PRN (gvD s) (y7_2).toInt.toNat)) → ((y7_2).toInt ≤ (s.2.2.1 32 1).toInt) → 32 - (y7_2).toInt < (k7 : Int) → GG Z (d - 1) 175 post (gx xp) (144902 + k7 * 900) 7 (fun j => xlook j [(0, .ref (A 46)), (1, .ref (A 32)), (2, .int y7_2)]) [] (WW Z A sc7 ++ ex) 0 0 := by
    intro k7
    induction k7 with
    | zero => intro sc7 y7_2 hIc7 hFc7 j7_2 g7_0 g7_1 mm7; exact m_no mm7 j7_2 rfl
    | succ k7 ih7 =>
      intro sc7 y7_2 hIc7 hFc7 j7_2 g7_0 g7_1 mm7
      refine gg_w (M := 144902 + k7 * 900 + 900) gws ?_
      refine g_iload_n 8 (gd rfl) rfl rfl ?_
      refine g_aload_n 9 (gd rfl) rfl rfl ?_
      refine g_getI 12 (gd rfl) rfl rfl rfl (fun z9 e9 => ?_)
      have q9 : u_32_1 = z9 := (fr_F e_32_1 hFc7 rfl).trans e9.symm
      subst q9
      refine g_cmp_ge 15 37 (gd rfl) rfl rfl (fun c12 => ?_) (fun c12 => ?_)
      · skip
        refine g_iconst 0 38 (gd rfl) rfl rfl ?_
        refine g_istore_n 39 (gd rfl) rfl (Nat.le_of_ble_eq_true rfl) ?_
        have n39 : PGC sc7 (PRN (gvD s) (s.2.2.1 32 1).toInt.toNat ++ PRA (gvD s) ((Int32.ofInt 0)).toInt.toNat) ∧ (PRA (gvD s) ((Int32.ofInt 0)).toInt.toNat).length ≤ 27 * ((Int32.ofInt 0)).toInt.toNat := by rw [show (s.2.2.1 32 1).toInt.toNat = (y7_2).toInt.toNat from (by rw [← e_32_1]; have h9 := g7_1; rw [← e_32_1] at h9; (first | have a0 := oa4 ro_32_3 ro_32_1 j7_2 ((in_c 0 rfl)) | ((first | have a0 := in_u ro_32_3 | (have a0 := ro_32_3; unfold In at a0)); (first | have a1 := in_u ro_32_1 | (have a1 := ro_32_1; unfold In at a1)); (first | have a2 := in_u j7_2 | (have a2 := j7_2; unfold In at a2)); (first | have a3 := in_u ((in_c 0 rfl)) | (have a3 := (in_c 0 rfl); unfold In at a3)))); have oc := oc_175_46_32; omega)]; refine ⟨?_, Nat.zero_le _⟩; show PGC sc7 (PRN (gvD s) (y7_2).toInt.toNat ++ []); rw [List.append_nil]; exact g7_0
        have n39a : ((Int32.ofInt 0)).toInt ≤ (s.2.2.1 32 3).toInt := by rw [← e_32_3]; (first | have a0 := oa4 ro_32_3 ro_32_1 j7_2 ((in_c 0 rfl)) | ((first | have a0 := in_u ro_32_3 | (have a0 := ro_32_3; unfold In at a0)); (first | have a1 := in_u ro_32_1 | (have a1 := ro_32_1; unfold In at a1)); (first | have a2 := in_u j7_2 | (have a2 := j7_2; unfold In at a2)); (first | have a3 := in_u ((in_c 0 rfl)) | (have a3 := (in_c 0 rfl); unfold In at a3)))); have oc := oc_175_46_32; omega
        exact gg_w (by first | exact Nat.le_add_right _ _ | exact gw2 | exact gw3 | exact gwe rfl | exact gwf rfl | exact gwg rfl | exact gwh rfl | omega) (gg_f (gf_cons rfl (gf_cons rfl (gf_cons rfl gf_nil))) (ct39 161 sc7 (Int32.ofInt 0) hIc7 hFc7 (in_w 0 160 (in_c 0 rfl) rfl) n39 n39a (m_in 161 (in_w 0 160 (in_c 0 rfl) rfl) rfl)))
      · skip
        have i12 := r_lt1 0 31 c12 j7_2 ro_32_1 rfl
        have i12a := r_lt2 1 32 c12 j7_2 ro_32_1 rfl
        refine g_aload_n 16 (gd rfl) rfl rfl ?_
        refine g_bipush 110 18 (gd rfl) rfl rfl ?_
        refine g_callv (X := _) (As := [.int (Int32.ofInt 110)]) (r := []) (b := A 46) (q := 46) 21 (gd rfl) rfl rfl rfl rfl rfl (ww_o rfl) (Nat.le_of_ble_eq_true rfl) (Nat.zero_le _) (Nat.zero_le _) (f_177_46 (by first | exact dq1 hd rfl | exact dq0 hd rfl | exact dq2 hd rfl | exact dq3 hd rfl | omega) hIc7 (in_w 0 65535 (in_c 110 rfl) rfl)) (fun e u h => h) (fun v u h => ?_)
        obtain ⟨s18, hI18, hF18, rfl, rfl, p18⟩ := h
        show GG _ _ _ _ _ _ _ _ [] _ _ _
        refine g_aload_n 22 (gd rfl) rfl rfl ?_
        refine g_aload_n 23 (gd rfl) rfl rfl ?_
        refine g_getA (q2 := 33) 26 (gd rfl) rfl rfl rfl rfl ?_
        refine g_iload_n 27 (gd rfl) rfl rfl ?_
        refine g_iaload 28 (gd rfl) rfl (n := 32) rfl (in_ix i12 rfl) (fun z27 e27 => ?_)
        have i27 := inv_I hI18 (n := 32) (t := 0) 0 25 rfl (in_ix i12 rfl) rfl e27
        refine g_callv (X := _) (As := [.int z27]) (r := []) (b := A 46) (q := 46) 31 (gd rfl) rfl rfl rfl rfl rfl (ww_o rfl) (Nat.le_of_ble_eq_true rfl) (Nat.zero_le _) (Nat.zero_le _) (f_176_46 (by first | exact dq1 hd rfl | exact dq0 hd rfl | exact dq2 hd rfl | exact dq3 hd rfl | omega) hI18 (in_w 0 25 i27 rfl)) (fun e u h => h) (fun v u h => ?_)
        obtain ⟨s28, hI28, hF28, rfl, rfl, p28⟩ := h
        show GG _ _ _ _ _ _ _ _ [] _ _ _
        refine g_iinc 34 (gd rfl) rfl rfl (Nat.le_of_ble_eq_true rfl) (fun z31 e31 => ?_)
        have i31 := in_add 1 32 e31 i12 (in_c 1 rfl) rfl rfl
        refine g_goto 7 (gd rfl) rfl ?_
        have n7 : PGC s28 (PRN (gvD s) (z31).toInt.toNat) := by rw [show (z31).toInt.toNat = (y7_2).toInt.toNat + 1 from (by (first | have a0 := oa4 ro_32_3 i12a i12 i31 | ((first | have a0 := in_u ro_32_3 | (have a0 := ro_32_3; unfold In at a0)); (first | have a1 := in_u i12a | (have a1 := i12a; unfold In at a1)); (first | have a2 := in_u i12 | (have a2 := i12; unfold In at a2)); (first | have a3 := in_u i31 | (have a3 := i31; unfold In at a3)))); have a4 := t_add e31 i12 (in_c 1 rfl) rfl; (first | have a5 := in_u ((in_c 1 rfl)) | (have a5 := (in_c 1 rfl); unfold In at a5)); have oc := oc_175_46_32; omega)]; exact prn_C g7_0 (by (first | have a0 := oa4 ro_32_3 i12a i12 i31 | ((first | have a0 := in_u ro_32_3 | (have a0 := ro_32_3; unfold In at a0)); (first | have a1 := in_u i12a | (have a1 := i12a; unfold In at a1)); (first | have a2 := in_u i12 | (have a2 := i12; unfold In at a2)); (first | have a3 := in_u i31 | (have a3 := i31; unfold In at a3)))); have a4 := t_add e31 i12 (in_c 1 rfl) rfl; (first | have a5 := in_u ((in_c 1 rfl)) | (have a5 := (in_c 1 rfl); unfold In at a5)); have oc := oc_175_46_32; omega) p18 p28 (e27.trans (congrFun ((hF18.1 33 rfl).trans (hFc7.1 33 rfl)) _))
        have n7a : (z31).toInt ≤ (s.2.2.1 32 1).toInt := by rw [← e_32_1]; (first | have a0 := oa4 ro_32_3 i12a i12 i31 | ((first | have a0 := in_u ro_32_3 | (have a0 := ro_32_3; unfold In at a0)); (first | have a1 := in_u i12a | (have a1 := i12a; unfold In at a1)); (first | have a2 := in_u i12 | (have a2 := i12; unfold In at a2)); (first | have a3 := in_u i31 | (have a3 := i31; unfold In at a3)))); have a4 := t_add e31 i12 (in_c 1 rfl) rfl; (first | have a5 := in_u ((in_c 1 rfl)) | (have a5 := (in_c 1 rfl); unfold In at a5)); have oc := oc_175_46_32; omega
        exact gg_w (by first | exact Nat.le_add_right _ _ | exact gw2 | exact gw3 | exact gwe rfl | exact gwf rfl | exact gwg rfl | exact gwh rfl | omega) (gg_f (gf_cons rfl (gf_cons rfl (gf_cons rfl gf_nil))) (ih7 s28 z31 hI28 (fr_tr rfl (fr_tr rfl hFc7 hF18) hF28) (in_w 0 32 i31 rfl) n7 n7a (m_up mm7 (t_add e31 i12 (in_c 1 rfl) rfl) (in_w 1 1 (in_c 1 rfl) rfl))))
  refine g_enter2 (k := 175) (N := 175502) (by first | exact dq1 hd rfl | exact dq0 hd rfl | exact dq2 hd rfl | exact dq3 hd rfl | omega) rfl (Nat.le_of_ble_eq_true rfl) ?_
  refine g_aload_n 1 (gd rfl) rfl rfl ?_
  refine g_iconst 0 2 (gd rfl) rfl rfl ?_
  refine g_putI 5 (gd rfl) rfl rfl rfl rfl ?_
  have hI2 := inv_sF (q := 46) (j := 9) hI rfl (in_w 0 4608 (in_c 0 rfl) rfl)
  refine g_iconst 0 6 (gd rfl) rfl rfl ?_
  refine g_istore_n 7 (gd rfl) rfl (Nat.le_of_ble_eq_true rfl) ?_
  have n7 : PGC (sF s 46 9 (Int32.ofInt 0)) (PRN (gvD s) ((Int32.ofInt 0)).toInt.toNat) := by show PGC (sF s 46 9 (Int32.ofInt 0)) []; exact pge_0 (by have hz : ((sF s 46 9 (Int32.ofInt 0))).2.2.1 46 9 = Int32.ofInt 0 := sF_get.symm; rw [hz]; rfl)
  have n7a : ((Int32.ofInt 0)).toInt ≤ (s.2.2.1 32 1).toInt := by rw [← e_32_1]; (first | have a0 := oa3 ro_32_3 ro_32_1 ((in_c 0 rfl)) | ((first | have a0 := in_u ro_32_3 | (have a0 := ro_32_3; unfold In at a0)); (first | have a1 := in_u ro_32_1 | (have a1 := ro_32_1; unfold In at a1)); (first | have a2 := in_u ((in_c 0 rfl)) | (have a2 := (in_c 0 rfl); unfold In at a2)))); have oc := oc_175_46_32; omega
  exact gg_w (by first | exact Nat.le_of_ble_eq_true rfl | omega) (gg_f (gf_cons rfl (gf_cons rfl (gf_cons rfl gf_nil))) (ct7 33 (sF s 46 9 (Int32.ofInt 0)) (Int32.ofInt 0) hI2 (fr_sF rfl fr_rf) (in_w 0 32 (in_c 0 rfl) rfl) n7 n7a (m_in 33 (in_w 0 32 (in_c 0 rfl) rfl) rfl)))

/-- GraphHouse.print -/
theorem f_227_0 {Z : AmZ} {A : Nat → Nat} {s : GS} {ex : va_W} {d : Nat} {X : AmX}  (hd : 5 ≤ d) (hI : Inv s) (q_0 : TQ s) (q_1 : TQD s) : GC Z d 227 [.ref (A 0)] (WW Z A s ++ ex) 3 18 (fun v u => ∃ t : GS, Inv t ∧ Fr fm_227_0 s t ∧ ∃ z : Int32, v = some (.int z) ∧ u = WW Z A t ++ ex ∧ In z 0 4608 ∧ (PGC t (PRT (shC s)) ∧ (z).toInt = ((PRT (shC s)).length : Int))) X := by
  intro post xp hP hX
  obtain ⟨u_0_2, e_0_2⟩ : ∃ w, w = s.2.2.1 0 2 := ⟨_, rfl⟩
  have ro_0_2 := inv_F hI (-1) 4000 rfl e_0_2
  refine g_enter2 (k := 227) (N := 900) (by first | exact dq1 hd rfl | exact dq0 hd rfl | exact dq2 hd rfl | exact dq3 hd rfl | omega) rfl (Nat.le_of_ble_eq_true rfl) ?_
  refine g_aload_n 1 (gd rfl) rfl rfl ?_
  refine g_getA (q2 := 46) 4 (gd rfl) rfl rfl rfl rfl ?_
  refine g_aload_n 5 (gd rfl) rfl rfl ?_
  refine g_callv (X := _) (As := []) (r := [.ref (A 46)]) (b := A 0) (q := 0) 8 (gd rfl) rfl rfl rfl rfl rfl (ww_o rfl) (Nat.le_of_ble_eq_true rfl) (mc := 0) (ms := 0) (Nat.zero_le _) (Nat.zero_le _) (P := fun v u => _) ?_ (fun e u h => h) (fun v u h => h)
  intro po5 xx5 hp5 hx5
  refine g_enter2 (k := 259) (N := 300) (by first | exact dq1 hd rfl | exact dq0 hd rfl | exact dq2 hd rfl | exact dq3 hd rfl | omega) rfl (Nat.le_of_ble_eq_true rfl) ?_
  refine g_aload_n 1 (gd rfl) rfl rfl ?_
  refine g_getI 4 (gd rfl) rfl rfl rfl (fun z5x1 e5x1 => ?_)
  have q5x1 : u_0_2 = z5x1 := (e_0_2).trans e5x1.symm
  subst q5x1
  refine g_iconst (-1) 5 (gd rfl) rfl rfl ?_
  refine g_cmp_ne 8 18 (gd rfl) rfl rfl (fun c5x5 => ?_) (fun c5x5 => ?_)
  · skip
    have i5x5 := r_ne1 0 4000 c5x5 ro_0_2 (in_c (-1) rfl) rfl
    refine g_aload_n 19 (gd rfl) rfl rfl ?_
    refine g_getA (q2 := 32) 22 (gd rfl) rfl rfl rfl rfl ?_
    refine g_areturn (gd rfl) rfl (hp5 _ _ ?_)
    show GG _ _ _ _ _ _ _ _ [.ref (A 32), .ref (A 46)] _ _ _
    refine g_callv (X := _) (As := [.ref (A 32)]) (r := []) (b := A 46) (q := 46) 11 (gd rfl) rfl rfl rfl rfl rfl (ww_o rfl) (Nat.le_of_ble_eq_true rfl) (Nat.zero_le _) (Nat.zero_le _) (f_175_46_32 (by first | exact dq1 hd rfl | exact dq0 hd rfl | exact dq2 hd rfl | exact dq3 hd rfl | omega) hI ) (fun e u h => h) (fun v u h => ?_)
    obtain ⟨s8, hI8, hF8, z8, rfl, rfl, i8, p8⟩ := h
    show GG _ _ _ _ _ _ _ _ [.int z8] _ _ _
    have n11 : PGC s8 (PRT (shC s)) ∧ (z8).toInt = ((PRT (shC s)).length : Int) := by first | (rw [shC_n (by rw [← e5x1]; exact c5x5)]; rw [prt_t (g := (gvC s)) (T := (s.2.2.1 2 3).toInt.toNat) (by have h9 := inv_F hI (z := s.2.2.1 2 3) 0 160 rfl rfl; unfold In at h9; omega) (fun p h1 h2 => Classical.byContradiction fun hn => (by have h8 := q_0 p h2 hn; omega))]; exact p8) | (rw [shC_d (by rw [← e5x1]; exact c5x5)]; rw [prt_t (g := (gvD s)) (T := (s.2.2.1 32 3).toInt.toNat) (by have h9 := inv_F hI (z := s.2.2.1 32 3) 0 160 rfl rfl; unfold In at h9; omega) (fun p h1 h2 => Classical.byContradiction fun hn => (by have h8 := q_1 p h2 hn; omega))]; exact p8)
    exact g_ireturn (gd rfl) rfl rfl (hP _ _ ⟨s8, hI8, (fr_tr rfl fr_rf hF8), z8, rfl, rfl, in_w 0 4608 i8 rfl, n11⟩)
  · skip
    have i5x5 := r_eq1 (-1) (-1) c5x5 ro_0_2 (in_c (-1) rfl) rfl
    refine g_aload_n 9 (gd rfl) rfl rfl ?_
    refine g_getA (q2 := 1) 12 (gd rfl) rfl rfl rfl rfl ?_
    refine g_getA (q2 := 2) 15 (gd rfl) rfl rfl rfl rfl ?_
    refine g_goto 22 (gd rfl) rfl ?_
    refine g_areturn (gd rfl) rfl (hp5 _ _ ?_)
    show GG _ _ _ _ _ _ _ _ [.ref (A 2), .ref (A 46)] _ _ _
    refine g_callv (X := _) (As := [.ref (A 2)]) (r := []) (b := A 46) (q := 46) 11 (gd rfl) rfl rfl rfl rfl rfl (ww_o rfl) (Nat.le_of_ble_eq_true rfl) (Nat.zero_le _) (Nat.zero_le _) (f_175_46_2 (by first | exact dq1 hd rfl | exact dq0 hd rfl | exact dq2 hd rfl | exact dq3 hd rfl | omega) hI ) (fun e u h => h) (fun v u h => ?_)
    obtain ⟨s8, hI8, hF8, z8, rfl, rfl, i8, p8⟩ := h
    show GG _ _ _ _ _ _ _ _ [.int z8] _ _ _
    have n11 : PGC s8 (PRT (shC s)) ∧ (z8).toInt = ((PRT (shC s)).length : Int) := by first | (rw [shC_n (by rw [← e5x1]; exact c5x5)]; rw [prt_t (g := (gvC s)) (T := (s.2.2.1 2 3).toInt.toNat) (by have h9 := inv_F hI (z := s.2.2.1 2 3) 0 160 rfl rfl; unfold In at h9; omega) (fun p h1 h2 => Classical.byContradiction fun hn => (by have h8 := q_0 p h2 hn; omega))]; exact p8) | (rw [shC_d (by rw [← e5x1]; exact c5x5)]; rw [prt_t (g := (gvD s)) (T := (s.2.2.1 32 3).toInt.toNat) (by have h9 := inv_F hI (z := s.2.2.1 32 3) 0 160 rfl rfl; unfold In at h9; omega) (fun p h1 h2 => Classical.byContradiction fun hn => (by have h8 := q_1 p h2 hn; omega))]; exact p8)
    exact g_ireturn (gd rfl) rfl rfl (hP _ _ ⟨s8, hI8, (fr_tr rfl fr_rf hF8), z8, rfl, rfl, in_w 0 4608 i8 rfl, n11⟩)
