/-! methods, by vc.py -/
def fm_79_65_2 : FM := ([66, 67, 68, 69, 70, 71, 72, 73, 74], [75], [(65, 0), (65, 1), (65, 2), (65, 4), (65, 8)], [(65, 3)])
/-- GraphHouse$Flows.cheapest -/
theorem k_79_65_2 {Z : AmZ} {A : Nat → Nat} {s : GS} {ex : va_W} {d : Nat} {X : AmX} {x2 : Int32} {x3 : Int32} {x4 : Int32} (hd : 6 ≤ d) (hI : Inv s) (h2 : In x2 0 31) (h3 : In x3 0 31) (h4 : In x4 0 200000000) : GC Z d 79 [.ref (A 65), .ref (A 2), .int x2, .int x3, .int x4] (WW Z A s ++ ex) 0 0 (fun v u => ∃ t : GS, Inv t ∧ Fr fm_79_65_2 s t ∧ ∃ z : Int64, v = some (.long z) ∧ u = WW Z A t ++ ex) X := by
  intro post xp hP hX
  obtain ⟨u_2_1, e_2_1⟩ : ∃ w, w = s.2.2.1 2 1 := ⟨_, rfl⟩
  have ro_2_1 := inv_F hI 0 32 rfl e_2_1
  have ct94 : ∀ (k94 : Nat) (sc94 : GS) (y94_5 : Int64) (y94_7 : Int32) (y94_8 : Int32), Inv sc94 → Fr fm_79_65_2 s sc94 → (In y94_7 1 1048576) → (In y94_8 0 160) → 160 - (y94_8).toInt < (k94 : Int) → GG Z (d - 1) 79 post (gx xp) (1 + k94 * 900) 94 (fun j => xlook j [(0, .ref (A 65)), (1, .ref (A 2)), (2, .int x2), (3, .int x3), (4, .int x4), (5, .long y94_5), (7, .int y94_7), (8, .int y94_8)]) [] (WW Z A sc94 ++ ex) 0 0 := by
    intro k94
    induction k94 with
    | zero => intro sc94 y94_5 y94_7 y94_8 hIc94 hFc94 j94_7 j94_8 mm94; exact m_no mm94 j94_8 rfl
    | succ k94 ih94 =>
      intro sc94 y94_5 y94_7 y94_8 hIc94 hFc94 j94_7 j94_8 mm94
      refine gg_w (M := 1 + k94 * 900 + 900) gws ?_
      refine g_iload 96 (gd rfl) rfl rfl ?_
      refine g_aload_n 97 (gd rfl) rfl rfl ?_
      refine g_getI 100 (gd rfl) rfl rfl rfl (fun z97 e97 => ?_)
      have i97 := inv_F hIc94 0 160 rfl e97
      refine g_cmp_ge 103 131 (gd rfl) rfl rfl (fun c100 => ?_) (fun c100 => ?_)
      · skip
        refine g_lload 133 (gd rfl) rfl rfl ?_
        exact g_lreturn (gd rfl) rfl (hP _ _ ⟨sc94, hIc94, hFc94, y94_5, rfl, rfl⟩)
      · skip
        have i100 := r_lt1 0 159 c100 j94_8 i97 rfl
        have i100a := r_lt2 1 160 c100 j94_8 i97 rfl
        refine g_lload 105 (gd rfl) rfl rfl ?_
        refine g_aload_n 106 (gd rfl) rfl rfl ?_
        refine g_getA (q2 := 71) 109 (gd rfl) rfl rfl rfl rfl ?_
        refine g_iload 111 (gd rfl) rfl rfl ?_
        refine g_iaload 112 (gd rfl) rfl (n := 160) rfl (in_ix i100 rfl) (fun z111 e111 => ?_)
        have i111 := inv_I hIc94 (n := 160) (t := 0) (-1000000) 1000000 rfl (in_ix i100 rfl) rfl e111
        refine g_i2l 113 (gd rfl) rfl (fun z112 e112 => ?_)
        have i112 := l_i e112 i111
        refine g_aload_n 114 (gd rfl) rfl rfl ?_
        refine g_getA (q2 := 73) 117 (gd rfl) rfl rfl rfl rfl ?_
        refine g_iload 119 (gd rfl) rfl rfl ?_
        refine g_iaload 120 (gd rfl) rfl (n := 160) rfl (in_ix i100 rfl) (fun z119 e119 => ?_)
        refine g_i2l 121 (gd rfl) rfl (fun z120 e120 => ?_)
        have i120 := l_i e120 (i_rng z119)
        refine g_lmul 122 (gd rfl) rfl (fun z121 e121 => ?_)
        refine g_ladd 123 (gd rfl) rfl (fun z122 e122 => ?_)
        refine g_lstore 125 (gd rfl) rfl (Nat.le_of_ble_eq_true rfl) ?_
        refine g_iinc 128 (gd rfl) rfl rfl (Nat.le_of_ble_eq_true rfl) (fun z125 e125 => ?_)
        have i125 := in_add 1 160 e125 i100 (in_c 1 rfl) rfl rfl
        refine g_goto 94 (gd rfl) rfl ?_
        exact gg_w (by first | exact Nat.le_add_right _ _ | exact gw2 | exact gw3 | exact gwe rfl | exact gwf rfl | exact gwg rfl | exact gwh rfl | omega) (gg_f (gf_cons rfl (gf_cons rfl (gf_cons rfl (gf_cons rfl (gf_cons rfl (gf_cons rfl (gf_cons rfl (gf_cons rfl gf_nil)))))))) (ih94 sc94 z122 y94_7 z125 hIc94 hFc94 (in_w 1 1048576 j94_7 rfl) (in_w 0 160 i125 rfl) (m_up mm94 (t_add e125 i100 (in_c 1 rfl) rfl) (in_w 1 1 (in_c 1 rfl) rfl))))
  have ct50 : ∀ (k50 : Nat) (sc50 : GS) (y50_5 : Int64) (y50_7 : Int32) (y50_8 : Int32), Inv sc50 → Fr fm_79_65_2 s sc50 → (In y50_7 1 1048576) → (In y50_8 0 65536) → (y50_8).toInt < (k50 : Int) → GG Z (d - 1) 79 post (gx xp) (144902 + k50 * 900) 50 (fun j => xlook j [(0, .ref (A 65)), (1, .ref (A 2)), (2, .int x2), (3, .int x3), (4, .int x4), (5, .long y50_5), (7, .int y50_7), (8, .int y50_8)]) [] (WW Z A sc50 ++ ex) 0 0 := by
    intro k50
    induction k50 with
    | zero => intro sc50 y50_5 y50_7 y50_8 hIc50 hFc50 j50_7 j50_8 mm50; exfalso; (first | have a0 := oa3 h3 h2 ro_2_1 | ((first | have a0 := in_u h3 | (have a0 := h3; unfold In at a0)); (first | have a1 := in_u h2 | (have a1 := h2; unfold In at a1)); (first | have a2 := in_u ro_2_1 | (have a2 := ro_2_1; unfold In at a2)))); have a3 := j50_8; unfold In at a3; have a4 := j50_7; unfold In at a4; (first | have a5 := in_u h4 | (have a5 := h4; unfold In at a5)); omega
    | succ k50 ih50 =>
      intro sc50 y50_5 y50_7 y50_8 hIc50 hFc50 j50_7 j50_8 mm50
      refine gg_w (M := 144902 + k50 * 900 + 900) gws ?_
      refine g_iload 52 (gd rfl) rfl rfl ?_
      refine g_if_le 55 91 (gd rfl) rfl rfl (fun c52 => ?_) (fun c52 => ?_)
      · skip
        have i52 := z_le 0 0 c52 j50_8 rfl
        refine g_iconst 0 92 (gd rfl) rfl rfl ?_
        refine g_istore 94 (gd rfl) rfl (Nat.le_of_ble_eq_true rfl) ?_
        exact gg_w (by first | exact Nat.le_add_right _ _ | exact gw2 | exact gw3 | exact gwe rfl | exact gwf rfl | exact gwg rfl | exact gwh rfl | omega) (gg_f (gf_cons rfl (gf_cons rfl (gf_cons rfl (gf_cons rfl (gf_cons rfl (gf_cons rfl (gf_cons rfl (gf_cons rfl gf_nil)))))))) (ct94 161 sc50 y50_5 y50_7 (Int32.ofInt 0) hIc50 hFc50 (in_w 1 1048576 j50_7 rfl) (in_w 0 160 (in_c 0 rfl) rfl) (m_in 161 (in_w 0 160 (in_c 0 rfl) rfl) rfl)))
      · skip
        have i52 := z_gt 1 65536 c52 j50_8 rfl
        refine g_aload_n 56 (gd rfl) rfl rfl ?_
        refine g_aload_n 57 (gd rfl) rfl rfl ?_
        refine g_getI 60 (gd rfl) rfl rfl rfl (fun z57 e57 => ?_)
        have q57 : u_2_1 = z57 := (fr_F e_2_1 hFc50 rfl).trans e57.symm
        subst q57
        refine g_iload 62 (gd rfl) rfl rfl ?_
        refine g_iload 64 (gd rfl) rfl rfl ?_
        refine g_callv (X := _) (As := [.int u_2_1, .int y50_7, .int y50_8]) (r := []) (b := A 65) (q := 65) 67 (gd rfl) rfl rfl rfl rfl rfl (ww_o rfl) (Nat.le_of_ble_eq_true rfl) (Nat.zero_le _) (Nat.zero_le _) (k_81_65 (by first | exact dq1 hd rfl | exact dq0 hd rfl | exact dq2 hd rfl | exact dq3 hd rfl | omega) hIc50 (in_w 0 32 ro_2_1 rfl) (in_w 1 1048576 j50_7 rfl) (in_w 1 65536 i52 rfl)) (fun e u h => h) (fun v u h => ?_)
        obtain ⟨s64, hI64, hF64, rfl, rfl⟩ := h
        show GG _ _ _ _ _ _ _ _ [] _ _ _
        refine g_aload_n 68 (gd rfl) rfl rfl ?_
        refine g_aload_n 69 (gd rfl) rfl rfl ?_
        refine g_getI 72 (gd rfl) rfl rfl rfl (fun z69 e69 => ?_)
        have q69 : u_2_1 = z69 := (fr_F (fr_F e_2_1 hFc50 rfl) hF64 rfl).trans e69.symm
        subst q69
        refine g_iload 74 (gd rfl) rfl rfl ?_
        refine g_callv (X := _) (As := [.int u_2_1, .int y50_8]) (r := []) (b := A 65) (q := 65) 77 (gd rfl) rfl rfl rfl rfl rfl (ww_o rfl) (Nat.le_of_ble_eq_true rfl) (Nat.zero_le _) (Nat.zero_le _) (k_83_65 (by first | exact dq1 hd rfl | exact dq0 hd rfl | exact dq2 hd rfl | exact dq3 hd rfl | omega) hI64 (in_w 0 32 ro_2_1 rfl) (in_w 1 65536 i52 rfl)) (fun e u h => h) (fun v u h => ?_)
        obtain ⟨s74, hI74, hF74, rfl, rfl⟩ := h
        show GG _ _ _ _ _ _ _ _ [] _ _ _
        refine g_iload 79 (gd rfl) rfl rfl ?_
        refine g_istore 81 (gd rfl) rfl (Nat.le_of_ble_eq_true rfl) ?_
        refine g_iload 83 (gd rfl) rfl rfl ?_
        refine g_bipush 16 85 (gd rfl) rfl rfl ?_
        refine g_idiv 86 (gd rfl) rfl (by decide) (fun z85 e85 => ?_)
        have i85 := in_div 0 4096 e85 i52 rfl rfl
        refine g_istore 88 (gd rfl) rfl (Nat.le_of_ble_eq_true rfl) ?_
        refine g_goto 50 (gd rfl) rfl ?_
        have m50 : (z85).toInt < ((k50 : Nat) : Int) := by (first | have a0 := oa6 h3 h2 ro_2_1 i52 j50_7 i85 | ((first | have a0 := in_u h3 | (have a0 := h3; unfold In at a0)); (first | have a1 := in_u h2 | (have a1 := h2; unfold In at a1)); (first | have a2 := in_u ro_2_1 | (have a2 := ro_2_1; unfold In at a2)); (first | have a3 := in_u i52 | (have a3 := i52; unfold In at a3)); (first | have a4 := in_u j50_7 | (have a4 := j50_7; unfold In at a4)); (first | have a5 := in_u i85 | (have a5 := i85; unfold In at a5)))); have a6 := t_div e85 i52 rfl; (first | have a7 := in_u h4 | (have a7 := h4; unfold In at a7)); omega
        exact gg_w (by first | exact Nat.le_add_right _ _ | exact gw2 | exact gw3 | exact gwe rfl | exact gwf rfl | exact gwg rfl | exact gwh rfl | omega) (gg_f (gf_cons rfl (gf_cons rfl (gf_cons rfl (gf_cons rfl (gf_cons rfl (gf_cons rfl (gf_cons rfl (gf_cons rfl gf_nil)))))))) (ih50  s74 y50_5 y50_8 z85 hI74 (fr_tr rfl (fr_tr rfl hFc50 hF64) hF74) (in_w 1 1048576 i52 rfl) (in_w 0 65536 i85 rfl) m50))
  refine g_enter2 (k := 79) (N := 63145802) (by first | exact dq1 hd rfl | exact dq0 hd rfl | exact dq2 hd rfl | exact dq3 hd rfl | omega) rfl (Nat.le_of_ble_eq_true rfl) ?_
  refine g_iload 2 (gd rfl) rfl rfl ?_
  refine g_i2l 3 (gd rfl) rfl (fun z2 e2 => ?_)
  have i2 := l_i e2 h4
  refine g_aload_n 4 (gd rfl) rfl rfl ?_
  refine g_aload_n 5 (gd rfl) rfl rfl ?_
  refine g_iload_n 6 (gd rfl) rfl rfl ?_
  refine g_iload_n 7 (gd rfl) rfl rfl ?_
  refine g_callv (X := _) (As := [.ref (A 2), .int x2, .int x3]) (r := [.long z2]) (b := A 65) (q := 65) 10 (gd rfl) rfl rfl rfl rfl rfl (ww_o rfl) (Nat.le_of_ble_eq_true rfl) (Nat.zero_le _) (Nat.zero_le _) (k_75_65_2 (by first | exact dq1 hd rfl | exact dq0 hd rfl | exact dq2 hd rfl | exact dq3 hd rfl | omega) hI (in_w 0 31 h2 rfl) (in_w 0 31 h3 rfl)) (fun e u h => h) (fun v u h => ?_)
  obtain ⟨s7, hI7, hF7, z7, rfl, rfl⟩ := h
  show GG _ _ _ _ _ _ _ _ [.long z7, .long z2] _ _ _
  refine g_lcmp 11 (gd rfl) rfl (fun z10 e10 => ?_)
  have i10 := lc_in e10
  refine g_if_le 14 18 (gd rfl) rfl rfl (fun c11 => ?_) (fun c11 => ?_)
  · skip
    have i11 := z_le (-1) 0 c11 i10 rfl
    have c11a := lc_le e10 c11
    have i11a := lr_le2 0 9223372036854775807 c11a i2 (l_rng z7) rfl
    refine g_aload_n 19 (gd rfl) rfl rfl ?_
    refine g_aload_n 20 (gd rfl) rfl rfl ?_
    refine g_callv (X := _) (As := [.ref (A 2)]) (r := []) (b := A 65) (q := 65) 23 (gd rfl) rfl rfl rfl rfl rfl (ww_o rfl) (Nat.le_of_ble_eq_true rfl) (Nat.zero_le _) (Nat.zero_le _) (k_80_65_2 (by first | exact dq1 hd rfl | exact dq0 hd rfl | exact dq2 hd rfl | exact dq3 hd rfl | omega) hI7 ) (fun e u h => h) (fun v u h => ?_)
    obtain ⟨s20, hI20, hF20, z20, rfl, rfl⟩ := h
    show GG _ _ _ _ _ _ _ _ [.long z20] _ _ _
    refine g_lstore 25 (gd rfl) rfl (Nat.le_of_ble_eq_true rfl) ?_
    refine g_aload_n 26 (gd rfl) rfl rfl ?_
    refine g_getA (q2 := 74) 29 (gd rfl) rfl rfl rfl rfl ?_
    refine g_iload_n 30 (gd rfl) rfl rfl ?_
    refine g_iload 32 (gd rfl) rfl rfl ?_
    refine g_iastore 33 (gd rfl) rfl (n := 32) rfl (in_ix h2 rfl) ?_
    have hI32 := inv_sI (q := 74) (j := x2.toNatClampNeg) hI20 rfl (in_w (-2147483648) 2147483647 h4 rfl)
    refine g_aload_n 34 (gd rfl) rfl rfl ?_
    refine g_getA (q2 := 74) 37 (gd rfl) rfl rfl rfl rfl ?_
    refine g_iload_n 38 (gd rfl) rfl rfl ?_
    refine g_iload 40 (gd rfl) rfl rfl ?_
    refine g_ineg 41 (gd rfl) rfl (fun z40 e40 => ?_)
    have i40 := in_neg (-200000000) 0 e40 h4 rfl
    refine g_iastore 42 (gd rfl) rfl (n := 32) rfl (in_ix h3 rfl) ?_
    have hI41 := inv_sI (q := 74) (j := x3.toNatClampNeg) hI32 rfl (in_w (-2147483648) 2147483647 i40 rfl)
    refine g_ldc 1048576 44 (gd rfl) rfl rfl ?_
    refine g_istore 46 (gd rfl) rfl (Nat.le_of_ble_eq_true rfl) ?_
    refine g_ldc 65536 48 (gd rfl) rfl rfl ?_
    refine g_istore 50 (gd rfl) rfl (Nat.le_of_ble_eq_true rfl) ?_
    have m50 : ((Int32.ofInt 65536)).toInt < ((70000 : Nat) : Int) := by (first | have a0 := oa6 ro_2_1 h3 h2 ((in_c 65536 rfl)) ((in_c 1048576 rfl)) h4 | ((first | have a0 := in_u ro_2_1 | (have a0 := ro_2_1; unfold In at a0)); (first | have a1 := in_u h3 | (have a1 := h3; unfold In at a1)); (first | have a2 := in_u h2 | (have a2 := h2; unfold In at a2)); (first | have a3 := in_u ((in_c 65536 rfl)) | (have a3 := (in_c 65536 rfl); unfold In at a3)); (first | have a4 := in_u ((in_c 1048576 rfl)) | (have a4 := (in_c 1048576 rfl); unfold In at a4)); (first | have a5 := in_u h4 | (have a5 := h4; unfold In at a5)))); have a6 := tx_i2l e2; omega
    exact gg_w (by first | exact Nat.le_of_ble_eq_true rfl | omega) (gg_f (gf_cons rfl (gf_cons rfl (gf_cons rfl (gf_cons rfl (gf_cons rfl (gf_cons rfl (gf_cons rfl (gf_cons rfl gf_nil)))))))) (ct50 70000 (sI (sI s20 74 x2.toNatClampNeg x4) 74 x3.toNatClampNeg z40) z20 (Int32.ofInt 1048576) (Int32.ofInt 65536) hI41 (fr_sI rfl (fr_sI rfl (fr_tr rfl (fr_tr rfl fr_rf hF7) hF20))) (in_w 1 1048576 (in_c 1048576 rfl) rfl) (in_w 0 65536 (in_c 65536 rfl) rfl) m50))
  · skip
    have i11 := z_gt 1 1 c11 i10 rfl
    have c11a := lc_gt e10 c11
    have i11a := lr_lt1 (-9223372036854775808) 199999999 c11a (l_rng z7) i2 rfl
    refine g_ldc2_w 9000000000000000 17 (gd rfl) rfl rfl ?_
    exact g_lreturn (gd rfl) rfl (hP _ _ ⟨s7, hI7, (fr_tr rfl fr_rf hF7), (Int64.ofInt 9000000000000000), rfl, rfl⟩)

def fm_79_65_32 : FM := ([66, 67, 68, 69, 70, 71, 72, 73, 74], [75], [(65, 0), (65, 1), (65, 2), (65, 4), (65, 8)], [(65, 3)])
/-- GraphHouse$Flows.cheapest -/
theorem k_79_65_32 {Z : AmZ} {A : Nat → Nat} {s : GS} {ex : va_W} {d : Nat} {X : AmX} {x2 : Int32} {x3 : Int32} {x4 : Int32} (hd : 6 ≤ d) (hI : Inv s) (h2 : In x2 0 31) (h3 : In x3 0 31) (h4 : In x4 0 200000000) : GC Z d 79 [.ref (A 65), .ref (A 32), .int x2, .int x3, .int x4] (WW Z A s ++ ex) 0 0 (fun v u => ∃ t : GS, Inv t ∧ Fr fm_79_65_32 s t ∧ ∃ z : Int64, v = some (.long z) ∧ u = WW Z A t ++ ex) X := by
  intro post xp hP hX
  obtain ⟨u_32_1, e_32_1⟩ : ∃ w, w = s.2.2.1 32 1 := ⟨_, rfl⟩
  have ro_32_1 := inv_F hI 0 32 rfl e_32_1
  have ct94 : ∀ (k94 : Nat) (sc94 : GS) (y94_5 : Int64) (y94_7 : Int32) (y94_8 : Int32), Inv sc94 → Fr fm_79_65_32 s sc94 → (In y94_7 1 1048576) → (In y94_8 0 160) → 160 - (y94_8).toInt < (k94 : Int) → GG Z (d - 1) 79 post (gx xp) (1 + k94 * 900) 94 (fun j => xlook j [(0, .ref (A 65)), (1, .ref (A 32)), (2, .int x2), (3, .int x3), (4, .int x4), (5, .long y94_5), (7, .int y94_7), (8, .int y94_8)]) [] (WW Z A sc94 ++ ex) 0 0 := by
    intro k94
    induction k94 with
    | zero => intro sc94 y94_5 y94_7 y94_8 hIc94 hFc94 j94_7 j94_8 mm94; exact m_no mm94 j94_8 rfl
    | succ k94 ih94 =>
      intro sc94 y94_5 y94_7 y94_8 hIc94 hFc94 j94_7 j94_8 mm94
      refine gg_w (M := 1 + k94 * 900 + 900) gws ?_
      refine g_iload 96 (gd rfl) rfl rfl ?_
      refine g_aload_n 97 (gd rfl) rfl rfl ?_
      refine g_getI 100 (gd rfl) rfl rfl rfl (fun z97 e97 => ?_)
      have i97 := inv_F hIc94 0 160 rfl e97
      refine g_cmp_ge 103 131 (gd rfl) rfl rfl (fun c100 => ?_) (fun c100 => ?_)
      · skip
        refine g_lload 133 (gd rfl) rfl rfl ?_
        exact g_lreturn (gd rfl) rfl (hP _ _ ⟨sc94, hIc94, hFc94, y94_5, rfl, rfl⟩)
      · skip
        have i100 := r_lt1 0 159 c100 j94_8 i97 rfl
        have i100a := r_lt2 1 160 c100 j94_8 i97 rfl
        refine g_lload 105 (gd rfl) rfl rfl ?_
        refine g_aload_n 106 (gd rfl) rfl rfl ?_
        refine g_getA (q2 := 71) 109 (gd rfl) rfl rfl rfl rfl ?_
        refine g_iload 111 (gd rfl) rfl rfl ?_
        refine g_iaload 112 (gd rfl) rfl (n := 160) rfl (in_ix i100 rfl) (fun z111 e111 => ?_)
        have i111 := inv_I hIc94 (n := 160) (t := 0) (-1000000) 1000000 rfl (in_ix i100 rfl) rfl e111
        refine g_i2l 113 (gd rfl) rfl (fun z112 e112 => ?_)
        have i112 := l_i e112 i111
        refine g_aload_n 114 (gd rfl) rfl rfl ?_
        refine g_getA (q2 := 73) 117 (gd rfl) rfl rfl rfl rfl ?_
        refine g_iload 119 (gd rfl) rfl rfl ?_
        refine g_iaload 120 (gd rfl) rfl (n := 160) rfl (in_ix i100 rfl) (fun z119 e119 => ?_)
        refine g_i2l 121 (gd rfl) rfl (fun z120 e120 => ?_)
        have i120 := l_i e120 (i_rng z119)
        refine g_lmul 122 (gd rfl) rfl (fun z121 e121 => ?_)
        refine g_ladd 123 (gd rfl) rfl (fun z122 e122 => ?_)
        refine g_lstore 125 (gd rfl) rfl (Nat.le_of_ble_eq_true rfl) ?_
        refine g_iinc 128 (gd rfl) rfl rfl (Nat.le_of_ble_eq_true rfl) (fun z125 e125 => ?_)
        have i125 := in_add 1 160 e125 i100 (in_c 1 rfl) rfl rfl
        refine g_goto 94 (gd rfl) rfl ?_
        exact gg_w (by first | exact Nat.le_add_right _ _ | exact gw2 | exact gw3 | exact gwe rfl | exact gwf rfl | exact gwg rfl | exact gwh rfl | omega) (gg_f (gf_cons rfl (gf_cons rfl (gf_cons rfl (gf_cons rfl (gf_cons rfl (gf_cons rfl (gf_cons rfl (gf_cons rfl gf_nil)))))))) (ih94 sc94 z122 y94_7 z125 hIc94 hFc94 (in_w 1 1048576 j94_7 rfl) (in_w 0 160 i125 rfl) (m_up mm94 (t_add e125 i100 (in_c 1 rfl) rfl) (in_w 1 1 (in_c 1 rfl) rfl))))
  have ct50 : ∀ (k50 : Nat) (sc50 : GS) (y50_5 : Int64) (y50_7 : Int32) (y50_8 : Int32), Inv sc50 → Fr fm_79_65_32 s sc50 → (In y50_7 1 1048576) → (In y50_8 0 65536) → (y50_8).toInt < (k50 : Int) → GG Z (d - 1) 79 post (gx xp) (144902 + k50 * 900) 50 (fun j => xlook j [(0, .ref (A 65)), (1, .ref (A 32)), (2, .int x2), (3, .int x3), (4, .int x4), (5, .long y50_5), (7, .int y50_7), (8, .int y50_8)]) [] (WW Z A sc50 ++ ex) 0 0 := by
    intro k50
    induction k50 with
    | zero => intro sc50 y50_5 y50_7 y50_8 hIc50 hFc50 j50_7 j50_8 mm50; exfalso; (first | have a0 := oa3 h3 h2 ro_32_1 | ((first | have a0 := in_u h3 | (have a0 := h3; unfold In at a0)); (first | have a1 := in_u h2 | (have a1 := h2; unfold In at a1)); (first | have a2 := in_u ro_32_1 | (have a2 := ro_32_1; unfold In at a2)))); have a3 := j50_8; unfold In at a3; have a4 := j50_7; unfold In at a4; (first | have a5 := in_u h4 | (have a5 := h4; unfold In at a5)); omega
    | succ k50 ih50 =>
      intro sc50 y50_5 y50_7 y50_8 hIc50 hFc50 j50_7 j50_8 mm50
      refine gg_w (M := 144902 + k50 * 900 + 900) gws ?_
      refine g_iload 52 (gd rfl) rfl rfl ?_
      refine g_if_le 55 91 (gd rfl) rfl rfl (fun c52 => ?_) (fun c52 => ?_)
      · skip
        have i52 := z_le 0 0 c52 j50_8 rfl
        refine g_iconst 0 92 (gd rfl) rfl rfl ?_
        refine g_istore 94 (gd rfl) rfl (Nat.le_of_ble_eq_true rfl) ?_
        exact gg_w (by first | exact Nat.le_add_right _ _ | exact gw2 | exact gw3 | exact gwe rfl | exact gwf rfl | exact gwg rfl | exact gwh rfl | omega) (gg_f (gf_cons rfl (gf_cons rfl (gf_cons rfl (gf_cons rfl (gf_cons rfl (gf_cons rfl (gf_cons rfl (gf_cons rfl gf_nil)))))))) (ct94 161 sc50 y50_5 y50_7 (Int32.ofInt 0) hIc50 hFc50 (in_w 1 1048576 j50_7 rfl) (in_w 0 160 (in_c 0 rfl) rfl) (m_in 161 (in_w 0 160 (in_c 0 rfl) rfl) rfl)))
      · skip
        have i52 := z_gt 1 65536 c52 j50_8 rfl
        refine g_aload_n 56 (gd rfl) rfl rfl ?_
        refine g_aload_n 57 (gd rfl) rfl rfl ?_
        refine g_getI 60 (gd rfl) rfl rfl rfl (fun z57 e57 => ?_)
        have q57 : u_32_1 = z57 := (fr_F e_32_1 hFc50 rfl).trans e57.symm
        subst q57
        refine g_iload 62 (gd rfl) rfl rfl ?_
        refine g_iload 64 (gd rfl) rfl rfl ?_
        refine g_callv (X := _) (As := [.int u_32_1, .int y50_7, .int y50_8]) (r := []) (b := A 65) (q := 65) 67 (gd rfl) rfl rfl rfl rfl rfl (ww_o rfl) (Nat.le_of_ble_eq_true rfl) (Nat.zero_le _) (Nat.zero_le _) (k_81_65 (by first | exact dq1 hd rfl | exact dq0 hd rfl | exact dq2 hd rfl | exact dq3 hd rfl | omega) hIc50 (in_w 0 32 ro_32_1 rfl) (in_w 1 1048576 j50_7 rfl) (in_w 1 65536 i52 rfl)) (fun e u h => h) (fun v u h => ?_)
        obtain ⟨s64, hI64, hF64, rfl, rfl⟩ := h
        show GG _ _ _ _ _ _ _ _ [] _ _ _
        refine g_aload_n 68 (gd rfl) rfl rfl ?_
        refine g_aload_n 69 (gd rfl) rfl rfl ?_
        refine g_getI 72 (gd rfl) rfl rfl rfl (fun z69 e69 => ?_)
        have q69 : u_32_1 = z69 := (fr_F (fr_F e_32_1 hFc50 rfl) hF64 rfl).trans e69.symm
        subst q69
        refine g_iload 74 (gd rfl) rfl rfl ?_
        refine g_callv (X := _) (As := [.int u_32_1, .int y50_8]) (r := []) (b := A 65) (q := 65) 77 (gd rfl) rfl rfl rfl rfl rfl (ww_o rfl) (Nat.le_of_ble_eq_true rfl) (Nat.zero_le _) (Nat.zero_le _) (k_83_65 (by first | exact dq1 hd rfl | exact dq0 hd rfl | exact dq2 hd rfl | exact dq3 hd rfl | omega) hI64 (in_w 0 32 ro_32_1 rfl) (in_w 1 65536 i52 rfl)) (fun e u h => h) (fun v u h => ?_)
        obtain ⟨s74, hI74, hF74, rfl, rfl⟩ := h
        show GG _ _ _ _ _ _ _ _ [] _ _ _
        refine g_iload 79 (gd rfl) rfl rfl ?_
        refine g_istore 81 (gd rfl) rfl (Nat.le_of_ble_eq_true rfl) ?_
        refine g_iload 83 (gd rfl) rfl rfl ?_
        refine g_bipush 16 85 (gd rfl) rfl rfl ?_
        refine g_idiv 86 (gd rfl) rfl (by decide) (fun z85 e85 => ?_)
        have i85 := in_div 0 4096 e85 i52 rfl rfl
        refine g_istore 88 (gd rfl) rfl (Nat.le_of_ble_eq_true rfl) ?_
        refine g_goto 50 (gd rfl) rfl ?_
        have m50 : (z85).toInt < ((k50 : Nat) : Int) := by (first | have a0 := oa6 h3 h2 ro_32_1 i52 j50_7 i85 | ((first | have a0 := in_u h3 | (have a0 := h3; unfold In at a0)); (first | have a1 := in_u h2 | (have a1 := h2; unfold In at a1)); (first | have a2 := in_u ro_32_1 | (have a2 := ro_32_1; unfold In at a2)); (first | have a3 := in_u i52 | (have a3 := i52; unfold In at a3)); (first | have a4 := in_u j50_7 | (have a4 := j50_7; unfold In at a4)); (first | have a5 := in_u i85 | (have a5 := i85; unfold In at a5)))); have a6 := t_div e85 i52 rfl; (first | have a7 := in_u h4 | (have a7 := h4; unfold In at a7)); omega
        exact gg_w (by first | exact Nat.le_add_right _ _ | exact gw2 | exact gw3 | exact gwe rfl | exact gwf rfl | exact gwg rfl | exact gwh rfl | omega) (gg_f (gf_cons rfl (gf_cons rfl (gf_cons rfl (gf_cons rfl (gf_cons rfl (gf_cons rfl (gf_cons rfl (gf_cons rfl gf_nil)))))))) (ih50  s74 y50_5 y50_8 z85 hI74 (fr_tr rfl (fr_tr rfl hFc50 hF64) hF74) (in_w 1 1048576 i52 rfl) (in_w 0 65536 i85 rfl) m50))
  refine g_enter2 (k := 79) (N := 63145802) (by first | exact dq1 hd rfl | exact dq0 hd rfl | exact dq2 hd rfl | exact dq3 hd rfl | omega) rfl (Nat.le_of_ble_eq_true rfl) ?_
  refine g_iload 2 (gd rfl) rfl rfl ?_
  refine g_i2l 3 (gd rfl) rfl (fun z2 e2 => ?_)
  have i2 := l_i e2 h4
  refine g_aload_n 4 (gd rfl) rfl rfl ?_
  refine g_aload_n 5 (gd rfl) rfl rfl ?_
  refine g_iload_n 6 (gd rfl) rfl rfl ?_
  refine g_iload_n 7 (gd rfl) rfl rfl ?_
  refine g_callv (X := _) (As := [.ref (A 32), .int x2, .int x3]) (r := [.long z2]) (b := A 65) (q := 65) 10 (gd rfl) rfl rfl rfl rfl rfl (ww_o rfl) (Nat.le_of_ble_eq_true rfl) (Nat.zero_le _) (Nat.zero_le _) (k_75_65_32 (by first | exact dq1 hd rfl | exact dq0 hd rfl | exact dq2 hd rfl | exact dq3 hd rfl | omega) hI (in_w 0 31 h2 rfl) (in_w 0 31 h3 rfl)) (fun e u h => h) (fun v u h => ?_)
  obtain ⟨s7, hI7, hF7, z7, rfl, rfl⟩ := h
  show GG _ _ _ _ _ _ _ _ [.long z7, .long z2] _ _ _
  refine g_lcmp 11 (gd rfl) rfl (fun z10 e10 => ?_)
  have i10 := lc_in e10
  refine g_if_le 14 18 (gd rfl) rfl rfl (fun c11 => ?_) (fun c11 => ?_)
  · skip
    have i11 := z_le (-1) 0 c11 i10 rfl
    have c11a := lc_le e10 c11
    have i11a := lr_le2 0 9223372036854775807 c11a i2 (l_rng z7) rfl
    refine g_aload_n 19 (gd rfl) rfl rfl ?_
    refine g_aload_n 20 (gd rfl) rfl rfl ?_
    refine g_callv (X := _) (As := [.ref (A 32)]) (r := []) (b := A 65) (q := 65) 23 (gd rfl) rfl rfl rfl rfl rfl (ww_o rfl) (Nat.le_of_ble_eq_true rfl) (Nat.zero_le _) (Nat.zero_le _) (k_80_65_32 (by first | exact dq1 hd rfl | exact dq0 hd rfl | exact dq2 hd rfl | exact dq3 hd rfl | omega) hI7 ) (fun e u h => h) (fun v u h => ?_)
    obtain ⟨s20, hI20, hF20, z20, rfl, rfl⟩ := h
    show GG _ _ _ _ _ _ _ _ [.long z20] _ _ _
    refine g_lstore 25 (gd rfl) rfl (Nat.le_of_ble_eq_true rfl) ?_
    refine g_aload_n 26 (gd rfl) rfl rfl ?_
    refine g_getA (q2 := 74) 29 (gd rfl) rfl rfl rfl rfl ?_
    refine g_iload_n 30 (gd rfl) rfl rfl ?_
    refine g_iload 32 (gd rfl) rfl rfl ?_
    refine g_iastore 33 (gd rfl) rfl (n := 32) rfl (in_ix h2 rfl) ?_
    have hI32 := inv_sI (q := 74) (j := x2.toNatClampNeg) hI20 rfl (in_w (-2147483648) 2147483647 h4 rfl)
    refine g_aload_n 34 (gd rfl) rfl rfl ?_
    refine g_getA (q2 := 74) 37 (gd rfl) rfl rfl rfl rfl ?_
    refine g_iload_n 38 (gd rfl) rfl rfl ?_
    refine g_iload 40 (gd rfl) rfl rfl ?_
    refine g_ineg 41 (gd rfl) rfl (fun z40 e40 => ?_)
    have i40 := in_neg (-200000000) 0 e40 h4 rfl
    refine g_iastore 42 (gd rfl) rfl (n := 32) rfl (in_ix h3 rfl) ?_
    have hI41 := inv_sI (q := 74) (j := x3.toNatClampNeg) hI32 rfl (in_w (-2147483648) 2147483647 i40 rfl)
    refine g_ldc 1048576 44 (gd rfl) rfl rfl ?_
    refine g_istore 46 (gd rfl) rfl (Nat.le_of_ble_eq_true rfl) ?_
    refine g_ldc 65536 48 (gd rfl) rfl rfl ?_
    refine g_istore 50 (gd rfl) rfl (Nat.le_of_ble_eq_true rfl) ?_
    have m50 : ((Int32.ofInt 65536)).toInt < ((70000 : Nat) : Int) := by (first | have a0 := oa6 ro_32_1 h3 h2 ((in_c 65536 rfl)) ((in_c 1048576 rfl)) h4 | ((first | have a0 := in_u ro_32_1 | (have a0 := ro_32_1; unfold In at a0)); (first | have a1 := in_u h3 | (have a1 := h3; unfold In at a1)); (first | have a2 := in_u h2 | (have a2 := h2; unfold In at a2)); (first | have a3 := in_u ((in_c 65536 rfl)) | (have a3 := (in_c 65536 rfl); unfold In at a3)); (first | have a4 := in_u ((in_c 1048576 rfl)) | (have a4 := (in_c 1048576 rfl); unfold In at a4)); (first | have a5 := in_u h4 | (have a5 := h4; unfold In at a5)))); have a6 := tx_i2l e2; omega
    exact gg_w (by first | exact Nat.le_of_ble_eq_true rfl | omega) (gg_f (gf_cons rfl (gf_cons rfl (gf_cons rfl (gf_cons rfl (gf_cons rfl (gf_cons rfl (gf_cons rfl (gf_cons rfl gf_nil)))))))) (ct50 70000 (sI (sI s20 74 x2.toNatClampNeg x4) 74 x3.toNatClampNeg z40) z20 (Int32.ofInt 1048576) (Int32.ofInt 65536) hI41 (fr_sI rfl (fr_sI rfl (fr_tr rfl (fr_tr rfl fr_rf hF7) hF20))) (in_w 1 1048576 (in_c 1048576 rfl) rfl) (in_w 0 65536 (in_c 65536 rfl) rfl) m50))
  · skip
    have i11 := z_gt 1 1 c11 i10 rfl
    have c11a := lc_gt e10 c11
    have i11a := lr_lt1 (-9223372036854775808) 199999999 c11a (l_rng z7) i2 rfl
    refine g_ldc2_w 9000000000000000 17 (gd rfl) rfl rfl ?_
    exact g_lreturn (gd rfl) rfl (hP _ _ ⟨s7, hI7, (fr_tr rfl fr_rf hF7), (Int64.ofInt 9000000000000000), rfl, rfl⟩)

def fm_240_0 : FM := ([9, 10, 11, 12, 13, 14, 15, 39, 40, 41, 42, 43, 44, 45, 61, 62, 63, 64], [], [(2, 4), (32, 4), (60, 0), (60, 1), (60, 2), (60, 3), (60, 7)], [])
/-- GraphHouse.colour -/
theorem k_240_0 {Z : AmZ} {A : Nat → Nat} {s : GS} {ex : va_W} {d : Nat} {x1 : Int32} (hd : 385 ≤ d) (hI : Inv s)  : GC Z d 240 [.ref (A 0), .int x1] (WW Z A s ++ ex) 3 18 (fun v u => ∃ t : GS, Inv t ∧ Fr fm_240_0 s t ∧ ∃ z : Int32, v = some (.int z) ∧ u = WW Z A t ++ ex ∧ In z 0 31) (gE1 Z A ex fm_240_0 s) := by
  intro post xp hP hX
  obtain ⟨u_0_2, e_0_2⟩ : ∃ w, w = s.2.2.1 0 2 := ⟨_, rfl⟩
  have ro_0_2 := inv_F hI (-1) 4000 rfl e_0_2
  obtain ⟨u_2_0, e_2_0⟩ : ∃ w, w = s.2.2.1 2 0 := ⟨_, rfl⟩
  have ro_2_0 := inv_F hI 0 4000 rfl e_2_0
  obtain ⟨u_2_1, e_2_1⟩ : ∃ w, w = s.2.2.1 2 1 := ⟨_, rfl⟩
  have ro_2_1 := inv_F hI 0 32 rfl e_2_1
  obtain ⟨u_32_0, e_32_0⟩ : ∃ w, w = s.2.2.1 32 0 := ⟨_, rfl⟩
  have ro_32_0 := inv_F hI 0 4000 rfl e_32_0
  obtain ⟨u_32_1, e_32_1⟩ : ∃ w, w = s.2.2.1 32 1 := ⟨_, rfl⟩
  have ro_32_1 := inv_F hI 0 32 rfl e_32_1
  refine g_enter2 (k := 240) (N := 900) (by first | exact dq1 hd rfl | exact dq0 hd rfl | exact dq2 hd rfl | exact dq3 hd rfl | omega) rfl (Nat.le_of_ble_eq_true rfl) ?_
  refine g_aload_n 1 (gd rfl) rfl rfl ?_
  refine g_callv (X := _) (As := []) (r := []) (b := A 0) (q := 0) 4 (gd rfl) rfl rfl rfl rfl rfl (ww_o rfl) (Nat.le_of_ble_eq_true rfl) (mc := 0) (ms := 0) (Nat.zero_le _) (Nat.zero_le _) (P := fun v u => _) ?_ (fun e u h => h) (fun v u h => h)
  intro po1 xx1 hp1 hx1
  refine g_enter2 (k := 259) (N := 300) (by first | exact dq1 hd rfl | exact dq0 hd rfl | exact dq2 hd rfl | exact dq3 hd rfl | omega) rfl (Nat.le_of_ble_eq_true rfl) ?_
  refine g_aload_n 1 (gd rfl) rfl rfl ?_
  refine g_getI 4 (gd rfl) rfl rfl rfl (fun z1x1 e1x1 => ?_)
  have q1x1 : u_0_2 = z1x1 := (e_0_2).trans e1x1.symm
  subst q1x1
  refine g_iconst (-1) 5 (gd rfl) rfl rfl ?_
  refine g_cmp_ne 8 18 (gd rfl) rfl rfl (fun c1x5 => ?_) (fun c1x5 => ?_)
  · skip
    have i1x5 := r_ne1 0 4000 c1x5 ro_0_2 (in_c (-1) rfl) rfl
    refine g_aload_n 19 (gd rfl) rfl rfl ?_
    refine g_getA (q2 := 32) 22 (gd rfl) rfl rfl rfl rfl ?_
    refine g_areturn (gd rfl) rfl (hp1 _ _ ?_)
    show GG _ _ _ _ _ _ _ _ [.ref (A 32)] _ _ _
    refine g_astore_n 5 (gd rfl) rfl (Nat.le_of_ble_eq_true rfl) ?_
    refine g_aload_n 6 (gd rfl) rfl rfl ?_
    refine g_iload_n 7 (gd rfl) rfl rfl ?_
    refine g_callv (X := _) (As := [.int x1]) (r := []) (b := A 32) (q := 32) 10 (gd rfl) rfl rfl rfl rfl rfl (ww_o rfl) (Nat.le_of_ble_eq_true rfl) (mc := 0) (ms := 0) (Nat.zero_le _) (Nat.zero_le _) (P := fun v u => _) ?_ (fun e u h => h) (fun v u h => h)
    intro po7 xx7 hp7 hx7
    refine g_enter2 (k := 94) (N := 300) (by first | exact dq1 hd rfl | exact dq0 hd rfl | exact dq2 hd rfl | exact dq3 hd rfl | omega) rfl (Nat.le_of_ble_eq_true rfl) ?_
    refine g_iload_n 1 (gd rfl) rfl rfl ?_
    refine g_if_lt 4 16 (gd rfl) rfl rfl (fun c7x1 => ?_) (fun c7x1 => ?_)
    · skip
      have i7x1 := z_lt (-2147483648) (-1) c7x1 (i_rng x1) rfl
      refine g_iconst 0 17 (gd rfl) rfl rfl ?_
      refine g_ireturn (gd rfl) rfl (nb01 (in_w 0 1 (in_c 0 rfl) rfl)) (hp7 _ _ ?_)
      show GG _ _ _ _ _ _ _ _ [.int (Int32.ofInt 0)] _ _ _
      refine g_thr (E := am_IA) (y := yX11_allow) 13 (gd rfl) rfl rfl (Or.inl ⟨rfl, rfl, rfl⟩) (by first | exact dq1 hd rfl | exact dq0 hd rfl | exact dq2 hd rfl | exact dq3 hd rfl | omega) (Nat.le_of_ble_eq_true rfl) (Nat.le_of_ble_eq_true rfl) (Nat.le_of_ble_eq_true rfl) (fun c10 => ?_) (fun c10 => ?_)
      · skip
        exact zn_ne c10 (in_c 0 rfl) rfl
      · skip
        exact (hX _ _ ⟨rfl, s, hI, fr_rf, rfl⟩)
    · skip
      have i7x1 := z_ge 0 2147483647 c7x1 (i_rng x1) rfl
      refine g_iload_n 5 (gd rfl) rfl rfl ?_
      refine g_aload_n 6 (gd rfl) rfl rfl ?_
      refine g_getI 9 (gd rfl) rfl rfl rfl (fun z7x6 e7x6 => ?_)
      have q7x6 : u_32_1 = z7x6 := (e_32_1).trans e7x6.symm
      subst q7x6
      refine g_cmp_ge 12 16 (gd rfl) rfl rfl (fun c7x9 => ?_) (fun c7x9 => ?_)
      · skip
        refine g_iconst 0 17 (gd rfl) rfl rfl ?_
        refine g_ireturn (gd rfl) rfl (nb01 (in_w 0 1 (in_c 0 rfl) rfl)) (hp7 _ _ ?_)
        show GG _ _ _ _ _ _ _ _ [.int (Int32.ofInt 0)] _ _ _
        refine g_thr (E := am_IA) (y := yX11_allow) 13 (gd rfl) rfl rfl (Or.inl ⟨rfl, rfl, rfl⟩) (by first | exact dq1 hd rfl | exact dq0 hd rfl | exact dq2 hd rfl | exact dq3 hd rfl | omega) (Nat.le_of_ble_eq_true rfl) (Nat.le_of_ble_eq_true rfl) (Nat.le_of_ble_eq_true rfl) (fun c10 => ?_) (fun c10 => ?_)
        · skip
          exact zn_ne c10 (in_c 0 rfl) rfl
        · skip
          exact (hX _ _ ⟨rfl, s, hI, fr_rf, rfl⟩)
      · skip
        have i7x9 := r_lt1 0 31 c7x9 i7x1 ro_32_1 rfl
        have i7x9a := r_lt2 1 32 c7x9 i7x1 ro_32_1 rfl
        refine g_iconst 1 13 (gd rfl) rfl rfl ?_
        refine g_goto 17 (gd rfl) rfl ?_
        refine g_ireturn (gd rfl) rfl (nb01 (in_w 0 1 (in_c 1 rfl) rfl)) (hp7 _ _ ?_)
        show GG _ _ _ _ _ _ _ _ [.int (Int32.ofInt 1)] _ _ _
        refine g_thr (E := am_IA) (y := yX11_allow) 13 (gd rfl) rfl rfl (Or.inl ⟨rfl, rfl, rfl⟩) (by first | exact dq1 hd rfl | exact dq0 hd rfl | exact dq2 hd rfl | exact dq3 hd rfl | omega) (Nat.le_of_ble_eq_true rfl) (Nat.le_of_ble_eq_true rfl) (Nat.le_of_ble_eq_true rfl) (fun c10 => ?_) (fun c10 => ?_)
        · skip
          refine g_aload_n 14 (gd rfl) rfl rfl ?_
          refine g_getA (q2 := 60) 17 (gd rfl) rfl rfl rfl rfl ?_
          refine g_aload_n 18 (gd rfl) rfl rfl ?_
          refine g_iload_n 19 (gd rfl) rfl rfl ?_
          refine g_callv (X := _) (As := [.ref (A 32), .int x1]) (r := []) (b := A 60) (q := 60) 22 (gd rfl) rfl rfl rfl rfl rfl (ww_o rfl) (Nat.le_of_ble_eq_true rfl) (mc := 0) (ms := 0) (Nat.zero_le _) (Nat.zero_le _) (P := fun v u => _) ?_ (fun e u h => h) (fun v u h => h)
          intro po19 xx19 hp19 hx19
          refine g_enter2 (k := 43) (N := 300) (by first | exact dq1 hd rfl | exact dq0 hd rfl | exact dq2 hd rfl | exact dq3 hd rfl | omega) rfl (Nat.le_of_ble_eq_true rfl) ?_
          refine g_aload_n 1 (gd rfl) rfl rfl ?_
          refine g_getI 4 (gd rfl) rfl rfl rfl (fun z19x1 e19x1 => ?_)
          have i19x1 := inv_F hI (-1) 4000 rfl e19x1
          refine g_aload_n 5 (gd rfl) rfl rfl ?_
          refine g_getI 8 (gd rfl) rfl rfl rfl (fun z19x5 e19x5 => ?_)
          have q19x5 : u_32_0 = z19x5 := (e_32_0).trans e19x5.symm
          subst q19x5
          refine g_cmp_eq 11 24 (gd rfl) rfl rfl (fun c19x8 => ?_) (fun c19x8 => ?_)
          · skip
            have i19x8 := r_eq1 0 4000 c19x8 i19x1 ro_32_0 rfl
            refine g_aload_n 25 (gd rfl) rfl rfl ?_
            refine g_getA (q2 := 64) 28 (gd rfl) rfl rfl rfl rfl ?_
            refine g_iload_n 29 (gd rfl) rfl rfl ?_
            refine g_iaload 30 (gd rfl) rfl (n := 32) rfl (in_ix i7x9 rfl) (fun z19x29 e19x29 => ?_)
            have i19x29 := inv_I hI (n := 32) (t := 0) 0 31 rfl (in_ix i7x9 rfl) rfl e19x29
            refine g_ireturn (gd rfl) rfl rfl (hp19 _ _ ?_)
            show GG _ _ _ _ _ _ _ _ [.int z19x29] _ _ _
            exact g_ireturn (gd rfl) rfl rfl (hP _ _ ⟨s, hI, fr_rf, z19x29, rfl, rfl, in_w 0 31 i19x29 rfl⟩)
          · skip
            refine g_aload_n 12 (gd rfl) rfl rfl ?_
            refine g_aload_n 13 (gd rfl) rfl rfl ?_
            refine g_getI 16 (gd rfl) rfl rfl rfl (fun z19x13 e19x13 => ?_)
            have q19x13 : u_32_0 = z19x13 := (e_32_0).trans e19x13.symm
            subst q19x13
            refine g_putI 19 (gd rfl) rfl rfl rfl rfl ?_
            have hI19x16 := inv_sF (q := 60) (j := 2) hI rfl (in_w (-1) 4000 ro_32_0 rfl)
            refine g_aload_n 20 (gd rfl) rfl rfl ?_
            refine g_aload_n 21 (gd rfl) rfl rfl ?_
            refine g_callv (X := _) (As := [.ref (A 32)]) (r := []) (b := A 60) (q := 60) 24 (gd rfl) rfl rfl rfl rfl rfl (ww_o rfl) (Nat.le_of_ble_eq_true rfl) (Nat.zero_le _) (Nat.zero_le _) (k_44_60_32 (by first | exact dq1 hd rfl | exact dq0 hd rfl | exact dq2 hd rfl | exact dq3 hd rfl | omega) hI19x16 ) (fun e u h => h) (fun v u h => ?_)
            obtain ⟨s19x21, hI19x21, hF19x21, rfl, rfl⟩ := h
            show GG _ _ _ _ _ _ _ _ [] _ _ _
            refine g_aload_n 25 (gd rfl) rfl rfl ?_
            refine g_getA (q2 := 64) 28 (gd rfl) rfl rfl rfl rfl ?_
            refine g_iload_n 29 (gd rfl) rfl rfl ?_
            refine g_iaload 30 (gd rfl) rfl (n := 32) rfl (in_ix i7x9 rfl) (fun z19x29 e19x29 => ?_)
            have i19x29 := inv_I hI19x21 (n := 32) (t := 0) 0 31 rfl (in_ix i7x9 rfl) rfl e19x29
            refine g_ireturn (gd rfl) rfl rfl (hp19 _ _ ?_)
            show GG _ _ _ _ _ _ _ _ [.int z19x29] _ _ _
            exact g_ireturn (gd rfl) rfl rfl (hP _ _ ⟨s19x21, hI19x21, (fr_tr rfl (fr_sF rfl fr_rf) hF19x21), z19x29, rfl, rfl, in_w 0 31 i19x29 rfl⟩)
        · skip
          exact zn_eq c10 (in_c 1 rfl) rfl
  · skip
    have i1x5 := r_eq1 (-1) (-1) c1x5 ro_0_2 (in_c (-1) rfl) rfl
    refine g_aload_n 9 (gd rfl) rfl rfl ?_
    refine g_getA (q2 := 1) 12 (gd rfl) rfl rfl rfl rfl ?_
    refine g_getA (q2 := 2) 15 (gd rfl) rfl rfl rfl rfl ?_
    refine g_goto 22 (gd rfl) rfl ?_
    refine g_areturn (gd rfl) rfl (hp1 _ _ ?_)
    show GG _ _ _ _ _ _ _ _ [.ref (A 2)] _ _ _
    refine g_astore_n 5 (gd rfl) rfl (Nat.le_of_ble_eq_true rfl) ?_
    refine g_aload_n 6 (gd rfl) rfl rfl ?_
    refine g_iload_n 7 (gd rfl) rfl rfl ?_
    refine g_callv (X := _) (As := [.int x1]) (r := []) (b := A 2) (q := 2) 10 (gd rfl) rfl rfl rfl rfl rfl (ww_o rfl) (Nat.le_of_ble_eq_true rfl) (mc := 0) (ms := 0) (Nat.zero_le _) (Nat.zero_le _) (P := fun v u => _) ?_ (fun e u h => h) (fun v u h => h)
    intro po7 xx7 hp7 hx7
    refine g_enter2 (k := 94) (N := 300) (by first | exact dq1 hd rfl | exact dq0 hd rfl | exact dq2 hd rfl | exact dq3 hd rfl | omega) rfl (Nat.le_of_ble_eq_true rfl) ?_
    refine g_iload_n 1 (gd rfl) rfl rfl ?_
    refine g_if_lt 4 16 (gd rfl) rfl rfl (fun c7x1 => ?_) (fun c7x1 => ?_)
    · skip
      have i7x1 := z_lt (-2147483648) (-1) c7x1 (i_rng x1) rfl
      refine g_iconst 0 17 (gd rfl) rfl rfl ?_
      refine g_ireturn (gd rfl) rfl (nb01 (in_w 0 1 (in_c 0 rfl) rfl)) (hp7 _ _ ?_)
      show GG _ _ _ _ _ _ _ _ [.int (Int32.ofInt 0)] _ _ _
      refine g_thr (E := am_IA) (y := yX11_allow) 13 (gd rfl) rfl rfl (Or.inl ⟨rfl, rfl, rfl⟩) (by first | exact dq1 hd rfl | exact dq0 hd rfl | exact dq2 hd rfl | exact dq3 hd rfl | omega) (Nat.le_of_ble_eq_true rfl) (Nat.le_of_ble_eq_true rfl) (Nat.le_of_ble_eq_true rfl) (fun c10 => ?_) (fun c10 => ?_)
      · skip
        exact zn_ne c10 (in_c 0 rfl) rfl
      · skip
        exact (hX _ _ ⟨rfl, s, hI, fr_rf, rfl⟩)
    · skip
      have i7x1 := z_ge 0 2147483647 c7x1 (i_rng x1) rfl
      refine g_iload_n 5 (gd rfl) rfl rfl ?_
      refine g_aload_n 6 (gd rfl) rfl rfl ?_
      refine g_getI 9 (gd rfl) rfl rfl rfl (fun z7x6 e7x6 => ?_)
      have q7x6 : u_2_1 = z7x6 := (e_2_1).trans e7x6.symm
      subst q7x6
      refine g_cmp_ge 12 16 (gd rfl) rfl rfl (fun c7x9 => ?_) (fun c7x9 => ?_)
      · skip
        refine g_iconst 0 17 (gd rfl) rfl rfl ?_
        refine g_ireturn (gd rfl) rfl (nb01 (in_w 0 1 (in_c 0 rfl) rfl)) (hp7 _ _ ?_)
        show GG _ _ _ _ _ _ _ _ [.int (Int32.ofInt 0)] _ _ _
        refine g_thr (E := am_IA) (y := yX11_allow) 13 (gd rfl) rfl rfl (Or.inl ⟨rfl, rfl, rfl⟩) (by first | exact dq1 hd rfl | exact dq0 hd rfl | exact dq2 hd rfl | exact dq3 hd rfl | omega) (Nat.le_of_ble_eq_true rfl) (Nat.le_of_ble_eq_true rfl) (Nat.le_of_ble_eq_true rfl) (fun c10 => ?_) (fun c10 => ?_)
        · skip
          exact zn_ne c10 (in_c 0 rfl) rfl
        · skip
          exact (hX _ _ ⟨rfl, s, hI, fr_rf, rfl⟩)
      · skip
        have i7x9 := r_lt1 0 31 c7x9 i7x1 ro_2_1 rfl
        have i7x9a := r_lt2 1 32 c7x9 i7x1 ro_2_1 rfl
        refine g_iconst 1 13 (gd rfl) rfl rfl ?_
        refine g_goto 17 (gd rfl) rfl ?_
        refine g_ireturn (gd rfl) rfl (nb01 (in_w 0 1 (in_c 1 rfl) rfl)) (hp7 _ _ ?_)
        show GG _ _ _ _ _ _ _ _ [.int (Int32.ofInt 1)] _ _ _
        refine g_thr (E := am_IA) (y := yX11_allow) 13 (gd rfl) rfl rfl (Or.inl ⟨rfl, rfl, rfl⟩) (by first | exact dq1 hd rfl | exact dq0 hd rfl | exact dq2 hd rfl | exact dq3 hd rfl | omega) (Nat.le_of_ble_eq_true rfl) (Nat.le_of_ble_eq_true rfl) (Nat.le_of_ble_eq_true rfl) (fun c10 => ?_) (fun c10 => ?_)
        · skip
          refine g_aload_n 14 (gd rfl) rfl rfl ?_
          refine g_getA (q2 := 60) 17 (gd rfl) rfl rfl rfl rfl ?_
          refine g_aload_n 18 (gd rfl) rfl rfl ?_
          refine g_iload_n 19 (gd rfl) rfl rfl ?_
          refine g_callv (X := _) (As := [.ref (A 2), .int x1]) (r := []) (b := A 60) (q := 60) 22 (gd rfl) rfl rfl rfl rfl rfl (ww_o rfl) (Nat.le_of_ble_eq_true rfl) (mc := 0) (ms := 0) (Nat.zero_le _) (Nat.zero_le _) (P := fun v u => _) ?_ (fun e u h => h) (fun v u h => h)
          intro po19 xx19 hp19 hx19
          refine g_enter2 (k := 43) (N := 300) (by first | exact dq1 hd rfl | exact dq0 hd rfl | exact dq2 hd rfl | exact dq3 hd rfl | omega) rfl (Nat.le_of_ble_eq_true rfl) ?_
          refine g_aload_n 1 (gd rfl) rfl rfl ?_
          refine g_getI 4 (gd rfl) rfl rfl rfl (fun z19x1 e19x1 => ?_)
          have i19x1 := inv_F hI (-1) 4000 rfl e19x1
          refine g_aload_n 5 (gd rfl) rfl rfl ?_
          refine g_getI 8 (gd rfl) rfl rfl rfl (fun z19x5 e19x5 => ?_)
          have q19x5 : u_2_0 = z19x5 := (e_2_0).trans e19x5.symm
          subst q19x5
          refine g_cmp_eq 11 24 (gd rfl) rfl rfl (fun c19x8 => ?_) (fun c19x8 => ?_)
          · skip
            have i19x8 := r_eq1 0 4000 c19x8 i19x1 ro_2_0 rfl
            refine g_aload_n 25 (gd rfl) rfl rfl ?_
            refine g_getA (q2 := 64) 28 (gd rfl) rfl rfl rfl rfl ?_
            refine g_iload_n 29 (gd rfl) rfl rfl ?_
            refine g_iaload 30 (gd rfl) rfl (n := 32) rfl (in_ix i7x9 rfl) (fun z19x29 e19x29 => ?_)
            have i19x29 := inv_I hI (n := 32) (t := 0) 0 31 rfl (in_ix i7x9 rfl) rfl e19x29
            refine g_ireturn (gd rfl) rfl rfl (hp19 _ _ ?_)
            show GG _ _ _ _ _ _ _ _ [.int z19x29] _ _ _
            exact g_ireturn (gd rfl) rfl rfl (hP _ _ ⟨s, hI, fr_rf, z19x29, rfl, rfl, in_w 0 31 i19x29 rfl⟩)
          · skip
            refine g_aload_n 12 (gd rfl) rfl rfl ?_
            refine g_aload_n 13 (gd rfl) rfl rfl ?_
            refine g_getI 16 (gd rfl) rfl rfl rfl (fun z19x13 e19x13 => ?_)
            have q19x13 : u_2_0 = z19x13 := (e_2_0).trans e19x13.symm
            subst q19x13
            refine g_putI 19 (gd rfl) rfl rfl rfl rfl ?_
            have hI19x16 := inv_sF (q := 60) (j := 2) hI rfl (in_w (-1) 4000 ro_2_0 rfl)
            refine g_aload_n 20 (gd rfl) rfl rfl ?_
            refine g_aload_n 21 (gd rfl) rfl rfl ?_
            refine g_callv (X := _) (As := [.ref (A 2)]) (r := []) (b := A 60) (q := 60) 24 (gd rfl) rfl rfl rfl rfl rfl (ww_o rfl) (Nat.le_of_ble_eq_true rfl) (Nat.zero_le _) (Nat.zero_le _) (k_44_60_2 (by first | exact dq1 hd rfl | exact dq0 hd rfl | exact dq2 hd rfl | exact dq3 hd rfl | omega) hI19x16 ) (fun e u h => h) (fun v u h => ?_)
            obtain ⟨s19x21, hI19x21, hF19x21, rfl, rfl⟩ := h
            show GG _ _ _ _ _ _ _ _ [] _ _ _
            refine g_aload_n 25 (gd rfl) rfl rfl ?_
            refine g_getA (q2 := 64) 28 (gd rfl) rfl rfl rfl rfl ?_
            refine g_iload_n 29 (gd rfl) rfl rfl ?_
            refine g_iaload 30 (gd rfl) rfl (n := 32) rfl (in_ix i7x9 rfl) (fun z19x29 e19x29 => ?_)
            have i19x29 := inv_I hI19x21 (n := 32) (t := 0) 0 31 rfl (in_ix i7x9 rfl) rfl e19x29
            refine g_ireturn (gd rfl) rfl rfl (hp19 _ _ ?_)
            show GG _ _ _ _ _ _ _ _ [.int z19x29] _ _ _
            exact g_ireturn (gd rfl) rfl rfl (hP _ _ ⟨s19x21, hI19x21, (fr_tr rfl (fr_sF rfl fr_rf) hF19x21), z19x29, rfl, rfl, in_w 0 31 i19x29 rfl⟩)
        · skip
          exact zn_eq c10 (in_c 1 rfl) rfl

def fm_243_0 : FM := ([66, 67, 68, 69, 70, 71, 72, 73, 74], [75], [(65, 0), (65, 1), (65, 2), (65, 4), (65, 8)], [(65, 3)])
/-- GraphHouse.cost -/
theorem k_243_0 {Z : AmZ} {A : Nat → Nat} {s : GS} {ex : va_W} {d : Nat} {x1 : Int32} {x2 : Int32} {x3 : Int32} (hd : 7 ≤ d) (hI : Inv s)  : GC Z d 243 [.ref (A 0), .int x1, .int x2, .int x3] (WW Z A s ++ ex) 3 18 (fun v u => ∃ t : GS, Inv t ∧ Fr fm_243_0 s t ∧ ∃ z : Int64, v = some (.long z) ∧ u = WW Z A t ++ ex) (gE1 Z A ex fm_243_0 s) := by
  intro post xp hP hX
  obtain ⟨u_0_2, e_0_2⟩ : ∃ w, w = s.2.2.1 0 2 := ⟨_, rfl⟩
  have ro_0_2 := inv_F hI (-1) 4000 rfl e_0_2
  obtain ⟨u_2_1, e_2_1⟩ : ∃ w, w = s.2.2.1 2 1 := ⟨_, rfl⟩
  have ro_2_1 := inv_F hI 0 32 rfl e_2_1
  obtain ⟨u_32_1, e_32_1⟩ : ∃ w, w = s.2.2.1 32 1 := ⟨_, rfl⟩
  have ro_32_1 := inv_F hI 0 32 rfl e_32_1
  have ct31 : ∀ (sc31 : GS) , Inv sc31 → Fr fm_243_0 s sc31 → GG Z (d - 1) 243 post (gx xp) (901) 31 (fun j => xlook j [(0, .ref (A 0)), (1, .int x1), (2, .int x2), (3, .int x3)]) [] (WW Z A sc31 ++ ex) 3 18 := by
    intro sc31  hIc31 hFc31 
    refine g_iconst 0 32 (gd rfl) rfl rfl ?_
    refine g_thr (E := am_IA) (y := yX11_allow) 35 (gd rfl) rfl rfl (Or.inl ⟨rfl, rfl, rfl⟩) (by first | exact dq1 hd rfl | exact dq0 hd rfl | exact dq2 hd rfl | exact dq3 hd rfl | omega) (Nat.le_of_ble_eq_true rfl) (Nat.le_of_ble_eq_true rfl) (Nat.le_of_ble_eq_true rfl) (fun c32 => ?_) (fun c32 => ?_)
    · skip
      exact zn_ne c32 (in_c 0 rfl) rfl
    · skip
      exact (hX _ _ ⟨rfl, sc31, hIc31, hFc31, rfl⟩)
  refine g_enter2 (k := 243) (N := 1801) (by first | exact dq1 hd rfl | exact dq0 hd rfl | exact dq2 hd rfl | exact dq3 hd rfl | omega) rfl (Nat.le_of_ble_eq_true rfl) ?_
  refine g_aload_n 1 (gd rfl) rfl rfl ?_
  refine g_callv (X := _) (As := []) (r := []) (b := A 0) (q := 0) 4 (gd rfl) rfl rfl rfl rfl rfl (ww_o rfl) (Nat.le_of_ble_eq_true rfl) (mc := 0) (ms := 0) (Nat.zero_le _) (Nat.zero_le _) (P := fun v u => _) ?_ (fun e u h => h) (fun v u h => h)
  intro po1 xx1 hp1 hx1
  refine g_enter2 (k := 259) (N := 300) (by first | exact dq1 hd rfl | exact dq0 hd rfl | exact dq2 hd rfl | exact dq3 hd rfl | omega) rfl (Nat.le_of_ble_eq_true rfl) ?_
  refine g_aload_n 1 (gd rfl) rfl rfl ?_
  refine g_getI 4 (gd rfl) rfl rfl rfl (fun z1x1 e1x1 => ?_)
  have q1x1 : u_0_2 = z1x1 := (e_0_2).trans e1x1.symm
  subst q1x1
  refine g_iconst (-1) 5 (gd rfl) rfl rfl ?_
  refine g_cmp_ne 8 18 (gd rfl) rfl rfl (fun c1x5 => ?_) (fun c1x5 => ?_)
  · skip
    have i1x5 := r_ne1 0 4000 c1x5 ro_0_2 (in_c (-1) rfl) rfl
    refine g_aload_n 19 (gd rfl) rfl rfl ?_
    refine g_getA (q2 := 32) 22 (gd rfl) rfl rfl rfl rfl ?_
    refine g_areturn (gd rfl) rfl (hp1 _ _ ?_)
    show GG _ _ _ _ _ _ _ _ [.ref (A 32)] _ _ _
    refine g_astore 6 (gd rfl) rfl (Nat.le_of_ble_eq_true rfl) ?_
    refine g_aload 8 (gd rfl) rfl rfl ?_
    refine g_iload_n 9 (gd rfl) rfl rfl ?_
    refine g_iload_n 10 (gd rfl) rfl rfl ?_
    refine g_callv (X := _) (As := [.int x1, .int x2]) (r := []) (b := A 32) (q := 32) 13 (gd rfl) rfl rfl rfl rfl rfl (ww_o rfl) (Nat.le_of_ble_eq_true rfl) (mc := 0) (ms := 0) (Nat.zero_le _) (Nat.zero_le _) (P := fun v u => _) ?_ (fun e u h => h) (fun v u h => h)
    intro po10 xx10 hp10 hx10
    refine g_enter2 (k := 95) (N := 300) (by first | exact dq1 hd rfl | exact dq0 hd rfl | exact dq2 hd rfl | exact dq3 hd rfl | omega) rfl (Nat.le_of_ble_eq_true rfl) ?_
    refine g_aload_n 1 (gd rfl) rfl rfl ?_
    refine g_iload_n 2 (gd rfl) rfl rfl ?_
    refine g_callv (X := _) (As := [.int x1]) (r := []) (b := A 32) (q := 32) 5 (gd rfl) rfl rfl rfl rfl rfl (ww_o rfl) (Nat.le_of_ble_eq_true rfl) (mc := 0) (ms := 0) (Nat.zero_le _) (Nat.zero_le _) (P := fun v u => _) ?_ (fun e u h => h) (fun v u h => h)
    intro po10x2 xx10x2 hp10x2 hx10x2
    refine g_enter2 (k := 94) (N := 300) (by first | exact dq1 hd rfl | exact dq0 hd rfl | exact dq2 hd rfl | exact dq3 hd rfl | omega) rfl (Nat.le_of_ble_eq_true rfl) ?_
    refine g_iload_n 1 (gd rfl) rfl rfl ?_
    refine g_if_lt 4 16 (gd rfl) rfl rfl (fun c10x2x1 => ?_) (fun c10x2x1 => ?_)
    · skip
      have i10x2x1 := z_lt (-2147483648) (-1) c10x2x1 (i_rng x1) rfl
      refine g_iconst 0 17 (gd rfl) rfl rfl ?_
      refine g_ireturn (gd rfl) rfl (nb01 (in_w 0 1 (in_c 0 rfl) rfl)) (hp10x2 _ _ ?_)
      show GG _ _ _ _ _ _ _ _ [.int (Int32.ofInt 0)] _ _ _
      refine g_if_eq 8 25 (gd rfl) rfl rfl (fun c10x5 => ?_) (fun c10x5 => ?_)
      · skip
        refine g_iconst 0 26 (gd rfl) rfl rfl ?_
        refine g_ireturn (gd rfl) rfl (nb01 (in_w 0 1 (in_c 0 rfl) rfl)) (hp10 _ _ ?_)
        show GG _ _ _ _ _ _ _ _ [.int (Int32.ofInt 0)] _ _ _
        refine g_if_eq 16 31 (gd rfl) rfl rfl (fun c13 => ?_) (fun c13 => ?_)
        · skip
          exact gg_w (by first | exact Nat.le_of_ble_eq_true rfl | omega) (gg_f (gf_cons rfl (gf_cons rfl (gf_cons rfl (gf_cons rfl gf_nil)))) (ct31 s  hI fr_rf ))
        · skip
          exact zn_ne c13 (in_c 0 rfl) rfl
      · skip
        exact zn_ne c10x5 (in_c 0 rfl) rfl
    · skip
      have i10x2x1 := z_ge 0 2147483647 c10x2x1 (i_rng x1) rfl
      refine g_iload_n 5 (gd rfl) rfl rfl ?_
      refine g_aload_n 6 (gd rfl) rfl rfl ?_
      refine g_getI 9 (gd rfl) rfl rfl rfl (fun z10x2x6 e10x2x6 => ?_)
      have q10x2x6 : u_32_1 = z10x2x6 := (e_32_1).trans e10x2x6.symm
      subst q10x2x6
      refine g_cmp_ge 12 16 (gd rfl) rfl rfl (fun c10x2x9 => ?_) (fun c10x2x9 => ?_)
      · skip
        refine g_iconst 0 17 (gd rfl) rfl rfl ?_
        refine g_ireturn (gd rfl) rfl (nb01 (in_w 0 1 (in_c 0 rfl) rfl)) (hp10x2 _ _ ?_)
        show GG _ _ _ _ _ _ _ _ [.int (Int32.ofInt 0)] _ _ _
        refine g_if_eq 8 25 (gd rfl) rfl rfl (fun c10x5 => ?_) (fun c10x5 => ?_)
        · skip
          refine g_iconst 0 26 (gd rfl) rfl rfl ?_
          refine g_ireturn (gd rfl) rfl (nb01 (in_w 0 1 (in_c 0 rfl) rfl)) (hp10 _ _ ?_)
          show GG _ _ _ _ _ _ _ _ [.int (Int32.ofInt 0)] _ _ _
          refine g_if_eq 16 31 (gd rfl) rfl rfl (fun c13 => ?_) (fun c13 => ?_)
          · skip
            exact gg_w (by first | exact Nat.le_of_ble_eq_true rfl | omega) (gg_f (gf_cons rfl (gf_cons rfl (gf_cons rfl (gf_cons rfl gf_nil)))) (ct31 s  hI fr_rf ))
          · skip
            exact zn_ne c13 (in_c 0 rfl) rfl
        · skip
          exact zn_ne c10x5 (in_c 0 rfl) rfl
      · skip
        have i10x2x9 := r_lt1 0 31 c10x2x9 i10x2x1 ro_32_1 rfl
        have i10x2x9a := r_lt2 1 32 c10x2x9 i10x2x1 ro_32_1 rfl
        refine g_iconst 1 13 (gd rfl) rfl rfl ?_
        refine g_goto 17 (gd rfl) rfl ?_
        refine g_ireturn (gd rfl) rfl (nb01 (in_w 0 1 (in_c 1 rfl) rfl)) (hp10x2 _ _ ?_)
        show GG _ _ _ _ _ _ _ _ [.int (Int32.ofInt 1)] _ _ _
        refine g_if_eq 8 25 (gd rfl) rfl rfl (fun c10x5 => ?_) (fun c10x5 => ?_)
        · skip
          exact zn_eq c10x5 (in_c 1 rfl) rfl
        · skip
          refine g_aload_n 9 (gd rfl) rfl rfl ?_
          refine g_iload_n 10 (gd rfl) rfl rfl ?_
          refine g_callv (X := _) (As := [.int x2]) (r := []) (b := A 32) (q := 32) 13 (gd rfl) rfl rfl rfl rfl rfl (ww_o rfl) (Nat.le_of_ble_eq_true rfl) (mc := 0) (ms := 0) (Nat.zero_le _) (Nat.zero_le _) (P := fun v u => _) ?_ (fun e u h => h) (fun v u h => h)
          intro po10x10 xx10x10 hp10x10 hx10x10
          refine g_enter2 (k := 94) (N := 300) (by first | exact dq1 hd rfl | exact dq0 hd rfl | exact dq2 hd rfl | exact dq3 hd rfl | omega) rfl (Nat.le_of_ble_eq_true rfl) ?_
          refine g_iload_n 1 (gd rfl) rfl rfl ?_
          refine g_if_lt 4 16 (gd rfl) rfl rfl (fun c10x10x1 => ?_) (fun c10x10x1 => ?_)
          · skip
            have i10x10x1 := z_lt (-2147483648) (-1) c10x10x1 (i_rng x2) rfl
            refine g_iconst 0 17 (gd rfl) rfl rfl ?_
            refine g_ireturn (gd rfl) rfl (nb01 (in_w 0 1 (in_c 0 rfl) rfl)) (hp10x10 _ _ ?_)
            show GG _ _ _ _ _ _ _ _ [.int (Int32.ofInt 0)] _ _ _
            refine g_if_eq 16 25 (gd rfl) rfl rfl (fun c10x13 => ?_) (fun c10x13 => ?_)
            · skip
              refine g_iconst 0 26 (gd rfl) rfl rfl ?_
              refine g_ireturn (gd rfl) rfl (nb01 (in_w 0 1 (in_c 0 rfl) rfl)) (hp10 _ _ ?_)
              show GG _ _ _ _ _ _ _ _ [.int (Int32.ofInt 0)] _ _ _
              refine g_if_eq 16 31 (gd rfl) rfl rfl (fun c13 => ?_) (fun c13 => ?_)
              · skip
                exact gg_w (by first | exact Nat.le_of_ble_eq_true rfl | omega) (gg_f (gf_cons rfl (gf_cons rfl (gf_cons rfl (gf_cons rfl gf_nil)))) (ct31 s  hI fr_rf ))
              · skip
                exact zn_ne c13 (in_c 0 rfl) rfl
            · skip
              exact zn_ne c10x13 (in_c 0 rfl) rfl
          · skip
            have i10x10x1 := z_ge 0 2147483647 c10x10x1 (i_rng x2) rfl
            refine g_iload_n 5 (gd rfl) rfl rfl ?_
            refine g_aload_n 6 (gd rfl) rfl rfl ?_
            refine g_getI 9 (gd rfl) rfl rfl rfl (fun z10x10x6 e10x10x6 => ?_)
            have q10x10x6 : u_32_1 = z10x10x6 := (e_32_1).trans e10x10x6.symm
            subst q10x10x6
            refine g_cmp_ge 12 16 (gd rfl) rfl rfl (fun c10x10x9 => ?_) (fun c10x10x9 => ?_)
            · skip
              have i10x10x9 := r_le2 1 2147483647 c10x10x9 i10x2x9a i10x10x1 rfl
              refine g_iconst 0 17 (gd rfl) rfl rfl ?_
              refine g_ireturn (gd rfl) rfl (nb01 (in_w 0 1 (in_c 0 rfl) rfl)) (hp10x10 _ _ ?_)
              show GG _ _ _ _ _ _ _ _ [.int (Int32.ofInt 0)] _ _ _
              refine g_if_eq 16 25 (gd rfl) rfl rfl (fun c10x13 => ?_) (fun c10x13 => ?_)
              · skip
                refine g_iconst 0 26 (gd rfl) rfl rfl ?_
                refine g_ireturn (gd rfl) rfl (nb01 (in_w 0 1 (in_c 0 rfl) rfl)) (hp10 _ _ ?_)
                show GG _ _ _ _ _ _ _ _ [.int (Int32.ofInt 0)] _ _ _
                refine g_if_eq 16 31 (gd rfl) rfl rfl (fun c13 => ?_) (fun c13 => ?_)
                · skip
                  exact gg_w (by first | exact Nat.le_of_ble_eq_true rfl | omega) (gg_f (gf_cons rfl (gf_cons rfl (gf_cons rfl (gf_cons rfl gf_nil)))) (ct31 s  hI fr_rf ))
                · skip
                  exact zn_ne c13 (in_c 0 rfl) rfl
              · skip
                exact zn_ne c10x13 (in_c 0 rfl) rfl
            · skip
              have i10x10x9 := r_lt1 0 31 c10x10x9 i10x10x1 i10x2x9a rfl
              refine g_iconst 1 13 (gd rfl) rfl rfl ?_
              refine g_goto 17 (gd rfl) rfl ?_
              refine g_ireturn (gd rfl) rfl (nb01 (in_w 0 1 (in_c 1 rfl) rfl)) (hp10x10 _ _ ?_)
              show GG _ _ _ _ _ _ _ _ [.int (Int32.ofInt 1)] _ _ _
              refine g_if_eq 16 25 (gd rfl) rfl rfl (fun c10x13 => ?_) (fun c10x13 => ?_)
              · skip
                exact zn_eq c10x13 (in_c 1 rfl) rfl
              · skip
                refine g_iload_n 17 (gd rfl) rfl rfl ?_
                refine g_iload_n 18 (gd rfl) rfl rfl ?_
                refine g_cmp_eq 21 25 (gd rfl) rfl rfl (fun c10x18 => ?_) (fun c10x18 => ?_)
                · skip
                  refine g_iconst 0 26 (gd rfl) rfl rfl ?_
                  refine g_ireturn (gd rfl) rfl (nb01 (in_w 0 1 (in_c 0 rfl) rfl)) (hp10 _ _ ?_)
                  show GG _ _ _ _ _ _ _ _ [.int (Int32.ofInt 0)] _ _ _
                  refine g_if_eq 16 31 (gd rfl) rfl rfl (fun c13 => ?_) (fun c13 => ?_)
                  · skip
                    exact gg_w (by first | exact Nat.le_of_ble_eq_true rfl | omega) (gg_f (gf_cons rfl (gf_cons rfl (gf_cons rfl (gf_cons rfl gf_nil)))) (ct31 s  hI fr_rf ))
                  · skip
                    exact zn_ne c13 (in_c 0 rfl) rfl
                · skip
                  refine g_iconst 1 22 (gd rfl) rfl rfl ?_
                  refine g_goto 26 (gd rfl) rfl ?_
                  refine g_ireturn (gd rfl) rfl (nb01 (in_w 0 1 (in_c 1 rfl) rfl)) (hp10 _ _ ?_)
                  show GG _ _ _ _ _ _ _ _ [.int (Int32.ofInt 1)] _ _ _
                  refine g_if_eq 16 31 (gd rfl) rfl rfl (fun c13 => ?_) (fun c13 => ?_)
                  · skip
                    exact zn_eq c13 (in_c 1 rfl) rfl
                  · skip
                    refine g_iload_n 17 (gd rfl) rfl rfl ?_
                    refine g_if_lt 20 31 (gd rfl) rfl rfl (fun c17 => ?_) (fun c17 => ?_)
                    · skip
                      have i17 := z_lt (-2147483648) (-1) c17 (i_rng x3) rfl
                      exact gg_w (by first | exact Nat.le_of_ble_eq_true rfl | omega) (gg_f (gf_cons rfl (gf_cons rfl (gf_cons rfl (gf_cons rfl gf_nil)))) (ct31 s  hI fr_rf ))
                    · skip
                      have i17 := z_ge 0 2147483647 c17 (i_rng x3) rfl
                      refine g_iload_n 21 (gd rfl) rfl rfl ?_
                      refine g_ldc_w 200000000 24 (gd rfl) rfl rfl ?_
                      refine g_cmp_gt 27 31 (gd rfl) rfl rfl (fun c24 => ?_) (fun c24 => ?_)
                      · skip
                        have i24 := r_lt2 200000001 2147483647 c24 (in_c 200000000 rfl) i17 rfl
                        exact gg_w (by first | exact Nat.le_of_ble_eq_true rfl | omega) (gg_f (gf_cons rfl (gf_cons rfl (gf_cons rfl (gf_cons rfl gf_nil)))) (ct31 s  hI fr_rf ))
                      · skip
                        have i24 := r_le1 0 200000000 c24 i17 (in_c 200000000 rfl) rfl
                        refine g_iconst 1 28 (gd rfl) rfl rfl ?_
                        refine g_goto 32 (gd rfl) rfl ?_
                        refine g_thr (E := am_IA) (y := yX11_allow) 35 (gd rfl) rfl rfl (Or.inl ⟨rfl, rfl, rfl⟩) (by first | exact dq1 hd rfl | exact dq0 hd rfl | exact dq2 hd rfl | exact dq3 hd rfl | omega) (Nat.le_of_ble_eq_true rfl) (Nat.le_of_ble_eq_true rfl) (Nat.le_of_ble_eq_true rfl) (fun c32 => ?_) (fun c32 => ?_)
                        · skip
                          refine g_aload_n 36 (gd rfl) rfl rfl ?_
                          refine g_getA (q2 := 65) 39 (gd rfl) rfl rfl rfl rfl ?_
                          refine g_aload 41 (gd rfl) rfl rfl ?_
                          refine g_iload_n 42 (gd rfl) rfl rfl ?_
                          refine g_iload_n 43 (gd rfl) rfl rfl ?_
                          refine g_iload_n 44 (gd rfl) rfl rfl ?_
                          refine g_callv (X := _) (As := [.ref (A 32), .int x1, .int x2, .int x3]) (r := []) (b := A 65) (q := 65) 47 (gd rfl) rfl rfl rfl rfl rfl (ww_o rfl) (Nat.le_of_ble_eq_true rfl) (Nat.zero_le _) (Nat.zero_le _) (k_79_65_32 (by first | exact dq1 hd rfl | exact dq0 hd rfl | exact dq2 hd rfl | exact dq3 hd rfl | omega) hI (in_w 0 31 i10x2x9 rfl) (in_w 0 31 i10x10x9 rfl) (in_w 0 200000000 i24 rfl)) (fun e u h => h) (fun v u h => ?_)
                          obtain ⟨s44, hI44, hF44, z44, rfl, rfl⟩ := h
                          show GG _ _ _ _ _ _ _ _ [.long z44] _ _ _
                          exact g_lreturn (gd rfl) rfl (hP _ _ ⟨s44, hI44, (fr_tr rfl fr_rf hF44), z44, rfl, rfl⟩)
                        · skip
                          exact zn_eq c32 (in_c 1 rfl) rfl
  · skip
    have i1x5 := r_eq1 (-1) (-1) c1x5 ro_0_2 (in_c (-1) rfl) rfl
    refine g_aload_n 9 (gd rfl) rfl rfl ?_
    refine g_getA (q2 := 1) 12 (gd rfl) rfl rfl rfl rfl ?_
    refine g_getA (q2 := 2) 15 (gd rfl) rfl rfl rfl rfl ?_
    refine g_goto 22 (gd rfl) rfl ?_
    refine g_areturn (gd rfl) rfl (hp1 _ _ ?_)
    show GG _ _ _ _ _ _ _ _ [.ref (A 2)] _ _ _
    refine g_astore 6 (gd rfl) rfl (Nat.le_of_ble_eq_true rfl) ?_
    refine g_aload 8 (gd rfl) rfl rfl ?_
    refine g_iload_n 9 (gd rfl) rfl rfl ?_
    refine g_iload_n 10 (gd rfl) rfl rfl ?_
    refine g_callv (X := _) (As := [.int x1, .int x2]) (r := []) (b := A 2) (q := 2) 13 (gd rfl) rfl rfl rfl rfl rfl (ww_o rfl) (Nat.le_of_ble_eq_true rfl) (mc := 0) (ms := 0) (Nat.zero_le _) (Nat.zero_le _) (P := fun v u => _) ?_ (fun e u h => h) (fun v u h => h)
    intro po10 xx10 hp10 hx10
    refine g_enter2 (k := 95) (N := 300) (by first | exact dq1 hd rfl | exact dq0 hd rfl | exact dq2 hd rfl | exact dq3 hd rfl | omega) rfl (Nat.le_of_ble_eq_true rfl) ?_
    refine g_aload_n 1 (gd rfl) rfl rfl ?_
    refine g_iload_n 2 (gd rfl) rfl rfl ?_
    refine g_callv (X := _) (As := [.int x1]) (r := []) (b := A 2) (q := 2) 5 (gd rfl) rfl rfl rfl rfl rfl (ww_o rfl) (Nat.le_of_ble_eq_true rfl) (mc := 0) (ms := 0) (Nat.zero_le _) (Nat.zero_le _) (P := fun v u => _) ?_ (fun e u h => h) (fun v u h => h)
    intro po10x2 xx10x2 hp10x2 hx10x2
    refine g_enter2 (k := 94) (N := 300) (by first | exact dq1 hd rfl | exact dq0 hd rfl | exact dq2 hd rfl | exact dq3 hd rfl | omega) rfl (Nat.le_of_ble_eq_true rfl) ?_
    refine g_iload_n 1 (gd rfl) rfl rfl ?_
    refine g_if_lt 4 16 (gd rfl) rfl rfl (fun c10x2x1 => ?_) (fun c10x2x1 => ?_)
    · skip
      have i10x2x1 := z_lt (-2147483648) (-1) c10x2x1 (i_rng x1) rfl
      refine g_iconst 0 17 (gd rfl) rfl rfl ?_
      refine g_ireturn (gd rfl) rfl (nb01 (in_w 0 1 (in_c 0 rfl) rfl)) (hp10x2 _ _ ?_)
      show GG _ _ _ _ _ _ _ _ [.int (Int32.ofInt 0)] _ _ _
      refine g_if_eq 8 25 (gd rfl) rfl rfl (fun c10x5 => ?_) (fun c10x5 => ?_)
      · skip
        refine g_iconst 0 26 (gd rfl) rfl rfl ?_
        refine g_ireturn (gd rfl) rfl (nb01 (in_w 0 1 (in_c 0 rfl) rfl)) (hp10 _ _ ?_)
        show GG _ _ _ _ _ _ _ _ [.int (Int32.ofInt 0)] _ _ _
        refine g_if_eq 16 31 (gd rfl) rfl rfl (fun c13 => ?_) (fun c13 => ?_)
        · skip
          exact gg_w (by first | exact Nat.le_of_ble_eq_true rfl | omega) (gg_f (gf_cons rfl (gf_cons rfl (gf_cons rfl (gf_cons rfl gf_nil)))) (ct31 s  hI fr_rf ))
        · skip
          exact zn_ne c13 (in_c 0 rfl) rfl
      · skip
        exact zn_ne c10x5 (in_c 0 rfl) rfl
    · skip
      have i10x2x1 := z_ge 0 2147483647 c10x2x1 (i_rng x1) rfl
      refine g_iload_n 5 (gd rfl) rfl rfl ?_
      refine g_aload_n 6 (gd rfl) rfl rfl ?_
      refine g_getI 9 (gd rfl) rfl rfl rfl (fun z10x2x6 e10x2x6 => ?_)
      have q10x2x6 : u_2_1 = z10x2x6 := (e_2_1).trans e10x2x6.symm
      subst q10x2x6
      refine g_cmp_ge 12 16 (gd rfl) rfl rfl (fun c10x2x9 => ?_) (fun c10x2x9 => ?_)
      · skip
        refine g_iconst 0 17 (gd rfl) rfl rfl ?_
        refine g_ireturn (gd rfl) rfl (nb01 (in_w 0 1 (in_c 0 rfl) rfl)) (hp10x2 _ _ ?_)
        show GG _ _ _ _ _ _ _ _ [.int (Int32.ofInt 0)] _ _ _
        refine g_if_eq 8 25 (gd rfl) rfl rfl (fun c10x5 => ?_) (fun c10x5 => ?_)
        · skip
          refine g_iconst 0 26 (gd rfl) rfl rfl ?_
          refine g_ireturn (gd rfl) rfl (nb01 (in_w 0 1 (in_c 0 rfl) rfl)) (hp10 _ _ ?_)
          show GG _ _ _ _ _ _ _ _ [.int (Int32.ofInt 0)] _ _ _
          refine g_if_eq 16 31 (gd rfl) rfl rfl (fun c13 => ?_) (fun c13 => ?_)
          · skip
            exact gg_w (by first | exact Nat.le_of_ble_eq_true rfl | omega) (gg_f (gf_cons rfl (gf_cons rfl (gf_cons rfl (gf_cons rfl gf_nil)))) (ct31 s  hI fr_rf ))
          · skip
            exact zn_ne c13 (in_c 0 rfl) rfl
        · skip
          exact zn_ne c10x5 (in_c 0 rfl) rfl
      · skip
        have i10x2x9 := r_lt1 0 31 c10x2x9 i10x2x1 ro_2_1 rfl
        have i10x2x9a := r_lt2 1 32 c10x2x9 i10x2x1 ro_2_1 rfl
        refine g_iconst 1 13 (gd rfl) rfl rfl ?_
        refine g_goto 17 (gd rfl) rfl ?_
        refine g_ireturn (gd rfl) rfl (nb01 (in_w 0 1 (in_c 1 rfl) rfl)) (hp10x2 _ _ ?_)
        show GG _ _ _ _ _ _ _ _ [.int (Int32.ofInt 1)] _ _ _
        refine g_if_eq 8 25 (gd rfl) rfl rfl (fun c10x5 => ?_) (fun c10x5 => ?_)
        · skip
          exact zn_eq c10x5 (in_c 1 rfl) rfl
        · skip
          refine g_aload_n 9 (gd rfl) rfl rfl ?_
          refine g_iload_n 10 (gd rfl) rfl rfl ?_
          refine g_callv (X := _) (As := [.int x2]) (r := []) (b := A 2) (q := 2) 13 (gd rfl) rfl rfl rfl rfl rfl (ww_o rfl) (Nat.le_of_ble_eq_true rfl) (mc := 0) (ms := 0) (Nat.zero_le _) (Nat.zero_le _) (P := fun v u => _) ?_ (fun e u h => h) (fun v u h => h)
          intro po10x10 xx10x10 hp10x10 hx10x10
          refine g_enter2 (k := 94) (N := 300) (by first | exact dq1 hd rfl | exact dq0 hd rfl | exact dq2 hd rfl | exact dq3 hd rfl | omega) rfl (Nat.le_of_ble_eq_true rfl) ?_
          refine g_iload_n 1 (gd rfl) rfl rfl ?_
          refine g_if_lt 4 16 (gd rfl) rfl rfl (fun c10x10x1 => ?_) (fun c10x10x1 => ?_)
          · skip
            have i10x10x1 := z_lt (-2147483648) (-1) c10x10x1 (i_rng x2) rfl
            refine g_iconst 0 17 (gd rfl) rfl rfl ?_
            refine g_ireturn (gd rfl) rfl (nb01 (in_w 0 1 (in_c 0 rfl) rfl)) (hp10x10 _ _ ?_)
            show GG _ _ _ _ _ _ _ _ [.int (Int32.ofInt 0)] _ _ _
            refine g_if_eq 16 25 (gd rfl) rfl rfl (fun c10x13 => ?_) (fun c10x13 => ?_)
            · skip
              refine g_iconst 0 26 (gd rfl) rfl rfl ?_
              refine g_ireturn (gd rfl) rfl (nb01 (in_w 0 1 (in_c 0 rfl) rfl)) (hp10 _ _ ?_)
              show GG _ _ _ _ _ _ _ _ [.int (Int32.ofInt 0)] _ _ _
              refine g_if_eq 16 31 (gd rfl) rfl rfl (fun c13 => ?_) (fun c13 => ?_)
              · skip
                exact gg_w (by first | exact Nat.le_of_ble_eq_true rfl | omega) (gg_f (gf_cons rfl (gf_cons rfl (gf_cons rfl (gf_cons rfl gf_nil)))) (ct31 s  hI fr_rf ))
              · skip
                exact zn_ne c13 (in_c 0 rfl) rfl
            · skip
              exact zn_ne c10x13 (in_c 0 rfl) rfl
          · skip
            have i10x10x1 := z_ge 0 2147483647 c10x10x1 (i_rng x2) rfl
            refine g_iload_n 5 (gd rfl) rfl rfl ?_
            refine g_aload_n 6 (gd rfl) rfl rfl ?_
            refine g_getI 9 (gd rfl) rfl rfl rfl (fun z10x10x6 e10x10x6 => ?_)
            have q10x10x6 : u_2_1 = z10x10x6 := (e_2_1).trans e10x10x6.symm
            subst q10x10x6
            refine g_cmp_ge 12 16 (gd rfl) rfl rfl (fun c10x10x9 => ?_) (fun c10x10x9 => ?_)
            · skip
              have i10x10x9 := r_le2 1 2147483647 c10x10x9 i10x2x9a i10x10x1 rfl
              refine g_iconst 0 17 (gd rfl) rfl rfl ?_
              refine g_ireturn (gd rfl) rfl (nb01 (in_w 0 1 (in_c 0 rfl) rfl)) (hp10x10 _ _ ?_)
              show GG _ _ _ _ _ _ _ _ [.int (Int32.ofInt 0)] _ _ _
              refine g_if_eq 16 25 (gd rfl) rfl rfl (fun c10x13 => ?_) (fun c10x13 => ?_)
              · skip
                refine g_iconst 0 26 (gd rfl) rfl rfl ?_
                refine g_ireturn (gd rfl) rfl (nb01 (in_w 0 1 (in_c 0 rfl) rfl)) (hp10 _ _ ?_)
                show GG _ _ _ _ _ _ _ _ [.int (Int32.ofInt 0)] _ _ _
                refine g_if_eq 16 31 (gd rfl) rfl rfl (fun c13 => ?_) (fun c13 => ?_)
                · skip
                  exact gg_w (by first | exact Nat.le_of_ble_eq_true rfl | omega) (gg_f (gf_cons rfl (gf_cons rfl (gf_cons rfl (gf_cons rfl gf_nil)))) (ct31 s  hI fr_rf ))
                · skip
                  exact zn_ne c13 (in_c 0 rfl) rfl
              · skip
                exact zn_ne c10x13 (in_c 0 rfl) rfl
            · skip
              have i10x10x9 := r_lt1 0 31 c10x10x9 i10x10x1 i10x2x9a rfl
              refine g_iconst 1 13 (gd rfl) rfl rfl ?_
              refine g_goto 17 (gd rfl) rfl ?_
              refine g_ireturn (gd rfl) rfl (nb01 (in_w 0 1 (in_c 1 rfl) rfl)) (hp10x10 _ _ ?_)
              show GG _ _ _ _ _ _ _ _ [.int (Int32.ofInt 1)] _ _ _
              refine g_if_eq 16 25 (gd rfl) rfl rfl (fun c10x13 => ?_) (fun c10x13 => ?_)
              · skip
                exact zn_eq c10x13 (in_c 1 rfl) rfl
              · skip
                refine g_iload_n 17 (gd rfl) rfl rfl ?_
                refine g_iload_n 18 (gd rfl) rfl rfl ?_
                refine g_cmp_eq 21 25 (gd rfl) rfl rfl (fun c10x18 => ?_) (fun c10x18 => ?_)
                · skip
                  refine g_iconst 0 26 (gd rfl) rfl rfl ?_
                  refine g_ireturn (gd rfl) rfl (nb01 (in_w 0 1 (in_c 0 rfl) rfl)) (hp10 _ _ ?_)
                  show GG _ _ _ _ _ _ _ _ [.int (Int32.ofInt 0)] _ _ _
                  refine g_if_eq 16 31 (gd rfl) rfl rfl (fun c13 => ?_) (fun c13 => ?_)
                  · skip
                    exact gg_w (by first | exact Nat.le_of_ble_eq_true rfl | omega) (gg_f (gf_cons rfl (gf_cons rfl (gf_cons rfl (gf_cons rfl gf_nil)))) (ct31 s  hI fr_rf ))
                  · skip
                    exact zn_ne c13 (in_c 0 rfl) rfl
                · skip
                  refine g_iconst 1 22 (gd rfl) rfl rfl ?_
                  refine g_goto 26 (gd rfl) rfl ?_
                  refine g_ireturn (gd rfl) rfl (nb01 (in_w 0 1 (in_c 1 rfl) rfl)) (hp10 _ _ ?_)
                  show GG _ _ _ _ _ _ _ _ [.int (Int32.ofInt 1)] _ _ _
                  refine g_if_eq 16 31 (gd rfl) rfl rfl (fun c13 => ?_) (fun c13 => ?_)
                  · skip
                    exact zn_eq c13 (in_c 1 rfl) rfl
                  · skip
                    refine g_iload_n 17 (gd rfl) rfl rfl ?_
                    refine g_if_lt 20 31 (gd rfl) rfl rfl (fun c17 => ?_) (fun c17 => ?_)
                    · skip
                      have i17 := z_lt (-2147483648) (-1) c17 (i_rng x3) rfl
                      exact gg_w (by first | exact Nat.le_of_ble_eq_true rfl | omega) (gg_f (gf_cons rfl (gf_cons rfl (gf_cons rfl (gf_cons rfl gf_nil)))) (ct31 s  hI fr_rf ))
                    · skip
                      have i17 := z_ge 0 2147483647 c17 (i_rng x3) rfl
                      refine g_iload_n 21 (gd rfl) rfl rfl ?_
                      refine g_ldc_w 200000000 24 (gd rfl) rfl rfl ?_
                      refine g_cmp_gt 27 31 (gd rfl) rfl rfl (fun c24 => ?_) (fun c24 => ?_)
                      · skip
                        have i24 := r_lt2 200000001 2147483647 c24 (in_c 200000000 rfl) i17 rfl
                        exact gg_w (by first | exact Nat.le_of_ble_eq_true rfl | omega) (gg_f (gf_cons rfl (gf_cons rfl (gf_cons rfl (gf_cons rfl gf_nil)))) (ct31 s  hI fr_rf ))
                      · skip
                        have i24 := r_le1 0 200000000 c24 i17 (in_c 200000000 rfl) rfl
                        refine g_iconst 1 28 (gd rfl) rfl rfl ?_
                        refine g_goto 32 (gd rfl) rfl ?_
                        refine g_thr (E := am_IA) (y := yX11_allow) 35 (gd rfl) rfl rfl (Or.inl ⟨rfl, rfl, rfl⟩) (by first | exact dq1 hd rfl | exact dq0 hd rfl | exact dq2 hd rfl | exact dq3 hd rfl | omega) (Nat.le_of_ble_eq_true rfl) (Nat.le_of_ble_eq_true rfl) (Nat.le_of_ble_eq_true rfl) (fun c32 => ?_) (fun c32 => ?_)
                        · skip
                          refine g_aload_n 36 (gd rfl) rfl rfl ?_
                          refine g_getA (q2 := 65) 39 (gd rfl) rfl rfl rfl rfl ?_
                          refine g_aload 41 (gd rfl) rfl rfl ?_
                          refine g_iload_n 42 (gd rfl) rfl rfl ?_
                          refine g_iload_n 43 (gd rfl) rfl rfl ?_
                          refine g_iload_n 44 (gd rfl) rfl rfl ?_
                          refine g_callv (X := _) (As := [.ref (A 2), .int x1, .int x2, .int x3]) (r := []) (b := A 65) (q := 65) 47 (gd rfl) rfl rfl rfl rfl rfl (ww_o rfl) (Nat.le_of_ble_eq_true rfl) (Nat.zero_le _) (Nat.zero_le _) (k_79_65_2 (by first | exact dq1 hd rfl | exact dq0 hd rfl | exact dq2 hd rfl | exact dq3 hd rfl | omega) hI (in_w 0 31 i10x2x9 rfl) (in_w 0 31 i10x10x9 rfl) (in_w 0 200000000 i24 rfl)) (fun e u h => h) (fun v u h => ?_)
                          obtain ⟨s44, hI44, hF44, z44, rfl, rfl⟩ := h
                          show GG _ _ _ _ _ _ _ _ [.long z44] _ _ _
                          exact g_lreturn (gd rfl) rfl (hP _ _ ⟨s44, hI44, (fr_tr rfl fr_rf hF44), z44, rfl, rfl⟩)
                        · skip
                          exact zn_eq c32 (in_c 1 rfl) rfl
