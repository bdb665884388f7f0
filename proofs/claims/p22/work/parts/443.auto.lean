section
/-! methods, by vc.py -/
def fm_53_60_2 : FM := ([61, 62, 63], [], [(60, 7)], [])
/-- GraphHouse$Colours.lessen -/
theorem k_53_60_2 {Z : AmZ} {A : Nat → Nat} {s : GS} {ex : va_W} {d : Nat} {X : AmX} {x2 : Int32} {x3 : Int32} (hd : 382 ≤ d) (hI : Inv s) (h2 : In x2 0 31) (h3 : In x3 0 31) : GC Z d 53 [.ref (A 60), .ref (A 2), .int x2, .int x3] (WW Z A s ++ ex) 0 0 (fun v u => ∃ t : GS, Inv t ∧ Fr fm_53_60_2 s t ∧ ∃ z : Int32, v = some (.int z) ∧ u = WW Z A t ++ ex ∧ In z 0 31 ∧ ((z).toInt ≤ (x3).toInt)) X := by
  intro post xp hP hX
  have ct49 : ∀ (k49 : Nat) (sc49 : GS) (y49_4 : Int32) (y49_5 : Int32), Inv sc49 → Fr fm_53_60_2 s sc49 → (In y49_4 0 31) → (In y49_5 0 32) → ((y49_4).toInt ≤ (x3).toInt) → (0 ≤ (y49_5).toInt) → 32 - (y49_5).toInt < (k49 : Int) → GG Z (d - 1) 53 post (gx xp) (1 + k49 * 900) 49 (fun j => xlook j [(0, .ref (A 60)), (1, .ref (A 2)), (2, .int x2), (3, .int x3), (4, .int y49_4), (5, .int y49_5)]) [] (WW Z A sc49 ++ ex) 0 0 := by
    intro k49
    induction k49 with
    | zero => intro sc49 y49_4 y49_5 hIc49 hFc49 j49_4 j49_5 n49_0 n49_1 mm49; exfalso; have a0 := oa2 h3 h2; have a2 := j49_5; unfold In at a2; have a3 := j49_4; unfold In at a3; omega
    | succ k49 ih49 =>
      intro sc49 y49_4 y49_5 hIc49 hFc49 j49_4 j49_5 n49_0 n49_1 mm49
      refine gg_w (M := 1 + k49 * 900 + 900) gws ?_
      refine g_iload 51 (gd rfl) rfl rfl ?_
      refine g_iload 53 (gd rfl) rfl rfl ?_
      refine g_cmp_ge 56 79 (gd rfl) rfl rfl (fun c53 => ?_) (fun c53 => ?_)
      · skip
        refine g_iload 81 (gd rfl) rfl rfl ?_
        have n81 : (y49_4).toInt ≤ (x3).toInt := by first | exact n49_0 | (have a0 := oa4 h3 h2 j49_5 j49_4; omega)
        exact g_ireturn (gd rfl) rfl rfl (hP _ _ ⟨sc49, hIc49, hFc49, y49_4, rfl, rfl, in_w 0 31 j49_4 rfl, n81⟩)
      · skip
        have i53 := r_lt1 0 30 c53 j49_5 j49_4 rfl
        have i53a := r_lt2 1 31 c53 j49_5 j49_4 rfl
        refine g_aload_n 57 (gd rfl) rfl rfl ?_
        refine g_aload_n 58 (gd rfl) rfl rfl ?_
        refine g_iload_n 59 (gd rfl) rfl rfl ?_
        refine g_iload 61 (gd rfl) rfl rfl ?_
        refine g_iload 63 (gd rfl) rfl rfl ?_
        refine g_callv (X := _) (As := [.ref (A 2), .int x2, .int y49_5, .int y49_4]) (r := []) (b := A 60) (q := 60) 66 (gd rfl) rfl rfl rfl rfl rfl (ww_o rfl) (Nat.le_of_ble_eq_true rfl) (Nat.zero_le _) (Nat.zero_le _) (k_54_60_2 (by first | exact dq1 hd rfl | exact dq0 hd rfl | exact dq2 hd rfl | exact dq3 hd rfl | omega) hIc49 (in_w 0 31 h2 rfl) (in_w 0 31 i53 rfl) (in_w 0 31 i53a rfl)) (fun e u h => h) (fun v u h => ?_)
        obtain ⟨s63, hI63, hF63, z63, rfl, rfl, i63⟩ := h
        show GG _ _ _ _ _ _ _ _ [.int z63] _ _ _
        refine g_if_eq 69 73 (gd rfl) rfl rfl (fun c66 => ?_) (fun c66 => ?_)
        · skip
          have i66 := z_eq 0 0 c66 i63 rfl
          refine g_iinc 76 (gd rfl) rfl rfl (Nat.le_of_ble_eq_true rfl) (fun z73 e73 => ?_)
          have i73 := in_add 1 31 e73 i53 (in_c 1 rfl) rfl rfl
          refine g_goto 49 (gd rfl) rfl ?_
          have n49 : (y49_4).toInt ≤ (x3).toInt := by first | exact n49_0 | (have a0 := oa5 h3 h2 i53 i53a i73; have a5 := t_add e73 i53 (in_c 1 rfl) rfl; have a6 := in_u ((in_c 1 rfl)); omega)
          have n49a : 0 ≤ (z73).toInt := by have a0 := oa5 h3 h2 i53 i53a i73; have a5 := t_add e73 i53 (in_c 1 rfl) rfl; have a6 := in_u ((in_c 1 rfl)); omega
          have m49 : 32 - (z73).toInt < ((k49 : Nat) : Int) := by have a0 := oa5 h3 h2 i53 i53a i73; have a5 := t_add e73 i53 (in_c 1 rfl) rfl; have a6 := in_u ((in_c 1 rfl)); omega
          exact gg_w (by first | exact Nat.le_add_right _ _ | exact gw2 | exact gw3 | exact gwe rfl | exact gwf rfl | exact gwg rfl | exact gwh rfl | omega) (gg_f (gf_cons rfl (gf_cons rfl (gf_cons rfl (gf_cons rfl (gf_cons rfl (gf_cons rfl gf_nil)))))) (ih49  s63 y49_4 z73 hI63 (fr_tr rfl hFc49 hF63) (in_w 0 31 i53a rfl) (in_w 0 32 i73 rfl) n49 n49a m49))
        · skip
          have i66 := z_ne 1 1 c66 i63 rfl
          refine g_iload 71 (gd rfl) rfl rfl ?_
          refine g_istore 73 (gd rfl) rfl (Nat.le_of_ble_eq_true rfl) ?_
          refine g_iinc 76 (gd rfl) rfl rfl (Nat.le_of_ble_eq_true rfl) (fun z73 e73 => ?_)
          have i73 := in_add 1 31 e73 i53 (in_c 1 rfl) rfl rfl
          refine g_goto 49 (gd rfl) rfl ?_
          have n49 : (y49_5).toInt ≤ (x3).toInt := by have a0 := oa5 h3 h2 i53 i53a i73; have a5 := t_add e73 i53 (in_c 1 rfl) rfl; have a6 := in_u ((in_c 1 rfl)); omega
          have n49a : 0 ≤ (z73).toInt := by have a0 := oa5 h3 h2 i53 i53a i73; have a5 := t_add e73 i53 (in_c 1 rfl) rfl; have a6 := in_u ((in_c 1 rfl)); omega
          have m49 : 32 - (z73).toInt < ((k49 : Nat) : Int) := by have a0 := oa5 h3 h2 i53 i53a i73; have a5 := t_add e73 i53 (in_c 1 rfl) rfl; have a6 := in_u ((in_c 1 rfl)); omega
          exact gg_w (by first | exact Nat.le_add_right _ _ | exact gw2 | exact gw3 | exact gwe rfl | exact gwf rfl | exact gwg rfl | exact gwh rfl | omega) (gg_f (gf_cons rfl (gf_cons rfl (gf_cons rfl (gf_cons rfl (gf_cons rfl (gf_cons rfl gf_nil)))))) (ih49  s63 y49_5 z73 hI63 (fr_tr rfl hFc49 hF63) (in_w 0 31 i53 rfl) (in_w 0 32 i73 rfl) n49 n49a m49))
  refine g_enter2 (k := 53) (N := 30601) (by first | exact dq1 hd rfl | exact dq0 hd rfl | exact dq2 hd rfl | exact dq3 hd rfl | omega) rfl (Nat.le_of_ble_eq_true rfl) ?_
  refine g_aload_n 1 (gd rfl) rfl rfl ?_
  refine g_iload_n 2 (gd rfl) rfl rfl ?_
  refine g_callv (X := _) (As := [.int x2]) (r := []) (b := A 60) (q := 60) 5 (gd rfl) rfl rfl rfl rfl rfl (ww_o rfl) (Nat.le_of_ble_eq_true rfl) (Nat.zero_le _) (Nat.zero_le _) (k_45_60 (by first | exact dq1 hd rfl | exact dq0 hd rfl | exact dq2 hd rfl | exact dq3 hd rfl | omega) hI (in_w 0 31 h2 rfl)) (fun e u h => h) (fun v u h => ?_)
  obtain ⟨z2, rfl, rfl, i2⟩ := h
  show GG _ _ _ _ _ _ _ _ [.int z2] _ _ _
  refine g_istore 7 (gd rfl) rfl (Nat.le_of_ble_eq_true rfl) ?_
  refine g_iload 9 (gd rfl) rfl rfl ?_
  refine g_iload_n 10 (gd rfl) rfl rfl ?_
  refine g_cmp_le 13 46 (gd rfl) rfl rfl (fun c10 => ?_) (fun c10 => ?_)
  · skip
    refine g_iconst 0 47 (gd rfl) rfl rfl ?_
    refine g_istore 49 (gd rfl) rfl (Nat.le_of_ble_eq_true rfl) ?_
    have n49 : (z2).toInt ≤ (x3).toInt := by have a0 := oa4 h3 h2 ((in_c 0 rfl)) i2; omega
    have n49a : 0 ≤ ((Int32.ofInt 0)).toInt := by have a0 := oa4 h3 h2 ((in_c 0 rfl)) i2; omega
    have m49 : 32 - ((Int32.ofInt 0)).toInt < ((33 : Nat) : Int) := by have a0 := oa4 h3 h2 ((in_c 0 rfl)) i2; omega
    exact gg_w (by first | exact Nat.le_of_ble_eq_true rfl | omega) (gg_f (gf_cons rfl (gf_cons rfl (gf_cons rfl (gf_cons rfl (gf_cons rfl (gf_cons rfl gf_nil)))))) (ct49 33 s z2 (Int32.ofInt 0) hI fr_rf (in_w 0 31 i2 rfl) (in_w 0 32 (in_c 0 rfl) rfl) n49 n49a m49))
  · skip
    have i10 := r_lt1 0 30 c10 h3 i2 rfl
    have i10a := r_lt2 1 31 c10 h3 i2 rfl
    refine g_aload_n 14 (gd rfl) rfl rfl ?_
    refine g_getA (q2 := 61) 17 (gd rfl) rfl rfl rfl rfl ?_
    refine g_iload 19 (gd rfl) rfl rfl ?_
    refine g_iaload 20 (gd rfl) rfl (n := 32) rfl (in_ix i10a rfl) (fun z19 e19 => ?_)
    refine g_istore 22 (gd rfl) rfl (Nat.le_of_ble_eq_true rfl) ?_
    refine g_aload_n 23 (gd rfl) rfl rfl ?_
    refine g_getA (q2 := 61) 26 (gd rfl) rfl rfl rfl rfl ?_
    refine g_iload 28 (gd rfl) rfl rfl ?_
    refine g_aload_n 29 (gd rfl) rfl rfl ?_
    refine g_getA (q2 := 61) 32 (gd rfl) rfl rfl rfl rfl ?_
    refine g_iload_n 33 (gd rfl) rfl rfl ?_
    refine g_iaload 34 (gd rfl) rfl (n := 32) rfl (in_ix i10 rfl) (fun z33 e33 => ?_)
    refine g_iastore 35 (gd rfl) rfl (n := 32) rfl (in_ix i10a rfl) ?_
    have hI34 := inv_sI (q := 61) (j := z2.toNatClampNeg) hI rfl (in_w (-2147483648) 2147483647 (i_rng z33) rfl)
    refine g_aload_n 36 (gd rfl) rfl rfl ?_
    refine g_getA (q2 := 61) 39 (gd rfl) rfl rfl rfl rfl ?_
    refine g_iload_n 40 (gd rfl) rfl rfl ?_
    refine g_iload 42 (gd rfl) rfl rfl ?_
    refine g_iastore 43 (gd rfl) rfl (n := 32) rfl (in_ix i10 rfl) ?_
    have hI42 := inv_sI (q := 61) (j := x3.toNatClampNeg) hI34 rfl (in_w (-2147483648) 2147483647 (i_rng z19) rfl)
    refine g_iload_n 44 (gd rfl) rfl rfl ?_
    refine g_istore 46 (gd rfl) rfl (Nat.le_of_ble_eq_true rfl) ?_
    refine g_iconst 0 47 (gd rfl) rfl rfl ?_
    refine g_istore 49 (gd rfl) rfl (Nat.le_of_ble_eq_true rfl) ?_
    have n49 : (x3).toInt ≤ (x3).toInt := by exact Int.le_refl _
    have n49a : 0 ≤ ((Int32.ofInt 0)).toInt := by have a0 := oa3 i10 h2 ((in_c 0 rfl)); omega
    have m49 : 32 - ((Int32.ofInt 0)).toInt < ((33 : Nat) : Int) := by have a0 := oa3 i10 h2 ((in_c 0 rfl)); omega
    exact gg_w (by first | exact Nat.le_of_ble_eq_true rfl | omega) (gg_f (gf_cons rfl (gf_cons rfl (gf_cons rfl (gf_cons rfl (gf_cons rfl (gf_cons rfl gf_nil)))))) (ct49 33 (sI (sI s 61 z2.toNatClampNeg z33) 61 x3.toNatClampNeg z19) x3 (Int32.ofInt 0) hI42 (fr_sI rfl (fr_sI rfl fr_rf)) (in_w 0 31 i10 rfl) (in_w 0 32 (in_c 0 rfl) rfl) n49 n49a m49))

def fm_53_60_32 : FM := ([61, 62, 63], [], [(60, 7)], [])
/-- GraphHouse$Colours.lessen -/
theorem k_53_60_32 {Z : AmZ} {A : Nat → Nat} {s : GS} {ex : va_W} {d : Nat} {X : AmX} {x2 : Int32} {x3 : Int32} (hd : 382 ≤ d) (hI : Inv s) (h2 : In x2 0 31) (h3 : In x3 0 31) : GC Z d 53 [.ref (A 60), .ref (A 32), .int x2, .int x3] (WW Z A s ++ ex) 0 0 (fun v u => ∃ t : GS, Inv t ∧ Fr fm_53_60_32 s t ∧ ∃ z : Int32, v = some (.int z) ∧ u = WW Z A t ++ ex ∧ In z 0 31 ∧ ((z).toInt ≤ (x3).toInt)) X := by
  intro post xp hP hX
  have ct49 : ∀ (k49 : Nat) (sc49 : GS) (y49_4 : Int32) (y49_5 : Int32), Inv sc49 → Fr fm_53_60_32 s sc49 → (In y49_4 0 31) → (In y49_5 0 32) → ((y49_4).toInt ≤ (x3).toInt) → (0 ≤ (y49_5).toInt) → 32 - (y49_5).toInt < (k49 : Int) → GG Z (d - 1) 53 post (gx xp) (1 + k49 * 900) 49 (fun j => xlook j [(0, .ref (A 60)), (1, .ref (A 32)), (2, .int x2), (3, .int x3), (4, .int y49_4), (5, .int y49_5)]) [] (WW Z A sc49 ++ ex) 0 0 := by
    intro k49
    induction k49 with
    | zero => intro sc49 y49_4 y49_5 hIc49 hFc49 j49_4 j49_5 n49_0 n49_1 mm49; exfalso; have a0 := oa2 h3 h2; have a2 := j49_5; unfold In at a2; have a3 := j49_4; unfold In at a3; omega
    | succ k49 ih49 =>
      intro sc49 y49_4 y49_5 hIc49 hFc49 j49_4 j49_5 n49_0 n49_1 mm49
      refine gg_w (M := 1 + k49 * 900 + 900) gws ?_
      refine g_iload 51 (gd rfl) rfl rfl ?_
      refine g_iload 53 (gd rfl) rfl rfl ?_
      refine g_cmp_ge 56 79 (gd rfl) rfl rfl (fun c53 => ?_) (fun c53 => ?_)
      · skip
        refine g_iload 81 (gd rfl) rfl rfl ?_
        have n81 : (y49_4).toInt ≤ (x3).toInt := by first | exact n49_0 | (have a0 := oa4 h3 h2 j49_5 j49_4; omega)
        exact g_ireturn (gd rfl) rfl rfl (hP _ _ ⟨sc49, hIc49, hFc49, y49_4, rfl, rfl, in_w 0 31 j49_4 rfl, n81⟩)
      · skip
        have i53 := r_lt1 0 30 c53 j49_5 j49_4 rfl
        have i53a := r_lt2 1 31 c53 j49_5 j49_4 rfl
        refine g_aload_n 57 (gd rfl) rfl rfl ?_
        refine g_aload_n 58 (gd rfl) rfl rfl ?_
        refine g_iload_n 59 (gd rfl) rfl rfl ?_
        refine g_iload 61 (gd rfl) rfl rfl ?_
        refine g_iload 63 (gd rfl) rfl rfl ?_
        refine g_callv (X := _) (As := [.ref (A 32), .int x2, .int y49_5, .int y49_4]) (r := []) (b := A 60) (q := 60) 66 (gd rfl) rfl rfl rfl rfl rfl (ww_o rfl) (Nat.le_of_ble_eq_true rfl) (Nat.zero_le _) (Nat.zero_le _) (k_54_60_32 (by first | exact dq1 hd rfl | exact dq0 hd rfl | exact dq2 hd rfl | exact dq3 hd rfl | omega) hIc49 (in_w 0 31 h2 rfl) (in_w 0 31 i53 rfl) (in_w 0 31 i53a rfl)) (fun e u h => h) (fun v u h => ?_)
        obtain ⟨s63, hI63, hF63, z63, rfl, rfl, i63⟩ := h
        show GG _ _ _ _ _ _ _ _ [.int z63] _ _ _
        refine g_if_eq 69 73 (gd rfl) rfl rfl (fun c66 => ?_) (fun c66 => ?_)
        · skip
          have i66 := z_eq 0 0 c66 i63 rfl
          refine g_iinc 76 (gd rfl) rfl rfl (Nat.le_of_ble_eq_true rfl) (fun z73 e73 => ?_)
          have i73 := in_add 1 31 e73 i53 (in_c 1 rfl) rfl rfl
          refine g_goto 49 (gd rfl) rfl ?_
          have n49 : (y49_4).toInt ≤ (x3).toInt := by first | exact n49_0 | (have a0 := oa5 h3 h2 i53 i53a i73; have a5 := t_add e73 i53 (in_c 1 rfl) rfl; have a6 := in_u ((in_c 1 rfl)); omega)
          have n49a : 0 ≤ (z73).toInt := by have a0 := oa5 h3 h2 i53 i53a i73; have a5 := t_add e73 i53 (in_c 1 rfl) rfl; have a6 := in_u ((in_c 1 rfl)); omega
          have m49 : 32 - (z73).toInt < ((k49 : Nat) : Int) := by have a0 := oa5 h3 h2 i53 i53a i73; have a5 := t_add e73 i53 (in_c 1 rfl) rfl; have a6 := in_u ((in_c 1 rfl)); omega
          exact gg_w (by first | exact Nat.le_add_right _ _ | exact gw2 | exact gw3 | exact gwe rfl | exact gwf rfl | exact gwg rfl | exact gwh rfl | omega) (gg_f (gf_cons rfl (gf_cons rfl (gf_cons rfl (gf_cons rfl (gf_cons rfl (gf_cons rfl gf_nil)))))) (ih49  s63 y49_4 z73 hI63 (fr_tr rfl hFc49 hF63) (in_w 0 31 i53a rfl) (in_w 0 32 i73 rfl) n49 n49a m49))
        · skip
          have i66 := z_ne 1 1 c66 i63 rfl
          refine g_iload 71 (gd rfl) rfl rfl ?_
          refine g_istore 73 (gd rfl) rfl (Nat.le_of_ble_eq_true rfl) ?_
          refine g_iinc 76 (gd rfl) rfl rfl (Nat.le_of_ble_eq_true rfl) (fun z73 e73 => ?_)
          have i73 := in_add 1 31 e73 i53 (in_c 1 rfl) rfl rfl
          refine g_goto 49 (gd rfl) rfl ?_
          have n49 : (y49_5).toInt ≤ (x3).toInt := by have a0 := oa5 h3 h2 i53 i53a i73; have a5 := t_add e73 i53 (in_c 1 rfl) rfl; have a6 := in_u ((in_c 1 rfl)); omega
          have n49a : 0 ≤ (z73).toInt := by have a0 := oa5 h3 h2 i53 i53a i73; have a5 := t_add e73 i53 (in_c 1 rfl) rfl; have a6 := in_u ((in_c 1 rfl)); omega
          have m49 : 32 - (z73).toInt < ((k49 : Nat) : Int) := by have a0 := oa5 h3 h2 i53 i53a i73; have a5 := t_add e73 i53 (in_c 1 rfl) rfl; have a6 := in_u ((in_c 1 rfl)); omega
          exact gg_w (by first | exact Nat.le_add_right _ _ | exact gw2 | exact gw3 | exact gwe rfl | exact gwf rfl | exact gwg rfl | exact gwh rfl | omega) (gg_f (gf_cons rfl (gf_cons rfl (gf_cons rfl (gf_cons rfl (gf_cons rfl (gf_cons rfl gf_nil)))))) (ih49  s63 y49_5 z73 hI63 (fr_tr rfl hFc49 hF63) (in_w 0 31 i53 rfl) (in_w 0 32 i73 rfl) n49 n49a m49))
  refine g_enter2 (k := 53) (N := 30601) (by first | exact dq1 hd rfl | exact dq0 hd rfl | exact dq2 hd rfl | exact dq3 hd rfl | omega) rfl (Nat.le_of_ble_eq_true rfl) ?_
  refine g_aload_n 1 (gd rfl) rfl rfl ?_
  refine g_iload_n 2 (gd rfl) rfl rfl ?_
  refine g_callv (X := _) (As := [.int x2]) (r := []) (b := A 60) (q := 60) 5 (gd rfl) rfl rfl rfl rfl rfl (ww_o rfl) (Nat.le_of_ble_eq_true rfl) (Nat.zero_le _) (Nat.zero_le _) (k_45_60 (by first | exact dq1 hd rfl | exact dq0 hd rfl | exact dq2 hd rfl | exact dq3 hd rfl | omega) hI (in_w 0 31 h2 rfl)) (fun e u h => h) (fun v u h => ?_)
  obtain ⟨z2, rfl, rfl, i2⟩ := h
  show GG _ _ _ _ _ _ _ _ [.int z2] _ _ _
  refine g_istore 7 (gd rfl) rfl (Nat.le_of_ble_eq_true rfl) ?_
  refine g_iload 9 (gd rfl) rfl rfl ?_
  refine g_iload_n 10 (gd rfl) rfl rfl ?_
  refine g_cmp_le 13 46 (gd rfl) rfl rfl (fun c10 => ?_) (fun c10 => ?_)
  · skip
    refine g_iconst 0 47 (gd rfl) rfl rfl ?_
    refine g_istore 49 (gd rfl) rfl (Nat.le_of_ble_eq_true rfl) ?_
    have n49 : (z2).toInt ≤ (x3).toInt := by have a0 := oa4 h3 h2 ((in_c 0 rfl)) i2; omega
    have n49a : 0 ≤ ((Int32.ofInt 0)).toInt := by have a0 := oa4 h3 h2 ((in_c 0 rfl)) i2; omega
    have m49 : 32 - ((Int32.ofInt 0)).toInt < ((33 : Nat) : Int) := by have a0 := oa4 h3 h2 ((in_c 0 rfl)) i2; omega
    exact gg_w (by first | exact Nat.le_of_ble_eq_true rfl | omega) (gg_f (gf_cons rfl (gf_cons rfl (gf_cons rfl (gf_cons rfl (gf_cons rfl (gf_cons rfl gf_nil)))))) (ct49 33 s z2 (Int32.ofInt 0) hI fr_rf (in_w 0 31 i2 rfl) (in_w 0 32 (in_c 0 rfl) rfl) n49 n49a m49))
  · skip
    have i10 := r_lt1 0 30 c10 h3 i2 rfl
    have i10a := r_lt2 1 31 c10 h3 i2 rfl
    refine g_aload_n 14 (gd rfl) rfl rfl ?_
    refine g_getA (q2 := 61) 17 (gd rfl) rfl rfl rfl rfl ?_
    refine g_iload 19 (gd rfl) rfl rfl ?_
    refine g_iaload 20 (gd rfl) rfl (n := 32) rfl (in_ix i10a rfl) (fun z19 e19 => ?_)
    refine g_istore 22 (gd rfl) rfl (Nat.le_of_ble_eq_true rfl) ?_
    refine g_aload_n 23 (gd rfl) rfl rfl ?_
    refine g_getA (q2 := 61) 26 (gd rfl) rfl rfl rfl rfl ?_
    refine g_iload 28 (gd rfl) rfl rfl ?_
    refine g_aload_n 29 (gd rfl) rfl rfl ?_
    refine g_getA (q2 := 61) 32 (gd rfl) rfl rfl rfl rfl ?_
    refine g_iload_n 33 (gd rfl) rfl rfl ?_
    refine g_iaload 34 (gd rfl) rfl (n := 32) rfl (in_ix i10 rfl) (fun z33 e33 => ?_)
    refine g_iastore 35 (gd rfl) rfl (n := 32) rfl (in_ix i10a rfl) ?_
    have hI34 := inv_sI (q := 61) (j := z2.toNatClampNeg) hI rfl (in_w (-2147483648) 2147483647 (i_rng z33) rfl)
    refine g_aload_n 36 (gd rfl) rfl rfl ?_
    refine g_getA (q2 := 61) 39 (gd rfl) rfl rfl rfl rfl ?_
    refine g_iload_n 40 (gd rfl) rfl rfl ?_
    refine g_iload 42 (gd rfl) rfl rfl ?_
    refine g_iastore 43 (gd rfl) rfl (n := 32) rfl (in_ix i10 rfl) ?_
    have hI42 := inv_sI (q := 61) (j := x3.toNatClampNeg) hI34 rfl (in_w (-2147483648) 2147483647 (i_rng z19) rfl)
    refine g_iload_n 44 (gd rfl) rfl rfl ?_
    refine g_istore 46 (gd rfl) rfl (Nat.le_of_ble_eq_true rfl) ?_
    refine g_iconst 0 47 (gd rfl) rfl rfl ?_
    refine g_istore 49 (gd rfl) rfl (Nat.le_of_ble_eq_true rfl) ?_
    have n49 : (x3).toInt ≤ (x3).toInt := by exact Int.le_refl _
    have n49a : 0 ≤ ((Int32.ofInt 0)).toInt := by have a0 := oa3 i10 h2 ((in_c 0 rfl)); omega
    have m49 : 32 - ((Int32.ofInt 0)).toInt < ((33 : Nat) : Int) := by have a0 := oa3 i10 h2 ((in_c 0 rfl)); omega
    exact gg_w (by first | exact Nat.le_of_ble_eq_true rfl | omega) (gg_f (gf_cons rfl (gf_cons rfl (gf_cons rfl (gf_cons rfl (gf_cons rfl (gf_cons rfl gf_nil)))))) (ct49 33 (sI (sI s 61 z2.toNatClampNeg z33) 61 x3.toNatClampNeg z19) x3 (Int32.ofInt 0) hI42 (fr_sI rfl (fr_sI rfl fr_rf)) (in_w 0 31 i10 rfl) (in_w 0 32 (in_c 0 rfl) rfl) n49 n49a m49))

def fm_56_102_46 : FM := ([103, 104], [], [(46, 2), (46, 3), (46, 4), (46, 5), (46, 6), (46, 7), (102, 1), (102, 2), (102, 4)], [])
/-- GraphHouse$Engine.adopt -/
theorem k_56_102_46 {Z : AmZ} {A : Nat → Nat} {s : GS} {ex : va_W} {d : Nat} {X : AmX}  (hd : 296 ≤ d) (hI : Inv s)  : GC Z d 56 [.ref (A 102), .ref (A 46)] (WW Z A s ++ ex) 0 0 (fun v u => ∃ t : GS, Inv t ∧ Fr fm_56_102_46 s t ∧ ∃ z : Int32, v = some (.int z) ∧ u = WW Z A t ++ ex ∧ In z 0 1) X := by
  intro post xp hP hX
  obtain ⟨u_46_1, e_46_1⟩ : ∃ w, w = s.2.2.1 46 1 := ⟨_, rfl⟩
  have ro_46_1 := inv_F hI 0 1000 rfl e_46_1
  refine g_enter2 (k := 56) (N := 900) (by first | exact dq1 hd rfl | exact dq0 hd rfl | exact dq2 hd rfl | exact dq3 hd rfl | omega) rfl (Nat.le_of_ble_eq_true rfl) ?_
  refine g_aload_n 1 (gd rfl) rfl rfl ?_
  refine g_callv (X := _) (As := []) (r := []) (b := A 46) (q := 46) 4 (gd rfl) rfl rfl rfl rfl rfl (ww_o rfl) (Nat.le_of_ble_eq_true rfl) (mc := 0) (ms := 0) (Nat.zero_le _) (Nat.zero_le _) (P := fun v u => _) ?_ (fun e u h => h) (fun v u h => h)
  intro po1 xx1 hp1 hx1
  refine g_enter2 (k := 167) (N := 300) (by first | exact dq1 hd rfl | exact dq0 hd rfl | exact dq2 hd rfl | exact dq3 hd rfl | omega) rfl (Nat.le_of_ble_eq_true rfl) ?_
  refine g_aload_n 1 (gd rfl) rfl rfl ?_
  refine g_iconst 0 2 (gd rfl) rfl rfl ?_
  refine g_putI 5 (gd rfl) rfl rfl rfl rfl ?_
  have hI1x2 := rng_sF (q := 46) (j := 2) hI.1 rfl (in_w 0 1000 (in_c 0 rfl) rfl)
  refine g_aload_n 6 (gd rfl) rfl rfl ?_
  refine g_iconst (-1) 7 (gd rfl) rfl rfl ?_
  refine g_putI 10 (gd rfl) rfl rfl rfl rfl ?_
  have hI1x7 := rng_sF (q := 46) (j := 6) hI1x2 rfl (in_w (-1) 5 (in_c (-1) rfl) rfl)
  refine g_aload_n 11 (gd rfl) rfl rfl ?_
  refine g_iconst (-1) 12 (gd rfl) rfl rfl ?_
  refine g_putI 15 (gd rfl) rfl rfl rfl rfl ?_
  have hI1x12 := rng_sF (q := 46) (j := 7) hI1x7 rfl (in_w (-1) 1000 (in_c (-1) rfl) rfl)
  refine g_return (gd rfl) rfl (hp1 _ _ ?_)
  show GG _ _ _ _ _ _ _ _ [] _ _ _
  refine g_aload_n 5 (gd rfl) rfl rfl ?_
  refine g_getI 8 (gd rfl) rfl rfl rfl (fun z5 e5 => ?_)
  have q5 : u_46_1 = z5 := (sF_ne rfl (sF_ne rfl (sF_ne rfl (e_46_1)))).trans e5.symm
  subst q5
  refine g_bipush 120 10 (gd rfl) rfl rfl ?_
  refine g_cmp_le 13 21 (gd rfl) rfl rfl (fun c10 => ?_) (fun c10 => ?_)
  · skip
    have i10 := r_le1 0 120 c10 ro_46_1 (in_c 120 rfl) rfl
    refine g_aload_n 22 (gd rfl) rfl rfl ?_
    refine g_iconst 0 23 (gd rfl) rfl rfl ?_
    refine g_putI 26 (gd rfl) rfl rfl rfl rfl ?_
    have hI23 := rng_sF (q := 102) (j := 4) hI1x12 rfl (in_w 0 120 (in_c 0 rfl) rfl)
    refine g_aload_n 27 (gd rfl) rfl rfl ?_
    refine g_bipush 6 29 (gd rfl) rfl rfl ?_
    refine g_iconst 0 30 (gd rfl) rfl rfl ?_
    have hI30 : Inv (sF (sF (sF (sF s 46 2 (Int32.ofInt 0)) 46 6 (Int32.ofInt (-1))) 46 7 (Int32.ofInt (-1))) 102 4 (Int32.ofInt 0)) := by have hFF : Fr ([104], [], [(46, 2), (46, 3), (46, 4), (46, 5), (46, 6), (46, 7), (102, 4)], []) s (sF (sF (sF (sF s 46 2 (Int32.ofInt 0)) 46 6 (Int32.ofInt (-1))) 46 7 (Int32.ofInt (-1))) 102 4 (Int32.ofInt 0)) := (fr_sF rfl (fr_sF rfl (fr_sF rfl (fr_sF rfl fr_rf)))); exact ⟨hI23, kk_all hI.2 hFF rfl⟩
    have v30 : (Int32.ofInt 0) = (sF (sF (sF (sF s 46 2 (Int32.ofInt 0)) 46 6 (Int32.ofInt (-1))) 46 7 (Int32.ofInt (-1))) 102 4 (Int32.ofInt 0)).2.2.1 46 2 := sF_ne rfl (sF_ne rfl (sF_ne rfl (sF_get)))
    have v30a : u_46_1 = (sF (sF (sF (sF s 46 2 (Int32.ofInt 0)) 46 6 (Int32.ofInt (-1))) 46 7 (Int32.ofInt (-1))) 102 4 (Int32.ofInt 0)).2.2.1 46 1 := sF_ne rfl (sF_ne rfl (sF_ne rfl (sF_ne rfl (e_46_1))))
    have n30 : ((Int32.ofInt 0)).toInt ≤ (u_46_1).toInt := by have a0 := oa3 i10 ((in_c 0 rfl)) ((in_c (-1) rfl)); omega
    refine g_callv (X := _) (As := [.int (Int32.ofInt 6), .int (Int32.ofInt 0)]) (r := []) (b := A 46) (q := 46) 33 (gd rfl) rfl rfl rfl rfl rfl (ww_o rfl) (Nat.le_of_ble_eq_true rfl) (Nat.zero_le _) (Nat.zero_le _) (k_171_46 (by first | exact dq1 hd rfl | exact dq0 hd rfl | exact dq2 hd rfl | exact dq3 hd rfl | omega) hI30 (in_w 6 7 (in_c 6 rfl) rfl) (in_w 0 1 (in_c 0 rfl) rfl) v30 v30a n30) (fun e u h => h) (fun v u h => ?_)
    obtain ⟨s30, hI30a, hF30, n30a, n30b, n30c, rfl, rfl, p30, p30a⟩ := h
    obtain ⟨z30a, e30⟩ : ∃ w, w = s30.2.2.1 46 2 := ⟨_, rfl⟩
    have i30a := rng_F hI30a.1 0 1000 rfl e30
    obtain ⟨z30b, e30a⟩ : ∃ w, w = s30.2.2.1 46 4 := ⟨_, rfl⟩
    have i30b := rng_F hI30a.1 0 1000 rfl e30a
    rw [← (show z30a = s30.2.2.1 46 2 from e30)] at n30a
    rw [← (show u_46_1 = s30.2.2.1 46 1 from fr_F (s := (sF (sF (sF (sF s 46 2 (Int32.ofInt 0)) 46 6 (Int32.ofInt (-1))) 46 7 (Int32.ofInt (-1))) 102 4 (Int32.ofInt 0))) (sF_ne rfl (sF_ne rfl (sF_ne rfl (sF_ne rfl (e_46_1))))) hF30 rfl)] at n30a
    rw [← (show z30a = s30.2.2.1 46 2 from e30)] at n30b
    rw [← (show z30b = s30.2.2.1 46 4 from e30a)] at n30b
    rw [← (show (Int32.ofInt 0) = (sF (sF (sF (sF s 46 2 (Int32.ofInt 0)) 46 6 (Int32.ofInt (-1))) 46 7 (Int32.ofInt (-1))) 102 4 (Int32.ofInt 0)).2.2.1 46 2 from sF_ne rfl (sF_ne rfl (sF_ne rfl (sF_get))))] at n30c
    rw [← (show z30b = s30.2.2.1 46 4 from e30a)] at n30c
    show GG _ _ _ _ _ _ _ _ [] _ _ _
    refine g_aload_n 34 (gd rfl) rfl rfl ?_
    refine g_aload_n 35 (gd rfl) rfl rfl ?_
    refine g_iconst 0 36 (gd rfl) rfl rfl ?_
    have hI36 : Inv s30 := by have hFF : Fr ([104], [], [(46, 2), (46, 3), (46, 4), (46, 5), (46, 6), (46, 7), (102, 4)], []) s s30 := (fr_tr rfl (fr_sF rfl (fr_sF rfl (fr_sF rfl (fr_sF rfl fr_rf)))) hF30); exact ⟨hI30a.1, kk_all hI.2 hFF rfl⟩
    have v36 : u_46_1 = s30.2.2.1 46 1 := fr_F (s := (sF (sF (sF (sF s 46 2 (Int32.ofInt 0)) 46 6 (Int32.ofInt (-1))) 46 7 (Int32.ofInt (-1))) 102 4 (Int32.ofInt 0))) (sF_ne rfl (sF_ne rfl (sF_ne rfl (sF_ne rfl (e_46_1))))) hF30 rfl
    have v36a : (Int32.ofInt 0) = s30.2.2.1 102 4 := fr_F (s := (sF (sF (sF (sF s 46 2 (Int32.ofInt 0)) 46 6 (Int32.ofInt (-1))) 46 7 (Int32.ofInt (-1))) 102 4 (Int32.ofInt 0))) (sF_get) hF30 rfl
    have n36 : (z30a).toInt ≤ (u_46_1).toInt := by have a0 := oa5 i10 i30b i30a ((in_c 0 rfl)) ((in_c (-1) rfl)); omega
    have n36a : (z30b).toInt ≤ (z30a).toInt := by have a0 := oa5 i10 i30b i30a ((in_c 0 rfl)) ((in_c (-1) rfl)); omega
    have n36b : ((Int32.ofInt 0)).toInt ≤ (z30b).toInt := by have a0 := oa5 i10 i30b i30a ((in_c 0 rfl)) ((in_c (-1) rfl)); omega
    have p36 : TK s30 := by exact p30 (by decide)
    refine g_callv (X := _) (As := [.ref (A 46), .int (Int32.ofInt 0)]) (r := []) (b := A 102) (q := 102) 39 (gd rfl) rfl rfl rfl rfl rfl (ww_o rfl) (Nat.le_of_ble_eq_true rfl) (Nat.zero_le _) (Nat.zero_le _) (k_58_102_46 (by first | exact dq1 hd rfl | exact dq0 hd rfl | exact dq2 hd rfl | exact dq3 hd rfl | omega) hI36 (in_w 0 10 (in_c 0 rfl) rfl) e30 v36 e30a rfl rfl v36a (in_w 0 120 i10 rfl) n36 n36a n36b p36) (fun e u h => h) (fun v u h => ?_)
    obtain ⟨s36, hI36a, hF36, n36c, n36d, n36e, n36f, z36, rfl, rfl, i36, p36a, p36b⟩ := h
    obtain ⟨z36a, e36⟩ : ∃ w, w = s36.2.2.1 46 2 := ⟨_, rfl⟩
    have i36a := rng_F hI36a.1 0 1000 rfl e36
    obtain ⟨z36b, e36a⟩ : ∃ w, w = s36.2.2.1 46 4 := ⟨_, rfl⟩
    have i36b := rng_F hI36a.1 0 1000 rfl e36a
    obtain ⟨z36c, e36b⟩ : ∃ w, w = s36.2.2.1 102 4 := ⟨_, rfl⟩
    have i36c := rng_F hI36a.1 0 120 rfl e36b
    rw [← (show z36a = s36.2.2.1 46 2 from e36)] at n36c
    rw [← (show u_46_1 = s36.2.2.1 46 1 from fr_F (fr_F (s := (sF (sF (sF (sF s 46 2 (Int32.ofInt 0)) 46 6 (Int32.ofInt (-1))) 46 7 (Int32.ofInt (-1))) 102 4 (Int32.ofInt 0))) (sF_ne rfl (sF_ne rfl (sF_ne rfl (sF_ne rfl (e_46_1))))) hF30 rfl) hF36 rfl)] at n36c
    rw [← (show z36a = s36.2.2.1 46 2 from e36)] at n36d
    rw [← (show z36b = s36.2.2.1 46 4 from e36a)] at n36d
    rw [← (show z36b = s36.2.2.1 46 4 from e36a)] at n36e
    rw [← (show z36c = s36.2.2.1 102 4 from e36b)] at n36e
    rw [← (show z30b = s30.2.2.1 46 4 from e30a)] at n36f
    rw [← (show (Int32.ofInt 0) = s30.2.2.1 102 4 from fr_F (s := (sF (sF (sF (sF s 46 2 (Int32.ofInt 0)) 46 6 (Int32.ofInt (-1))) 46 7 (Int32.ofInt (-1))) 102 4 (Int32.ofInt 0))) (sF_get) hF30 rfl)] at n36f
    rw [← (show z36b = s36.2.2.1 46 4 from e36a)] at n36f
    rw [← (show z36c = s36.2.2.1 102 4 from e36b)] at n36f
    show GG _ _ _ _ _ _ _ _ [.int z36] _ _ _
    refine g_if_ne 42 44 (gd rfl) rfl rfl (fun c39 => ?_) (fun c39 => ?_)
    · skip
      have i39 := z_ne 1 1 c39 i36 rfl
      refine g_aload_n 45 (gd rfl) rfl rfl ?_
      refine g_bipush 59 47 (gd rfl) rfl rfl ?_
      refine g_callv (X := _) (As := [.int (Int32.ofInt 59)]) (r := []) (b := A 46) (q := 46) 50 (gd rfl) rfl rfl rfl rfl rfl (ww_o rfl) (Nat.le_of_ble_eq_true rfl) (mc := 0) (ms := 0) (Nat.zero_le _) (Nat.zero_le _) (P := fun v u => _) ?_ (fun e u h => h) (fun v u h => h)
      intro po47 xx47 hp47 hx47
      refine g_enter2 (k := 170) (N := 300) (by first | exact dq1 hd rfl | exact dq0 hd rfl | exact dq2 hd rfl | exact dq3 hd rfl | omega) rfl (Nat.le_of_ble_eq_true rfl) ?_
      refine g_aload_n 1 (gd rfl) rfl rfl ?_
      refine g_getI 4 (gd rfl) rfl rfl rfl (fun z47x1 e47x1 => ?_)
      have i47x1 := rng_F hI36a.1 0 5 rfl e47x1
      refine g_iconst 3 5 (gd rfl) rfl rfl ?_
      refine g_cmp_ne 8 20 (gd rfl) rfl rfl (fun c47x5 => ?_) (fun c47x5 => ?_)
      · skip
        refine g_iconst 0 21 (gd rfl) rfl rfl ?_
        refine g_ireturn (gd rfl) rfl (nb01 (in_w 0 1 (in_c 0 rfl) rfl)) (hp47 _ _ ?_)
        show GG _ _ _ _ _ _ _ _ [.int (Int32.ofInt 0)] _ _ _
        refine g_if_ne 53 60 (gd rfl) rfl rfl (fun c50 => ?_) (fun c50 => ?_)
        · skip
          exact zn_ne c50 (in_c 0 rfl) rfl
        · skip
          refine g_aload_n 54 (gd rfl) rfl rfl ?_
          refine g_iconst 2 55 (gd rfl) rfl rfl ?_
          refine g_iconst 4 56 (gd rfl) rfl rfl ?_
          have hI56 : Inv s36 := by have hFF : Fr ([104], [], [(46, 2), (46, 3), (46, 4), (46, 5), (46, 6), (46, 7), (102, 4)], []) s s36 := (fr_tr rfl (fr_tr rfl (fr_sF rfl (fr_sF rfl (fr_sF rfl (fr_sF rfl fr_rf)))) hF30) hF36); exact ⟨hI36a.1, kk_all hI.2 hFF rfl⟩
          refine g_callv (X := _) (As := [.int (Int32.ofInt 2), .int (Int32.ofInt 4)]) (r := []) (b := A 46) (q := 46) 59 (gd rfl) rfl rfl rfl rfl rfl (ww_o rfl) (Nat.le_of_ble_eq_true rfl) (Nat.zero_le _) (Nat.zero_le _) (k_169_46 (by first | exact dq1 hd rfl | exact dq0 hd rfl | exact dq2 hd rfl | exact dq3 hd rfl | omega) hI56 (in_w 2 2 (in_c 2 rfl) rfl) (in_w 3 4 (in_c 4 rfl) rfl)) (fun e u h => h) (fun v u h => ?_)
          obtain ⟨s56, hI56a, hF56, z56, rfl, rfl, i56⟩ := h
          show GG _ _ _ _ _ _ _ _ [.int z56] _ _ _
          have hI59 : Inv s56 := by have hFF : Fr ([104], [], [(46, 2), (46, 3), (46, 4), (46, 5), (46, 6), (46, 7), (102, 4)], []) s s56 := (fr_tr rfl (fr_tr rfl (fr_tr rfl (fr_sF rfl (fr_sF rfl (fr_sF rfl (fr_sF rfl fr_rf)))) hF30) hF36) hF56); exact ⟨hI56a.1, kk_all hI.2 hFF rfl⟩
          exact g_ireturn (gd rfl) rfl (nb01 (in_w 0 1 i56 rfl)) (hP _ _ ⟨s56, hI59, (fr_tr rfl (fr_tr rfl (fr_tr rfl (fr_sF rfl (fr_sF rfl (fr_sF rfl (fr_sF rfl fr_rf)))) hF30) hF36) hF56), z56, rfl, rfl, in_w 0 1 i56 rfl⟩)
      · skip
        have i47x5 := r_eq1 3 3 c47x5 i47x1 (in_c 3 rfl) rfl
        refine g_aload_n 9 (gd rfl) rfl rfl ?_
        refine g_getI 12 (gd rfl) rfl rfl rfl (fun z47x9 e47x9 => ?_)
        refine g_iload_n 13 (gd rfl) rfl rfl ?_
        refine g_cmp_ne 16 20 (gd rfl) rfl rfl (fun c47x13 => ?_) (fun c47x13 => ?_)
        · skip
          refine g_iconst 0 21 (gd rfl) rfl rfl ?_
          refine g_ireturn (gd rfl) rfl (nb01 (in_w 0 1 (in_c 0 rfl) rfl)) (hp47 _ _ ?_)
          show GG _ _ _ _ _ _ _ _ [.int (Int32.ofInt 0)] _ _ _
          refine g_if_ne 53 60 (gd rfl) rfl rfl (fun c50 => ?_) (fun c50 => ?_)
          · skip
            exact zn_ne c50 (in_c 0 rfl) rfl
          · skip
            refine g_aload_n 54 (gd rfl) rfl rfl ?_
            refine g_iconst 2 55 (gd rfl) rfl rfl ?_
            refine g_iconst 4 56 (gd rfl) rfl rfl ?_
            have hI56 : Inv s36 := by have hFF : Fr ([104], [], [(46, 2), (46, 3), (46, 4), (46, 5), (46, 6), (46, 7), (102, 4)], []) s s36 := (fr_tr rfl (fr_tr rfl (fr_sF rfl (fr_sF rfl (fr_sF rfl (fr_sF rfl fr_rf)))) hF30) hF36); exact ⟨hI36a.1, kk_all hI.2 hFF rfl⟩
            refine g_callv (X := _) (As := [.int (Int32.ofInt 2), .int (Int32.ofInt 4)]) (r := []) (b := A 46) (q := 46) 59 (gd rfl) rfl rfl rfl rfl rfl (ww_o rfl) (Nat.le_of_ble_eq_true rfl) (Nat.zero_le _) (Nat.zero_le _) (k_169_46 (by first | exact dq1 hd rfl | exact dq0 hd rfl | exact dq2 hd rfl | exact dq3 hd rfl | omega) hI56 (in_w 2 2 (in_c 2 rfl) rfl) (in_w 3 4 (in_c 4 rfl) rfl)) (fun e u h => h) (fun v u h => ?_)
            obtain ⟨s56, hI56a, hF56, z56, rfl, rfl, i56⟩ := h
            show GG _ _ _ _ _ _ _ _ [.int z56] _ _ _
            have hI59 : Inv s56 := by have hFF : Fr ([104], [], [(46, 2), (46, 3), (46, 4), (46, 5), (46, 6), (46, 7), (102, 4)], []) s s56 := (fr_tr rfl (fr_tr rfl (fr_tr rfl (fr_sF rfl (fr_sF rfl (fr_sF rfl (fr_sF rfl fr_rf)))) hF30) hF36) hF56); exact ⟨hI56a.1, kk_all hI.2 hFF rfl⟩
            exact g_ireturn (gd rfl) rfl (nb01 (in_w 0 1 i56 rfl)) (hP _ _ ⟨s56, hI59, (fr_tr rfl (fr_tr rfl (fr_tr rfl (fr_sF rfl (fr_sF rfl (fr_sF rfl (fr_sF rfl fr_rf)))) hF30) hF36) hF56), z56, rfl, rfl, in_w 0 1 i56 rfl⟩)
        · skip
          have i47x13 := r_eq1 59 59 c47x13 (i_rng z47x9) (in_c 59 rfl) rfl
          refine g_iconst 1 17 (gd rfl) rfl rfl ?_
          refine g_goto 21 (gd rfl) rfl ?_
          refine g_ireturn (gd rfl) rfl (nb01 (in_w 0 1 (in_c 1 rfl) rfl)) (hp47 _ _ ?_)
          show GG _ _ _ _ _ _ _ _ [.int (Int32.ofInt 1)] _ _ _
          refine g_if_ne 53 60 (gd rfl) rfl rfl (fun c50 => ?_) (fun c50 => ?_)
          · skip
            refine g_aload_n 61 (gd rfl) rfl rfl ?_
            refine g_getI 64 (gd rfl) rfl rfl rfl (fun z61 e61 => ?_)
            have q61 : z36c = z61 := (e36b).trans e61.symm
            subst q61
            refine g_istore_n 65 (gd rfl) rfl (Nat.le_of_ble_eq_true rfl) ?_
            refine g_aload_n 66 (gd rfl) rfl rfl ?_
            refine g_bipush 6 68 (gd rfl) rfl rfl ?_
            refine g_iconst 0 69 (gd rfl) rfl rfl ?_
            have hI69 : Inv s36 := by have hFF : Fr ([104], [], [(46, 2), (46, 3), (46, 4), (46, 5), (46, 6), (46, 7), (102, 4)], []) s s36 := (fr_tr rfl (fr_tr rfl (fr_sF rfl (fr_sF rfl (fr_sF rfl (fr_sF rfl fr_rf)))) hF30) hF36); exact ⟨hI36a.1, kk_all hI.2 hFF rfl⟩
            have v69 : u_46_1 = s36.2.2.1 46 1 := fr_F (fr_F (s := (sF (sF (sF (sF s 46 2 (Int32.ofInt 0)) 46 6 (Int32.ofInt (-1))) 46 7 (Int32.ofInt (-1))) 102 4 (Int32.ofInt 0))) (sF_ne rfl (sF_ne rfl (sF_ne rfl (sF_ne rfl (e_46_1))))) hF30 rfl) hF36 rfl
            have n69 : (z36a).toInt ≤ (u_46_1).toInt := by have a0 := oa6 i10 i36c i47x13 i47x5 i36b i36a; omega
            refine g_callv (X := _) (As := [.int (Int32.ofInt 6), .int (Int32.ofInt 0)]) (r := []) (b := A 46) (q := 46) 72 (gd rfl) rfl rfl rfl rfl rfl (ww_o rfl) (Nat.le_of_ble_eq_true rfl) (Nat.zero_le _) (Nat.zero_le _) (k_171_46 (by first | exact dq1 hd rfl | exact dq0 hd rfl | exact dq2 hd rfl | exact dq3 hd rfl | omega) hI69 (in_w 6 7 (in_c 6 rfl) rfl) (in_w 0 1 (in_c 0 rfl) rfl) e36 v69 n69) (fun e u h => h) (fun v u h => ?_)
            obtain ⟨s69, hI69a, hF69, n69a, n69b, n69c, rfl, rfl, p69, p69a⟩ := h
            obtain ⟨z69a, e69⟩ : ∃ w, w = s69.2.2.1 46 2 := ⟨_, rfl⟩
            have i69a := rng_F hI69a.1 0 1000 rfl e69
            obtain ⟨z69b, e69a⟩ : ∃ w, w = s69.2.2.1 46 4 := ⟨_, rfl⟩
            have i69b := rng_F hI69a.1 0 1000 rfl e69a
            rw [← (show z69a = s69.2.2.1 46 2 from e69)] at n69a
            rw [← (show u_46_1 = s69.2.2.1 46 1 from fr_F (fr_F (fr_F (s := (sF (sF (sF (sF s 46 2 (Int32.ofInt 0)) 46 6 (Int32.ofInt (-1))) 46 7 (Int32.ofInt (-1))) 102 4 (Int32.ofInt 0))) (sF_ne rfl (sF_ne rfl (sF_ne rfl (sF_ne rfl (e_46_1))))) hF30 rfl) hF36 rfl) hF69 rfl)] at n69a
            rw [← (show z69a = s69.2.2.1 46 2 from e69)] at n69b
            rw [← (show z69b = s69.2.2.1 46 4 from e69a)] at n69b
            rw [← (show z36a = s36.2.2.1 46 2 from e36)] at n69c
            rw [← (show z69b = s69.2.2.1 46 4 from e69a)] at n69c
            show GG _ _ _ _ _ _ _ _ [] _ _ _
            refine g_aload_n 73 (gd rfl) rfl rfl ?_
            refine g_aload_n 74 (gd rfl) rfl rfl ?_
            refine g_iconst 0 75 (gd rfl) rfl rfl ?_
            have hI75 : Inv s69 := by have hFF : Fr ([104], [], [(46, 2), (46, 3), (46, 4), (46, 5), (46, 6), (46, 7), (102, 4)], []) s s69 := (fr_tr rfl (fr_tr rfl (fr_tr rfl (fr_sF rfl (fr_sF rfl (fr_sF rfl (fr_sF rfl fr_rf)))) hF30) hF36) hF69); exact ⟨hI69a.1, kk_all hI.2 hFF rfl⟩
            have v75 : u_46_1 = s69.2.2.1 46 1 := fr_F (fr_F (fr_F (s := (sF (sF (sF (sF s 46 2 (Int32.ofInt 0)) 46 6 (Int32.ofInt (-1))) 46 7 (Int32.ofInt (-1))) 102 4 (Int32.ofInt 0))) (sF_ne rfl (sF_ne rfl (sF_ne rfl (sF_ne rfl (e_46_1))))) hF30 rfl) hF36 rfl) hF69 rfl
            have v75a : z36c = s69.2.2.1 102 4 := fr_F (e36b) hF69 rfl
            have n75 : (z69a).toInt ≤ (u_46_1).toInt := by have a0 := oa4 i10 i36c i69b i69a; omega
            have n75a : (z69b).toInt ≤ (z69a).toInt := by have a0 := oa4 i10 i36c i69b i69a; omega
            have n75b : (z36c).toInt ≤ (z69b).toInt := by have a0 := oa4 i10 i36c i69b i69a; omega
            have p75 : TK s69 := by exact p69 (by decide)
            refine g_callv (X := _) (As := [.ref (A 46), .int (Int32.ofInt 0)]) (r := []) (b := A 102) (q := 102) 78 (gd rfl) rfl rfl rfl rfl rfl (ww_o rfl) (Nat.le_of_ble_eq_true rfl) (Nat.zero_le _) (Nat.zero_le _) (k_58_102_46 (by first | exact dq1 hd rfl | exact dq0 hd rfl | exact dq2 hd rfl | exact dq3 hd rfl | omega) hI75 (in_w 0 10 (in_c 0 rfl) rfl) e69 v75 e69a rfl rfl v75a (in_w 0 120 i10 rfl) n75 n75a n75b p75) (fun e u h => h) (fun v u h => ?_)
            obtain ⟨s75, hI75a, hF75, n75c, n75d, n75e, n75f, z75, rfl, rfl, i75, p75a, p75b⟩ := h
            obtain ⟨z75a, e75⟩ : ∃ w, w = s75.2.2.1 46 2 := ⟨_, rfl⟩
            have i75a := rng_F hI75a.1 0 1000 rfl e75
            obtain ⟨z75b, e75a⟩ : ∃ w, w = s75.2.2.1 46 4 := ⟨_, rfl⟩
            have i75b := rng_F hI75a.1 0 1000 rfl e75a
            obtain ⟨z75c, e75b⟩ : ∃ w, w = s75.2.2.1 102 4 := ⟨_, rfl⟩
            have i75c := rng_F hI75a.1 0 120 rfl e75b
            rw [← (show z75a = s75.2.2.1 46 2 from e75)] at n75c
            rw [← (show u_46_1 = s75.2.2.1 46 1 from fr_F (fr_F (fr_F (fr_F (s := (sF (sF (sF (sF s 46 2 (Int32.ofInt 0)) 46 6 (Int32.ofInt (-1))) 46 7 (Int32.ofInt (-1))) 102 4 (Int32.ofInt 0))) (sF_ne rfl (sF_ne rfl (sF_ne rfl (sF_ne rfl (e_46_1))))) hF30 rfl) hF36 rfl) hF69 rfl) hF75 rfl)] at n75c
            rw [← (show z75a = s75.2.2.1 46 2 from e75)] at n75d
            rw [← (show z75b = s75.2.2.1 46 4 from e75a)] at n75d
            rw [← (show z75b = s75.2.2.1 46 4 from e75a)] at n75e
            rw [← (show z75c = s75.2.2.1 102 4 from e75b)] at n75e
            rw [← (show z69b = s69.2.2.1 46 4 from e69a)] at n75f
            rw [← (show z36c = s69.2.2.1 102 4 from fr_F (e36b) hF69 rfl)] at n75f
            rw [← (show z75b = s75.2.2.1 46 4 from e75a)] at n75f
            rw [← (show z75c = s75.2.2.1 102 4 from e75b)] at n75f
            show GG _ _ _ _ _ _ _ _ [.int z75] _ _ _
            refine g_if_ne 81 83 (gd rfl) rfl rfl (fun c78 => ?_) (fun c78 => ?_)
            · skip
              have i78 := z_ne 1 1 c78 i75 rfl
              refine g_aload_n 84 (gd rfl) rfl rfl ?_
              refine g_getI 87 (gd rfl) rfl rfl rfl (fun z84 e84 => ?_)
              have i84 := rng_F hI75a.1 0 5 rfl e84
              refine g_if_eq 90 97 (gd rfl) rfl rfl (fun c87 => ?_) (fun c87 => ?_)
              · skip
                have i87 := z_eq 0 0 c87 i84 rfl
                refine g_aload_n 98 (gd rfl) rfl rfl ?_
                refine g_iload_n 99 (gd rfl) rfl rfl ?_
                refine g_putI 102 (gd rfl) rfl rfl rfl rfl ?_
                have hI99 := rng_sF (q := 102) (j := 1) hI75a.1 rfl (in_w 0 120 i36c rfl)
                refine g_aload_n 103 (gd rfl) rfl rfl ?_
                refine g_aload_n 104 (gd rfl) rfl rfl ?_
                refine g_getI 107 (gd rfl) rfl rfl rfl (fun z104 e104 => ?_)
                have q104 : z75c = z104 := (sF_ne rfl (e75b)).trans e104.symm
                subst q104
                refine g_putI 110 (gd rfl) rfl rfl rfl rfl ?_
                have hI107 := rng_sF (q := 102) (j := 2) hI99 rfl (in_w 0 120 i75c rfl)
                refine g_aload_n 111 (gd rfl) rfl rfl ?_
                refine g_getA (q2 := 104) 114 (gd rfl) rfl rfl rfl rfl ?_
                refine g_iconst 0 115 (gd rfl) rfl rfl ?_
                refine g_aload_n 116 (gd rfl) rfl rfl ?_
                refine g_getA (q2 := 103) 119 (gd rfl) rfl rfl rfl rfl ?_
                refine g_iconst 0 120 (gd rfl) rfl rfl ?_
                refine g_aload_n 121 (gd rfl) rfl rfl ?_
                refine g_getI 124 (gd rfl) rfl rfl rfl (fun z121 e121 => ?_)
                have q121 : z75c = z121 := (sF_ne rfl (sF_ne rfl (e75b))).trans e121.symm
                subst q121
                refine g_cpIr (q2 := 104) (q := 103) (n0 := 120) (n1 := 120) 127 (gd rfl) rfl rfl rfl rfl (Nat.le_of_ble_eq_true rfl) (cp_0 (in_c 0 rfl) rfl) (cp_0 (in_c 0 rfl) rfl) (cp_0 i75c rfl) (cp_1 (in_c 0 rfl) i75c rfl) (cp_1 (in_c 0 rfl) i75c rfl) hI107 rfl rfl rfl (fun s124 hI124 hF124 cp124 => ?_)
                refine g_iconst 1 128 (gd rfl) rfl rfl ?_
                have hI128 : Inv s124 := by have p1 := (p36b c39).2.2 0 0 (Nat.zero_le _) (by have e0 : CDL s30 = 0 := (by unfold CDL; rw [hF30.2.2.1 102 4 rfl]; rfl); rw [e0]; rfl); have p2 : PCV s36 s75 1 := pv_tr (j := 0) (k := 1) (pv_sm (hF69.1 104 rfl) (hF69.2.2.1 102 4 rfl)) (p75b c78); have hx : (s124.2.2.1 102 1).toInt.toNat = CDL s36 := (by rw [hF124.2.2.1 102 1 rfl, ← (show z36c = (sF (sF s75 102 1 z36c) 102 2 z75c).2.2.1 102 1 from sF_ne rfl sF_get), e36b]; rfl); have hy : (s124.2.2.1 102 2).toInt.toNat = CDL s75 := (by rw [hF124.2.2.1 102 2 rfl, ← (show z75c = (sF (sF s75 102 1 z36c) 102 2 z75c).2.2.1 102 2 from sF_get), e75b]; rfl); have hcp : ∀ k : Nat, k < CDL s75 → s124.1 103 k = s75.1 104 k := (fun k hk => by rw [cp124 k, show (Int32.ofInt 0).toNatClampNeg = 0 from rfl]; unfold va_cpy; rw [if_pos ⟨Nat.zero_le k, (by rw [e75b, Nat.zero_add]; exact hk)⟩, Nat.zero_add, Nat.sub_zero]; rfl); have hFF : Fr fm_56_102_46 s s124 := (fr_tr rfl (fr_sF rfl (fr_sF rfl (fr_tr rfl (fr_tr rfl (fr_tr rfl (fr_tr rfl (fr_sF rfl (fr_sF rfl (fr_sF rfl (fr_sF rfl fr_rf)))) hF30) hF36) hF69) hF75))) hF124); exact ⟨hI124, kk_cp hI.2 hFF rfl (kc_ad (s1 := s36) (s2 := s75) p1 p2 hx hy hcp)⟩
                exact g_ireturn (gd rfl) rfl (nb01 (in_w 0 1 (in_c 1 rfl) rfl)) (hP _ _ ⟨s124, hI128, (fr_tr rfl (fr_sF rfl (fr_sF rfl (fr_tr rfl (fr_tr rfl (fr_tr rfl (fr_tr rfl (fr_sF rfl (fr_sF rfl (fr_sF rfl (fr_sF rfl fr_rf)))) hF30) hF36) hF69) hF75))) hF124), (Int32.ofInt 1), rfl, rfl, in_w 0 1 (in_c 1 rfl) rfl⟩)
              · skip
                have i87 := z_ne 1 5 c87 i84 rfl
                refine g_aload_n 91 (gd rfl) rfl rfl ?_
                refine g_iconst 2 92 (gd rfl) rfl rfl ?_
                refine g_iconst 4 93 (gd rfl) rfl rfl ?_
                have hI93 : Inv s75 := by have hFF : Fr ([104], [], [(46, 2), (46, 3), (46, 4), (46, 5), (46, 6), (46, 7), (102, 4)], []) s s75 := (fr_tr rfl (fr_tr rfl (fr_tr rfl (fr_tr rfl (fr_sF rfl (fr_sF rfl (fr_sF rfl (fr_sF rfl fr_rf)))) hF30) hF36) hF69) hF75); exact ⟨hI75a.1, kk_all hI.2 hFF rfl⟩
                refine g_callv (X := _) (As := [.int (Int32.ofInt 2), .int (Int32.ofInt 4)]) (r := []) (b := A 46) (q := 46) 96 (gd rfl) rfl rfl rfl rfl rfl (ww_o rfl) (Nat.le_of_ble_eq_true rfl) (Nat.zero_le _) (Nat.zero_le _) (k_169_46 (by first | exact dq1 hd rfl | exact dq0 hd rfl | exact dq2 hd rfl | exact dq3 hd rfl | omega) hI93 (in_w 2 2 (in_c 2 rfl) rfl) (in_w 3 4 (in_c 4 rfl) rfl)) (fun e u h => h) (fun v u h => ?_)
                obtain ⟨s93, hI93a, hF93, z93, rfl, rfl, i93⟩ := h
                show GG _ _ _ _ _ _ _ _ [.int z93] _ _ _
                have hI96 : Inv s93 := by have hFF : Fr ([104], [], [(46, 2), (46, 3), (46, 4), (46, 5), (46, 6), (46, 7), (102, 4)], []) s s93 := (fr_tr rfl (fr_tr rfl (fr_tr rfl (fr_tr rfl (fr_tr rfl (fr_sF rfl (fr_sF rfl (fr_sF rfl (fr_sF rfl fr_rf)))) hF30) hF36) hF69) hF75) hF93); exact ⟨hI93a.1, kk_all hI.2 hFF rfl⟩
                exact g_ireturn (gd rfl) rfl (nb01 (in_w 0 1 i93 rfl)) (hP _ _ ⟨s93, hI96, (fr_tr rfl (fr_tr rfl (fr_tr rfl (fr_tr rfl (fr_tr rfl (fr_sF rfl (fr_sF rfl (fr_sF rfl (fr_sF rfl fr_rf)))) hF30) hF36) hF69) hF75) hF93), z93, rfl, rfl, in_w 0 1 i93 rfl⟩)
            · skip
              have i78 := z_eq 0 0 c78 i75 rfl
              refine g_iconst 0 82 (gd rfl) rfl rfl ?_
              have hI82 : Inv s75 := by have hFF : Fr ([104], [], [(46, 2), (46, 3), (46, 4), (46, 5), (46, 6), (46, 7), (102, 4)], []) s s75 := (fr_tr rfl (fr_tr rfl (fr_tr rfl (fr_tr rfl (fr_sF rfl (fr_sF rfl (fr_sF rfl (fr_sF rfl fr_rf)))) hF30) hF36) hF69) hF75); exact ⟨hI75a.1, kk_all hI.2 hFF rfl⟩
              exact g_ireturn (gd rfl) rfl (nb01 (in_w 0 1 (in_c 0 rfl) rfl)) (hP _ _ ⟨s75, hI82, (fr_tr rfl (fr_tr rfl (fr_tr rfl (fr_tr rfl (fr_sF rfl (fr_sF rfl (fr_sF rfl (fr_sF rfl fr_rf)))) hF30) hF36) hF69) hF75), (Int32.ofInt 0), rfl, rfl, in_w 0 1 (in_c 0 rfl) rfl⟩)
          · skip
            exact zn_eq c50 (in_c 1 rfl) rfl
    · skip
      have i39 := z_eq 0 0 c39 i36 rfl
      refine g_iconst 0 43 (gd rfl) rfl rfl ?_
      have hI43 : Inv s36 := by have hFF : Fr ([104], [], [(46, 2), (46, 3), (46, 4), (46, 5), (46, 6), (46, 7), (102, 4)], []) s s36 := (fr_tr rfl (fr_tr rfl (fr_sF rfl (fr_sF rfl (fr_sF rfl (fr_sF rfl fr_rf)))) hF30) hF36); exact ⟨hI36a.1, kk_all hI.2 hFF rfl⟩
      exact g_ireturn (gd rfl) rfl (nb01 (in_w 0 1 (in_c 0 rfl) rfl)) (hP _ _ ⟨s36, hI43, (fr_tr rfl (fr_tr rfl (fr_sF rfl (fr_sF rfl (fr_sF rfl (fr_sF rfl fr_rf)))) hF30) hF36), (Int32.ofInt 0), rfl, rfl, in_w 0 1 (in_c 0 rfl) rfl⟩)
  · skip
    have i10 := r_lt2 121 1000 c10 (in_c 120 rfl) ro_46_1 rfl
    refine g_aload_n 14 (gd rfl) rfl rfl ?_
    refine g_iconst 2 15 (gd rfl) rfl rfl ?_
    refine g_bipush 120 17 (gd rfl) rfl rfl ?_
    have hI17 : Inv (sF (sF (sF s 46 2 (Int32.ofInt 0)) 46 6 (Int32.ofInt (-1))) 46 7 (Int32.ofInt (-1))) := by have hFF : Fr ([104], [], [(46, 2), (46, 3), (46, 4), (46, 5), (46, 6), (46, 7), (102, 4)], []) s (sF (sF (sF s 46 2 (Int32.ofInt 0)) 46 6 (Int32.ofInt (-1))) 46 7 (Int32.ofInt (-1))) := (fr_sF rfl (fr_sF rfl (fr_sF rfl fr_rf))); exact ⟨hI1x12, kk_all hI.2 hFF rfl⟩
    refine g_callv (X := _) (As := [.int (Int32.ofInt 2), .int (Int32.ofInt 120)]) (r := []) (b := A 46) (q := 46) 20 (gd rfl) rfl rfl rfl rfl rfl (ww_o rfl) (Nat.le_of_ble_eq_true rfl) (Nat.zero_le _) (Nat.zero_le _) (k_168_46 (by first | exact dq1 hd rfl | exact dq0 hd rfl | exact dq2 hd rfl | exact dq3 hd rfl | omega) hI17 (in_w 1 5 (in_c 2 rfl) rfl) (in_w 0 1000 (in_c 120 rfl) rfl)) (fun e u h => h) (fun v u h => ?_)
    obtain ⟨s17, hI17a, hF17, z17, rfl, rfl, i17⟩ := h
    show GG _ _ _ _ _ _ _ _ [.int z17] _ _ _
    have hI20 : Inv s17 := by have hFF : Fr ([104], [], [(46, 2), (46, 3), (46, 4), (46, 5), (46, 6), (46, 7), (102, 4)], []) s s17 := (fr_tr rfl (fr_sF rfl (fr_sF rfl (fr_sF rfl fr_rf))) hF17); exact ⟨hI17a.1, kk_all hI.2 hFF rfl⟩
    exact g_ireturn (gd rfl) rfl (nb01 (in_w 0 1 i17 rfl)) (hP _ _ ⟨s17, hI20, (fr_tr rfl (fr_sF rfl (fr_sF rfl (fr_sF rfl fr_rf))) hF17), z17, rfl, rfl, in_w 0 1 i17 rfl⟩)

def fm_83_65 : FM := ([68, 73, 74], [75], [], [])
/-- GraphHouse$Flows.carryAll -/
theorem k_83_65 {Z : AmZ} {A : Nat → Nat} {s : GS} {ex : va_W} {d : Nat} {X : AmX} {x1 : Int32} {x2 : Int32} (hd : 4 ≤ d) (hI : Inv s) (h1 : In x1 0 32) (h2 : In x2 1 65536) : GC Z d 83 [.ref (A 65), .int x1, .int x2] (WW Z A s ++ ex) 0 0 (fun v u => ∃ t : GS, Inv t ∧ Fr fm_83_65 s t ∧ v = none ∧ u = WW Z A t ++ ex) X := by
  intro post xp hP hX
  have ct2 : ∀ (k2 : Nat) (sc2 : GS) (y2_3 : Int32), Inv sc2 → Fr fm_83_65 s sc2 → (In y2_3 0 2147483647) → 2147483647 - (y2_3).toInt < (k2 : Int) → GG Z (d - 1) 83 post (gx xp) (1 + k2 * 900) 2 (fun j => xlook j [(0, .ref (A 65)), (1, .int x1), (2, .int x2), (3, .int y2_3)]) [] (WW Z A sc2 ++ ex) 0 0 := by
    intro k2
    induction k2 with
    | zero => intro sc2 y2_3 hIc2 hFc2 j2_3 mm2; exact m_no mm2 j2_3 rfl
    | succ k2 ih2 =>
      intro sc2 y2_3 hIc2 hFc2 j2_3 mm2
      refine gg_w (M := 1 + k2 * 900 + 900) gws ?_
      refine g_iload_n 3 (gd rfl) rfl rfl ?_
      refine g_ldc 1000000 5 (gd rfl) rfl rfl ?_
      refine g_cmp_ge 8 36 (gd rfl) rfl rfl (fun c5 => ?_) (fun c5 => ?_)
      · skip
        have i5 := r_le2 1000000 2147483647 c5 (in_c 1000000 rfl) j2_3 rfl
        exact g_return (gd rfl) rfl (hP _ _ ⟨sc2, hIc2, hFc2, rfl, rfl⟩)
      · skip
        have i5 := r_lt1 0 999999 c5 j2_3 (in_c 1000000 rfl) rfl
        refine g_aload_n 9 (gd rfl) rfl rfl ?_
        refine g_iload_n 10 (gd rfl) rfl rfl ?_
        refine g_iload_n 11 (gd rfl) rfl rfl ?_
        refine g_callv (X := _) (As := [.int x1, .int x2]) (r := []) (b := A 65) (q := 65) 14 (gd rfl) rfl rfl rfl rfl rfl (ww_o rfl) (Nat.le_of_ble_eq_true rfl) (Nat.zero_le _) (Nat.zero_le _) (k_85_65 (by first | exact dq1 hd rfl | exact dq0 hd rfl | exact dq2 hd rfl | exact dq3 hd rfl | omega) hIc2 (in_w 0 32 h1 rfl) (in_w 1 65536 h2 rfl)) (fun e u h => h) (fun v u h => ?_)
        obtain ⟨s11, hI11, hF11, z11, rfl, rfl, i11⟩ := h
        show GG _ _ _ _ _ _ _ _ [.int z11] _ _ _
        refine g_istore 16 (gd rfl) rfl (Nat.le_of_ble_eq_true rfl) ?_
        refine g_iload 18 (gd rfl) rfl rfl ?_
        refine g_iconst (-1) 19 (gd rfl) rfl rfl ?_
        refine g_cmp_ne 22 23 (gd rfl) rfl rfl (fun c19 => ?_) (fun c19 => ?_)
        · skip
          have i19 := r_ne1 0 31 c19 i11 (in_c (-1) rfl) rfl
          refine g_aload_n 24 (gd rfl) rfl rfl ?_
          refine g_iload 26 (gd rfl) rfl rfl ?_
          refine g_callv (X := _) (As := [.int z11]) (r := []) (b := A 65) (q := 65) 29 (gd rfl) rfl rfl rfl rfl rfl (ww_o rfl) (Nat.le_of_ble_eq_true rfl) (Nat.zero_le _) (Nat.zero_le _) (k_88_65 (by first | exact dq1 hd rfl | exact dq0 hd rfl | exact dq2 hd rfl | exact dq3 hd rfl | omega) hI11 (in_w 0 31 i19 rfl)) (fun e u h => h) (fun v u h => ?_)
          obtain ⟨s26, hI26, hF26, z26, rfl, rfl⟩ := h
          show GG _ _ _ _ _ _ _ _ [.long z26] _ _ _
          refine g_pop2 30 (gd rfl) rfl rfl ?_
          refine g_iinc 33 (gd rfl) rfl rfl (Nat.le_of_ble_eq_true rfl) (fun z30 e30 => ?_)
          have i30 := in_add 1 1000000 e30 i5 (in_c 1 rfl) rfl rfl
          refine g_goto 2 (gd rfl) rfl ?_
          exact gg_w (by first | exact Nat.le_add_right _ _ | exact gw2 | exact gw3 | exact gwe rfl | exact gwf rfl | exact gwg rfl | exact gwh rfl | omega) (gg_f (gf_cons rfl (gf_cons rfl (gf_cons rfl (gf_cons rfl gf_nil)))) (ih2 s26 z30 hI26 (fr_tr rfl (fr_tr rfl hFc2 hF11) hF26) (in_w 0 2147483647 i30 rfl) (m_up mm2 (t_add e30 i5 (in_c 1 rfl) rfl) (in_w 1 1 (in_c 1 rfl) rfl))))
        · skip
          have i19 := r_eq1 (-1) (-1) c19 i11 (in_c (-1) rfl) rfl
          exact g_return (gd rfl) rfl (hP _ _ ⟨s11, hI11, (fr_tr rfl hFc2 hF11), rfl, rfl⟩)
  refine g_enter2 (k := 83) (N := 1932735284101) (by first | exact dq1 hd rfl | exact dq0 hd rfl | exact dq2 hd rfl | exact dq3 hd rfl | omega) rfl (Nat.le_of_ble_eq_true rfl) ?_
  refine g_iconst 0 1 (gd rfl) rfl rfl ?_
  refine g_istore_n 2 (gd rfl) rfl (Nat.le_of_ble_eq_true rfl) ?_
  exact gg_w (by first | exact Nat.le_of_ble_eq_true rfl | omega) (gg_f (gf_cons rfl (gf_cons rfl (gf_cons rfl (gf_cons rfl gf_nil)))) (ct2 2147483648 s (Int32.ofInt 0) hI fr_rf (in_w 0 2147483647 (in_c 0 rfl) rfl) (m_in 2147483648 (in_w 0 2147483647 (in_c 0 rfl) rfl) rfl)))

def fm_112_86_2 : FM := ([9, 10, 11, 12, 13, 14, 15, 89, 90, 91, 92, 93], [], [(2, 4), (86, 4), (86, 5)], [])
/-- GraphHouse$Groups.totalGain -/
theorem k_112_86_2 {Z : AmZ} {A : Nat → Nat} {s : GS} {ex : va_W} {d : Nat} {X : AmX}  (hd : 7 ≤ d) (hI : Inv s)  : GC Z d 112 [.ref (A 86), .ref (A 2)] (WW Z A s ++ ex) 0 0 (fun v u => ∃ t : GS, Inv t ∧ Fr fm_112_86_2 s t ∧ ∃ z : Int64, v = some (.long z) ∧ u = WW Z A t ++ ex) X := by
  intro post xp hP hX
  obtain ⟨u_2_1, e_2_1⟩ : ∃ w, w = s.2.2.1 2 1 := ⟨_, rfl⟩
  have ro_2_1 := inv_F hI 0 32 rfl e_2_1
  obtain ⟨u_2_3, e_2_3⟩ : ∃ w, w = s.2.2.1 2 3 := ⟨_, rfl⟩
  have ro_2_3 := inv_F hI 0 160 rfl e_2_3
  have ct76 : ∀ (k76 : Nat) (sc76 : GS) (y76_2 : Int64) (y76_4 : Int32), Inv sc76 → Fr fm_112_86_2 s sc76 → (In y76_4 0 32) → 32 - (y76_4).toInt < (k76 : Int) → GG Z (d - 1) 112 post (gx xp) (1 + k76 * 900) 76 (fun j => xlook j [(0, .ref (A 86)), (1, .ref (A 2)), (2, .long y76_2), (4, .int y76_4)]) [] (WW Z A sc76 ++ ex) 0 0 := by
    intro k76
    induction k76 with
    | zero => intro sc76 y76_2 y76_4 hIc76 hFc76 j76_4 mm76; exact m_no mm76 j76_4 rfl
    | succ k76 ih76 =>
      intro sc76 y76_2 y76_4 hIc76 hFc76 j76_4 mm76
      refine gg_w (M := 1 + k76 * 900 + 900) gws ?_
      refine g_iload 78 (gd rfl) rfl rfl ?_
      refine g_aload_n 79 (gd rfl) rfl rfl ?_
      refine g_getI 82 (gd rfl) rfl rfl rfl (fun z79 e79 => ?_)
      have q79 : u_2_1 = z79 := (fr_F e_2_1 hFc76 rfl).trans e79.symm
      subst q79
      refine g_cmp_ge 85 124 (gd rfl) rfl rfl (fun c82 => ?_) (fun c82 => ?_)
      · skip
        refine g_lload_n 125 (gd rfl) rfl rfl ?_
        exact g_lreturn (gd rfl) rfl (hP _ _ ⟨sc76, hIc76, hFc76, y76_2, rfl, rfl⟩)
      · skip
        have i82 := r_lt1 0 31 c82 j76_4 ro_2_1 rfl
        have i82a := r_lt2 1 32 c82 j76_4 ro_2_1 rfl
        refine g_lload_n 86 (gd rfl) rfl rfl ?_
        refine g_aload_n 87 (gd rfl) rfl rfl ?_
        refine g_getA (q2 := 91) 90 (gd rfl) rfl rfl rfl rfl ?_
        refine g_iload 92 (gd rfl) rfl rfl ?_
        refine g_iaload 93 (gd rfl) rfl (n := 32) rfl (in_ix i82 rfl) (fun z92 e92 => ?_)
        refine g_i2l 94 (gd rfl) rfl (fun z93 e93 => ?_)
        have i93 := l_i e93 (i_rng z92)
        refine g_aload_n 95 (gd rfl) rfl rfl ?_
        refine g_getA (q2 := 92) 98 (gd rfl) rfl rfl rfl rfl ?_
        refine g_aload_n 99 (gd rfl) rfl rfl ?_
        refine g_getA (q2 := 89) 102 (gd rfl) rfl rfl rfl rfl ?_
        refine g_iload 104 (gd rfl) rfl rfl ?_
        refine g_iaload 105 (gd rfl) rfl (n := 32) rfl (in_ix i82 rfl) (fun z104 e104 => ?_)
        have i104 := inv_I hIc76 (n := 32) (t := 0) 0 31 rfl (in_ix i82 rfl) rfl e104
        refine g_iaload 106 (gd rfl) rfl (n := 32) rfl (in_ix i104 rfl) (fun z105 e105 => ?_)
        refine g_aload_n 107 (gd rfl) rfl rfl ?_
        refine g_getA (q2 := 91) 110 (gd rfl) rfl rfl rfl rfl ?_
        refine g_iload 112 (gd rfl) rfl rfl ?_
        refine g_iaload 113 (gd rfl) rfl (n := 32) rfl (in_ix i82 rfl) (fun z112 e112 => ?_)
        have q112 : z92 = z112 := (e92).trans e112.symm
        subst q112
        refine g_isub 114 (gd rfl) rfl (fun z113 e113 => ?_)
        refine g_i2l 115 (gd rfl) rfl (fun z114 e114 => ?_)
        have i114 := l_i e114 (i_rng z113)
        refine g_lmul 116 (gd rfl) rfl (fun z115 e115 => ?_)
        refine g_lsub 117 (gd rfl) rfl (fun z116 e116 => ?_)
        refine g_lstore_n 118 (gd rfl) rfl (Nat.le_of_ble_eq_true rfl) ?_
        refine g_iinc 121 (gd rfl) rfl rfl (Nat.le_of_ble_eq_true rfl) (fun z118 e118 => ?_)
        have i118 := in_add 1 32 e118 i82 (in_c 1 rfl) rfl rfl
        refine g_goto 76 (gd rfl) rfl ?_
        exact gg_w (by first | exact Nat.le_add_right _ _ | exact gw2 | exact gw3 | exact gwe rfl | exact gwf rfl | exact gwg rfl | exact gwh rfl | omega) (gg_f (gf_cons rfl (gf_cons rfl (gf_cons rfl (gf_cons rfl gf_nil)))) (ih76 sc76 z116 z118 hIc76 hFc76 (in_w 0 32 i118 rfl) (m_up mm76 (t_add e118 i82 (in_c 1 rfl) rfl) (in_w 1 1 (in_c 1 rfl) rfl))))
  have ct10 : ∀ (k10 : Nat) (sc10 : GS) (y10_2 : Int64) (y10_4 : Int32), Inv sc10 → Fr fm_112_86_2 s sc10 → (In y10_4 0 160) → 160 - (y10_4).toInt < (k10 : Int) → GG Z (d - 1) 112 post (gx xp) (29702 + k10 * 900) 10 (fun j => xlook j [(0, .ref (A 86)), (1, .ref (A 2)), (2, .long y10_2), (4, .int y10_4)]) [] (WW Z A sc10 ++ ex) 0 0 := by
    intro k10
    induction k10 with
    | zero => intro sc10 y10_2 y10_4 hIc10 hFc10 j10_4 mm10; exact m_no mm10 j10_4 rfl
    | succ k10 ih10 =>
      intro sc10 y10_2 y10_4 hIc10 hFc10 j10_4 mm10
      refine gg_w (M := 29702 + k10 * 900 + 900) gws ?_
      refine g_iload 12 (gd rfl) rfl rfl ?_
      refine g_aload_n 13 (gd rfl) rfl rfl ?_
      refine g_getI 16 (gd rfl) rfl rfl rfl (fun z13 e13 => ?_)
      have q13 : u_2_3 = z13 := (fr_F e_2_3 hFc10 rfl).trans e13.symm
      subst q13
      refine g_cmp_ge 19 73 (gd rfl) rfl rfl (fun c16 => ?_) (fun c16 => ?_)
      · skip
        refine g_iconst 0 74 (gd rfl) rfl rfl ?_
        refine g_istore 76 (gd rfl) rfl (Nat.le_of_ble_eq_true rfl) ?_
        exact gg_w (by first | exact Nat.le_add_right _ _ | exact gw2 | exact gw3 | exact gwe rfl | exact gwf rfl | exact gwg rfl | exact gwh rfl | omega) (gg_f (gf_cons rfl (gf_cons rfl (gf_cons rfl (gf_cons rfl gf_nil)))) (ct76 33 sc10 y10_2 (Int32.ofInt 0) hIc10 hFc10 (in_w 0 32 (in_c 0 rfl) rfl) (m_in 33 (in_w 0 32 (in_c 0 rfl) rfl) rfl)))
      · skip
        have i16 := r_lt1 0 159 c16 j10_4 ro_2_3 rfl
        have i16a := r_lt2 1 160 c16 j10_4 ro_2_3 rfl
        refine g_aload_n 20 (gd rfl) rfl rfl ?_
        refine g_iload 22 (gd rfl) rfl rfl ?_
        refine g_callv (X := _) (As := [.int y10_4]) (r := []) (b := A 2) (q := 2) 25 (gd rfl) rfl rfl rfl rfl rfl (ww_o rfl) (Nat.le_of_ble_eq_true rfl) (mc := 0) (ms := 0) (Nat.zero_le _) (Nat.zero_le _) (P := fun v u => _) ?_ (fun e u h => h) (fun v u h => h)
        intro po22 xx22 hp22 hx22
        refine g_enter2 (k := 97) (N := 300) (by first | exact dq1 hd rfl | exact dq0 hd rfl | exact dq2 hd rfl | exact dq3 hd rfl | omega) rfl (Nat.le_of_ble_eq_true rfl) ?_
        refine g_aload_n 1 (gd rfl) rfl rfl ?_
        refine g_getA (q2 := 4) 4 (gd rfl) rfl rfl rfl rfl ?_
        refine g_iload_n 5 (gd rfl) rfl rfl ?_
        refine g_iaload 6 (gd rfl) rfl (n := 160) rfl (in_ix i16 rfl) (fun z22x5 e22x5 => ?_)
        have i22x5 := inv_I hIc10 (n := 160) (t := 0) (-1) 31 rfl (in_ix i16 rfl) rfl e22x5
        refine g_iconst (-1) 7 (gd rfl) rfl rfl ?_
        refine g_cmp_eq 10 29 (gd rfl) rfl rfl (fun c22x7 => ?_) (fun c22x7 => ?_)
        · skip
          have i22x7 := r_eq1 (-1) (-1) c22x7 i22x5 (in_c (-1) rfl) rfl
          refine g_iconst 0 30 (gd rfl) rfl rfl ?_
          refine g_ireturn (gd rfl) rfl (nb01 (in_w 0 1 (in_c 0 rfl) rfl)) (hp22 _ _ ?_)
          show GG _ _ _ _ _ _ _ _ [.int (Int32.ofInt 0)] _ _ _
          refine g_if_eq 28 67 (gd rfl) rfl rfl (fun c25 => ?_) (fun c25 => ?_)
          · skip
            refine g_iinc 70 (gd rfl) rfl rfl (Nat.le_of_ble_eq_true rfl) (fun z67 e67 => ?_)
            have i67 := in_add 1 160 e67 i16 (in_c 1 rfl) rfl rfl
            refine g_goto 10 (gd rfl) rfl ?_
            exact gg_w (by first | exact Nat.le_add_right _ _ | exact gw2 | exact gw3 | exact gwe rfl | exact gwf rfl | exact gwg rfl | exact gwh rfl | omega) (gg_f (gf_cons rfl (gf_cons rfl (gf_cons rfl (gf_cons rfl gf_nil)))) (ih10 sc10 y10_2 z67 hIc10 hFc10 (in_w 0 160 i67 rfl) (m_up mm10 (t_add e67 i16 (in_c 1 rfl) rfl) (in_w 1 1 (in_c 1 rfl) rfl))))
          · skip
            exact zn_ne c25 (in_c 0 rfl) rfl
        · skip
          have i22x7 := r_ne1 0 31 c22x7 i22x5 (in_c (-1) rfl) rfl
          refine g_aload_n 11 (gd rfl) rfl rfl ?_
          refine g_getA (q2 := 4) 14 (gd rfl) rfl rfl rfl rfl ?_
          refine g_iload_n 15 (gd rfl) rfl rfl ?_
          refine g_iaload 16 (gd rfl) rfl (n := 160) rfl (in_ix i16 rfl) (fun z22x15 e22x15 => ?_)
          have q22x15 : z22x5 = z22x15 := (e22x5).trans e22x15.symm
          subst q22x15
          refine g_aload_n 17 (gd rfl) rfl rfl ?_
          refine g_getA (q2 := 5) 20 (gd rfl) rfl rfl rfl rfl ?_
          refine g_iload_n 21 (gd rfl) rfl rfl ?_
          refine g_iaload 22 (gd rfl) rfl (n := 160) rfl (in_ix i16 rfl) (fun z22x21 e22x21 => ?_)
          have i22x21 := inv_I hIc10 (n := 160) (t := 0) 0 31 rfl (in_ix i16 rfl) rfl e22x21
          refine g_cmp_eq 25 29 (gd rfl) rfl rfl (fun c22x22 => ?_) (fun c22x22 => ?_)
          · skip
            refine g_iconst 0 30 (gd rfl) rfl rfl ?_
            refine g_ireturn (gd rfl) rfl (nb01 (in_w 0 1 (in_c 0 rfl) rfl)) (hp22 _ _ ?_)
            show GG _ _ _ _ _ _ _ _ [.int (Int32.ofInt 0)] _ _ _
            refine g_if_eq 28 67 (gd rfl) rfl rfl (fun c25 => ?_) (fun c25 => ?_)
            · skip
              refine g_iinc 70 (gd rfl) rfl rfl (Nat.le_of_ble_eq_true rfl) (fun z67 e67 => ?_)
              have i67 := in_add 1 160 e67 i16 (in_c 1 rfl) rfl rfl
              refine g_goto 10 (gd rfl) rfl ?_
              exact gg_w (by first | exact Nat.le_add_right _ _ | exact gw2 | exact gw3 | exact gwe rfl | exact gwf rfl | exact gwg rfl | exact gwh rfl | omega) (gg_f (gf_cons rfl (gf_cons rfl (gf_cons rfl (gf_cons rfl gf_nil)))) (ih10 sc10 y10_2 z67 hIc10 hFc10 (in_w 0 160 i67 rfl) (m_up mm10 (t_add e67 i16 (in_c 1 rfl) rfl) (in_w 1 1 (in_c 1 rfl) rfl))))
            · skip
              exact zn_ne c25 (in_c 0 rfl) rfl
          · skip
            refine g_iconst 1 26 (gd rfl) rfl rfl ?_
            refine g_goto 30 (gd rfl) rfl ?_
            refine g_ireturn (gd rfl) rfl (nb01 (in_w 0 1 (in_c 1 rfl) rfl)) (hp22 _ _ ?_)
            show GG _ _ _ _ _ _ _ _ [.int (Int32.ofInt 1)] _ _ _
            refine g_if_eq 28 67 (gd rfl) rfl rfl (fun c25 => ?_) (fun c25 => ?_)
            · skip
              exact zn_eq c25 (in_c 1 rfl) rfl
            · skip
              refine g_aload_n 29 (gd rfl) rfl rfl ?_
              refine g_getA (q2 := 89) 32 (gd rfl) rfl rfl rfl rfl ?_
              refine g_aload_n 33 (gd rfl) rfl rfl ?_
              refine g_getA (q2 := 4) 36 (gd rfl) rfl rfl rfl rfl ?_
              refine g_iload 38 (gd rfl) rfl rfl ?_
              refine g_iaload 39 (gd rfl) rfl (n := 160) rfl (in_ix i16 rfl) (fun z38 e38 => ?_)
              have q38 : z22x5 = z38 := (e22x5).trans e38.symm
              subst q38
              refine g_iaload 40 (gd rfl) rfl (n := 32) rfl (in_ix i22x7 rfl) (fun z39 e39 => ?_)
              have i39 := inv_I hIc10 (n := 32) (t := 0) 0 31 rfl (in_ix i22x7 rfl) rfl e39
              refine g_aload_n 41 (gd rfl) rfl rfl ?_
              refine g_getA (q2 := 89) 44 (gd rfl) rfl rfl rfl rfl ?_
              refine g_aload_n 45 (gd rfl) rfl rfl ?_
              refine g_getA (q2 := 5) 48 (gd rfl) rfl rfl rfl rfl ?_
              refine g_iload 50 (gd rfl) rfl rfl ?_
              refine g_iaload 51 (gd rfl) rfl (n := 160) rfl (in_ix i16 rfl) (fun z50 e50 => ?_)
              have q50 : z22x21 = z50 := (e22x21).trans e50.symm
              subst q50
              refine g_iaload 52 (gd rfl) rfl (n := 32) rfl (in_ix i22x21 rfl) (fun z51 e51 => ?_)
              have i51 := inv_I hIc10 (n := 32) (t := 0) 0 31 rfl (in_ix i22x21 rfl) rfl e51
              refine g_cmp_ne 55 67 (gd rfl) rfl rfl (fun c52 => ?_) (fun c52 => ?_)
              · skip
                refine g_iinc 70 (gd rfl) rfl rfl (Nat.le_of_ble_eq_true rfl) (fun z67 e67 => ?_)
                have i67 := in_add 1 160 e67 i16 (in_c 1 rfl) rfl rfl
                refine g_goto 10 (gd rfl) rfl ?_
                exact gg_w (by first | exact Nat.le_add_right _ _ | exact gw2 | exact gw3 | exact gwe rfl | exact gwf rfl | exact gwg rfl | exact gwh rfl | omega) (gg_f (gf_cons rfl (gf_cons rfl (gf_cons rfl (gf_cons rfl gf_nil)))) (ih10 sc10 y10_2 z67 hIc10 hFc10 (in_w 0 160 i67 rfl) (m_up mm10 (t_add e67 i16 (in_c 1 rfl) rfl) (in_w 1 1 (in_c 1 rfl) rfl))))
              · skip
                refine g_lload_n 56 (gd rfl) rfl rfl ?_
                refine g_ldc2_w 4 59 (gd rfl) rfl rfl ?_
                refine g_aload_n 60 (gd rfl) rfl rfl ?_
                refine g_getI 63 (gd rfl) rfl rfl rfl (fun z60 e60 => ?_)
                have i60 := inv_F hIc10 0 160 rfl e60
                refine g_i2l 64 (gd rfl) rfl (fun z63 e63 => ?_)
                have i63 := l_i e63 i60
                refine g_lmul 65 (gd rfl) rfl (fun z64 e64 => ?_)
                have i64 := l_mulc 4 0 640 (Or.inl e64) i63 rfl
                refine g_ladd 66 (gd rfl) rfl (fun z65 e65 => ?_)
                refine g_lstore_n 67 (gd rfl) rfl (Nat.le_of_ble_eq_true rfl) ?_
                refine g_iinc 70 (gd rfl) rfl rfl (Nat.le_of_ble_eq_true rfl) (fun z67 e67 => ?_)
                have i67 := in_add 1 160 e67 i16 (in_c 1 rfl) rfl rfl
                refine g_goto 10 (gd rfl) rfl ?_
                exact gg_w (by first | exact Nat.le_add_right _ _ | exact gw2 | exact gw3 | exact gwe rfl | exact gwf rfl | exact gwg rfl | exact gwh rfl | omega) (gg_f (gf_cons rfl (gf_cons rfl (gf_cons rfl (gf_cons rfl gf_nil)))) (ih10 sc10 z65 z67 hIc10 hFc10 (in_w 0 160 i67 rfl) (m_up mm10 (t_add e67 i16 (in_c 1 rfl) rfl) (in_w 1 1 (in_c 1 rfl) rfl))))
  refine g_enter2 (k := 112) (N := 175502) (by first | exact dq1 hd rfl | exact dq0 hd rfl | exact dq2 hd rfl | exact dq3 hd rfl | omega) rfl (Nat.le_of_ble_eq_true rfl) ?_
  refine g_aload_n 1 (gd rfl) rfl rfl ?_
  refine g_aload_n 2 (gd rfl) rfl rfl ?_
  refine g_callv (X := _) (As := [.ref (A 2)]) (r := []) (b := A 86) (q := 86) 5 (gd rfl) rfl rfl rfl rfl rfl (ww_o rfl) (Nat.le_of_ble_eq_true rfl) (Nat.zero_le _) (Nat.zero_le _) (k_113_86_2 (by first | exact dq1 hd rfl | exact dq0 hd rfl | exact dq2 hd rfl | exact dq3 hd rfl | omega) hI ) (fun e u h => h) (fun v u h => ?_)
  obtain ⟨s2, hI2, hF2, rfl, rfl⟩ := h
  show GG _ _ _ _ _ _ _ _ [] _ _ _
  refine g_lconst 0 6 (gd rfl) rfl rfl ?_
  refine g_lstore_n 7 (gd rfl) rfl (Nat.le_of_ble_eq_true rfl) ?_
  refine g_iconst 0 8 (gd rfl) rfl rfl ?_
  refine g_istore 10 (gd rfl) rfl (Nat.le_of_ble_eq_true rfl) ?_
  exact gg_w (by first | exact Nat.le_of_ble_eq_true rfl | omega) (gg_f (gf_cons rfl (gf_cons rfl (gf_cons rfl (gf_cons rfl gf_nil)))) (ct10 161 s2 (Int64.ofInt 0) (Int32.ofInt 0) hI2 (fr_tr rfl fr_rf hF2) (in_w 0 160 (in_c 0 rfl) rfl) (m_in 161 (in_w 0 160 (in_c 0 rfl) rfl) rfl)))

def fm_112_86_32 : FM := ([39, 40, 41, 42, 43, 44, 45, 89, 90, 91, 92, 93], [], [(32, 4), (86, 4), (86, 5)], [])
/-- GraphHouse$Groups.totalGain -/
theorem k_112_86_32 {Z : AmZ} {A : Nat → Nat} {s : GS} {ex : va_W} {d : Nat} {X : AmX}  (hd : 7 ≤ d) (hI : Inv s)  : GC Z d 112 [.ref (A 86), .ref (A 32)] (WW Z A s ++ ex) 0 0 (fun v u => ∃ t : GS, Inv t ∧ Fr fm_112_86_32 s t ∧ ∃ z : Int64, v = some (.long z) ∧ u = WW Z A t ++ ex) X := by
  intro post xp hP hX
  obtain ⟨u_32_1, e_32_1⟩ : ∃ w, w = s.2.2.1 32 1 := ⟨_, rfl⟩
  have ro_32_1 := inv_F hI 0 32 rfl e_32_1
  obtain ⟨u_32_3, e_32_3⟩ : ∃ w, w = s.2.2.1 32 3 := ⟨_, rfl⟩
  have ro_32_3 := inv_F hI 0 160 rfl e_32_3
  have ct76 : ∀ (k76 : Nat) (sc76 : GS) (y76_2 : Int64) (y76_4 : Int32), Inv sc76 → Fr fm_112_86_32 s sc76 → (In y76_4 0 32) → 32 - (y76_4).toInt < (k76 : Int) → GG Z (d - 1) 112 post (gx xp) (1 + k76 * 900) 76 (fun j => xlook j [(0, .ref (A 86)), (1, .ref (A 32)), (2, .long y76_2), (4, .int y76_4)]) [] (WW Z A sc76 ++ ex) 0 0 := by
    intro k76
    induction k76 with
    | zero => intro sc76 y76_2 y76_4 hIc76 hFc76 j76_4 mm76; exact m_no mm76 j76_4 rfl
    | succ k76 ih76 =>
      intro sc76 y76_2 y76_4 hIc76 hFc76 j76_4 mm76
      refine gg_w (M := 1 + k76 * 900 + 900) gws ?_
      refine g_iload 78 (gd rfl) rfl rfl ?_
      refine g_aload_n 79 (gd rfl) rfl rfl ?_
      refine g_getI 82 (gd rfl) rfl rfl rfl (fun z79 e79 => ?_)
      have q79 : u_32_1 = z79 := (fr_F e_32_1 hFc76 rfl).trans e79.symm
      subst q79
      refine g_cmp_ge 85 124 (gd rfl) rfl rfl (fun c82 => ?_) (fun c82 => ?_)
      · skip
        refine g_lload_n 125 (gd rfl) rfl rfl ?_
        exact g_lreturn (gd rfl) rfl (hP _ _ ⟨sc76, hIc76, hFc76, y76_2, rfl, rfl⟩)
      · skip
        have i82 := r_lt1 0 31 c82 j76_4 ro_32_1 rfl
        have i82a := r_lt2 1 32 c82 j76_4 ro_32_1 rfl
        refine g_lload_n 86 (gd rfl) rfl rfl ?_
        refine g_aload_n 87 (gd rfl) rfl rfl ?_
        refine g_getA (q2 := 91) 90 (gd rfl) rfl rfl rfl rfl ?_
        refine g_iload 92 (gd rfl) rfl rfl ?_
        refine g_iaload 93 (gd rfl) rfl (n := 32) rfl (in_ix i82 rfl) (fun z92 e92 => ?_)
        refine g_i2l 94 (gd rfl) rfl (fun z93 e93 => ?_)
        have i93 := l_i e93 (i_rng z92)
        refine g_aload_n 95 (gd rfl) rfl rfl ?_
        refine g_getA (q2 := 92) 98 (gd rfl) rfl rfl rfl rfl ?_
        refine g_aload_n 99 (gd rfl) rfl rfl ?_
        refine g_getA (q2 := 89) 102 (gd rfl) rfl rfl rfl rfl ?_
        refine g_iload 104 (gd rfl) rfl rfl ?_
        refine g_iaload 105 (gd rfl) rfl (n := 32) rfl (in_ix i82 rfl) (fun z104 e104 => ?_)
        have i104 := inv_I hIc76 (n := 32) (t := 0) 0 31 rfl (in_ix i82 rfl) rfl e104
        refine g_iaload 106 (gd rfl) rfl (n := 32) rfl (in_ix i104 rfl) (fun z105 e105 => ?_)
        refine g_aload_n 107 (gd rfl) rfl rfl ?_
        refine g_getA (q2 := 91) 110 (gd rfl) rfl rfl rfl rfl ?_
        refine g_iload 112 (gd rfl) rfl rfl ?_
        refine g_iaload 113 (gd rfl) rfl (n := 32) rfl (in_ix i82 rfl) (fun z112 e112 => ?_)
        have q112 : z92 = z112 := (e92).trans e112.symm
        subst q112
        refine g_isub 114 (gd rfl) rfl (fun z113 e113 => ?_)
        refine g_i2l 115 (gd rfl) rfl (fun z114 e114 => ?_)
        have i114 := l_i e114 (i_rng z113)
        refine g_lmul 116 (gd rfl) rfl (fun z115 e115 => ?_)
        refine g_lsub 117 (gd rfl) rfl (fun z116 e116 => ?_)
        refine g_lstore_n 118 (gd rfl) rfl (Nat.le_of_ble_eq_true rfl) ?_
        refine g_iinc 121 (gd rfl) rfl rfl (Nat.le_of_ble_eq_true rfl) (fun z118 e118 => ?_)
        have i118 := in_add 1 32 e118 i82 (in_c 1 rfl) rfl rfl
        refine g_goto 76 (gd rfl) rfl ?_
        exact gg_w (by first | exact Nat.le_add_right _ _ | exact gw2 | exact gw3 | exact gwe rfl | exact gwf rfl | exact gwg rfl | exact gwh rfl | omega) (gg_f (gf_cons rfl (gf_cons rfl (gf_cons rfl (gf_cons rfl gf_nil)))) (ih76 sc76 z116 z118 hIc76 hFc76 (in_w 0 32 i118 rfl) (m_up mm76 (t_add e118 i82 (in_c 1 rfl) rfl) (in_w 1 1 (in_c 1 rfl) rfl))))
  have ct10 : ∀ (k10 : Nat) (sc10 : GS) (y10_2 : Int64) (y10_4 : Int32), Inv sc10 → Fr fm_112_86_32 s sc10 → (In y10_4 0 160) → 160 - (y10_4).toInt < (k10 : Int) → GG Z (d - 1) 112 post (gx xp) (29702 + k10 * 900) 10 (fun j => xlook j [(0, .ref (A 86)), (1, .ref (A 32)), (2, .long y10_2), (4, .int y10_4)]) [] (WW Z A sc10 ++ ex) 0 0 := by
    intro k10
    induction k10 with
    | zero => intro sc10 y10_2 y10_4 hIc10 hFc10 j10_4 mm10; exact m_no mm10 j10_4 rfl
    | succ k10 ih10 =>
      intro sc10 y10_2 y10_4 hIc10 hFc10 j10_4 mm10
      refine gg_w (M := 29702 + k10 * 900 + 900) gws ?_
      refine g_iload 12 (gd rfl) rfl rfl ?_
      refine g_aload_n 13 (gd rfl) rfl rfl ?_
      refine g_getI 16 (gd rfl) rfl rfl rfl (fun z13 e13 => ?_)
      have q13 : u_32_3 = z13 := (fr_F e_32_3 hFc10 rfl).trans e13.symm
      subst q13
      refine g_cmp_ge 19 73 (gd rfl) rfl rfl (fun c16 => ?_) (fun c16 => ?_)
      · skip
        refine g_iconst 0 74 (gd rfl) rfl rfl ?_
        refine g_istore 76 (gd rfl) rfl (Nat.le_of_ble_eq_true rfl) ?_
        exact gg_w (by first | exact Nat.le_add_right _ _ | exact gw2 | exact gw3 | exact gwe rfl | exact gwf rfl | exact gwg rfl | exact gwh rfl | omega) (gg_f (gf_cons rfl (gf_cons rfl (gf_cons rfl (gf_cons rfl gf_nil)))) (ct76 33 sc10 y10_2 (Int32.ofInt 0) hIc10 hFc10 (in_w 0 32 (in_c 0 rfl) rfl) (m_in 33 (in_w 0 32 (in_c 0 rfl) rfl) rfl)))
      · skip
        have i16 := r_lt1 0 159 c16 j10_4 ro_32_3 rfl
        have i16a := r_lt2 1 160 c16 j10_4 ro_32_3 rfl
        refine g_aload_n 20 (gd rfl) rfl rfl ?_
        refine g_iload 22 (gd rfl) rfl rfl ?_
        refine g_callv (X := _) (As := [.int y10_4]) (r := []) (b := A 32) (q := 32) 25 (gd rfl) rfl rfl rfl rfl rfl (ww_o rfl) (Nat.le_of_ble_eq_true rfl) (mc := 0) (ms := 0) (Nat.zero_le _) (Nat.zero_le _) (P := fun v u => _) ?_ (fun e u h => h) (fun v u h => h)
        intro po22 xx22 hp22 hx22
        refine g_enter2 (k := 97) (N := 300) (by first | exact dq1 hd rfl | exact dq0 hd rfl | exact dq2 hd rfl | exact dq3 hd rfl | omega) rfl (Nat.le_of_ble_eq_true rfl) ?_
        refine g_aload_n 1 (gd rfl) rfl rfl ?_
        refine g_getA (q2 := 34) 4 (gd rfl) rfl rfl rfl rfl ?_
        refine g_iload_n 5 (gd rfl) rfl rfl ?_
        refine g_iaload 6 (gd rfl) rfl (n := 160) rfl (in_ix i16 rfl) (fun z22x5 e22x5 => ?_)
        have i22x5 := inv_I hIc10 (n := 160) (t := 0) (-1) 31 rfl (in_ix i16 rfl) rfl e22x5
        refine g_iconst (-1) 7 (gd rfl) rfl rfl ?_
        refine g_cmp_eq 10 29 (gd rfl) rfl rfl (fun c22x7 => ?_) (fun c22x7 => ?_)
        · skip
          have i22x7 := r_eq1 (-1) (-1) c22x7 i22x5 (in_c (-1) rfl) rfl
          refine g_iconst 0 30 (gd rfl) rfl rfl ?_
          refine g_ireturn (gd rfl) rfl (nb01 (in_w 0 1 (in_c 0 rfl) rfl)) (hp22 _ _ ?_)
          show GG _ _ _ _ _ _ _ _ [.int (Int32.ofInt 0)] _ _ _
          refine g_if_eq 28 67 (gd rfl) rfl rfl (fun c25 => ?_) (fun c25 => ?_)
          · skip
            refine g_iinc 70 (gd rfl) rfl rfl (Nat.le_of_ble_eq_true rfl) (fun z67 e67 => ?_)
            have i67 := in_add 1 160 e67 i16 (in_c 1 rfl) rfl rfl
            refine g_goto 10 (gd rfl) rfl ?_
            exact gg_w (by first | exact Nat.le_add_right _ _ | exact gw2 | exact gw3 | exact gwe rfl | exact gwf rfl | exact gwg rfl | exact gwh rfl | omega) (gg_f (gf_cons rfl (gf_cons rfl (gf_cons rfl (gf_cons rfl gf_nil)))) (ih10 sc10 y10_2 z67 hIc10 hFc10 (in_w 0 160 i67 rfl) (m_up mm10 (t_add e67 i16 (in_c 1 rfl) rfl) (in_w 1 1 (in_c 1 rfl) rfl))))
          · skip
            exact zn_ne c25 (in_c 0 rfl) rfl
        · skip
          have i22x7 := r_ne1 0 31 c22x7 i22x5 (in_c (-1) rfl) rfl
          refine g_aload_n 11 (gd rfl) rfl rfl ?_
          refine g_getA (q2 := 34) 14 (gd rfl) rfl rfl rfl rfl ?_
          refine g_iload_n 15 (gd rfl) rfl rfl ?_
          refine g_iaload 16 (gd rfl) rfl (n := 160) rfl (in_ix i16 rfl) (fun z22x15 e22x15 => ?_)
          have q22x15 : z22x5 = z22x15 := (e22x5).trans e22x15.symm
          subst q22x15
          refine g_aload_n 17 (gd rfl) rfl rfl ?_
          refine g_getA (q2 := 35) 20 (gd rfl) rfl rfl rfl rfl ?_
          refine g_iload_n 21 (gd rfl) rfl rfl ?_
          refine g_iaload 22 (gd rfl) rfl (n := 160) rfl (in_ix i16 rfl) (fun z22x21 e22x21 => ?_)
          have i22x21 := inv_I hIc10 (n := 160) (t := 0) 0 31 rfl (in_ix i16 rfl) rfl e22x21
          refine g_cmp_eq 25 29 (gd rfl) rfl rfl (fun c22x22 => ?_) (fun c22x22 => ?_)
          · skip
            refine g_iconst 0 30 (gd rfl) rfl rfl ?_
            refine g_ireturn (gd rfl) rfl (nb01 (in_w 0 1 (in_c 0 rfl) rfl)) (hp22 _ _ ?_)
            show GG _ _ _ _ _ _ _ _ [.int (Int32.ofInt 0)] _ _ _
            refine g_if_eq 28 67 (gd rfl) rfl rfl (fun c25 => ?_) (fun c25 => ?_)
            · skip
              refine g_iinc 70 (gd rfl) rfl rfl (Nat.le_of_ble_eq_true rfl) (fun z67 e67 => ?_)
              have i67 := in_add 1 160 e67 i16 (in_c 1 rfl) rfl rfl
              refine g_goto 10 (gd rfl) rfl ?_
              exact gg_w (by first | exact Nat.le_add_right _ _ | exact gw2 | exact gw3 | exact gwe rfl | exact gwf rfl | exact gwg rfl | exact gwh rfl | omega) (gg_f (gf_cons rfl (gf_cons rfl (gf_cons rfl (gf_cons rfl gf_nil)))) (ih10 sc10 y10_2 z67 hIc10 hFc10 (in_w 0 160 i67 rfl) (m_up mm10 (t_add e67 i16 (in_c 1 rfl) rfl) (in_w 1 1 (in_c 1 rfl) rfl))))
            · skip
              exact zn_ne c25 (in_c 0 rfl) rfl
          · skip
            refine g_iconst 1 26 (gd rfl) rfl rfl ?_
            refine g_goto 30 (gd rfl) rfl ?_
            refine g_ireturn (gd rfl) rfl (nb01 (in_w 0 1 (in_c 1 rfl) rfl)) (hp22 _ _ ?_)
            show GG _ _ _ _ _ _ _ _ [.int (Int32.ofInt 1)] _ _ _
            refine g_if_eq 28 67 (gd rfl) rfl rfl (fun c25 => ?_) (fun c25 => ?_)
            · skip
              exact zn_eq c25 (in_c 1 rfl) rfl
            · skip
              refine g_aload_n 29 (gd rfl) rfl rfl ?_
              refine g_getA (q2 := 89) 32 (gd rfl) rfl rfl rfl rfl ?_
              refine g_aload_n 33 (gd rfl) rfl rfl ?_
              refine g_getA (q2 := 34) 36 (gd rfl) rfl rfl rfl rfl ?_
              refine g_iload 38 (gd rfl) rfl rfl ?_
              refine g_iaload 39 (gd rfl) rfl (n := 160) rfl (in_ix i16 rfl) (fun z38 e38 => ?_)
              have q38 : z22x5 = z38 := (e22x5).trans e38.symm
              subst q38
              refine g_iaload 40 (gd rfl) rfl (n := 32) rfl (in_ix i22x7 rfl) (fun z39 e39 => ?_)
              have i39 := inv_I hIc10 (n := 32) (t := 0) 0 31 rfl (in_ix i22x7 rfl) rfl e39
              refine g_aload_n 41 (gd rfl) rfl rfl ?_
              refine g_getA (q2 := 89) 44 (gd rfl) rfl rfl rfl rfl ?_
              refine g_aload_n 45 (gd rfl) rfl rfl ?_
              refine g_getA (q2 := 35) 48 (gd rfl) rfl rfl rfl rfl ?_
              refine g_iload 50 (gd rfl) rfl rfl ?_
              refine g_iaload 51 (gd rfl) rfl (n := 160) rfl (in_ix i16 rfl) (fun z50 e50 => ?_)
              have q50 : z22x21 = z50 := (e22x21).trans e50.symm
              subst q50
              refine g_iaload 52 (gd rfl) rfl (n := 32) rfl (in_ix i22x21 rfl) (fun z51 e51 => ?_)
              have i51 := inv_I hIc10 (n := 32) (t := 0) 0 31 rfl (in_ix i22x21 rfl) rfl e51
              refine g_cmp_ne 55 67 (gd rfl) rfl rfl (fun c52 => ?_) (fun c52 => ?_)
              · skip
                refine g_iinc 70 (gd rfl) rfl rfl (Nat.le_of_ble_eq_true rfl) (fun z67 e67 => ?_)
                have i67 := in_add 1 160 e67 i16 (in_c 1 rfl) rfl rfl
                refine g_goto 10 (gd rfl) rfl ?_
                exact gg_w (by first | exact Nat.le_add_right _ _ | exact gw2 | exact gw3 | exact gwe rfl | exact gwf rfl | exact gwg rfl | exact gwh rfl | omega) (gg_f (gf_cons rfl (gf_cons rfl (gf_cons rfl (gf_cons rfl gf_nil)))) (ih10 sc10 y10_2 z67 hIc10 hFc10 (in_w 0 160 i67 rfl) (m_up mm10 (t_add e67 i16 (in_c 1 rfl) rfl) (in_w 1 1 (in_c 1 rfl) rfl))))
              · skip
                refine g_lload_n 56 (gd rfl) rfl rfl ?_
                refine g_ldc2_w 4 59 (gd rfl) rfl rfl ?_
                refine g_aload_n 60 (gd rfl) rfl rfl ?_
                refine g_getI 63 (gd rfl) rfl rfl rfl (fun z60 e60 => ?_)
                have i60 := inv_F hIc10 0 160 rfl e60
                refine g_i2l 64 (gd rfl) rfl (fun z63 e63 => ?_)
                have i63 := l_i e63 i60
                refine g_lmul 65 (gd rfl) rfl (fun z64 e64 => ?_)
                have i64 := l_mulc 4 0 640 (Or.inl e64) i63 rfl
                refine g_ladd 66 (gd rfl) rfl (fun z65 e65 => ?_)
                refine g_lstore_n 67 (gd rfl) rfl (Nat.le_of_ble_eq_true rfl) ?_
                refine g_iinc 70 (gd rfl) rfl rfl (Nat.le_of_ble_eq_true rfl) (fun z67 e67 => ?_)
                have i67 := in_add 1 160 e67 i16 (in_c 1 rfl) rfl rfl
                refine g_goto 10 (gd rfl) rfl ?_
                exact gg_w (by first | exact Nat.le_add_right _ _ | exact gw2 | exact gw3 | exact gwe rfl | exact gwf rfl | exact gwg rfl | exact gwh rfl | omega) (gg_f (gf_cons rfl (gf_cons rfl (gf_cons rfl (gf_cons rfl gf_nil)))) (ih10 sc10 z65 z67 hIc10 hFc10 (in_w 0 160 i67 rfl) (m_up mm10 (t_add e67 i16 (in_c 1 rfl) rfl) (in_w 1 1 (in_c 1 rfl) rfl))))
  refine g_enter2 (k := 112) (N := 175502) (by first | exact dq1 hd rfl | exact dq0 hd rfl | exact dq2 hd rfl | exact dq3 hd rfl | omega) rfl (Nat.le_of_ble_eq_true rfl) ?_
  refine g_aload_n 1 (gd rfl) rfl rfl ?_
  refine g_aload_n 2 (gd rfl) rfl rfl ?_
  refine g_callv (X := _) (As := [.ref (A 32)]) (r := []) (b := A 86) (q := 86) 5 (gd rfl) rfl rfl rfl rfl rfl (ww_o rfl) (Nat.le_of_ble_eq_true rfl) (Nat.zero_le _) (Nat.zero_le _) (k_113_86_32 (by first | exact dq1 hd rfl | exact dq0 hd rfl | exact dq2 hd rfl | exact dq3 hd rfl | omega) hI ) (fun e u h => h) (fun v u h => ?_)
  obtain ⟨s2, hI2, hF2, rfl, rfl⟩ := h
  show GG _ _ _ _ _ _ _ _ [] _ _ _
  refine g_lconst 0 6 (gd rfl) rfl rfl ?_
  refine g_lstore_n 7 (gd rfl) rfl (Nat.le_of_ble_eq_true rfl) ?_
  refine g_iconst 0 8 (gd rfl) rfl rfl ?_
  refine g_istore 10 (gd rfl) rfl (Nat.le_of_ble_eq_true rfl) ?_
  exact gg_w (by first | exact Nat.le_of_ble_eq_true rfl | omega) (gg_f (gf_cons rfl (gf_cons rfl (gf_cons rfl (gf_cons rfl gf_nil)))) (ct10 161 s2 (Int64.ofInt 0) (Int32.ofInt 0) hI2 (fr_tr rfl fr_rf hF2) (in_w 0 160 (in_c 0 rfl) rfl) (m_in 161 (in_w 0 160 (in_c 0 rfl) rfl) rfl)))

def fm_206_49_2 : FM := ([9, 10, 11, 12, 13, 14, 15], [55], [(2, 4), (49, 8), (49, 9), (49, 10), (49, 11)], [])
def fm_206_49_32 : FM := ([39, 40, 41, 42, 43, 44, 45], [55], [(32, 4), (49, 8), (49, 9), (49, 10), (49, 11)], [])
def fm_233_0 : FM := ([9, 10, 11, 12, 13, 14, 15, 39, 40, 41, 42, 43, 44, 45], [55], [(2, 4), (32, 4), (49, 8), (49, 9), (49, 10), (49, 11)], [])
def fm_251_0 : FM := ([9, 10, 11, 12, 13, 14, 15, 39, 40, 41, 42, 43, 44, 45, 89, 90, 91, 92, 93], [], [(2, 4), (32, 4), (86, 4), (86, 5)], [])
/-- GraphHouse.gain -/
theorem k_251_0 {Z : AmZ} {A : Nat → Nat} {s : GS} {ex : va_W} {d : Nat} {X : AmX}  (hd : 8 ≤ d) (hI : Inv s)  : GC Z d 251 [.ref (A 0)] (WW Z A s ++ ex) 3 18 (fun v u => ∃ t : GS, Inv t ∧ Fr fm_251_0 s t ∧ ∃ z : Int64, v = some (.long z) ∧ u = WW Z A t ++ ex) X := by
  intro post xp hP hX
  obtain ⟨u_0_2, e_0_2⟩ : ∃ w, w = s.2.2.1 0 2 := ⟨_, rfl⟩
  have ro_0_2 := inv_F hI (-1) 4000 rfl e_0_2
  refine g_enter2 (k := 251) (N := 900) (by first | exact dq1 hd rfl | exact dq0 hd rfl | exact dq2 hd rfl | exact dq3 hd rfl | omega) rfl (Nat.le_of_ble_eq_true rfl) ?_
  refine g_aload_n 1 (gd rfl) rfl rfl ?_
  refine g_getA (q2 := 86) 4 (gd rfl) rfl rfl rfl rfl ?_
  refine g_aload_n 5 (gd rfl) rfl rfl ?_
  refine g_callv (X := _) (As := []) (r := [.ref (A 86)]) (b := A 0) (q := 0) 8 (gd rfl) rfl rfl rfl rfl rfl (ww_o rfl) (Nat.le_of_ble_eq_true rfl) (mc := 0) (ms := 0) (Nat.zero_le _) (Nat.zero_le _) (P := fun v u => _) ?_ (fun e u h => h) (fun v u h => h)
  intro po5 xx5 hp5 hx5
  refine g_enter2 (k := 259) (N := 300) (by first | exact dq1 hd rfl | exact dq0 hd rfl | exact dq2 hd rfl | exact dq3 hd rfl | omega) rfl (Nat.le_of_ble_eq_true rfl) ?_
  refine g_aload_n 1 (gd rfl) rfl rfl ?_
  refine g_getI 4 (gd rfl) rfl rfl rfl (fun z5x1 e5x1 => ?_)
  have q5x1 : u_0_2 = z5x1 := (e_0_2).trans e5x1.symm
  subst q5x1
  refine g_iconst (-1) 5 (gd rfl) rfl rfl ?_
  refine g_cmp_ne 8 18 (gd rfl) rfl rfl (fun c5x5 => ?_) (fun c5x5 => ?_)
  · skip
    have i5x5 := r_ne1 0 4000 c5x5 ro_0_2 (in_c (-1) rfl) rfl
    refine g_aload_n 19 (gd rfl) rfl rfl ?_
    refine g_getA (q2 := 32) 22 (gd rfl) rfl rfl rfl rfl ?_
    refine g_areturn (gd rfl) rfl (hp5 _ _ ?_)
    show GG _ _ _ _ _ _ _ _ [.ref (A 32), .ref (A 86)] _ _ _
    refine g_callv (X := _) (As := [.ref (A 32)]) (r := []) (b := A 86) (q := 86) 11 (gd rfl) rfl rfl rfl rfl rfl (ww_o rfl) (Nat.le_of_ble_eq_true rfl) (Nat.zero_le _) (Nat.zero_le _) (k_112_86_32 (by first | exact dq1 hd rfl | exact dq0 hd rfl | exact dq2 hd rfl | exact dq3 hd rfl | omega) hI ) (fun e u h => h) (fun v u h => ?_)
    obtain ⟨s8, hI8, hF8, z8, rfl, rfl⟩ := h
    show GG _ _ _ _ _ _ _ _ [.long z8] _ _ _
    exact g_lreturn (gd rfl) rfl (hP _ _ ⟨s8, hI8, (fr_tr rfl fr_rf hF8), z8, rfl, rfl⟩)
  · skip
    have i5x5 := r_eq1 (-1) (-1) c5x5 ro_0_2 (in_c (-1) rfl) rfl
    refine g_aload_n 9 (gd rfl) rfl rfl ?_
    refine g_getA (q2 := 1) 12 (gd rfl) rfl rfl rfl rfl ?_
    refine g_getA (q2 := 2) 15 (gd rfl) rfl rfl rfl rfl ?_
    refine g_goto 22 (gd rfl) rfl ?_
    refine g_areturn (gd rfl) rfl (hp5 _ _ ?_)
    show GG _ _ _ _ _ _ _ _ [.ref (A 2), .ref (A 86)] _ _ _
    refine g_callv (X := _) (As := [.ref (A 2)]) (r := []) (b := A 86) (q := 86) 11 (gd rfl) rfl rfl rfl rfl rfl (ww_o rfl) (Nat.le_of_ble_eq_true rfl) (Nat.zero_le _) (Nat.zero_le _) (k_112_86_2 (by first | exact dq1 hd rfl | exact dq0 hd rfl | exact dq2 hd rfl | exact dq3 hd rfl | omega) hI ) (fun e u h => h) (fun v u h => ?_)
    obtain ⟨s8, hI8, hF8, z8, rfl, rfl⟩ := h
    show GG _ _ _ _ _ _ _ _ [.long z8] _ _ _
    exact g_lreturn (gd rfl) rfl (hP _ _ ⟨s8, hI8, (fr_tr rfl fr_rf hF8), z8, rfl, rfl⟩)

def fm_255_0 : FM := ([103, 104], [], [(46, 2), (46, 3), (46, 4), (46, 5), (46, 6), (46, 7), (102, 1), (102, 2), (102, 4)], [])
/-- GraphHouse.program -/
theorem k_255_0 {Z : AmZ} {A : Nat → Nat} {s : GS} {ex : va_W} {d : Nat} {X : AmX}  (hd : 297 ≤ d) (hI : Inv s)  : GC Z d 255 [.ref (A 0)] (WW Z A s ++ ex) 3 18 (fun v u => ∃ t : GS, Inv t ∧ Fr fm_255_0 s t ∧ ∃ z : Int32, v = some (.int z) ∧ u = WW Z A t ++ ex ∧ In z (-4) 0) X := by
  intro post xp hP hX
  refine g_enter2 (k := 255) (N := 900) (by first | exact dq1 hd rfl | exact dq0 hd rfl | exact dq2 hd rfl | exact dq3 hd rfl | omega) rfl (Nat.le_of_ble_eq_true rfl) ?_
  refine g_aload_n 1 (gd rfl) rfl rfl ?_
  refine g_getA (q2 := 102) 4 (gd rfl) rfl rfl rfl rfl ?_
  refine g_aload_n 5 (gd rfl) rfl rfl ?_
  refine g_getA (q2 := 46) 8 (gd rfl) rfl rfl rfl rfl ?_
  refine g_callv (X := _) (As := [.ref (A 46)]) (r := []) (b := A 102) (q := 102) 11 (gd rfl) rfl rfl rfl rfl rfl (ww_o rfl) (Nat.le_of_ble_eq_true rfl) (Nat.zero_le _) (Nat.zero_le _) (k_56_102_46 (by first | exact dq1 hd rfl | exact dq0 hd rfl | exact dq2 hd rfl | exact dq3 hd rfl | omega) hI ) (fun e u h => h) (fun v u h => ?_)
  obtain ⟨s8, hI8, hF8, z8, rfl, rfl, i8⟩ := h
  show GG _ _ _ _ _ _ _ _ [.int z8] _ _ _
  refine g_if_eq 14 18 (gd rfl) rfl rfl (fun c11 => ?_) (fun c11 => ?_)
  · skip
    have i11 := z_eq 0 0 c11 i8 rfl
    refine g_bipush (-4) 20 (gd rfl) rfl rfl ?_
    exact g_ireturn (gd rfl) rfl rfl (hP _ _ ⟨s8, hI8, (fr_tr rfl fr_rf hF8), (Int32.ofInt (-4)), rfl, rfl, in_w (-4) 0 (in_c (-4) rfl) rfl⟩)
  · skip
    have i11 := z_ne 1 1 c11 i8 rfl
    refine g_iconst 0 15 (gd rfl) rfl rfl ?_
    refine g_goto 20 (gd rfl) rfl ?_
    exact g_ireturn (gd rfl) rfl rfl (hP _ _ ⟨s8, hI8, (fr_tr rfl fr_rf hF8), (Int32.ofInt 0), rfl, rfl, in_w (-4) 0 (in_c 0 rfl) rfl⟩)

def fm_302 : FM := ([110, 111, 112, 113, 114, 115, 116, 117, 118, 119, 120, 121, 122, 123, 124, 127, 128], [], [(109, 0), (109, 9), (109, 18), (109, 19), (109, 20), (109, 23), (109, 24), (109, 27), (109, 28), (109, 29), (109, 30), (109, 32)], [(109, 31)])
def fm_44_60_2 : FM := ([9, 10, 11, 12, 13, 14, 15, 61, 62, 63, 64], [], [(2, 4), (60, 0), (60, 1), (60, 3), (60, 7)], [])
/-- GraphHouse$Colours.makeColours -/
theorem k_44_60_2 {Z : AmZ} {A : Nat → Nat} {s : GS} {ex : va_W} {d : Nat} {X : AmX}  (hd : 383 ≤ d) (hI : Inv s)  : GC Z d 44 [.ref (A 60), .ref (A 2)] (WW Z A s ++ ex) 0 0 (fun v u => ∃ t : GS, Inv t ∧ Fr fm_44_60_2 s t ∧ v = none ∧ u = WW Z A t ++ ex) X := by
  intro post xp hP hX
  obtain ⟨u_2_0, e_2_0⟩ : ∃ w, w = s.2.2.1 2 0 := ⟨_, rfl⟩
  have ro_2_0 := inv_F hI 0 4000 rfl e_2_0
  obtain ⟨u_2_1, e_2_1⟩ : ∃ w, w = s.2.2.1 2 1 := ⟨_, rfl⟩
  have ro_2_1 := inv_F hI 0 32 rfl e_2_1
  have ct75 : ∀ (k75 : Nat) (sc75 : GS) (y75_2 : Int32) (y75_3 : Int32), Inv sc75 → Fr fm_44_60_2 s sc75 → (In y75_2 0 32) → (In y75_3 0 32) → ((y75_2).toInt ≤ (y75_3).toInt) → (0 ≤ (y75_2).toInt) → 32 - (y75_3).toInt < (k75 : Int) → GG Z (d - 1) 44 post (gx xp) (1 + k75 * 900) 75 (fun j => xlook j [(0, .ref (A 60)), (1, .ref (A 2)), (2, .int y75_2), (3, .int y75_3)]) [] (WW Z A sc75 ++ ex) 0 0 := by
    intro k75
    induction k75 with
    | zero => intro sc75 y75_2 y75_3 hIc75 hFc75 j75_2 j75_3 n75_0 n75_1 mm75; exact m_no mm75 j75_3 rfl
    | succ k75 ih75 =>
      intro sc75 y75_2 y75_3 hIc75 hFc75 j75_2 j75_3 n75_0 n75_1 mm75
      refine gg_w (M := 1 + k75 * 900 + 900) gws ?_
      refine g_iload_n 76 (gd rfl) rfl rfl ?_
      refine g_aload_n 77 (gd rfl) rfl rfl ?_
      refine g_getI 80 (gd rfl) rfl rfl rfl (fun z77 e77 => ?_)
      have q77 : u_2_1 = z77 := (fr_F e_2_1 hFc75 rfl).trans e77.symm
      subst q77
      refine g_cmp_ge 83 115 (gd rfl) rfl rfl (fun c80 => ?_) (fun c80 => ?_)
      · skip
        exact g_return (gd rfl) rfl (hP _ _ ⟨sc75, hIc75, hFc75, rfl, rfl⟩)
      · skip
        have i80 := r_lt1 0 31 c80 j75_3 ro_2_1 rfl
        have i80a := r_lt2 1 32 c80 j75_3 ro_2_1 rfl
        refine g_aload_n 84 (gd rfl) rfl rfl ?_
        refine g_getA (q2 := 64) 87 (gd rfl) rfl rfl rfl rfl ?_
        refine g_iload_n 88 (gd rfl) rfl rfl ?_
        have i88 : In y75_2 0 31 := by exact ⟨by have a0 := oa4 i80a ro_2_0 i80 j75_2; omega, by have a0 := oa4 i80a ro_2_0 i80 j75_2; omega⟩
        refine g_aload_n 89 (gd rfl) rfl rfl ?_
        refine g_aload_n 90 (gd rfl) rfl rfl ?_
        refine g_iload_n 91 (gd rfl) rfl rfl ?_
        refine g_iload_n 92 (gd rfl) rfl rfl ?_
        refine g_callv (X := _) (As := [.ref (A 2), .int y75_3, .int y75_2]) (r := [.int y75_3, .ref (A 64)]) (b := A 60) (q := 60) 95 (gd rfl) rfl rfl rfl rfl rfl (ww_o rfl) (Nat.le_of_ble_eq_true rfl) (Nat.zero_le _) (Nat.zero_le _) (k_53_60_2 (by first | exact dq1 hd rfl | exact dq0 hd rfl | exact dq2 hd rfl | exact dq3 hd rfl | omega) hIc75 (in_w 0 31 i80 rfl) (in_w 0 31 i88 rfl)) (fun e u h => h) (fun v u h => ?_)
        obtain ⟨s92, hI92, hF92, z92, rfl, rfl, i92, p92⟩ := h
        show GG _ _ _ _ _ _ _ _ [.int z92, .int y75_3, .ref (A 64)] _ _ _
        refine g_iastore 96 (gd rfl) rfl (n := 32) rfl (in_ix i80 rfl) ?_
        have hI95 := inv_sI (q := 64) (j := y75_3.toNatClampNeg) hI92 rfl (in_w 0 31 i92 rfl)
        refine g_iload_n 97 (gd rfl) rfl rfl ?_
        refine g_aload_n 98 (gd rfl) rfl rfl ?_
        refine g_getA (q2 := 64) 101 (gd rfl) rfl rfl rfl rfl ?_
        refine g_iload_n 102 (gd rfl) rfl rfl ?_
        refine g_iaload 103 (gd rfl) rfl (n := 32) rfl (in_ix i80 rfl) (fun z102 e102 => ?_)
        have q102 : z92 = z102 := (sI_get).trans e102.symm
        subst q102
        refine g_iconst 1 104 (gd rfl) rfl rfl ?_
        refine g_iadd 105 (gd rfl) rfl (fun z104 e104 => ?_)
        have i104 := in_add 1 32 e104 i92 (in_c 1 rfl) rfl rfl
        refine g_calls (As := [.int y75_2, .int z104]) (r := []) 108 (gd rfl) rfl rfl rfl rfl rfl (Nat.le_of_ble_eq_true rfl) (mc := 0) (ms := 0) (Nat.zero_le _) (Nat.zero_le _) (P := fun v u => _) ?_ (fun v u h => h)
        intro po105 xx105 hp105 hx105
        refine g_enter2 (k := 422) (N := 300) (by first | exact dq1 hd rfl | exact dq0 hd rfl | exact dq2 hd rfl | exact dq3 hd rfl | omega) rfl (Nat.le_of_ble_eq_true rfl) ?_
        refine g_iload_n 1 (gd rfl) rfl rfl ?_
        refine g_iload_n 2 (gd rfl) rfl rfl ?_
        refine g_cmp_lt 5 9 (gd rfl) rfl rfl (fun c105x2 => ?_) (fun c105x2 => ?_)
        · skip
          refine g_iload_n 10 (gd rfl) rfl rfl ?_
          refine g_ireturn (gd rfl) rfl rfl (hp105 _ _ ?_)
          show GG _ _ _ _ _ _ _ _ [.int z104] _ _ _
          refine g_istore_n 109 (gd rfl) rfl (Nat.le_of_ble_eq_true rfl) ?_
          refine g_iinc 112 (gd rfl) rfl rfl (Nat.le_of_ble_eq_true rfl) (fun z109 e109 => ?_)
          have i109 := in_add 1 32 e109 i80 (in_c 1 rfl) rfl rfl
          refine g_goto 75 (gd rfl) rfl ?_
          have n75 : (z104).toInt ≤ (z109).toInt := by have a0 := oa5 i80a ro_2_0 i80 i88 i109; have a5 := t_add e109 i80 (in_c 1 rfl) rfl; have a6 := oa2 ((in_c 1 rfl)) i104; have a8 := t_add e104 i92 (in_c 1 rfl) rfl; have a9 := in_u i92; omega
          have n75a : 0 ≤ (z104).toInt := by have a0 := oa5 i80a ro_2_0 i80 i88 i109; have a5 := t_add e109 i80 (in_c 1 rfl) rfl; have a6 := oa2 ((in_c 1 rfl)) i104; have a8 := t_add e104 i92 (in_c 1 rfl) rfl; have a9 := in_u i92; omega
          exact gg_w (by first | exact Nat.le_add_right _ _ | exact gw2 | exact gw3 | exact gwe rfl | exact gwf rfl | exact gwg rfl | exact gwh rfl | omega) (gg_f (gf_cons rfl (gf_cons rfl (gf_cons rfl (gf_cons rfl gf_nil)))) (ih75 (sI s92 64 y75_3.toNatClampNeg z92) z104 z109 hI95 (fr_sI rfl (fr_tr rfl hFc75 hF92)) (in_w 0 32 i104 rfl) (in_w 0 32 i109 rfl) n75 n75a (m_up mm75 (t_add e109 i80 (in_c 1 rfl) rfl) (in_w 1 1 (in_c 1 rfl) rfl))))
        · skip
          have i105x2 := r_le1 1 31 c105x2 i104 i88 rfl
          have i105x2a := r_le2 1 31 c105x2 i104 i88 rfl
          refine g_iload_n 6 (gd rfl) rfl rfl ?_
          refine g_goto 10 (gd rfl) rfl ?_
          refine g_ireturn (gd rfl) rfl rfl (hp105 _ _ ?_)
          show GG _ _ _ _ _ _ _ _ [.int y75_2] _ _ _
          refine g_istore_n 109 (gd rfl) rfl (Nat.le_of_ble_eq_true rfl) ?_
          refine g_iinc 112 (gd rfl) rfl rfl (Nat.le_of_ble_eq_true rfl) (fun z109 e109 => ?_)
          have i109 := in_add 1 32 e109 i80 (in_c 1 rfl) rfl rfl
          refine g_goto 75 (gd rfl) rfl ?_
          have n75 : (y75_2).toInt ≤ (z109).toInt := by have a0 := oa5 i80a ro_2_0 i80 i105x2a i109; have a5 := t_add e109 i80 (in_c 1 rfl) rfl; have a6 := oa2 ((in_c 1 rfl)) i105x2; have a8 := t_add e104 i92 (in_c 1 rfl) rfl; have a9 := in_u i92; omega
          have n75a : 0 ≤ (y75_2).toInt := by first | exact n75_1 | (have a0 := oa5 i80a ro_2_0 i80 i105x2a i109; have a5 := t_add e109 i80 (in_c 1 rfl) rfl; have a6 := oa2 ((in_c 1 rfl)) i105x2; have a8 := t_add e104 i92 (in_c 1 rfl) rfl; have a9 := in_u i92; omega)
          exact gg_w (by first | exact Nat.le_add_right _ _ | exact gw2 | exact gw3 | exact gwe rfl | exact gwf rfl | exact gwg rfl | exact gwh rfl | omega) (gg_f (gf_cons rfl (gf_cons rfl (gf_cons rfl (gf_cons rfl gf_nil)))) (ih75 (sI s92 64 y75_3.toNatClampNeg z92) y75_2 z109 hI95 (fr_sI rfl (fr_tr rfl hFc75 hF92)) (in_w 0 32 i105x2a rfl) (in_w 0 32 i109 rfl) n75 n75a (m_up mm75 (t_add e109 i80 (in_c 1 rfl) rfl) (in_w 1 1 (in_c 1 rfl) rfl))))
  have ct33 : ∀ (k33 : Nat) (sc33 : GS) (w33_60_3 : Int32), Inv sc33 → Fr fm_44_60_2 s sc33 → (w33_60_3 = sc33.2.2.1 60 3) → 33 - (w33_60_3).toInt < (k33 : Int) → GG Z (d - 1) 44 post (gx xp) (29702 + k33 * 900) 33 (fun j => xlook j [(0, .ref (A 60)), (1, .ref (A 2))]) [] (WW Z A sc33 ++ ex) 0 0 := by
    intro k33
    induction k33 with
    | zero => intro sc33 w33_60_3 hIc33 hFc33 v33_60_3 mm33; exfalso; have a0 := oa3 ro_2_1 ro_2_0 ((inv_F hIc33 0 32 rfl v33_60_3)); omega
    | succ k33 ih33 =>
      intro sc33 w33_60_3 hIc33 hFc33 v33_60_3 mm33
      refine gg_w (M := 29702 + k33 * 900 + 900) gws ?_
      refine g_aload_n 34 (gd rfl) rfl rfl ?_
      refine g_getI 37 (gd rfl) rfl rfl rfl (fun z34 e34 => ?_)
      have q34 : w33_60_3 = z34 := (v33_60_3).trans e34.symm
      subst q34
      refine g_bipush 32 39 (gd rfl) rfl rfl ?_
      refine g_cmp_ge 42 71 (gd rfl) rfl rfl (fun c39 => ?_) (fun c39 => ?_)
      · skip
        have i39 := r_le2 32 32 c39 (in_c 32 rfl) (inv_F hIc33 0 32 rfl v33_60_3) rfl
        refine g_iconst 0 72 (gd rfl) rfl rfl ?_
        refine g_istore_n 73 (gd rfl) rfl (Nat.le_of_ble_eq_true rfl) ?_
        refine g_iconst 0 74 (gd rfl) rfl rfl ?_
        refine g_istore_n 75 (gd rfl) rfl (Nat.le_of_ble_eq_true rfl) ?_
        have n75 : ((Int32.ofInt 0)).toInt ≤ ((Int32.ofInt 0)).toInt := by exact Int.le_refl _
        have n75a : 0 ≤ ((Int32.ofInt 0)).toInt := by have a0 := oa4 ro_2_1 ro_2_0 i39 ((in_c 0 rfl)); omega
        exact gg_w (by first | exact Nat.le_add_right _ _ | exact gw2 | exact gw3 | exact gwe rfl | exact gwf rfl | exact gwg rfl | exact gwh rfl | omega) (gg_f (gf_cons rfl (gf_cons rfl (gf_cons rfl (gf_cons rfl gf_nil)))) (ct75 33 sc33 (Int32.ofInt 0) (Int32.ofInt 0) hIc33 hFc33 (in_w 0 32 (in_c 0 rfl) rfl) (in_w 0 32 (in_c 0 rfl) rfl) n75 n75a (m_in 33 (in_w 0 32 (in_c 0 rfl) rfl) rfl)))
      · skip
        have i39 := r_lt1 0 31 c39 (inv_F hIc33 0 32 rfl v33_60_3) (in_c 32 rfl) rfl
        refine g_aload_n 43 (gd rfl) rfl rfl ?_
        refine g_aload_n 44 (gd rfl) rfl rfl ?_
        refine g_getA (q2 := 9) 47 (gd rfl) rfl rfl rfl rfl ?_
        refine g_aload_n 48 (gd rfl) rfl rfl ?_
        refine g_callv (X := _) (As := []) (r := [.ref (A 9), .ref (A 60)]) (b := A 2) (q := 2) 51 (gd rfl) rfl rfl rfl rfl rfl (ww_o rfl) (Nat.le_of_ble_eq_true rfl) (mc := 0) (ms := 0) (Nat.zero_le _) (Nat.zero_le _) (P := fun v u => _) ?_ (fun e u h => h) (fun v u h => h)
        intro po48 xx48 hp48 hx48
        refine g_enter2 (k := 102) (N := 300) (by first | exact dq1 hd rfl | exact dq0 hd rfl | exact dq2 hd rfl | exact dq3 hd rfl | omega) rfl (Nat.le_of_ble_eq_true rfl) ?_
        refine g_aload_n 1 (gd rfl) rfl rfl ?_
        refine g_getI 4 (gd rfl) rfl rfl rfl (fun z48x1 e48x1 => ?_)
        have q48x1 : u_2_1 = z48x1 := (fr_F e_2_1 hFc33 rfl).trans e48x1.symm
        subst q48x1
        refine g_bipush 32 6 (gd rfl) rfl rfl ?_
        refine g_cmp_lt 9 13 (gd rfl) rfl rfl (fun c48x6 => ?_) (fun c48x6 => ?_)
        · skip
          have i48x6 := r_lt1 0 31 c48x6 ro_2_1 (in_c 32 rfl) rfl
          refine g_iconst 1 14 (gd rfl) rfl rfl ?_
          refine g_aload_n 15 (gd rfl) rfl rfl ?_
          refine g_getI 18 (gd rfl) rfl rfl rfl (fun z48x15 e48x15 => ?_)
          have q48x15 : u_2_1 = z48x15 := (fr_F e_2_1 hFc33 rfl).trans e48x15.symm
          subst q48x15
          refine g_ishl 19 (gd rfl) rfl (fun z48x18 e48x18 => ?_)
          refine g_iconst 1 20 (gd rfl) rfl rfl ?_
          refine g_isub 21 (gd rfl) rfl (fun z48x20 e48x20 => ?_)
          refine g_ireturn (gd rfl) rfl rfl (hp48 _ _ ?_)
          show GG _ _ _ _ _ _ _ _ [.int z48x20, .ref (A 9), .ref (A 60)] _ _ _
          refine g_iconst 0 52 (gd rfl) rfl rfl ?_
          refine g_callv (X := _) (As := [.ref (A 9), .int z48x20, .int (Int32.ofInt 0)]) (r := []) (b := A 60) (q := 60) 55 (gd rfl) rfl rfl rfl rfl rfl (ww_o rfl) (Nat.le_of_ble_eq_true rfl) (Nat.zero_le _) (Nat.zero_le _) (k_46_60_9 (by first | exact dq1 hd rfl | exact dq0 hd rfl | exact dq2 hd rfl | exact dq3 hd rfl | omega) hIc33 (in_w 0 33 (in_c 0 rfl) rfl)) (fun e u h => h) (fun v u h => ?_)
          obtain ⟨s52, hI52, hF52, z52, rfl, rfl, i52⟩ := h
          show GG _ _ _ _ _ _ _ _ [.int z52] _ _ _
          refine g_if_ne 58 71 (gd rfl) rfl rfl (fun c55 => ?_) (fun c55 => ?_)
          · skip
            have i55 := z_ne 1 1 c55 i52 rfl
            refine g_iconst 0 72 (gd rfl) rfl rfl ?_
            refine g_istore_n 73 (gd rfl) rfl (Nat.le_of_ble_eq_true rfl) ?_
            refine g_iconst 0 74 (gd rfl) rfl rfl ?_
            refine g_istore_n 75 (gd rfl) rfl (Nat.le_of_ble_eq_true rfl) ?_
            have n75 : ((Int32.ofInt 0)).toInt ≤ ((Int32.ofInt 0)).toInt := by exact Int.le_refl _
            have n75a : 0 ≤ ((Int32.ofInt 0)).toInt := by have a0 := oa4 i48x6 ro_2_0 i39 ((in_c 0 rfl)); omega
            exact gg_w (by first | exact Nat.le_add_right _ _ | exact gw2 | exact gw3 | exact gwe rfl | exact gwf rfl | exact gwg rfl | exact gwh rfl | omega) (gg_f (gf_cons rfl (gf_cons rfl (gf_cons rfl (gf_cons rfl gf_nil)))) (ct75 33 s52 (Int32.ofInt 0) (Int32.ofInt 0) hI52 (fr_tr rfl hFc33 hF52) (in_w 0 32 (in_c 0 rfl) rfl) (in_w 0 32 (in_c 0 rfl) rfl) n75 n75a (m_in 33 (in_w 0 32 (in_c 0 rfl) rfl) rfl)))
          · skip
            have i55 := z_eq 0 0 c55 i52 rfl
            refine g_aload_n 59 (gd rfl) rfl rfl ?_
            refine g_dup 60 (gd rfl) rfl rfl ?_
            refine g_getI 63 (gd rfl) rfl rfl rfl (fun z60 e60 => ?_)
            have q60 : w33_60_3 = z60 := (fr_F (v33_60_3) hF52 rfl).trans e60.symm
            subst q60
            refine g_iconst 1 64 (gd rfl) rfl rfl ?_
            refine g_iadd 65 (gd rfl) rfl (fun z64 e64 => ?_)
            have i64 := in_add 1 32 e64 i39 (in_c 1 rfl) rfl rfl
            refine g_putI 68 (gd rfl) rfl rfl rfl rfl ?_
            have hI65 := inv_sF (q := 60) (j := 3) hI52 rfl (in_w 0 32 i64 rfl)
            refine g_goto 33 (gd rfl) rfl ?_
            have v33 : z64 = (sF s52 60 3 z64).2.2.1 60 3 := sF_get
            have m33 : 33 - (z64).toInt < ((k33 : Nat) : Int) := by have a0 := oa4 i48x6 ro_2_0 i39 i64; have a4 := t_add e64 i39 (in_c 1 rfl) rfl; have a5 := in_u ((in_c 1 rfl)); omega
            exact gg_w (by first | exact Nat.le_add_right _ _ | exact gw2 | exact gw3 | exact gwe rfl | exact gwf rfl | exact gwg rfl | exact gwh rfl | omega) (gg_f (gf_cons rfl (gf_cons rfl gf_nil)) (ih33  (sF s52 60 3 z64) z64 hI65 (fr_sF rfl (fr_tr rfl hFc33 hF52)) v33 m33))
        · skip
          have i48x6 := r_le2 32 32 c48x6 (in_c 32 rfl) ro_2_1 rfl
          refine g_iconst (-1) 10 (gd rfl) rfl rfl ?_
          refine g_goto 21 (gd rfl) rfl ?_
          refine g_ireturn (gd rfl) rfl rfl (hp48 _ _ ?_)
          show GG _ _ _ _ _ _ _ _ [.int (Int32.ofInt (-1)), .ref (A 9), .ref (A 60)] _ _ _
          refine g_iconst 0 52 (gd rfl) rfl rfl ?_
          refine g_callv (X := _) (As := [.ref (A 9), .int (Int32.ofInt (-1)), .int (Int32.ofInt 0)]) (r := []) (b := A 60) (q := 60) 55 (gd rfl) rfl rfl rfl rfl rfl (ww_o rfl) (Nat.le_of_ble_eq_true rfl) (Nat.zero_le _) (Nat.zero_le _) (k_46_60_9 (by first | exact dq1 hd rfl | exact dq0 hd rfl | exact dq2 hd rfl | exact dq3 hd rfl | omega) hIc33 (in_w 0 33 (in_c 0 rfl) rfl)) (fun e u h => h) (fun v u h => ?_)
          obtain ⟨s52, hI52, hF52, z52, rfl, rfl, i52⟩ := h
          show GG _ _ _ _ _ _ _ _ [.int z52] _ _ _
          refine g_if_ne 58 71 (gd rfl) rfl rfl (fun c55 => ?_) (fun c55 => ?_)
          · skip
            have i55 := z_ne 1 1 c55 i52 rfl
            refine g_iconst 0 72 (gd rfl) rfl rfl ?_
            refine g_istore_n 73 (gd rfl) rfl (Nat.le_of_ble_eq_true rfl) ?_
            refine g_iconst 0 74 (gd rfl) rfl rfl ?_
            refine g_istore_n 75 (gd rfl) rfl (Nat.le_of_ble_eq_true rfl) ?_
            have n75 : ((Int32.ofInt 0)).toInt ≤ ((Int32.ofInt 0)).toInt := by exact Int.le_refl _
            have n75a : 0 ≤ ((Int32.ofInt 0)).toInt := by have a0 := oa4 i48x6 ro_2_0 i39 ((in_c 0 rfl)); omega
            exact gg_w (by first | exact Nat.le_add_right _ _ | exact gw2 | exact gw3 | exact gwe rfl | exact gwf rfl | exact gwg rfl | exact gwh rfl | omega) (gg_f (gf_cons rfl (gf_cons rfl (gf_cons rfl (gf_cons rfl gf_nil)))) (ct75 33 s52 (Int32.ofInt 0) (Int32.ofInt 0) hI52 (fr_tr rfl hFc33 hF52) (in_w 0 32 (in_c 0 rfl) rfl) (in_w 0 32 (in_c 0 rfl) rfl) n75 n75a (m_in 33 (in_w 0 32 (in_c 0 rfl) rfl) rfl)))
          · skip
            have i55 := z_eq 0 0 c55 i52 rfl
            refine g_aload_n 59 (gd rfl) rfl rfl ?_
            refine g_dup 60 (gd rfl) rfl rfl ?_
            refine g_getI 63 (gd rfl) rfl rfl rfl (fun z60 e60 => ?_)
            have q60 : w33_60_3 = z60 := (fr_F (v33_60_3) hF52 rfl).trans e60.symm
            subst q60
            refine g_iconst 1 64 (gd rfl) rfl rfl ?_
            refine g_iadd 65 (gd rfl) rfl (fun z64 e64 => ?_)
            have i64 := in_add 1 32 e64 i39 (in_c 1 rfl) rfl rfl
            refine g_putI 68 (gd rfl) rfl rfl rfl rfl ?_
            have hI65 := inv_sF (q := 60) (j := 3) hI52 rfl (in_w 0 32 i64 rfl)
            refine g_goto 33 (gd rfl) rfl ?_
            have v33 : z64 = (sF s52 60 3 z64).2.2.1 60 3 := sF_get
            have m33 : 33 - (z64).toInt < ((k33 : Nat) : Int) := by have a0 := oa4 i48x6 ro_2_0 i39 i64; have a4 := t_add e64 i39 (in_c 1 rfl) rfl; have a5 := in_u ((in_c 1 rfl)); omega
            exact gg_w (by first | exact Nat.le_add_right _ _ | exact gw2 | exact gw3 | exact gwe rfl | exact gwf rfl | exact gwg rfl | exact gwh rfl | omega) (gg_f (gf_cons rfl (gf_cons rfl gf_nil)) (ih33  (sF s52 60 3 z64) z64 hI65 (fr_sF rfl (fr_tr rfl hFc33 hF52)) v33 m33))
  refine g_enter2 (k := 44) (N := 66602) (by first | exact dq1 hd rfl | exact dq0 hd rfl | exact dq2 hd rfl | exact dq3 hd rfl | omega) rfl (Nat.le_of_ble_eq_true rfl) ?_
  refine g_aload_n 1 (gd rfl) rfl rfl ?_
  refine g_callv (X := _) (As := []) (r := []) (b := A 2) (q := 2) 4 (gd rfl) rfl rfl rfl rfl rfl (ww_o rfl) (Nat.le_of_ble_eq_true rfl) (Nat.zero_le _) (Nat.zero_le _) (k_106_2 (by first | exact dq1 hd rfl | exact dq0 hd rfl | exact dq2 hd rfl | exact dq3 hd rfl | omega) hI ) (fun e u h => h) (fun v u h => ?_)
  obtain ⟨s1, hI1, hF1, n1, rfl, rfl⟩ := h
  obtain ⟨z1a, e1⟩ : ∃ w, w = s1.2.2.1 2 4 := ⟨_, rfl⟩
  have i1a := inv_F hI1 (-1) 4000 rfl e1
  rw [← (show z1a = s1.2.2.1 2 4 from e1)] at n1
  rw [← (show u_2_0 = s1.2.2.1 2 0 from fr_F (e_2_0) hF1 rfl)] at n1
  show GG _ _ _ _ _ _ _ _ [] _ _ _
  refine g_aload_n 5 (gd rfl) rfl rfl ?_
  refine g_iconst 1 6 (gd rfl) rfl rfl ?_
  refine g_aload_n 7 (gd rfl) rfl rfl ?_
  refine g_aload_n 8 (gd rfl) rfl rfl ?_
  refine g_callv (X := _) (As := [.ref (A 2)]) (r := [.int (Int32.ofInt 1), .ref (A 60)]) (b := A 60) (q := 60) 11 (gd rfl) rfl rfl rfl rfl rfl (ww_o rfl) (Nat.le_of_ble_eq_true rfl) (mc := 0) (ms := 0) (Nat.zero_le _) (Nat.zero_le _) (P := fun v u => _) ?_ (fun e u h => h) (fun v u h => h)
  intro po8 xx8 hp8 hx8
  refine g_enter2 (k := 41) (N := 300) (by first | exact dq1 hd rfl | exact dq0 hd rfl | exact dq2 hd rfl | exact dq3 hd rfl | omega) rfl (Nat.le_of_ble_eq_true rfl) ?_
  refine g_aload_n 1 (gd rfl) rfl rfl ?_
  refine g_getI 4 (gd rfl) rfl rfl rfl (fun z8x1 e8x1 => ?_)
  have i8x1 := inv_F hI1 (-1) 4000 rfl e8x1
  refine g_aload_n 5 (gd rfl) rfl rfl ?_
  refine g_getI 8 (gd rfl) rfl rfl rfl (fun z8x5 e8x5 => ?_)
  have q8x5 : u_2_0 = z8x5 := (fr_F (e_2_0) hF1 rfl).trans e8x5.symm
  subst q8x5
  refine g_cmp_eq 11 42 (gd rfl) rfl rfl (fun c8x8 => ?_) (fun c8x8 => ?_)
  · skip
    have i8x8 := r_eq1 0 4000 c8x8 i8x1 ro_2_0 rfl
    refine g_aload_n 43 (gd rfl) rfl rfl ?_
    refine g_getI 46 (gd rfl) rfl rfl rfl (fun z8x43 e8x43 => ?_)
    refine g_ireturn (gd rfl) rfl rfl (hp8 _ _ ?_)
    show GG _ _ _ _ _ _ _ _ [.int z8x43, .int (Int32.ofInt 1), .ref (A 60)] _ _ _
    refine g_calls (As := [.int z8x43]) (r := [.int (Int32.ofInt 1), .ref (A 60)]) 14 (gd rfl) rfl rfl rfl rfl rfl (Nat.le_of_ble_eq_true rfl) (Nat.zero_le _) (Nat.zero_le _) (k_414b (by first | exact dq1 hd rfl | exact dq0 hd rfl | exact dq2 hd rfl | exact dq3 hd rfl | omega) hI1 ) (fun v u h => ?_)
    obtain ⟨z11, rfl, rfl, i11⟩ := h
    show GG _ _ _ _ _ _ _ _ [.int z11, .int (Int32.ofInt 1), .ref (A 60)] _ _ _
    refine g_calls (As := [.int (Int32.ofInt 1), .int z11]) (r := [.ref (A 60)]) 17 (gd rfl) rfl rfl rfl rfl rfl (Nat.le_of_ble_eq_true rfl) (mc := 0) (ms := 0) (Nat.zero_le _) (Nat.zero_le _) (P := fun v u => _) ?_ (fun v u h => h)
    intro po14 xx14 hp14 hx14
    refine g_enter2 (k := 422) (N := 300) (by first | exact dq1 hd rfl | exact dq0 hd rfl | exact dq2 hd rfl | exact dq3 hd rfl | omega) rfl (Nat.le_of_ble_eq_true rfl) ?_
    refine g_iload_n 1 (gd rfl) rfl rfl ?_
    refine g_iload_n 2 (gd rfl) rfl rfl ?_
    refine g_cmp_lt 5 9 (gd rfl) rfl rfl (fun c14x2 => ?_) (fun c14x2 => ?_)
    · skip
      have i14x2 := r_lt2 2 32 c14x2 (in_c 1 rfl) i11 rfl
      refine g_iload_n 10 (gd rfl) rfl rfl ?_
      refine g_ireturn (gd rfl) rfl rfl (hp14 _ _ ?_)
      show GG _ _ _ _ _ _ _ _ [.int z11, .ref (A 60)] _ _ _
      refine g_putI 20 (gd rfl) rfl rfl rfl rfl ?_
      have hI17 := inv_sF (q := 60) (j := 3) hI1 rfl (in_w 0 32 i14x2 rfl)
      refine g_aload_n 21 (gd rfl) rfl rfl ?_
      refine g_iconst 0 22 (gd rfl) rfl rfl ?_
      refine g_putI 25 (gd rfl) rfl rfl rfl rfl ?_
      have hI22 := inv_sF (q := 60) (j := 7) hI17 rfl (in_w 0 32 (in_c 0 rfl) rfl)
      refine g_aload_n 26 (gd rfl) rfl rfl ?_
      refine g_getA (q2 := 61) 29 (gd rfl) rfl rfl rfl rfl ?_
      refine g_iconst 0 30 (gd rfl) rfl rfl ?_
      refine g_calls (As := [.ref (A 61), .int (Int32.ofInt 0)]) (r := []) 33 (gd rfl) rfl rfl rfl rfl rfl (Nat.le_of_ble_eq_true rfl) (Nat.zero_le _) (Nat.zero_le _) (k_fillI 61 (by first | exact dq1 hd rfl | exact dq0 hd rfl | exact dq2 hd rfl | exact dq3 hd rfl | omega) hI22 (in_c 0 rfl) (n := 32) rfl rfl rfl rfl) (fun v u h => ?_)
      obtain ⟨s30, hI30, hF30, rfl, rfl, fl30⟩ := h
      show GG _ _ _ _ _ _ _ _ [] _ _ _
      have v33 : z11 = s30.2.2.1 60 3 := fr_F (s := (sF (sF s1 60 3 z11) 60 7 (Int32.ofInt 0))) (sF_ne rfl (sF_get)) hF30 rfl
      have m33 : 33 - (z11).toInt < ((40 : Nat) : Int) := by have a0 := oa6 ro_2_1 ro_2_0 ((in_c 0 rfl)) i14x2 i8x8 i1a; omega
      exact gg_w (by first | exact Nat.le_of_ble_eq_true rfl | omega) (gg_f (gf_cons rfl (gf_cons rfl gf_nil)) (ct33 40 s30 z11 hI30 (fr_tr rfl (fr_sF rfl (fr_sF rfl (fr_tr rfl fr_rf hF1))) hF30) v33 m33))
    · skip
      have i14x2 := r_le1 0 1 c14x2 i11 (in_c 1 rfl) rfl
      refine g_iload_n 6 (gd rfl) rfl rfl ?_
      refine g_goto 10 (gd rfl) rfl ?_
      refine g_ireturn (gd rfl) rfl rfl (hp14 _ _ ?_)
      show GG _ _ _ _ _ _ _ _ [.int (Int32.ofInt 1), .ref (A 60)] _ _ _
      refine g_putI 20 (gd rfl) rfl rfl rfl rfl ?_
      have hI17 := inv_sF (q := 60) (j := 3) hI1 rfl (in_w 0 32 (in_c 1 rfl) rfl)
      refine g_aload_n 21 (gd rfl) rfl rfl ?_
      refine g_iconst 0 22 (gd rfl) rfl rfl ?_
      refine g_putI 25 (gd rfl) rfl rfl rfl rfl ?_
      have hI22 := inv_sF (q := 60) (j := 7) hI17 rfl (in_w 0 32 (in_c 0 rfl) rfl)
      refine g_aload_n 26 (gd rfl) rfl rfl ?_
      refine g_getA (q2 := 61) 29 (gd rfl) rfl rfl rfl rfl ?_
      refine g_iconst 0 30 (gd rfl) rfl rfl ?_
      refine g_calls (As := [.ref (A 61), .int (Int32.ofInt 0)]) (r := []) 33 (gd rfl) rfl rfl rfl rfl rfl (Nat.le_of_ble_eq_true rfl) (Nat.zero_le _) (Nat.zero_le _) (k_fillI 61 (by first | exact dq1 hd rfl | exact dq0 hd rfl | exact dq2 hd rfl | exact dq3 hd rfl | omega) hI22 (in_c 0 rfl) (n := 32) rfl rfl rfl rfl) (fun v u h => ?_)
      obtain ⟨s30, hI30, hF30, rfl, rfl, fl30⟩ := h
      show GG _ _ _ _ _ _ _ _ [] _ _ _
      have v33 : (Int32.ofInt 1) = s30.2.2.1 60 3 := fr_F (s := (sF (sF s1 60 3 (Int32.ofInt 1)) 60 7 (Int32.ofInt 0))) (sF_ne rfl (sF_get)) hF30 rfl
      have m33 : 33 - ((Int32.ofInt 1)).toInt < ((40 : Nat) : Int) := by have a0 := oa6 ro_2_1 ro_2_0 ((in_c 0 rfl)) ((in_c 1 rfl)) i8x8 i1a; omega
      exact gg_w (by first | exact Nat.le_of_ble_eq_true rfl | omega) (gg_f (gf_cons rfl (gf_cons rfl gf_nil)) (ct33 40 s30 (Int32.ofInt 1) hI30 (fr_tr rfl (fr_sF rfl (fr_sF rfl (fr_tr rfl fr_rf hF1))) hF30) v33 m33))
  · skip
    refine g_aload_n 12 (gd rfl) rfl rfl ?_
    refine g_aload_n 13 (gd rfl) rfl rfl ?_
    refine g_getI 16 (gd rfl) rfl rfl rfl (fun z8x13 e8x13 => ?_)
    have q8x13 : u_2_0 = z8x13 := (fr_F (e_2_0) hF1 rfl).trans e8x13.symm
    subst q8x13
    refine g_putI 19 (gd rfl) rfl rfl rfl rfl ?_
    have hI8x16 := inv_sF (q := 60) (j := 0) hI1 rfl (in_w (-1) 4000 ro_2_0 rfl)
    refine g_aload_n 20 (gd rfl) rfl rfl ?_
    refine g_callv (X := _) (As := []) (r := []) (b := A 2) (q := 2) 23 (gd rfl) rfl rfl rfl rfl rfl (ww_o rfl) (Nat.le_of_ble_eq_true rfl) (Nat.zero_le _) (Nat.zero_le _) (k_106_2 (by first | exact dq1 hd rfl | exact dq0 hd rfl | exact dq2 hd rfl | exact dq3 hd rfl | omega) hI8x16 ) (fun e u h => h) (fun v u h => ?_)
    obtain ⟨s8x20, hI8x20, hF8x20, n8x20, rfl, rfl⟩ := h
    obtain ⟨z8x20a, e8x20⟩ : ∃ w, w = s8x20.2.2.1 2 4 := ⟨_, rfl⟩
    have i8x20a := inv_F hI8x20 (-1) 4000 rfl e8x20
    rw [← (show z8x20a = s8x20.2.2.1 2 4 from e8x20)] at n8x20
    rw [← (show u_2_0 = s8x20.2.2.1 2 0 from fr_F (s := (sF s1 60 0 u_2_0)) (sF_ne rfl (fr_F (e_2_0) hF1 rfl)) hF8x20 rfl)] at n8x20
    show GG _ _ _ _ _ _ _ _ [] _ _ _
    refine g_aload_n 24 (gd rfl) rfl rfl ?_
    refine g_iconst 0 25 (gd rfl) rfl rfl ?_
    refine g_putI 28 (gd rfl) rfl rfl rfl rfl ?_
    have hI8x25 := inv_sF (q := 60) (j := 1) hI8x20 rfl (in_w (-2147483648) 2147483647 (in_c 0 rfl) rfl)
    refine g_aload_n 29 (gd rfl) rfl rfl ?_
    refine g_aload_n 30 (gd rfl) rfl rfl ?_
    refine g_getA (q2 := 9) 33 (gd rfl) rfl rfl rfl rfl ?_
    refine g_iconst 0 34 (gd rfl) rfl rfl ?_
    refine g_aload_n 35 (gd rfl) rfl rfl ?_
    refine g_callv (X := _) (As := []) (r := [.int (Int32.ofInt 0), .ref (A 9), .ref (A 60)]) (b := A 2) (q := 2) 38 (gd rfl) rfl rfl rfl rfl rfl (ww_o rfl) (Nat.le_of_ble_eq_true rfl) (mc := 0) (ms := 0) (Nat.zero_le _) (Nat.zero_le _) (P := fun v u => _) ?_ (fun e u h => h) (fun v u h => h)
    intro po8x35 xx8x35 hp8x35 hx8x35
    refine g_enter2 (k := 102) (N := 300) (by first | exact dq1 hd rfl | exact dq0 hd rfl | exact dq2 hd rfl | exact dq3 hd rfl | omega) rfl (Nat.le_of_ble_eq_true rfl) ?_
    refine g_aload_n 1 (gd rfl) rfl rfl ?_
    refine g_getI 4 (gd rfl) rfl rfl rfl (fun z8x35x1 e8x35x1 => ?_)
    have q8x35x1 : u_2_1 = z8x35x1 := (sF_ne rfl (fr_F (s := (sF s1 60 0 u_2_0)) (sF_ne rfl (fr_F (e_2_1) hF1 rfl)) hF8x20 rfl)).trans e8x35x1.symm
    subst q8x35x1
    refine g_bipush 32 6 (gd rfl) rfl rfl ?_
    refine g_cmp_lt 9 13 (gd rfl) rfl rfl (fun c8x35x6 => ?_) (fun c8x35x6 => ?_)
    · skip
      have i8x35x6 := r_lt1 0 31 c8x35x6 ro_2_1 (in_c 32 rfl) rfl
      refine g_iconst 1 14 (gd rfl) rfl rfl ?_
      refine g_aload_n 15 (gd rfl) rfl rfl ?_
      refine g_getI 18 (gd rfl) rfl rfl rfl (fun z8x35x15 e8x35x15 => ?_)
      have q8x35x15 : u_2_1 = z8x35x15 := (sF_ne rfl (fr_F (s := (sF s1 60 0 u_2_0)) (sF_ne rfl (fr_F (e_2_1) hF1 rfl)) hF8x20 rfl)).trans e8x35x15.symm
      subst q8x35x15
      refine g_ishl 19 (gd rfl) rfl (fun z8x35x18 e8x35x18 => ?_)
      refine g_iconst 1 20 (gd rfl) rfl rfl ?_
      refine g_isub 21 (gd rfl) rfl (fun z8x35x20 e8x35x20 => ?_)
      refine g_ireturn (gd rfl) rfl rfl (hp8x35 _ _ ?_)
      show GG _ _ _ _ _ _ _ _ [.int z8x35x20, .int (Int32.ofInt 0), .ref (A 9), .ref (A 60)] _ _ _
      refine g_iconst 0 39 (gd rfl) rfl rfl ?_
      refine g_callv (X := _) (As := [.ref (A 9), .int (Int32.ofInt 0), .int z8x35x20, .int (Int32.ofInt 0)]) (r := []) (b := A 60) (q := 60) 42 (gd rfl) rfl rfl rfl rfl rfl (ww_o rfl) (Nat.le_of_ble_eq_true rfl) (Nat.zero_le _) (Nat.zero_le _) (k_42_60_9 (by first | exact dq1 hd rfl | exact dq0 hd rfl | exact dq2 hd rfl | exact dq3 hd rfl | omega) hI8x25 (in_w 0 32 (in_c 0 rfl) rfl)) (fun e u h => h) (fun v u h => ?_)
      obtain ⟨s8x39, hI8x39, hF8x39, rfl, rfl⟩ := h
      show GG _ _ _ _ _ _ _ _ [] _ _ _
      refine g_aload_n 43 (gd rfl) rfl rfl ?_
      refine g_getI 46 (gd rfl) rfl rfl rfl (fun z8x43 e8x43 => ?_)
      refine g_ireturn (gd rfl) rfl rfl (hp8 _ _ ?_)
      show GG _ _ _ _ _ _ _ _ [.int z8x43, .int (Int32.ofInt 1), .ref (A 60)] _ _ _
      refine g_calls (As := [.int z8x43]) (r := [.int (Int32.ofInt 1), .ref (A 60)]) 14 (gd rfl) rfl rfl rfl rfl rfl (Nat.le_of_ble_eq_true rfl) (Nat.zero_le _) (Nat.zero_le _) (k_414b (by first | exact dq1 hd rfl | exact dq0 hd rfl | exact dq2 hd rfl | exact dq3 hd rfl | omega) hI8x39 ) (fun v u h => ?_)
      obtain ⟨z11, rfl, rfl, i11⟩ := h
      show GG _ _ _ _ _ _ _ _ [.int z11, .int (Int32.ofInt 1), .ref (A 60)] _ _ _
      refine g_calls (As := [.int (Int32.ofInt 1), .int z11]) (r := [.ref (A 60)]) 17 (gd rfl) rfl rfl rfl rfl rfl (Nat.le_of_ble_eq_true rfl) (mc := 0) (ms := 0) (Nat.zero_le _) (Nat.zero_le _) (P := fun v u => _) ?_ (fun v u h => h)
      intro po14 xx14 hp14 hx14
      refine g_enter2 (k := 422) (N := 300) (by first | exact dq1 hd rfl | exact dq0 hd rfl | exact dq2 hd rfl | exact dq3 hd rfl | omega) rfl (Nat.le_of_ble_eq_true rfl) ?_
      refine g_iload_n 1 (gd rfl) rfl rfl ?_
      refine g_iload_n 2 (gd rfl) rfl rfl ?_
      refine g_cmp_lt 5 9 (gd rfl) rfl rfl (fun c14x2 => ?_) (fun c14x2 => ?_)
      · skip
        have i14x2 := r_lt2 2 32 c14x2 (in_c 1 rfl) i11 rfl
        refine g_iload_n 10 (gd rfl) rfl rfl ?_
        refine g_ireturn (gd rfl) rfl rfl (hp14 _ _ ?_)
        show GG _ _ _ _ _ _ _ _ [.int z11, .ref (A 60)] _ _ _
        refine g_putI 20 (gd rfl) rfl rfl rfl rfl ?_
        have hI17 := inv_sF (q := 60) (j := 3) hI8x39 rfl (in_w 0 32 i14x2 rfl)
        refine g_aload_n 21 (gd rfl) rfl rfl ?_
        refine g_iconst 0 22 (gd rfl) rfl rfl ?_
        refine g_putI 25 (gd rfl) rfl rfl rfl rfl ?_
        have hI22 := inv_sF (q := 60) (j := 7) hI17 rfl (in_w 0 32 (in_c 0 rfl) rfl)
        refine g_aload_n 26 (gd rfl) rfl rfl ?_
        refine g_getA (q2 := 61) 29 (gd rfl) rfl rfl rfl rfl ?_
        refine g_iconst 0 30 (gd rfl) rfl rfl ?_
        refine g_calls (As := [.ref (A 61), .int (Int32.ofInt 0)]) (r := []) 33 (gd rfl) rfl rfl rfl rfl rfl (Nat.le_of_ble_eq_true rfl) (Nat.zero_le _) (Nat.zero_le _) (k_fillI 61 (by first | exact dq1 hd rfl | exact dq0 hd rfl | exact dq2 hd rfl | exact dq3 hd rfl | omega) hI22 (in_c 0 rfl) (n := 32) rfl rfl rfl rfl) (fun v u h => ?_)
        obtain ⟨s30, hI30, hF30, rfl, rfl, fl30⟩ := h
        show GG _ _ _ _ _ _ _ _ [] _ _ _
        have v33 : z11 = s30.2.2.1 60 3 := fr_F (s := (sF (sF s8x39 60 3 z11) 60 7 (Int32.ofInt 0))) (sF_ne rfl (sF_get)) hF30 rfl
        have m33 : 33 - (z11).toInt < ((40 : Nat) : Int) := by have a0 := oa5 i8x35x6 ro_2_0 ((in_c 0 rfl)) i14x2 i8x20a; omega
        exact gg_w (by first | exact Nat.le_of_ble_eq_true rfl | omega) (gg_f (gf_cons rfl (gf_cons rfl gf_nil)) (ct33 40 s30 z11 hI30 (fr_tr rfl (fr_sF rfl (fr_sF rfl (fr_tr rfl (fr_sF rfl (fr_tr rfl (fr_sF rfl (fr_tr rfl fr_rf hF1)) hF8x20)) hF8x39))) hF30) v33 m33))
      · skip
        have i14x2 := r_le1 0 1 c14x2 i11 (in_c 1 rfl) rfl
        refine g_iload_n 6 (gd rfl) rfl rfl ?_
        refine g_goto 10 (gd rfl) rfl ?_
        refine g_ireturn (gd rfl) rfl rfl (hp14 _ _ ?_)
        show GG _ _ _ _ _ _ _ _ [.int (Int32.ofInt 1), .ref (A 60)] _ _ _
        refine g_putI 20 (gd rfl) rfl rfl rfl rfl ?_
        have hI17 := inv_sF (q := 60) (j := 3) hI8x39 rfl (in_w 0 32 (in_c 1 rfl) rfl)
        refine g_aload_n 21 (gd rfl) rfl rfl ?_
        refine g_iconst 0 22 (gd rfl) rfl rfl ?_
        refine g_putI 25 (gd rfl) rfl rfl rfl rfl ?_
        have hI22 := inv_sF (q := 60) (j := 7) hI17 rfl (in_w 0 32 (in_c 0 rfl) rfl)
        refine g_aload_n 26 (gd rfl) rfl rfl ?_
        refine g_getA (q2 := 61) 29 (gd rfl) rfl rfl rfl rfl ?_
        refine g_iconst 0 30 (gd rfl) rfl rfl ?_
        refine g_calls (As := [.ref (A 61), .int (Int32.ofInt 0)]) (r := []) 33 (gd rfl) rfl rfl rfl rfl rfl (Nat.le_of_ble_eq_true rfl) (Nat.zero_le _) (Nat.zero_le _) (k_fillI 61 (by first | exact dq1 hd rfl | exact dq0 hd rfl | exact dq2 hd rfl | exact dq3 hd rfl | omega) hI22 (in_c 0 rfl) (n := 32) rfl rfl rfl rfl) (fun v u h => ?_)
        obtain ⟨s30, hI30, hF30, rfl, rfl, fl30⟩ := h
        show GG _ _ _ _ _ _ _ _ [] _ _ _
        have v33 : (Int32.ofInt 1) = s30.2.2.1 60 3 := fr_F (s := (sF (sF s8x39 60 3 (Int32.ofInt 1)) 60 7 (Int32.ofInt 0))) (sF_ne rfl (sF_get)) hF30 rfl
        have m33 : 33 - ((Int32.ofInt 1)).toInt < ((40 : Nat) : Int) := by have a0 := oa5 i8x35x6 ro_2_0 ((in_c 0 rfl)) ((in_c 1 rfl)) i8x20a; omega
        exact gg_w (by first | exact Nat.le_of_ble_eq_true rfl | omega) (gg_f (gf_cons rfl (gf_cons rfl gf_nil)) (ct33 40 s30 (Int32.ofInt 1) hI30 (fr_tr rfl (fr_sF rfl (fr_sF rfl (fr_tr rfl (fr_sF rfl (fr_tr rfl (fr_sF rfl (fr_tr rfl fr_rf hF1)) hF8x20)) hF8x39))) hF30) v33 m33))
    · skip
      have i8x35x6 := r_le2 32 32 c8x35x6 (in_c 32 rfl) ro_2_1 rfl
      refine g_iconst (-1) 10 (gd rfl) rfl rfl ?_
      refine g_goto 21 (gd rfl) rfl ?_
      refine g_ireturn (gd rfl) rfl rfl (hp8x35 _ _ ?_)
      show GG _ _ _ _ _ _ _ _ [.int (Int32.ofInt (-1)), .int (Int32.ofInt 0), .ref (A 9), .ref (A 60)] _ _ _
      refine g_iconst 0 39 (gd rfl) rfl rfl ?_
      refine g_callv (X := _) (As := [.ref (A 9), .int (Int32.ofInt 0), .int (Int32.ofInt (-1)), .int (Int32.ofInt 0)]) (r := []) (b := A 60) (q := 60) 42 (gd rfl) rfl rfl rfl rfl rfl (ww_o rfl) (Nat.le_of_ble_eq_true rfl) (Nat.zero_le _) (Nat.zero_le _) (k_42_60_9 (by first | exact dq1 hd rfl | exact dq0 hd rfl | exact dq2 hd rfl | exact dq3 hd rfl | omega) hI8x25 (in_w 0 32 (in_c 0 rfl) rfl)) (fun e u h => h) (fun v u h => ?_)
      obtain ⟨s8x39, hI8x39, hF8x39, rfl, rfl⟩ := h
      show GG _ _ _ _ _ _ _ _ [] _ _ _
      refine g_aload_n 43 (gd rfl) rfl rfl ?_
      refine g_getI 46 (gd rfl) rfl rfl rfl (fun z8x43 e8x43 => ?_)
      refine g_ireturn (gd rfl) rfl rfl (hp8 _ _ ?_)
      show GG _ _ _ _ _ _ _ _ [.int z8x43, .int (Int32.ofInt 1), .ref (A 60)] _ _ _
      refine g_calls (As := [.int z8x43]) (r := [.int (Int32.ofInt 1), .ref (A 60)]) 14 (gd rfl) rfl rfl rfl rfl rfl (Nat.le_of_ble_eq_true rfl) (Nat.zero_le _) (Nat.zero_le _) (k_414b (by first | exact dq1 hd rfl | exact dq0 hd rfl | exact dq2 hd rfl | exact dq3 hd rfl | omega) hI8x39 ) (fun v u h => ?_)
      obtain ⟨z11, rfl, rfl, i11⟩ := h
      show GG _ _ _ _ _ _ _ _ [.int z11, .int (Int32.ofInt 1), .ref (A 60)] _ _ _
      refine g_calls (As := [.int (Int32.ofInt 1), .int z11]) (r := [.ref (A 60)]) 17 (gd rfl) rfl rfl rfl rfl rfl (Nat.le_of_ble_eq_true rfl) (mc := 0) (ms := 0) (Nat.zero_le _) (Nat.zero_le _) (P := fun v u => _) ?_ (fun v u h => h)
      intro po14 xx14 hp14 hx14
      refine g_enter2 (k := 422) (N := 300) (by first | exact dq1 hd rfl | exact dq0 hd rfl | exact dq2 hd rfl | exact dq3 hd rfl | omega) rfl (Nat.le_of_ble_eq_true rfl) ?_
      refine g_iload_n 1 (gd rfl) rfl rfl ?_
      refine g_iload_n 2 (gd rfl) rfl rfl ?_
      refine g_cmp_lt 5 9 (gd rfl) rfl rfl (fun c14x2 => ?_) (fun c14x2 => ?_)
      · skip
        have i14x2 := r_lt2 2 32 c14x2 (in_c 1 rfl) i11 rfl
        refine g_iload_n 10 (gd rfl) rfl rfl ?_
        refine g_ireturn (gd rfl) rfl rfl (hp14 _ _ ?_)
        show GG _ _ _ _ _ _ _ _ [.int z11, .ref (A 60)] _ _ _
        refine g_putI 20 (gd rfl) rfl rfl rfl rfl ?_
        have hI17 := inv_sF (q := 60) (j := 3) hI8x39 rfl (in_w 0 32 i14x2 rfl)
        refine g_aload_n 21 (gd rfl) rfl rfl ?_
        refine g_iconst 0 22 (gd rfl) rfl rfl ?_
        refine g_putI 25 (gd rfl) rfl rfl rfl rfl ?_
        have hI22 := inv_sF (q := 60) (j := 7) hI17 rfl (in_w 0 32 (in_c 0 rfl) rfl)
        refine g_aload_n 26 (gd rfl) rfl rfl ?_
        refine g_getA (q2 := 61) 29 (gd rfl) rfl rfl rfl rfl ?_
        refine g_iconst 0 30 (gd rfl) rfl rfl ?_
        refine g_calls (As := [.ref (A 61), .int (Int32.ofInt 0)]) (r := []) 33 (gd rfl) rfl rfl rfl rfl rfl (Nat.le_of_ble_eq_true rfl) (Nat.zero_le _) (Nat.zero_le _) (k_fillI 61 (by first | exact dq1 hd rfl | exact dq0 hd rfl | exact dq2 hd rfl | exact dq3 hd rfl | omega) hI22 (in_c 0 rfl) (n := 32) rfl rfl rfl rfl) (fun v u h => ?_)
        obtain ⟨s30, hI30, hF30, rfl, rfl, fl30⟩ := h
        show GG _ _ _ _ _ _ _ _ [] _ _ _
        have v33 : z11 = s30.2.2.1 60 3 := fr_F (s := (sF (sF s8x39 60 3 z11) 60 7 (Int32.ofInt 0))) (sF_ne rfl (sF_get)) hF30 rfl
        have m33 : 33 - (z11).toInt < ((40 : Nat) : Int) := by have a0 := oa5 i8x35x6 ro_2_0 ((in_c 0 rfl)) i14x2 i8x20a; omega
        exact gg_w (by first | exact Nat.le_of_ble_eq_true rfl | omega) (gg_f (gf_cons rfl (gf_cons rfl gf_nil)) (ct33 40 s30 z11 hI30 (fr_tr rfl (fr_sF rfl (fr_sF rfl (fr_tr rfl (fr_sF rfl (fr_tr rfl (fr_sF rfl (fr_tr rfl fr_rf hF1)) hF8x20)) hF8x39))) hF30) v33 m33))
      · skip
        have i14x2 := r_le1 0 1 c14x2 i11 (in_c 1 rfl) rfl
        refine g_iload_n 6 (gd rfl) rfl rfl ?_
        refine g_goto 10 (gd rfl) rfl ?_
        refine g_ireturn (gd rfl) rfl rfl (hp14 _ _ ?_)
        show GG _ _ _ _ _ _ _ _ [.int (Int32.ofInt 1), .ref (A 60)] _ _ _
        refine g_putI 20 (gd rfl) rfl rfl rfl rfl ?_
        have hI17 := inv_sF (q := 60) (j := 3) hI8x39 rfl (in_w 0 32 (in_c 1 rfl) rfl)
        refine g_aload_n 21 (gd rfl) rfl rfl ?_
        refine g_iconst 0 22 (gd rfl) rfl rfl ?_
        refine g_putI 25 (gd rfl) rfl rfl rfl rfl ?_
        have hI22 := inv_sF (q := 60) (j := 7) hI17 rfl (in_w 0 32 (in_c 0 rfl) rfl)
        refine g_aload_n 26 (gd rfl) rfl rfl ?_
        refine g_getA (q2 := 61) 29 (gd rfl) rfl rfl rfl rfl ?_
        refine g_iconst 0 30 (gd rfl) rfl rfl ?_
        refine g_calls (As := [.ref (A 61), .int (Int32.ofInt 0)]) (r := []) 33 (gd rfl) rfl rfl rfl rfl rfl (Nat.le_of_ble_eq_true rfl) (Nat.zero_le _) (Nat.zero_le _) (k_fillI 61 (by first | exact dq1 hd rfl | exact dq0 hd rfl | exact dq2 hd rfl | exact dq3 hd rfl | omega) hI22 (in_c 0 rfl) (n := 32) rfl rfl rfl rfl) (fun v u h => ?_)
        obtain ⟨s30, hI30, hF30, rfl, rfl, fl30⟩ := h
        show GG _ _ _ _ _ _ _ _ [] _ _ _
        have v33 : (Int32.ofInt 1) = s30.2.2.1 60 3 := fr_F (s := (sF (sF s8x39 60 3 (Int32.ofInt 1)) 60 7 (Int32.ofInt 0))) (sF_ne rfl (sF_get)) hF30 rfl
        have m33 : 33 - ((Int32.ofInt 1)).toInt < ((40 : Nat) : Int) := by have a0 := oa5 i8x35x6 ro_2_0 ((in_c 0 rfl)) ((in_c 1 rfl)) i8x20a; omega
        exact gg_w (by first | exact Nat.le_of_ble_eq_true rfl | omega) (gg_f (gf_cons rfl (gf_cons rfl gf_nil)) (ct33 40 s30 (Int32.ofInt 1) hI30 (fr_tr rfl (fr_sF rfl (fr_sF rfl (fr_tr rfl (fr_sF rfl (fr_tr rfl (fr_sF rfl (fr_tr rfl fr_rf hF1)) hF8x20)) hF8x39))) hF30) v33 m33))

def fm_44_60_32 : FM := ([39, 40, 41, 42, 43, 44, 45, 61, 62, 63, 64], [], [(32, 4), (60, 0), (60, 1), (60, 3), (60, 7)], [])
/-- GraphHouse$Colours.makeColours -/
theorem k_44_60_32 {Z : AmZ} {A : Nat → Nat} {s : GS} {ex : va_W} {d : Nat} {X : AmX}  (hd : 383 ≤ d) (hI : Inv s)  : GC Z d 44 [.ref (A 60), .ref (A 32)] (WW Z A s ++ ex) 0 0 (fun v u => ∃ t : GS, Inv t ∧ Fr fm_44_60_32 s t ∧ v = none ∧ u = WW Z A t ++ ex) X := by
  intro post xp hP hX
  obtain ⟨u_32_0, e_32_0⟩ : ∃ w, w = s.2.2.1 32 0 := ⟨_, rfl⟩
  have ro_32_0 := inv_F hI 0 4000 rfl e_32_0
  obtain ⟨u_32_1, e_32_1⟩ : ∃ w, w = s.2.2.1 32 1 := ⟨_, rfl⟩
  have ro_32_1 := inv_F hI 0 32 rfl e_32_1
  have ct75 : ∀ (k75 : Nat) (sc75 : GS) (y75_2 : Int32) (y75_3 : Int32), Inv sc75 → Fr fm_44_60_32 s sc75 → (In y75_2 0 32) → (In y75_3 0 32) → ((y75_2).toInt ≤ (y75_3).toInt) → (0 ≤ (y75_2).toInt) → 32 - (y75_3).toInt < (k75 : Int) → GG Z (d - 1) 44 post (gx xp) (1 + k75 * 900) 75 (fun j => xlook j [(0, .ref (A 60)), (1, .ref (A 32)), (2, .int y75_2), (3, .int y75_3)]) [] (WW Z A sc75 ++ ex) 0 0 := by
    intro k75
    induction k75 with
    | zero => intro sc75 y75_2 y75_3 hIc75 hFc75 j75_2 j75_3 n75_0 n75_1 mm75; exact m_no mm75 j75_3 rfl
    | succ k75 ih75 =>
      intro sc75 y75_2 y75_3 hIc75 hFc75 j75_2 j75_3 n75_0 n75_1 mm75
      refine gg_w (M := 1 + k75 * 900 + 900) gws ?_
      refine g_iload_n 76 (gd rfl) rfl rfl ?_
      refine g_aload_n 77 (gd rfl) rfl rfl ?_
      refine g_getI 80 (gd rfl) rfl rfl rfl (fun z77 e77 => ?_)
      have q77 : u_32_1 = z77 := (fr_F e_32_1 hFc75 rfl).trans e77.symm
      subst q77
      refine g_cmp_ge 83 115 (gd rfl) rfl rfl (fun c80 => ?_) (fun c80 => ?_)
      · skip
        exact g_return (gd rfl) rfl (hP _ _ ⟨sc75, hIc75, hFc75, rfl, rfl⟩)
      · skip
        have i80 := r_lt1 0 31 c80 j75_3 ro_32_1 rfl
        have i80a := r_lt2 1 32 c80 j75_3 ro_32_1 rfl
        refine g_aload_n 84 (gd rfl) rfl rfl ?_
        refine g_getA (q2 := 64) 87 (gd rfl) rfl rfl rfl rfl ?_
        refine g_iload_n 88 (gd rfl) rfl rfl ?_
        have i88 : In y75_2 0 31 := by exact ⟨by have a0 := oa4 i80a ro_32_0 i80 j75_2; omega, by have a0 := oa4 i80a ro_32_0 i80 j75_2; omega⟩
        refine g_aload_n 89 (gd rfl) rfl rfl ?_
        refine g_aload_n 90 (gd rfl) rfl rfl ?_
        refine g_iload_n 91 (gd rfl) rfl rfl ?_
        refine g_iload_n 92 (gd rfl) rfl rfl ?_
        refine g_callv (X := _) (As := [.ref (A 32), .int y75_3, .int y75_2]) (r := [.int y75_3, .ref (A 64)]) (b := A 60) (q := 60) 95 (gd rfl) rfl rfl rfl rfl rfl (ww_o rfl) (Nat.le_of_ble_eq_true rfl) (Nat.zero_le _) (Nat.zero_le _) (k_53_60_32 (by first | exact dq1 hd rfl | exact dq0 hd rfl | exact dq2 hd rfl | exact dq3 hd rfl | omega) hIc75 (in_w 0 31 i80 rfl) (in_w 0 31 i88 rfl)) (fun e u h => h) (fun v u h => ?_)
        obtain ⟨s92, hI92, hF92, z92, rfl, rfl, i92, p92⟩ := h
        show GG _ _ _ _ _ _ _ _ [.int z92, .int y75_3, .ref (A 64)] _ _ _
        refine g_iastore 96 (gd rfl) rfl (n := 32) rfl (in_ix i80 rfl) ?_
        have hI95 := inv_sI (q := 64) (j := y75_3.toNatClampNeg) hI92 rfl (in_w 0 31 i92 rfl)
        refine g_iload_n 97 (gd rfl) rfl rfl ?_
        refine g_aload_n 98 (gd rfl) rfl rfl ?_
        refine g_getA (q2 := 64) 101 (gd rfl) rfl rfl rfl rfl ?_
        refine g_iload_n 102 (gd rfl) rfl rfl ?_
        refine g_iaload 103 (gd rfl) rfl (n := 32) rfl (in_ix i80 rfl) (fun z102 e102 => ?_)
        have q102 : z92 = z102 := (sI_get).trans e102.symm
        subst q102
        refine g_iconst 1 104 (gd rfl) rfl rfl ?_
        refine g_iadd 105 (gd rfl) rfl (fun z104 e104 => ?_)
        have i104 := in_add 1 32 e104 i92 (in_c 1 rfl) rfl rfl
        refine g_calls (As := [.int y75_2, .int z104]) (r := []) 108 (gd rfl) rfl rfl rfl rfl rfl (Nat.le_of_ble_eq_true rfl) (mc := 0) (ms := 0) (Nat.zero_le _) (Nat.zero_le _) (P := fun v u => _) ?_ (fun v u h => h)
        intro po105 xx105 hp105 hx105
        refine g_enter2 (k := 422) (N := 300) (by first | exact dq1 hd rfl | exact dq0 hd rfl | exact dq2 hd rfl | exact dq3 hd rfl | omega) rfl (Nat.le_of_ble_eq_true rfl) ?_
        refine g_iload_n 1 (gd rfl) rfl rfl ?_
        refine g_iload_n 2 (gd rfl) rfl rfl ?_
        refine g_cmp_lt 5 9 (gd rfl) rfl rfl (fun c105x2 => ?_) (fun c105x2 => ?_)
        · skip
          refine g_iload_n 10 (gd rfl) rfl rfl ?_
          refine g_ireturn (gd rfl) rfl rfl (hp105 _ _ ?_)
          show GG _ _ _ _ _ _ _ _ [.int z104] _ _ _
          refine g_istore_n 109 (gd rfl) rfl (Nat.le_of_ble_eq_true rfl) ?_
          refine g_iinc 112 (gd rfl) rfl rfl (Nat.le_of_ble_eq_true rfl) (fun z109 e109 => ?_)
          have i109 := in_add 1 32 e109 i80 (in_c 1 rfl) rfl rfl
          refine g_goto 75 (gd rfl) rfl ?_
          have n75 : (z104).toInt ≤ (z109).toInt := by have a0 := oa5 i80a ro_32_0 i80 i88 i109; have a5 := t_add e109 i80 (in_c 1 rfl) rfl; have a6 := oa2 ((in_c 1 rfl)) i104; have a8 := t_add e104 i92 (in_c 1 rfl) rfl; have a9 := in_u i92; omega
          have n75a : 0 ≤ (z104).toInt := by have a0 := oa5 i80a ro_32_0 i80 i88 i109; have a5 := t_add e109 i80 (in_c 1 rfl) rfl; have a6 := oa2 ((in_c 1 rfl)) i104; have a8 := t_add e104 i92 (in_c 1 rfl) rfl; have a9 := in_u i92; omega
          exact gg_w (by first | exact Nat.le_add_right _ _ | exact gw2 | exact gw3 | exact gwe rfl | exact gwf rfl | exact gwg rfl | exact gwh rfl | omega) (gg_f (gf_cons rfl (gf_cons rfl (gf_cons rfl (gf_cons rfl gf_nil)))) (ih75 (sI s92 64 y75_3.toNatClampNeg z92) z104 z109 hI95 (fr_sI rfl (fr_tr rfl hFc75 hF92)) (in_w 0 32 i104 rfl) (in_w 0 32 i109 rfl) n75 n75a (m_up mm75 (t_add e109 i80 (in_c 1 rfl) rfl) (in_w 1 1 (in_c 1 rfl) rfl))))
        · skip
          have i105x2 := r_le1 1 31 c105x2 i104 i88 rfl
          have i105x2a := r_le2 1 31 c105x2 i104 i88 rfl
          refine g_iload_n 6 (gd rfl) rfl rfl ?_
          refine g_goto 10 (gd rfl) rfl ?_
          refine g_ireturn (gd rfl) rfl rfl (hp105 _ _ ?_)
          show GG _ _ _ _ _ _ _ _ [.int y75_2] _ _ _
          refine g_istore_n 109 (gd rfl) rfl (Nat.le_of_ble_eq_true rfl) ?_
          refine g_iinc 112 (gd rfl) rfl rfl (Nat.le_of_ble_eq_true rfl) (fun z109 e109 => ?_)
          have i109 := in_add 1 32 e109 i80 (in_c 1 rfl) rfl rfl
          refine g_goto 75 (gd rfl) rfl ?_
          have n75 : (y75_2).toInt ≤ (z109).toInt := by have a0 := oa5 i80a ro_32_0 i80 i105x2a i109; have a5 := t_add e109 i80 (in_c 1 rfl) rfl; have a6 := oa2 ((in_c 1 rfl)) i105x2; have a8 := t_add e104 i92 (in_c 1 rfl) rfl; have a9 := in_u i92; omega
          have n75a : 0 ≤ (y75_2).toInt := by first | exact n75_1 | (have a0 := oa5 i80a ro_32_0 i80 i105x2a i109; have a5 := t_add e109 i80 (in_c 1 rfl) rfl; have a6 := oa2 ((in_c 1 rfl)) i105x2; have a8 := t_add e104 i92 (in_c 1 rfl) rfl; have a9 := in_u i92; omega)
          exact gg_w (by first | exact Nat.le_add_right _ _ | exact gw2 | exact gw3 | exact gwe rfl | exact gwf rfl | exact gwg rfl | exact gwh rfl | omega) (gg_f (gf_cons rfl (gf_cons rfl (gf_cons rfl (gf_cons rfl gf_nil)))) (ih75 (sI s92 64 y75_3.toNatClampNeg z92) y75_2 z109 hI95 (fr_sI rfl (fr_tr rfl hFc75 hF92)) (in_w 0 32 i105x2a rfl) (in_w 0 32 i109 rfl) n75 n75a (m_up mm75 (t_add e109 i80 (in_c 1 rfl) rfl) (in_w 1 1 (in_c 1 rfl) rfl))))
  have ct33 : ∀ (k33 : Nat) (sc33 : GS) (w33_60_3 : Int32), Inv sc33 → Fr fm_44_60_32 s sc33 → (w33_60_3 = sc33.2.2.1 60 3) → 33 - (w33_60_3).toInt < (k33 : Int) → GG Z (d - 1) 44 post (gx xp) (29702 + k33 * 900) 33 (fun j => xlook j [(0, .ref (A 60)), (1, .ref (A 32))]) [] (WW Z A sc33 ++ ex) 0 0 := by
    intro k33
    induction k33 with
    | zero => intro sc33 w33_60_3 hIc33 hFc33 v33_60_3 mm33; exfalso; have a0 := oa3 ro_32_1 ro_32_0 ((inv_F hIc33 0 32 rfl v33_60_3)); omega
    | succ k33 ih33 =>
      intro sc33 w33_60_3 hIc33 hFc33 v33_60_3 mm33
      refine gg_w (M := 29702 + k33 * 900 + 900) gws ?_
      refine g_aload_n 34 (gd rfl) rfl rfl ?_
      refine g_getI 37 (gd rfl) rfl rfl rfl (fun z34 e34 => ?_)
      have q34 : w33_60_3 = z34 := (v33_60_3).trans e34.symm
      subst q34
      refine g_bipush 32 39 (gd rfl) rfl rfl ?_
      refine g_cmp_ge 42 71 (gd rfl) rfl rfl (fun c39 => ?_) (fun c39 => ?_)
      · skip
        have i39 := r_le2 32 32 c39 (in_c 32 rfl) (inv_F hIc33 0 32 rfl v33_60_3) rfl
        refine g_iconst 0 72 (gd rfl) rfl rfl ?_
        refine g_istore_n 73 (gd rfl) rfl (Nat.le_of_ble_eq_true rfl) ?_
        refine g_iconst 0 74 (gd rfl) rfl rfl ?_
        refine g_istore_n 75 (gd rfl) rfl (Nat.le_of_ble_eq_true rfl) ?_
        have n75 : ((Int32.ofInt 0)).toInt ≤ ((Int32.ofInt 0)).toInt := by exact Int.le_refl _
        have n75a : 0 ≤ ((Int32.ofInt 0)).toInt := by have a0 := oa4 ro_32_1 ro_32_0 i39 ((in_c 0 rfl)); omega
        exact gg_w (by first | exact Nat.le_add_right _ _ | exact gw2 | exact gw3 | exact gwe rfl | exact gwf rfl | exact gwg rfl | exact gwh rfl | omega) (gg_f (gf_cons rfl (gf_cons rfl (gf_cons rfl (gf_cons rfl gf_nil)))) (ct75 33 sc33 (Int32.ofInt 0) (Int32.ofInt 0) hIc33 hFc33 (in_w 0 32 (in_c 0 rfl) rfl) (in_w 0 32 (in_c 0 rfl) rfl) n75 n75a (m_in 33 (in_w 0 32 (in_c 0 rfl) rfl) rfl)))
      · skip
        have i39 := r_lt1 0 31 c39 (inv_F hIc33 0 32 rfl v33_60_3) (in_c 32 rfl) rfl
        refine g_aload_n 43 (gd rfl) rfl rfl ?_
        refine g_aload_n 44 (gd rfl) rfl rfl ?_
        refine g_getA (q2 := 39) 47 (gd rfl) rfl rfl rfl rfl ?_
        refine g_aload_n 48 (gd rfl) rfl rfl ?_
        refine g_callv (X := _) (As := []) (r := [.ref (A 39), .ref (A 60)]) (b := A 32) (q := 32) 51 (gd rfl) rfl rfl rfl rfl rfl (ww_o rfl) (Nat.le_of_ble_eq_true rfl) (mc := 0) (ms := 0) (Nat.zero_le _) (Nat.zero_le _) (P := fun v u => _) ?_ (fun e u h => h) (fun v u h => h)
        intro po48 xx48 hp48 hx48
        refine g_enter2 (k := 102) (N := 300) (by first | exact dq1 hd rfl | exact dq0 hd rfl | exact dq2 hd rfl | exact dq3 hd rfl | omega) rfl (Nat.le_of_ble_eq_true rfl) ?_
        refine g_aload_n 1 (gd rfl) rfl rfl ?_
        refine g_getI 4 (gd rfl) rfl rfl rfl (fun z48x1 e48x1 => ?_)
        have q48x1 : u_32_1 = z48x1 := (fr_F e_32_1 hFc33 rfl).trans e48x1.symm
        subst q48x1
        refine g_bipush 32 6 (gd rfl) rfl rfl ?_
        refine g_cmp_lt 9 13 (gd rfl) rfl rfl (fun c48x6 => ?_) (fun c48x6 => ?_)
        · skip
          have i48x6 := r_lt1 0 31 c48x6 ro_32_1 (in_c 32 rfl) rfl
          refine g_iconst 1 14 (gd rfl) rfl rfl ?_
          refine g_aload_n 15 (gd rfl) rfl rfl ?_
          refine g_getI 18 (gd rfl) rfl rfl rfl (fun z48x15 e48x15 => ?_)
          have q48x15 : u_32_1 = z48x15 := (fr_F e_32_1 hFc33 rfl).trans e48x15.symm
          subst q48x15
          refine g_ishl 19 (gd rfl) rfl (fun z48x18 e48x18 => ?_)
          refine g_iconst 1 20 (gd rfl) rfl rfl ?_
          refine g_isub 21 (gd rfl) rfl (fun z48x20 e48x20 => ?_)
          refine g_ireturn (gd rfl) rfl rfl (hp48 _ _ ?_)
          show GG _ _ _ _ _ _ _ _ [.int z48x20, .ref (A 39), .ref (A 60)] _ _ _
          refine g_iconst 0 52 (gd rfl) rfl rfl ?_
          refine g_callv (X := _) (As := [.ref (A 39), .int z48x20, .int (Int32.ofInt 0)]) (r := []) (b := A 60) (q := 60) 55 (gd rfl) rfl rfl rfl rfl rfl (ww_o rfl) (Nat.le_of_ble_eq_true rfl) (Nat.zero_le _) (Nat.zero_le _) (k_46_60_39 (by first | exact dq1 hd rfl | exact dq0 hd rfl | exact dq2 hd rfl | exact dq3 hd rfl | omega) hIc33 (in_w 0 33 (in_c 0 rfl) rfl)) (fun e u h => h) (fun v u h => ?_)
          obtain ⟨s52, hI52, hF52, z52, rfl, rfl, i52⟩ := h
          show GG _ _ _ _ _ _ _ _ [.int z52] _ _ _
          refine g_if_ne 58 71 (gd rfl) rfl rfl (fun c55 => ?_) (fun c55 => ?_)
          · skip
            have i55 := z_ne 1 1 c55 i52 rfl
            refine g_iconst 0 72 (gd rfl) rfl rfl ?_
            refine g_istore_n 73 (gd rfl) rfl (Nat.le_of_ble_eq_true rfl) ?_
            refine g_iconst 0 74 (gd rfl) rfl rfl ?_
            refine g_istore_n 75 (gd rfl) rfl (Nat.le_of_ble_eq_true rfl) ?_
            have n75 : ((Int32.ofInt 0)).toInt ≤ ((Int32.ofInt 0)).toInt := by exact Int.le_refl _
            have n75a : 0 ≤ ((Int32.ofInt 0)).toInt := by have a0 := oa4 i48x6 ro_32_0 i39 ((in_c 0 rfl)); omega
            exact gg_w (by first | exact Nat.le_add_right _ _ | exact gw2 | exact gw3 | exact gwe rfl | exact gwf rfl | exact gwg rfl | exact gwh rfl | omega) (gg_f (gf_cons rfl (gf_cons rfl (gf_cons rfl (gf_cons rfl gf_nil)))) (ct75 33 s52 (Int32.ofInt 0) (Int32.ofInt 0) hI52 (fr_tr rfl hFc33 hF52) (in_w 0 32 (in_c 0 rfl) rfl) (in_w 0 32 (in_c 0 rfl) rfl) n75 n75a (m_in 33 (in_w 0 32 (in_c 0 rfl) rfl) rfl)))
          · skip
            have i55 := z_eq 0 0 c55 i52 rfl
            refine g_aload_n 59 (gd rfl) rfl rfl ?_
            refine g_dup 60 (gd rfl) rfl rfl ?_
            refine g_getI 63 (gd rfl) rfl rfl rfl (fun z60 e60 => ?_)
            have q60 : w33_60_3 = z60 := (fr_F (v33_60_3) hF52 rfl).trans e60.symm
            subst q60
            refine g_iconst 1 64 (gd rfl) rfl rfl ?_
            refine g_iadd 65 (gd rfl) rfl (fun z64 e64 => ?_)
            have i64 := in_add 1 32 e64 i39 (in_c 1 rfl) rfl rfl
            refine g_putI 68 (gd rfl) rfl rfl rfl rfl ?_
            have hI65 := inv_sF (q := 60) (j := 3) hI52 rfl (in_w 0 32 i64 rfl)
            refine g_goto 33 (gd rfl) rfl ?_
            have v33 : z64 = (sF s52 60 3 z64).2.2.1 60 3 := sF_get
            have m33 : 33 - (z64).toInt < ((k33 : Nat) : Int) := by have a0 := oa4 i48x6 ro_32_0 i39 i64; have a4 := t_add e64 i39 (in_c 1 rfl) rfl; have a5 := in_u ((in_c 1 rfl)); omega
            exact gg_w (by first | exact Nat.le_add_right _ _ | exact gw2 | exact gw3 | exact gwe rfl | exact gwf rfl | exact gwg rfl | exact gwh rfl | omega) (gg_f (gf_cons rfl (gf_cons rfl gf_nil)) (ih33  (sF s52 60 3 z64) z64 hI65 (fr_sF rfl (fr_tr rfl hFc33 hF52)) v33 m33))
        · skip
          have i48x6 := r_le2 32 32 c48x6 (in_c 32 rfl) ro_32_1 rfl
          refine g_iconst (-1) 10 (gd rfl) rfl rfl ?_
          refine g_goto 21 (gd rfl) rfl ?_
          refine g_ireturn (gd rfl) rfl rfl (hp48 _ _ ?_)
          show GG _ _ _ _ _ _ _ _ [.int (Int32.ofInt (-1)), .ref (A 39), .ref (A 60)] _ _ _
          refine g_iconst 0 52 (gd rfl) rfl rfl ?_
          refine g_callv (X := _) (As := [.ref (A 39), .int (Int32.ofInt (-1)), .int (Int32.ofInt 0)]) (r := []) (b := A 60) (q := 60) 55 (gd rfl) rfl rfl rfl rfl rfl (ww_o rfl) (Nat.le_of_ble_eq_true rfl) (Nat.zero_le _) (Nat.zero_le _) (k_46_60_39 (by first | exact dq1 hd rfl | exact dq0 hd rfl | exact dq2 hd rfl | exact dq3 hd rfl | omega) hIc33 (in_w 0 33 (in_c 0 rfl) rfl)) (fun e u h => h) (fun v u h => ?_)
          obtain ⟨s52, hI52, hF52, z52, rfl, rfl, i52⟩ := h
          show GG _ _ _ _ _ _ _ _ [.int z52] _ _ _
          refine g_if_ne 58 71 (gd rfl) rfl rfl (fun c55 => ?_) (fun c55 => ?_)
          · skip
            have i55 := z_ne 1 1 c55 i52 rfl
            refine g_iconst 0 72 (gd rfl) rfl rfl ?_
            refine g_istore_n 73 (gd rfl) rfl (Nat.le_of_ble_eq_true rfl) ?_
            refine g_iconst 0 74 (gd rfl) rfl rfl ?_
            refine g_istore_n 75 (gd rfl) rfl (Nat.le_of_ble_eq_true rfl) ?_
            have n75 : ((Int32.ofInt 0)).toInt ≤ ((Int32.ofInt 0)).toInt := by exact Int.le_refl _
            have n75a : 0 ≤ ((Int32.ofInt 0)).toInt := by have a0 := oa4 i48x6 ro_32_0 i39 ((in_c 0 rfl)); omega
            exact gg_w (by first | exact Nat.le_add_right _ _ | exact gw2 | exact gw3 | exact gwe rfl | exact gwf rfl | exact gwg rfl | exact gwh rfl | omega) (gg_f (gf_cons rfl (gf_cons rfl (gf_cons rfl (gf_cons rfl gf_nil)))) (ct75 33 s52 (Int32.ofInt 0) (Int32.ofInt 0) hI52 (fr_tr rfl hFc33 hF52) (in_w 0 32 (in_c 0 rfl) rfl) (in_w 0 32 (in_c 0 rfl) rfl) n75 n75a (m_in 33 (in_w 0 32 (in_c 0 rfl) rfl) rfl)))
          · skip
            have i55 := z_eq 0 0 c55 i52 rfl
            refine g_aload_n 59 (gd rfl) rfl rfl ?_
            refine g_dup 60 (gd rfl) rfl rfl ?_
            refine g_getI 63 (gd rfl) rfl rfl rfl (fun z60 e60 => ?_)
            have q60 : w33_60_3 = z60 := (fr_F (v33_60_3) hF52 rfl).trans e60.symm
            subst q60
            refine g_iconst 1 64 (gd rfl) rfl rfl ?_
            refine g_iadd 65 (gd rfl) rfl (fun z64 e64 => ?_)
            have i64 := in_add 1 32 e64 i39 (in_c 1 rfl) rfl rfl
            refine g_putI 68 (gd rfl) rfl rfl rfl rfl ?_
            have hI65 := inv_sF (q := 60) (j := 3) hI52 rfl (in_w 0 32 i64 rfl)
            refine g_goto 33 (gd rfl) rfl ?_
            have v33 : z64 = (sF s52 60 3 z64).2.2.1 60 3 := sF_get
            have m33 : 33 - (z64).toInt < ((k33 : Nat) : Int) := by have a0 := oa4 i48x6 ro_32_0 i39 i64; have a4 := t_add e64 i39 (in_c 1 rfl) rfl; have a5 := in_u ((in_c 1 rfl)); omega
            exact gg_w (by first | exact Nat.le_add_right _ _ | exact gw2 | exact gw3 | exact gwe rfl | exact gwf rfl | exact gwg rfl | exact gwh rfl | omega) (gg_f (gf_cons rfl (gf_cons rfl gf_nil)) (ih33  (sF s52 60 3 z64) z64 hI65 (fr_sF rfl (fr_tr rfl hFc33 hF52)) v33 m33))
  refine g_enter2 (k := 44) (N := 66602) (by first | exact dq1 hd rfl | exact dq0 hd rfl | exact dq2 hd rfl | exact dq3 hd rfl | omega) rfl (Nat.le_of_ble_eq_true rfl) ?_
  refine g_aload_n 1 (gd rfl) rfl rfl ?_
  refine g_callv (X := _) (As := []) (r := []) (b := A 32) (q := 32) 4 (gd rfl) rfl rfl rfl rfl rfl (ww_o rfl) (Nat.le_of_ble_eq_true rfl) (Nat.zero_le _) (Nat.zero_le _) (k_106_32 (by first | exact dq1 hd rfl | exact dq0 hd rfl | exact dq2 hd rfl | exact dq3 hd rfl | omega) hI ) (fun e u h => h) (fun v u h => ?_)
  obtain ⟨s1, hI1, hF1, n1, rfl, rfl⟩ := h
  obtain ⟨z1a, e1⟩ : ∃ w, w = s1.2.2.1 32 4 := ⟨_, rfl⟩
  have i1a := inv_F hI1 (-1) 4000 rfl e1
  rw [← (show z1a = s1.2.2.1 32 4 from e1)] at n1
  rw [← (show u_32_0 = s1.2.2.1 32 0 from fr_F (e_32_0) hF1 rfl)] at n1
  show GG _ _ _ _ _ _ _ _ [] _ _ _
  refine g_aload_n 5 (gd rfl) rfl rfl ?_
  refine g_iconst 1 6 (gd rfl) rfl rfl ?_
  refine g_aload_n 7 (gd rfl) rfl rfl ?_
  refine g_aload_n 8 (gd rfl) rfl rfl ?_
  refine g_callv (X := _) (As := [.ref (A 32)]) (r := [.int (Int32.ofInt 1), .ref (A 60)]) (b := A 60) (q := 60) 11 (gd rfl) rfl rfl rfl rfl rfl (ww_o rfl) (Nat.le_of_ble_eq_true rfl) (mc := 0) (ms := 0) (Nat.zero_le _) (Nat.zero_le _) (P := fun v u => _) ?_ (fun e u h => h) (fun v u h => h)
  intro po8 xx8 hp8 hx8
  refine g_enter2 (k := 41) (N := 300) (by first | exact dq1 hd rfl | exact dq0 hd rfl | exact dq2 hd rfl | exact dq3 hd rfl | omega) rfl (Nat.le_of_ble_eq_true rfl) ?_
  refine g_aload_n 1 (gd rfl) rfl rfl ?_
  refine g_getI 4 (gd rfl) rfl rfl rfl (fun z8x1 e8x1 => ?_)
  have i8x1 := inv_F hI1 (-1) 4000 rfl e8x1
  refine g_aload_n 5 (gd rfl) rfl rfl ?_
  refine g_getI 8 (gd rfl) rfl rfl rfl (fun z8x5 e8x5 => ?_)
  have q8x5 : u_32_0 = z8x5 := (fr_F (e_32_0) hF1 rfl).trans e8x5.symm
  subst q8x5
  refine g_cmp_eq 11 42 (gd rfl) rfl rfl (fun c8x8 => ?_) (fun c8x8 => ?_)
  · skip
    have i8x8 := r_eq1 0 4000 c8x8 i8x1 ro_32_0 rfl
    refine g_aload_n 43 (gd rfl) rfl rfl ?_
    refine g_getI 46 (gd rfl) rfl rfl rfl (fun z8x43 e8x43 => ?_)
    refine g_ireturn (gd rfl) rfl rfl (hp8 _ _ ?_)
    show GG _ _ _ _ _ _ _ _ [.int z8x43, .int (Int32.ofInt 1), .ref (A 60)] _ _ _
    refine g_calls (As := [.int z8x43]) (r := [.int (Int32.ofInt 1), .ref (A 60)]) 14 (gd rfl) rfl rfl rfl rfl rfl (Nat.le_of_ble_eq_true rfl) (Nat.zero_le _) (Nat.zero_le _) (k_414b (by first | exact dq1 hd rfl | exact dq0 hd rfl | exact dq2 hd rfl | exact dq3 hd rfl | omega) hI1 ) (fun v u h => ?_)
    obtain ⟨z11, rfl, rfl, i11⟩ := h
    show GG _ _ _ _ _ _ _ _ [.int z11, .int (Int32.ofInt 1), .ref (A 60)] _ _ _
    refine g_calls (As := [.int (Int32.ofInt 1), .int z11]) (r := [.ref (A 60)]) 17 (gd rfl) rfl rfl rfl rfl rfl (Nat.le_of_ble_eq_true rfl) (mc := 0) (ms := 0) (Nat.zero_le _) (Nat.zero_le _) (P := fun v u => _) ?_ (fun v u h => h)
    intro po14 xx14 hp14 hx14
    refine g_enter2 (k := 422) (N := 300) (by first | exact dq1 hd rfl | exact dq0 hd rfl | exact dq2 hd rfl | exact dq3 hd rfl | omega) rfl (Nat.le_of_ble_eq_true rfl) ?_
    refine g_iload_n 1 (gd rfl) rfl rfl ?_
    refine g_iload_n 2 (gd rfl) rfl rfl ?_
    refine g_cmp_lt 5 9 (gd rfl) rfl rfl (fun c14x2 => ?_) (fun c14x2 => ?_)
    · skip
      have i14x2 := r_lt2 2 32 c14x2 (in_c 1 rfl) i11 rfl
      refine g_iload_n 10 (gd rfl) rfl rfl ?_
      refine g_ireturn (gd rfl) rfl rfl (hp14 _ _ ?_)
      show GG _ _ _ _ _ _ _ _ [.int z11, .ref (A 60)] _ _ _
      refine g_putI 20 (gd rfl) rfl rfl rfl rfl ?_
      have hI17 := inv_sF (q := 60) (j := 3) hI1 rfl (in_w 0 32 i14x2 rfl)
      refine g_aload_n 21 (gd rfl) rfl rfl ?_
      refine g_iconst 0 22 (gd rfl) rfl rfl ?_
      refine g_putI 25 (gd rfl) rfl rfl rfl rfl ?_
      have hI22 := inv_sF (q := 60) (j := 7) hI17 rfl (in_w 0 32 (in_c 0 rfl) rfl)
      refine g_aload_n 26 (gd rfl) rfl rfl ?_
      refine g_getA (q2 := 61) 29 (gd rfl) rfl rfl rfl rfl ?_
      refine g_iconst 0 30 (gd rfl) rfl rfl ?_
      refine g_calls (As := [.ref (A 61), .int (Int32.ofInt 0)]) (r := []) 33 (gd rfl) rfl rfl rfl rfl rfl (Nat.le_of_ble_eq_true rfl) (Nat.zero_le _) (Nat.zero_le _) (k_fillI 61 (by first | exact dq1 hd rfl | exact dq0 hd rfl | exact dq2 hd rfl | exact dq3 hd rfl | omega) hI22 (in_c 0 rfl) (n := 32) rfl rfl rfl rfl) (fun v u h => ?_)
      obtain ⟨s30, hI30, hF30, rfl, rfl, fl30⟩ := h
      show GG _ _ _ _ _ _ _ _ [] _ _ _
      have v33 : z11 = s30.2.2.1 60 3 := fr_F (s := (sF (sF s1 60 3 z11) 60 7 (Int32.ofInt 0))) (sF_ne rfl (sF_get)) hF30 rfl
      have m33 : 33 - (z11).toInt < ((40 : Nat) : Int) := by have a0 := oa6 ro_32_1 ro_32_0 ((in_c 0 rfl)) i14x2 i8x8 i1a; omega
      exact gg_w (by first | exact Nat.le_of_ble_eq_true rfl | omega) (gg_f (gf_cons rfl (gf_cons rfl gf_nil)) (ct33 40 s30 z11 hI30 (fr_tr rfl (fr_sF rfl (fr_sF rfl (fr_tr rfl fr_rf hF1))) hF30) v33 m33))
    · skip
      have i14x2 := r_le1 0 1 c14x2 i11 (in_c 1 rfl) rfl
      refine g_iload_n 6 (gd rfl) rfl rfl ?_
      refine g_goto 10 (gd rfl) rfl ?_
      refine g_ireturn (gd rfl) rfl rfl (hp14 _ _ ?_)
      show GG _ _ _ _ _ _ _ _ [.int (Int32.ofInt 1), .ref (A 60)] _ _ _
      refine g_putI 20 (gd rfl) rfl rfl rfl rfl ?_
      have hI17 := inv_sF (q := 60) (j := 3) hI1 rfl (in_w 0 32 (in_c 1 rfl) rfl)
      refine g_aload_n 21 (gd rfl) rfl rfl ?_
      refine g_iconst 0 22 (gd rfl) rfl rfl ?_
      refine g_putI 25 (gd rfl) rfl rfl rfl rfl ?_
      have hI22 := inv_sF (q := 60) (j := 7) hI17 rfl (in_w 0 32 (in_c 0 rfl) rfl)
      refine g_aload_n 26 (gd rfl) rfl rfl ?_
      refine g_getA (q2 := 61) 29 (gd rfl) rfl rfl rfl rfl ?_
      refine g_iconst 0 30 (gd rfl) rfl rfl ?_
      refine g_calls (As := [.ref (A 61), .int (Int32.ofInt 0)]) (r := []) 33 (gd rfl) rfl rfl rfl rfl rfl (Nat.le_of_ble_eq_true rfl) (Nat.zero_le _) (Nat.zero_le _) (k_fillI 61 (by first | exact dq1 hd rfl | exact dq0 hd rfl | exact dq2 hd rfl | exact dq3 hd rfl | omega) hI22 (in_c 0 rfl) (n := 32) rfl rfl rfl rfl) (fun v u h => ?_)
      obtain ⟨s30, hI30, hF30, rfl, rfl, fl30⟩ := h
      show GG _ _ _ _ _ _ _ _ [] _ _ _
      have v33 : (Int32.ofInt 1) = s30.2.2.1 60 3 := fr_F (s := (sF (sF s1 60 3 (Int32.ofInt 1)) 60 7 (Int32.ofInt 0))) (sF_ne rfl (sF_get)) hF30 rfl
      have m33 : 33 - ((Int32.ofInt 1)).toInt < ((40 : Nat) : Int) := by have a0 := oa6 ro_32_1 ro_32_0 ((in_c 0 rfl)) ((in_c 1 rfl)) i8x8 i1a; omega
      exact gg_w (by first | exact Nat.le_of_ble_eq_true rfl | omega) (gg_f (gf_cons rfl (gf_cons rfl gf_nil)) (ct33 40 s30 (Int32.ofInt 1) hI30 (fr_tr rfl (fr_sF rfl (fr_sF rfl (fr_tr rfl fr_rf hF1))) hF30) v33 m33))
  · skip
    refine g_aload_n 12 (gd rfl) rfl rfl ?_
    refine g_aload_n 13 (gd rfl) rfl rfl ?_
    refine g_getI 16 (gd rfl) rfl rfl rfl (fun z8x13 e8x13 => ?_)
    have q8x13 : u_32_0 = z8x13 := (fr_F (e_32_0) hF1 rfl).trans e8x13.symm
    subst q8x13
    refine g_putI 19 (gd rfl) rfl rfl rfl rfl ?_
    have hI8x16 := inv_sF (q := 60) (j := 0) hI1 rfl (in_w (-1) 4000 ro_32_0 rfl)
    refine g_aload_n 20 (gd rfl) rfl rfl ?_
    refine g_callv (X := _) (As := []) (r := []) (b := A 32) (q := 32) 23 (gd rfl) rfl rfl rfl rfl rfl (ww_o rfl) (Nat.le_of_ble_eq_true rfl) (Nat.zero_le _) (Nat.zero_le _) (k_106_32 (by first | exact dq1 hd rfl | exact dq0 hd rfl | exact dq2 hd rfl | exact dq3 hd rfl | omega) hI8x16 ) (fun e u h => h) (fun v u h => ?_)
    obtain ⟨s8x20, hI8x20, hF8x20, n8x20, rfl, rfl⟩ := h
    obtain ⟨z8x20a, e8x20⟩ : ∃ w, w = s8x20.2.2.1 32 4 := ⟨_, rfl⟩
    have i8x20a := inv_F hI8x20 (-1) 4000 rfl e8x20
    rw [← (show z8x20a = s8x20.2.2.1 32 4 from e8x20)] at n8x20
    rw [← (show u_32_0 = s8x20.2.2.1 32 0 from fr_F (s := (sF s1 60 0 u_32_0)) (sF_ne rfl (fr_F (e_32_0) hF1 rfl)) hF8x20 rfl)] at n8x20
    show GG _ _ _ _ _ _ _ _ [] _ _ _
    refine g_aload_n 24 (gd rfl) rfl rfl ?_
    refine g_iconst 0 25 (gd rfl) rfl rfl ?_
    refine g_putI 28 (gd rfl) rfl rfl rfl rfl ?_
    have hI8x25 := inv_sF (q := 60) (j := 1) hI8x20 rfl (in_w (-2147483648) 2147483647 (in_c 0 rfl) rfl)
    refine g_aload_n 29 (gd rfl) rfl rfl ?_
    refine g_aload_n 30 (gd rfl) rfl rfl ?_
    refine g_getA (q2 := 39) 33 (gd rfl) rfl rfl rfl rfl ?_
    refine g_iconst 0 34 (gd rfl) rfl rfl ?_
    refine g_aload_n 35 (gd rfl) rfl rfl ?_
    refine g_callv (X := _) (As := []) (r := [.int (Int32.ofInt 0), .ref (A 39), .ref (A 60)]) (b := A 32) (q := 32) 38 (gd rfl) rfl rfl rfl rfl rfl (ww_o rfl) (Nat.le_of_ble_eq_true rfl) (mc := 0) (ms := 0) (Nat.zero_le _) (Nat.zero_le _) (P := fun v u => _) ?_ (fun e u h => h) (fun v u h => h)
    intro po8x35 xx8x35 hp8x35 hx8x35
    refine g_enter2 (k := 102) (N := 300) (by first | exact dq1 hd rfl | exact dq0 hd rfl | exact dq2 hd rfl | exact dq3 hd rfl | omega) rfl (Nat.le_of_ble_eq_true rfl) ?_
    refine g_aload_n 1 (gd rfl) rfl rfl ?_
    refine g_getI 4 (gd rfl) rfl rfl rfl (fun z8x35x1 e8x35x1 => ?_)
    have q8x35x1 : u_32_1 = z8x35x1 := (sF_ne rfl (fr_F (s := (sF s1 60 0 u_32_0)) (sF_ne rfl (fr_F (e_32_1) hF1 rfl)) hF8x20 rfl)).trans e8x35x1.symm
    subst q8x35x1
    refine g_bipush 32 6 (gd rfl) rfl rfl ?_
    refine g_cmp_lt 9 13 (gd rfl) rfl rfl (fun c8x35x6 => ?_) (fun c8x35x6 => ?_)
    · skip
      have i8x35x6 := r_lt1 0 31 c8x35x6 ro_32_1 (in_c 32 rfl) rfl
      refine g_iconst 1 14 (gd rfl) rfl rfl ?_
      refine g_aload_n 15 (gd rfl) rfl rfl ?_
      refine g_getI 18 (gd rfl) rfl rfl rfl (fun z8x35x15 e8x35x15 => ?_)
      have q8x35x15 : u_32_1 = z8x35x15 := (sF_ne rfl (fr_F (s := (sF s1 60 0 u_32_0)) (sF_ne rfl (fr_F (e_32_1) hF1 rfl)) hF8x20 rfl)).trans e8x35x15.symm
      subst q8x35x15
      refine g_ishl 19 (gd rfl) rfl (fun z8x35x18 e8x35x18 => ?_)
      refine g_iconst 1 20 (gd rfl) rfl rfl ?_
      refine g_isub 21 (gd rfl) rfl (fun z8x35x20 e8x35x20 => ?_)
      refine g_ireturn (gd rfl) rfl rfl (hp8x35 _ _ ?_)
      show GG _ _ _ _ _ _ _ _ [.int z8x35x20, .int (Int32.ofInt 0), .ref (A 39), .ref (A 60)] _ _ _
      refine g_iconst 0 39 (gd rfl) rfl rfl ?_
      refine g_callv (X := _) (As := [.ref (A 39), .int (Int32.ofInt 0), .int z8x35x20, .int (Int32.ofInt 0)]) (r := []) (b := A 60) (q := 60) 42 (gd rfl) rfl rfl rfl rfl rfl (ww_o rfl) (Nat.le_of_ble_eq_true rfl) (Nat.zero_le _) (Nat.zero_le _) (k_42_60_39 (by first | exact dq1 hd rfl | exact dq0 hd rfl | exact dq2 hd rfl | exact dq3 hd rfl | omega) hI8x25 (in_w 0 32 (in_c 0 rfl) rfl)) (fun e u h => h) (fun v u h => ?_)
      obtain ⟨s8x39, hI8x39, hF8x39, rfl, rfl⟩ := h
      show GG _ _ _ _ _ _ _ _ [] _ _ _
      refine g_aload_n 43 (gd rfl) rfl rfl ?_
      refine g_getI 46 (gd rfl) rfl rfl rfl (fun z8x43 e8x43 => ?_)
      refine g_ireturn (gd rfl) rfl rfl (hp8 _ _ ?_)
      show GG _ _ _ _ _ _ _ _ [.int z8x43, .int (Int32.ofInt 1), .ref (A 60)] _ _ _
      refine g_calls (As := [.int z8x43]) (r := [.int (Int32.ofInt 1), .ref (A 60)]) 14 (gd rfl) rfl rfl rfl rfl rfl (Nat.le_of_ble_eq_true rfl) (Nat.zero_le _) (Nat.zero_le _) (k_414b (by first | exact dq1 hd rfl | exact dq0 hd rfl | exact dq2 hd rfl | exact dq3 hd rfl | omega) hI8x39 ) (fun v u h => ?_)
      obtain ⟨z11, rfl, rfl, i11⟩ := h
      show GG _ _ _ _ _ _ _ _ [.int z11, .int (Int32.ofInt 1), .ref (A 60)] _ _ _
      refine g_calls (As := [.int (Int32.ofInt 1), .int z11]) (r := [.ref (A 60)]) 17 (gd rfl) rfl rfl rfl rfl rfl (Nat.le_of_ble_eq_true rfl) (mc := 0) (ms := 0) (Nat.zero_le _) (Nat.zero_le _) (P := fun v u => _) ?_ (fun v u h => h)
      intro po14 xx14 hp14 hx14
      refine g_enter2 (k := 422) (N := 300) (by first | exact dq1 hd rfl | exact dq0 hd rfl | exact dq2 hd rfl | exact dq3 hd rfl | omega) rfl (Nat.le_of_ble_eq_true rfl) ?_
      refine g_iload_n 1 (gd rfl) rfl rfl ?_
      refine g_iload_n 2 (gd rfl) rfl rfl ?_
      refine g_cmp_lt 5 9 (gd rfl) rfl rfl (fun c14x2 => ?_) (fun c14x2 => ?_)
      · skip
        have i14x2 := r_lt2 2 32 c14x2 (in_c 1 rfl) i11 rfl
        refine g_iload_n 10 (gd rfl) rfl rfl ?_
        refine g_ireturn (gd rfl) rfl rfl (hp14 _ _ ?_)
        show GG _ _ _ _ _ _ _ _ [.int z11, .ref (A 60)] _ _ _
        refine g_putI 20 (gd rfl) rfl rfl rfl rfl ?_
        have hI17 := inv_sF (q := 60) (j := 3) hI8x39 rfl (in_w 0 32 i14x2 rfl)
        refine g_aload_n 21 (gd rfl) rfl rfl ?_
        refine g_iconst 0 22 (gd rfl) rfl rfl ?_
        refine g_putI 25 (gd rfl) rfl rfl rfl rfl ?_
        have hI22 := inv_sF (q := 60) (j := 7) hI17 rfl (in_w 0 32 (in_c 0 rfl) rfl)
        refine g_aload_n 26 (gd rfl) rfl rfl ?_
        refine g_getA (q2 := 61) 29 (gd rfl) rfl rfl rfl rfl ?_
        refine g_iconst 0 30 (gd rfl) rfl rfl ?_
        refine g_calls (As := [.ref (A 61), .int (Int32.ofInt 0)]) (r := []) 33 (gd rfl) rfl rfl rfl rfl rfl (Nat.le_of_ble_eq_true rfl) (Nat.zero_le _) (Nat.zero_le _) (k_fillI 61 (by first | exact dq1 hd rfl | exact dq0 hd rfl | exact dq2 hd rfl | exact dq3 hd rfl | omega) hI22 (in_c 0 rfl) (n := 32) rfl rfl rfl rfl) (fun v u h => ?_)
        obtain ⟨s30, hI30, hF30, rfl, rfl, fl30⟩ := h
        show GG _ _ _ _ _ _ _ _ [] _ _ _
        have v33 : z11 = s30.2.2.1 60 3 := fr_F (s := (sF (sF s8x39 60 3 z11) 60 7 (Int32.ofInt 0))) (sF_ne rfl (sF_get)) hF30 rfl
        have m33 : 33 - (z11).toInt < ((40 : Nat) : Int) := by have a0 := oa5 i8x35x6 ro_32_0 ((in_c 0 rfl)) i14x2 i8x20a; omega
        exact gg_w (by first | exact Nat.le_of_ble_eq_true rfl | omega) (gg_f (gf_cons rfl (gf_cons rfl gf_nil)) (ct33 40 s30 z11 hI30 (fr_tr rfl (fr_sF rfl (fr_sF rfl (fr_tr rfl (fr_sF rfl (fr_tr rfl (fr_sF rfl (fr_tr rfl fr_rf hF1)) hF8x20)) hF8x39))) hF30) v33 m33))
      · skip
        have i14x2 := r_le1 0 1 c14x2 i11 (in_c 1 rfl) rfl
        refine g_iload_n 6 (gd rfl) rfl rfl ?_
        refine g_goto 10 (gd rfl) rfl ?_
        refine g_ireturn (gd rfl) rfl rfl (hp14 _ _ ?_)
        show GG _ _ _ _ _ _ _ _ [.int (Int32.ofInt 1), .ref (A 60)] _ _ _
        refine g_putI 20 (gd rfl) rfl rfl rfl rfl ?_
        have hI17 := inv_sF (q := 60) (j := 3) hI8x39 rfl (in_w 0 32 (in_c 1 rfl) rfl)
        refine g_aload_n 21 (gd rfl) rfl rfl ?_
        refine g_iconst 0 22 (gd rfl) rfl rfl ?_
        refine g_putI 25 (gd rfl) rfl rfl rfl rfl ?_
        have hI22 := inv_sF (q := 60) (j := 7) hI17 rfl (in_w 0 32 (in_c 0 rfl) rfl)
        refine g_aload_n 26 (gd rfl) rfl rfl ?_
        refine g_getA (q2 := 61) 29 (gd rfl) rfl rfl rfl rfl ?_
        refine g_iconst 0 30 (gd rfl) rfl rfl ?_
        refine g_calls (As := [.ref (A 61), .int (Int32.ofInt 0)]) (r := []) 33 (gd rfl) rfl rfl rfl rfl rfl (Nat.le_of_ble_eq_true rfl) (Nat.zero_le _) (Nat.zero_le _) (k_fillI 61 (by first | exact dq1 hd rfl | exact dq0 hd rfl | exact dq2 hd rfl | exact dq3 hd rfl | omega) hI22 (in_c 0 rfl) (n := 32) rfl rfl rfl rfl) (fun v u h => ?_)
        obtain ⟨s30, hI30, hF30, rfl, rfl, fl30⟩ := h
        show GG _ _ _ _ _ _ _ _ [] _ _ _
        have v33 : (Int32.ofInt 1) = s30.2.2.1 60 3 := fr_F (s := (sF (sF s8x39 60 3 (Int32.ofInt 1)) 60 7 (Int32.ofInt 0))) (sF_ne rfl (sF_get)) hF30 rfl
        have m33 : 33 - ((Int32.ofInt 1)).toInt < ((40 : Nat) : Int) := by have a0 := oa5 i8x35x6 ro_32_0 ((in_c 0 rfl)) ((in_c 1 rfl)) i8x20a; omega
        exact gg_w (by first | exact Nat.le_of_ble_eq_true rfl | omega) (gg_f (gf_cons rfl (gf_cons rfl gf_nil)) (ct33 40 s30 (Int32.ofInt 1) hI30 (fr_tr rfl (fr_sF rfl (fr_sF rfl (fr_tr rfl (fr_sF rfl (fr_tr rfl (fr_sF rfl (fr_tr rfl fr_rf hF1)) hF8x20)) hF8x39))) hF30) v33 m33))
    · skip
      have i8x35x6 := r_le2 32 32 c8x35x6 (in_c 32 rfl) ro_32_1 rfl
      refine g_iconst (-1) 10 (gd rfl) rfl rfl ?_
      refine g_goto 21 (gd rfl) rfl ?_
      refine g_ireturn (gd rfl) rfl rfl (hp8x35 _ _ ?_)
      show GG _ _ _ _ _ _ _ _ [.int (Int32.ofInt (-1)), .int (Int32.ofInt 0), .ref (A 39), .ref (A 60)] _ _ _
      refine g_iconst 0 39 (gd rfl) rfl rfl ?_
      refine g_callv (X := _) (As := [.ref (A 39), .int (Int32.ofInt 0), .int (Int32.ofInt (-1)), .int (Int32.ofInt 0)]) (r := []) (b := A 60) (q := 60) 42 (gd rfl) rfl rfl rfl rfl rfl (ww_o rfl) (Nat.le_of_ble_eq_true rfl) (Nat.zero_le _) (Nat.zero_le _) (k_42_60_39 (by first | exact dq1 hd rfl | exact dq0 hd rfl | exact dq2 hd rfl | exact dq3 hd rfl | omega) hI8x25 (in_w 0 32 (in_c 0 rfl) rfl)) (fun e u h => h) (fun v u h => ?_)
      obtain ⟨s8x39, hI8x39, hF8x39, rfl, rfl⟩ := h
      show GG _ _ _ _ _ _ _ _ [] _ _ _
      refine g_aload_n 43 (gd rfl) rfl rfl ?_
      refine g_getI 46 (gd rfl) rfl rfl rfl (fun z8x43 e8x43 => ?_)
      refine g_ireturn (gd rfl) rfl rfl (hp8 _ _ ?_)
      show GG _ _ _ _ _ _ _ _ [.int z8x43, .int (Int32.ofInt 1), .ref (A 60)] _ _ _
      refine g_calls (As := [.int z8x43]) (r := [.int (Int32.ofInt 1), .ref (A 60)]) 14 (gd rfl) rfl rfl rfl rfl rfl (Nat.le_of_ble_eq_true rfl) (Nat.zero_le _) (Nat.zero_le _) (k_414b (by first | exact dq1 hd rfl | exact dq0 hd rfl | exact dq2 hd rfl | exact dq3 hd rfl | omega) hI8x39 ) (fun v u h => ?_)
      obtain ⟨z11, rfl, rfl, i11⟩ := h
      show GG _ _ _ _ _ _ _ _ [.int z11, .int (Int32.ofInt 1), .ref (A 60)] _ _ _
      refine g_calls (As := [.int (Int32.ofInt 1), .int z11]) (r := [.ref (A 60)]) 17 (gd rfl) rfl rfl rfl rfl rfl (Nat.le_of_ble_eq_true rfl) (mc := 0) (ms := 0) (Nat.zero_le _) (Nat.zero_le _) (P := fun v u => _) ?_ (fun v u h => h)
      intro po14 xx14 hp14 hx14
      refine g_enter2 (k := 422) (N := 300) (by first | exact dq1 hd rfl | exact dq0 hd rfl | exact dq2 hd rfl | exact dq3 hd rfl | omega) rfl (Nat.le_of_ble_eq_true rfl) ?_
      refine g_iload_n 1 (gd rfl) rfl rfl ?_
      refine g_iload_n 2 (gd rfl) rfl rfl ?_
      refine g_cmp_lt 5 9 (gd rfl) rfl rfl (fun c14x2 => ?_) (fun c14x2 => ?_)
      · skip
        have i14x2 := r_lt2 2 32 c14x2 (in_c 1 rfl) i11 rfl
        refine g_iload_n 10 (gd rfl) rfl rfl ?_
        refine g_ireturn (gd rfl) rfl rfl (hp14 _ _ ?_)
        show GG _ _ _ _ _ _ _ _ [.int z11, .ref (A 60)] _ _ _
        refine g_putI 20 (gd rfl) rfl rfl rfl rfl ?_
        have hI17 := inv_sF (q := 60) (j := 3) hI8x39 rfl (in_w 0 32 i14x2 rfl)
        refine g_aload_n 21 (gd rfl) rfl rfl ?_
        refine g_iconst 0 22 (gd rfl) rfl rfl ?_
        refine g_putI 25 (gd rfl) rfl rfl rfl rfl ?_
        have hI22 := inv_sF (q := 60) (j := 7) hI17 rfl (in_w 0 32 (in_c 0 rfl) rfl)
        refine g_aload_n 26 (gd rfl) rfl rfl ?_
        refine g_getA (q2 := 61) 29 (gd rfl) rfl rfl rfl rfl ?_
        refine g_iconst 0 30 (gd rfl) rfl rfl ?_
        refine g_calls (As := [.ref (A 61), .int (Int32.ofInt 0)]) (r := []) 33 (gd rfl) rfl rfl rfl rfl rfl (Nat.le_of_ble_eq_true rfl) (Nat.zero_le _) (Nat.zero_le _) (k_fillI 61 (by first | exact dq1 hd rfl | exact dq0 hd rfl | exact dq2 hd rfl | exact dq3 hd rfl | omega) hI22 (in_c 0 rfl) (n := 32) rfl rfl rfl rfl) (fun v u h => ?_)
        obtain ⟨s30, hI30, hF30, rfl, rfl, fl30⟩ := h
        show GG _ _ _ _ _ _ _ _ [] _ _ _
        have v33 : z11 = s30.2.2.1 60 3 := fr_F (s := (sF (sF s8x39 60 3 z11) 60 7 (Int32.ofInt 0))) (sF_ne rfl (sF_get)) hF30 rfl
        have m33 : 33 - (z11).toInt < ((40 : Nat) : Int) := by have a0 := oa5 i8x35x6 ro_32_0 ((in_c 0 rfl)) i14x2 i8x20a; omega
        exact gg_w (by first | exact Nat.le_of_ble_eq_true rfl | omega) (gg_f (gf_cons rfl (gf_cons rfl gf_nil)) (ct33 40 s30 z11 hI30 (fr_tr rfl (fr_sF rfl (fr_sF rfl (fr_tr rfl (fr_sF rfl (fr_tr rfl (fr_sF rfl (fr_tr rfl fr_rf hF1)) hF8x20)) hF8x39))) hF30) v33 m33))
      · skip
        have i14x2 := r_le1 0 1 c14x2 i11 (in_c 1 rfl) rfl
        refine g_iload_n 6 (gd rfl) rfl rfl ?_
        refine g_goto 10 (gd rfl) rfl ?_
        refine g_ireturn (gd rfl) rfl rfl (hp14 _ _ ?_)
        show GG _ _ _ _ _ _ _ _ [.int (Int32.ofInt 1), .ref (A 60)] _ _ _
        refine g_putI 20 (gd rfl) rfl rfl rfl rfl ?_
        have hI17 := inv_sF (q := 60) (j := 3) hI8x39 rfl (in_w 0 32 (in_c 1 rfl) rfl)
        refine g_aload_n 21 (gd rfl) rfl rfl ?_
        refine g_iconst 0 22 (gd rfl) rfl rfl ?_
        refine g_putI 25 (gd rfl) rfl rfl rfl rfl ?_
        have hI22 := inv_sF (q := 60) (j := 7) hI17 rfl (in_w 0 32 (in_c 0 rfl) rfl)
        refine g_aload_n 26 (gd rfl) rfl rfl ?_
        refine g_getA (q2 := 61) 29 (gd rfl) rfl rfl rfl rfl ?_
        refine g_iconst 0 30 (gd rfl) rfl rfl ?_
        refine g_calls (As := [.ref (A 61), .int (Int32.ofInt 0)]) (r := []) 33 (gd rfl) rfl rfl rfl rfl rfl (Nat.le_of_ble_eq_true rfl) (Nat.zero_le _) (Nat.zero_le _) (k_fillI 61 (by first | exact dq1 hd rfl | exact dq0 hd rfl | exact dq2 hd rfl | exact dq3 hd rfl | omega) hI22 (in_c 0 rfl) (n := 32) rfl rfl rfl rfl) (fun v u h => ?_)
        obtain ⟨s30, hI30, hF30, rfl, rfl, fl30⟩ := h
        show GG _ _ _ _ _ _ _ _ [] _ _ _
        have v33 : (Int32.ofInt 1) = s30.2.2.1 60 3 := fr_F (s := (sF (sF s8x39 60 3 (Int32.ofInt 1)) 60 7 (Int32.ofInt 0))) (sF_ne rfl (sF_get)) hF30 rfl
        have m33 : 33 - ((Int32.ofInt 1)).toInt < ((40 : Nat) : Int) := by have a0 := oa5 i8x35x6 ro_32_0 ((in_c 0 rfl)) ((in_c 1 rfl)) i8x20a; omega
        exact gg_w (by first | exact Nat.le_of_ble_eq_true rfl | omega) (gg_f (gf_cons rfl (gf_cons rfl gf_nil)) (ct33 40 s30 (Int32.ofInt 1) hI30 (fr_tr rfl (fr_sF rfl (fr_sF rfl (fr_tr rfl (fr_sF rfl (fr_tr rfl (fr_sF rfl (fr_tr rfl fr_rf hF1)) hF8x20)) hF8x39))) hF30) v33 m33))
end
section
/-! methods, by vc.py -/
def fm_79_65_2 : FM := ([66, 67, 68, 69, 70, 71, 72, 73, 74], [75], [(65, 0), (65, 1), (65, 2), (65, 4), (65, 8)], [(65, 3)])
/-- GraphHouse$Flows.cheapest -/
theorem k_79_65_2 {Z : AmZ} {A : Nat → Nat} {s : GS} {ex : va_W} {d : Nat} {X : AmX} {x2 : Int32} {x3 : Int32} {x4 : Int32} (hd : 6 ≤ d) (hI : Inv s) (h2 : In x2 0 31) (h3 : In x3 0 31) (h4 : In x4 0 200000000) : GC Z d 79 [.ref (A 65), .ref (A 2), .int x2, .int x3, .int x4] (WW Z A s ++ ex) 0 0 (fun v u => ∃ t : GS, Inv t ∧ Fr fm_79_65_2 s t ∧ ∃ z : Int64, v = some (.long z) ∧ u = WW Z A t ++ ex) X := by
  intro post xp hP hX
  obtain ⟨u_2_1, e_2_1⟩ : ∃ w, w = s.2.2.1 2 1 := ⟨_, rfl⟩
  have ro_2_1 := inv_F hI 0 32 rfl e_2_1
  have ct94 : ∀ (k94 : Nat) (sc94 : GS) (y94_5 : Int64) (y94_7 : Int32) (y94_8 : Int32), Inv sc94 → Fr fm_79_65_2 s sc94 → (In y94_7 1 1048576) → (In y94_8 0 160) → 160 - (y94_8).toInt < (k94 : Int) → GG Z (d - 1) 79 post (gx xp) (1 + k94 * 900) 94 (fun j => xlook j [(0, .ref (A 65)), (1, .ref (A 2)), (2, .int x2), (3, .int x3), (4, .int x4), (5, .long y94_5), (7, .int y94_7), (8, .int y94_8)]) [] (WW Z A sc94 ++ ex) 0 0 := by
    intro k94
    induction k94 with
    | zero => intro sc94 y94_5 y94_7 y94_8 hIc94 hFc94 j94_7 j94_8 mm94; exact m_no mm94 j94_8 rfl
    | succ k94 ih94 =>
      intro sc94 y94_5 y94_7 y94_8 hIc94 hFc94 j94_7 j94_8 mm94
      refine gg_w (M := 1 + k94 * 900 + 900) gws ?_
      refine g_iload 96 (gd rfl) rfl rfl ?_
      refine g_aload_n 97 (gd rfl) rfl rfl ?_
      refine g_getI 100 (gd rfl) rfl rfl rfl (fun z97 e97 => ?_)
      have i97 := inv_F hIc94 0 160 rfl e97
      refine g_cmp_ge 103 131 (gd rfl) rfl rfl (fun c100 => ?_) (fun c100 => ?_)
      · skip
        refine g_lload 133 (gd rfl) rfl rfl ?_
        exact g_lreturn (gd rfl) rfl (hP _ _ ⟨sc94, hIc94, hFc94, y94_5, rfl, rfl⟩)
      · skip
        have i100 := r_lt1 0 159 c100 j94_8 i97 rfl
        have i100a := r_lt2 1 160 c100 j94_8 i97 rfl
        refine g_lload 105 (gd rfl) rfl rfl ?_
        refine g_aload_n 106 (gd rfl) rfl rfl ?_
        refine g_getA (q2 := 71) 109 (gd rfl) rfl rfl rfl rfl ?_
        refine g_iload 111 (gd rfl) rfl rfl ?_
        refine g_iaload 112 (gd rfl) rfl (n := 160) rfl (in_ix i100 rfl) (fun z111 e111 => ?_)
        have i111 := inv_I hIc94 (n := 160) (t := 0) (-1000000) 1000000 rfl (in_ix i100 rfl) rfl e111
        refine g_i2l 113 (gd rfl) rfl (fun z112 e112 => ?_)
        have i112 := l_i e112 i111
        refine g_aload_n 114 (gd rfl) rfl rfl ?_
        refine g_getA (q2 := 73) 117 (gd rfl) rfl rfl rfl rfl ?_
        refine g_iload 119 (gd rfl) rfl rfl ?_
        refine g_iaload 120 (gd rfl) rfl (n := 160) rfl (in_ix i100 rfl) (fun z119 e119 => ?_)
        refine g_i2l 121 (gd rfl) rfl (fun z120 e120 => ?_)
        have i120 := l_i e120 (i_rng z119)
        refine g_lmul 122 (gd rfl) rfl (fun z121 e121 => ?_)
        refine g_ladd 123 (gd rfl) rfl (fun z122 e122 => ?_)
        refine g_lstore 125 (gd rfl) rfl (Nat.le_of_ble_eq_true rfl) ?_
        refine g_iinc 128 (gd rfl) rfl rfl (Nat.le_of_ble_eq_true rfl) (fun z125 e125 => ?_)
        have i125 := in_add 1 160 e125 i100 (in_c 1 rfl) rfl rfl
        refine g_goto 94 (gd rfl) rfl ?_
        exact gg_w (by first | exact Nat.le_add_right _ _ | exact gw2 | exact gw3 | exact gwe rfl | exact gwf rfl | exact gwg rfl | exact gwh rfl | omega) (gg_f (gf_cons rfl (gf_cons rfl (gf_cons rfl (gf_cons rfl (gf_cons rfl (gf_cons rfl (gf_cons rfl (gf_cons rfl gf_nil)))))))) (ih94 sc94 z122 y94_7 z125 hIc94 hFc94 (in_w 1 1048576 j94_7 rfl) (in_w 0 160 i125 rfl) (m_up mm94 (t_add e125 i100 (in_c 1 rfl) rfl) (in_w 1 1 (in_c 1 rfl) rfl))))
  have ct50 : ∀ (k50 : Nat) (sc50 : GS) (y50_5 : Int64) (y50_7 : Int32) (y50_8 : Int32), Inv sc50 → Fr fm_79_65_2 s sc50 → (In y50_7 1 1048576) → (In y50_8 0 65536) → (y50_8).toInt < (k50 : Int) → GG Z (d - 1) 79 post (gx xp) (144902 + k50 * 900) 50 (fun j => xlook j [(0, .ref (A 65)), (1, .ref (A 2)), (2, .int x2), (3, .int x3), (4, .int x4), (5, .long y50_5), (7, .int y50_7), (8, .int y50_8)]) [] (WW Z A sc50 ++ ex) 0 0 := by
    intro k50
    induction k50 with
    | zero => intro sc50 y50_5 y50_7 y50_8 hIc50 hFc50 j50_7 j50_8 mm50; exfalso; (first | have a0 := oa3 h3 h2 ro_2_1 | ((first | have a0 := in_u h3 | (have a0 := h3; unfold In at a0)); (first | have a1 := in_u h2 | (have a1 := h2; unfold In at a1)); (first | have a2 := in_u ro_2_1 | (have a2 := ro_2_1; unfold In at a2)))); have a3 := j50_8; unfold In at a3; have a4 := j50_7; unfold In at a4; (first | have a5 := in_u h4 | (have a5 := h4; unfold In at a5)); omega
    | succ k50 ih50 =>
      intro sc50 y50_5 y50_7 y50_8 hIc50 hFc50 j50_7 j50_8 mm50
      refine gg_w (M := 144902 + k50 * 900 + 900) gws ?_
      refine g_iload 52 (gd rfl) rfl rfl ?_
      refine g_if_le 55 91 (gd rfl) rfl rfl (fun c52 => ?_) (fun c52 => ?_)
      · skip
        have i52 := z_le 0 0 c52 j50_8 rfl
        refine g_iconst 0 92 (gd rfl) rfl rfl ?_
        refine g_istore 94 (gd rfl) rfl (Nat.le_of_ble_eq_true rfl) ?_
        exact gg_w (by first | exact Nat.le_add_right _ _ | exact gw2 | exact gw3 | exact gwe rfl | exact gwf rfl | exact gwg rfl | exact gwh rfl | omega) (gg_f (gf_cons rfl (gf_cons rfl (gf_cons rfl (gf_cons rfl (gf_cons rfl (gf_cons rfl (gf_cons rfl (gf_cons rfl gf_nil)))))))) (ct94 161 sc50 y50_5 y50_7 (Int32.ofInt 0) hIc50 hFc50 (in_w 1 1048576 j50_7 rfl) (in_w 0 160 (in_c 0 rfl) rfl) (m_in 161 (in_w 0 160 (in_c 0 rfl) rfl) rfl)))
      · skip
        have i52 := z_gt 1 65536 c52 j50_8 rfl
        refine g_aload_n 56 (gd rfl) rfl rfl ?_
        refine g_aload_n 57 (gd rfl) rfl rfl ?_
        refine g_getI 60 (gd rfl) rfl rfl rfl (fun z57 e57 => ?_)
        have q57 : u_2_1 = z57 := (fr_F e_2_1 hFc50 rfl).trans e57.symm
        subst q57
        refine g_iload 62 (gd rfl) rfl rfl ?_
        refine g_iload 64 (gd rfl) rfl rfl ?_
        refine g_callv (X := _) (As := [.int u_2_1, .int y50_7, .int y50_8]) (r := []) (b := A 65) (q := 65) 67 (gd rfl) rfl rfl rfl rfl rfl (ww_o rfl) (Nat.le_of_ble_eq_true rfl) (Nat.zero_le _) (Nat.zero_le _) (k_81_65 (by first | exact dq1 hd rfl | exact dq0 hd rfl | exact dq2 hd rfl | exact dq3 hd rfl | omega) hIc50 (in_w 0 32 ro_2_1 rfl) (in_w 1 1048576 j50_7 rfl) (in_w 1 65536 i52 rfl)) (fun e u h => h) (fun v u h => ?_)
        obtain ⟨s64, hI64, hF64, rfl, rfl⟩ := h
        show GG _ _ _ _ _ _ _ _ [] _ _ _
        refine g_aload_n 68 (gd rfl) rfl rfl ?_
        refine g_aload_n 69 (gd rfl) rfl rfl ?_
        refine g_getI 72 (gd rfl) rfl rfl rfl (fun z69 e69 => ?_)
        have q69 : u_2_1 = z69 := (fr_F (fr_F e_2_1 hFc50 rfl) hF64 rfl).trans e69.symm
        subst q69
        refine g_iload 74 (gd rfl) rfl rfl ?_
        refine g_callv (X := _) (As := [.int u_2_1, .int y50_8]) (r := []) (b := A 65) (q := 65) 77 (gd rfl) rfl rfl rfl rfl rfl (ww_o rfl) (Nat.le_of_ble_eq_true rfl) (Nat.zero_le _) (Nat.zero_le _) (k_83_65 (by first | exact dq1 hd rfl | exact dq0 hd rfl | exact dq2 hd rfl | exact dq3 hd rfl | omega) hI64 (in_w 0 32 ro_2_1 rfl) (in_w 1 65536 i52 rfl)) (fun e u h => h) (fun v u h => ?_)
        obtain ⟨s74, hI74, hF74, rfl, rfl⟩ := h
        show GG _ _ _ _ _ _ _ _ [] _ _ _
        refine g_iload 79 (gd rfl) rfl rfl ?_
        refine g_istore 81 (gd rfl) rfl (Nat.le_of_ble_eq_true rfl) ?_
        refine g_iload 83 (gd rfl) rfl rfl ?_
        refine g_bipush 16 85 (gd rfl) rfl rfl ?_
        refine g_idiv 86 (gd rfl) rfl (by decide) (fun z85 e85 => ?_)
        have i85 := in_div 0 4096 e85 i52 rfl rfl
        refine g_istore 88 (gd rfl) rfl (Nat.le_of_ble_eq_true rfl) ?_
        refine g_goto 50 (gd rfl) rfl ?_
        have m50 : (z85).toInt < ((k50 : Nat) : Int) := by (first | have a0 := oa6 h3 h2 ro_2_1 i52 j50_7 i85 | ((first | have a0 := in_u h3 | (have a0 := h3; unfold In at a0)); (first | have a1 := in_u h2 | (have a1 := h2; unfold In at a1)); (first | have a2 := in_u ro_2_1 | (have a2 := ro_2_1; unfold In at a2)); (first | have a3 := in_u i52 | (have a3 := i52; unfold In at a3)); (first | have a4 := in_u j50_7 | (have a4 := j50_7; unfold In at a4)); (first | have a5 := in_u i85 | (have a5 := i85; unfold In at a5)))); have a6 := t_div e85 i52 rfl; (first | have a7 := in_u h4 | (have a7 := h4; unfold In at a7)); omega
        exact gg_w (by first | exact Nat.le_add_right _ _ | exact gw2 | exact gw3 | exact gwe rfl | exact gwf rfl | exact gwg rfl | exact gwh rfl | omega) (gg_f (gf_cons rfl (gf_cons rfl (gf_cons rfl (gf_cons rfl (gf_cons rfl (gf_cons rfl (gf_cons rfl (gf_cons rfl gf_nil)))))))) (ih50  s74 y50_5 y50_8 z85 hI74 (fr_tr rfl (fr_tr rfl hFc50 hF64) hF74) (in_w 1 1048576 i52 rfl) (in_w 0 65536 i85 rfl) m50))
  refine g_enter2 (k := 79) (N := 63145802) (by first | exact dq1 hd rfl | exact dq0 hd rfl | exact dq2 hd rfl | exact dq3 hd rfl | omega) rfl (Nat.le_of_ble_eq_true rfl) ?_
  refine g_iload 2 (gd rfl) rfl rfl ?_
  refine g_i2l 3 (gd rfl) rfl (fun z2 e2 => ?_)
  have i2 := l_i e2 h4
  refine g_aload_n 4 (gd rfl) rfl rfl ?_
  refine g_aload_n 5 (gd rfl) rfl rfl ?_
  refine g_iload_n 6 (gd rfl) rfl rfl ?_
  refine g_iload_n 7 (gd rfl) rfl rfl ?_
  refine g_callv (X := _) (As := [.ref (A 2), .int x2, .int x3]) (r := [.long z2]) (b := A 65) (q := 65) 10 (gd rfl) rfl rfl rfl rfl rfl (ww_o rfl) (Nat.le_of_ble_eq_true rfl) (Nat.zero_le _) (Nat.zero_le _) (k_75_65_2 (by first | exact dq1 hd rfl | exact dq0 hd rfl | exact dq2 hd rfl | exact dq3 hd rfl | omega) hI (in_w 0 31 h2 rfl) (in_w 0 31 h3 rfl)) (fun e u h => h) (fun v u h => ?_)
  obtain ⟨s7, hI7, hF7, z7, rfl, rfl⟩ := h
  show GG _ _ _ _ _ _ _ _ [.long z7, .long z2] _ _ _
  refine g_lcmp 11 (gd rfl) rfl (fun z10 e10 => ?_)
  have i10 := lc_in e10
  refine g_if_le 14 18 (gd rfl) rfl rfl (fun c11 => ?_) (fun c11 => ?_)
  · skip
    have i11 := z_le (-1) 0 c11 i10 rfl
    have c11a := lc_le e10 c11
    have i11a := lr_le2 0 9223372036854775807 c11a i2 (l_rng z7) rfl
    refine g_aload_n 19 (gd rfl) rfl rfl ?_
    refine g_aload_n 20 (gd rfl) rfl rfl ?_
    refine g_callv (X := _) (As := [.ref (A 2)]) (r := []) (b := A 65) (q := 65) 23 (gd rfl) rfl rfl rfl rfl rfl (ww_o rfl) (Nat.le_of_ble_eq_true rfl) (Nat.zero_le _) (Nat.zero_le _) (k_80_65_2 (by first | exact dq1 hd rfl | exact dq0 hd rfl | exact dq2 hd rfl | exact dq3 hd rfl | omega) hI7 ) (fun e u h => h) (fun v u h => ?_)
    obtain ⟨s20, hI20, hF20, z20, rfl, rfl⟩ := h
    show GG _ _ _ _ _ _ _ _ [.long z20] _ _ _
    refine g_lstore 25 (gd rfl) rfl (Nat.le_of_ble_eq_true rfl) ?_
    refine g_aload_n 26 (gd rfl) rfl rfl ?_
    refine g_getA (q2 := 74) 29 (gd rfl) rfl rfl rfl rfl ?_
    refine g_iload_n 30 (gd rfl) rfl rfl ?_
    refine g_iload 32 (gd rfl) rfl rfl ?_
    refine g_iastore 33 (gd rfl) rfl (n := 32) rfl (in_ix h2 rfl) ?_
    have hI32 := inv_sI (q := 74) (j := x2.toNatClampNeg) hI20 rfl (in_w (-2147483648) 2147483647 h4 rfl)
    refine g_aload_n 34 (gd rfl) rfl rfl ?_
    refine g_getA (q2 := 74) 37 (gd rfl) rfl rfl rfl rfl ?_
    refine g_iload_n 38 (gd rfl) rfl rfl ?_
    refine g_iload 40 (gd rfl) rfl rfl ?_
    refine g_ineg 41 (gd rfl) rfl (fun z40 e40 => ?_)
    have i40 := in_neg (-200000000) 0 e40 h4 rfl
    refine g_iastore 42 (gd rfl) rfl (n := 32) rfl (in_ix h3 rfl) ?_
    have hI41 := inv_sI (q := 74) (j := x3.toNatClampNeg) hI32 rfl (in_w (-2147483648) 2147483647 i40 rfl)
    refine g_ldc 1048576 44 (gd rfl) rfl rfl ?_
    refine g_istore 46 (gd rfl) rfl (Nat.le_of_ble_eq_true rfl) ?_
    refine g_ldc 65536 48 (gd rfl) rfl rfl ?_
    refine g_istore 50 (gd rfl) rfl (Nat.le_of_ble_eq_true rfl) ?_
    have m50 : ((Int32.ofInt 65536)).toInt < ((70000 : Nat) : Int) := by (first | have a0 := oa6 ro_2_1 h3 h2 ((in_c 65536 rfl)) ((in_c 1048576 rfl)) h4 | ((first | have a0 := in_u ro_2_1 | (have a0 := ro_2_1; unfold In at a0)); (first | have a1 := in_u h3 | (have a1 := h3; unfold In at a1)); (first | have a2 := in_u h2 | (have a2 := h2; unfold In at a2)); (first | have a3 := in_u ((in_c 65536 rfl)) | (have a3 := (in_c 65536 rfl); unfold In at a3)); (first | have a4 := in_u ((in_c 1048576 rfl)) | (have a4 := (in_c 1048576 rfl); unfold In at a4)); (first | have a5 := in_u h4 | (have a5 := h4; unfold In at a5)))); have a6 := tx_i2l e2; omega
    exact gg_w (by first | exact Nat.le_of_ble_eq_true rfl | omega) (gg_f (gf_cons rfl (gf_cons rfl (gf_cons rfl (gf_cons rfl (gf_cons rfl (gf_cons rfl (gf_cons rfl (gf_cons rfl gf_nil)))))))) (ct50 70000 (sI (sI s20 74 x2.toNatClampNeg x4) 74 x3.toNatClampNeg z40) z20 (Int32.ofInt 1048576) (Int32.ofInt 65536) hI41 (fr_sI rfl (fr_sI rfl (fr_tr rfl (fr_tr rfl fr_rf hF7) hF20))) (in_w 1 1048576 (in_c 1048576 rfl) rfl) (in_w 0 65536 (in_c 65536 rfl) rfl) m50))
  · skip
    have i11 := z_gt 1 1 c11 i10 rfl
    have c11a := lc_gt e10 c11
    have i11a := lr_lt1 (-9223372036854775808) 199999999 c11a (l_rng z7) i2 rfl
    refine g_ldc2_w 9000000000000000 17 (gd rfl) rfl rfl ?_
    exact g_lreturn (gd rfl) rfl (hP _ _ ⟨s7, hI7, (fr_tr rfl fr_rf hF7), (Int64.ofInt 9000000000000000), rfl, rfl⟩)

def fm_79_65_32 : FM := ([66, 67, 68, 69, 70, 71, 72, 73, 74], [75], [(65, 0), (65, 1), (65, 2), (65, 4), (65, 8)], [(65, 3)])
/-- GraphHouse$Flows.cheapest -/
theorem k_79_65_32 {Z : AmZ} {A : Nat → Nat} {s : GS} {ex : va_W} {d : Nat} {X : AmX} {x2 : Int32} {x3 : Int32} {x4 : Int32} (hd : 6 ≤ d) (hI : Inv s) (h2 : In x2 0 31) (h3 : In x3 0 31) (h4 : In x4 0 200000000) : GC Z d 79 [.ref (A 65), .ref (A 32), .int x2, .int x3, .int x4] (WW Z A s ++ ex) 0 0 (fun v u => ∃ t : GS, Inv t ∧ Fr fm_79_65_32 s t ∧ ∃ z : Int64, v = some (.long z) ∧ u = WW Z A t ++ ex) X := by
  intro post xp hP hX
  obtain ⟨u_32_1, e_32_1⟩ : ∃ w, w = s.2.2.1 32 1 := ⟨_, rfl⟩
  have ro_32_1 := inv_F hI 0 32 rfl e_32_1
  have ct94 : ∀ (k94 : Nat) (sc94 : GS) (y94_5 : Int64) (y94_7 : Int32) (y94_8 : Int32), Inv sc94 → Fr fm_79_65_32 s sc94 → (In y94_7 1 1048576) → (In y94_8 0 160) → 160 - (y94_8).toInt < (k94 : Int) → GG Z (d - 1) 79 post (gx xp) (1 + k94 * 900) 94 (fun j => xlook j [(0, .ref (A 65)), (1, .ref (A 32)), (2, .int x2), (3, .int x3), (4, .int x4), (5, .long y94_5), (7, .int y94_7), (8, .int y94_8)]) [] (WW Z A sc94 ++ ex) 0 0 := by
    intro k94
    induction k94 with
    | zero => intro sc94 y94_5 y94_7 y94_8 hIc94 hFc94 j94_7 j94_8 mm94; exact m_no mm94 j94_8 rfl
    | succ k94 ih94 =>
      intro sc94 y94_5 y94_7 y94_8 hIc94 hFc94 j94_7 j94_8 mm94
      refine gg_w (M := 1 + k94 * 900 + 900) gws ?_
      refine g_iload 96 (gd rfl) rfl rfl ?_
      refine g_aload_n 97 (gd rfl) rfl rfl ?_
      refine g_getI 100 (gd rfl) rfl rfl rfl (fun z97 e97 => ?_)
      have i97 := inv_F hIc94 0 160 rfl e97
      refine g_cmp_ge 103 131 (gd rfl) rfl rfl (fun c100 => ?_) (fun c100 => ?_)
      · skip
        refine g_lload 133 (gd rfl) rfl rfl ?_
        exact g_lreturn (gd rfl) rfl (hP _ _ ⟨sc94, hIc94, hFc94, y94_5, rfl, rfl⟩)
      · skip
        have i100 := r_lt1 0 159 c100 j94_8 i97 rfl
        have i100a := r_lt2 1 160 c100 j94_8 i97 rfl
        refine g_lload 105 (gd rfl) rfl rfl ?_
        refine g_aload_n 106 (gd rfl) rfl rfl ?_
        refine g_getA (q2 := 71) 109 (gd rfl) rfl rfl rfl rfl ?_
        refine g_iload 111 (gd rfl) rfl rfl ?_
        refine g_iaload 112 (gd rfl) rfl (n := 160) rfl (in_ix i100 rfl) (fun z111 e111 => ?_)
        have i111 := inv_I hIc94 (n := 160) (t := 0) (-1000000) 1000000 rfl (in_ix i100 rfl) rfl e111
        refine g_i2l 113 (gd rfl) rfl (fun z112 e112 => ?_)
        have i112 := l_i e112 i111
        refine g_aload_n 114 (gd rfl) rfl rfl ?_
        refine g_getA (q2 := 73) 117 (gd rfl) rfl rfl rfl rfl ?_
        refine g_iload 119 (gd rfl) rfl rfl ?_
        refine g_iaload 120 (gd rfl) rfl (n := 160) rfl (in_ix i100 rfl) (fun z119 e119 => ?_)
        refine g_i2l 121 (gd rfl) rfl (fun z120 e120 => ?_)
        have i120 := l_i e120 (i_rng z119)
        refine g_lmul 122 (gd rfl) rfl (fun z121 e121 => ?_)
        refine g_ladd 123 (gd rfl) rfl (fun z122 e122 => ?_)
        refine g_lstore 125 (gd rfl) rfl (Nat.le_of_ble_eq_true rfl) ?_
        refine g_iinc 128 (gd rfl) rfl rfl (Nat.le_of_ble_eq_true rfl) (fun z125 e125 => ?_)
        have i125 := in_add 1 160 e125 i100 (in_c 1 rfl) rfl rfl
        refine g_goto 94 (gd rfl) rfl ?_
        exact gg_w (by first | exact Nat.le_add_right _ _ | exact gw2 | exact gw3 | exact gwe rfl | exact gwf rfl | exact gwg rfl | exact gwh rfl | omega) (gg_f (gf_cons rfl (gf_cons rfl (gf_cons rfl (gf_cons rfl (gf_cons rfl (gf_cons rfl (gf_cons rfl (gf_cons rfl gf_nil)))))))) (ih94 sc94 z122 y94_7 z125 hIc94 hFc94 (in_w 1 1048576 j94_7 rfl) (in_w 0 160 i125 rfl) (m_up mm94 (t_add e125 i100 (in_c 1 rfl) rfl) (in_w 1 1 (in_c 1 rfl) rfl))))
  have ct50 : ∀ (k50 : Nat) (sc50 : GS) (y50_5 : Int64) (y50_7 : Int32) (y50_8 : Int32), Inv sc50 → Fr fm_79_65_32 s sc50 → (In y50_7 1 1048576) → (In y50_8 0 65536) → (y50_8).toInt < (k50 : Int) → GG Z (d - 1) 79 post (gx xp) (144902 + k50 * 900) 50 (fun j => xlook j [(0, .ref (A 65)), (1, .ref (A 32)), (2, .int x2), (3, .int x3), (4, .int x4), (5, .long y50_5), (7, .int y50_7), (8, .int y50_8)]) [] (WW Z A sc50 ++ ex) 0 0 := by
    intro k50
    induction k50 with
    | zero => intro sc50 y50_5 y50_7 y50_8 hIc50 hFc50 j50_7 j50_8 mm50; exfalso; (first | have a0 := oa3 h3 h2 ro_32_1 | ((first | have a0 := in_u h3 | (have a0 := h3; unfold In at a0)); (first | have a1 := in_u h2 | (have a1 := h2; unfold In at a1)); (first | have a2 := in_u ro_32_1 | (have a2 := ro_32_1; unfold In at a2)))); have a3 := j50_8; unfold In at a3; have a4 := j50_7; unfold In at a4; (first | have a5 := in_u h4 | (have a5 := h4; unfold In at a5)); omega
    | succ k50 ih50 =>
      intro sc50 y50_5 y50_7 y50_8 hIc50 hFc50 j50_7 j50_8 mm50
      refine gg_w (M := 144902 + k50 * 900 + 900) gws ?_
      refine g_iload 52 (gd rfl) rfl rfl ?_
      refine g_if_le 55 91 (gd rfl) rfl rfl (fun c52 => ?_) (fun c52 => ?_)
      · skip
        have i52 := z_le 0 0 c52 j50_8 rfl
        refine g_iconst 0 92 (gd rfl) rfl rfl ?_
        refine g_istore 94 (gd rfl) rfl (Nat.le_of_ble_eq_true rfl) ?_
        exact gg_w (by first | exact Nat.le_add_right _ _ | exact gw2 | exact gw3 | exact gwe rfl | exact gwf rfl | exact gwg rfl | exact gwh rfl | omega) (gg_f (gf_cons rfl (gf_cons rfl (gf_cons rfl (gf_cons rfl (gf_cons rfl (gf_cons rfl (gf_cons rfl (gf_cons rfl gf_nil)))))))) (ct94 161 sc50 y50_5 y50_7 (Int32.ofInt 0) hIc50 hFc50 (in_w 1 1048576 j50_7 rfl) (in_w 0 160 (in_c 0 rfl) rfl) (m_in 161 (in_w 0 160 (in_c 0 rfl) rfl) rfl)))
      · skip
        have i52 := z_gt 1 65536 c52 j50_8 rfl
        refine g_aload_n 56 (gd rfl) rfl rfl ?_
        refine g_aload_n 57 (gd rfl) rfl rfl ?_
        refine g_getI 60 (gd rfl) rfl rfl rfl (fun z57 e57 => ?_)
        have q57 : u_32_1 = z57 := (fr_F e_32_1 hFc50 rfl).trans e57.symm
        subst q57
        refine g_iload 62 (gd rfl) rfl rfl ?_
        refine g_iload 64 (gd rfl) rfl rfl ?_
        refine g_callv (X := _) (As := [.int u_32_1, .int y50_7, .int y50_8]) (r := []) (b := A 65) (q := 65) 67 (gd rfl) rfl rfl rfl rfl rfl (ww_o rfl) (Nat.le_of_ble_eq_true rfl) (Nat.zero_le _) (Nat.zero_le _) (k_81_65 (by first | exact dq1 hd rfl | exact dq0 hd rfl | exact dq2 hd rfl | exact dq3 hd rfl | omega) hIc50 (in_w 0 32 ro_32_1 rfl) (in_w 1 1048576 j50_7 rfl) (in_w 1 65536 i52 rfl)) (fun e u h => h) (fun v u h => ?_)
        obtain ⟨s64, hI64, hF64, rfl, rfl⟩ := h
        show GG _ _ _ _ _ _ _ _ [] _ _ _
        refine g_aload_n 68 (gd rfl) rfl rfl ?_
        refine g_aload_n 69 (gd rfl) rfl rfl ?_
        refine g_getI 72 (gd rfl) rfl rfl rfl (fun z69 e69 => ?_)
        have q69 : u_32_1 = z69 := (fr_F (fr_F e_32_1 hFc50 rfl) hF64 rfl).trans e69.symm
        subst q69
        refine g_iload 74 (gd rfl) rfl rfl ?_
        refine g_callv (X := _) (As := [.int u_32_1, .int y50_8]) (r := []) (b := A 65) (q := 65) 77 (gd rfl) rfl rfl rfl rfl rfl (ww_o rfl) (Nat.le_of_ble_eq_true rfl) (Nat.zero_le _) (Nat.zero_le _) (k_83_65 (by first | exact dq1 hd rfl | exact dq0 hd rfl | exact dq2 hd rfl | exact dq3 hd rfl | omega) hI64 (in_w 0 32 ro_32_1 rfl) (in_w 1 65536 i52 rfl)) (fun e u h => h) (fun v u h => ?_)
        obtain ⟨s74, hI74, hF74, rfl, rfl⟩ := h
        show GG _ _ _ _ _ _ _ _ [] _ _ _
        refine g_iload 79 (gd rfl) rfl rfl ?_
        refine g_istore 81 (gd rfl) rfl (Nat.le_of_ble_eq_true rfl) ?_
        refine g_iload 83 (gd rfl) rfl rfl ?_
        refine g_bipush 16 85 (gd rfl) rfl rfl ?_
        refine g_idiv 86 (gd rfl) rfl (by decide) (fun z85 e85 => ?_)
        have i85 := in_div 0 4096 e85 i52 rfl rfl
        refine g_istore 88 (gd rfl) rfl (Nat.le_of_ble_eq_true rfl) ?_
        refine g_goto 50 (gd rfl) rfl ?_
        have m50 : (z85).toInt < ((k50 : Nat) : Int) := by (first | have a0 := oa6 h3 h2 ro_32_1 i52 j50_7 i85 | ((first | have a0 := in_u h3 | (have a0 := h3; unfold In at a0)); (first | have a1 := in_u h2 | (have a1 := h2; unfold In at a1)); (first | have a2 := in_u ro_32_1 | (have a2 := ro_32_1; unfold In at a2)); (first | have a3 := in_u i52 | (have a3 := i52; unfold In at a3)); (first | have a4 := in_u j50_7 | (have a4 := j50_7; unfold In at a4)); (first | have a5 := in_u i85 | (have a5 := i85; unfold In at a5)))); have a6 := t_div e85 i52 rfl; (first | have a7 := in_u h4 | (have a7 := h4; unfold In at a7)); omega
        exact gg_w (by first | exact Nat.le_add_right _ _ | exact gw2 | exact gw3 | exact gwe rfl | exact gwf rfl | exact gwg rfl | exact gwh rfl | omega) (gg_f (gf_cons rfl (gf_cons rfl (gf_cons rfl (gf_cons rfl (gf_cons rfl (gf_cons rfl (gf_cons rfl (gf_cons rfl gf_nil)))))))) (ih50  s74 y50_5 y50_8 z85 hI74 (fr_tr rfl (fr_tr rfl hFc50 hF64) hF74) (in_w 1 1048576 i52 rfl) (in_w 0 65536 i85 rfl) m50))
  refine g_enter2 (k := 79) (N := 63145802) (by first | exact dq1 hd rfl | exact dq0 hd rfl | exact dq2 hd rfl | exact dq3 hd rfl | omega) rfl (Nat.le_of_ble_eq_true rfl) ?_
  refine g_iload 2 (gd rfl) rfl rfl ?_
  refine g_i2l 3 (gd rfl) rfl (fun z2 e2 => ?_)
  have i2 := l_i e2 h4
  refine g_aload_n 4 (gd rfl) rfl rfl ?_
  refine g_aload_n 5 (gd rfl) rfl rfl ?_
  refine g_iload_n 6 (gd rfl) rfl rfl ?_
  refine g_iload_n 7 (gd rfl) rfl rfl ?_
  refine g_callv (X := _) (As := [.ref (A 32), .int x2, .int x3]) (r := [.long z2]) (b := A 65) (q := 65) 10 (gd rfl) rfl rfl rfl rfl rfl (ww_o rfl) (Nat.le_of_ble_eq_true rfl) (Nat.zero_le _) (Nat.zero_le _) (k_75_65_32 (by first | exact dq1 hd rfl | exact dq0 hd rfl | exact dq2 hd rfl | exact dq3 hd rfl | omega) hI (in_w 0 31 h2 rfl) (in_w 0 31 h3 rfl)) (fun e u h => h) (fun v u h => ?_)
  obtain ⟨s7, hI7, hF7, z7, rfl, rfl⟩ := h
  show GG _ _ _ _ _ _ _ _ [.long z7, .long z2] _ _ _
  refine g_lcmp 11 (gd rfl) rfl (fun z10 e10 => ?_)
  have i10 := lc_in e10
  refine g_if_le 14 18 (gd rfl) rfl rfl (fun c11 => ?_) (fun c11 => ?_)
  · skip
    have i11 := z_le (-1) 0 c11 i10 rfl
    have c11a := lc_le e10 c11
    have i11a := lr_le2 0 9223372036854775807 c11a i2 (l_rng z7) rfl
    refine g_aload_n 19 (gd rfl) rfl rfl ?_
    refine g_aload_n 20 (gd rfl) rfl rfl ?_
    refine g_callv (X := _) (As := [.ref (A 32)]) (r := []) (b := A 65) (q := 65) 23 (gd rfl) rfl rfl rfl rfl rfl (ww_o rfl) (Nat.le_of_ble_eq_true rfl) (Nat.zero_le _) (Nat.zero_le _) (k_80_65_32 (by first | exact dq1 hd rfl | exact dq0 hd rfl | exact dq2 hd rfl | exact dq3 hd rfl | omega) hI7 ) (fun e u h => h) (fun v u h => ?_)
    obtain ⟨s20, hI20, hF20, z20, rfl, rfl⟩ := h
    show GG _ _ _ _ _ _ _ _ [.long z20] _ _ _
    refine g_lstore 25 (gd rfl) rfl (Nat.le_of_ble_eq_true rfl) ?_
    refine g_aload_n 26 (gd rfl) rfl rfl ?_
    refine g_getA (q2 := 74) 29 (gd rfl) rfl rfl rfl rfl ?_
    refine g_iload_n 30 (gd rfl) rfl rfl ?_
    refine g_iload 32 (gd rfl) rfl rfl ?_
    refine g_iastore 33 (gd rfl) rfl (n := 32) rfl (in_ix h2 rfl) ?_
    have hI32 := inv_sI (q := 74) (j := x2.toNatClampNeg) hI20 rfl (in_w (-2147483648) 2147483647 h4 rfl)
    refine g_aload_n 34 (gd rfl) rfl rfl ?_
    refine g_getA (q2 := 74) 37 (gd rfl) rfl rfl rfl rfl ?_
    refine g_iload_n 38 (gd rfl) rfl rfl ?_
    refine g_iload 40 (gd rfl) rfl rfl ?_
    refine g_ineg 41 (gd rfl) rfl (fun z40 e40 => ?_)
    have i40 := in_neg (-200000000) 0 e40 h4 rfl
    refine g_iastore 42 (gd rfl) rfl (n := 32) rfl (in_ix h3 rfl) ?_
    have hI41 := inv_sI (q := 74) (j := x3.toNatClampNeg) hI32 rfl (in_w (-2147483648) 2147483647 i40 rfl)
    refine g_ldc 1048576 44 (gd rfl) rfl rfl ?_
    refine g_istore 46 (gd rfl) rfl (Nat.le_of_ble_eq_true rfl) ?_
    refine g_ldc 65536 48 (gd rfl) rfl rfl ?_
    refine g_istore 50 (gd rfl) rfl (Nat.le_of_ble_eq_true rfl) ?_
    have m50 : ((Int32.ofInt 65536)).toInt < ((70000 : Nat) : Int) := by (first | have a0 := oa6 ro_32_1 h3 h2 ((in_c 65536 rfl)) ((in_c 1048576 rfl)) h4 | ((first | have a0 := in_u ro_32_1 | (have a0 := ro_32_1; unfold In at a0)); (first | have a1 := in_u h3 | (have a1 := h3; unfold In at a1)); (first | have a2 := in_u h2 | (have a2 := h2; unfold In at a2)); (first | have a3 := in_u ((in_c 65536 rfl)) | (have a3 := (in_c 65536 rfl); unfold In at a3)); (first | have a4 := in_u ((in_c 1048576 rfl)) | (have a4 := (in_c 1048576 rfl); unfold In at a4)); (first | have a5 := in_u h4 | (have a5 := h4; unfold In at a5)))); have a6 := tx_i2l e2; omega
    exact gg_w (by first | exact Nat.le_of_ble_eq_true rfl | omega) (gg_f (gf_cons rfl (gf_cons rfl (gf_cons rfl (gf_cons rfl (gf_cons rfl (gf_cons rfl (gf_cons rfl (gf_cons rfl gf_nil)))))))) (ct50 70000 (sI (sI s20 74 x2.toNatClampNeg x4) 74 x3.toNatClampNeg z40) z20 (Int32.ofInt 1048576) (Int32.ofInt 65536) hI41 (fr_sI rfl (fr_sI rfl (fr_tr rfl (fr_tr rfl fr_rf hF7) hF20))) (in_w 1 1048576 (in_c 1048576 rfl) rfl) (in_w 0 65536 (in_c 65536 rfl) rfl) m50))
  · skip
    have i11 := z_gt 1 1 c11 i10 rfl
    have c11a := lc_gt e10 c11
    have i11a := lr_lt1 (-9223372036854775808) 199999999 c11a (l_rng z7) i2 rfl
    refine g_ldc2_w 9000000000000000 17 (gd rfl) rfl rfl ?_
    exact g_lreturn (gd rfl) rfl (hP _ _ ⟨s7, hI7, (fr_tr rfl fr_rf hF7), (Int64.ofInt 9000000000000000), rfl, rfl⟩)

def fm_240_0 : FM := ([9, 10, 11, 12, 13, 14, 15, 39, 40, 41, 42, 43, 44, 45, 61, 62, 63, 64], [], [(2, 4), (32, 4), (60, 0), (60, 1), (60, 2), (60, 3), (60, 7)], [])
/-- GraphHouse.colour -/
theorem k_240_0 {Z : AmZ} {A : Nat → Nat} {s : GS} {ex : va_W} {d : Nat} {x1 : Int32} (hd : 385 ≤ d) (hI : Inv s)  : GC Z d 240 [.ref (A 0), .int x1] (WW Z A s ++ ex) 3 18 (fun v u => ∃ t : GS, Inv t ∧ Fr fm_240_0 s t ∧ ∃ z : Int32, v = some (.int z) ∧ u = WW Z A t ++ ex ∧ In z 0 31) (gE1 Z A ex fm_240_0 s) := by
  intro post xp hP hX
  obtain ⟨u_0_2, e_0_2⟩ : ∃ w, w = s.2.2.1 0 2 := ⟨_, rfl⟩
  have ro_0_2 := inv_F hI (-1) 4000 rfl e_0_2
  obtain ⟨u_2_0, e_2_0⟩ : ∃ w, w = s.2.2.1 2 0 := ⟨_, rfl⟩
  have ro_2_0 := inv_F hI 0 4000 rfl e_2_0
  obtain ⟨u_2_1, e_2_1⟩ : ∃ w, w = s.2.2.1 2 1 := ⟨_, rfl⟩
  have ro_2_1 := inv_F hI 0 32 rfl e_2_1
  obtain ⟨u_32_0, e_32_0⟩ : ∃ w, w = s.2.2.1 32 0 := ⟨_, rfl⟩
  have ro_32_0 := inv_F hI 0 4000 rfl e_32_0
  obtain ⟨u_32_1, e_32_1⟩ : ∃ w, w = s.2.2.1 32 1 := ⟨_, rfl⟩
  have ro_32_1 := inv_F hI 0 32 rfl e_32_1
  refine g_enter2 (k := 240) (N := 900) (by first | exact dq1 hd rfl | exact dq0 hd rfl | exact dq2 hd rfl | exact dq3 hd rfl | omega) rfl (Nat.le_of_ble_eq_true rfl) ?_
  refine g_aload_n 1 (gd rfl) rfl rfl ?_
  refine g_callv (X := _) (As := []) (r := []) (b := A 0) (q := 0) 4 (gd rfl) rfl rfl rfl rfl rfl (ww_o rfl) (Nat.le_of_ble_eq_true rfl) (mc := 0) (ms := 0) (Nat.zero_le _) (Nat.zero_le _) (P := fun v u => _) ?_ (fun e u h => h) (fun v u h => h)
  intro po1 xx1 hp1 hx1
  refine g_enter2 (k := 259) (N := 300) (by first | exact dq1 hd rfl | exact dq0 hd rfl | exact dq2 hd rfl | exact dq3 hd rfl | omega) rfl (Nat.le_of_ble_eq_true rfl) ?_
  refine g_aload_n 1 (gd rfl) rfl rfl ?_
  refine g_getI 4 (gd rfl) rfl rfl rfl (fun z1x1 e1x1 => ?_)
  have q1x1 : u_0_2 = z1x1 := (e_0_2).trans e1x1.symm
  subst q1x1
  refine g_iconst (-1) 5 (gd rfl) rfl rfl ?_
  refine g_cmp_ne 8 18 (gd rfl) rfl rfl (fun c1x5 => ?_) (fun c1x5 => ?_)
  · skip
    have i1x5 := r_ne1 0 4000 c1x5 ro_0_2 (in_c (-1) rfl) rfl
    refine g_aload_n 19 (gd rfl) rfl rfl ?_
    refine g_getA (q2 := 32) 22 (gd rfl) rfl rfl rfl rfl ?_
    refine g_areturn (gd rfl) rfl (hp1 _ _ ?_)
    show GG _ _ _ _ _ _ _ _ [.ref (A 32)] _ _ _
    refine g_astore_n 5 (gd rfl) rfl (Nat.le_of_ble_eq_true rfl) ?_
    refine g_aload_n 6 (gd rfl) rfl rfl ?_
    refine g_iload_n 7 (gd rfl) rfl rfl ?_
    refine g_callv (X := _) (As := [.int x1]) (r := []) (b := A 32) (q := 32) 10 (gd rfl) rfl rfl rfl rfl rfl (ww_o rfl) (Nat.le_of_ble_eq_true rfl) (mc := 0) (ms := 0) (Nat.zero_le _) (Nat.zero_le _) (P := fun v u => _) ?_ (fun e u h => h) (fun v u h => h)
    intro po7 xx7 hp7 hx7
    refine g_enter2 (k := 94) (N := 300) (by first | exact dq1 hd rfl | exact dq0 hd rfl | exact dq2 hd rfl | exact dq3 hd rfl | omega) rfl (Nat.le_of_ble_eq_true rfl) ?_
    refine g_iload_n 1 (gd rfl) rfl rfl ?_
    refine g_if_lt 4 16 (gd rfl) rfl rfl (fun c7x1 => ?_) (fun c7x1 => ?_)
    · skip
      have i7x1 := z_lt (-2147483648) (-1) c7x1 (i_rng x1) rfl
      refine g_iconst 0 17 (gd rfl) rfl rfl ?_
      refine g_ireturn (gd rfl) rfl (nb01 (in_w 0 1 (in_c 0 rfl) rfl)) (hp7 _ _ ?_)
      show GG _ _ _ _ _ _ _ _ [.int (Int32.ofInt 0)] _ _ _
      refine g_thr (E := am_IA) (y := yX11_allow) 13 (gd rfl) rfl rfl (Or.inl ⟨rfl, rfl, rfl⟩) (by first | exact dq1 hd rfl | exact dq0 hd rfl | exact dq2 hd rfl | exact dq3 hd rfl | omega) (Nat.le_of_ble_eq_true rfl) (Nat.le_of_ble_eq_true rfl) (Nat.le_of_ble_eq_true rfl) (fun c10 => ?_) (fun c10 => ?_)
      · skip
        exact zn_ne c10 (in_c 0 rfl) rfl
      · skip
        exact (hX _ _ ⟨rfl, s, hI, fr_rf, rfl⟩)
    · skip
      have i7x1 := z_ge 0 2147483647 c7x1 (i_rng x1) rfl
      refine g_iload_n 5 (gd rfl) rfl rfl ?_
      refine g_aload_n 6 (gd rfl) rfl rfl ?_
      refine g_getI 9 (gd rfl) rfl rfl rfl (fun z7x6 e7x6 => ?_)
      have q7x6 : u_32_1 = z7x6 := (e_32_1).trans e7x6.symm
      subst q7x6
      refine g_cmp_ge 12 16 (gd rfl) rfl rfl (fun c7x9 => ?_) (fun c7x9 => ?_)
      · skip
        refine g_iconst 0 17 (gd rfl) rfl rfl ?_
        refine g_ireturn (gd rfl) rfl (nb01 (in_w 0 1 (in_c 0 rfl) rfl)) (hp7 _ _ ?_)
        show GG _ _ _ _ _ _ _ _ [.int (Int32.ofInt 0)] _ _ _
        refine g_thr (E := am_IA) (y := yX11_allow) 13 (gd rfl) rfl rfl (Or.inl ⟨rfl, rfl, rfl⟩) (by first | exact dq1 hd rfl | exact dq0 hd rfl | exact dq2 hd rfl | exact dq3 hd rfl | omega) (Nat.le_of_ble_eq_true rfl) (Nat.le_of_ble_eq_true rfl) (Nat.le_of_ble_eq_true rfl) (fun c10 => ?_) (fun c10 => ?_)
        · skip
          exact zn_ne c10 (in_c 0 rfl) rfl
        · skip
          exact (hX _ _ ⟨rfl, s, hI, fr_rf, rfl⟩)
      · skip
        have i7x9 := r_lt1 0 31 c7x9 i7x1 ro_32_1 rfl
        have i7x9a := r_lt2 1 32 c7x9 i7x1 ro_32_1 rfl
        refine g_iconst 1 13 (gd rfl) rfl rfl ?_
        refine g_goto 17 (gd rfl) rfl ?_
        refine g_ireturn (gd rfl) rfl (nb01 (in_w 0 1 (in_c 1 rfl) rfl)) (hp7 _ _ ?_)
        show GG _ _ _ _ _ _ _ _ [.int (Int32.ofInt 1)] _ _ _
        refine g_thr (E := am_IA) (y := yX11_allow) 13 (gd rfl) rfl rfl (Or.inl ⟨rfl, rfl, rfl⟩) (by first | exact dq1 hd rfl | exact dq0 hd rfl | exact dq2 hd rfl | exact dq3 hd rfl | omega) (Nat.le_of_ble_eq_true rfl) (Nat.le_of_ble_eq_true rfl) (Nat.le_of_ble_eq_true rfl) (fun c10 => ?_) (fun c10 => ?_)
        · skip
          refine g_aload_n 14 (gd rfl) rfl rfl ?_
          refine g_getA (q2 := 60) 17 (gd rfl) rfl rfl rfl rfl ?_
          refine g_aload_n 18 (gd rfl) rfl rfl ?_
          refine g_iload_n 19 (gd rfl) rfl rfl ?_
          refine g_callv (X := _) (As := [.ref (A 32), .int x1]) (r := []) (b := A 60) (q := 60) 22 (gd rfl) rfl rfl rfl rfl rfl (ww_o rfl) (Nat.le_of_ble_eq_true rfl) (mc := 0) (ms := 0) (Nat.zero_le _) (Nat.zero_le _) (P := fun v u => _) ?_ (fun e u h => h) (fun v u h => h)
          intro po19 xx19 hp19 hx19
          refine g_enter2 (k := 43) (N := 300) (by first | exact dq1 hd rfl | exact dq0 hd rfl | exact dq2 hd rfl | exact dq3 hd rfl | omega) rfl (Nat.le_of_ble_eq_true rfl) ?_
          refine g_aload_n 1 (gd rfl) rfl rfl ?_
          refine g_getI 4 (gd rfl) rfl rfl rfl (fun z19x1 e19x1 => ?_)
          have i19x1 := inv_F hI (-1) 4000 rfl e19x1
          refine g_aload_n 5 (gd rfl) rfl rfl ?_
          refine g_getI 8 (gd rfl) rfl rfl rfl (fun z19x5 e19x5 => ?_)
          have q19x5 : u_32_0 = z19x5 := (e_32_0).trans e19x5.symm
          subst q19x5
          refine g_cmp_eq 11 24 (gd rfl) rfl rfl (fun c19x8 => ?_) (fun c19x8 => ?_)
          · skip
            have i19x8 := r_eq1 0 4000 c19x8 i19x1 ro_32_0 rfl
            refine g_aload_n 25 (gd rfl) rfl rfl ?_
            refine g_getA (q2 := 64) 28 (gd rfl) rfl rfl rfl rfl ?_
            refine g_iload_n 29 (gd rfl) rfl rfl ?_
            refine g_iaload 30 (gd rfl) rfl (n := 32) rfl (in_ix i7x9 rfl) (fun z19x29 e19x29 => ?_)
            have i19x29 := inv_I hI (n := 32) (t := 0) 0 31 rfl (in_ix i7x9 rfl) rfl e19x29
            refine g_ireturn (gd rfl) rfl rfl (hp19 _ _ ?_)
            show GG _ _ _ _ _ _ _ _ [.int z19x29] _ _ _
            exact g_ireturn (gd rfl) rfl rfl (hP _ _ ⟨s, hI, fr_rf, z19x29, rfl, rfl, in_w 0 31 i19x29 rfl⟩)
          · skip
            refine g_aload_n 12 (gd rfl) rfl rfl ?_
            refine g_aload_n 13 (gd rfl) rfl rfl ?_
            refine g_getI 16 (gd rfl) rfl rfl rfl (fun z19x13 e19x13 => ?_)
            have q19x13 : u_32_0 = z19x13 := (e_32_0).trans e19x13.symm
            subst q19x13
            refine g_putI 19 (gd rfl) rfl rfl rfl rfl ?_
            have hI19x16 := inv_sF (q := 60) (j := 2) hI rfl (in_w (-1) 4000 ro_32_0 rfl)
            refine g_aload_n 20 (gd rfl) rfl rfl ?_
            refine g_aload_n 21 (gd rfl) rfl rfl ?_
            refine g_callv (X := _) (As := [.ref (A 32)]) (r := []) (b := A 60) (q := 60) 24 (gd rfl) rfl rfl rfl rfl rfl (ww_o rfl) (Nat.le_of_ble_eq_true rfl) (Nat.zero_le _) (Nat.zero_le _) (k_44_60_32 (by first | exact dq1 hd rfl | exact dq0 hd rfl | exact dq2 hd rfl | exact dq3 hd rfl | omega) hI19x16 ) (fun e u h => h) (fun v u h => ?_)
            obtain ⟨s19x21, hI19x21, hF19x21, rfl, rfl⟩ := h
            show GG _ _ _ _ _ _ _ _ [] _ _ _
            refine g_aload_n 25 (gd rfl) rfl rfl ?_
            refine g_getA (q2 := 64) 28 (gd rfl) rfl rfl rfl rfl ?_
            refine g_iload_n 29 (gd rfl) rfl rfl ?_
            refine g_iaload 30 (gd rfl) rfl (n := 32) rfl (in_ix i7x9 rfl) (fun z19x29 e19x29 => ?_)
            have i19x29 := inv_I hI19x21 (n := 32) (t := 0) 0 31 rfl (in_ix i7x9 rfl) rfl e19x29
            refine g_ireturn (gd rfl) rfl rfl (hp19 _ _ ?_)
            show GG _ _ _ _ _ _ _ _ [.int z19x29] _ _ _
            exact g_ireturn (gd rfl) rfl rfl (hP _ _ ⟨s19x21, hI19x21, (fr_tr rfl (fr_sF rfl fr_rf) hF19x21), z19x29, rfl, rfl, in_w 0 31 i19x29 rfl⟩)
        · skip
          exact zn_eq c10 (in_c 1 rfl) rfl
  · skip
    have i1x5 := r_eq1 (-1) (-1) c1x5 ro_0_2 (in_c (-1) rfl) rfl
    refine g_aload_n 9 (gd rfl) rfl rfl ?_
    refine g_getA (q2 := 1) 12 (gd rfl) rfl rfl rfl rfl ?_
    refine g_getA (q2 := 2) 15 (gd rfl) rfl rfl rfl rfl ?_
    refine g_goto 22 (gd rfl) rfl ?_
    refine g_areturn (gd rfl) rfl (hp1 _ _ ?_)
    show GG _ _ _ _ _ _ _ _ [.ref (A 2)] _ _ _
    refine g_astore_n 5 (gd rfl) rfl (Nat.le_of_ble_eq_true rfl) ?_
    refine g_aload_n 6 (gd rfl) rfl rfl ?_
    refine g_iload_n 7 (gd rfl) rfl rfl ?_
    refine g_callv (X := _) (As := [.int x1]) (r := []) (b := A 2) (q := 2) 10 (gd rfl) rfl rfl rfl rfl rfl (ww_o rfl) (Nat.le_of_ble_eq_true rfl) (mc := 0) (ms := 0) (Nat.zero_le _) (Nat.zero_le _) (P := fun v u => _) ?_ (fun e u h => h) (fun v u h => h)
    intro po7 xx7 hp7 hx7
    refine g_enter2 (k := 94) (N := 300) (by first | exact dq1 hd rfl | exact dq0 hd rfl | exact dq2 hd rfl | exact dq3 hd rfl | omega) rfl (Nat.le_of_ble_eq_true rfl) ?_
    refine g_iload_n 1 (gd rfl) rfl rfl ?_
    refine g_if_lt 4 16 (gd rfl) rfl rfl (fun c7x1 => ?_) (fun c7x1 => ?_)
    · skip
      have i7x1 := z_lt (-2147483648) (-1) c7x1 (i_rng x1) rfl
      refine g_iconst 0 17 (gd rfl) rfl rfl ?_
      refine g_ireturn (gd rfl) rfl (nb01 (in_w 0 1 (in_c 0 rfl) rfl)) (hp7 _ _ ?_)
      show GG _ _ _ _ _ _ _ _ [.int (Int32.ofInt 0)] _ _ _
      refine g_thr (E := am_IA) (y := yX11_allow) 13 (gd rfl) rfl rfl (Or.inl ⟨rfl, rfl, rfl⟩) (by first | exact dq1 hd rfl | exact dq0 hd rfl | exact dq2 hd rfl | exact dq3 hd rfl | omega) (Nat.le_of_ble_eq_true rfl) (Nat.le_of_ble_eq_true rfl) (Nat.le_of_ble_eq_true rfl) (fun c10 => ?_) (fun c10 => ?_)
      · skip
        exact zn_ne c10 (in_c 0 rfl) rfl
      · skip
        exact (hX _ _ ⟨rfl, s, hI, fr_rf, rfl⟩)
    · skip
      have i7x1 := z_ge 0 2147483647 c7x1 (i_rng x1) rfl
      refine g_iload_n 5 (gd rfl) rfl rfl ?_
      refine g_aload_n 6 (gd rfl) rfl rfl ?_
      refine g_getI 9 (gd rfl) rfl rfl rfl (fun z7x6 e7x6 => ?_)
      have q7x6 : u_2_1 = z7x6 := (e_2_1).trans e7x6.symm
      subst q7x6
      refine g_cmp_ge 12 16 (gd rfl) rfl rfl (fun c7x9 => ?_) (fun c7x9 => ?_)
      · skip
        refine g_iconst 0 17 (gd rfl) rfl rfl ?_
        refine g_ireturn (gd rfl) rfl (nb01 (in_w 0 1 (in_c 0 rfl) rfl)) (hp7 _ _ ?_)
        show GG _ _ _ _ _ _ _ _ [.int (Int32.ofInt 0)] _ _ _
        refine g_thr (E := am_IA) (y := yX11_allow) 13 (gd rfl) rfl rfl (Or.inl ⟨rfl, rfl, rfl⟩) (by first | exact dq1 hd rfl | exact dq0 hd rfl | exact dq2 hd rfl | exact dq3 hd rfl | omega) (Nat.le_of_ble_eq_true rfl) (Nat.le_of_ble_eq_true rfl) (Nat.le_of_ble_eq_true rfl) (fun c10 => ?_) (fun c10 => ?_)
        · skip
          exact zn_ne c10 (in_c 0 rfl) rfl
        · skip
          exact (hX _ _ ⟨rfl, s, hI, fr_rf, rfl⟩)
      · skip
        have i7x9 := r_lt1 0 31 c7x9 i7x1 ro_2_1 rfl
        have i7x9a := r_lt2 1 32 c7x9 i7x1 ro_2_1 rfl
        refine g_iconst 1 13 (gd rfl) rfl rfl ?_
        refine g_goto 17 (gd rfl) rfl ?_
        refine g_ireturn (gd rfl) rfl (nb01 (in_w 0 1 (in_c 1 rfl) rfl)) (hp7 _ _ ?_)
        show GG _ _ _ _ _ _ _ _ [.int (Int32.ofInt 1)] _ _ _
        refine g_thr (E := am_IA) (y := yX11_allow) 13 (gd rfl) rfl rfl (Or.inl ⟨rfl, rfl, rfl⟩) (by first | exact dq1 hd rfl | exact dq0 hd rfl | exact dq2 hd rfl | exact dq3 hd rfl | omega) (Nat.le_of_ble_eq_true rfl) (Nat.le_of_ble_eq_true rfl) (Nat.le_of_ble_eq_true rfl) (fun c10 => ?_) (fun c10 => ?_)
        · skip
          refine g_aload_n 14 (gd rfl) rfl rfl ?_
          refine g_getA (q2 := 60) 17 (gd rfl) rfl rfl rfl rfl ?_
          refine g_aload_n 18 (gd rfl) rfl rfl ?_
          refine g_iload_n 19 (gd rfl) rfl rfl ?_
          refine g_callv (X := _) (As := [.ref (A 2), .int x1]) (r := []) (b := A 60) (q := 60) 22 (gd rfl) rfl rfl rfl rfl rfl (ww_o rfl) (Nat.le_of_ble_eq_true rfl) (mc := 0) (ms := 0) (Nat.zero_le _) (Nat.zero_le _) (P := fun v u => _) ?_ (fun e u h => h) (fun v u h => h)
          intro po19 xx19 hp19 hx19
          refine g_enter2 (k := 43) (N := 300) (by first | exact dq1 hd rfl | exact dq0 hd rfl | exact dq2 hd rfl | exact dq3 hd rfl | omega) rfl (Nat.le_of_ble_eq_true rfl) ?_
          refine g_aload_n 1 (gd rfl) rfl rfl ?_
          refine g_getI 4 (gd rfl) rfl rfl rfl (fun z19x1 e19x1 => ?_)
          have i19x1 := inv_F hI (-1) 4000 rfl e19x1
          refine g_aload_n 5 (gd rfl) rfl rfl ?_
          refine g_getI 8 (gd rfl) rfl rfl rfl (fun z19x5 e19x5 => ?_)
          have q19x5 : u_2_0 = z19x5 := (e_2_0).trans e19x5.symm
          subst q19x5
          refine g_cmp_eq 11 24 (gd rfl) rfl rfl (fun c19x8 => ?_) (fun c19x8 => ?_)
          · skip
            have i19x8 := r_eq1 0 4000 c19x8 i19x1 ro_2_0 rfl
            refine g_aload_n 25 (gd rfl) rfl rfl ?_
            refine g_getA (q2 := 64) 28 (gd rfl) rfl rfl rfl rfl ?_
            refine g_iload_n 29 (gd rfl) rfl rfl ?_
            refine g_iaload 30 (gd rfl) rfl (n := 32) rfl (in_ix i7x9 rfl) (fun z19x29 e19x29 => ?_)
            have i19x29 := inv_I hI (n := 32) (t := 0) 0 31 rfl (in_ix i7x9 rfl) rfl e19x29
            refine g_ireturn (gd rfl) rfl rfl (hp19 _ _ ?_)
            show GG _ _ _ _ _ _ _ _ [.int z19x29] _ _ _
            exact g_ireturn (gd rfl) rfl rfl (hP _ _ ⟨s, hI, fr_rf, z19x29, rfl, rfl, in_w 0 31 i19x29 rfl⟩)
          · skip
            refine g_aload_n 12 (gd rfl) rfl rfl ?_
            refine g_aload_n 13 (gd rfl) rfl rfl ?_
            refine g_getI 16 (gd rfl) rfl rfl rfl (fun z19x13 e19x13 => ?_)
            have q19x13 : u_2_0 = z19x13 := (e_2_0).trans e19x13.symm
            subst q19x13
            refine g_putI 19 (gd rfl) rfl rfl rfl rfl ?_
            have hI19x16 := inv_sF (q := 60) (j := 2) hI rfl (in_w (-1) 4000 ro_2_0 rfl)
            refine g_aload_n 20 (gd rfl) rfl rfl ?_
            refine g_aload_n 21 (gd rfl) rfl rfl ?_
            refine g_callv (X := _) (As := [.ref (A 2)]) (r := []) (b := A 60) (q := 60) 24 (gd rfl) rfl rfl rfl rfl rfl (ww_o rfl) (Nat.le_of_ble_eq_true rfl) (Nat.zero_le _) (Nat.zero_le _) (k_44_60_2 (by first | exact dq1 hd rfl | exact dq0 hd rfl | exact dq2 hd rfl | exact dq3 hd rfl | omega) hI19x16 ) (fun e u h => h) (fun v u h => ?_)
            obtain ⟨s19x21, hI19x21, hF19x21, rfl, rfl⟩ := h
            show GG _ _ _ _ _ _ _ _ [] _ _ _
            refine g_aload_n 25 (gd rfl) rfl rfl ?_
            refine g_getA (q2 := 64) 28 (gd rfl) rfl rfl rfl rfl ?_
            refine g_iload_n 29 (gd rfl) rfl rfl ?_
            refine g_iaload 30 (gd rfl) rfl (n := 32) rfl (in_ix i7x9 rfl) (fun z19x29 e19x29 => ?_)
            have i19x29 := inv_I hI19x21 (n := 32) (t := 0) 0 31 rfl (in_ix i7x9 rfl) rfl e19x29
            refine g_ireturn (gd rfl) rfl rfl (hp19 _ _ ?_)
            show GG _ _ _ _ _ _ _ _ [.int z19x29] _ _ _
            exact g_ireturn (gd rfl) rfl rfl (hP _ _ ⟨s19x21, hI19x21, (fr_tr rfl (fr_sF rfl fr_rf) hF19x21), z19x29, rfl, rfl, in_w 0 31 i19x29 rfl⟩)
        · skip
          exact zn_eq c10 (in_c 1 rfl) rfl

def fm_243_0 : FM := ([66, 67, 68, 69, 70, 71, 72, 73, 74], [75], [(65, 0), (65, 1), (65, 2), (65, 4), (65, 8)], [(65, 3)])
/-- GraphHouse.cost -/
theorem k_243_0 {Z : AmZ} {A : Nat → Nat} {s : GS} {ex : va_W} {d : Nat} {x1 : Int32} {x2 : Int32} {x3 : Int32} (hd : 7 ≤ d) (hI : Inv s)  : GC Z d 243 [.ref (A 0), .int x1, .int x2, .int x3] (WW Z A s ++ ex) 3 18 (fun v u => ∃ t : GS, Inv t ∧ Fr fm_243_0 s t ∧ ∃ z : Int64, v = some (.long z) ∧ u = WW Z A t ++ ex) (gE1 Z A ex fm_243_0 s) := by
  intro post xp hP hX
  obtain ⟨u_0_2, e_0_2⟩ : ∃ w, w = s.2.2.1 0 2 := ⟨_, rfl⟩
  have ro_0_2 := inv_F hI (-1) 4000 rfl e_0_2
  obtain ⟨u_2_1, e_2_1⟩ : ∃ w, w = s.2.2.1 2 1 := ⟨_, rfl⟩
  have ro_2_1 := inv_F hI 0 32 rfl e_2_1
  obtain ⟨u_32_1, e_32_1⟩ : ∃ w, w = s.2.2.1 32 1 := ⟨_, rfl⟩
  have ro_32_1 := inv_F hI 0 32 rfl e_32_1
  have ct31 : ∀ (sc31 : GS) , Inv sc31 → Fr fm_243_0 s sc31 → GG Z (d - 1) 243 post (gx xp) (901) 31 (fun j => xlook j [(0, .ref (A 0)), (1, .int x1), (2, .int x2), (3, .int x3)]) [] (WW Z A sc31 ++ ex) 3 18 := by
    intro sc31  hIc31 hFc31 
    refine g_iconst 0 32 (gd rfl) rfl rfl ?_
    refine g_thr (E := am_IA) (y := yX11_allow) 35 (gd rfl) rfl rfl (Or.inl ⟨rfl, rfl, rfl⟩) (by first | exact dq1 hd rfl | exact dq0 hd rfl | exact dq2 hd rfl | exact dq3 hd rfl | omega) (Nat.le_of_ble_eq_true rfl) (Nat.le_of_ble_eq_true rfl) (Nat.le_of_ble_eq_true rfl) (fun c32 => ?_) (fun c32 => ?_)
    · skip
      exact zn_ne c32 (in_c 0 rfl) rfl
    · skip
      exact (hX _ _ ⟨rfl, sc31, hIc31, hFc31, rfl⟩)
  refine g_enter2 (k := 243) (N := 1801) (by first | exact dq1 hd rfl | exact dq0 hd rfl | exact dq2 hd rfl | exact dq3 hd rfl | omega) rfl (Nat.le_of_ble_eq_true rfl) ?_
  refine g_aload_n 1 (gd rfl) rfl rfl ?_
  refine g_callv (X := _) (As := []) (r := []) (b := A 0) (q := 0) 4 (gd rfl) rfl rfl rfl rfl rfl (ww_o rfl) (Nat.le_of_ble_eq_true rfl) (mc := 0) (ms := 0) (Nat.zero_le _) (Nat.zero_le _) (P := fun v u => _) ?_ (fun e u h => h) (fun v u h => h)
  intro po1 xx1 hp1 hx1
  refine g_enter2 (k := 259) (N := 300) (by first | exact dq1 hd rfl | exact dq0 hd rfl | exact dq2 hd rfl | exact dq3 hd rfl | omega) rfl (Nat.le_of_ble_eq_true rfl) ?_
  refine g_aload_n 1 (gd rfl) rfl rfl ?_
  refine g_getI 4 (gd rfl) rfl rfl rfl (fun z1x1 e1x1 => ?_)
  have q1x1 : u_0_2 = z1x1 := (e_0_2).trans e1x1.symm
  subst q1x1
  refine g_iconst (-1) 5 (gd rfl) rfl rfl ?_
  refine g_cmp_ne 8 18 (gd rfl) rfl rfl (fun c1x5 => ?_) (fun c1x5 => ?_)
  · skip
    have i1x5 := r_ne1 0 4000 c1x5 ro_0_2 (in_c (-1) rfl) rfl
    refine g_aload_n 19 (gd rfl) rfl rfl ?_
    refine g_getA (q2 := 32) 22 (gd rfl) rfl rfl rfl rfl ?_
    refine g_areturn (gd rfl) rfl (hp1 _ _ ?_)
    show GG _ _ _ _ _ _ _ _ [.ref (A 32)] _ _ _
    refine g_astore 6 (gd rfl) rfl (Nat.le_of_ble_eq_true rfl) ?_
    refine g_aload 8 (gd rfl) rfl rfl ?_
    refine g_iload_n 9 (gd rfl) rfl rfl ?_
    refine g_iload_n 10 (gd rfl) rfl rfl ?_
    refine g_callv (X := _) (As := [.int x1, .int x2]) (r := []) (b := A 32) (q := 32) 13 (gd rfl) rfl rfl rfl rfl rfl (ww_o rfl) (Nat.le_of_ble_eq_true rfl) (mc := 0) (ms := 0) (Nat.zero_le _) (Nat.zero_le _) (P := fun v u => _) ?_ (fun e u h => h) (fun v u h => h)
    intro po10 xx10 hp10 hx10
    refine g_enter2 (k := 95) (N := 300) (by first | exact dq1 hd rfl | exact dq0 hd rfl | exact dq2 hd rfl | exact dq3 hd rfl | omega) rfl (Nat.le_of_ble_eq_true rfl) ?_
    refine g_aload_n 1 (gd rfl) rfl rfl ?_
    refine g_iload_n 2 (gd rfl) rfl rfl ?_
    refine g_callv (X := _) (As := [.int x1]) (r := []) (b := A 32) (q := 32) 5 (gd rfl) rfl rfl rfl rfl rfl (ww_o rfl) (Nat.le_of_ble_eq_true rfl) (mc := 0) (ms := 0) (Nat.zero_le _) (Nat.zero_le _) (P := fun v u => _) ?_ (fun e u h => h) (fun v u h => h)
    intro po10x2 xx10x2 hp10x2 hx10x2
    refine g_enter2 (k := 94) (N := 300) (by first | exact dq1 hd rfl | exact dq0 hd rfl | exact dq2 hd rfl | exact dq3 hd rfl | omega) rfl (Nat.le_of_ble_eq_true rfl) ?_
    refine g_iload_n 1 (gd rfl) rfl rfl ?_
    refine g_if_lt 4 16 (gd rfl) rfl rfl (fun c10x2x1 => ?_) (fun c10x2x1 => ?_)
    · skip
      have i10x2x1 := z_lt (-2147483648) (-1) c10x2x1 (i_rng x1) rfl
      refine g_iconst 0 17 (gd rfl) rfl rfl ?_
      refine g_ireturn (gd rfl) rfl (nb01 (in_w 0 1 (in_c 0 rfl) rfl)) (hp10x2 _ _ ?_)
      show GG _ _ _ _ _ _ _ _ [.int (Int32.ofInt 0)] _ _ _
      refine g_if_eq 8 25 (gd rfl) rfl rfl (fun c10x5 => ?_) (fun c10x5 => ?_)
      · skip
        refine g_iconst 0 26 (gd rfl) rfl rfl ?_
        refine g_ireturn (gd rfl) rfl (nb01 (in_w 0 1 (in_c 0 rfl) rfl)) (hp10 _ _ ?_)
        show GG _ _ _ _ _ _ _ _ [.int (Int32.ofInt 0)] _ _ _
        refine g_if_eq 16 31 (gd rfl) rfl rfl (fun c13 => ?_) (fun c13 => ?_)
        · skip
          exact gg_w (by first | exact Nat.le_of_ble_eq_true rfl | omega) (gg_f (gf_cons rfl (gf_cons rfl (gf_cons rfl (gf_cons rfl gf_nil)))) (ct31 s  hI fr_rf ))
        · skip
          exact zn_ne c13 (in_c 0 rfl) rfl
      · skip
        exact zn_ne c10x5 (in_c 0 rfl) rfl
    · skip
      have i10x2x1 := z_ge 0 2147483647 c10x2x1 (i_rng x1) rfl
      refine g_iload_n 5 (gd rfl) rfl rfl ?_
      refine g_aload_n 6 (gd rfl) rfl rfl ?_
      refine g_getI 9 (gd rfl) rfl rfl rfl (fun z10x2x6 e10x2x6 => ?_)
      have q10x2x6 : u_32_1 = z10x2x6 := (e_32_1).trans e10x2x6.symm
      subst q10x2x6
      refine g_cmp_ge 12 16 (gd rfl) rfl rfl (fun c10x2x9 => ?_) (fun c10x2x9 => ?_)
      · skip
        refine g_iconst 0 17 (gd rfl) rfl rfl ?_
        refine g_ireturn (gd rfl) rfl (nb01 (in_w 0 1 (in_c 0 rfl) rfl)) (hp10x2 _ _ ?_)
        show GG _ _ _ _ _ _ _ _ [.int (Int32.ofInt 0)] _ _ _
        refine g_if_eq 8 25 (gd rfl) rfl rfl (fun c10x5 => ?_) (fun c10x5 => ?_)
        · skip
          refine g_iconst 0 26 (gd rfl) rfl rfl ?_
          refine g_ireturn (gd rfl) rfl (nb01 (in_w 0 1 (in_c 0 rfl) rfl)) (hp10 _ _ ?_)
          show GG _ _ _ _ _ _ _ _ [.int (Int32.ofInt 0)] _ _ _
          refine g_if_eq 16 31 (gd rfl) rfl rfl (fun c13 => ?_) (fun c13 => ?_)
          · skip
            exact gg_w (by first | exact Nat.le_of_ble_eq_true rfl | omega) (gg_f (gf_cons rfl (gf_cons rfl (gf_cons rfl (gf_cons rfl gf_nil)))) (ct31 s  hI fr_rf ))
          · skip
            exact zn_ne c13 (in_c 0 rfl) rfl
        · skip
          exact zn_ne c10x5 (in_c 0 rfl) rfl
      · skip
        have i10x2x9 := r_lt1 0 31 c10x2x9 i10x2x1 ro_32_1 rfl
        have i10x2x9a := r_lt2 1 32 c10x2x9 i10x2x1 ro_32_1 rfl
        refine g_iconst 1 13 (gd rfl) rfl rfl ?_
        refine g_goto 17 (gd rfl) rfl ?_
        refine g_ireturn (gd rfl) rfl (nb01 (in_w 0 1 (in_c 1 rfl) rfl)) (hp10x2 _ _ ?_)
        show GG _ _ _ _ _ _ _ _ [.int (Int32.ofInt 1)] _ _ _
        refine g_if_eq 8 25 (gd rfl) rfl rfl (fun c10x5 => ?_) (fun c10x5 => ?_)
        · skip
          exact zn_eq c10x5 (in_c 1 rfl) rfl
        · skip
          refine g_aload_n 9 (gd rfl) rfl rfl ?_
          refine g_iload_n 10 (gd rfl) rfl rfl ?_
          refine g_callv (X := _) (As := [.int x2]) (r := []) (b := A 32) (q := 32) 13 (gd rfl) rfl rfl rfl rfl rfl (ww_o rfl) (Nat.le_of_ble_eq_true rfl) (mc := 0) (ms := 0) (Nat.zero_le _) (Nat.zero_le _) (P := fun v u => _) ?_ (fun e u h => h) (fun v u h => h)
          intro po10x10 xx10x10 hp10x10 hx10x10
          refine g_enter2 (k := 94) (N := 300) (by first | exact dq1 hd rfl | exact dq0 hd rfl | exact dq2 hd rfl | exact dq3 hd rfl | omega) rfl (Nat.le_of_ble_eq_true rfl) ?_
          refine g_iload_n 1 (gd rfl) rfl rfl ?_
          refine g_if_lt 4 16 (gd rfl) rfl rfl (fun c10x10x1 => ?_) (fun c10x10x1 => ?_)
          · skip
            have i10x10x1 := z_lt (-2147483648) (-1) c10x10x1 (i_rng x2) rfl
            refine g_iconst 0 17 (gd rfl) rfl rfl ?_
            refine g_ireturn (gd rfl) rfl (nb01 (in_w 0 1 (in_c 0 rfl) rfl)) (hp10x10 _ _ ?_)
            show GG _ _ _ _ _ _ _ _ [.int (Int32.ofInt 0)] _ _ _
            refine g_if_eq 16 25 (gd rfl) rfl rfl (fun c10x13 => ?_) (fun c10x13 => ?_)
            · skip
              refine g_iconst 0 26 (gd rfl) rfl rfl ?_
              refine g_ireturn (gd rfl) rfl (nb01 (in_w 0 1 (in_c 0 rfl) rfl)) (hp10 _ _ ?_)
              show GG _ _ _ _ _ _ _ _ [.int (Int32.ofInt 0)] _ _ _
              refine g_if_eq 16 31 (gd rfl) rfl rfl (fun c13 => ?_) (fun c13 => ?_)
              · skip
                exact gg_w (by first | exact Nat.le_of_ble_eq_true rfl | omega) (gg_f (gf_cons rfl (gf_cons rfl (gf_cons rfl (gf_cons rfl gf_nil)))) (ct31 s  hI fr_rf ))
              · skip
                exact zn_ne c13 (in_c 0 rfl) rfl
            · skip
              exact zn_ne c10x13 (in_c 0 rfl) rfl
          · skip
            have i10x10x1 := z_ge 0 2147483647 c10x10x1 (i_rng x2) rfl
            refine g_iload_n 5 (gd rfl) rfl rfl ?_
            refine g_aload_n 6 (gd rfl) rfl rfl ?_
            refine g_getI 9 (gd rfl) rfl rfl rfl (fun z10x10x6 e10x10x6 => ?_)
            have q10x10x6 : u_32_1 = z10x10x6 := (e_32_1).trans e10x10x6.symm
            subst q10x10x6
            refine g_cmp_ge 12 16 (gd rfl) rfl rfl (fun c10x10x9 => ?_) (fun c10x10x9 => ?_)
            · skip
              have i10x10x9 := r_le2 1 2147483647 c10x10x9 i10x2x9a i10x10x1 rfl
              refine g_iconst 0 17 (gd rfl) rfl rfl ?_
              refine g_ireturn (gd rfl) rfl (nb01 (in_w 0 1 (in_c 0 rfl) rfl)) (hp10x10 _ _ ?_)
              show GG _ _ _ _ _ _ _ _ [.int (Int32.ofInt 0)] _ _ _
              refine g_if_eq 16 25 (gd rfl) rfl rfl (fun c10x13 => ?_) (fun c10x13 => ?_)
              · skip
                refine g_iconst 0 26 (gd rfl) rfl rfl ?_
                refine g_ireturn (gd rfl) rfl (nb01 (in_w 0 1 (in_c 0 rfl) rfl)) (hp10 _ _ ?_)
                show GG _ _ _ _ _ _ _ _ [.int (Int32.ofInt 0)] _ _ _
                refine g_if_eq 16 31 (gd rfl) rfl rfl (fun c13 => ?_) (fun c13 => ?_)
                · skip
                  exact gg_w (by first | exact Nat.le_of_ble_eq_true rfl | omega) (gg_f (gf_cons rfl (gf_cons rfl (gf_cons rfl (gf_cons rfl gf_nil)))) (ct31 s  hI fr_rf ))
                · skip
                  exact zn_ne c13 (in_c 0 rfl) rfl
              · skip
                exact zn_ne c10x13 (in_c 0 rfl) rfl
            · skip
              have i10x10x9 := r_lt1 0 31 c10x10x9 i10x10x1 i10x2x9a rfl
              refine g_iconst 1 13 (gd rfl) rfl rfl ?_
              refine g_goto 17 (gd rfl) rfl ?_
              refine g_ireturn (gd rfl) rfl (nb01 (in_w 0 1 (in_c 1 rfl) rfl)) (hp10x10 _ _ ?_)
              show GG _ _ _ _ _ _ _ _ [.int (Int32.ofInt 1)] _ _ _
              refine g_if_eq 16 25 (gd rfl) rfl rfl (fun c10x13 => ?_) (fun c10x13 => ?_)
              · skip
                exact zn_eq c10x13 (in_c 1 rfl) rfl
              · skip
                refine g_iload_n 17 (gd rfl) rfl rfl ?_
                refine g_iload_n 18 (gd rfl) rfl rfl ?_
                refine g_cmp_eq 21 25 (gd rfl) rfl rfl (fun c10x18 => ?_) (fun c10x18 => ?_)
                · skip
                  refine g_iconst 0 26 (gd rfl) rfl rfl ?_
                  refine g_ireturn (gd rfl) rfl (nb01 (in_w 0 1 (in_c 0 rfl) rfl)) (hp10 _ _ ?_)
                  show GG _ _ _ _ _ _ _ _ [.int (Int32.ofInt 0)] _ _ _
                  refine g_if_eq 16 31 (gd rfl) rfl rfl (fun c13 => ?_) (fun c13 => ?_)
                  · skip
                    exact gg_w (by first | exact Nat.le_of_ble_eq_true rfl | omega) (gg_f (gf_cons rfl (gf_cons rfl (gf_cons rfl (gf_cons rfl gf_nil)))) (ct31 s  hI fr_rf ))
                  · skip
                    exact zn_ne c13 (in_c 0 rfl) rfl
                · skip
                  refine g_iconst 1 22 (gd rfl) rfl rfl ?_
                  refine g_goto 26 (gd rfl) rfl ?_
                  refine g_ireturn (gd rfl) rfl (nb01 (in_w 0 1 (in_c 1 rfl) rfl)) (hp10 _ _ ?_)
                  show GG _ _ _ _ _ _ _ _ [.int (Int32.ofInt 1)] _ _ _
                  refine g_if_eq 16 31 (gd rfl) rfl rfl (fun c13 => ?_) (fun c13 => ?_)
                  · skip
                    exact zn_eq c13 (in_c 1 rfl) rfl
                  · skip
                    refine g_iload_n 17 (gd rfl) rfl rfl ?_
                    refine g_if_lt 20 31 (gd rfl) rfl rfl (fun c17 => ?_) (fun c17 => ?_)
                    · skip
                      have i17 := z_lt (-2147483648) (-1) c17 (i_rng x3) rfl
                      exact gg_w (by first | exact Nat.le_of_ble_eq_true rfl | omega) (gg_f (gf_cons rfl (gf_cons rfl (gf_cons rfl (gf_cons rfl gf_nil)))) (ct31 s  hI fr_rf ))
                    · skip
                      have i17 := z_ge 0 2147483647 c17 (i_rng x3) rfl
                      refine g_iload_n 21 (gd rfl) rfl rfl ?_
                      refine g_ldc_w 200000000 24 (gd rfl) rfl rfl ?_
                      refine g_cmp_gt 27 31 (gd rfl) rfl rfl (fun c24 => ?_) (fun c24 => ?_)
                      · skip
                        have i24 := r_lt2 200000001 2147483647 c24 (in_c 200000000 rfl) i17 rfl
                        exact gg_w (by first | exact Nat.le_of_ble_eq_true rfl | omega) (gg_f (gf_cons rfl (gf_cons rfl (gf_cons rfl (gf_cons rfl gf_nil)))) (ct31 s  hI fr_rf ))
                      · skip
                        have i24 := r_le1 0 200000000 c24 i17 (in_c 200000000 rfl) rfl
                        refine g_iconst 1 28 (gd rfl) rfl rfl ?_
                        refine g_goto 32 (gd rfl) rfl ?_
                        refine g_thr (E := am_IA) (y := yX11_allow) 35 (gd rfl) rfl rfl (Or.inl ⟨rfl, rfl, rfl⟩) (by first | exact dq1 hd rfl | exact dq0 hd rfl | exact dq2 hd rfl | exact dq3 hd rfl | omega) (Nat.le_of_ble_eq_true rfl) (Nat.le_of_ble_eq_true rfl) (Nat.le_of_ble_eq_true rfl) (fun c32 => ?_) (fun c32 => ?_)
                        · skip
                          refine g_aload_n 36 (gd rfl) rfl rfl ?_
                          refine g_getA (q2 := 65) 39 (gd rfl) rfl rfl rfl rfl ?_
                          refine g_aload 41 (gd rfl) rfl rfl ?_
                          refine g_iload_n 42 (gd rfl) rfl rfl ?_
                          refine g_iload_n 43 (gd rfl) rfl rfl ?_
                          refine g_iload_n 44 (gd rfl) rfl rfl ?_
                          refine g_callv (X := _) (As := [.ref (A 32), .int x1, .int x2, .int x3]) (r := []) (b := A 65) (q := 65) 47 (gd rfl) rfl rfl rfl rfl rfl (ww_o rfl) (Nat.le_of_ble_eq_true rfl) (Nat.zero_le _) (Nat.zero_le _) (k_79_65_32 (by first | exact dq1 hd rfl | exact dq0 hd rfl | exact dq2 hd rfl | exact dq3 hd rfl | omega) hI (in_w 0 31 i10x2x9 rfl) (in_w 0 31 i10x10x9 rfl) (in_w 0 200000000 i24 rfl)) (fun e u h => h) (fun v u h => ?_)
                          obtain ⟨s44, hI44, hF44, z44, rfl, rfl⟩ := h
                          show GG _ _ _ _ _ _ _ _ [.long z44] _ _ _
                          exact g_lreturn (gd rfl) rfl (hP _ _ ⟨s44, hI44, (fr_tr rfl fr_rf hF44), z44, rfl, rfl⟩)
                        · skip
                          exact zn_eq c32 (in_c 1 rfl) rfl
  · skip
    have i1x5 := r_eq1 (-1) (-1) c1x5 ro_0_2 (in_c (-1) rfl) rfl
    refine g_aload_n 9 (gd rfl) rfl rfl ?_
    refine g_getA (q2 := 1) 12 (gd rfl) rfl rfl rfl rfl ?_
    refine g_getA (q2 := 2) 15 (gd rfl) rfl rfl rfl rfl ?_
    refine g_goto 22 (gd rfl) rfl ?_
    refine g_areturn (gd rfl) rfl (hp1 _ _ ?_)
    show GG _ _ _ _ _ _ _ _ [.ref (A 2)] _ _ _
    refine g_astore 6 (gd rfl) rfl (Nat.le_of_ble_eq_true rfl) ?_
    refine g_aload 8 (gd rfl) rfl rfl ?_
    refine g_iload_n 9 (gd rfl) rfl rfl ?_
    refine g_iload_n 10 (gd rfl) rfl rfl ?_
    refine g_callv (X := _) (As := [.int x1, .int x2]) (r := []) (b := A 2) (q := 2) 13 (gd rfl) rfl rfl rfl rfl rfl (ww_o rfl) (Nat.le_of_ble_eq_true rfl) (mc := 0) (ms := 0) (Nat.zero_le _) (Nat.zero_le _) (P := fun v u => _) ?_ (fun e u h => h) (fun v u h => h)
    intro po10 xx10 hp10 hx10
    refine g_enter2 (k := 95) (N := 300) (by first | exact dq1 hd rfl | exact dq0 hd rfl | exact dq2 hd rfl | exact dq3 hd rfl | omega) rfl (Nat.le_of_ble_eq_true rfl) ?_
    refine g_aload_n 1 (gd rfl) rfl rfl ?_
    refine g_iload_n 2 (gd rfl) rfl rfl ?_
    refine g_callv (X := _) (As := [.int x1]) (r := []) (b := A 2) (q := 2) 5 (gd rfl) rfl rfl rfl rfl rfl (ww_o rfl) (Nat.le_of_ble_eq_true rfl) (mc := 0) (ms := 0) (Nat.zero_le _) (Nat.zero_le _) (P := fun v u => _) ?_ (fun e u h => h) (fun v u h => h)
    intro po10x2 xx10x2 hp10x2 hx10x2
    refine g_enter2 (k := 94) (N := 300) (by first | exact dq1 hd rfl | exact dq0 hd rfl | exact dq2 hd rfl | exact dq3 hd rfl | omega) rfl (Nat.le_of_ble_eq_true rfl) ?_
    refine g_iload_n 1 (gd rfl) rfl rfl ?_
    refine g_if_lt 4 16 (gd rfl) rfl rfl (fun c10x2x1 => ?_) (fun c10x2x1 => ?_)
    · skip
      have i10x2x1 := z_lt (-2147483648) (-1) c10x2x1 (i_rng x1) rfl
      refine g_iconst 0 17 (gd rfl) rfl rfl ?_
      refine g_ireturn (gd rfl) rfl (nb01 (in_w 0 1 (in_c 0 rfl) rfl)) (hp10x2 _ _ ?_)
      show GG _ _ _ _ _ _ _ _ [.int (Int32.ofInt 0)] _ _ _
      refine g_if_eq 8 25 (gd rfl) rfl rfl (fun c10x5 => ?_) (fun c10x5 => ?_)
      · skip
        refine g_iconst 0 26 (gd rfl) rfl rfl ?_
        refine g_ireturn (gd rfl) rfl (nb01 (in_w 0 1 (in_c 0 rfl) rfl)) (hp10 _ _ ?_)
        show GG _ _ _ _ _ _ _ _ [.int (Int32.ofInt 0)] _ _ _
        refine g_if_eq 16 31 (gd rfl) rfl rfl (fun c13 => ?_) (fun c13 => ?_)
        · skip
          exact gg_w (by first | exact Nat.le_of_ble_eq_true rfl | omega) (gg_f (gf_cons rfl (gf_cons rfl (gf_cons rfl (gf_cons rfl gf_nil)))) (ct31 s  hI fr_rf ))
        · skip
          exact zn_ne c13 (in_c 0 rfl) rfl
      · skip
        exact zn_ne c10x5 (in_c 0 rfl) rfl
    · skip
      have i10x2x1 := z_ge 0 2147483647 c10x2x1 (i_rng x1) rfl
      refine g_iload_n 5 (gd rfl) rfl rfl ?_
      refine g_aload_n 6 (gd rfl) rfl rfl ?_
      refine g_getI 9 (gd rfl) rfl rfl rfl (fun z10x2x6 e10x2x6 => ?_)
      have q10x2x6 : u_2_1 = z10x2x6 := (e_2_1).trans e10x2x6.symm
      subst q10x2x6
      refine g_cmp_ge 12 16 (gd rfl) rfl rfl (fun c10x2x9 => ?_) (fun c10x2x9 => ?_)
      · skip
        refine g_iconst 0 17 (gd rfl) rfl rfl ?_
        refine g_ireturn (gd rfl) rfl (nb01 (in_w 0 1 (in_c 0 rfl) rfl)) (hp10x2 _ _ ?_)
        show GG _ _ _ _ _ _ _ _ [.int (Int32.ofInt 0)] _ _ _
        refine g_if_eq 8 25 (gd rfl) rfl rfl (fun c10x5 => ?_) (fun c10x5 => ?_)
        · skip
          refine g_iconst 0 26 (gd rfl) rfl rfl ?_
          refine g_ireturn (gd rfl) rfl (nb01 (in_w 0 1 (in_c 0 rfl) rfl)) (hp10 _ _ ?_)
          show GG _ _ _ _ _ _ _ _ [.int (Int32.ofInt 0)] _ _ _
          refine g_if_eq 16 31 (gd rfl) rfl rfl (fun c13 => ?_) (fun c13 => ?_)
          · skip
            exact gg_w (by first | exact Nat.le_of_ble_eq_true rfl | omega) (gg_f (gf_cons rfl (gf_cons rfl (gf_cons rfl (gf_cons rfl gf_nil)))) (ct31 s  hI fr_rf ))
          · skip
            exact zn_ne c13 (in_c 0 rfl) rfl
        · skip
          exact zn_ne c10x5 (in_c 0 rfl) rfl
      · skip
        have i10x2x9 := r_lt1 0 31 c10x2x9 i10x2x1 ro_2_1 rfl
        have i10x2x9a := r_lt2 1 32 c10x2x9 i10x2x1 ro_2_1 rfl
        refine g_iconst 1 13 (gd rfl) rfl rfl ?_
        refine g_goto 17 (gd rfl) rfl ?_
        refine g_ireturn (gd rfl) rfl (nb01 (in_w 0 1 (in_c 1 rfl) rfl)) (hp10x2 _ _ ?_)
        show GG _ _ _ _ _ _ _ _ [.int (Int32.ofInt 1)] _ _ _
        refine g_if_eq 8 25 (gd rfl) rfl rfl (fun c10x5 => ?_) (fun c10x5 => ?_)
        · skip
          exact zn_eq c10x5 (in_c 1 rfl) rfl
        · skip
          refine g_aload_n 9 (gd rfl) rfl rfl ?_
          refine g_iload_n 10 (gd rfl) rfl rfl ?_
          refine g_callv (X := _) (As := [.int x2]) (r := []) (b := A 2) (q := 2) 13 (gd rfl) rfl rfl rfl rfl rfl (ww_o rfl) (Nat.le_of_ble_eq_true rfl) (mc := 0) (ms := 0) (Nat.zero_le _) (Nat.zero_le _) (P := fun v u => _) ?_ (fun e u h => h) (fun v u h => h)
          intro po10x10 xx10x10 hp10x10 hx10x10
          refine g_enter2 (k := 94) (N := 300) (by first | exact dq1 hd rfl | exact dq0 hd rfl | exact dq2 hd rfl | exact dq3 hd rfl | omega) rfl (Nat.le_of_ble_eq_true rfl) ?_
          refine g_iload_n 1 (gd rfl) rfl rfl ?_
          refine g_if_lt 4 16 (gd rfl) rfl rfl (fun c10x10x1 => ?_) (fun c10x10x1 => ?_)
          · skip
            have i10x10x1 := z_lt (-2147483648) (-1) c10x10x1 (i_rng x2) rfl
            refine g_iconst 0 17 (gd rfl) rfl rfl ?_
            refine g_ireturn (gd rfl) rfl (nb01 (in_w 0 1 (in_c 0 rfl) rfl)) (hp10x10 _ _ ?_)
            show GG _ _ _ _ _ _ _ _ [.int (Int32.ofInt 0)] _ _ _
            refine g_if_eq 16 25 (gd rfl) rfl rfl (fun c10x13 => ?_) (fun c10x13 => ?_)
            · skip
              refine g_iconst 0 26 (gd rfl) rfl rfl ?_
              refine g_ireturn (gd rfl) rfl (nb01 (in_w 0 1 (in_c 0 rfl) rfl)) (hp10 _ _ ?_)
              show GG _ _ _ _ _ _ _ _ [.int (Int32.ofInt 0)] _ _ _
              refine g_if_eq 16 31 (gd rfl) rfl rfl (fun c13 => ?_) (fun c13 => ?_)
              · skip
                exact gg_w (by first | exact Nat.le_of_ble_eq_true rfl | omega) (gg_f (gf_cons rfl (gf_cons rfl (gf_cons rfl (gf_cons rfl gf_nil)))) (ct31 s  hI fr_rf ))
              · skip
                exact zn_ne c13 (in_c 0 rfl) rfl
            · skip
              exact zn_ne c10x13 (in_c 0 rfl) rfl
          · skip
            have i10x10x1 := z_ge 0 2147483647 c10x10x1 (i_rng x2) rfl
            refine g_iload_n 5 (gd rfl) rfl rfl ?_
            refine g_aload_n 6 (gd rfl) rfl rfl ?_
            refine g_getI 9 (gd rfl) rfl rfl rfl (fun z10x10x6 e10x10x6 => ?_)
            have q10x10x6 : u_2_1 = z10x10x6 := (e_2_1).trans e10x10x6.symm
            subst q10x10x6
            refine g_cmp_ge 12 16 (gd rfl) rfl rfl (fun c10x10x9 => ?_) (fun c10x10x9 => ?_)
            · skip
              have i10x10x9 := r_le2 1 2147483647 c10x10x9 i10x2x9a i10x10x1 rfl
              refine g_iconst 0 17 (gd rfl) rfl rfl ?_
              refine g_ireturn (gd rfl) rfl (nb01 (in_w 0 1 (in_c 0 rfl) rfl)) (hp10x10 _ _ ?_)
              show GG _ _ _ _ _ _ _ _ [.int (Int32.ofInt 0)] _ _ _
              refine g_if_eq 16 25 (gd rfl) rfl rfl (fun c10x13 => ?_) (fun c10x13 => ?_)
              · skip
                refine g_iconst 0 26 (gd rfl) rfl rfl ?_
                refine g_ireturn (gd rfl) rfl (nb01 (in_w 0 1 (in_c 0 rfl) rfl)) (hp10 _ _ ?_)
                show GG _ _ _ _ _ _ _ _ [.int (Int32.ofInt 0)] _ _ _
                refine g_if_eq 16 31 (gd rfl) rfl rfl (fun c13 => ?_) (fun c13 => ?_)
                · skip
                  exact gg_w (by first | exact Nat.le_of_ble_eq_true rfl | omega) (gg_f (gf_cons rfl (gf_cons rfl (gf_cons rfl (gf_cons rfl gf_nil)))) (ct31 s  hI fr_rf ))
                · skip
                  exact zn_ne c13 (in_c 0 rfl) rfl
              · skip
                exact zn_ne c10x13 (in_c 0 rfl) rfl
            · skip
              have i10x10x9 := r_lt1 0 31 c10x10x9 i10x10x1 i10x2x9a rfl
              refine g_iconst 1 13 (gd rfl) rfl rfl ?_
              refine g_goto 17 (gd rfl) rfl ?_
              refine g_ireturn (gd rfl) rfl (nb01 (in_w 0 1 (in_c 1 rfl) rfl)) (hp10x10 _ _ ?_)
              show GG _ _ _ _ _ _ _ _ [.int (Int32.ofInt 1)] _ _ _
              refine g_if_eq 16 25 (gd rfl) rfl rfl (fun c10x13 => ?_) (fun c10x13 => ?_)
              · skip
                exact zn_eq c10x13 (in_c 1 rfl) rfl
              · skip
                refine g_iload_n 17 (gd rfl) rfl rfl ?_
                refine g_iload_n 18 (gd rfl) rfl rfl ?_
                refine g_cmp_eq 21 25 (gd rfl) rfl rfl (fun c10x18 => ?_) (fun c10x18 => ?_)
                · skip
                  refine g_iconst 0 26 (gd rfl) rfl rfl ?_
                  refine g_ireturn (gd rfl) rfl (nb01 (in_w 0 1 (in_c 0 rfl) rfl)) (hp10 _ _ ?_)
                  show GG _ _ _ _ _ _ _ _ [.int (Int32.ofInt 0)] _ _ _
                  refine g_if_eq 16 31 (gd rfl) rfl rfl (fun c13 => ?_) (fun c13 => ?_)
                  · skip
                    exact gg_w (by first | exact Nat.le_of_ble_eq_true rfl | omega) (gg_f (gf_cons rfl (gf_cons rfl (gf_cons rfl (gf_cons rfl gf_nil)))) (ct31 s  hI fr_rf ))
                  · skip
                    exact zn_ne c13 (in_c 0 rfl) rfl
                · skip
                  refine g_iconst 1 22 (gd rfl) rfl rfl ?_
                  refine g_goto 26 (gd rfl) rfl ?_
                  refine g_ireturn (gd rfl) rfl (nb01 (in_w 0 1 (in_c 1 rfl) rfl)) (hp10 _ _ ?_)
                  show GG _ _ _ _ _ _ _ _ [.int (Int32.ofInt 1)] _ _ _
                  refine g_if_eq 16 31 (gd rfl) rfl rfl (fun c13 => ?_) (fun c13 => ?_)
                  · skip
                    exact zn_eq c13 (in_c 1 rfl) rfl
                  · skip
                    refine g_iload_n 17 (gd rfl) rfl rfl ?_
                    refine g_if_lt 20 31 (gd rfl) rfl rfl (fun c17 => ?_) (fun c17 => ?_)
                    · skip
                      have i17 := z_lt (-2147483648) (-1) c17 (i_rng x3) rfl
                      exact gg_w (by first | exact Nat.le_of_ble_eq_true rfl | omega) (gg_f (gf_cons rfl (gf_cons rfl (gf_cons rfl (gf_cons rfl gf_nil)))) (ct31 s  hI fr_rf ))
                    · skip
                      have i17 := z_ge 0 2147483647 c17 (i_rng x3) rfl
                      refine g_iload_n 21 (gd rfl) rfl rfl ?_
                      refine g_ldc_w 200000000 24 (gd rfl) rfl rfl ?_
                      refine g_cmp_gt 27 31 (gd rfl) rfl rfl (fun c24 => ?_) (fun c24 => ?_)
                      · skip
                        have i24 := r_lt2 200000001 2147483647 c24 (in_c 200000000 rfl) i17 rfl
                        exact gg_w (by first | exact Nat.le_of_ble_eq_true rfl | omega) (gg_f (gf_cons rfl (gf_cons rfl (gf_cons rfl (gf_cons rfl gf_nil)))) (ct31 s  hI fr_rf ))
                      · skip
                        have i24 := r_le1 0 200000000 c24 i17 (in_c 200000000 rfl) rfl
                        refine g_iconst 1 28 (gd rfl) rfl rfl ?_
                        refine g_goto 32 (gd rfl) rfl ?_
                        refine g_thr (E := am_IA) (y := yX11_allow) 35 (gd rfl) rfl rfl (Or.inl ⟨rfl, rfl, rfl⟩) (by first | exact dq1 hd rfl | exact dq0 hd rfl | exact dq2 hd rfl | exact dq3 hd rfl | omega) (Nat.le_of_ble_eq_true rfl) (Nat.le_of_ble_eq_true rfl) (Nat.le_of_ble_eq_true rfl) (fun c32 => ?_) (fun c32 => ?_)
                        · skip
                          refine g_aload_n 36 (gd rfl) rfl rfl ?_
                          refine g_getA (q2 := 65) 39 (gd rfl) rfl rfl rfl rfl ?_
                          refine g_aload 41 (gd rfl) rfl rfl ?_
                          refine g_iload_n 42 (gd rfl) rfl rfl ?_
                          refine g_iload_n 43 (gd rfl) rfl rfl ?_
                          refine g_iload_n 44 (gd rfl) rfl rfl ?_
                          refine g_callv (X := _) (As := [.ref (A 2), .int x1, .int x2, .int x3]) (r := []) (b := A 65) (q := 65) 47 (gd rfl) rfl rfl rfl rfl rfl (ww_o rfl) (Nat.le_of_ble_eq_true rfl) (Nat.zero_le _) (Nat.zero_le _) (k_79_65_2 (by first | exact dq1 hd rfl | exact dq0 hd rfl | exact dq2 hd rfl | exact dq3 hd rfl | omega) hI (in_w 0 31 i10x2x9 rfl) (in_w 0 31 i10x10x9 rfl) (in_w 0 200000000 i24 rfl)) (fun e u h => h) (fun v u h => ?_)
                          obtain ⟨s44, hI44, hF44, z44, rfl, rfl⟩ := h
                          show GG _ _ _ _ _ _ _ _ [.long z44] _ _ _
                          exact g_lreturn (gd rfl) rfl (hP _ _ ⟨s44, hI44, (fr_tr rfl fr_rf hF44), z44, rfl, rfl⟩)
                        · skip
                          exact zn_eq c32 (in_c 1 rfl) rfl
end
