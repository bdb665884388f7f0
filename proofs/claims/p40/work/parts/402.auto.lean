/-! methods, by vc.py -/
def fm_42_60_9 : FM := ([], [], [(60, 1)], [])
/-- GraphHouse$Colours.growClique -/
theorem k_42_60_9_r {Z : AmZ} {A : Nat → Nat} {ex : va_W} (kk : Nat) : ∀ {s : GS} {d : Nat} {X : AmX} {x2 : Int32} {x3 : Int32} {x4 : Int32}, 5 + kk * 3 ≤ d → Inv s → In x4 0 32 → 32 - (x4).toInt < (kk : Int) → GC Z d 42 [.ref (A 60), .ref (A 9), .int x2, .int x3, .int x4] (WW Z A s ++ ex) 0 0 (fun v u => ∃ t : GS, Inv t ∧ Fr fm_42_60_9 s t ∧ v = none ∧ u = WW Z A t ++ ex) X := by
  induction kk with
  | zero => intro s d X x2 x3 x4 hd hI h4 hm; exact m_no hm h4 rfl
  | succ kk ih =>
    intro s d X x2 x3 x4 hd hI h4 hm
    intro post xp hP hX
    have ct34 : ∀ (k34 : Nat) (sc34 : GS) (y34_5 : Int32) (y34_6 : Int32), Inv sc34 → Fr fm_42_60_9 s sc34 → (In x4 0 31) → (In y34_5 0 32) → ((y34_6.toBitVec.toNat : Nat) : Int) < (k34 : Int) → GG Z (d - 1) 42 post (gx xp) (1 + k34 * 900) 34 (fun j => xlook j [(0, .ref (A 60)), (1, .ref (A 9)), (2, .int x2), (3, .int x3), (4, .int x4), (5, .int y34_5), (6, .int y34_6)]) [] (WW Z A sc34 ++ ex) 0 0 := by
      intro k34
      induction k34 with
      | zero => intro sc34 y34_5 y34_6 hIc34 hFc34 j34_4 j34_5 mm34; exact absurd mm34 (Int.not_lt.mpr (Int.natCast_nonneg _))
      | succ k34 ih34 =>
        intro sc34 y34_5 y34_6 hIc34 hFc34 j34_4 j34_5 mm34
        refine gg_w (M := 1 + k34 * 900 + 900) gws ?_
        refine g_iload 36 (gd rfl) rfl rfl ?_
        refine g_if_eq 39 99 (gd rfl) rfl rfl (fun c36 => ?_) (fun c36 => ?_)
        · skip
          have i36 := z_eq 0 0 c36 (i_rng y34_6) rfl
          exact g_return (gd rfl) rfl (hP _ _ ⟨sc34, hIc34, hFc34, rfl, rfl⟩)
        · skip
          refine g_iload 41 (gd rfl) rfl rfl ?_
          refine g_iload 43 (gd rfl) rfl rfl ?_
          refine g_calls (As := [.int y34_6]) (r := [.int y34_5]) 46 (gd rfl) rfl rfl rfl rfl rfl (Nat.le_of_ble_eq_true rfl) (Nat.zero_le _) (Nat.zero_le _) (k_414b (by first | exact dq1 hd rfl | exact dq0 hd rfl | exact dq2 hd rfl | exact dq3 hd rfl | omega) hIc34 ) (fun v u h => ?_)
          obtain ⟨z43, rfl, rfl, i43⟩ := h
          show GG _ _ _ _ _ _ _ _ [.int z43, .int y34_5] _ _ _
          refine g_iadd 47 (gd rfl) rfl (fun z46 e46 => ?_)
          have i46 := in_add 0 64 e46 j34_5 i43 rfl rfl
          refine g_aload_n 48 (gd rfl) rfl rfl ?_
          refine g_getI 51 (gd rfl) rfl rfl rfl (fun z48 e48 => ?_)
          refine g_calls (As := [.int z48]) (r := [.int z46]) 54 (gd rfl) rfl rfl rfl rfl rfl (Nat.le_of_ble_eq_true rfl) (Nat.zero_le _) (Nat.zero_le _) (k_414b (by first | exact dq1 hd rfl | exact dq0 hd rfl | exact dq2 hd rfl | exact dq3 hd rfl | omega) hIc34 ) (fun v u h => ?_)
          obtain ⟨z51, rfl, rfl, i51⟩ := h
          show GG _ _ _ _ _ _ _ _ [.int z51, .int z46] _ _ _
          refine g_cmp_gt 57 58 (gd rfl) rfl rfl (fun c54 => ?_) (fun c54 => ?_)
          · skip
            have i54 := r_lt2 1 64 c54 i51 i46 rfl
            refine g_iload 60 (gd rfl) rfl rfl ?_
            refine g_calls (As := [.int y34_6]) (r := []) 63 (gd rfl) rfl rfl rfl rfl rfl (Nat.le_of_ble_eq_true rfl) (Nat.zero_le _) (Nat.zero_le _) (k_264n (by first | exact dq1 hd rfl | exact dq0 hd rfl | exact dq2 hd rfl | exact dq3 hd rfl | omega) c36) (fun v u h => ?_)
            obtain ⟨z60, rfl, rfl, i60, hb60, hl60⟩ := h
            show GG _ _ _ _ _ _ _ _ [.int z60] _ _ _
            refine g_istore 65 (gd rfl) rfl (Nat.le_of_ble_eq_true rfl) ?_
            refine g_aload_n 66 (gd rfl) rfl rfl ?_
            refine g_aload_n 67 (gd rfl) rfl rfl ?_
            refine g_iload_n 68 (gd rfl) rfl rfl ?_
            refine g_iconst 1 69 (gd rfl) rfl rfl ?_
            refine g_iload 71 (gd rfl) rfl rfl ?_
            refine g_ishl 72 (gd rfl) rfl (fun z71 e71 => ?_)
            refine g_ior 73 (gd rfl) rfl (fun z72 e72 => ?_)
            refine g_iload 75 (gd rfl) rfl rfl ?_
            refine g_aload_n 76 (gd rfl) rfl rfl ?_
            refine g_iload 78 (gd rfl) rfl rfl ?_
            refine g_iaload 79 (gd rfl) rfl (n := 32) rfl (in_ix i60 rfl) (fun z78 e78 => ?_)
            refine g_iand 80 (gd rfl) rfl (fun z79 e79 => ?_)
            refine g_iload 82 (gd rfl) rfl rfl ?_
            refine g_iconst 1 83 (gd rfl) rfl rfl ?_
            refine g_iadd 84 (gd rfl) rfl (fun z83 e83 => ?_)
            have i83 := in_add 1 32 e83 j34_4 (in_c 1 rfl) rfl rfl
            have n84 : 32 - (z83).toInt < ((kk : Nat) : Int) := by (first | have a0 := in_u j34_4 | (have a0 := j34_4; unfold In at a0)); (first | have a1 := in_u j34_5 | (have a1 := j34_5; unfold In at a1)); (first | have a2 := in_u i60 | (have a2 := i60; unfold In at a2)); (first | have a3 := in_u i83 | (have a3 := i83; unfold In at a3)); have a4 := t_add e83 j34_4 (in_c 1 rfl) rfl; (first | have a5 := in_u ((in_c 1 rfl)) | (have a5 := (in_c 1 rfl); unfold In at a5)); (first | have a6 := in_u i54 | (have a6 := i54; unfold In at a6)); have a7 := t_add e46 j34_5 i43 rfl; (first | have a8 := in_u i43 | (have a8 := i43; unfold In at a8)); omega
            refine g_callv (X := _) (As := [.ref (A 9), .int z72, .int z79, .int z83]) (r := []) (b := A 60) (q := 60) 87 (gd rfl) rfl rfl rfl rfl rfl (ww_o rfl) (Nat.le_of_ble_eq_true rfl) (Nat.zero_le _) (Nat.zero_le _) (ih (by omega) hIc34 (in_w 0 32 i83 rfl) n84) (fun e u h => h) (fun v u h => ?_)
            obtain ⟨s84, hI84, hF84, rfl, rfl⟩ := h
            show GG _ _ _ _ _ _ _ _ [] _ _ _
            refine g_iload 89 (gd rfl) rfl rfl ?_
            refine g_iload 91 (gd rfl) rfl rfl ?_
            refine g_iconst 1 92 (gd rfl) rfl rfl ?_
            refine g_isub 93 (gd rfl) rfl (fun z92 e92 => ?_)
            refine g_iand 94 (gd rfl) rfl (fun z93 e93 => ?_)
            refine g_istore 96 (gd rfl) rfl (Nat.le_of_ble_eq_true rfl) ?_
            refine g_goto 34 (gd rfl) rfl ?_
            exact gg_w (by first | exact Nat.le_add_right _ _ | exact gw2 | exact gw3 | exact gwe rfl | exact gwf rfl | exact gwg rfl | exact gwh rfl | omega) (gg_f (gf_cons rfl (gf_cons rfl (gf_cons rfl (gf_cons rfl (gf_cons rfl (gf_cons rfl (gf_cons rfl gf_nil))))))) (ih34 s84 y34_5 z93 hI84 (fr_tr rfl hFc34 hF84) (in_w 0 31 j34_4 rfl) (in_w 0 32 j34_5 rfl) (mb e93 e92 c36 mm34)))
          · skip
            have i54 := r_le1 0 32 c54 i46 i51 rfl
            exact g_return (gd rfl) rfl (hP _ _ ⟨sc34, hIc34, hFc34, rfl, rfl⟩)
    refine g_enter2 (k := 42) (N := 3865470567301) (by first | exact dq1 hd rfl | exact dq0 hd rfl | exact dq2 hd rfl | exact dq3 hd rfl | omega) rfl (Nat.le_of_ble_eq_true rfl) ?_
    refine g_iload_n 1 (gd rfl) rfl rfl ?_
    refine g_calls (As := [.int x2]) (r := []) 4 (gd rfl) rfl rfl rfl rfl rfl (Nat.le_of_ble_eq_true rfl) (Nat.zero_le _) (Nat.zero_le _) (k_414b (by first | exact dq1 hd rfl | exact dq0 hd rfl | exact dq2 hd rfl | exact dq3 hd rfl | omega) hI ) (fun v u h => ?_)
    obtain ⟨z1, rfl, rfl, i1⟩ := h
    show GG _ _ _ _ _ _ _ _ [.int z1] _ _ _
    refine g_istore 6 (gd rfl) rfl (Nat.le_of_ble_eq_true rfl) ?_
    refine g_iload 8 (gd rfl) rfl rfl ?_
    refine g_aload_n 9 (gd rfl) rfl rfl ?_
    refine g_getI 12 (gd rfl) rfl rfl rfl (fun z9 e9 => ?_)
    refine g_calls (As := [.int z9]) (r := [.int z1]) 15 (gd rfl) rfl rfl rfl rfl rfl (Nat.le_of_ble_eq_true rfl) (Nat.zero_le _) (Nat.zero_le _) (k_414b (by first | exact dq1 hd rfl | exact dq0 hd rfl | exact dq2 hd rfl | exact dq3 hd rfl | omega) hI ) (fun v u h => ?_)
    obtain ⟨z12, rfl, rfl, i12⟩ := h
    show GG _ _ _ _ _ _ _ _ [.int z12, .int z1] _ _ _
    refine g_cmp_le 18 23 (gd rfl) rfl rfl (fun c15 => ?_) (fun c15 => ?_)
    · skip
      refine g_iload 25 (gd rfl) rfl rfl ?_
      refine g_bipush 32 27 (gd rfl) rfl rfl ?_
      refine g_cmp_lt 30 31 (gd rfl) rfl rfl (fun c27 => ?_) (fun c27 => ?_)
      · skip
        have i27 := r_lt1 0 31 c27 h4 (in_c 32 rfl) rfl
        refine g_iload_n 32 (gd rfl) rfl rfl ?_
        refine g_istore 34 (gd rfl) rfl (Nat.le_of_ble_eq_true rfl) ?_
        exact gg_w (by first | exact Nat.le_of_ble_eq_true rfl | omega) (gg_f (gf_cons rfl (gf_cons rfl (gf_cons rfl (gf_cons rfl (gf_cons rfl (gf_cons rfl (gf_cons rfl gf_nil))))))) (ct34 4294967296 s z1 x3 hI fr_rf (in_w 0 31 i27 rfl) (in_w 0 32 i1 rfl) (mb_in _)))
      · skip
        have i27 := r_le2 32 32 c27 (in_c 32 rfl) h4 rfl
        exact g_return (gd rfl) rfl (hP _ _ ⟨s, hI, fr_rf, rfl, rfl⟩)
    · skip
      have i15 := r_lt1 0 31 c15 i12 i1 rfl
      have i15a := r_lt2 1 32 c15 i12 i1 rfl
      refine g_aload_n 19 (gd rfl) rfl rfl ?_
      refine g_iload_n 20 (gd rfl) rfl rfl ?_
      refine g_putI 23 (gd rfl) rfl rfl rfl rfl ?_
      have hI20 := inv_sF (q := 60) (j := 1) hI rfl (in_w (-2147483648) 2147483647 (i_rng x2) rfl)
      refine g_iload 25 (gd rfl) rfl rfl ?_
      refine g_bipush 32 27 (gd rfl) rfl rfl ?_
      refine g_cmp_lt 30 31 (gd rfl) rfl rfl (fun c27 => ?_) (fun c27 => ?_)
      · skip
        have i27 := r_lt1 0 31 c27 h4 (in_c 32 rfl) rfl
        refine g_iload_n 32 (gd rfl) rfl rfl ?_
        refine g_istore 34 (gd rfl) rfl (Nat.le_of_ble_eq_true rfl) ?_
        exact gg_w (by first | exact Nat.le_of_ble_eq_true rfl | omega) (gg_f (gf_cons rfl (gf_cons rfl (gf_cons rfl (gf_cons rfl (gf_cons rfl (gf_cons rfl (gf_cons rfl gf_nil))))))) (ct34 4294967296 (sF s 60 1 x2) z1 x3 hI20 (fr_sF rfl fr_rf) (in_w 0 31 i27 rfl) (in_w 0 32 i15a rfl) (mb_in _)))
      · skip
        have i27 := r_le2 32 32 c27 (in_c 32 rfl) h4 rfl
        exact g_return (gd rfl) rfl (hP _ _ ⟨(sF s 60 1 x2), hI20, (fr_sF rfl fr_rf), rfl, rfl⟩)
theorem k_42_60_9 {Z : AmZ} {A : Nat → Nat} {s : GS} {ex : va_W} {d : Nat} {X : AmX} {x2 : Int32} {x3 : Int32} {x4 : Int32} (hd : 104 ≤ d) (hI : Inv s) (h4 : In x4 0 32) : GC Z d 42 [.ref (A 60), .ref (A 9), .int x2, .int x3, .int x4] (WW Z A s ++ ex) 0 0 (fun v u => ∃ t : GS, Inv t ∧ Fr fm_42_60_9 s t ∧ v = none ∧ u = WW Z A t ++ ex) X := k_42_60_9_r 33 (by omega) hI h4 (m_in 33 h4 rfl)

def fm_42_60_39 : FM := ([], [], [(60, 1)], [])
/-- GraphHouse$Colours.growClique -/
theorem k_42_60_39_r {Z : AmZ} {A : Nat → Nat} {ex : va_W} (kk : Nat) : ∀ {s : GS} {d : Nat} {X : AmX} {x2 : Int32} {x3 : Int32} {x4 : Int32}, 5 + kk * 3 ≤ d → Inv s → In x4 0 32 → 32 - (x4).toInt < (kk : Int) → GC Z d 42 [.ref (A 60), .ref (A 39), .int x2, .int x3, .int x4] (WW Z A s ++ ex) 0 0 (fun v u => ∃ t : GS, Inv t ∧ Fr fm_42_60_39 s t ∧ v = none ∧ u = WW Z A t ++ ex) X := by
  induction kk with
  | zero => intro s d X x2 x3 x4 hd hI h4 hm; exact m_no hm h4 rfl
  | succ kk ih =>
    intro s d X x2 x3 x4 hd hI h4 hm
    intro post xp hP hX
    have ct34 : ∀ (k34 : Nat) (sc34 : GS) (y34_5 : Int32) (y34_6 : Int32), Inv sc34 → Fr fm_42_60_39 s sc34 → (In x4 0 31) → (In y34_5 0 32) → ((y34_6.toBitVec.toNat : Nat) : Int) < (k34 : Int) → GG Z (d - 1) 42 post (gx xp) (1 + k34 * 900) 34 (fun j => xlook j [(0, .ref (A 60)), (1, .ref (A 39)), (2, .int x2), (3, .int x3), (4, .int x4), (5, .int y34_5), (6, .int y34_6)]) [] (WW Z A sc34 ++ ex) 0 0 := by
      intro k34
      induction k34 with
      | zero => intro sc34 y34_5 y34_6 hIc34 hFc34 j34_4 j34_5 mm34; exact absurd mm34 (Int.not_lt.mpr (Int.natCast_nonneg _))
      | succ k34 ih34 =>
        intro sc34 y34_5 y34_6 hIc34 hFc34 j34_4 j34_5 mm34
        refine gg_w (M := 1 + k34 * 900 + 900) gws ?_
        refine g_iload 36 (gd rfl) rfl rfl ?_
        refine g_if_eq 39 99 (gd rfl) rfl rfl (fun c36 => ?_) (fun c36 => ?_)
        · skip
          have i36 := z_eq 0 0 c36 (i_rng y34_6) rfl
          exact g_return (gd rfl) rfl (hP _ _ ⟨sc34, hIc34, hFc34, rfl, rfl⟩)
        · skip
          refine g_iload 41 (gd rfl) rfl rfl ?_
          refine g_iload 43 (gd rfl) rfl rfl ?_
          refine g_calls (As := [.int y34_6]) (r := [.int y34_5]) 46 (gd rfl) rfl rfl rfl rfl rfl (Nat.le_of_ble_eq_true rfl) (Nat.zero_le _) (Nat.zero_le _) (k_414b (by first | exact dq1 hd rfl | exact dq0 hd rfl | exact dq2 hd rfl | exact dq3 hd rfl | omega) hIc34 ) (fun v u h => ?_)
          obtain ⟨z43, rfl, rfl, i43⟩ := h
          show GG _ _ _ _ _ _ _ _ [.int z43, .int y34_5] _ _ _
          refine g_iadd 47 (gd rfl) rfl (fun z46 e46 => ?_)
          have i46 := in_add 0 64 e46 j34_5 i43 rfl rfl
          refine g_aload_n 48 (gd rfl) rfl rfl ?_
          refine g_getI 51 (gd rfl) rfl rfl rfl (fun z48 e48 => ?_)
          refine g_calls (As := [.int z48]) (r := [.int z46]) 54 (gd rfl) rfl rfl rfl rfl rfl (Nat.le_of_ble_eq_true rfl) (Nat.zero_le _) (Nat.zero_le _) (k_414b (by first | exact dq1 hd rfl | exact dq0 hd rfl | exact dq2 hd rfl | exact dq3 hd rfl | omega) hIc34 ) (fun v u h => ?_)
          obtain ⟨z51, rfl, rfl, i51⟩ := h
          show GG _ _ _ _ _ _ _ _ [.int z51, .int z46] _ _ _
          refine g_cmp_gt 57 58 (gd rfl) rfl rfl (fun c54 => ?_) (fun c54 => ?_)
          · skip
            have i54 := r_lt2 1 64 c54 i51 i46 rfl
            refine g_iload 60 (gd rfl) rfl rfl ?_
            refine g_calls (As := [.int y34_6]) (r := []) 63 (gd rfl) rfl rfl rfl rfl rfl (Nat.le_of_ble_eq_true rfl) (Nat.zero_le _) (Nat.zero_le _) (k_264n (by first | exact dq1 hd rfl | exact dq0 hd rfl | exact dq2 hd rfl | exact dq3 hd rfl | omega) c36) (fun v u h => ?_)
            obtain ⟨z60, rfl, rfl, i60, hb60, hl60⟩ := h
            show GG _ _ _ _ _ _ _ _ [.int z60] _ _ _
            refine g_istore 65 (gd rfl) rfl (Nat.le_of_ble_eq_true rfl) ?_
            refine g_aload_n 66 (gd rfl) rfl rfl ?_
            refine g_aload_n 67 (gd rfl) rfl rfl ?_
            refine g_iload_n 68 (gd rfl) rfl rfl ?_
            refine g_iconst 1 69 (gd rfl) rfl rfl ?_
            refine g_iload 71 (gd rfl) rfl rfl ?_
            refine g_ishl 72 (gd rfl) rfl (fun z71 e71 => ?_)
            refine g_ior 73 (gd rfl) rfl (fun z72 e72 => ?_)
            refine g_iload 75 (gd rfl) rfl rfl ?_
            refine g_aload_n 76 (gd rfl) rfl rfl ?_
            refine g_iload 78 (gd rfl) rfl rfl ?_
            refine g_iaload 79 (gd rfl) rfl (n := 32) rfl (in_ix i60 rfl) (fun z78 e78 => ?_)
            refine g_iand 80 (gd rfl) rfl (fun z79 e79 => ?_)
            refine g_iload 82 (gd rfl) rfl rfl ?_
            refine g_iconst 1 83 (gd rfl) rfl rfl ?_
            refine g_iadd 84 (gd rfl) rfl (fun z83 e83 => ?_)
            have i83 := in_add 1 32 e83 j34_4 (in_c 1 rfl) rfl rfl
            have n84 : 32 - (z83).toInt < ((kk : Nat) : Int) := by (first | have a0 := in_u j34_4 | (have a0 := j34_4; unfold In at a0)); (first | have a1 := in_u j34_5 | (have a1 := j34_5; unfold In at a1)); (first | have a2 := in_u i60 | (have a2 := i60; unfold In at a2)); (first | have a3 := in_u i83 | (have a3 := i83; unfold In at a3)); have a4 := t_add e83 j34_4 (in_c 1 rfl) rfl; (first | have a5 := in_u ((in_c 1 rfl)) | (have a5 := (in_c 1 rfl); unfold In at a5)); (first | have a6 := in_u i54 | (have a6 := i54; unfold In at a6)); have a7 := t_add e46 j34_5 i43 rfl; (first | have a8 := in_u i43 | (have a8 := i43; unfold In at a8)); omega
            refine g_callv (X := _) (As := [.ref (A 39), .int z72, .int z79, .int z83]) (r := []) (b := A 60) (q := 60) 87 (gd rfl) rfl rfl rfl rfl rfl (ww_o rfl) (Nat.le_of_ble_eq_true rfl) (Nat.zero_le _) (Nat.zero_le _) (ih (by omega) hIc34 (in_w 0 32 i83 rfl) n84) (fun e u h => h) (fun v u h => ?_)
            obtain ⟨s84, hI84, hF84, rfl, rfl⟩ := h
            show GG _ _ _ _ _ _ _ _ [] _ _ _
            refine g_iload 89 (gd rfl) rfl rfl ?_
            refine g_iload 91 (gd rfl) rfl rfl ?_
            refine g_iconst 1 92 (gd rfl) rfl rfl ?_
            refine g_isub 93 (gd rfl) rfl (fun z92 e92 => ?_)
            refine g_iand 94 (gd rfl) rfl (fun z93 e93 => ?_)
            refine g_istore 96 (gd rfl) rfl (Nat.le_of_ble_eq_true rfl) ?_
            refine g_goto 34 (gd rfl) rfl ?_
            exact gg_w (by first | exact Nat.le_add_right _ _ | exact gw2 | exact gw3 | exact gwe rfl | exact gwf rfl | exact gwg rfl | exact gwh rfl | omega) (gg_f (gf_cons rfl (gf_cons rfl (gf_cons rfl (gf_cons rfl (gf_cons rfl (gf_cons rfl (gf_cons rfl gf_nil))))))) (ih34 s84 y34_5 z93 hI84 (fr_tr rfl hFc34 hF84) (in_w 0 31 j34_4 rfl) (in_w 0 32 j34_5 rfl) (mb e93 e92 c36 mm34)))
          · skip
            have i54 := r_le1 0 32 c54 i46 i51 rfl
            exact g_return (gd rfl) rfl (hP _ _ ⟨sc34, hIc34, hFc34, rfl, rfl⟩)
    refine g_enter2 (k := 42) (N := 3865470567301) (by first | exact dq1 hd rfl | exact dq0 hd rfl | exact dq2 hd rfl | exact dq3 hd rfl | omega) rfl (Nat.le_of_ble_eq_true rfl) ?_
    refine g_iload_n 1 (gd rfl) rfl rfl ?_
    refine g_calls (As := [.int x2]) (r := []) 4 (gd rfl) rfl rfl rfl rfl rfl (Nat.le_of_ble_eq_true rfl) (Nat.zero_le _) (Nat.zero_le _) (k_414b (by first | exact dq1 hd rfl | exact dq0 hd rfl | exact dq2 hd rfl | exact dq3 hd rfl | omega) hI ) (fun v u h => ?_)
    obtain ⟨z1, rfl, rfl, i1⟩ := h
    show GG _ _ _ _ _ _ _ _ [.int z1] _ _ _
    refine g_istore 6 (gd rfl) rfl (Nat.le_of_ble_eq_true rfl) ?_
    refine g_iload 8 (gd rfl) rfl rfl ?_
    refine g_aload_n 9 (gd rfl) rfl rfl ?_
    refine g_getI 12 (gd rfl) rfl rfl rfl (fun z9 e9 => ?_)
    refine g_calls (As := [.int z9]) (r := [.int z1]) 15 (gd rfl) rfl rfl rfl rfl rfl (Nat.le_of_ble_eq_true rfl) (Nat.zero_le _) (Nat.zero_le _) (k_414b (by first | exact dq1 hd rfl | exact dq0 hd rfl | exact dq2 hd rfl | exact dq3 hd rfl | omega) hI ) (fun v u h => ?_)
    obtain ⟨z12, rfl, rfl, i12⟩ := h
    show GG _ _ _ _ _ _ _ _ [.int z12, .int z1] _ _ _
    refine g_cmp_le 18 23 (gd rfl) rfl rfl (fun c15 => ?_) (fun c15 => ?_)
    · skip
      refine g_iload 25 (gd rfl) rfl rfl ?_
      refine g_bipush 32 27 (gd rfl) rfl rfl ?_
      refine g_cmp_lt 30 31 (gd rfl) rfl rfl (fun c27 => ?_) (fun c27 => ?_)
      · skip
        have i27 := r_lt1 0 31 c27 h4 (in_c 32 rfl) rfl
        refine g_iload_n 32 (gd rfl) rfl rfl ?_
        refine g_istore 34 (gd rfl) rfl (Nat.le_of_ble_eq_true rfl) ?_
        exact gg_w (by first | exact Nat.le_of_ble_eq_true rfl | omega) (gg_f (gf_cons rfl (gf_cons rfl (gf_cons rfl (gf_cons rfl (gf_cons rfl (gf_cons rfl (gf_cons rfl gf_nil))))))) (ct34 4294967296 s z1 x3 hI fr_rf (in_w 0 31 i27 rfl) (in_w 0 32 i1 rfl) (mb_in _)))
      · skip
        have i27 := r_le2 32 32 c27 (in_c 32 rfl) h4 rfl
        exact g_return (gd rfl) rfl (hP _ _ ⟨s, hI, fr_rf, rfl, rfl⟩)
    · skip
      have i15 := r_lt1 0 31 c15 i12 i1 rfl
      have i15a := r_lt2 1 32 c15 i12 i1 rfl
      refine g_aload_n 19 (gd rfl) rfl rfl ?_
      refine g_iload_n 20 (gd rfl) rfl rfl ?_
      refine g_putI 23 (gd rfl) rfl rfl rfl rfl ?_
      have hI20 := inv_sF (q := 60) (j := 1) hI rfl (in_w (-2147483648) 2147483647 (i_rng x2) rfl)
      refine g_iload 25 (gd rfl) rfl rfl ?_
      refine g_bipush 32 27 (gd rfl) rfl rfl ?_
      refine g_cmp_lt 30 31 (gd rfl) rfl rfl (fun c27 => ?_) (fun c27 => ?_)
      · skip
        have i27 := r_lt1 0 31 c27 h4 (in_c 32 rfl) rfl
        refine g_iload_n 32 (gd rfl) rfl rfl ?_
        refine g_istore 34 (gd rfl) rfl (Nat.le_of_ble_eq_true rfl) ?_
        exact gg_w (by first | exact Nat.le_of_ble_eq_true rfl | omega) (gg_f (gf_cons rfl (gf_cons rfl (gf_cons rfl (gf_cons rfl (gf_cons rfl (gf_cons rfl (gf_cons rfl gf_nil))))))) (ct34 4294967296 (sF s 60 1 x2) z1 x3 hI20 (fr_sF rfl fr_rf) (in_w 0 31 i27 rfl) (in_w 0 32 i15a rfl) (mb_in _)))
      · skip
        have i27 := r_le2 32 32 c27 (in_c 32 rfl) h4 rfl
        exact g_return (gd rfl) rfl (hP _ _ ⟨(sF s 60 1 x2), hI20, (fr_sF rfl fr_rf), rfl, rfl⟩)
theorem k_42_60_39 {Z : AmZ} {A : Nat → Nat} {s : GS} {ex : va_W} {d : Nat} {X : AmX} {x2 : Int32} {x3 : Int32} {x4 : Int32} (hd : 104 ≤ d) (hI : Inv s) (h4 : In x4 0 32) : GC Z d 42 [.ref (A 60), .ref (A 39), .int x2, .int x3, .int x4] (WW Z A s ++ ex) 0 0 (fun v u => ∃ t : GS, Inv t ∧ Fr fm_42_60_39 s t ∧ v = none ∧ u = WW Z A t ++ ex) X := k_42_60_39_r 33 (by omega) hI h4 (m_in 33 h4 rfl)

/-- GraphHouse$Colours.classOf -/
theorem k_45_60 {Z : AmZ} {A : Nat → Nat} {s : GS} {ex : va_W} {d : Nat} {X : AmX} {x1 : Int32} (hd : 1 ≤ d) (hI : Inv s) (h1 : In x1 0 31) : GC Z d 45 [.ref (A 60), .int x1] (WW Z A s ++ ex) 0 0 (fun v u => ∃ z : Int32, v = some (.int z) ∧ u = WW Z A s ++ ex ∧ In z 0 31) X := by
  intro post xp hP hX
  have ct2 : ∀ (k2 : Nat) (y2_2 : Int32), (In y2_2 0 32) → 32 - (y2_2).toInt < (k2 : Int) → GG Z (d - 1) 45 post (gx xp) (1 + k2 * 900) 2 (fun j => xlook j [(0, .ref (A 60)), (1, .int x1), (2, .int y2_2)]) [] (WW Z A s ++ ex) 0 0 := by
    intro k2
    induction k2 with
    | zero => intro y2_2 j2_2 mm2; exact m_no mm2 j2_2 rfl
    | succ k2 ih2 =>
      intro y2_2 j2_2 mm2
      refine gg_w (M := 1 + k2 * 900 + 900) gws ?_
      refine g_iload_n 3 (gd rfl) rfl rfl ?_
      refine g_bipush 32 5 (gd rfl) rfl rfl ?_
      refine g_cmp_ge 8 29 (gd rfl) rfl rfl (fun c5 => ?_) (fun c5 => ?_)
      · skip
        have i5 := r_le2 32 32 c5 (in_c 32 rfl) j2_2 rfl
        refine g_iconst 0 30 (gd rfl) rfl rfl ?_
        exact g_ireturn (gd rfl) rfl rfl (hP _ _ ⟨(Int32.ofInt 0), rfl, rfl, in_w 0 31 (in_c 0 rfl) rfl⟩)
      · skip
        have i5 := r_lt1 0 31 c5 j2_2 (in_c 32 rfl) rfl
        refine g_aload_n 9 (gd rfl) rfl rfl ?_
        refine g_getA (q2 := 61) 12 (gd rfl) rfl rfl rfl rfl ?_
        refine g_iload_n 13 (gd rfl) rfl rfl ?_
        refine g_iaload 14 (gd rfl) rfl (n := 32) rfl (in_ix i5 rfl) (fun z13 e13 => ?_)
        refine g_iload_n 15 (gd rfl) rfl rfl ?_
        refine g_ishr 16 (gd rfl) rfl (fun z15 e15 => ?_)
        refine g_iconst 1 17 (gd rfl) rfl rfl ?_
        refine g_iand 18 (gd rfl) rfl (fun z17 e17 => ?_)
        have i17 := in_and2 e17 (in_c 1 rfl) rfl
        refine g_if_eq 21 23 (gd rfl) rfl rfl (fun c18 => ?_) (fun c18 => ?_)
        · skip
          have i18 := z_eq 0 0 c18 i17 rfl
          refine g_iinc 26 (gd rfl) rfl rfl (Nat.le_of_ble_eq_true rfl) (fun z23 e23 => ?_)
          have i23 := in_add 1 32 e23 i5 (in_c 1 rfl) rfl rfl
          refine g_goto 2 (gd rfl) rfl ?_
          exact gg_w (by first | exact Nat.le_add_right _ _ | exact gw2 | exact gw3 | exact gwe rfl | exact gwf rfl | exact gwg rfl | exact gwh rfl | omega) (gg_f (gf_cons rfl (gf_cons rfl (gf_cons rfl gf_nil))) (ih2  z23  (in_w 0 32 i23 rfl) (m_up mm2 (t_add e23 i5 (in_c 1 rfl) rfl) (in_w 1 1 (in_c 1 rfl) rfl))))
        · skip
          have i18 := z_ne 1 1 c18 i17 rfl
          refine g_iload_n 22 (gd rfl) rfl rfl ?_
          exact g_ireturn (gd rfl) rfl rfl (hP _ _ ⟨y2_2, rfl, rfl, in_w 0 31 i5 rfl⟩)
  refine g_enter2 (k := 45) (N := 30601) (by first | exact dq1 hd rfl | exact dq0 hd rfl | exact dq2 hd rfl | exact dq3 hd rfl | omega) rfl (Nat.le_of_ble_eq_true rfl) ?_
  refine g_iconst 0 1 (gd rfl) rfl rfl ?_
  refine g_istore_n 2 (gd rfl) rfl (Nat.le_of_ble_eq_true rfl) ?_
  exact gg_w (by first | exact Nat.le_of_ble_eq_true rfl | omega) (gg_f (gf_cons rfl (gf_cons rfl (gf_cons rfl gf_nil))) (ct2 33  (Int32.ofInt 0)  (in_w 0 32 (in_c 0 rfl) rfl) (m_in 33 (in_w 0 32 (in_c 0 rfl) rfl) rfl)))

/-- GraphHouse$Colours.besides -/
theorem k_48_9 {Z : AmZ} {A : Nat → Nat} {s : GS} {ex : va_W} {d : Nat} {X : AmX} {x1 : Int32} (hd : 4 ≤ d) (hI : Inv s)  : GC Z d 48 [.ref (A 9), .int x1] (WW Z A s ++ ex) 0 0 (fun v u => ∃ z : Int32, v = some (.int z) ∧ u = WW Z A s ++ ex ∧ In z (-2147483648) 2147483647) X := by
  intro post xp hP hX
  have ct4 : ∀ (k4 : Nat) (y4_2 : Int32) (y4_3 : Int32), ((y4_3.toBitVec.toNat : Nat) : Int) < (k4 : Int) → GG Z (d - 1) 48 post (gx xp) (1 + k4 * 900) 4 (fun j => xlook j [(0, .ref (A 9)), (1, .int x1), (2, .int y4_2), (3, .int y4_3)]) [] (WW Z A s ++ ex) 0 0 := by
    intro k4
    induction k4 with
    | zero => intro y4_2 y4_3  mm4; exact absurd mm4 (Int.not_lt.mpr (Int.natCast_nonneg _))
    | succ k4 ih4 =>
      intro y4_2 y4_3  mm4
      refine gg_w (M := 1 + k4 * 900 + 900) gws ?_
      refine g_iload_n 5 (gd rfl) rfl rfl ?_
      refine g_if_eq 8 26 (gd rfl) rfl rfl (fun c5 => ?_) (fun c5 => ?_)
      · skip
        have i5 := z_eq 0 0 c5 (i_rng y4_3) rfl
        refine g_iload_n 27 (gd rfl) rfl rfl ?_
        exact g_ireturn (gd rfl) rfl rfl (hP _ _ ⟨y4_2, rfl, rfl, in_w (-2147483648) 2147483647 (i_rng y4_2) rfl⟩)
      · skip
        refine g_iload_n 9 (gd rfl) rfl rfl ?_
        refine g_aload_n 10 (gd rfl) rfl rfl ?_
        refine g_iload_n 11 (gd rfl) rfl rfl ?_
        refine g_calls (As := [.int y4_3]) (r := [.ref (A 9), .int y4_2]) 14 (gd rfl) rfl rfl rfl rfl rfl (Nat.le_of_ble_eq_true rfl) (Nat.zero_le _) (Nat.zero_le _) (k_264n (by first | exact dq1 hd rfl | exact dq0 hd rfl | exact dq2 hd rfl | exact dq3 hd rfl | omega) c5) (fun v u h => ?_)
        obtain ⟨z11, rfl, rfl, i11, hb11, hl11⟩ := h
        show GG _ _ _ _ _ _ _ _ [.int z11, .ref (A 9), .int y4_2] _ _ _
        refine g_iaload 15 (gd rfl) rfl (n := 32) rfl (in_ix i11 rfl) (fun z14 e14 => ?_)
        refine g_ior 16 (gd rfl) rfl (fun z15 e15 => ?_)
        refine g_istore_n 17 (gd rfl) rfl (Nat.le_of_ble_eq_true rfl) ?_
        refine g_iload_n 18 (gd rfl) rfl rfl ?_
        refine g_iload_n 19 (gd rfl) rfl rfl ?_
        refine g_iconst 1 20 (gd rfl) rfl rfl ?_
        refine g_isub 21 (gd rfl) rfl (fun z20 e20 => ?_)
        refine g_iand 22 (gd rfl) rfl (fun z21 e21 => ?_)
        refine g_istore_n 23 (gd rfl) rfl (Nat.le_of_ble_eq_true rfl) ?_
        refine g_goto 4 (gd rfl) rfl ?_
        exact gg_w (by first | exact Nat.le_add_right _ _ | exact gw2 | exact gw3 | exact gwe rfl | exact gwf rfl | exact gwg rfl | exact gwh rfl | omega) (gg_f (gf_cons rfl (gf_cons rfl (gf_cons rfl (gf_cons rfl gf_nil)))) (ih4  z15 z21   (mb e21 e20 c5 mm4)))
  refine g_enter2 (k := 48) (N := 3865470567301) (by first | exact dq1 hd rfl | exact dq0 hd rfl | exact dq2 hd rfl | exact dq3 hd rfl | omega) rfl (Nat.le_of_ble_eq_true rfl) ?_
  refine g_iconst 0 1 (gd rfl) rfl rfl ?_
  refine g_istore_n 2 (gd rfl) rfl (Nat.le_of_ble_eq_true rfl) ?_
  refine g_iload_n 3 (gd rfl) rfl rfl ?_
  refine g_istore_n 4 (gd rfl) rfl (Nat.le_of_ble_eq_true rfl) ?_
  exact gg_w (by first | exact Nat.le_of_ble_eq_true rfl | omega) (gg_f (gf_cons rfl (gf_cons rfl (gf_cons rfl (gf_cons rfl gf_nil)))) (ct4 4294967296  (Int32.ofInt 0) x1   (mb_in _)))

/-- GraphHouse$Colours.besides -/
theorem k_48_39 {Z : AmZ} {A : Nat → Nat} {s : GS} {ex : va_W} {d : Nat} {X : AmX} {x1 : Int32} (hd : 4 ≤ d) (hI : Inv s)  : GC Z d 48 [.ref (A 39), .int x1] (WW Z A s ++ ex) 0 0 (fun v u => ∃ z : Int32, v = some (.int z) ∧ u = WW Z A s ++ ex ∧ In z (-2147483648) 2147483647) X := by
  intro post xp hP hX
  have ct4 : ∀ (k4 : Nat) (y4_2 : Int32) (y4_3 : Int32), ((y4_3.toBitVec.toNat : Nat) : Int) < (k4 : Int) → GG Z (d - 1) 48 post (gx xp) (1 + k4 * 900) 4 (fun j => xlook j [(0, .ref (A 39)), (1, .int x1), (2, .int y4_2), (3, .int y4_3)]) [] (WW Z A s ++ ex) 0 0 := by
    intro k4
    induction k4 with
    | zero => intro y4_2 y4_3  mm4; exact absurd mm4 (Int.not_lt.mpr (Int.natCast_nonneg _))
    | succ k4 ih4 =>
      intro y4_2 y4_3  mm4
      refine gg_w (M := 1 + k4 * 900 + 900) gws ?_
      refine g_iload_n 5 (gd rfl) rfl rfl ?_
      refine g_if_eq 8 26 (gd rfl) rfl rfl (fun c5 => ?_) (fun c5 => ?_)
      · skip
        have i5 := z_eq 0 0 c5 (i_rng y4_3) rfl
        refine g_iload_n 27 (gd rfl) rfl rfl ?_
        exact g_ireturn (gd rfl) rfl rfl (hP _ _ ⟨y4_2, rfl, rfl, in_w (-2147483648) 2147483647 (i_rng y4_2) rfl⟩)
      · skip
        refine g_iload_n 9 (gd rfl) rfl rfl ?_
        refine g_aload_n 10 (gd rfl) rfl rfl ?_
        refine g_iload_n 11 (gd rfl) rfl rfl ?_
        refine g_calls (As := [.int y4_3]) (r := [.ref (A 39), .int y4_2]) 14 (gd rfl) rfl rfl rfl rfl rfl (Nat.le_of_ble_eq_true rfl) (Nat.zero_le _) (Nat.zero_le _) (k_264n (by first | exact dq1 hd rfl | exact dq0 hd rfl | exact dq2 hd rfl | exact dq3 hd rfl | omega) c5) (fun v u h => ?_)
        obtain ⟨z11, rfl, rfl, i11, hb11, hl11⟩ := h
        show GG _ _ _ _ _ _ _ _ [.int z11, .ref (A 39), .int y4_2] _ _ _
        refine g_iaload 15 (gd rfl) rfl (n := 32) rfl (in_ix i11 rfl) (fun z14 e14 => ?_)
        refine g_ior 16 (gd rfl) rfl (fun z15 e15 => ?_)
        refine g_istore_n 17 (gd rfl) rfl (Nat.le_of_ble_eq_true rfl) ?_
        refine g_iload_n 18 (gd rfl) rfl rfl ?_
        refine g_iload_n 19 (gd rfl) rfl rfl ?_
        refine g_iconst 1 20 (gd rfl) rfl rfl ?_
        refine g_isub 21 (gd rfl) rfl (fun z20 e20 => ?_)
        refine g_iand 22 (gd rfl) rfl (fun z21 e21 => ?_)
        refine g_istore_n 23 (gd rfl) rfl (Nat.le_of_ble_eq_true rfl) ?_
        refine g_goto 4 (gd rfl) rfl ?_
        exact gg_w (by first | exact Nat.le_add_right _ _ | exact gw2 | exact gw3 | exact gwe rfl | exact gwf rfl | exact gwg rfl | exact gwh rfl | omega) (gg_f (gf_cons rfl (gf_cons rfl (gf_cons rfl (gf_cons rfl gf_nil)))) (ih4  z15 z21   (mb e21 e20 c5 mm4)))
  refine g_enter2 (k := 48) (N := 3865470567301) (by first | exact dq1 hd rfl | exact dq0 hd rfl | exact dq2 hd rfl | exact dq3 hd rfl | omega) rfl (Nat.le_of_ble_eq_true rfl) ?_
  refine g_iconst 0 1 (gd rfl) rfl rfl ?_
  refine g_istore_n 2 (gd rfl) rfl (Nat.le_of_ble_eq_true rfl) ?_
  refine g_iload_n 3 (gd rfl) rfl rfl ?_
  refine g_istore_n 4 (gd rfl) rfl (Nat.le_of_ble_eq_true rfl) ?_
  exact gg_w (by first | exact Nat.le_of_ble_eq_true rfl | omega) (gg_f (gf_cons rfl (gf_cons rfl (gf_cons rfl (gf_cons rfl gf_nil)))) (ct4 4294967296  (Int32.ofInt 0) x1   (mb_in _)))

def fm_50_60_9 : FM := ([61], [], [(60, 7)], [])
/-- GraphHouse$Colours.takeBack -/
theorem k_50_60_9 {Z : AmZ} {A : Nat → Nat} {s : GS} {ex : va_W} {d : Nat} {X : AmX} {x2 : Int32} (hd : 1 ≤ d) (hI : Inv s) (h2 : In x2 0 32) : GC Z d 50 [.ref (A 60), .ref (A 9), .int x2] (WW Z A s ++ ex) 0 0 (fun v u => ∃ t : GS, Inv t ∧ Fr fm_50_60_9 s t ∧ v = none ∧ u = WW Z A t ++ ex) X := by
  intro post xp hP hX
  obtain ⟨u_60_3, e_60_3⟩ : ∃ w, w = s.2.2.1 60 3 := ⟨_, rfl⟩
  have ro_60_3 := inv_F hI 0 32 rfl e_60_3
  have ct0 : ∀ (k0 : Nat) (sc0 : GS) (w0_60_7 : Int32), Inv sc0 → Fr fm_50_60_9 s sc0 → (w0_60_7 = sc0.2.2.1 60 7) → (w0_60_7).toInt < (k0 : Int) → GG Z (d - 1) 50 post (gx xp) (1 + k0 * 31501) 0 (fun j => xlook j [(0, .ref (A 60)), (1, .ref (A 9)), (2, .int x2)]) [] (WW Z A sc0 ++ ex) 0 0 := by
    intro k0
    induction k0 with
    | zero => intro sc0 w0_60_7 hIc0 hFc0 v0_60_7 mm0; exfalso; (first | have a0 := in_u h2 | (have a0 := h2; unfold In at a0)); (first | have a1 := in_u ro_60_3 | (have a1 := ro_60_3; unfold In at a1)); (first | have a2 := in_u ((inv_F hIc0 0 32 rfl v0_60_7)) | (have a2 := (inv_F hIc0 0 32 rfl v0_60_7); unfold In at a2)); omega
    | succ k0 ih0 =>
      intro sc0 w0_60_7 hIc0 hFc0 v0_60_7 mm0
      refine gg_w (M := 1 + k0 * 31501 + 31501) gws ?_
      have ct23 : ∀ (k23 : Nat) (sc23 : GS) (y23_3 : Int32) (y23_4 : Int32) (w23_60_7 : Int32), Inv sc23 → Fr fm_50_60_9 s sc23 → (In x2 0 31) → (In y23_3 0 31) → (In y23_4 0 31) → (w23_60_7 = sc23.2.2.1 60 7) → (1 ≤ (w23_60_7).toInt) → ((w23_60_7).toInt = w0_60_7.toInt) → 31 - (y23_4).toInt < (k23 : Int) → GG Z (d - 1) 50 post (gx xp) (1 + k0 * 31501 + 1 + k23 * 900) 23 (fun j => xlook j [(0, .ref (A 60)), (1, .ref (A 9)), (2, .int x2), (3, .int y23_3), (4, .int y23_4)]) [] (WW Z A sc23 ++ ex) 0 0 := by
        intro k23
        induction k23 with
        | zero => intro sc23 y23_3 y23_4 w23_60_7 hIc23 hFc23 j23_2 j23_3 j23_4 v23_60_7 n23_0 n23_1 mm23; exact m_no mm23 j23_4 rfl
        | succ k23 ih23 =>
          intro sc23 y23_3 y23_4 w23_60_7 hIc23 hFc23 j23_2 j23_3 j23_4 v23_60_7 n23_0 n23_1 mm23
          refine gg_w (M := 1 + k0 * 31501 + 1 + k23 * 900 + 900) gws ?_
          refine g_iload 25 (gd rfl) rfl rfl ?_
          refine g_aload_n 26 (gd rfl) rfl rfl ?_
          refine g_getI 29 (gd rfl) rfl rfl rfl (fun z26 e26 => ?_)
          have q26 : u_60_3 = z26 := (fr_F e_60_3 hFc23 rfl).trans e26.symm
          subst q26
          refine g_iconst 1 30 (gd rfl) rfl rfl ?_
          refine g_isub 31 (gd rfl) rfl (fun z30 e30 => ?_)
          have i30 := in_sub (-1) 31 e30 ro_60_3 (in_c 1 rfl) rfl rfl
          refine g_cmp_ge 34 54 (gd rfl) rfl rfl (fun c31 => ?_) (fun c31 => ?_)
          · skip
            refine g_aload_n 55 (gd rfl) rfl rfl ?_
            refine g_getA (q2 := 61) 58 (gd rfl) rfl rfl rfl rfl ?_
            refine g_iload 60 (gd rfl) rfl rfl ?_
            refine g_dup2 61 (gd rfl) rfl rfl rfl ?_
            refine g_iaload 62 (gd rfl) rfl (n := 32) rfl (in_ix j23_4 rfl) (fun z61 e61 => ?_)
            refine g_iconst 1 63 (gd rfl) rfl rfl ?_
            refine g_iload_n 64 (gd rfl) rfl rfl ?_
            refine g_ishl 65 (gd rfl) rfl (fun z64 e64 => ?_)
            refine g_ior 66 (gd rfl) rfl (fun z65 e65 => ?_)
            refine g_iastore 67 (gd rfl) rfl (n := 32) rfl (in_ix j23_4 rfl) ?_
            have hI66 := inv_sI (q := 61) (j := y23_4.toNatClampNeg) hIc23 rfl (in_w (-2147483648) 2147483647 (i_rng z65) rfl)
            refine g_aload_n 68 (gd rfl) rfl rfl ?_
            refine g_dup 69 (gd rfl) rfl rfl ?_
            refine g_getI 72 (gd rfl) rfl rfl rfl (fun z69 e69 => ?_)
            have q69 : w23_60_7 = z69 := (sI_F (v23_60_7)).trans e69.symm
            subst q69
            refine g_iconst 1 73 (gd rfl) rfl rfl ?_
            refine g_isub 74 (gd rfl) rfl (fun z73 e73 => ?_)
            have i73 := in_sub (-1) 31 e73 (inv_F hIc23 0 32 rfl v23_60_7) (in_c 1 rfl) rfl rfl
            have i74 : In z73 0 32 := by (first | have a0 := in_u j23_2 | (have a0 := j23_2; unfold In at a0)); (first | have a1 := in_u ro_60_3 | (have a1 := ro_60_3; unfold In at a1)); (first | have a2 := in_u ((inv_F hIc23 0 32 rfl v23_60_7)) | (have a2 := (inv_F hIc23 0 32 rfl v23_60_7); unfold In at a2)); (first | have a3 := in_u j23_4 | (have a3 := j23_4; unfold In at a3)); (first | have a4 := in_u j23_3 | (have a4 := j23_3; unfold In at a4)); (first | have a5 := in_u i73 | (have a5 := i73; unfold In at a5)); have a6 := t_sub e73 (inv_F hIc23 0 32 rfl v23_60_7) (in_c 1 rfl) rfl; (first | have a7 := in_u ((in_c 1 rfl)) | (have a7 := (in_c 1 rfl); unfold In at a7)); (first | have a8 := in_u i30 | (have a8 := i30; unfold In at a8)); have a9 := t_sub e30 ro_60_3 (in_c 1 rfl) rfl; exact ⟨by omega, by omega⟩
            refine g_putI 77 (gd rfl) rfl rfl rfl rfl ?_
            have hI74 := inv_sF (q := 60) (j := 7) hI66 rfl (in_w 0 32 i74 rfl)
            refine g_goto 0 (gd rfl) rfl ?_
            have v0 : z73 = (sF (sI sc23 61 y23_4.toNatClampNeg z65) 60 7 z73).2.2.1 60 7 := sF_get
            have m0 : (z73).toInt < ((k0 : Nat) : Int) := by (first | have a0 := in_u j23_2 | (have a0 := j23_2; unfold In at a0)); (first | have a1 := in_u ro_60_3 | (have a1 := ro_60_3; unfold In at a1)); (first | have a2 := in_u ((inv_F hIc23 0 32 rfl v23_60_7)) | (have a2 := (inv_F hIc23 0 32 rfl v23_60_7); unfold In at a2)); (first | have a3 := in_u j23_4 | (have a3 := j23_4; unfold In at a3)); (first | have a4 := in_u j23_3 | (have a4 := j23_3; unfold In at a4)); (first | have a5 := in_u i74 | (have a5 := i74; unfold In at a5)); have a6 := t_sub e73 (inv_F hIc23 0 32 rfl v23_60_7) (in_c 1 rfl) rfl; (first | have a7 := in_u ((in_c 1 rfl)) | (have a7 := (in_c 1 rfl); unfold In at a7)); (first | have a8 := in_u i30 | (have a8 := i30; unfold In at a8)); have a9 := t_sub e30 ro_60_3 (in_c 1 rfl) rfl; omega
            exact gg_w (by first | exact Nat.le_add_right _ _ | exact gw2 | exact gw3 | exact gwe rfl | exact gwf rfl | exact gwg rfl | exact gwh rfl | omega) (gg_f (gf_cons rfl (gf_cons rfl (gf_cons rfl gf_nil))) (ih0  (sF (sI sc23 61 y23_4.toNatClampNeg z65) 60 7 z73) z73 hI74 (fr_sF rfl (fr_sI rfl hFc23)) v0 m0))
          · skip
            have i31 := r_lt1 0 30 c31 j23_4 i30 rfl
            have i31a := r_lt2 1 31 c31 j23_4 i30 rfl
            refine g_aload_n 35 (gd rfl) rfl rfl ?_
            refine g_getA (q2 := 61) 38 (gd rfl) rfl rfl rfl rfl ?_
            refine g_iload 40 (gd rfl) rfl rfl ?_
            refine g_iaload 41 (gd rfl) rfl (n := 32) rfl (in_ix i31 rfl) (fun z40 e40 => ?_)
            refine g_aload_n 42 (gd rfl) rfl rfl ?_
            refine g_iload_n 43 (gd rfl) rfl rfl ?_
            refine g_iaload 44 (gd rfl) rfl (n := 32) rfl (in_ix j23_3 rfl) (fun z43 e43 => ?_)
            refine g_iand 45 (gd rfl) rfl (fun z44 e44 => ?_)
            refine g_if_eq 48 54 (gd rfl) rfl rfl (fun c45 => ?_) (fun c45 => ?_)
            · skip
              have i45 := z_eq 0 0 c45 (i_rng z44) rfl
              refine g_aload_n 55 (gd rfl) rfl rfl ?_
              refine g_getA (q2 := 61) 58 (gd rfl) rfl rfl rfl rfl ?_
              refine g_iload 60 (gd rfl) rfl rfl ?_
              refine g_dup2 61 (gd rfl) rfl rfl rfl ?_
              refine g_iaload 62 (gd rfl) rfl (n := 32) rfl (in_ix i31 rfl) (fun z61 e61 => ?_)
              have q61 : z40 = z61 := (e40).trans e61.symm
              subst q61
              refine g_iconst 1 63 (gd rfl) rfl rfl ?_
              refine g_iload_n 64 (gd rfl) rfl rfl ?_
              refine g_ishl 65 (gd rfl) rfl (fun z64 e64 => ?_)
              refine g_ior 66 (gd rfl) rfl (fun z65 e65 => ?_)
              refine g_iastore 67 (gd rfl) rfl (n := 32) rfl (in_ix i31 rfl) ?_
              have hI66 := inv_sI (q := 61) (j := y23_4.toNatClampNeg) hIc23 rfl (in_w (-2147483648) 2147483647 (i_rng z65) rfl)
              refine g_aload_n 68 (gd rfl) rfl rfl ?_
              refine g_dup 69 (gd rfl) rfl rfl ?_
              refine g_getI 72 (gd rfl) rfl rfl rfl (fun z69 e69 => ?_)
              have q69 : w23_60_7 = z69 := (sI_F (v23_60_7)).trans e69.symm
              subst q69
              refine g_iconst 1 73 (gd rfl) rfl rfl ?_
              refine g_isub 74 (gd rfl) rfl (fun z73 e73 => ?_)
              have i73 := in_sub (-1) 31 e73 (inv_F hIc23 0 32 rfl v23_60_7) (in_c 1 rfl) rfl rfl
              have i74 : In z73 0 32 := by (first | have a0 := in_u j23_2 | (have a0 := j23_2; unfold In at a0)); (first | have a1 := in_u ro_60_3 | (have a1 := ro_60_3; unfold In at a1)); (first | have a2 := in_u ((inv_F hIc23 0 32 rfl v23_60_7)) | (have a2 := (inv_F hIc23 0 32 rfl v23_60_7); unfold In at a2)); (first | have a3 := in_u i31 | (have a3 := i31; unfold In at a3)); (first | have a4 := in_u j23_3 | (have a4 := j23_3; unfold In at a4)); (first | have a5 := in_u i73 | (have a5 := i73; unfold In at a5)); have a6 := t_sub e73 (inv_F hIc23 0 32 rfl v23_60_7) (in_c 1 rfl) rfl; (first | have a7 := in_u ((in_c 1 rfl)) | (have a7 := (in_c 1 rfl); unfold In at a7)); (first | have a8 := in_u i31a | (have a8 := i31a; unfold In at a8)); have a9 := t_sub e30 ro_60_3 (in_c 1 rfl) rfl; exact ⟨by omega, by omega⟩
              refine g_putI 77 (gd rfl) rfl rfl rfl rfl ?_
              have hI74 := inv_sF (q := 60) (j := 7) hI66 rfl (in_w 0 32 i74 rfl)
              refine g_goto 0 (gd rfl) rfl ?_
              have v0 : z73 = (sF (sI sc23 61 y23_4.toNatClampNeg z65) 60 7 z73).2.2.1 60 7 := sF_get
              have m0 : (z73).toInt < ((k0 : Nat) : Int) := by (first | have a0 := in_u j23_2 | (have a0 := j23_2; unfold In at a0)); (first | have a1 := in_u ro_60_3 | (have a1 := ro_60_3; unfold In at a1)); (first | have a2 := in_u ((inv_F hIc23 0 32 rfl v23_60_7)) | (have a2 := (inv_F hIc23 0 32 rfl v23_60_7); unfold In at a2)); (first | have a3 := in_u i31 | (have a3 := i31; unfold In at a3)); (first | have a4 := in_u j23_3 | (have a4 := j23_3; unfold In at a4)); (first | have a5 := in_u i74 | (have a5 := i74; unfold In at a5)); have a6 := t_sub e73 (inv_F hIc23 0 32 rfl v23_60_7) (in_c 1 rfl) rfl; (first | have a7 := in_u ((in_c 1 rfl)) | (have a7 := (in_c 1 rfl); unfold In at a7)); (first | have a8 := in_u i31a | (have a8 := i31a; unfold In at a8)); have a9 := t_sub e30 ro_60_3 (in_c 1 rfl) rfl; omega
              exact gg_w (by first | exact Nat.le_add_right _ _ | exact gw2 | exact gw3 | exact gwe rfl | exact gwf rfl | exact gwg rfl | exact gwh rfl | omega) (gg_f (gf_cons rfl (gf_cons rfl (gf_cons rfl gf_nil))) (ih0  (sF (sI sc23 61 y23_4.toNatClampNeg z65) 60 7 z73) z73 hI74 (fr_sF rfl (fr_sI rfl hFc23)) v0 m0))
            · skip
              refine g_iinc 51 (gd rfl) rfl rfl (Nat.le_of_ble_eq_true rfl) (fun z48 e48 => ?_)
              have i48 := in_add 1 31 e48 i31 (in_c 1 rfl) rfl rfl
              refine g_goto 23 (gd rfl) rfl ?_
              have n23 : 1 ≤ (w23_60_7).toInt := by first | exact n23_0 | ((first | have a0 := in_u j23_2 | (have a0 := j23_2; unfold In at a0)); (first | have a1 := in_u ro_60_3 | (have a1 := ro_60_3; unfold In at a1)); (first | have a2 := in_u ((inv_F hIc23 0 32 rfl v23_60_7)) | (have a2 := (inv_F hIc23 0 32 rfl v23_60_7); unfold In at a2)); (first | have a3 := in_u i31 | (have a3 := i31; unfold In at a3)); (first | have a4 := in_u j23_3 | (have a4 := j23_3; unfold In at a4)); (first | have a5 := in_u i48 | (have a5 := i48; unfold In at a5)); have a6 := t_add e48 i31 (in_c 1 rfl) rfl; (first | have a7 := in_u ((in_c 1 rfl)) | (have a7 := (in_c 1 rfl); unfold In at a7)); (first | have a8 := in_u i31a | (have a8 := i31a; unfold In at a8)); have a9 := t_sub e30 ro_60_3 (in_c 1 rfl) rfl; omega)
              have n23a : (w23_60_7).toInt = w0_60_7.toInt := by first | exact n23_1 | ((first | have a0 := in_u j23_2 | (have a0 := j23_2; unfold In at a0)); (first | have a1 := in_u ro_60_3 | (have a1 := ro_60_3; unfold In at a1)); (first | have a2 := in_u ((inv_F hIc23 0 32 rfl v23_60_7)) | (have a2 := (inv_F hIc23 0 32 rfl v23_60_7); unfold In at a2)); (first | have a3 := in_u i31 | (have a3 := i31; unfold In at a3)); (first | have a4 := in_u j23_3 | (have a4 := j23_3; unfold In at a4)); (first | have a5 := in_u i48 | (have a5 := i48; unfold In at a5)); have a6 := t_add e48 i31 (in_c 1 rfl) rfl; (first | have a7 := in_u ((in_c 1 rfl)) | (have a7 := (in_c 1 rfl); unfold In at a7)); (first | have a8 := in_u i31a | (have a8 := i31a; unfold In at a8)); have a9 := t_sub e30 ro_60_3 (in_c 1 rfl) rfl; omega)
              exact gg_w (by first | exact Nat.le_add_right _ _ | exact gw2 | exact gw3 | exact gwe rfl | exact gwf rfl | exact gwg rfl | exact gwh rfl | omega) (gg_f (gf_cons rfl (gf_cons rfl (gf_cons rfl (gf_cons rfl (gf_cons rfl gf_nil))))) (ih23 sc23 y23_3 z48 w23_60_7 hIc23 hFc23 (in_w 0 31 j23_2 rfl) (in_w 0 31 j23_3 rfl) (in_w 0 31 i48 rfl) v23_60_7 n23 n23a (m_up mm23 (t_add e48 i31 (in_c 1 rfl) rfl) (in_w 1 1 (in_c 1 rfl) rfl))))
      refine g_aload_n 1 (gd rfl) rfl rfl ?_
      refine g_getI 4 (gd rfl) rfl rfl rfl (fun z1 e1 => ?_)
      have q1 : w0_60_7 = z1 := (v0_60_7).trans e1.symm
      subst q1
      refine g_iload_n 5 (gd rfl) rfl rfl ?_
      refine g_cmp_le 8 80 (gd rfl) rfl rfl (fun c5 => ?_) (fun c5 => ?_)
      · skip
        exact g_return (gd rfl) rfl (hP _ _ ⟨sc0, hIc0, hFc0, rfl, rfl⟩)
      · skip
        have i5 := r_lt1 0 31 c5 h2 (inv_F hIc0 0 32 rfl v0_60_7) rfl
        have i5a := r_lt2 1 32 c5 h2 (inv_F hIc0 0 32 rfl v0_60_7) rfl
        refine g_aload_n 9 (gd rfl) rfl rfl ?_
        refine g_getA (q2 := 63) 12 (gd rfl) rfl rfl rfl rfl ?_
        refine g_aload_n 13 (gd rfl) rfl rfl ?_
        refine g_getI 16 (gd rfl) rfl rfl rfl (fun z13 e13 => ?_)
        have q13 : w0_60_7 = z13 := (v0_60_7).trans e13.symm
        subst q13
        refine g_iconst 1 17 (gd rfl) rfl rfl ?_
        refine g_isub 18 (gd rfl) rfl (fun z17 e17 => ?_)
        have i17 := in_sub 0 31 e17 i5a (in_c 1 rfl) rfl rfl
        refine g_iaload 19 (gd rfl) rfl (n := 32) rfl (in_ix i17 rfl) (fun z18 e18 => ?_)
        have i18 := inv_I hIc0 (n := 32) (t := 0) 0 31 rfl (in_ix i17 rfl) rfl e18
        refine g_istore_n 20 (gd rfl) rfl (Nat.le_of_ble_eq_true rfl) ?_
        refine g_iconst 0 21 (gd rfl) rfl rfl ?_
        refine g_istore 23 (gd rfl) rfl (Nat.le_of_ble_eq_true rfl) ?_
        have n23 : 1 ≤ (w0_60_7).toInt := by (first | have a0 := in_u i5 | (have a0 := i5; unfold In at a0)); (first | have a1 := in_u ro_60_3 | (have a1 := ro_60_3; unfold In at a1)); (first | have a2 := in_u i5a | (have a2 := i5a; unfold In at a2)); (first | have a3 := in_u ((in_c 0 rfl)) | (have a3 := (in_c 0 rfl); unfold In at a3)); (first | have a4 := in_u i18 | (have a4 := i18; unfold In at a4)); (first | have a5 := in_u i17 | (have a5 := i17; unfold In at a5)); have a6 := t_sub e17 i5a (in_c 1 rfl) rfl; (first | have a7 := in_u ((in_c 1 rfl)) | (have a7 := (in_c 1 rfl); unfold In at a7)); omega
        have n23a : (w0_60_7).toInt = w0_60_7.toInt := by (first | have a0 := in_u i5 | (have a0 := i5; unfold In at a0)); (first | have a1 := in_u ro_60_3 | (have a1 := ro_60_3; unfold In at a1)); (first | have a2 := in_u i5a | (have a2 := i5a; unfold In at a2)); (first | have a3 := in_u ((in_c 0 rfl)) | (have a3 := (in_c 0 rfl); unfold In at a3)); (first | have a4 := in_u i18 | (have a4 := i18; unfold In at a4)); (first | have a5 := in_u i17 | (have a5 := i17; unfold In at a5)); have a6 := t_sub e17 i5a (in_c 1 rfl) rfl; (first | have a7 := in_u ((in_c 1 rfl)) | (have a7 := (in_c 1 rfl); unfold In at a7)); omega
        exact gg_w (by first | exact Nat.le_add_right _ _ | exact gw2 | exact gw3 | exact gwe rfl | exact gwf rfl | exact gwg rfl | exact gwh rfl | omega) (gg_f (gf_cons rfl (gf_cons rfl (gf_cons rfl (gf_cons rfl (gf_cons rfl gf_nil))))) (ct23 32 sc0 z18 (Int32.ofInt 0) w0_60_7 hIc0 hFc0 (in_w 0 31 i5 rfl) (in_w 0 31 i18 rfl) (in_w 0 31 (in_c 0 rfl) rfl) v0_60_7 n23 n23a (m_in 32 (in_w 0 31 (in_c 0 rfl) rfl) rfl)))
  refine g_enter2 (k := 50) (N := 1260941) (by first | exact dq1 hd rfl | exact dq0 hd rfl | exact dq2 hd rfl | exact dq3 hd rfl | omega) rfl (Nat.le_of_ble_eq_true rfl) ?_
  have m0 : ((s.2.2.1 60 7)).toInt < ((40 : Nat) : Int) := by (first | have a0 := in_u ro_60_3 | (have a0 := ro_60_3; unfold In at a0)); (first | have a1 := in_u h2 | (have a1 := h2; unfold In at a1)); (first | have a2 := in_u ((show In (s.2.2.1 60 7) 0 32 from inv_F hI 0 32 rfl rfl)) | (have a2 := (show In (s.2.2.1 60 7) 0 32 from inv_F hI 0 32 rfl rfl); unfold In at a2)); omega
  exact gg_w (by first | exact Nat.le_of_ble_eq_true rfl | omega) (gg_f (gf_cons rfl (gf_cons rfl (gf_cons rfl gf_nil))) (ct0 40 s _ hI fr_rf rfl m0))

def fm_50_60_39 : FM := ([61], [], [(60, 7)], [])
/-- GraphHouse$Colours.takeBack -/
theorem k_50_60_39 {Z : AmZ} {A : Nat → Nat} {s : GS} {ex : va_W} {d : Nat} {X : AmX} {x2 : Int32} (hd : 1 ≤ d) (hI : Inv s) (h2 : In x2 0 32) : GC Z d 50 [.ref (A 60), .ref (A 39), .int x2] (WW Z A s ++ ex) 0 0 (fun v u => ∃ t : GS, Inv t ∧ Fr fm_50_60_39 s t ∧ v = none ∧ u = WW Z A t ++ ex) X := by
  intro post xp hP hX
  obtain ⟨u_60_3, e_60_3⟩ : ∃ w, w = s.2.2.1 60 3 := ⟨_, rfl⟩
  have ro_60_3 := inv_F hI 0 32 rfl e_60_3
  have ct0 : ∀ (k0 : Nat) (sc0 : GS) (w0_60_7 : Int32), Inv sc0 → Fr fm_50_60_39 s sc0 → (w0_60_7 = sc0.2.2.1 60 7) → (w0_60_7).toInt < (k0 : Int) → GG Z (d - 1) 50 post (gx xp) (1 + k0 * 31501) 0 (fun j => xlook j [(0, .ref (A 60)), (1, .ref (A 39)), (2, .int x2)]) [] (WW Z A sc0 ++ ex) 0 0 := by
    intro k0
    induction k0 with
    | zero => intro sc0 w0_60_7 hIc0 hFc0 v0_60_7 mm0; exfalso; (first | have a0 := in_u h2 | (have a0 := h2; unfold In at a0)); (first | have a1 := in_u ro_60_3 | (have a1 := ro_60_3; unfold In at a1)); (first | have a2 := in_u ((inv_F hIc0 0 32 rfl v0_60_7)) | (have a2 := (inv_F hIc0 0 32 rfl v0_60_7); unfold In at a2)); omega
    | succ k0 ih0 =>
      intro sc0 w0_60_7 hIc0 hFc0 v0_60_7 mm0
      refine gg_w (M := 1 + k0 * 31501 + 31501) gws ?_
      have ct23 : ∀ (k23 : Nat) (sc23 : GS) (y23_3 : Int32) (y23_4 : Int32) (w23_60_7 : Int32), Inv sc23 → Fr fm_50_60_39 s sc23 → (In x2 0 31) → (In y23_3 0 31) → (In y23_4 0 31) → (w23_60_7 = sc23.2.2.1 60 7) → (1 ≤ (w23_60_7).toInt) → ((w23_60_7).toInt = w0_60_7.toInt) → 31 - (y23_4).toInt < (k23 : Int) → GG Z (d - 1) 50 post (gx xp) (1 + k0 * 31501 + 1 + k23 * 900) 23 (fun j => xlook j [(0, .ref (A 60)), (1, .ref (A 39)), (2, .int x2), (3, .int y23_3), (4, .int y23_4)]) [] (WW Z A sc23 ++ ex) 0 0 := by
        intro k23
        induction k23 with
        | zero => intro sc23 y23_3 y23_4 w23_60_7 hIc23 hFc23 j23_2 j23_3 j23_4 v23_60_7 n23_0 n23_1 mm23; exact m_no mm23 j23_4 rfl
        | succ k23 ih23 =>
          intro sc23 y23_3 y23_4 w23_60_7 hIc23 hFc23 j23_2 j23_3 j23_4 v23_60_7 n23_0 n23_1 mm23
          refine gg_w (M := 1 + k0 * 31501 + 1 + k23 * 900 + 900) gws ?_
          refine g_iload 25 (gd rfl) rfl rfl ?_
          refine g_aload_n 26 (gd rfl) rfl rfl ?_
          refine g_getI 29 (gd rfl) rfl rfl rfl (fun z26 e26 => ?_)
          have q26 : u_60_3 = z26 := (fr_F e_60_3 hFc23 rfl).trans e26.symm
          subst q26
          refine g_iconst 1 30 (gd rfl) rfl rfl ?_
          refine g_isub 31 (gd rfl) rfl (fun z30 e30 => ?_)
          have i30 := in_sub (-1) 31 e30 ro_60_3 (in_c 1 rfl) rfl rfl
          refine g_cmp_ge 34 54 (gd rfl) rfl rfl (fun c31 => ?_) (fun c31 => ?_)
          · skip
            refine g_aload_n 55 (gd rfl) rfl rfl ?_
            refine g_getA (q2 := 61) 58 (gd rfl) rfl rfl rfl rfl ?_
            refine g_iload 60 (gd rfl) rfl rfl ?_
            refine g_dup2 61 (gd rfl) rfl rfl rfl ?_
            refine g_iaload 62 (gd rfl) rfl (n := 32) rfl (in_ix j23_4 rfl) (fun z61 e61 => ?_)
            refine g_iconst 1 63 (gd rfl) rfl rfl ?_
            refine g_iload_n 64 (gd rfl) rfl rfl ?_
            refine g_ishl 65 (gd rfl) rfl (fun z64 e64 => ?_)
            refine g_ior 66 (gd rfl) rfl (fun z65 e65 => ?_)
            refine g_iastore 67 (gd rfl) rfl (n := 32) rfl (in_ix j23_4 rfl) ?_
            have hI66 := inv_sI (q := 61) (j := y23_4.toNatClampNeg) hIc23 rfl (in_w (-2147483648) 2147483647 (i_rng z65) rfl)
            refine g_aload_n 68 (gd rfl) rfl rfl ?_
            refine g_dup 69 (gd rfl) rfl rfl ?_
            refine g_getI 72 (gd rfl) rfl rfl rfl (fun z69 e69 => ?_)
            have q69 : w23_60_7 = z69 := (sI_F (v23_60_7)).trans e69.symm
            subst q69
            refine g_iconst 1 73 (gd rfl) rfl rfl ?_
            refine g_isub 74 (gd rfl) rfl (fun z73 e73 => ?_)
            have i73 := in_sub (-1) 31 e73 (inv_F hIc23 0 32 rfl v23_60_7) (in_c 1 rfl) rfl rfl
            have i74 : In z73 0 32 := by (first | have a0 := in_u j23_2 | (have a0 := j23_2; unfold In at a0)); (first | have a1 := in_u ro_60_3 | (have a1 := ro_60_3; unfold In at a1)); (first | have a2 := in_u ((inv_F hIc23 0 32 rfl v23_60_7)) | (have a2 := (inv_F hIc23 0 32 rfl v23_60_7); unfold In at a2)); (first | have a3 := in_u j23_4 | (have a3 := j23_4; unfold In at a3)); (first | have a4 := in_u j23_3 | (have a4 := j23_3; unfold In at a4)); (first | have a5 := in_u i73 | (have a5 := i73; unfold In at a5)); have a6 := t_sub e73 (inv_F hIc23 0 32 rfl v23_60_7) (in_c 1 rfl) rfl; (first | have a7 := in_u ((in_c 1 rfl)) | (have a7 := (in_c 1 rfl); unfold In at a7)); (first | have a8 := in_u i30 | (have a8 := i30; unfold In at a8)); have a9 := t_sub e30 ro_60_3 (in_c 1 rfl) rfl; exact ⟨by omega, by omega⟩
            refine g_putI 77 (gd rfl) rfl rfl rfl rfl ?_
            have hI74 := inv_sF (q := 60) (j := 7) hI66 rfl (in_w 0 32 i74 rfl)
            refine g_goto 0 (gd rfl) rfl ?_
            have v0 : z73 = (sF (sI sc23 61 y23_4.toNatClampNeg z65) 60 7 z73).2.2.1 60 7 := sF_get
            have m0 : (z73).toInt < ((k0 : Nat) : Int) := by (first | have a0 := in_u j23_2 | (have a0 := j23_2; unfold In at a0)); (first | have a1 := in_u ro_60_3 | (have a1 := ro_60_3; unfold In at a1)); (first | have a2 := in_u ((inv_F hIc23 0 32 rfl v23_60_7)) | (have a2 := (inv_F hIc23 0 32 rfl v23_60_7); unfold In at a2)); (first | have a3 := in_u j23_4 | (have a3 := j23_4; unfold In at a3)); (first | have a4 := in_u j23_3 | (have a4 := j23_3; unfold In at a4)); (first | have a5 := in_u i74 | (have a5 := i74; unfold In at a5)); have a6 := t_sub e73 (inv_F hIc23 0 32 rfl v23_60_7) (in_c 1 rfl) rfl; (first | have a7 := in_u ((in_c 1 rfl)) | (have a7 := (in_c 1 rfl); unfold In at a7)); (first | have a8 := in_u i30 | (have a8 := i30; unfold In at a8)); have a9 := t_sub e30 ro_60_3 (in_c 1 rfl) rfl; omega
            exact gg_w (by first | exact Nat.le_add_right _ _ | exact gw2 | exact gw3 | exact gwe rfl | exact gwf rfl | exact gwg rfl | exact gwh rfl | omega) (gg_f (gf_cons rfl (gf_cons rfl (gf_cons rfl gf_nil))) (ih0  (sF (sI sc23 61 y23_4.toNatClampNeg z65) 60 7 z73) z73 hI74 (fr_sF rfl (fr_sI rfl hFc23)) v0 m0))
          · skip
            have i31 := r_lt1 0 30 c31 j23_4 i30 rfl
            have i31a := r_lt2 1 31 c31 j23_4 i30 rfl
            refine g_aload_n 35 (gd rfl) rfl rfl ?_
            refine g_getA (q2 := 61) 38 (gd rfl) rfl rfl rfl rfl ?_
            refine g_iload 40 (gd rfl) rfl rfl ?_
            refine g_iaload 41 (gd rfl) rfl (n := 32) rfl (in_ix i31 rfl) (fun z40 e40 => ?_)
            refine g_aload_n 42 (gd rfl) rfl rfl ?_
            refine g_iload_n 43 (gd rfl) rfl rfl ?_
            refine g_iaload 44 (gd rfl) rfl (n := 32) rfl (in_ix j23_3 rfl) (fun z43 e43 => ?_)
            refine g_iand 45 (gd rfl) rfl (fun z44 e44 => ?_)
            refine g_if_eq 48 54 (gd rfl) rfl rfl (fun c45 => ?_) (fun c45 => ?_)
            · skip
              have i45 := z_eq 0 0 c45 (i_rng z44) rfl
              refine g_aload_n 55 (gd rfl) rfl rfl ?_
              refine g_getA (q2 := 61) 58 (gd rfl) rfl rfl rfl rfl ?_
              refine g_iload 60 (gd rfl) rfl rfl ?_
              refine g_dup2 61 (gd rfl) rfl rfl rfl ?_
              refine g_iaload 62 (gd rfl) rfl (n := 32) rfl (in_ix i31 rfl) (fun z61 e61 => ?_)
              have q61 : z40 = z61 := (e40).trans e61.symm
              subst q61
              refine g_iconst 1 63 (gd rfl) rfl rfl ?_
              refine g_iload_n 64 (gd rfl) rfl rfl ?_
              refine g_ishl 65 (gd rfl) rfl (fun z64 e64 => ?_)
              refine g_ior 66 (gd rfl) rfl (fun z65 e65 => ?_)
              refine g_iastore 67 (gd rfl) rfl (n := 32) rfl (in_ix i31 rfl) ?_
              have hI66 := inv_sI (q := 61) (j := y23_4.toNatClampNeg) hIc23 rfl (in_w (-2147483648) 2147483647 (i_rng z65) rfl)
              refine g_aload_n 68 (gd rfl) rfl rfl ?_
              refine g_dup 69 (gd rfl) rfl rfl ?_
              refine g_getI 72 (gd rfl) rfl rfl rfl (fun z69 e69 => ?_)
              have q69 : w23_60_7 = z69 := (sI_F (v23_60_7)).trans e69.symm
              subst q69
              refine g_iconst 1 73 (gd rfl) rfl rfl ?_
              refine g_isub 74 (gd rfl) rfl (fun z73 e73 => ?_)
              have i73 := in_sub (-1) 31 e73 (inv_F hIc23 0 32 rfl v23_60_7) (in_c 1 rfl) rfl rfl
              have i74 : In z73 0 32 := by (first | have a0 := in_u j23_2 | (have a0 := j23_2; unfold In at a0)); (first | have a1 := in_u ro_60_3 | (have a1 := ro_60_3; unfold In at a1)); (first | have a2 := in_u ((inv_F hIc23 0 32 rfl v23_60_7)) | (have a2 := (inv_F hIc23 0 32 rfl v23_60_7); unfold In at a2)); (first | have a3 := in_u i31 | (have a3 := i31; unfold In at a3)); (first | have a4 := in_u j23_3 | (have a4 := j23_3; unfold In at a4)); (first | have a5 := in_u i73 | (have a5 := i73; unfold In at a5)); have a6 := t_sub e73 (inv_F hIc23 0 32 rfl v23_60_7) (in_c 1 rfl) rfl; (first | have a7 := in_u ((in_c 1 rfl)) | (have a7 := (in_c 1 rfl); unfold In at a7)); (first | have a8 := in_u i31a | (have a8 := i31a; unfold In at a8)); have a9 := t_sub e30 ro_60_3 (in_c 1 rfl) rfl; exact ⟨by omega, by omega⟩
              refine g_putI 77 (gd rfl) rfl rfl rfl rfl ?_
              have hI74 := inv_sF (q := 60) (j := 7) hI66 rfl (in_w 0 32 i74 rfl)
              refine g_goto 0 (gd rfl) rfl ?_
              have v0 : z73 = (sF (sI sc23 61 y23_4.toNatClampNeg z65) 60 7 z73).2.2.1 60 7 := sF_get
              have m0 : (z73).toInt < ((k0 : Nat) : Int) := by (first | have a0 := in_u j23_2 | (have a0 := j23_2; unfold In at a0)); (first | have a1 := in_u ro_60_3 | (have a1 := ro_60_3; unfold In at a1)); (first | have a2 := in_u ((inv_F hIc23 0 32 rfl v23_60_7)) | (have a2 := (inv_F hIc23 0 32 rfl v23_60_7); unfold In at a2)); (first | have a3 := in_u i31 | (have a3 := i31; unfold In at a3)); (first | have a4 := in_u j23_3 | (have a4 := j23_3; unfold In at a4)); (first | have a5 := in_u i74 | (have a5 := i74; unfold In at a5)); have a6 := t_sub e73 (inv_F hIc23 0 32 rfl v23_60_7) (in_c 1 rfl) rfl; (first | have a7 := in_u ((in_c 1 rfl)) | (have a7 := (in_c 1 rfl); unfold In at a7)); (first | have a8 := in_u i31a | (have a8 := i31a; unfold In at a8)); have a9 := t_sub e30 ro_60_3 (in_c 1 rfl) rfl; omega
              exact gg_w (by first | exact Nat.le_add_right _ _ | exact gw2 | exact gw3 | exact gwe rfl | exact gwf rfl | exact gwg rfl | exact gwh rfl | omega) (gg_f (gf_cons rfl (gf_cons rfl (gf_cons rfl gf_nil))) (ih0  (sF (sI sc23 61 y23_4.toNatClampNeg z65) 60 7 z73) z73 hI74 (fr_sF rfl (fr_sI rfl hFc23)) v0 m0))
            · skip
              refine g_iinc 51 (gd rfl) rfl rfl (Nat.le_of_ble_eq_true rfl) (fun z48 e48 => ?_)
              have i48 := in_add 1 31 e48 i31 (in_c 1 rfl) rfl rfl
              refine g_goto 23 (gd rfl) rfl ?_
              have n23 : 1 ≤ (w23_60_7).toInt := by first | exact n23_0 | ((first | have a0 := in_u j23_2 | (have a0 := j23_2; unfold In at a0)); (first | have a1 := in_u ro_60_3 | (have a1 := ro_60_3; unfold In at a1)); (first | have a2 := in_u ((inv_F hIc23 0 32 rfl v23_60_7)) | (have a2 := (inv_F hIc23 0 32 rfl v23_60_7); unfold In at a2)); (first | have a3 := in_u i31 | (have a3 := i31; unfold In at a3)); (first | have a4 := in_u j23_3 | (have a4 := j23_3; unfold In at a4)); (first | have a5 := in_u i48 | (have a5 := i48; unfold In at a5)); have a6 := t_add e48 i31 (in_c 1 rfl) rfl; (first | have a7 := in_u ((in_c 1 rfl)) | (have a7 := (in_c 1 rfl); unfold In at a7)); (first | have a8 := in_u i31a | (have a8 := i31a; unfold In at a8)); have a9 := t_sub e30 ro_60_3 (in_c 1 rfl) rfl; omega)
              have n23a : (w23_60_7).toInt = w0_60_7.toInt := by first | exact n23_1 | ((first | have a0 := in_u j23_2 | (have a0 := j23_2; unfold In at a0)); (first | have a1 := in_u ro_60_3 | (have a1 := ro_60_3; unfold In at a1)); (first | have a2 := in_u ((inv_F hIc23 0 32 rfl v23_60_7)) | (have a2 := (inv_F hIc23 0 32 rfl v23_60_7); unfold In at a2)); (first | have a3 := in_u i31 | (have a3 := i31; unfold In at a3)); (first | have a4 := in_u j23_3 | (have a4 := j23_3; unfold In at a4)); (first | have a5 := in_u i48 | (have a5 := i48; unfold In at a5)); have a6 := t_add e48 i31 (in_c 1 rfl) rfl; (first | have a7 := in_u ((in_c 1 rfl)) | (have a7 := (in_c 1 rfl); unfold In at a7)); (first | have a8 := in_u i31a | (have a8 := i31a; unfold In at a8)); have a9 := t_sub e30 ro_60_3 (in_c 1 rfl) rfl; omega)
              exact gg_w (by first | exact Nat.le_add_right _ _ | exact gw2 | exact gw3 | exact gwe rfl | exact gwf rfl | exact gwg rfl | exact gwh rfl | omega) (gg_f (gf_cons rfl (gf_cons rfl (gf_cons rfl (gf_cons rfl (gf_cons rfl gf_nil))))) (ih23 sc23 y23_3 z48 w23_60_7 hIc23 hFc23 (in_w 0 31 j23_2 rfl) (in_w 0 31 j23_3 rfl) (in_w 0 31 i48 rfl) v23_60_7 n23 n23a (m_up mm23 (t_add e48 i31 (in_c 1 rfl) rfl) (in_w 1 1 (in_c 1 rfl) rfl))))
      refine g_aload_n 1 (gd rfl) rfl rfl ?_
      refine g_getI 4 (gd rfl) rfl rfl rfl (fun z1 e1 => ?_)
      have q1 : w0_60_7 = z1 := (v0_60_7).trans e1.symm
      subst q1
      refine g_iload_n 5 (gd rfl) rfl rfl ?_
      refine g_cmp_le 8 80 (gd rfl) rfl rfl (fun c5 => ?_) (fun c5 => ?_)
      · skip
        exact g_return (gd rfl) rfl (hP _ _ ⟨sc0, hIc0, hFc0, rfl, rfl⟩)
      · skip
        have i5 := r_lt1 0 31 c5 h2 (inv_F hIc0 0 32 rfl v0_60_7) rfl
        have i5a := r_lt2 1 32 c5 h2 (inv_F hIc0 0 32 rfl v0_60_7) rfl
        refine g_aload_n 9 (gd rfl) rfl rfl ?_
        refine g_getA (q2 := 63) 12 (gd rfl) rfl rfl rfl rfl ?_
        refine g_aload_n 13 (gd rfl) rfl rfl ?_
        refine g_getI 16 (gd rfl) rfl rfl rfl (fun z13 e13 => ?_)
        have q13 : w0_60_7 = z13 := (v0_60_7).trans e13.symm
        subst q13
        refine g_iconst 1 17 (gd rfl) rfl rfl ?_
        refine g_isub 18 (gd rfl) rfl (fun z17 e17 => ?_)
        have i17 := in_sub 0 31 e17 i5a (in_c 1 rfl) rfl rfl
        refine g_iaload 19 (gd rfl) rfl (n := 32) rfl (in_ix i17 rfl) (fun z18 e18 => ?_)
        have i18 := inv_I hIc0 (n := 32) (t := 0) 0 31 rfl (in_ix i17 rfl) rfl e18
        refine g_istore_n 20 (gd rfl) rfl (Nat.le_of_ble_eq_true rfl) ?_
        refine g_iconst 0 21 (gd rfl) rfl rfl ?_
        refine g_istore 23 (gd rfl) rfl (Nat.le_of_ble_eq_true rfl) ?_
        have n23 : 1 ≤ (w0_60_7).toInt := by (first | have a0 := in_u i5 | (have a0 := i5; unfold In at a0)); (first | have a1 := in_u ro_60_3 | (have a1 := ro_60_3; unfold In at a1)); (first | have a2 := in_u i5a | (have a2 := i5a; unfold In at a2)); (first | have a3 := in_u ((in_c 0 rfl)) | (have a3 := (in_c 0 rfl); unfold In at a3)); (first | have a4 := in_u i18 | (have a4 := i18; unfold In at a4)); (first | have a5 := in_u i17 | (have a5 := i17; unfold In at a5)); have a6 := t_sub e17 i5a (in_c 1 rfl) rfl; (first | have a7 := in_u ((in_c 1 rfl)) | (have a7 := (in_c 1 rfl); unfold In at a7)); omega
        have n23a : (w0_60_7).toInt = w0_60_7.toInt := by (first | have a0 := in_u i5 | (have a0 := i5; unfold In at a0)); (first | have a1 := in_u ro_60_3 | (have a1 := ro_60_3; unfold In at a1)); (first | have a2 := in_u i5a | (have a2 := i5a; unfold In at a2)); (first | have a3 := in_u ((in_c 0 rfl)) | (have a3 := (in_c 0 rfl); unfold In at a3)); (first | have a4 := in_u i18 | (have a4 := i18; unfold In at a4)); (first | have a5 := in_u i17 | (have a5 := i17; unfold In at a5)); have a6 := t_sub e17 i5a (in_c 1 rfl) rfl; (first | have a7 := in_u ((in_c 1 rfl)) | (have a7 := (in_c 1 rfl); unfold In at a7)); omega
        exact gg_w (by first | exact Nat.le_add_right _ _ | exact gw2 | exact gw3 | exact gwe rfl | exact gwf rfl | exact gwg rfl | exact gwh rfl | omega) (gg_f (gf_cons rfl (gf_cons rfl (gf_cons rfl (gf_cons rfl (gf_cons rfl gf_nil))))) (ct23 32 sc0 z18 (Int32.ofInt 0) w0_60_7 hIc0 hFc0 (in_w 0 31 i5 rfl) (in_w 0 31 i18 rfl) (in_w 0 31 (in_c 0 rfl) rfl) v0_60_7 n23 n23a (m_in 32 (in_w 0 31 (in_c 0 rfl) rfl) rfl)))
  refine g_enter2 (k := 50) (N := 1260941) (by first | exact dq1 hd rfl | exact dq0 hd rfl | exact dq2 hd rfl | exact dq3 hd rfl | omega) rfl (Nat.le_of_ble_eq_true rfl) ?_
  have m0 : ((s.2.2.1 60 7)).toInt < ((40 : Nat) : Int) := by (first | have a0 := in_u ro_60_3 | (have a0 := ro_60_3; unfold In at a0)); (first | have a1 := in_u h2 | (have a1 := h2; unfold In at a1)); (first | have a2 := in_u ((show In (s.2.2.1 60 7) 0 32 from inv_F hI 0 32 rfl rfl)) | (have a2 := (show In (s.2.2.1 60 7) 0 32 from inv_F hI 0 32 rfl rfl); unfold In at a2)); omega
  exact gg_w (by first | exact Nat.le_of_ble_eq_true rfl | omega) (gg_f (gf_cons rfl (gf_cons rfl (gf_cons rfl gf_nil))) (ct0 40 s _ hI fr_rf rfl m0))

/-- GraphHouse$Colours.freeColours -/
theorem k_51_60 {Z : AmZ} {A : Nat → Nat} {s : GS} {ex : va_W} {d : Nat} {X : AmX} {x1 : Int32} (hd : 1 ≤ d) (hI : Inv s)  : GC Z d 51 [.ref (A 60), .int x1] (WW Z A s ++ ex) 0 0 (fun v u => ∃ z : Int32, v = some (.int z) ∧ u = WW Z A s ++ ex ∧ In z 0 32) X := by
  intro post xp hP hX
  obtain ⟨u_60_3, e_60_3⟩ : ∃ w, w = s.2.2.1 60 3 := ⟨_, rfl⟩
  have ro_60_3 := inv_F hI 0 32 rfl e_60_3
  have ct4 : ∀ (k4 : Nat) (y4_2 : Int32) (y4_3 : Int32), (In y4_2 0 32) → (In y4_3 0 32) → ((y4_2).toInt ≤ (y4_3).toInt + 0) → 32 - (y4_3).toInt < (k4 : Int) → GG Z (d - 1) 51 post (gx xp) (1 + k4 * 900) 4 (fun j => xlook j [(0, .ref (A 60)), (1, .int x1), (2, .int y4_2), (3, .int y4_3)]) [] (WW Z A s ++ ex) 0 0 := by
    intro k4
    induction k4 with
    | zero => intro y4_2 y4_3 j4_2 j4_3 l4_2 mm4; exact m_no mm4 j4_3 rfl
    | succ k4 ih4 =>
      intro y4_2 y4_3 j4_2 j4_3 l4_2 mm4
      refine gg_w (M := 1 + k4 * 900 + 900) gws ?_
      refine g_iload_n 5 (gd rfl) rfl rfl ?_
      refine g_aload_n 6 (gd rfl) rfl rfl ?_
      refine g_getI 9 (gd rfl) rfl rfl rfl (fun z6 e6 => ?_)
      have q6 : u_60_3 = z6 := (e_60_3).trans e6.symm
      subst q6
      refine g_cmp_ge 12 32 (gd rfl) rfl rfl (fun c9 => ?_) (fun c9 => ?_)
      · skip
        refine g_iload_n 33 (gd rfl) rfl rfl ?_
        exact g_ireturn (gd rfl) rfl rfl (hP _ _ ⟨y4_2, rfl, rfl, in_w 0 32 j4_2 rfl⟩)
      · skip
        have i9 := r_lt1 0 31 c9 j4_3 ro_60_3 rfl
        have i9a := r_lt2 1 32 c9 j4_3 ro_60_3 rfl
        refine g_aload_n 13 (gd rfl) rfl rfl ?_
        refine g_getA (q2 := 61) 16 (gd rfl) rfl rfl rfl rfl ?_
        refine g_iload_n 17 (gd rfl) rfl rfl ?_
        refine g_iaload 18 (gd rfl) rfl (n := 32) rfl (in_ix i9 rfl) (fun z17 e17 => ?_)
        refine g_iload_n 19 (gd rfl) rfl rfl ?_
        refine g_iand 20 (gd rfl) rfl (fun z19 e19 => ?_)
        refine g_if_ne 23 26 (gd rfl) rfl rfl (fun c20 => ?_) (fun c20 => ?_)
        · skip
          refine g_iinc 29 (gd rfl) rfl rfl (Nat.le_of_ble_eq_true rfl) (fun z26 e26 => ?_)
          have i26 := in_add 1 32 e26 i9 (in_c 1 rfl) rfl rfl
          refine g_goto 4 (gd rfl) rfl ?_
          have l4 := rl_0 l4_2 (t_add e26 i9 (in_c 1 rfl) rfl) (in_w 0 1 (in_c 1 rfl) rfl)
          exact gg_w (by first | exact Nat.le_add_right _ _ | exact gw2 | exact gw3 | exact gwe rfl | exact gwf rfl | exact gwg rfl | exact gwh rfl | omega) (gg_f (gf_cons rfl (gf_cons rfl (gf_cons rfl (gf_cons rfl gf_nil)))) (ih4  y4_2 z26  (rl_w 0 32 l4 j4_2 (in_w 0 32 i26 rfl) rfl) (in_w 0 32 i26 rfl) l4 (m_up mm4 (t_add e26 i9 (in_c 1 rfl) rfl) (in_w 1 1 (in_c 1 rfl) rfl))))
        · skip
          have i20 := z_eq 0 0 c20 (i_rng z19) rfl
          refine g_iinc 26 (gd rfl) rfl rfl (Nat.le_of_ble_eq_true rfl) (fun z23 e23 => ?_)
          have i23 := in_add 1 33 e23 j4_2 (in_c 1 rfl) rfl rfl
          refine g_iinc 29 (gd rfl) rfl rfl (Nat.le_of_ble_eq_true rfl) (fun z26 e26 => ?_)
          have i26 := in_add 1 32 e26 i9 (in_c 1 rfl) rfl rfl
          refine g_goto 4 (gd rfl) rfl ?_
          have l4 := rl_1 l4_2 (t_add e23 j4_2 (in_c 1 rfl) rfl) (in_c 1 rfl) (t_add e26 i9 (in_c 1 rfl) rfl) (in_c 1 rfl) rfl
          exact gg_w (by first | exact Nat.le_add_right _ _ | exact gw2 | exact gw3 | exact gwe rfl | exact gwf rfl | exact gwg rfl | exact gwh rfl | omega) (gg_f (gf_cons rfl (gf_cons rfl (gf_cons rfl (gf_cons rfl gf_nil)))) (ih4  z23 z26  (rl_w 0 32 l4 i23 (in_w 0 32 i26 rfl) rfl) (in_w 0 32 i26 rfl) l4 (m_up mm4 (t_add e26 i9 (in_c 1 rfl) rfl) (in_w 1 1 (in_c 1 rfl) rfl))))
  refine g_enter2 (k := 51) (N := 30601) (by first | exact dq1 hd rfl | exact dq0 hd rfl | exact dq2 hd rfl | exact dq3 hd rfl | omega) rfl (Nat.le_of_ble_eq_true rfl) ?_
  refine g_iconst 0 1 (gd rfl) rfl rfl ?_
  refine g_istore_n 2 (gd rfl) rfl (Nat.le_of_ble_eq_true rfl) ?_
  refine g_iconst 0 3 (gd rfl) rfl rfl ?_
  refine g_istore_n 4 (gd rfl) rfl (Nat.le_of_ble_eq_true rfl) ?_
  have l4 := rl_in 0 (in_c 0 rfl) (in_c 0 rfl) rfl
  exact gg_w (by first | exact Nat.le_of_ble_eq_true rfl | omega) (gg_f (gf_cons rfl (gf_cons rfl (gf_cons rfl (gf_cons rfl gf_nil)))) (ct4 33  (Int32.ofInt 0) (Int32.ofInt 0)  (rl_w 0 32 l4 (in_c 0 rfl) (in_w 0 32 (in_c 0 rfl) rfl) rfl) (in_w 0 32 (in_c 0 rfl) rfl) l4 (m_in 33 (in_w 0 32 (in_c 0 rfl) rfl) rfl)))

/-- GraphHouse$Colours.tightest -/
theorem k_52_60_9 {Z : AmZ} {A : Nat → Nat} {s : GS} {ex : va_W} {d : Nat} {X : AmX} {x2 : Int32} (hd : 4 ≤ d) (hI : Inv s) (nza_2 : x2.toInt ≠ 0) : GC Z d 52 [.ref (A 60), .ref (A 9), .int x2] (WW Z A s ++ ex) 0 0 (fun v u => ∃ z : Int32, v = some (.int z) ∧ u = WW Z A s ++ ex ∧ In z 0 31) X := by
  intro post xp hP hX
  have ct12 : ∀ (k12 : Nat) (y12_3 : Int32) (y12_4 : Int32) (y12_5 : Int32), (In y12_3 0 31) → (In y12_4 (-32) 32768) → ((y12_5.toBitVec.toNat : Nat) : Int) < (k12 : Int) → GG Z (d - 1) 52 post (gx xp) (1 + k12 * 900) 12 (fun j => xlook j [(0, .ref (A 60)), (1, .ref (A 9)), (2, .int x2), (3, .int y12_3), (4, .int y12_4), (5, .int y12_5)]) [] (WW Z A s ++ ex) 0 0 := by
    intro k12
    induction k12 with
    | zero => intro y12_3 y12_4 y12_5 j12_3 j12_4 mm12; exact absurd mm12 (Int.not_lt.mpr (Int.natCast_nonneg _))
    | succ k12 ih12 =>
      intro y12_3 y12_4 y12_5 j12_3 j12_4 mm12
      refine gg_w (M := 1 + k12 * 900 + 900) gws ?_
      refine g_iload 14 (gd rfl) rfl rfl ?_
      refine g_if_eq 17 73 (gd rfl) rfl rfl (fun c14 => ?_) (fun c14 => ?_)
      · skip
        have i14 := z_eq 0 0 c14 (i_rng y12_5) rfl
        refine g_iload_n 74 (gd rfl) rfl rfl ?_
        exact g_ireturn (gd rfl) rfl rfl (hP _ _ ⟨y12_3, rfl, rfl, in_w 0 31 j12_3 rfl⟩)
      · skip
        refine g_iload 19 (gd rfl) rfl rfl ?_
        refine g_calls (As := [.int y12_5]) (r := []) 22 (gd rfl) rfl rfl rfl rfl rfl (Nat.le_of_ble_eq_true rfl) (Nat.zero_le _) (Nat.zero_le _) (k_264n (by first | exact dq1 hd rfl | exact dq0 hd rfl | exact dq2 hd rfl | exact dq3 hd rfl | omega) c14) (fun v u h => ?_)
        obtain ⟨z19, rfl, rfl, i19, hb19, hl19⟩ := h
        show GG _ _ _ _ _ _ _ _ [.int z19] _ _ _
        refine g_istore 24 (gd rfl) rfl (Nat.le_of_ble_eq_true rfl) ?_
        refine g_aload_n 25 (gd rfl) rfl rfl ?_
        refine g_aload_n 26 (gd rfl) rfl rfl ?_
        refine g_iload 28 (gd rfl) rfl rfl ?_
        refine g_iaload 29 (gd rfl) rfl (n := 32) rfl (in_ix i19 rfl) (fun z28 e28 => ?_)
        refine g_callv (X := _) (As := [.int z28]) (r := []) (b := A 60) (q := 60) 32 (gd rfl) rfl rfl rfl rfl rfl (ww_o rfl) (Nat.le_of_ble_eq_true rfl) (Nat.zero_le _) (Nat.zero_le _) (k_51_60 (by first | exact dq1 hd rfl | exact dq0 hd rfl | exact dq2 hd rfl | exact dq3 hd rfl | omega) hI ) (fun e u h => h) (fun v u h => ?_)
        obtain ⟨z29, rfl, rfl, i29⟩ := h
        show GG _ _ _ _ _ _ _ _ [.int z29] _ _ _
        refine g_bipush 64 34 (gd rfl) rfl rfl ?_
        refine g_imul 35 (gd rfl) rfl (fun z34 e34 => ?_)
        have i34 := in_mulc 64 0 2048 (Or.inr e34) i29 rfl rfl
        refine g_aload_n 36 (gd rfl) rfl rfl ?_
        refine g_iload 38 (gd rfl) rfl rfl ?_
        refine g_iaload 39 (gd rfl) rfl (n := 32) rfl (in_ix i19 rfl) (fun z38 e38 => ?_)
        have q38 : z28 = z38 := (e28).trans e38.symm
        subst q38
        refine g_iload_n 40 (gd rfl) rfl rfl ?_
        refine g_iand 41 (gd rfl) rfl (fun z40 e40 => ?_)
        refine g_calls (As := [.int z40]) (r := [.int z34]) 44 (gd rfl) rfl rfl rfl rfl rfl (Nat.le_of_ble_eq_true rfl) (Nat.zero_le _) (Nat.zero_le _) (k_414b (by first | exact dq1 hd rfl | exact dq0 hd rfl | exact dq2 hd rfl | exact dq3 hd rfl | omega) hI ) (fun v u h => ?_)
        obtain ⟨z41, rfl, rfl, i41⟩ := h
        show GG _ _ _ _ _ _ _ _ [.int z41, .int z34] _ _ _
        refine g_isub 45 (gd rfl) rfl (fun z44 e44 => ?_)
        have i44 := in_sub (-32) 2048 e44 i34 i41 rfl rfl
        refine g_istore 47 (gd rfl) rfl (Nat.le_of_ble_eq_true rfl) ?_
        refine g_iload 49 (gd rfl) rfl rfl ?_
        refine g_iload 51 (gd rfl) rfl rfl ?_
        refine g_cmp_ge 54 61 (gd rfl) rfl rfl (fun c51 => ?_) (fun c51 => ?_)
        · skip
          have i51 := r_le1 (-32) 2048 c51 j12_4 i44 rfl
          refine g_iload 63 (gd rfl) rfl rfl ?_
          refine g_iload 65 (gd rfl) rfl rfl ?_
          refine g_iconst 1 66 (gd rfl) rfl rfl ?_
          refine g_isub 67 (gd rfl) rfl (fun z66 e66 => ?_)
          refine g_iand 68 (gd rfl) rfl (fun z67 e67 => ?_)
          refine g_istore 70 (gd rfl) rfl (Nat.le_of_ble_eq_true rfl) ?_
          refine g_goto 12 (gd rfl) rfl ?_
          exact gg_w (by first | exact Nat.le_add_right _ _ | exact gw2 | exact gw3 | exact gwe rfl | exact gwf rfl | exact gwg rfl | exact gwh rfl | omega) (gg_f (gf_cons rfl (gf_cons rfl (gf_cons rfl (gf_cons rfl (gf_cons rfl (gf_cons rfl gf_nil)))))) (ih12  y12_3 y12_4 z67  (in_w 0 31 j12_3 rfl) (in_w (-32) 32768 i51 rfl) (mb e67 e66 c14 mm12)))
        · skip
          have i51 := r_lt2 (-31) 32768 c51 i44 j12_4 rfl
          refine g_iload 56 (gd rfl) rfl rfl ?_
          refine g_istore 58 (gd rfl) rfl (Nat.le_of_ble_eq_true rfl) ?_
          refine g_iload 60 (gd rfl) rfl rfl ?_
          refine g_istore_n 61 (gd rfl) rfl (Nat.le_of_ble_eq_true rfl) ?_
          refine g_iload 63 (gd rfl) rfl rfl ?_
          refine g_iload 65 (gd rfl) rfl rfl ?_
          refine g_iconst 1 66 (gd rfl) rfl rfl ?_
          refine g_isub 67 (gd rfl) rfl (fun z66 e66 => ?_)
          refine g_iand 68 (gd rfl) rfl (fun z67 e67 => ?_)
          refine g_istore 70 (gd rfl) rfl (Nat.le_of_ble_eq_true rfl) ?_
          refine g_goto 12 (gd rfl) rfl ?_
          exact gg_w (by first | exact Nat.le_add_right _ _ | exact gw2 | exact gw3 | exact gwe rfl | exact gwf rfl | exact gwg rfl | exact gwh rfl | omega) (gg_f (gf_cons rfl (gf_cons rfl (gf_cons rfl (gf_cons rfl (gf_cons rfl (gf_cons rfl gf_nil)))))) (ih12  z19 z44 z67  (in_w 0 31 i19 rfl) (in_w (-32) 32768 i44 rfl) (mb e67 e66 c14 mm12)))
  refine g_enter2 (k := 52) (N := 3865470567301) (by first | exact dq1 hd rfl | exact dq0 hd rfl | exact dq2 hd rfl | exact dq3 hd rfl | omega) rfl (Nat.le_of_ble_eq_true rfl) ?_
  refine g_iload_n 1 (gd rfl) rfl rfl ?_
  refine g_calls (As := [.int x2]) (r := []) 4 (gd rfl) rfl rfl rfl rfl rfl (Nat.le_of_ble_eq_true rfl) (Nat.zero_le _) (Nat.zero_le _) (k_264n (by first | exact dq1 hd rfl | exact dq0 hd rfl | exact dq2 hd rfl | exact dq3 hd rfl | omega) nza_2) (fun v u h => ?_)
  obtain ⟨z1, rfl, rfl, i1, hb1, hl1⟩ := h
  show GG _ _ _ _ _ _ _ _ [.int z1] _ _ _
  refine g_istore_n 5 (gd rfl) rfl (Nat.le_of_ble_eq_true rfl) ?_
  refine g_ldc 32768 7 (gd rfl) rfl rfl ?_
  refine g_istore 9 (gd rfl) rfl (Nat.le_of_ble_eq_true rfl) ?_
  refine g_iload_n 10 (gd rfl) rfl rfl ?_
  refine g_istore 12 (gd rfl) rfl (Nat.le_of_ble_eq_true rfl) ?_
  exact gg_w (by first | exact Nat.le_of_ble_eq_true rfl | omega) (gg_f (gf_cons rfl (gf_cons rfl (gf_cons rfl (gf_cons rfl (gf_cons rfl (gf_cons rfl gf_nil)))))) (ct12 4294967296  z1 (Int32.ofInt 32768) x2  (in_w 0 31 i1 rfl) (in_w (-32) 32768 (in_c 32768 rfl) rfl) (mb_in _)))

/-- GraphHouse$Colours.tightest -/
theorem k_52_60_39 {Z : AmZ} {A : Nat → Nat} {s : GS} {ex : va_W} {d : Nat} {X : AmX} {x2 : Int32} (hd : 4 ≤ d) (hI : Inv s) (nza_2 : x2.toInt ≠ 0) : GC Z d 52 [.ref (A 60), .ref (A 39), .int x2] (WW Z A s ++ ex) 0 0 (fun v u => ∃ z : Int32, v = some (.int z) ∧ u = WW Z A s ++ ex ∧ In z 0 31) X := by
  intro post xp hP hX
  have ct12 : ∀ (k12 : Nat) (y12_3 : Int32) (y12_4 : Int32) (y12_5 : Int32), (In y12_3 0 31) → (In y12_4 (-32) 32768) → ((y12_5.toBitVec.toNat : Nat) : Int) < (k12 : Int) → GG Z (d - 1) 52 post (gx xp) (1 + k12 * 900) 12 (fun j => xlook j [(0, .ref (A 60)), (1, .ref (A 39)), (2, .int x2), (3, .int y12_3), (4, .int y12_4), (5, .int y12_5)]) [] (WW Z A s ++ ex) 0 0 := by
    intro k12
    induction k12 with
    | zero => intro y12_3 y12_4 y12_5 j12_3 j12_4 mm12; exact absurd mm12 (Int.not_lt.mpr (Int.natCast_nonneg _))
    | succ k12 ih12 =>
      intro y12_3 y12_4 y12_5 j12_3 j12_4 mm12
      refine gg_w (M := 1 + k12 * 900 + 900) gws ?_
      refine g_iload 14 (gd rfl) rfl rfl ?_
      refine g_if_eq 17 73 (gd rfl) rfl rfl (fun c14 => ?_) (fun c14 => ?_)
      · skip
        have i14 := z_eq 0 0 c14 (i_rng y12_5) rfl
        refine g_iload_n 74 (gd rfl) rfl rfl ?_
        exact g_ireturn (gd rfl) rfl rfl (hP _ _ ⟨y12_3, rfl, rfl, in_w 0 31 j12_3 rfl⟩)
      · skip
        refine g_iload 19 (gd rfl) rfl rfl ?_
        refine g_calls (As := [.int y12_5]) (r := []) 22 (gd rfl) rfl rfl rfl rfl rfl (Nat.le_of_ble_eq_true rfl) (Nat.zero_le _) (Nat.zero_le _) (k_264n (by first | exact dq1 hd rfl | exact dq0 hd rfl | exact dq2 hd rfl | exact dq3 hd rfl | omega) c14) (fun v u h => ?_)
        obtain ⟨z19, rfl, rfl, i19, hb19, hl19⟩ := h
        show GG _ _ _ _ _ _ _ _ [.int z19] _ _ _
        refine g_istore 24 (gd rfl) rfl (Nat.le_of_ble_eq_true rfl) ?_
        refine g_aload_n 25 (gd rfl) rfl rfl ?_
        refine g_aload_n 26 (gd rfl) rfl rfl ?_
        refine g_iload 28 (gd rfl) rfl rfl ?_
        refine g_iaload 29 (gd rfl) rfl (n := 32) rfl (in_ix i19 rfl) (fun z28 e28 => ?_)
        refine g_callv (X := _) (As := [.int z28]) (r := []) (b := A 60) (q := 60) 32 (gd rfl) rfl rfl rfl rfl rfl (ww_o rfl) (Nat.le_of_ble_eq_true rfl) (Nat.zero_le _) (Nat.zero_le _) (k_51_60 (by first | exact dq1 hd rfl | exact dq0 hd rfl | exact dq2 hd rfl | exact dq3 hd rfl | omega) hI ) (fun e u h => h) (fun v u h => ?_)
        obtain ⟨z29, rfl, rfl, i29⟩ := h
        show GG _ _ _ _ _ _ _ _ [.int z29] _ _ _
        refine g_bipush 64 34 (gd rfl) rfl rfl ?_
        refine g_imul 35 (gd rfl) rfl (fun z34 e34 => ?_)
        have i34 := in_mulc 64 0 2048 (Or.inr e34) i29 rfl rfl
        refine g_aload_n 36 (gd rfl) rfl rfl ?_
        refine g_iload 38 (gd rfl) rfl rfl ?_
        refine g_iaload 39 (gd rfl) rfl (n := 32) rfl (in_ix i19 rfl) (fun z38 e38 => ?_)
        have q38 : z28 = z38 := (e28).trans e38.symm
        subst q38
        refine g_iload_n 40 (gd rfl) rfl rfl ?_
        refine g_iand 41 (gd rfl) rfl (fun z40 e40 => ?_)
        refine g_calls (As := [.int z40]) (r := [.int z34]) 44 (gd rfl) rfl rfl rfl rfl rfl (Nat.le_of_ble_eq_true rfl) (Nat.zero_le _) (Nat.zero_le _) (k_414b (by first | exact dq1 hd rfl | exact dq0 hd rfl | exact dq2 hd rfl | exact dq3 hd rfl | omega) hI ) (fun v u h => ?_)
        obtain ⟨z41, rfl, rfl, i41⟩ := h
        show GG _ _ _ _ _ _ _ _ [.int z41, .int z34] _ _ _
        refine g_isub 45 (gd rfl) rfl (fun z44 e44 => ?_)
        have i44 := in_sub (-32) 2048 e44 i34 i41 rfl rfl
        refine g_istore 47 (gd rfl) rfl (Nat.le_of_ble_eq_true rfl) ?_
        refine g_iload 49 (gd rfl) rfl rfl ?_
        refine g_iload 51 (gd rfl) rfl rfl ?_
        refine g_cmp_ge 54 61 (gd rfl) rfl rfl (fun c51 => ?_) (fun c51 => ?_)
        · skip
          have i51 := r_le1 (-32) 2048 c51 j12_4 i44 rfl
          refine g_iload 63 (gd rfl) rfl rfl ?_
          refine g_iload 65 (gd rfl) rfl rfl ?_
          refine g_iconst 1 66 (gd rfl) rfl rfl ?_
          refine g_isub 67 (gd rfl) rfl (fun z66 e66 => ?_)
          refine g_iand 68 (gd rfl) rfl (fun z67 e67 => ?_)
          refine g_istore 70 (gd rfl) rfl (Nat.le_of_ble_eq_true rfl) ?_
          refine g_goto 12 (gd rfl) rfl ?_
          exact gg_w (by first | exact Nat.le_add_right _ _ | exact gw2 | exact gw3 | exact gwe rfl | exact gwf rfl | exact gwg rfl | exact gwh rfl | omega) (gg_f (gf_cons rfl (gf_cons rfl (gf_cons rfl (gf_cons rfl (gf_cons rfl (gf_cons rfl gf_nil)))))) (ih12  y12_3 y12_4 z67  (in_w 0 31 j12_3 rfl) (in_w (-32) 32768 i51 rfl) (mb e67 e66 c14 mm12)))
        · skip
          have i51 := r_lt2 (-31) 32768 c51 i44 j12_4 rfl
          refine g_iload 56 (gd rfl) rfl rfl ?_
          refine g_istore 58 (gd rfl) rfl (Nat.le_of_ble_eq_true rfl) ?_
          refine g_iload 60 (gd rfl) rfl rfl ?_
          refine g_istore_n 61 (gd rfl) rfl (Nat.le_of_ble_eq_true rfl) ?_
          refine g_iload 63 (gd rfl) rfl rfl ?_
          refine g_iload 65 (gd rfl) rfl rfl ?_
          refine g_iconst 1 66 (gd rfl) rfl rfl ?_
          refine g_isub 67 (gd rfl) rfl (fun z66 e66 => ?_)
          refine g_iand 68 (gd rfl) rfl (fun z67 e67 => ?_)
          refine g_istore 70 (gd rfl) rfl (Nat.le_of_ble_eq_true rfl) ?_
          refine g_goto 12 (gd rfl) rfl ?_
          exact gg_w (by first | exact Nat.le_add_right _ _ | exact gw2 | exact gw3 | exact gwe rfl | exact gwf rfl | exact gwg rfl | exact gwh rfl | omega) (gg_f (gf_cons rfl (gf_cons rfl (gf_cons rfl (gf_cons rfl (gf_cons rfl (gf_cons rfl gf_nil)))))) (ih12  z19 z44 z67  (in_w 0 31 i19 rfl) (in_w (-32) 32768 i44 rfl) (mb e67 e66 c14 mm12)))
  refine g_enter2 (k := 52) (N := 3865470567301) (by first | exact dq1 hd rfl | exact dq0 hd rfl | exact dq2 hd rfl | exact dq3 hd rfl | omega) rfl (Nat.le_of_ble_eq_true rfl) ?_
  refine g_iload_n 1 (gd rfl) rfl rfl ?_
  refine g_calls (As := [.int x2]) (r := []) 4 (gd rfl) rfl rfl rfl rfl rfl (Nat.le_of_ble_eq_true rfl) (Nat.zero_le _) (Nat.zero_le _) (k_264n (by first | exact dq1 hd rfl | exact dq0 hd rfl | exact dq2 hd rfl | exact dq3 hd rfl | omega) nza_2) (fun v u h => ?_)
  obtain ⟨z1, rfl, rfl, i1, hb1, hl1⟩ := h
  show GG _ _ _ _ _ _ _ _ [.int z1] _ _ _
  refine g_istore_n 5 (gd rfl) rfl (Nat.le_of_ble_eq_true rfl) ?_
  refine g_ldc 32768 7 (gd rfl) rfl rfl ?_
  refine g_istore 9 (gd rfl) rfl (Nat.le_of_ble_eq_true rfl) ?_
  refine g_iload_n 10 (gd rfl) rfl rfl ?_
  refine g_istore 12 (gd rfl) rfl (Nat.le_of_ble_eq_true rfl) ?_
  exact gg_w (by first | exact Nat.le_of_ble_eq_true rfl | omega) (gg_f (gf_cons rfl (gf_cons rfl (gf_cons rfl (gf_cons rfl (gf_cons rfl (gf_cons rfl gf_nil)))))) (ct12 4294967296  z1 (Int32.ofInt 32768) x2  (in_w 0 31 i1 rfl) (in_w (-32) 32768 (in_c 32768 rfl) rfl) (mb_in _)))

def fm_65_102_2 : FM := ([], [106], [], [])
/-- GraphHouse$Engine.look -/
theorem k_65_102_2 {Z : AmZ} {A : Nat → Nat} {s : GS} {ex : va_W} {d : Nat} {X : AmX} {x2 : Int32} {x3 : Int32} {u_2_4 : Int32} {u_2_0 : Int32} (hd : 4 ≤ d) (hI : Inv s) (h2 : In x2 0 31) (h3 : In x3 0 200) (e_2_4 : u_2_4 = s.2.2.1 2 4) (e_2_0 : u_2_0 = s.2.2.1 2 0) (p_0 : (u_2_4).toInt = (u_2_0).toInt) : GC Z d 65 [.ref (A 102), .ref (A 2), .int x2, .int x3] (WW Z A s ++ ex) 0 0 (fun v u => ∃ t : GS, Inv t ∧ Fr fm_65_102_2 s t ∧ v = none ∧ u = WW Z A t ++ ex) X := by
  intro post xp hP hX
  have ro_2_4 := inv_F hI (-1) 4000 rfl e_2_4
  have ro_2_0 := inv_F hI 0 4000 rfl e_2_0
  have ct21 : ∀ (k21 : Nat) (sc21 : GS) (y21_4 : Int64) (y21_6 : Int64) (y21_8 : Int64) (y21_10 : Int32), Inv sc21 → Fr fm_65_102_2 s sc21 → (In y21_10 0 160) → 160 - (y21_10).toInt < (k21 : Int) → GG Z (d - 1) 65 post (gx xp) (1 + k21 * 900) 21 (fun j => xlook j [(0, .ref (A 102)), (1, .ref (A 2)), (2, .int x2), (3, .int x3), (4, .long y21_4), (6, .long y21_6), (8, .long y21_8), (10, .int y21_10)]) [] (WW Z A sc21 ++ ex) 0 0 := by
    intro k21
    induction k21 with
    | zero => intro sc21 y21_4 y21_6 y21_8 y21_10 hIc21 hFc21 j21_10 mm21; exact m_no mm21 j21_10 rfl
    | succ k21 ih21 =>
      intro sc21 y21_4 y21_6 y21_8 y21_10 hIc21 hFc21 j21_10 mm21
      refine gg_w (M := 1 + k21 * 900 + 900) gws ?_
      refine g_iload 23 (gd rfl) rfl rfl ?_
      refine g_aload_n 24 (gd rfl) rfl rfl ?_
      refine g_getA (q2 := 14) 27 (gd rfl) rfl rfl rfl rfl ?_
      refine g_iload_n 28 (gd rfl) rfl rfl ?_
      refine g_iconst 1 29 (gd rfl) rfl rfl ?_
      refine g_iadd 30 (gd rfl) rfl (fun z29 e29 => ?_)
      have i29 := in_add 1 32 e29 h2 (in_c 1 rfl) rfl rfl
      refine g_iaload 31 (gd rfl) rfl (n := 33) rfl (in_ix i29 rfl) (fun z30 e30 => ?_)
      have i30 := inv_I hIc21 (n := 33) (t := 0) 0 160 rfl (in_ix i29 rfl) rfl e30
      refine g_cmp_ge 34 104 (gd rfl) rfl rfl (fun c31 => ?_) (fun c31 => ?_)
      · skip
        refine g_aload_n 105 (gd rfl) rfl rfl ?_
        refine g_getA (q2 := 106) 108 (gd rfl) rfl rfl rfl rfl ?_
        refine g_iconst 0 109 (gd rfl) rfl rfl ?_
        refine g_aload_n 110 (gd rfl) rfl rfl ?_
        refine g_getA (q2 := 108) 113 (gd rfl) rfl rfl rfl rfl ?_
        refine g_iload_n 114 (gd rfl) rfl rfl ?_
        refine g_laload 115 (gd rfl) rfl (n := 32) rfl (in_ix h2 rfl) (fun z114 e114 => ?_)
        refine g_lastore 116 (gd rfl) rfl (n := 9) rfl (in_ix (in_c 0 rfl) rfl) ?_
        have hI115 := inv_sL (q := 106) (j := (Int32.ofInt 0).toNatClampNeg) (x := z114) hIc21 rfl (l_rng z114)
        refine g_aload_n 117 (gd rfl) rfl rfl ?_
        refine g_getA (q2 := 106) 120 (gd rfl) rfl rfl rfl rfl ?_
        refine g_iconst 1 121 (gd rfl) rfl rfl ?_
        refine g_iload_n 122 (gd rfl) rfl rfl ?_
        refine g_i2l 123 (gd rfl) rfl (fun z122 e122 => ?_)
        have i122 := l_i e122 h2
        refine g_lastore 124 (gd rfl) rfl (n := 9) rfl (in_ix (in_c 1 rfl) rfl) ?_
        have hI123 := inv_sL (q := 106) (j := (Int32.ofInt 1).toNatClampNeg) (x := z122) hI115 rfl (l_rng z122)
        refine g_aload_n 125 (gd rfl) rfl rfl ?_
        refine g_getA (q2 := 106) 128 (gd rfl) rfl rfl rfl rfl ?_
        refine g_iconst 2 129 (gd rfl) rfl rfl ?_
        refine g_aload_n 130 (gd rfl) rfl rfl ?_
        refine g_getA (q2 := 3) 133 (gd rfl) rfl rfl rfl rfl ?_
        refine g_iload_n 134 (gd rfl) rfl rfl ?_
        refine g_iaload 135 (gd rfl) rfl (n := 32) rfl (in_ix h2 rfl) (fun z134 e134 => ?_)
        have i134 := inv_I hI123 (n := 32) (t := 0) 0 25 rfl (in_ix h2 rfl) rfl e134
        refine g_i2l 136 (gd rfl) rfl (fun z135 e135 => ?_)
        have i135 := l_i e135 i134
        refine g_lastore 137 (gd rfl) rfl (n := 9) rfl (in_ix (in_c 2 rfl) rfl) ?_
        have hI136 := inv_sL (q := 106) (j := (Int32.ofInt 2).toNatClampNeg) (x := z135) hI123 rfl (l_rng z135)
        refine g_aload_n 138 (gd rfl) rfl rfl ?_
        refine g_getA (q2 := 106) 141 (gd rfl) rfl rfl rfl rfl ?_
        refine g_iconst 3 142 (gd rfl) rfl rfl ?_
        refine g_aload_n 143 (gd rfl) rfl rfl ?_
        refine g_iload_n 144 (gd rfl) rfl rfl ?_
        refine g_callv (X := _) (As := [.int x2]) (r := [.int (Int32.ofInt 3), .ref (A 106)]) (b := A 2) (q := 2) 147 (gd rfl) rfl rfl rfl rfl rfl (ww_o rfl) (Nat.le_of_ble_eq_true rfl) (mc := 0) (ms := 0) (Nat.zero_le _) (Nat.zero_le _) (P := fun v u => _) ?_ (fun e u h => h) (fun v u h => h)
        intro po144 xx144 hp144 hx144
        refine g_enter2 (k := 103) (N := 300) (by first | exact dq1 hd rfl | exact dq0 hd rfl | exact dq2 hd rfl | exact dq3 hd rfl | omega) rfl (Nat.le_of_ble_eq_true rfl) ?_
        refine g_aload_n 1 (gd rfl) rfl rfl ?_
        refine g_getA (q2 := 12) 4 (gd rfl) rfl rfl rfl rfl ?_
        refine g_iload_n 5 (gd rfl) rfl rfl ?_
        refine g_iconst 1 6 (gd rfl) rfl rfl ?_
        refine g_iadd 7 (gd rfl) rfl (fun z144x6 e144x6 => ?_)
        have i144x6 := in_add 1 32 e144x6 h2 (in_c 1 rfl) rfl rfl
        refine g_iaload 8 (gd rfl) rfl (n := 33) rfl (in_ix i144x6 rfl) (fun z144x7 e144x7 => ?_)
        have i144x7 := inv_I hI136 (n := 33) (t := 0) 0 160 rfl (in_ix i144x6 rfl) rfl e144x7
        refine g_aload_n 9 (gd rfl) rfl rfl ?_
        refine g_getA (q2 := 12) 12 (gd rfl) rfl rfl rfl rfl ?_
        refine g_iload_n 13 (gd rfl) rfl rfl ?_
        refine g_iaload 14 (gd rfl) rfl (n := 33) rfl (in_ix h2 rfl) (fun z144x13 e144x13 => ?_)
        have i144x13 := inv_I hI136 (n := 33) (t := 0) 0 160 rfl (in_ix h2 rfl) rfl e144x13
        refine g_isub 15 (gd rfl) rfl (fun z144x14 e144x14 => ?_)
        have i144x14 := in_sub (-160) 160 e144x14 i144x7 i144x13 rfl rfl
        refine g_ireturn (gd rfl) rfl rfl (hp144 _ _ ?_)
        show GG _ _ _ _ _ _ _ _ [.int z144x14, .int (Int32.ofInt 3), .ref (A 106)] _ _ _
        refine g_i2l 148 (gd rfl) rfl (fun z147 e147 => ?_)
        have i147 := l_i e147 i144x14
        refine g_lastore 149 (gd rfl) rfl (n := 9) rfl (in_ix (in_c 3 rfl) rfl) ?_
        have hI148 := inv_sL (q := 106) (j := (Int32.ofInt 3).toNatClampNeg) (x := z147) hI136 rfl (l_rng z147)
        refine g_aload_n 150 (gd rfl) rfl rfl ?_
        refine g_getA (q2 := 106) 153 (gd rfl) rfl rfl rfl rfl ?_
        refine g_iconst 4 154 (gd rfl) rfl rfl ?_
        refine g_aload_n 155 (gd rfl) rfl rfl ?_
        refine g_iload_n 156 (gd rfl) rfl rfl ?_
        refine g_callv (X := _) (As := [.int x2]) (r := [.int (Int32.ofInt 4), .ref (A 106)]) (b := A 2) (q := 2) 159 (gd rfl) rfl rfl rfl rfl rfl (ww_o rfl) (Nat.le_of_ble_eq_true rfl) (mc := 0) (ms := 0) (Nat.zero_le _) (Nat.zero_le _) (P := fun v u => _) ?_ (fun e u h => h) (fun v u h => h)
        intro po156 xx156 hp156 hx156
        refine g_enter2 (k := 104) (N := 300) (by first | exact dq1 hd rfl | exact dq0 hd rfl | exact dq2 hd rfl | exact dq3 hd rfl | omega) rfl (Nat.le_of_ble_eq_true rfl) ?_
        refine g_aload_n 1 (gd rfl) rfl rfl ?_
        refine g_getA (q2 := 14) 4 (gd rfl) rfl rfl rfl rfl ?_
        refine g_iload_n 5 (gd rfl) rfl rfl ?_
        refine g_iconst 1 6 (gd rfl) rfl rfl ?_
        refine g_iadd 7 (gd rfl) rfl (fun z156x6 e156x6 => ?_)
        have i156x6 := in_add 1 32 e156x6 h2 (in_c 1 rfl) rfl rfl
        refine g_iaload 8 (gd rfl) rfl (n := 33) rfl (in_ix i156x6 rfl) (fun z156x7 e156x7 => ?_)
        have i156x7 := inv_I hI148 (n := 33) (t := 0) 0 160 rfl (in_ix i156x6 rfl) rfl e156x7
        refine g_aload_n 9 (gd rfl) rfl rfl ?_
        refine g_getA (q2 := 14) 12 (gd rfl) rfl rfl rfl rfl ?_
        refine g_iload_n 13 (gd rfl) rfl rfl ?_
        refine g_iaload 14 (gd rfl) rfl (n := 33) rfl (in_ix h2 rfl) (fun z156x13 e156x13 => ?_)
        have i156x13 := inv_I hI148 (n := 33) (t := 0) 0 160 rfl (in_ix h2 rfl) rfl e156x13
        refine g_isub 15 (gd rfl) rfl (fun z156x14 e156x14 => ?_)
        have i156x14 := in_sub (-160) 160 e156x14 i156x7 i156x13 rfl rfl
        refine g_ireturn (gd rfl) rfl rfl (hp156 _ _ ?_)
        show GG _ _ _ _ _ _ _ _ [.int z156x14, .int (Int32.ofInt 4), .ref (A 106)] _ _ _
        refine g_i2l 160 (gd rfl) rfl (fun z159 e159 => ?_)
        have i159 := l_i e159 i156x14
        refine g_lastore 161 (gd rfl) rfl (n := 9) rfl (in_ix (in_c 4 rfl) rfl) ?_
        have hI160 := inv_sL (q := 106) (j := (Int32.ofInt 4).toNatClampNeg) (x := z159) hI148 rfl (l_rng z159)
        refine g_aload_n 162 (gd rfl) rfl rfl ?_
        refine g_getA (q2 := 106) 165 (gd rfl) rfl rfl rfl rfl ?_
        refine g_iconst 5 166 (gd rfl) rfl rfl ?_
        refine g_iload_n 167 (gd rfl) rfl rfl ?_
        refine g_i2l 168 (gd rfl) rfl (fun z167 e167 => ?_)
        have i167 := l_i e167 h3
        refine g_lastore 169 (gd rfl) rfl (n := 9) rfl (in_ix (in_c 5 rfl) rfl) ?_
        have hI168 := inv_sL (q := 106) (j := (Int32.ofInt 5).toNatClampNeg) (x := z167) hI160 rfl (l_rng z167)
        refine g_aload_n 170 (gd rfl) rfl rfl ?_
        refine g_getA (q2 := 106) 173 (gd rfl) rfl rfl rfl rfl ?_
        refine g_bipush 6 175 (gd rfl) rfl rfl ?_
        refine g_lload 177 (gd rfl) rfl rfl ?_
        refine g_calls (As := [.long y21_4]) (r := [.int (Int32.ofInt 6), .ref (A 106)]) 180 (gd rfl) rfl rfl rfl rfl rfl (Nat.le_of_ble_eq_true rfl) (mc := 0) (ms := 0) (Nat.zero_le _) (Nat.zero_le _) (P := fun v u => _) ?_ (fun v u h => h)
        intro po177 xx177 hp177 hx177
        refine g_enter2 (k := 69) (N := 300) (by first | exact dq1 hd rfl | exact dq0 hd rfl | exact dq2 hd rfl | exact dq3 hd rfl | omega) rfl (Nat.le_of_ble_eq_true rfl) ?_
        refine g_ldc2_w (-1000000000000) 3 (gd rfl) rfl rfl ?_
        refine g_ldc2_w 1000000000000 6 (gd rfl) rfl rfl ?_
        refine g_lload_n 7 (gd rfl) rfl rfl ?_
        refine g_calls (As := [.long (Int64.ofInt 1000000000000), .long y21_4]) (r := [.long (Int64.ofInt (-1000000000000))]) 10 (gd rfl) rfl rfl rfl rfl rfl (Nat.le_of_ble_eq_true rfl) (mc := 0) (ms := 0) (Nat.zero_le _) (Nat.zero_le _) (P := fun v u => _) ?_ (fun v u h => h)
        intro po177x7 xx177x7 hp177x7 hx177x7
        refine g_enter2 (k := 425) (N := 300) (by first | exact dq1 hd rfl | exact dq0 hd rfl | exact dq2 hd rfl | exact dq3 hd rfl | omega) rfl (Nat.le_of_ble_eq_true rfl) ?_
        refine g_lload_n 1 (gd rfl) rfl rfl ?_
        refine g_lload_n 2 (gd rfl) rfl rfl ?_
        refine g_lcmp 3 (gd rfl) rfl (fun z177x7x2 e177x7x2 => ?_)
        have i177x7x2 := lc_in e177x7x2
        refine g_if_gt 6 10 (gd rfl) rfl rfl (fun c177x7x3 => ?_) (fun c177x7x3 => ?_)
        · skip
          have i177x7x3 := z_gt 1 1 c177x7x3 i177x7x2 rfl
          have c177x7x3a := lc_gt e177x7x2 c177x7x3
          have i177x7x3a := lr_lt1 (-9223372036854775808) 999999999999 c177x7x3a (l_rng y21_4) (l_c 1000000000000 rfl) rfl
          refine g_lload_n 11 (gd rfl) rfl rfl ?_
          refine g_lreturn (gd rfl) rfl (hp177x7 _ _ ?_)
          show GG _ _ _ _ _ _ _ _ [.long y21_4, .long (Int64.ofInt (-1000000000000))] _ _ _
          refine g_calls (As := [.long (Int64.ofInt (-1000000000000)), .long y21_4]) (r := []) 13 (gd rfl) rfl rfl rfl rfl rfl (Nat.le_of_ble_eq_true rfl) (mc := 0) (ms := 0) (Nat.zero_le _) (Nat.zero_le _) (P := fun v u => _) ?_ (fun v u h => h)
          intro po177x10 xx177x10 hp177x10 hx177x10
          refine g_enter2 (k := 423) (N := 300) (by first | exact dq1 hd rfl | exact dq0 hd rfl | exact dq2 hd rfl | exact dq3 hd rfl | omega) rfl (Nat.le_of_ble_eq_true rfl) ?_
          refine g_lload_n 1 (gd rfl) rfl rfl ?_
          refine g_lload_n 2 (gd rfl) rfl rfl ?_
          refine g_lcmp 3 (gd rfl) rfl (fun z177x10x2 e177x10x2 => ?_)
          have i177x10x2 := lc_in e177x10x2
          refine g_if_lt 6 10 (gd rfl) rfl rfl (fun c177x10x3 => ?_) (fun c177x10x3 => ?_)
          · skip
            have i177x10x3 := z_lt (-1) (-1) c177x10x3 i177x10x2 rfl
            have c177x10x3a := lc_lt e177x10x2 c177x10x3
            have i177x10x3a := lr_lt2 (-999999999999) 999999999999 c177x10x3a (l_c (-1000000000000) rfl) i177x7x3a rfl
            refine g_lload_n 11 (gd rfl) rfl rfl ?_
            refine g_lreturn (gd rfl) rfl (hp177x10 _ _ ?_)
            show GG _ _ _ _ _ _ _ _ [.long y21_4] _ _ _
            refine g_lreturn (gd rfl) rfl (hp177 _ _ ?_)
            show GG _ _ _ _ _ _ _ _ [.long y21_4, .int (Int32.ofInt 6), .ref (A 106)] _ _ _
            refine g_lastore 181 (gd rfl) rfl (n := 9) rfl (in_ix (in_c 6 rfl) rfl) ?_
            have hI180 := inv_sL (q := 106) (j := (Int32.ofInt 6).toNatClampNeg) (x := y21_4) hI168 rfl (l_rng y21_4)
            refine g_aload_n 182 (gd rfl) rfl rfl ?_
            refine g_getA (q2 := 106) 185 (gd rfl) rfl rfl rfl rfl ?_
            refine g_bipush 7 187 (gd rfl) rfl rfl ?_
            refine g_lload 189 (gd rfl) rfl rfl ?_
            refine g_lastore 190 (gd rfl) rfl (n := 9) rfl (in_ix (in_c 7 rfl) rfl) ?_
            have hI189 := inv_sL (q := 106) (j := (Int32.ofInt 7).toNatClampNeg) (x := y21_6) hI180 rfl (l_rng y21_6)
            refine g_aload_n 191 (gd rfl) rfl rfl ?_
            refine g_getA (q2 := 106) 194 (gd rfl) rfl rfl rfl rfl ?_
            refine g_bipush 8 196 (gd rfl) rfl rfl ?_
            refine g_lload 198 (gd rfl) rfl rfl ?_
            refine g_lastore 199 (gd rfl) rfl (n := 9) rfl (in_ix (in_c 8 rfl) rfl) ?_
            have hI198 := inv_sL (q := 106) (j := (Int32.ofInt 8).toNatClampNeg) (x := y21_8) hI189 rfl (l_rng y21_8)
            exact g_return (gd rfl) rfl (hP _ _ ⟨(sL (sL (sL (sL (sL (sL (sL (sL (sL sc21 106 (Int32.ofInt 0).toNatClampNeg z114) 106 (Int32.ofInt 1).toNatClampNeg z122) 106 (Int32.ofInt 2).toNatClampNeg z135) 106 (Int32.ofInt 3).toNatClampNeg z147) 106 (Int32.ofInt 4).toNatClampNeg z159) 106 (Int32.ofInt 5).toNatClampNeg z167) 106 (Int32.ofInt 6).toNatClampNeg y21_4) 106 (Int32.ofInt 7).toNatClampNeg y21_6) 106 (Int32.ofInt 8).toNatClampNeg y21_8), hI198, (fr_sL rfl (fr_sL rfl (fr_sL rfl (fr_sL rfl (fr_sL rfl (fr_sL rfl (fr_sL rfl (fr_sL rfl (fr_sL rfl hFc21))))))))), rfl, rfl⟩)
          · skip
            have i177x10x3 := z_ge 0 1 c177x10x3 i177x10x2 rfl
            have c177x10x3a := lc_ge e177x10x2 c177x10x3
            have i177x10x3a := lr_le1 (-9223372036854775808) (-1000000000000) c177x10x3a i177x7x3a (l_c (-1000000000000) rfl) rfl
            refine g_lload_n 7 (gd rfl) rfl rfl ?_
            refine g_goto 11 (gd rfl) rfl ?_
            refine g_lreturn (gd rfl) rfl (hp177x10 _ _ ?_)
            show GG _ _ _ _ _ _ _ _ [.long (Int64.ofInt (-1000000000000))] _ _ _
            refine g_lreturn (gd rfl) rfl (hp177 _ _ ?_)
            show GG _ _ _ _ _ _ _ _ [.long (Int64.ofInt (-1000000000000)), .int (Int32.ofInt 6), .ref (A 106)] _ _ _
            refine g_lastore 181 (gd rfl) rfl (n := 9) rfl (in_ix (in_c 6 rfl) rfl) ?_
            have hI180 := inv_sL (q := 106) (j := (Int32.ofInt 6).toNatClampNeg) (x := (Int64.ofInt (-1000000000000))) hI168 rfl (l_rng (Int64.ofInt (-1000000000000)))
            refine g_aload_n 182 (gd rfl) rfl rfl ?_
            refine g_getA (q2 := 106) 185 (gd rfl) rfl rfl rfl rfl ?_
            refine g_bipush 7 187 (gd rfl) rfl rfl ?_
            refine g_lload 189 (gd rfl) rfl rfl ?_
            refine g_lastore 190 (gd rfl) rfl (n := 9) rfl (in_ix (in_c 7 rfl) rfl) ?_
            have hI189 := inv_sL (q := 106) (j := (Int32.ofInt 7).toNatClampNeg) (x := y21_6) hI180 rfl (l_rng y21_6)
            refine g_aload_n 191 (gd rfl) rfl rfl ?_
            refine g_getA (q2 := 106) 194 (gd rfl) rfl rfl rfl rfl ?_
            refine g_bipush 8 196 (gd rfl) rfl rfl ?_
            refine g_lload 198 (gd rfl) rfl rfl ?_
            refine g_lastore 199 (gd rfl) rfl (n := 9) rfl (in_ix (in_c 8 rfl) rfl) ?_
            have hI198 := inv_sL (q := 106) (j := (Int32.ofInt 8).toNatClampNeg) (x := y21_8) hI189 rfl (l_rng y21_8)
            exact g_return (gd rfl) rfl (hP _ _ ⟨(sL (sL (sL (sL (sL (sL (sL (sL (sL sc21 106 (Int32.ofInt 0).toNatClampNeg z114) 106 (Int32.ofInt 1).toNatClampNeg z122) 106 (Int32.ofInt 2).toNatClampNeg z135) 106 (Int32.ofInt 3).toNatClampNeg z147) 106 (Int32.ofInt 4).toNatClampNeg z159) 106 (Int32.ofInt 5).toNatClampNeg z167) 106 (Int32.ofInt 6).toNatClampNeg (Int64.ofInt (-1000000000000))) 106 (Int32.ofInt 7).toNatClampNeg y21_6) 106 (Int32.ofInt 8).toNatClampNeg y21_8), hI198, (fr_sL rfl (fr_sL rfl (fr_sL rfl (fr_sL rfl (fr_sL rfl (fr_sL rfl (fr_sL rfl (fr_sL rfl (fr_sL rfl hFc21))))))))), rfl, rfl⟩)
        · skip
          have i177x7x3 := z_le (-1) 0 c177x7x3 i177x7x2 rfl
          have c177x7x3a := lc_le e177x7x2 c177x7x3
          have i177x7x3a := lr_le2 1000000000000 9223372036854775807 c177x7x3a (l_c 1000000000000 rfl) (l_rng y21_4) rfl
          refine g_lload_n 7 (gd rfl) rfl rfl ?_
          refine g_goto 11 (gd rfl) rfl ?_
          refine g_lreturn (gd rfl) rfl (hp177x7 _ _ ?_)
          show GG _ _ _ _ _ _ _ _ [.long (Int64.ofInt 1000000000000), .long (Int64.ofInt (-1000000000000))] _ _ _
          refine g_calls (As := [.long (Int64.ofInt (-1000000000000)), .long (Int64.ofInt 1000000000000)]) (r := []) 13 (gd rfl) rfl rfl rfl rfl rfl (Nat.le_of_ble_eq_true rfl) (mc := 0) (ms := 0) (Nat.zero_le _) (Nat.zero_le _) (P := fun v u => _) ?_ (fun v u h => h)
          intro po177x10 xx177x10 hp177x10 hx177x10
          refine g_enter2 (k := 423) (N := 300) (by first | exact dq1 hd rfl | exact dq0 hd rfl | exact dq2 hd rfl | exact dq3 hd rfl | omega) rfl (Nat.le_of_ble_eq_true rfl) ?_
          refine g_lload_n 1 (gd rfl) rfl rfl ?_
          refine g_lload_n 2 (gd rfl) rfl rfl ?_
          refine g_lcmp 3 (gd rfl) rfl (fun z177x10x2 e177x10x2 => ?_)
          have i177x10x2 := lc_in e177x10x2
          refine g_if_lt 6 10 (gd rfl) rfl rfl (fun c177x10x3 => ?_) (fun c177x10x3 => ?_)
          · skip
            have i177x10x3 := z_lt (-1) (-1) c177x10x3 i177x10x2 rfl
            have c177x10x3a := lc_lt e177x10x2 c177x10x3
            refine g_lload_n 11 (gd rfl) rfl rfl ?_
            refine g_lreturn (gd rfl) rfl (hp177x10 _ _ ?_)
            show GG _ _ _ _ _ _ _ _ [.long (Int64.ofInt 1000000000000)] _ _ _
            refine g_lreturn (gd rfl) rfl (hp177 _ _ ?_)
            show GG _ _ _ _ _ _ _ _ [.long (Int64.ofInt 1000000000000), .int (Int32.ofInt 6), .ref (A 106)] _ _ _
            refine g_lastore 181 (gd rfl) rfl (n := 9) rfl (in_ix (in_c 6 rfl) rfl) ?_
            have hI180 := inv_sL (q := 106) (j := (Int32.ofInt 6).toNatClampNeg) (x := (Int64.ofInt 1000000000000)) hI168 rfl (l_rng (Int64.ofInt 1000000000000))
            refine g_aload_n 182 (gd rfl) rfl rfl ?_
            refine g_getA (q2 := 106) 185 (gd rfl) rfl rfl rfl rfl ?_
            refine g_bipush 7 187 (gd rfl) rfl rfl ?_
            refine g_lload 189 (gd rfl) rfl rfl ?_
            refine g_lastore 190 (gd rfl) rfl (n := 9) rfl (in_ix (in_c 7 rfl) rfl) ?_
            have hI189 := inv_sL (q := 106) (j := (Int32.ofInt 7).toNatClampNeg) (x := y21_6) hI180 rfl (l_rng y21_6)
            refine g_aload_n 191 (gd rfl) rfl rfl ?_
            refine g_getA (q2 := 106) 194 (gd rfl) rfl rfl rfl rfl ?_
            refine g_bipush 8 196 (gd rfl) rfl rfl ?_
            refine g_lload 198 (gd rfl) rfl rfl ?_
            refine g_lastore 199 (gd rfl) rfl (n := 9) rfl (in_ix (in_c 8 rfl) rfl) ?_
            have hI198 := inv_sL (q := 106) (j := (Int32.ofInt 8).toNatClampNeg) (x := y21_8) hI189 rfl (l_rng y21_8)
            exact g_return (gd rfl) rfl (hP _ _ ⟨(sL (sL (sL (sL (sL (sL (sL (sL (sL sc21 106 (Int32.ofInt 0).toNatClampNeg z114) 106 (Int32.ofInt 1).toNatClampNeg z122) 106 (Int32.ofInt 2).toNatClampNeg z135) 106 (Int32.ofInt 3).toNatClampNeg z147) 106 (Int32.ofInt 4).toNatClampNeg z159) 106 (Int32.ofInt 5).toNatClampNeg z167) 106 (Int32.ofInt 6).toNatClampNeg (Int64.ofInt 1000000000000)) 106 (Int32.ofInt 7).toNatClampNeg y21_6) 106 (Int32.ofInt 8).toNatClampNeg y21_8), hI198, (fr_sL rfl (fr_sL rfl (fr_sL rfl (fr_sL rfl (fr_sL rfl (fr_sL rfl (fr_sL rfl (fr_sL rfl (fr_sL rfl hFc21))))))))), rfl, rfl⟩)
          · skip
            have i177x10x3 := z_ge 0 1 c177x10x3 i177x10x2 rfl
            have c177x10x3a := lc_ge e177x10x2 c177x10x3
            exact ln_le c177x10x3a (l_c 1000000000000 rfl) (l_c (-1000000000000) rfl) rfl
      · skip
        have i31 := r_lt1 0 159 c31 j21_10 i30 rfl
        have i31a := r_lt2 1 160 c31 j21_10 i30 rfl
        refine g_aload_n 35 (gd rfl) rfl rfl ?_
        refine g_getA (q2 := 15) 38 (gd rfl) rfl rfl rfl rfl ?_
        refine g_iload 40 (gd rfl) rfl rfl ?_
        refine g_iaload 41 (gd rfl) rfl (n := 160) rfl (in_ix i31 rfl) (fun z40 e40 => ?_)
        have i40 := inv_I hIc21 (n := 160) (t := 0) 0 159 rfl (in_ix i31 rfl) rfl e40
        refine g_istore 43 (gd rfl) rfl (Nat.le_of_ble_eq_true rfl) ?_
        refine g_aload_n 44 (gd rfl) rfl rfl ?_
        refine g_getA (q2 := 108) 47 (gd rfl) rfl rfl rfl rfl ?_
        refine g_aload_n 48 (gd rfl) rfl rfl ?_
        refine g_getA (q2 := 4) 51 (gd rfl) rfl rfl rfl rfl ?_
        refine g_iload 53 (gd rfl) rfl rfl ?_
        refine g_iaload 54 (gd rfl) rfl (n := 160) rfl (in_ix i40 rfl) (fun z53 e53 => ?_)
        have i53 := inv_I hIc21 (n := 160) (t := 0) (-1) 31 rfl (in_ix i40 rfl) rfl e53
        have i54 : In z53 0 31 := by exact tg_b (b := 2) hIc21.2.1 rfl rfl rfl rfl rfl (by rw [← (show u_2_4 = sc21.2.2.1 2 4 from fr_F e_2_4 hFc21 rfl), ← (show u_2_0 = sc21.2.2.1 2 0 from fr_F e_2_0 hFc21 rfl)]; exact p_0) e30 i29 i31 c31 e40 e53 i53
        refine g_laload 55 (gd rfl) rfl (n := 32) rfl (in_ix i54 rfl) (fun z54 e54 => ?_)
        refine g_lstore 57 (gd rfl) rfl (Nat.le_of_ble_eq_true rfl) ?_
        refine g_lload 59 (gd rfl) rfl rfl ?_
        refine g_aload_n 60 (gd rfl) rfl rfl ?_
        refine g_getA (q2 := 6) 63 (gd rfl) rfl rfl rfl rfl ?_
        refine g_iload 65 (gd rfl) rfl rfl ?_
        refine g_iaload 66 (gd rfl) rfl (n := 160) rfl (in_ix i40 rfl) (fun z65 e65 => ?_)
        have i65 := inv_I hIc21 (n := 160) (t := 0) (-1000000) 1000000 rfl (in_ix i40 rfl) rfl e65
        refine g_i2l 67 (gd rfl) rfl (fun z66 e66 => ?_)
        have i66 := l_i e66 i65
        refine g_ladd 68 (gd rfl) rfl (fun z67 e67 => ?_)
        refine g_calls (As := [.long z67]) (r := []) 71 (gd rfl) rfl rfl rfl rfl rfl (Nat.le_of_ble_eq_true rfl) (mc := 0) (ms := 0) (Nat.zero_le _) (Nat.zero_le _) (P := fun v u => _) ?_ (fun v u h => h)
        intro po68 xx68 hp68 hx68
        refine g_enter2 (k := 69) (N := 300) (by first | exact dq1 hd rfl | exact dq0 hd rfl | exact dq2 hd rfl | exact dq3 hd rfl | omega) rfl (Nat.le_of_ble_eq_true rfl) ?_
        refine g_ldc2_w (-1000000000000) 3 (gd rfl) rfl rfl ?_
        refine g_ldc2_w 1000000000000 6 (gd rfl) rfl rfl ?_
        refine g_lload_n 7 (gd rfl) rfl rfl ?_
        refine g_calls (As := [.long (Int64.ofInt 1000000000000), .long z67]) (r := [.long (Int64.ofInt (-1000000000000))]) 10 (gd rfl) rfl rfl rfl rfl rfl (Nat.le_of_ble_eq_true rfl) (mc := 0) (ms := 0) (Nat.zero_le _) (Nat.zero_le _) (P := fun v u => _) ?_ (fun v u h => h)
        intro po68x7 xx68x7 hp68x7 hx68x7
        refine g_enter2 (k := 425) (N := 300) (by first | exact dq1 hd rfl | exact dq0 hd rfl | exact dq2 hd rfl | exact dq3 hd rfl | omega) rfl (Nat.le_of_ble_eq_true rfl) ?_
        refine g_lload_n 1 (gd rfl) rfl rfl ?_
        refine g_lload_n 2 (gd rfl) rfl rfl ?_
        refine g_lcmp 3 (gd rfl) rfl (fun z68x7x2 e68x7x2 => ?_)
        have i68x7x2 := lc_in e68x7x2
        refine g_if_gt 6 10 (gd rfl) rfl rfl (fun c68x7x3 => ?_) (fun c68x7x3 => ?_)
        · skip
          have i68x7x3 := z_gt 1 1 c68x7x3 i68x7x2 rfl
          have c68x7x3a := lc_gt e68x7x2 c68x7x3
          have i68x7x3a := lr_lt1 (-9223372036854775808) 999999999999 c68x7x3a (l_rng z67) (l_c 1000000000000 rfl) rfl
          refine g_lload_n 11 (gd rfl) rfl rfl ?_
          refine g_lreturn (gd rfl) rfl (hp68x7 _ _ ?_)
          show GG _ _ _ _ _ _ _ _ [.long z67, .long (Int64.ofInt (-1000000000000))] _ _ _
          refine g_calls (As := [.long (Int64.ofInt (-1000000000000)), .long z67]) (r := []) 13 (gd rfl) rfl rfl rfl rfl rfl (Nat.le_of_ble_eq_true rfl) (mc := 0) (ms := 0) (Nat.zero_le _) (Nat.zero_le _) (P := fun v u => _) ?_ (fun v u h => h)
          intro po68x10 xx68x10 hp68x10 hx68x10
          refine g_enter2 (k := 423) (N := 300) (by first | exact dq1 hd rfl | exact dq0 hd rfl | exact dq2 hd rfl | exact dq3 hd rfl | omega) rfl (Nat.le_of_ble_eq_true rfl) ?_
          refine g_lload_n 1 (gd rfl) rfl rfl ?_
          refine g_lload_n 2 (gd rfl) rfl rfl ?_
          refine g_lcmp 3 (gd rfl) rfl (fun z68x10x2 e68x10x2 => ?_)
          have i68x10x2 := lc_in e68x10x2
          refine g_if_lt 6 10 (gd rfl) rfl rfl (fun c68x10x3 => ?_) (fun c68x10x3 => ?_)
          · skip
            have i68x10x3 := z_lt (-1) (-1) c68x10x3 i68x10x2 rfl
            have c68x10x3a := lc_lt e68x10x2 c68x10x3
            have i68x10x3a := lr_lt2 (-999999999999) 999999999999 c68x10x3a (l_c (-1000000000000) rfl) i68x7x3a rfl
            refine g_lload_n 11 (gd rfl) rfl rfl ?_
            refine g_lreturn (gd rfl) rfl (hp68x10 _ _ ?_)
            show GG _ _ _ _ _ _ _ _ [.long z67] _ _ _
            refine g_lreturn (gd rfl) rfl (hp68 _ _ ?_)
            show GG _ _ _ _ _ _ _ _ [.long z67] _ _ _
            refine g_lstore 73 (gd rfl) rfl (Nat.le_of_ble_eq_true rfl) ?_
            refine g_lload 75 (gd rfl) rfl rfl ?_
            refine g_lload 77 (gd rfl) rfl rfl ?_
            refine g_ladd 78 (gd rfl) rfl (fun z77 e77 => ?_)
            refine g_lstore 80 (gd rfl) rfl (Nat.le_of_ble_eq_true rfl) ?_
            refine g_lload 82 (gd rfl) rfl rfl ?_
            refine g_lload 84 (gd rfl) rfl rfl ?_
            refine g_calls (As := [.long y21_6, .long z67]) (r := []) 87 (gd rfl) rfl rfl rfl rfl rfl (Nat.le_of_ble_eq_true rfl) (mc := 0) (ms := 0) (Nat.zero_le _) (Nat.zero_le _) (P := fun v u => _) ?_ (fun v u h => h)
            intro po84 xx84 hp84 hx84
            refine g_enter2 (k := 425) (N := 300) (by first | exact dq1 hd rfl | exact dq0 hd rfl | exact dq2 hd rfl | exact dq3 hd rfl | omega) rfl (Nat.le_of_ble_eq_true rfl) ?_
            refine g_lload_n 1 (gd rfl) rfl rfl ?_
            refine g_lload_n 2 (gd rfl) rfl rfl ?_
            refine g_lcmp 3 (gd rfl) rfl (fun z84x2 e84x2 => ?_)
            have i84x2 := lc_in e84x2
            refine g_if_gt 6 10 (gd rfl) rfl rfl (fun c84x3 => ?_) (fun c84x3 => ?_)
            · skip
              have i84x3 := z_gt 1 1 c84x3 i84x2 rfl
              have c84x3a := lc_gt e84x2 c84x3
              have i84x3a := lr_lt2 (-999999999998) 9223372036854775807 c84x3a i68x10x3a (l_rng y21_6) rfl
              refine g_lload_n 11 (gd rfl) rfl rfl ?_
              refine g_lreturn (gd rfl) rfl (hp84 _ _ ?_)
              show GG _ _ _ _ _ _ _ _ [.long z67] _ _ _
              refine g_lstore 89 (gd rfl) rfl (Nat.le_of_ble_eq_true rfl) ?_
              refine g_lload 91 (gd rfl) rfl rfl ?_
              refine g_lload 93 (gd rfl) rfl rfl ?_
              refine g_calls (As := [.long y21_8, .long z67]) (r := []) 96 (gd rfl) rfl rfl rfl rfl rfl (Nat.le_of_ble_eq_true rfl) (mc := 0) (ms := 0) (Nat.zero_le _) (Nat.zero_le _) (P := fun v u => _) ?_ (fun v u h => h)
              intro po93 xx93 hp93 hx93
              refine g_enter2 (k := 423) (N := 300) (by first | exact dq1 hd rfl | exact dq0 hd rfl | exact dq2 hd rfl | exact dq3 hd rfl | omega) rfl (Nat.le_of_ble_eq_true rfl) ?_
              refine g_lload_n 1 (gd rfl) rfl rfl ?_
              refine g_lload_n 2 (gd rfl) rfl rfl ?_
              refine g_lcmp 3 (gd rfl) rfl (fun z93x2 e93x2 => ?_)
              have i93x2 := lc_in e93x2
              refine g_if_lt 6 10 (gd rfl) rfl rfl (fun c93x3 => ?_) (fun c93x3 => ?_)
              · skip
                have i93x3 := z_lt (-1) (-1) c93x3 i93x2 rfl
                have c93x3a := lc_lt e93x2 c93x3
                have i93x3a := lr_lt1 (-9223372036854775808) 999999999998 c93x3a (l_rng y21_8) i68x10x3a rfl
                refine g_lload_n 11 (gd rfl) rfl rfl ?_
                refine g_lreturn (gd rfl) rfl (hp93 _ _ ?_)
                show GG _ _ _ _ _ _ _ _ [.long z67] _ _ _
                refine g_lstore 98 (gd rfl) rfl (Nat.le_of_ble_eq_true rfl) ?_
                refine g_iinc 101 (gd rfl) rfl rfl (Nat.le_of_ble_eq_true rfl) (fun z98 e98 => ?_)
                have i98 := in_add 1 160 e98 i31 (in_c 1 rfl) rfl rfl
                refine g_goto 21 (gd rfl) rfl ?_
                exact gg_w (by first | exact Nat.le_add_right _ _ | exact gw2 | exact gw3 | exact gwe rfl | exact gwf rfl | exact gwg rfl | exact gwh rfl | omega) (gg_f (gf_cons rfl (gf_cons rfl (gf_cons rfl (gf_cons rfl (gf_cons rfl (gf_cons rfl (gf_cons rfl (gf_cons rfl gf_nil)))))))) (ih21 sc21 z77 z67 z67 z98 hIc21 hFc21 (in_w 0 160 i98 rfl) (m_up mm21 (t_add e98 i31 (in_c 1 rfl) rfl) (in_w 1 1 (in_c 1 rfl) rfl))))
              · skip
                have i93x3 := z_ge 0 1 c93x3 i93x2 rfl
                have c93x3a := lc_ge e93x2 c93x3
                have i93x3a := lr_le2 (-999999999999) 9223372036854775807 c93x3a i68x10x3a (l_rng y21_8) rfl
                refine g_lload_n 7 (gd rfl) rfl rfl ?_
                refine g_goto 11 (gd rfl) rfl ?_
                refine g_lreturn (gd rfl) rfl (hp93 _ _ ?_)
                show GG _ _ _ _ _ _ _ _ [.long y21_8] _ _ _
                refine g_lstore 98 (gd rfl) rfl (Nat.le_of_ble_eq_true rfl) ?_
                refine g_iinc 101 (gd rfl) rfl rfl (Nat.le_of_ble_eq_true rfl) (fun z98 e98 => ?_)
                have i98 := in_add 1 160 e98 i31 (in_c 1 rfl) rfl rfl
                refine g_goto 21 (gd rfl) rfl ?_
                exact gg_w (by first | exact Nat.le_add_right _ _ | exact gw2 | exact gw3 | exact gwe rfl | exact gwf rfl | exact gwg rfl | exact gwh rfl | omega) (gg_f (gf_cons rfl (gf_cons rfl (gf_cons rfl (gf_cons rfl (gf_cons rfl (gf_cons rfl (gf_cons rfl (gf_cons rfl gf_nil)))))))) (ih21 sc21 z77 z67 y21_8 z98 hIc21 hFc21 (in_w 0 160 i98 rfl) (m_up mm21 (t_add e98 i31 (in_c 1 rfl) rfl) (in_w 1 1 (in_c 1 rfl) rfl))))
            · skip
              have i84x3 := z_le (-1) 0 c84x3 i84x2 rfl
              have c84x3a := lc_le e84x2 c84x3
              have i84x3a := lr_le1 (-9223372036854775808) 999999999999 c84x3a (l_rng y21_6) i68x10x3a rfl
              refine g_lload_n 7 (gd rfl) rfl rfl ?_
              refine g_goto 11 (gd rfl) rfl ?_
              refine g_lreturn (gd rfl) rfl (hp84 _ _ ?_)
              show GG _ _ _ _ _ _ _ _ [.long y21_6] _ _ _
              refine g_lstore 89 (gd rfl) rfl (Nat.le_of_ble_eq_true rfl) ?_
              refine g_lload 91 (gd rfl) rfl rfl ?_
              refine g_lload 93 (gd rfl) rfl rfl ?_
              refine g_calls (As := [.long y21_8, .long z67]) (r := []) 96 (gd rfl) rfl rfl rfl rfl rfl (Nat.le_of_ble_eq_true rfl) (mc := 0) (ms := 0) (Nat.zero_le _) (Nat.zero_le _) (P := fun v u => _) ?_ (fun v u h => h)
              intro po93 xx93 hp93 hx93
              refine g_enter2 (k := 423) (N := 300) (by first | exact dq1 hd rfl | exact dq0 hd rfl | exact dq2 hd rfl | exact dq3 hd rfl | omega) rfl (Nat.le_of_ble_eq_true rfl) ?_
              refine g_lload_n 1 (gd rfl) rfl rfl ?_
              refine g_lload_n 2 (gd rfl) rfl rfl ?_
              refine g_lcmp 3 (gd rfl) rfl (fun z93x2 e93x2 => ?_)
              have i93x2 := lc_in e93x2
              refine g_if_lt 6 10 (gd rfl) rfl rfl (fun c93x3 => ?_) (fun c93x3 => ?_)
              · skip
                have i93x3 := z_lt (-1) (-1) c93x3 i93x2 rfl
                have c93x3a := lc_lt e93x2 c93x3
                have i93x3a := lr_lt1 (-9223372036854775808) 999999999998 c93x3a (l_rng y21_8) i68x10x3a rfl
                refine g_lload_n 11 (gd rfl) rfl rfl ?_
                refine g_lreturn (gd rfl) rfl (hp93 _ _ ?_)
                show GG _ _ _ _ _ _ _ _ [.long z67] _ _ _
                refine g_lstore 98 (gd rfl) rfl (Nat.le_of_ble_eq_true rfl) ?_
                refine g_iinc 101 (gd rfl) rfl rfl (Nat.le_of_ble_eq_true rfl) (fun z98 e98 => ?_)
                have i98 := in_add 1 160 e98 i31 (in_c 1 rfl) rfl rfl
                refine g_goto 21 (gd rfl) rfl ?_
                exact gg_w (by first | exact Nat.le_add_right _ _ | exact gw2 | exact gw3 | exact gwe rfl | exact gwf rfl | exact gwg rfl | exact gwh rfl | omega) (gg_f (gf_cons rfl (gf_cons rfl (gf_cons rfl (gf_cons rfl (gf_cons rfl (gf_cons rfl (gf_cons rfl (gf_cons rfl gf_nil)))))))) (ih21 sc21 z77 y21_6 z67 z98 hIc21 hFc21 (in_w 0 160 i98 rfl) (m_up mm21 (t_add e98 i31 (in_c 1 rfl) rfl) (in_w 1 1 (in_c 1 rfl) rfl))))
              · skip
                have i93x3 := z_ge 0 1 c93x3 i93x2 rfl
                have c93x3a := lc_ge e93x2 c93x3
                have i93x3a := lr_le2 (-999999999999) 9223372036854775807 c93x3a i68x10x3a (l_rng y21_8) rfl
                refine g_lload_n 7 (gd rfl) rfl rfl ?_
                refine g_goto 11 (gd rfl) rfl ?_
                refine g_lreturn (gd rfl) rfl (hp93 _ _ ?_)
                show GG _ _ _ _ _ _ _ _ [.long y21_8] _ _ _
                refine g_lstore 98 (gd rfl) rfl (Nat.le_of_ble_eq_true rfl) ?_
                refine g_iinc 101 (gd rfl) rfl rfl (Nat.le_of_ble_eq_true rfl) (fun z98 e98 => ?_)
                have i98 := in_add 1 160 e98 i31 (in_c 1 rfl) rfl rfl
                refine g_goto 21 (gd rfl) rfl ?_
                exact gg_w (by first | exact Nat.le_add_right _ _ | exact gw2 | exact gw3 | exact gwe rfl | exact gwf rfl | exact gwg rfl | exact gwh rfl | omega) (gg_f (gf_cons rfl (gf_cons rfl (gf_cons rfl (gf_cons rfl (gf_cons rfl (gf_cons rfl (gf_cons rfl (gf_cons rfl gf_nil)))))))) (ih21 sc21 z77 y21_6 y21_8 z98 hIc21 hFc21 (in_w 0 160 i98 rfl) (m_up mm21 (t_add e98 i31 (in_c 1 rfl) rfl) (in_w 1 1 (in_c 1 rfl) rfl))))
          · skip
            have i68x10x3 := z_ge 0 1 c68x10x3 i68x10x2 rfl
            have c68x10x3a := lc_ge e68x10x2 c68x10x3
            have i68x10x3a := lr_le1 (-9223372036854775808) (-1000000000000) c68x10x3a i68x7x3a (l_c (-1000000000000) rfl) rfl
            refine g_lload_n 7 (gd rfl) rfl rfl ?_
            refine g_goto 11 (gd rfl) rfl ?_
            refine g_lreturn (gd rfl) rfl (hp68x10 _ _ ?_)
            show GG _ _ _ _ _ _ _ _ [.long (Int64.ofInt (-1000000000000))] _ _ _
            refine g_lreturn (gd rfl) rfl (hp68 _ _ ?_)
            show GG _ _ _ _ _ _ _ _ [.long (Int64.ofInt (-1000000000000))] _ _ _
            refine g_lstore 73 (gd rfl) rfl (Nat.le_of_ble_eq_true rfl) ?_
            refine g_lload 75 (gd rfl) rfl rfl ?_
            refine g_lload 77 (gd rfl) rfl rfl ?_
            refine g_ladd 78 (gd rfl) rfl (fun z77 e77 => ?_)
            refine g_lstore 80 (gd rfl) rfl (Nat.le_of_ble_eq_true rfl) ?_
            refine g_lload 82 (gd rfl) rfl rfl ?_
            refine g_lload 84 (gd rfl) rfl rfl ?_
            refine g_calls (As := [.long y21_6, .long (Int64.ofInt (-1000000000000))]) (r := []) 87 (gd rfl) rfl rfl rfl rfl rfl (Nat.le_of_ble_eq_true rfl) (mc := 0) (ms := 0) (Nat.zero_le _) (Nat.zero_le _) (P := fun v u => _) ?_ (fun v u h => h)
            intro po84 xx84 hp84 hx84
            refine g_enter2 (k := 425) (N := 300) (by first | exact dq1 hd rfl | exact dq0 hd rfl | exact dq2 hd rfl | exact dq3 hd rfl | omega) rfl (Nat.le_of_ble_eq_true rfl) ?_
            refine g_lload_n 1 (gd rfl) rfl rfl ?_
            refine g_lload_n 2 (gd rfl) rfl rfl ?_
            refine g_lcmp 3 (gd rfl) rfl (fun z84x2 e84x2 => ?_)
            have i84x2 := lc_in e84x2
            refine g_if_gt 6 10 (gd rfl) rfl rfl (fun c84x3 => ?_) (fun c84x3 => ?_)
            · skip
              have i84x3 := z_gt 1 1 c84x3 i84x2 rfl
              have c84x3a := lc_gt e84x2 c84x3
              have i84x3a := lr_lt2 (-999999999999) 9223372036854775807 c84x3a (l_c (-1000000000000) rfl) (l_rng y21_6) rfl
              refine g_lload_n 11 (gd rfl) rfl rfl ?_
              refine g_lreturn (gd rfl) rfl (hp84 _ _ ?_)
              show GG _ _ _ _ _ _ _ _ [.long (Int64.ofInt (-1000000000000))] _ _ _
              refine g_lstore 89 (gd rfl) rfl (Nat.le_of_ble_eq_true rfl) ?_
              refine g_lload 91 (gd rfl) rfl rfl ?_
              refine g_lload 93 (gd rfl) rfl rfl ?_
              refine g_calls (As := [.long y21_8, .long (Int64.ofInt (-1000000000000))]) (r := []) 96 (gd rfl) rfl rfl rfl rfl rfl (Nat.le_of_ble_eq_true rfl) (mc := 0) (ms := 0) (Nat.zero_le _) (Nat.zero_le _) (P := fun v u => _) ?_ (fun v u h => h)
              intro po93 xx93 hp93 hx93
              refine g_enter2 (k := 423) (N := 300) (by first | exact dq1 hd rfl | exact dq0 hd rfl | exact dq2 hd rfl | exact dq3 hd rfl | omega) rfl (Nat.le_of_ble_eq_true rfl) ?_
              refine g_lload_n 1 (gd rfl) rfl rfl ?_
              refine g_lload_n 2 (gd rfl) rfl rfl ?_
              refine g_lcmp 3 (gd rfl) rfl (fun z93x2 e93x2 => ?_)
              have i93x2 := lc_in e93x2
              refine g_if_lt 6 10 (gd rfl) rfl rfl (fun c93x3 => ?_) (fun c93x3 => ?_)
              · skip
                have i93x3 := z_lt (-1) (-1) c93x3 i93x2 rfl
                have c93x3a := lc_lt e93x2 c93x3
                have i93x3a := lr_lt1 (-9223372036854775808) (-1000000000001) c93x3a (l_rng y21_8) (l_c (-1000000000000) rfl) rfl
                refine g_lload_n 11 (gd rfl) rfl rfl ?_
                refine g_lreturn (gd rfl) rfl (hp93 _ _ ?_)
                show GG _ _ _ _ _ _ _ _ [.long (Int64.ofInt (-1000000000000))] _ _ _
                refine g_lstore 98 (gd rfl) rfl (Nat.le_of_ble_eq_true rfl) ?_
                refine g_iinc 101 (gd rfl) rfl rfl (Nat.le_of_ble_eq_true rfl) (fun z98 e98 => ?_)
                have i98 := in_add 1 160 e98 i31 (in_c 1 rfl) rfl rfl
                refine g_goto 21 (gd rfl) rfl ?_
                exact gg_w (by first | exact Nat.le_add_right _ _ | exact gw2 | exact gw3 | exact gwe rfl | exact gwf rfl | exact gwg rfl | exact gwh rfl | omega) (gg_f (gf_cons rfl (gf_cons rfl (gf_cons rfl (gf_cons rfl (gf_cons rfl (gf_cons rfl (gf_cons rfl (gf_cons rfl gf_nil)))))))) (ih21 sc21 z77 (Int64.ofInt (-1000000000000)) (Int64.ofInt (-1000000000000)) z98 hIc21 hFc21 (in_w 0 160 i98 rfl) (m_up mm21 (t_add e98 i31 (in_c 1 rfl) rfl) (in_w 1 1 (in_c 1 rfl) rfl))))
              · skip
                have i93x3 := z_ge 0 1 c93x3 i93x2 rfl
                have c93x3a := lc_ge e93x2 c93x3
                have i93x3a := lr_le2 (-1000000000000) 9223372036854775807 c93x3a (l_c (-1000000000000) rfl) (l_rng y21_8) rfl
                refine g_lload_n 7 (gd rfl) rfl rfl ?_
                refine g_goto 11 (gd rfl) rfl ?_
                refine g_lreturn (gd rfl) rfl (hp93 _ _ ?_)
                show GG _ _ _ _ _ _ _ _ [.long y21_8] _ _ _
                refine g_lstore 98 (gd rfl) rfl (Nat.le_of_ble_eq_true rfl) ?_
                refine g_iinc 101 (gd rfl) rfl rfl (Nat.le_of_ble_eq_true rfl) (fun z98 e98 => ?_)
                have i98 := in_add 1 160 e98 i31 (in_c 1 rfl) rfl rfl
                refine g_goto 21 (gd rfl) rfl ?_
                exact gg_w (by first | exact Nat.le_add_right _ _ | exact gw2 | exact gw3 | exact gwe rfl | exact gwf rfl | exact gwg rfl | exact gwh rfl | omega) (gg_f (gf_cons rfl (gf_cons rfl (gf_cons rfl (gf_cons rfl (gf_cons rfl (gf_cons rfl (gf_cons rfl (gf_cons rfl gf_nil)))))))) (ih21 sc21 z77 (Int64.ofInt (-1000000000000)) y21_8 z98 hIc21 hFc21 (in_w 0 160 i98 rfl) (m_up mm21 (t_add e98 i31 (in_c 1 rfl) rfl) (in_w 1 1 (in_c 1 rfl) rfl))))
            · skip
              have i84x3 := z_le (-1) 0 c84x3 i84x2 rfl
              have c84x3a := lc_le e84x2 c84x3
              have i84x3a := lr_le1 (-9223372036854775808) (-1000000000000) c84x3a (l_rng y21_6) (l_c (-1000000000000) rfl) rfl
              refine g_lload_n 7 (gd rfl) rfl rfl ?_
              refine g_goto 11 (gd rfl) rfl ?_
              refine g_lreturn (gd rfl) rfl (hp84 _ _ ?_)
              show GG _ _ _ _ _ _ _ _ [.long y21_6] _ _ _
              refine g_lstore 89 (gd rfl) rfl (Nat.le_of_ble_eq_true rfl) ?_
              refine g_lload 91 (gd rfl) rfl rfl ?_
              refine g_lload 93 (gd rfl) rfl rfl ?_
              refine g_calls (As := [.long y21_8, .long (Int64.ofInt (-1000000000000))]) (r := []) 96 (gd rfl) rfl rfl rfl rfl rfl (Nat.le_of_ble_eq_true rfl) (mc := 0) (ms := 0) (Nat.zero_le _) (Nat.zero_le _) (P := fun v u => _) ?_ (fun v u h => h)
              intro po93 xx93 hp93 hx93
              refine g_enter2 (k := 423) (N := 300) (by first | exact dq1 hd rfl | exact dq0 hd rfl | exact dq2 hd rfl | exact dq3 hd rfl | omega) rfl (Nat.le_of_ble_eq_true rfl) ?_
              refine g_lload_n 1 (gd rfl) rfl rfl ?_
              refine g_lload_n 2 (gd rfl) rfl rfl ?_
              refine g_lcmp 3 (gd rfl) rfl (fun z93x2 e93x2 => ?_)
              have i93x2 := lc_in e93x2
              refine g_if_lt 6 10 (gd rfl) rfl rfl (fun c93x3 => ?_) (fun c93x3 => ?_)
              · skip
                have i93x3 := z_lt (-1) (-1) c93x3 i93x2 rfl
                have c93x3a := lc_lt e93x2 c93x3
                have i93x3a := lr_lt1 (-9223372036854775808) (-1000000000001) c93x3a (l_rng y21_8) (l_c (-1000000000000) rfl) rfl
                refine g_lload_n 11 (gd rfl) rfl rfl ?_
                refine g_lreturn (gd rfl) rfl (hp93 _ _ ?_)
                show GG _ _ _ _ _ _ _ _ [.long (Int64.ofInt (-1000000000000))] _ _ _
                refine g_lstore 98 (gd rfl) rfl (Nat.le_of_ble_eq_true rfl) ?_
                refine g_iinc 101 (gd rfl) rfl rfl (Nat.le_of_ble_eq_true rfl) (fun z98 e98 => ?_)
                have i98 := in_add 1 160 e98 i31 (in_c 1 rfl) rfl rfl
                refine g_goto 21 (gd rfl) rfl ?_
                exact gg_w (by first | exact Nat.le_add_right _ _ | exact gw2 | exact gw3 | exact gwe rfl | exact gwf rfl | exact gwg rfl | exact gwh rfl | omega) (gg_f (gf_cons rfl (gf_cons rfl (gf_cons rfl (gf_cons rfl (gf_cons rfl (gf_cons rfl (gf_cons rfl (gf_cons rfl gf_nil)))))))) (ih21 sc21 z77 y21_6 (Int64.ofInt (-1000000000000)) z98 hIc21 hFc21 (in_w 0 160 i98 rfl) (m_up mm21 (t_add e98 i31 (in_c 1 rfl) rfl) (in_w 1 1 (in_c 1 rfl) rfl))))
              · skip
                have i93x3 := z_ge 0 1 c93x3 i93x2 rfl
                have c93x3a := lc_ge e93x2 c93x3
                have i93x3a := lr_le2 (-1000000000000) 9223372036854775807 c93x3a (l_c (-1000000000000) rfl) (l_rng y21_8) rfl
                refine g_lload_n 7 (gd rfl) rfl rfl ?_
                refine g_goto 11 (gd rfl) rfl ?_
                refine g_lreturn (gd rfl) rfl (hp93 _ _ ?_)
                show GG _ _ _ _ _ _ _ _ [.long y21_8] _ _ _
                refine g_lstore 98 (gd rfl) rfl (Nat.le_of_ble_eq_true rfl) ?_
                refine g_iinc 101 (gd rfl) rfl rfl (Nat.le_of_ble_eq_true rfl) (fun z98 e98 => ?_)
                have i98 := in_add 1 160 e98 i31 (in_c 1 rfl) rfl rfl
                refine g_goto 21 (gd rfl) rfl ?_
                exact gg_w (by first | exact Nat.le_add_right _ _ | exact gw2 | exact gw3 | exact gwe rfl | exact gwf rfl | exact gwg rfl | exact gwh rfl | omega) (gg_f (gf_cons rfl (gf_cons rfl (gf_cons rfl (gf_cons rfl (gf_cons rfl (gf_cons rfl (gf_cons rfl (gf_cons rfl gf_nil)))))))) (ih21 sc21 z77 y21_6 y21_8 z98 hIc21 hFc21 (in_w 0 160 i98 rfl) (m_up mm21 (t_add e98 i31 (in_c 1 rfl) rfl) (in_w 1 1 (in_c 1 rfl) rfl))))
        · skip
          have i68x7x3 := z_le (-1) 0 c68x7x3 i68x7x2 rfl
          have c68x7x3a := lc_le e68x7x2 c68x7x3
          have i68x7x3a := lr_le2 1000000000000 9223372036854775807 c68x7x3a (l_c 1000000000000 rfl) (l_rng z67) rfl
          refine g_lload_n 7 (gd rfl) rfl rfl ?_
          refine g_goto 11 (gd rfl) rfl ?_
          refine g_lreturn (gd rfl) rfl (hp68x7 _ _ ?_)
          show GG _ _ _ _ _ _ _ _ [.long (Int64.ofInt 1000000000000), .long (Int64.ofInt (-1000000000000))] _ _ _
          refine g_calls (As := [.long (Int64.ofInt (-1000000000000)), .long (Int64.ofInt 1000000000000)]) (r := []) 13 (gd rfl) rfl rfl rfl rfl rfl (Nat.le_of_ble_eq_true rfl) (mc := 0) (ms := 0) (Nat.zero_le _) (Nat.zero_le _) (P := fun v u => _) ?_ (fun v u h => h)
          intro po68x10 xx68x10 hp68x10 hx68x10
          refine g_enter2 (k := 423) (N := 300) (by first | exact dq1 hd rfl | exact dq0 hd rfl | exact dq2 hd rfl | exact dq3 hd rfl | omega) rfl (Nat.le_of_ble_eq_true rfl) ?_
          refine g_lload_n 1 (gd rfl) rfl rfl ?_
          refine g_lload_n 2 (gd rfl) rfl rfl ?_
          refine g_lcmp 3 (gd rfl) rfl (fun z68x10x2 e68x10x2 => ?_)
          have i68x10x2 := lc_in e68x10x2
          refine g_if_lt 6 10 (gd rfl) rfl rfl (fun c68x10x3 => ?_) (fun c68x10x3 => ?_)
          · skip
            have i68x10x3 := z_lt (-1) (-1) c68x10x3 i68x10x2 rfl
            have c68x10x3a := lc_lt e68x10x2 c68x10x3
            refine g_lload_n 11 (gd rfl) rfl rfl ?_
            refine g_lreturn (gd rfl) rfl (hp68x10 _ _ ?_)
            show GG _ _ _ _ _ _ _ _ [.long (Int64.ofInt 1000000000000)] _ _ _
            refine g_lreturn (gd rfl) rfl (hp68 _ _ ?_)
            show GG _ _ _ _ _ _ _ _ [.long (Int64.ofInt 1000000000000)] _ _ _
            refine g_lstore 73 (gd rfl) rfl (Nat.le_of_ble_eq_true rfl) ?_
            refine g_lload 75 (gd rfl) rfl rfl ?_
            refine g_lload 77 (gd rfl) rfl rfl ?_
            refine g_ladd 78 (gd rfl) rfl (fun z77 e77 => ?_)
            refine g_lstore 80 (gd rfl) rfl (Nat.le_of_ble_eq_true rfl) ?_
            refine g_lload 82 (gd rfl) rfl rfl ?_
            refine g_lload 84 (gd rfl) rfl rfl ?_
            refine g_calls (As := [.long y21_6, .long (Int64.ofInt 1000000000000)]) (r := []) 87 (gd rfl) rfl rfl rfl rfl rfl (Nat.le_of_ble_eq_true rfl) (mc := 0) (ms := 0) (Nat.zero_le _) (Nat.zero_le _) (P := fun v u => _) ?_ (fun v u h => h)
            intro po84 xx84 hp84 hx84
            refine g_enter2 (k := 425) (N := 300) (by first | exact dq1 hd rfl | exact dq0 hd rfl | exact dq2 hd rfl | exact dq3 hd rfl | omega) rfl (Nat.le_of_ble_eq_true rfl) ?_
            refine g_lload_n 1 (gd rfl) rfl rfl ?_
            refine g_lload_n 2 (gd rfl) rfl rfl ?_
            refine g_lcmp 3 (gd rfl) rfl (fun z84x2 e84x2 => ?_)
            have i84x2 := lc_in e84x2
            refine g_if_gt 6 10 (gd rfl) rfl rfl (fun c84x3 => ?_) (fun c84x3 => ?_)
            · skip
              have i84x3 := z_gt 1 1 c84x3 i84x2 rfl
              have c84x3a := lc_gt e84x2 c84x3
              have i84x3a := lr_lt2 1000000000001 9223372036854775807 c84x3a (l_c 1000000000000 rfl) (l_rng y21_6) rfl
              refine g_lload_n 11 (gd rfl) rfl rfl ?_
              refine g_lreturn (gd rfl) rfl (hp84 _ _ ?_)
              show GG _ _ _ _ _ _ _ _ [.long (Int64.ofInt 1000000000000)] _ _ _
              refine g_lstore 89 (gd rfl) rfl (Nat.le_of_ble_eq_true rfl) ?_
              refine g_lload 91 (gd rfl) rfl rfl ?_
              refine g_lload 93 (gd rfl) rfl rfl ?_
              refine g_calls (As := [.long y21_8, .long (Int64.ofInt 1000000000000)]) (r := []) 96 (gd rfl) rfl rfl rfl rfl rfl (Nat.le_of_ble_eq_true rfl) (mc := 0) (ms := 0) (Nat.zero_le _) (Nat.zero_le _) (P := fun v u => _) ?_ (fun v u h => h)
              intro po93 xx93 hp93 hx93
              refine g_enter2 (k := 423) (N := 300) (by first | exact dq1 hd rfl | exact dq0 hd rfl | exact dq2 hd rfl | exact dq3 hd rfl | omega) rfl (Nat.le_of_ble_eq_true rfl) ?_
              refine g_lload_n 1 (gd rfl) rfl rfl ?_
              refine g_lload_n 2 (gd rfl) rfl rfl ?_
              refine g_lcmp 3 (gd rfl) rfl (fun z93x2 e93x2 => ?_)
              have i93x2 := lc_in e93x2
              refine g_if_lt 6 10 (gd rfl) rfl rfl (fun c93x3 => ?_) (fun c93x3 => ?_)
              · skip
                have i93x3 := z_lt (-1) (-1) c93x3 i93x2 rfl
                have c93x3a := lc_lt e93x2 c93x3
                have i93x3a := lr_lt1 (-9223372036854775808) 999999999999 c93x3a (l_rng y21_8) (l_c 1000000000000 rfl) rfl
                refine g_lload_n 11 (gd rfl) rfl rfl ?_
                refine g_lreturn (gd rfl) rfl (hp93 _ _ ?_)
                show GG _ _ _ _ _ _ _ _ [.long (Int64.ofInt 1000000000000)] _ _ _
                refine g_lstore 98 (gd rfl) rfl (Nat.le_of_ble_eq_true rfl) ?_
                refine g_iinc 101 (gd rfl) rfl rfl (Nat.le_of_ble_eq_true rfl) (fun z98 e98 => ?_)
                have i98 := in_add 1 160 e98 i31 (in_c 1 rfl) rfl rfl
                refine g_goto 21 (gd rfl) rfl ?_
                exact gg_w (by first | exact Nat.le_add_right _ _ | exact gw2 | exact gw3 | exact gwe rfl | exact gwf rfl | exact gwg rfl | exact gwh rfl | omega) (gg_f (gf_cons rfl (gf_cons rfl (gf_cons rfl (gf_cons rfl (gf_cons rfl (gf_cons rfl (gf_cons rfl (gf_cons rfl gf_nil)))))))) (ih21 sc21 z77 (Int64.ofInt 1000000000000) (Int64.ofInt 1000000000000) z98 hIc21 hFc21 (in_w 0 160 i98 rfl) (m_up mm21 (t_add e98 i31 (in_c 1 rfl) rfl) (in_w 1 1 (in_c 1 rfl) rfl))))
              · skip
                have i93x3 := z_ge 0 1 c93x3 i93x2 rfl
                have c93x3a := lc_ge e93x2 c93x3
                have i93x3a := lr_le2 1000000000000 9223372036854775807 c93x3a (l_c 1000000000000 rfl) (l_rng y21_8) rfl
                refine g_lload_n 7 (gd rfl) rfl rfl ?_
                refine g_goto 11 (gd rfl) rfl ?_
                refine g_lreturn (gd rfl) rfl (hp93 _ _ ?_)
                show GG _ _ _ _ _ _ _ _ [.long y21_8] _ _ _
                refine g_lstore 98 (gd rfl) rfl (Nat.le_of_ble_eq_true rfl) ?_
                refine g_iinc 101 (gd rfl) rfl rfl (Nat.le_of_ble_eq_true rfl) (fun z98 e98 => ?_)
                have i98 := in_add 1 160 e98 i31 (in_c 1 rfl) rfl rfl
                refine g_goto 21 (gd rfl) rfl ?_
                exact gg_w (by first | exact Nat.le_add_right _ _ | exact gw2 | exact gw3 | exact gwe rfl | exact gwf rfl | exact gwg rfl | exact gwh rfl | omega) (gg_f (gf_cons rfl (gf_cons rfl (gf_cons rfl (gf_cons rfl (gf_cons rfl (gf_cons rfl (gf_cons rfl (gf_cons rfl gf_nil)))))))) (ih21 sc21 z77 (Int64.ofInt 1000000000000) y21_8 z98 hIc21 hFc21 (in_w 0 160 i98 rfl) (m_up mm21 (t_add e98 i31 (in_c 1 rfl) rfl) (in_w 1 1 (in_c 1 rfl) rfl))))
            · skip
              have i84x3 := z_le (-1) 0 c84x3 i84x2 rfl
              have c84x3a := lc_le e84x2 c84x3
              have i84x3a := lr_le1 (-9223372036854775808) 1000000000000 c84x3a (l_rng y21_6) (l_c 1000000000000 rfl) rfl
              refine g_lload_n 7 (gd rfl) rfl rfl ?_
              refine g_goto 11 (gd rfl) rfl ?_
              refine g_lreturn (gd rfl) rfl (hp84 _ _ ?_)
              show GG _ _ _ _ _ _ _ _ [.long y21_6] _ _ _
              refine g_lstore 89 (gd rfl) rfl (Nat.le_of_ble_eq_true rfl) ?_
              refine g_lload 91 (gd rfl) rfl rfl ?_
              refine g_lload 93 (gd rfl) rfl rfl ?_
              refine g_calls (As := [.long y21_8, .long (Int64.ofInt 1000000000000)]) (r := []) 96 (gd rfl) rfl rfl rfl rfl rfl (Nat.le_of_ble_eq_true rfl) (mc := 0) (ms := 0) (Nat.zero_le _) (Nat.zero_le _) (P := fun v u => _) ?_ (fun v u h => h)
              intro po93 xx93 hp93 hx93
              refine g_enter2 (k := 423) (N := 300) (by first | exact dq1 hd rfl | exact dq0 hd rfl | exact dq2 hd rfl | exact dq3 hd rfl | omega) rfl (Nat.le_of_ble_eq_true rfl) ?_
              refine g_lload_n 1 (gd rfl) rfl rfl ?_
              refine g_lload_n 2 (gd rfl) rfl rfl ?_
              refine g_lcmp 3 (gd rfl) rfl (fun z93x2 e93x2 => ?_)
              have i93x2 := lc_in e93x2
              refine g_if_lt 6 10 (gd rfl) rfl rfl (fun c93x3 => ?_) (fun c93x3 => ?_)
              · skip
                have i93x3 := z_lt (-1) (-1) c93x3 i93x2 rfl
                have c93x3a := lc_lt e93x2 c93x3
                have i93x3a := lr_lt1 (-9223372036854775808) 999999999999 c93x3a (l_rng y21_8) (l_c 1000000000000 rfl) rfl
                refine g_lload_n 11 (gd rfl) rfl rfl ?_
                refine g_lreturn (gd rfl) rfl (hp93 _ _ ?_)
                show GG _ _ _ _ _ _ _ _ [.long (Int64.ofInt 1000000000000)] _ _ _
                refine g_lstore 98 (gd rfl) rfl (Nat.le_of_ble_eq_true rfl) ?_
                refine g_iinc 101 (gd rfl) rfl rfl (Nat.le_of_ble_eq_true rfl) (fun z98 e98 => ?_)
                have i98 := in_add 1 160 e98 i31 (in_c 1 rfl) rfl rfl
                refine g_goto 21 (gd rfl) rfl ?_
                exact gg_w (by first | exact Nat.le_add_right _ _ | exact gw2 | exact gw3 | exact gwe rfl | exact gwf rfl | exact gwg rfl | exact gwh rfl | omega) (gg_f (gf_cons rfl (gf_cons rfl (gf_cons rfl (gf_cons rfl (gf_cons rfl (gf_cons rfl (gf_cons rfl (gf_cons rfl gf_nil)))))))) (ih21 sc21 z77 y21_6 (Int64.ofInt 1000000000000) z98 hIc21 hFc21 (in_w 0 160 i98 rfl) (m_up mm21 (t_add e98 i31 (in_c 1 rfl) rfl) (in_w 1 1 (in_c 1 rfl) rfl))))
              · skip
                have i93x3 := z_ge 0 1 c93x3 i93x2 rfl
                have c93x3a := lc_ge e93x2 c93x3
                have i93x3a := lr_le2 1000000000000 9223372036854775807 c93x3a (l_c 1000000000000 rfl) (l_rng y21_8) rfl
                refine g_lload_n 7 (gd rfl) rfl rfl ?_
                refine g_goto 11 (gd rfl) rfl ?_
                refine g_lreturn (gd rfl) rfl (hp93 _ _ ?_)
                show GG _ _ _ _ _ _ _ _ [.long y21_8] _ _ _
                refine g_lstore 98 (gd rfl) rfl (Nat.le_of_ble_eq_true rfl) ?_
                refine g_iinc 101 (gd rfl) rfl rfl (Nat.le_of_ble_eq_true rfl) (fun z98 e98 => ?_)
                have i98 := in_add 1 160 e98 i31 (in_c 1 rfl) rfl rfl
                refine g_goto 21 (gd rfl) rfl ?_
                exact gg_w (by first | exact Nat.le_add_right _ _ | exact gw2 | exact gw3 | exact gwe rfl | exact gwf rfl | exact gwg rfl | exact gwh rfl | omega) (gg_f (gf_cons rfl (gf_cons rfl (gf_cons rfl (gf_cons rfl (gf_cons rfl (gf_cons rfl (gf_cons rfl (gf_cons rfl gf_nil)))))))) (ih21 sc21 z77 y21_6 y21_8 z98 hIc21 hFc21 (in_w 0 160 i98 rfl) (m_up mm21 (t_add e98 i31 (in_c 1 rfl) rfl) (in_w 1 1 (in_c 1 rfl) rfl))))
          · skip
            have i68x10x3 := z_ge 0 1 c68x10x3 i68x10x2 rfl
            have c68x10x3a := lc_ge e68x10x2 c68x10x3
            exact ln_le c68x10x3a (l_c 1000000000000 rfl) (l_c (-1000000000000) rfl) rfl
  refine g_enter2 (k := 65) (N := 145801) (by first | exact dq1 hd rfl | exact dq0 hd rfl | exact dq2 hd rfl | exact dq3 hd rfl | omega) rfl (Nat.le_of_ble_eq_true rfl) ?_
  refine g_lconst 0 1 (gd rfl) rfl rfl ?_
  refine g_lstore 3 (gd rfl) rfl (Nat.le_of_ble_eq_true rfl) ?_
  refine g_ldc2_w 1000000000000 6 (gd rfl) rfl rfl ?_
  refine g_lstore 8 (gd rfl) rfl (Nat.le_of_ble_eq_true rfl) ?_
  refine g_ldc2_w (-1000000000000) 11 (gd rfl) rfl rfl ?_
  refine g_lstore 13 (gd rfl) rfl (Nat.le_of_ble_eq_true rfl) ?_
  refine g_aload_n 14 (gd rfl) rfl rfl ?_
  refine g_getA (q2 := 14) 17 (gd rfl) rfl rfl rfl rfl ?_
  refine g_iload_n 18 (gd rfl) rfl rfl ?_
  refine g_iaload 19 (gd rfl) rfl (n := 33) rfl (in_ix h2 rfl) (fun z18 e18 => ?_)
  have i18 := inv_I hI (n := 33) (t := 0) 0 160 rfl (in_ix h2 rfl) rfl e18
  refine g_istore 21 (gd rfl) rfl (Nat.le_of_ble_eq_true rfl) ?_
  exact gg_w (by first | exact Nat.le_of_ble_eq_true rfl | omega) (gg_f (gf_cons rfl (gf_cons rfl (gf_cons rfl (gf_cons rfl (gf_cons rfl (gf_cons rfl (gf_cons rfl (gf_cons rfl gf_nil)))))))) (ct21 161 s (Int64.ofInt 0) (Int64.ofInt 1000000000000) (Int64.ofInt (-1000000000000)) z18 hI fr_rf (in_w 0 160 i18 rfl) (m_in 161 (in_w 0 160 i18 rfl) rfl)))

def fm_65_102_32 : FM := ([], [106], [], [])
/-- GraphHouse$Engine.look -/
theorem k_65_102_32 {Z : AmZ} {A : Nat → Nat} {s : GS} {ex : va_W} {d : Nat} {X : AmX} {x2 : Int32} {x3 : Int32} {u_32_4 : Int32} {u_32_0 : Int32} (hd : 4 ≤ d) (hI : Inv s) (h2 : In x2 0 31) (h3 : In x3 0 200) (e_32_4 : u_32_4 = s.2.2.1 32 4) (e_32_0 : u_32_0 = s.2.2.1 32 0) (p_0 : (u_32_4).toInt = (u_32_0).toInt) : GC Z d 65 [.ref (A 102), .ref (A 32), .int x2, .int x3] (WW Z A s ++ ex) 0 0 (fun v u => ∃ t : GS, Inv t ∧ Fr fm_65_102_32 s t ∧ v = none ∧ u = WW Z A t ++ ex) X := by
  intro post xp hP hX
  have ro_32_4 := inv_F hI (-1) 4000 rfl e_32_4
  have ro_32_0 := inv_F hI 0 4000 rfl e_32_0
  have ct21 : ∀ (k21 : Nat) (sc21 : GS) (y21_4 : Int64) (y21_6 : Int64) (y21_8 : Int64) (y21_10 : Int32), Inv sc21 → Fr fm_65_102_32 s sc21 → (In y21_10 0 160) → 160 - (y21_10).toInt < (k21 : Int) → GG Z (d - 1) 65 post (gx xp) (1 + k21 * 900) 21 (fun j => xlook j [(0, .ref (A 102)), (1, .ref (A 32)), (2, .int x2), (3, .int x3), (4, .long y21_4), (6, .long y21_6), (8, .long y21_8), (10, .int y21_10)]) [] (WW Z A sc21 ++ ex) 0 0 := by
    intro k21
    induction k21 with
    | zero => intro sc21 y21_4 y21_6 y21_8 y21_10 hIc21 hFc21 j21_10 mm21; exact m_no mm21 j21_10 rfl
    | succ k21 ih21 =>
      intro sc21 y21_4 y21_6 y21_8 y21_10 hIc21 hFc21 j21_10 mm21
      refine gg_w (M := 1 + k21 * 900 + 900) gws ?_
      refine g_iload 23 (gd rfl) rfl rfl ?_
      refine g_aload_n 24 (gd rfl) rfl rfl ?_
      refine g_getA (q2 := 44) 27 (gd rfl) rfl rfl rfl rfl ?_
      refine g_iload_n 28 (gd rfl) rfl rfl ?_
      refine g_iconst 1 29 (gd rfl) rfl rfl ?_
      refine g_iadd 30 (gd rfl) rfl (fun z29 e29 => ?_)
      have i29 := in_add 1 32 e29 h2 (in_c 1 rfl) rfl rfl
      refine g_iaload 31 (gd rfl) rfl (n := 33) rfl (in_ix i29 rfl) (fun z30 e30 => ?_)
      have i30 := inv_I hIc21 (n := 33) (t := 0) 0 160 rfl (in_ix i29 rfl) rfl e30
      refine g_cmp_ge 34 104 (gd rfl) rfl rfl (fun c31 => ?_) (fun c31 => ?_)
      · skip
        refine g_aload_n 105 (gd rfl) rfl rfl ?_
        refine g_getA (q2 := 106) 108 (gd rfl) rfl rfl rfl rfl ?_
        refine g_iconst 0 109 (gd rfl) rfl rfl ?_
        refine g_aload_n 110 (gd rfl) rfl rfl ?_
        refine g_getA (q2 := 108) 113 (gd rfl) rfl rfl rfl rfl ?_
        refine g_iload_n 114 (gd rfl) rfl rfl ?_
        refine g_laload 115 (gd rfl) rfl (n := 32) rfl (in_ix h2 rfl) (fun z114 e114 => ?_)
        refine g_lastore 116 (gd rfl) rfl (n := 9) rfl (in_ix (in_c 0 rfl) rfl) ?_
        have hI115 := inv_sL (q := 106) (j := (Int32.ofInt 0).toNatClampNeg) (x := z114) hIc21 rfl (l_rng z114)
        refine g_aload_n 117 (gd rfl) rfl rfl ?_
        refine g_getA (q2 := 106) 120 (gd rfl) rfl rfl rfl rfl ?_
        refine g_iconst 1 121 (gd rfl) rfl rfl ?_
        refine g_iload_n 122 (gd rfl) rfl rfl ?_
        refine g_i2l 123 (gd rfl) rfl (fun z122 e122 => ?_)
        have i122 := l_i e122 h2
        refine g_lastore 124 (gd rfl) rfl (n := 9) rfl (in_ix (in_c 1 rfl) rfl) ?_
        have hI123 := inv_sL (q := 106) (j := (Int32.ofInt 1).toNatClampNeg) (x := z122) hI115 rfl (l_rng z122)
        refine g_aload_n 125 (gd rfl) rfl rfl ?_
        refine g_getA (q2 := 106) 128 (gd rfl) rfl rfl rfl rfl ?_
        refine g_iconst 2 129 (gd rfl) rfl rfl ?_
        refine g_aload_n 130 (gd rfl) rfl rfl ?_
        refine g_getA (q2 := 33) 133 (gd rfl) rfl rfl rfl rfl ?_
        refine g_iload_n 134 (gd rfl) rfl rfl ?_
        refine g_iaload 135 (gd rfl) rfl (n := 32) rfl (in_ix h2 rfl) (fun z134 e134 => ?_)
        have i134 := inv_I hI123 (n := 32) (t := 0) 0 25 rfl (in_ix h2 rfl) rfl e134
        refine g_i2l 136 (gd rfl) rfl (fun z135 e135 => ?_)
        have i135 := l_i e135 i134
        refine g_lastore 137 (gd rfl) rfl (n := 9) rfl (in_ix (in_c 2 rfl) rfl) ?_
        have hI136 := inv_sL (q := 106) (j := (Int32.ofInt 2).toNatClampNeg) (x := z135) hI123 rfl (l_rng z135)
        refine g_aload_n 138 (gd rfl) rfl rfl ?_
        refine g_getA (q2 := 106) 141 (gd rfl) rfl rfl rfl rfl ?_
        refine g_iconst 3 142 (gd rfl) rfl rfl ?_
        refine g_aload_n 143 (gd rfl) rfl rfl ?_
        refine g_iload_n 144 (gd rfl) rfl rfl ?_
        refine g_callv (X := _) (As := [.int x2]) (r := [.int (Int32.ofInt 3), .ref (A 106)]) (b := A 32) (q := 32) 147 (gd rfl) rfl rfl rfl rfl rfl (ww_o rfl) (Nat.le_of_ble_eq_true rfl) (mc := 0) (ms := 0) (Nat.zero_le _) (Nat.zero_le _) (P := fun v u => _) ?_ (fun e u h => h) (fun v u h => h)
        intro po144 xx144 hp144 hx144
        refine g_enter2 (k := 103) (N := 300) (by first | exact dq1 hd rfl | exact dq0 hd rfl | exact dq2 hd rfl | exact dq3 hd rfl | omega) rfl (Nat.le_of_ble_eq_true rfl) ?_
        refine g_aload_n 1 (gd rfl) rfl rfl ?_
        refine g_getA (q2 := 42) 4 (gd rfl) rfl rfl rfl rfl ?_
        refine g_iload_n 5 (gd rfl) rfl rfl ?_
        refine g_iconst 1 6 (gd rfl) rfl rfl ?_
        refine g_iadd 7 (gd rfl) rfl (fun z144x6 e144x6 => ?_)
        have i144x6 := in_add 1 32 e144x6 h2 (in_c 1 rfl) rfl rfl
        refine g_iaload 8 (gd rfl) rfl (n := 33) rfl (in_ix i144x6 rfl) (fun z144x7 e144x7 => ?_)
        have i144x7 := inv_I hI136 (n := 33) (t := 0) 0 160 rfl (in_ix i144x6 rfl) rfl e144x7
        refine g_aload_n 9 (gd rfl) rfl rfl ?_
        refine g_getA (q2 := 42) 12 (gd rfl) rfl rfl rfl rfl ?_
        refine g_iload_n 13 (gd rfl) rfl rfl ?_
        refine g_iaload 14 (gd rfl) rfl (n := 33) rfl (in_ix h2 rfl) (fun z144x13 e144x13 => ?_)
        have i144x13 := inv_I hI136 (n := 33) (t := 0) 0 160 rfl (in_ix h2 rfl) rfl e144x13
        refine g_isub 15 (gd rfl) rfl (fun z144x14 e144x14 => ?_)
        have i144x14 := in_sub (-160) 160 e144x14 i144x7 i144x13 rfl rfl
        refine g_ireturn (gd rfl) rfl rfl (hp144 _ _ ?_)
        show GG _ _ _ _ _ _ _ _ [.int z144x14, .int (Int32.ofInt 3), .ref (A 106)] _ _ _
        refine g_i2l 148 (gd rfl) rfl (fun z147 e147 => ?_)
        have i147 := l_i e147 i144x14
        refine g_lastore 149 (gd rfl) rfl (n := 9) rfl (in_ix (in_c 3 rfl) rfl) ?_
        have hI148 := inv_sL (q := 106) (j := (Int32.ofInt 3).toNatClampNeg) (x := z147) hI136 rfl (l_rng z147)
        refine g_aload_n 150 (gd rfl) rfl rfl ?_
        refine g_getA (q2 := 106) 153 (gd rfl) rfl rfl rfl rfl ?_
        refine g_iconst 4 154 (gd rfl) rfl rfl ?_
        refine g_aload_n 155 (gd rfl) rfl rfl ?_
        refine g_iload_n 156 (gd rfl) rfl rfl ?_
        refine g_callv (X := _) (As := [.int x2]) (r := [.int (Int32.ofInt 4), .ref (A 106)]) (b := A 32) (q := 32) 159 (gd rfl) rfl rfl rfl rfl rfl (ww_o rfl) (Nat.le_of_ble_eq_true rfl) (mc := 0) (ms := 0) (Nat.zero_le _) (Nat.zero_le _) (P := fun v u => _) ?_ (fun e u h => h) (fun v u h => h)
        intro po156 xx156 hp156 hx156
        refine g_enter2 (k := 104) (N := 300) (by first | exact dq1 hd rfl | exact dq0 hd rfl | exact dq2 hd rfl | exact dq3 hd rfl | omega) rfl (Nat.le_of_ble_eq_true rfl) ?_
        refine g_aload_n 1 (gd rfl) rfl rfl ?_
        refine g_getA (q2 := 44) 4 (gd rfl) rfl rfl rfl rfl ?_
        refine g_iload_n 5 (gd rfl) rfl rfl ?_
        refine g_iconst 1 6 (gd rfl) rfl rfl ?_
        refine g_iadd 7 (gd rfl) rfl (fun z156x6 e156x6 => ?_)
        have i156x6 := in_add 1 32 e156x6 h2 (in_c 1 rfl) rfl rfl
        refine g_iaload 8 (gd rfl) rfl (n := 33) rfl (in_ix i156x6 rfl) (fun z156x7 e156x7 => ?_)
        have i156x7 := inv_I hI148 (n := 33) (t := 0) 0 160 rfl (in_ix i156x6 rfl) rfl e156x7
        refine g_aload_n 9 (gd rfl) rfl rfl ?_
        refine g_getA (q2 := 44) 12 (gd rfl) rfl rfl rfl rfl ?_
        refine g_iload_n 13 (gd rfl) rfl rfl ?_
        refine g_iaload 14 (gd rfl) rfl (n := 33) rfl (in_ix h2 rfl) (fun z156x13 e156x13 => ?_)
        have i156x13 := inv_I hI148 (n := 33) (t := 0) 0 160 rfl (in_ix h2 rfl) rfl e156x13
        refine g_isub 15 (gd rfl) rfl (fun z156x14 e156x14 => ?_)
        have i156x14 := in_sub (-160) 160 e156x14 i156x7 i156x13 rfl rfl
        refine g_ireturn (gd rfl) rfl rfl (hp156 _ _ ?_)
        show GG _ _ _ _ _ _ _ _ [.int z156x14, .int (Int32.ofInt 4), .ref (A 106)] _ _ _
        refine g_i2l 160 (gd rfl) rfl (fun z159 e159 => ?_)
        have i159 := l_i e159 i156x14
        refine g_lastore 161 (gd rfl) rfl (n := 9) rfl (in_ix (in_c 4 rfl) rfl) ?_
        have hI160 := inv_sL (q := 106) (j := (Int32.ofInt 4).toNatClampNeg) (x := z159) hI148 rfl (l_rng z159)
        refine g_aload_n 162 (gd rfl) rfl rfl ?_
        refine g_getA (q2 := 106) 165 (gd rfl) rfl rfl rfl rfl ?_
        refine g_iconst 5 166 (gd rfl) rfl rfl ?_
        refine g_iload_n 167 (gd rfl) rfl rfl ?_
        refine g_i2l 168 (gd rfl) rfl (fun z167 e167 => ?_)
        have i167 := l_i e167 h3
        refine g_lastore 169 (gd rfl) rfl (n := 9) rfl (in_ix (in_c 5 rfl) rfl) ?_
        have hI168 := inv_sL (q := 106) (j := (Int32.ofInt 5).toNatClampNeg) (x := z167) hI160 rfl (l_rng z167)
        refine g_aload_n 170 (gd rfl) rfl rfl ?_
        refine g_getA (q2 := 106) 173 (gd rfl) rfl rfl rfl rfl ?_
        refine g_bipush 6 175 (gd rfl) rfl rfl ?_
        refine g_lload 177 (gd rfl) rfl rfl ?_
        refine g_calls (As := [.long y21_4]) (r := [.int (Int32.ofInt 6), .ref (A 106)]) 180 (gd rfl) rfl rfl rfl rfl rfl (Nat.le_of_ble_eq_true rfl) (mc := 0) (ms := 0) (Nat.zero_le _) (Nat.zero_le _) (P := fun v u => _) ?_ (fun v u h => h)
        intro po177 xx177 hp177 hx177
        refine g_enter2 (k := 69) (N := 300) (by first | exact dq1 hd rfl | exact dq0 hd rfl | exact dq2 hd rfl | exact dq3 hd rfl | omega) rfl (Nat.le_of_ble_eq_true rfl) ?_
        refine g_ldc2_w (-1000000000000) 3 (gd rfl) rfl rfl ?_
        refine g_ldc2_w 1000000000000 6 (gd rfl) rfl rfl ?_
        refine g_lload_n 7 (gd rfl) rfl rfl ?_
        refine g_calls (As := [.long (Int64.ofInt 1000000000000), .long y21_4]) (r := [.long (Int64.ofInt (-1000000000000))]) 10 (gd rfl) rfl rfl rfl rfl rfl (Nat.le_of_ble_eq_true rfl) (mc := 0) (ms := 0) (Nat.zero_le _) (Nat.zero_le _) (P := fun v u => _) ?_ (fun v u h => h)
        intro po177x7 xx177x7 hp177x7 hx177x7
        refine g_enter2 (k := 425) (N := 300) (by first | exact dq1 hd rfl | exact dq0 hd rfl | exact dq2 hd rfl | exact dq3 hd rfl | omega) rfl (Nat.le_of_ble_eq_true rfl) ?_
        refine g_lload_n 1 (gd rfl) rfl rfl ?_
        refine g_lload_n 2 (gd rfl) rfl rfl ?_
        refine g_lcmp 3 (gd rfl) rfl (fun z177x7x2 e177x7x2 => ?_)
        have i177x7x2 := lc_in e177x7x2
        refine g_if_gt 6 10 (gd rfl) rfl rfl (fun c177x7x3 => ?_) (fun c177x7x3 => ?_)
        · skip
          have i177x7x3 := z_gt 1 1 c177x7x3 i177x7x2 rfl
          have c177x7x3a := lc_gt e177x7x2 c177x7x3
          have i177x7x3a := lr_lt1 (-9223372036854775808) 999999999999 c177x7x3a (l_rng y21_4) (l_c 1000000000000 rfl) rfl
          refine g_lload_n 11 (gd rfl) rfl rfl ?_
          refine g_lreturn (gd rfl) rfl (hp177x7 _ _ ?_)
          show GG _ _ _ _ _ _ _ _ [.long y21_4, .long (Int64.ofInt (-1000000000000))] _ _ _
          refine g_calls (As := [.long (Int64.ofInt (-1000000000000)), .long y21_4]) (r := []) 13 (gd rfl) rfl rfl rfl rfl rfl (Nat.le_of_ble_eq_true rfl) (mc := 0) (ms := 0) (Nat.zero_le _) (Nat.zero_le _) (P := fun v u => _) ?_ (fun v u h => h)
          intro po177x10 xx177x10 hp177x10 hx177x10
          refine g_enter2 (k := 423) (N := 300) (by first | exact dq1 hd rfl | exact dq0 hd rfl | exact dq2 hd rfl | exact dq3 hd rfl | omega) rfl (Nat.le_of_ble_eq_true rfl) ?_
          refine g_lload_n 1 (gd rfl) rfl rfl ?_
          refine g_lload_n 2 (gd rfl) rfl rfl ?_
          refine g_lcmp 3 (gd rfl) rfl (fun z177x10x2 e177x10x2 => ?_)
          have i177x10x2 := lc_in e177x10x2
          refine g_if_lt 6 10 (gd rfl) rfl rfl (fun c177x10x3 => ?_) (fun c177x10x3 => ?_)
          · skip
            have i177x10x3 := z_lt (-1) (-1) c177x10x3 i177x10x2 rfl
            have c177x10x3a := lc_lt e177x10x2 c177x10x3
            have i177x10x3a := lr_lt2 (-999999999999) 999999999999 c177x10x3a (l_c (-1000000000000) rfl) i177x7x3a rfl
            refine g_lload_n 11 (gd rfl) rfl rfl ?_
            refine g_lreturn (gd rfl) rfl (hp177x10 _ _ ?_)
            show GG _ _ _ _ _ _ _ _ [.long y21_4] _ _ _
            refine g_lreturn (gd rfl) rfl (hp177 _ _ ?_)
            show GG _ _ _ _ _ _ _ _ [.long y21_4, .int (Int32.ofInt 6), .ref (A 106)] _ _ _
            refine g_lastore 181 (gd rfl) rfl (n := 9) rfl (in_ix (in_c 6 rfl) rfl) ?_
            have hI180 := inv_sL (q := 106) (j := (Int32.ofInt 6).toNatClampNeg) (x := y21_4) hI168 rfl (l_rng y21_4)
            refine g_aload_n 182 (gd rfl) rfl rfl ?_
            refine g_getA (q2 := 106) 185 (gd rfl) rfl rfl rfl rfl ?_
            refine g_bipush 7 187 (gd rfl) rfl rfl ?_
            refine g_lload 189 (gd rfl) rfl rfl ?_
            refine g_lastore 190 (gd rfl) rfl (n := 9) rfl (in_ix (in_c 7 rfl) rfl) ?_
            have hI189 := inv_sL (q := 106) (j := (Int32.ofInt 7).toNatClampNeg) (x := y21_6) hI180 rfl (l_rng y21_6)
            refine g_aload_n 191 (gd rfl) rfl rfl ?_
            refine g_getA (q2 := 106) 194 (gd rfl) rfl rfl rfl rfl ?_
            refine g_bipush 8 196 (gd rfl) rfl rfl ?_
            refine g_lload 198 (gd rfl) rfl rfl ?_
            refine g_lastore 199 (gd rfl) rfl (n := 9) rfl (in_ix (in_c 8 rfl) rfl) ?_
            have hI198 := inv_sL (q := 106) (j := (Int32.ofInt 8).toNatClampNeg) (x := y21_8) hI189 rfl (l_rng y21_8)
            exact g_return (gd rfl) rfl (hP _ _ ⟨(sL (sL (sL (sL (sL (sL (sL (sL (sL sc21 106 (Int32.ofInt 0).toNatClampNeg z114) 106 (Int32.ofInt 1).toNatClampNeg z122) 106 (Int32.ofInt 2).toNatClampNeg z135) 106 (Int32.ofInt 3).toNatClampNeg z147) 106 (Int32.ofInt 4).toNatClampNeg z159) 106 (Int32.ofInt 5).toNatClampNeg z167) 106 (Int32.ofInt 6).toNatClampNeg y21_4) 106 (Int32.ofInt 7).toNatClampNeg y21_6) 106 (Int32.ofInt 8).toNatClampNeg y21_8), hI198, (fr_sL rfl (fr_sL rfl (fr_sL rfl (fr_sL rfl (fr_sL rfl (fr_sL rfl (fr_sL rfl (fr_sL rfl (fr_sL rfl hFc21))))))))), rfl, rfl⟩)
          · skip
            have i177x10x3 := z_ge 0 1 c177x10x3 i177x10x2 rfl
            have c177x10x3a := lc_ge e177x10x2 c177x10x3
            have i177x10x3a := lr_le1 (-9223372036854775808) (-1000000000000) c177x10x3a i177x7x3a (l_c (-1000000000000) rfl) rfl
            refine g_lload_n 7 (gd rfl) rfl rfl ?_
            refine g_goto 11 (gd rfl) rfl ?_
            refine g_lreturn (gd rfl) rfl (hp177x10 _ _ ?_)
            show GG _ _ _ _ _ _ _ _ [.long (Int64.ofInt (-1000000000000))] _ _ _
            refine g_lreturn (gd rfl) rfl (hp177 _ _ ?_)
            show GG _ _ _ _ _ _ _ _ [.long (Int64.ofInt (-1000000000000)), .int (Int32.ofInt 6), .ref (A 106)] _ _ _
            refine g_lastore 181 (gd rfl) rfl (n := 9) rfl (in_ix (in_c 6 rfl) rfl) ?_
            have hI180 := inv_sL (q := 106) (j := (Int32.ofInt 6).toNatClampNeg) (x := (Int64.ofInt (-1000000000000))) hI168 rfl (l_rng (Int64.ofInt (-1000000000000)))
            refine g_aload_n 182 (gd rfl) rfl rfl ?_
            refine g_getA (q2 := 106) 185 (gd rfl) rfl rfl rfl rfl ?_
            refine g_bipush 7 187 (gd rfl) rfl rfl ?_
            refine g_lload 189 (gd rfl) rfl rfl ?_
            refine g_lastore 190 (gd rfl) rfl (n := 9) rfl (in_ix (in_c 7 rfl) rfl) ?_
            have hI189 := inv_sL (q := 106) (j := (Int32.ofInt 7).toNatClampNeg) (x := y21_6) hI180 rfl (l_rng y21_6)
            refine g_aload_n 191 (gd rfl) rfl rfl ?_
            refine g_getA (q2 := 106) 194 (gd rfl) rfl rfl rfl rfl ?_
            refine g_bipush 8 196 (gd rfl) rfl rfl ?_
            refine g_lload 198 (gd rfl) rfl rfl ?_
            refine g_lastore 199 (gd rfl) rfl (n := 9) rfl (in_ix (in_c 8 rfl) rfl) ?_
            have hI198 := inv_sL (q := 106) (j := (Int32.ofInt 8).toNatClampNeg) (x := y21_8) hI189 rfl (l_rng y21_8)
            exact g_return (gd rfl) rfl (hP _ _ ⟨(sL (sL (sL (sL (sL (sL (sL (sL (sL sc21 106 (Int32.ofInt 0).toNatClampNeg z114) 106 (Int32.ofInt 1).toNatClampNeg z122) 106 (Int32.ofInt 2).toNatClampNeg z135) 106 (Int32.ofInt 3).toNatClampNeg z147) 106 (Int32.ofInt 4).toNatClampNeg z159) 106 (Int32.ofInt 5).toNatClampNeg z167) 106 (Int32.ofInt 6).toNatClampNeg (Int64.ofInt (-1000000000000))) 106 (Int32.ofInt 7).toNatClampNeg y21_6) 106 (Int32.ofInt 8).toNatClampNeg y21_8), hI198, (fr_sL rfl (fr_sL rfl (fr_sL rfl (fr_sL rfl (fr_sL rfl (fr_sL rfl (fr_sL rfl (fr_sL rfl (fr_sL rfl hFc21))))))))), rfl, rfl⟩)
        · skip
          have i177x7x3 := z_le (-1) 0 c177x7x3 i177x7x2 rfl
          have c177x7x3a := lc_le e177x7x2 c177x7x3
          have i177x7x3a := lr_le2 1000000000000 9223372036854775807 c177x7x3a (l_c 1000000000000 rfl) (l_rng y21_4) rfl
          refine g_lload_n 7 (gd rfl) rfl rfl ?_
          refine g_goto 11 (gd rfl) rfl ?_
          refine g_lreturn (gd rfl) rfl (hp177x7 _ _ ?_)
          show GG _ _ _ _ _ _ _ _ [.long (Int64.ofInt 1000000000000), .long (Int64.ofInt (-1000000000000))] _ _ _
          refine g_calls (As := [.long (Int64.ofInt (-1000000000000)), .long (Int64.ofInt 1000000000000)]) (r := []) 13 (gd rfl) rfl rfl rfl rfl rfl (Nat.le_of_ble_eq_true rfl) (mc := 0) (ms := 0) (Nat.zero_le _) (Nat.zero_le _) (P := fun v u => _) ?_ (fun v u h => h)
          intro po177x10 xx177x10 hp177x10 hx177x10
          refine g_enter2 (k := 423) (N := 300) (by first | exact dq1 hd rfl | exact dq0 hd rfl | exact dq2 hd rfl | exact dq3 hd rfl | omega) rfl (Nat.le_of_ble_eq_true rfl) ?_
          refine g_lload_n 1 (gd rfl) rfl rfl ?_
          refine g_lload_n 2 (gd rfl) rfl rfl ?_
          refine g_lcmp 3 (gd rfl) rfl (fun z177x10x2 e177x10x2 => ?_)
          have i177x10x2 := lc_in e177x10x2
          refine g_if_lt 6 10 (gd rfl) rfl rfl (fun c177x10x3 => ?_) (fun c177x10x3 => ?_)
          · skip
            have i177x10x3 := z_lt (-1) (-1) c177x10x3 i177x10x2 rfl
            have c177x10x3a := lc_lt e177x10x2 c177x10x3
            refine g_lload_n 11 (gd rfl) rfl rfl ?_
            refine g_lreturn (gd rfl) rfl (hp177x10 _ _ ?_)
            show GG _ _ _ _ _ _ _ _ [.long (Int64.ofInt 1000000000000)] _ _ _
            refine g_lreturn (gd rfl) rfl (hp177 _ _ ?_)
            show GG _ _ _ _ _ _ _ _ [.long (Int64.ofInt 1000000000000), .int (Int32.ofInt 6), .ref (A 106)] _ _ _
            refine g_lastore 181 (gd rfl) rfl (n := 9) rfl (in_ix (in_c 6 rfl) rfl) ?_
            have hI180 := inv_sL (q := 106) (j := (Int32.ofInt 6).toNatClampNeg) (x := (Int64.ofInt 1000000000000)) hI168 rfl (l_rng (Int64.ofInt 1000000000000))
            refine g_aload_n 182 (gd rfl) rfl rfl ?_
            refine g_getA (q2 := 106) 185 (gd rfl) rfl rfl rfl rfl ?_
            refine g_bipush 7 187 (gd rfl) rfl rfl ?_
            refine g_lload 189 (gd rfl) rfl rfl ?_
            refine g_lastore 190 (gd rfl) rfl (n := 9) rfl (in_ix (in_c 7 rfl) rfl) ?_
            have hI189 := inv_sL (q := 106) (j := (Int32.ofInt 7).toNatClampNeg) (x := y21_6) hI180 rfl (l_rng y21_6)
            refine g_aload_n 191 (gd rfl) rfl rfl ?_
            refine g_getA (q2 := 106) 194 (gd rfl) rfl rfl rfl rfl ?_
            refine g_bipush 8 196 (gd rfl) rfl rfl ?_
            refine g_lload 198 (gd rfl) rfl rfl ?_
            refine g_lastore 199 (gd rfl) rfl (n := 9) rfl (in_ix (in_c 8 rfl) rfl) ?_
            have hI198 := inv_sL (q := 106) (j := (Int32.ofInt 8).toNatClampNeg) (x := y21_8) hI189 rfl (l_rng y21_8)
            exact g_return (gd rfl) rfl (hP _ _ ⟨(sL (sL (sL (sL (sL (sL (sL (sL (sL sc21 106 (Int32.ofInt 0).toNatClampNeg z114) 106 (Int32.ofInt 1).toNatClampNeg z122) 106 (Int32.ofInt 2).toNatClampNeg z135) 106 (Int32.ofInt 3).toNatClampNeg z147) 106 (Int32.ofInt 4).toNatClampNeg z159) 106 (Int32.ofInt 5).toNatClampNeg z167) 106 (Int32.ofInt 6).toNatClampNeg (Int64.ofInt 1000000000000)) 106 (Int32.ofInt 7).toNatClampNeg y21_6) 106 (Int32.ofInt 8).toNatClampNeg y21_8), hI198, (fr_sL rfl (fr_sL rfl (fr_sL rfl (fr_sL rfl (fr_sL rfl (fr_sL rfl (fr_sL rfl (fr_sL rfl (fr_sL rfl hFc21))))))))), rfl, rfl⟩)
          · skip
            have i177x10x3 := z_ge 0 1 c177x10x3 i177x10x2 rfl
            have c177x10x3a := lc_ge e177x10x2 c177x10x3
            exact ln_le c177x10x3a (l_c 1000000000000 rfl) (l_c (-1000000000000) rfl) rfl
      · skip
        have i31 := r_lt1 0 159 c31 j21_10 i30 rfl
        have i31a := r_lt2 1 160 c31 j21_10 i30 rfl
        refine g_aload_n 35 (gd rfl) rfl rfl ?_
        refine g_getA (q2 := 45) 38 (gd rfl) rfl rfl rfl rfl ?_
        refine g_iload 40 (gd rfl) rfl rfl ?_
        refine g_iaload 41 (gd rfl) rfl (n := 160) rfl (in_ix i31 rfl) (fun z40 e40 => ?_)
        have i40 := inv_I hIc21 (n := 160) (t := 0) 0 159 rfl (in_ix i31 rfl) rfl e40
        refine g_istore 43 (gd rfl) rfl (Nat.le_of_ble_eq_true rfl) ?_
        refine g_aload_n 44 (gd rfl) rfl rfl ?_
        refine g_getA (q2 := 108) 47 (gd rfl) rfl rfl rfl rfl ?_
        refine g_aload_n 48 (gd rfl) rfl rfl ?_
        refine g_getA (q2 := 34) 51 (gd rfl) rfl rfl rfl rfl ?_
        refine g_iload 53 (gd rfl) rfl rfl ?_
        refine g_iaload 54 (gd rfl) rfl (n := 160) rfl (in_ix i40 rfl) (fun z53 e53 => ?_)
        have i53 := inv_I hIc21 (n := 160) (t := 0) (-1) 31 rfl (in_ix i40 rfl) rfl e53
        have i54 : In z53 0 31 := by exact tg_b (b := 32) hIc21.2.2.1 rfl rfl rfl rfl rfl (by rw [← (show u_32_4 = sc21.2.2.1 32 4 from fr_F e_32_4 hFc21 rfl), ← (show u_32_0 = sc21.2.2.1 32 0 from fr_F e_32_0 hFc21 rfl)]; exact p_0) e30 i29 i31 c31 e40 e53 i53
        refine g_laload 55 (gd rfl) rfl (n := 32) rfl (in_ix i54 rfl) (fun z54 e54 => ?_)
        refine g_lstore 57 (gd rfl) rfl (Nat.le_of_ble_eq_true rfl) ?_
        refine g_lload 59 (gd rfl) rfl rfl ?_
        refine g_aload_n 60 (gd rfl) rfl rfl ?_
        refine g_getA (q2 := 36) 63 (gd rfl) rfl rfl rfl rfl ?_
        refine g_iload 65 (gd rfl) rfl rfl ?_
        refine g_iaload 66 (gd rfl) rfl (n := 160) rfl (in_ix i40 rfl) (fun z65 e65 => ?_)
        have i65 := inv_I hIc21 (n := 160) (t := 0) (-1000000) 1000000 rfl (in_ix i40 rfl) rfl e65
        refine g_i2l 67 (gd rfl) rfl (fun z66 e66 => ?_)
        have i66 := l_i e66 i65
        refine g_ladd 68 (gd rfl) rfl (fun z67 e67 => ?_)
        refine g_calls (As := [.long z67]) (r := []) 71 (gd rfl) rfl rfl rfl rfl rfl (Nat.le_of_ble_eq_true rfl) (mc := 0) (ms := 0) (Nat.zero_le _) (Nat.zero_le _) (P := fun v u => _) ?_ (fun v u h => h)
        intro po68 xx68 hp68 hx68
        refine g_enter2 (k := 69) (N := 300) (by first | exact dq1 hd rfl | exact dq0 hd rfl | exact dq2 hd rfl | exact dq3 hd rfl | omega) rfl (Nat.le_of_ble_eq_true rfl) ?_
        refine g_ldc2_w (-1000000000000) 3 (gd rfl) rfl rfl ?_
        refine g_ldc2_w 1000000000000 6 (gd rfl) rfl rfl ?_
        refine g_lload_n 7 (gd rfl) rfl rfl ?_
        refine g_calls (As := [.long (Int64.ofInt 1000000000000), .long z67]) (r := [.long (Int64.ofInt (-1000000000000))]) 10 (gd rfl) rfl rfl rfl rfl rfl (Nat.le_of_ble_eq_true rfl) (mc := 0) (ms := 0) (Nat.zero_le _) (Nat.zero_le _) (P := fun v u => _) ?_ (fun v u h => h)
        intro po68x7 xx68x7 hp68x7 hx68x7
        refine g_enter2 (k := 425) (N := 300) (by first | exact dq1 hd rfl | exact dq0 hd rfl | exact dq2 hd rfl | exact dq3 hd rfl | omega) rfl (Nat.le_of_ble_eq_true rfl) ?_
        refine g_lload_n 1 (gd rfl) rfl rfl ?_
        refine g_lload_n 2 (gd rfl) rfl rfl ?_
        refine g_lcmp 3 (gd rfl) rfl (fun z68x7x2 e68x7x2 => ?_)
        have i68x7x2 := lc_in e68x7x2
        refine g_if_gt 6 10 (gd rfl) rfl rfl (fun c68x7x3 => ?_) (fun c68x7x3 => ?_)
        · skip
          have i68x7x3 := z_gt 1 1 c68x7x3 i68x7x2 rfl
          have c68x7x3a := lc_gt e68x7x2 c68x7x3
          have i68x7x3a := lr_lt1 (-9223372036854775808) 999999999999 c68x7x3a (l_rng z67) (l_c 1000000000000 rfl) rfl
          refine g_lload_n 11 (gd rfl) rfl rfl ?_
          refine g_lreturn (gd rfl) rfl (hp68x7 _ _ ?_)
          show GG _ _ _ _ _ _ _ _ [.long z67, .long (Int64.ofInt (-1000000000000))] _ _ _
          refine g_calls (As := [.long (Int64.ofInt (-1000000000000)), .long z67]) (r := []) 13 (gd rfl) rfl rfl rfl rfl rfl (Nat.le_of_ble_eq_true rfl) (mc := 0) (ms := 0) (Nat.zero_le _) (Nat.zero_le _) (P := fun v u => _) ?_ (fun v u h => h)
          intro po68x10 xx68x10 hp68x10 hx68x10
          refine g_enter2 (k := 423) (N := 300) (by first | exact dq1 hd rfl | exact dq0 hd rfl | exact dq2 hd rfl | exact dq3 hd rfl | omega) rfl (Nat.le_of_ble_eq_true rfl) ?_
          refine g_lload_n 1 (gd rfl) rfl rfl ?_
          refine g_lload_n 2 (gd rfl) rfl rfl ?_
          refine g_lcmp 3 (gd rfl) rfl (fun z68x10x2 e68x10x2 => ?_)
          have i68x10x2 := lc_in e68x10x2
          refine g_if_lt 6 10 (gd rfl) rfl rfl (fun c68x10x3 => ?_) (fun c68x10x3 => ?_)
          · skip
            have i68x10x3 := z_lt (-1) (-1) c68x10x3 i68x10x2 rfl
            have c68x10x3a := lc_lt e68x10x2 c68x10x3
            have i68x10x3a := lr_lt2 (-999999999999) 999999999999 c68x10x3a (l_c (-1000000000000) rfl) i68x7x3a rfl
            refine g_lload_n 11 (gd rfl) rfl rfl ?_
            refine g_lreturn (gd rfl) rfl (hp68x10 _ _ ?_)
            show GG _ _ _ _ _ _ _ _ [.long z67] _ _ _
            refine g_lreturn (gd rfl) rfl (hp68 _ _ ?_)
            show GG _ _ _ _ _ _ _ _ [.long z67] _ _ _
            refine g_lstore 73 (gd rfl) rfl (Nat.le_of_ble_eq_true rfl) ?_
            refine g_lload 75 (gd rfl) rfl rfl ?_
            refine g_lload 77 (gd rfl) rfl rfl ?_
            refine g_ladd 78 (gd rfl) rfl (fun z77 e77 => ?_)
            refine g_lstore 80 (gd rfl) rfl (Nat.le_of_ble_eq_true rfl) ?_
            refine g_lload 82 (gd rfl) rfl rfl ?_
            refine g_lload 84 (gd rfl) rfl rfl ?_
            refine g_calls (As := [.long y21_6, .long z67]) (r := []) 87 (gd rfl) rfl rfl rfl rfl rfl (Nat.le_of_ble_eq_true rfl) (mc := 0) (ms := 0) (Nat.zero_le _) (Nat.zero_le _) (P := fun v u => _) ?_ (fun v u h => h)
            intro po84 xx84 hp84 hx84
            refine g_enter2 (k := 425) (N := 300) (by first | exact dq1 hd rfl | exact dq0 hd rfl | exact dq2 hd rfl | exact dq3 hd rfl | omega) rfl (Nat.le_of_ble_eq_true rfl) ?_
            refine g_lload_n 1 (gd rfl) rfl rfl ?_
            refine g_lload_n 2 (gd rfl) rfl rfl ?_
            refine g_lcmp 3 (gd rfl) rfl (fun z84x2 e84x2 => ?_)
            have i84x2 := lc_in e84x2
            refine g_if_gt 6 10 (gd rfl) rfl rfl (fun c84x3 => ?_) (fun c84x3 => ?_)
            · skip
              have i84x3 := z_gt 1 1 c84x3 i84x2 rfl
              have c84x3a := lc_gt e84x2 c84x3
              have i84x3a := lr_lt2 (-999999999998) 9223372036854775807 c84x3a i68x10x3a (l_rng y21_6) rfl
              refine g_lload_n 11 (gd rfl) rfl rfl ?_
              refine g_lreturn (gd rfl) rfl (hp84 _ _ ?_)
              show GG _ _ _ _ _ _ _ _ [.long z67] _ _ _
              refine g_lstore 89 (gd rfl) rfl (Nat.le_of_ble_eq_true rfl) ?_
              refine g_lload 91 (gd rfl) rfl rfl ?_
              refine g_lload 93 (gd rfl) rfl rfl ?_
              refine g_calls (As := [.long y21_8, .long z67]) (r := []) 96 (gd rfl) rfl rfl rfl rfl rfl (Nat.le_of_ble_eq_true rfl) (mc := 0) (ms := 0) (Nat.zero_le _) (Nat.zero_le _) (P := fun v u => _) ?_ (fun v u h => h)
              intro po93 xx93 hp93 hx93
              refine g_enter2 (k := 423) (N := 300) (by first | exact dq1 hd rfl | exact dq0 hd rfl | exact dq2 hd rfl | exact dq3 hd rfl | omega) rfl (Nat.le_of_ble_eq_true rfl) ?_
              refine g_lload_n 1 (gd rfl) rfl rfl ?_
              refine g_lload_n 2 (gd rfl) rfl rfl ?_
              refine g_lcmp 3 (gd rfl) rfl (fun z93x2 e93x2 => ?_)
              have i93x2 := lc_in e93x2
              refine g_if_lt 6 10 (gd rfl) rfl rfl (fun c93x3 => ?_) (fun c93x3 => ?_)
              · skip
                have i93x3 := z_lt (-1) (-1) c93x3 i93x2 rfl
                have c93x3a := lc_lt e93x2 c93x3
                have i93x3a := lr_lt1 (-9223372036854775808) 999999999998 c93x3a (l_rng y21_8) i68x10x3a rfl
                refine g_lload_n 11 (gd rfl) rfl rfl ?_
                refine g_lreturn (gd rfl) rfl (hp93 _ _ ?_)
                show GG _ _ _ _ _ _ _ _ [.long z67] _ _ _
                refine g_lstore 98 (gd rfl) rfl (Nat.le_of_ble_eq_true rfl) ?_
                refine g_iinc 101 (gd rfl) rfl rfl (Nat.le_of_ble_eq_true rfl) (fun z98 e98 => ?_)
                have i98 := in_add 1 160 e98 i31 (in_c 1 rfl) rfl rfl
                refine g_goto 21 (gd rfl) rfl ?_
                exact gg_w (by first | exact Nat.le_add_right _ _ | exact gw2 | exact gw3 | exact gwe rfl | exact gwf rfl | exact gwg rfl | exact gwh rfl | omega) (gg_f (gf_cons rfl (gf_cons rfl (gf_cons rfl (gf_cons rfl (gf_cons rfl (gf_cons rfl (gf_cons rfl (gf_cons rfl gf_nil)))))))) (ih21 sc21 z77 z67 z67 z98 hIc21 hFc21 (in_w 0 160 i98 rfl) (m_up mm21 (t_add e98 i31 (in_c 1 rfl) rfl) (in_w 1 1 (in_c 1 rfl) rfl))))
              · skip
                have i93x3 := z_ge 0 1 c93x3 i93x2 rfl
                have c93x3a := lc_ge e93x2 c93x3
                have i93x3a := lr_le2 (-999999999999) 9223372036854775807 c93x3a i68x10x3a (l_rng y21_8) rfl
                refine g_lload_n 7 (gd rfl) rfl rfl ?_
                refine g_goto 11 (gd rfl) rfl ?_
                refine g_lreturn (gd rfl) rfl (hp93 _ _ ?_)
                show GG _ _ _ _ _ _ _ _ [.long y21_8] _ _ _
                refine g_lstore 98 (gd rfl) rfl (Nat.le_of_ble_eq_true rfl) ?_
                refine g_iinc 101 (gd rfl) rfl rfl (Nat.le_of_ble_eq_true rfl) (fun z98 e98 => ?_)
                have i98 := in_add 1 160 e98 i31 (in_c 1 rfl) rfl rfl
                refine g_goto 21 (gd rfl) rfl ?_
                exact gg_w (by first | exact Nat.le_add_right _ _ | exact gw2 | exact gw3 | exact gwe rfl | exact gwf rfl | exact gwg rfl | exact gwh rfl | omega) (gg_f (gf_cons rfl (gf_cons rfl (gf_cons rfl (gf_cons rfl (gf_cons rfl (gf_cons rfl (gf_cons rfl (gf_cons rfl gf_nil)))))))) (ih21 sc21 z77 z67 y21_8 z98 hIc21 hFc21 (in_w 0 160 i98 rfl) (m_up mm21 (t_add e98 i31 (in_c 1 rfl) rfl) (in_w 1 1 (in_c 1 rfl) rfl))))
            · skip
              have i84x3 := z_le (-1) 0 c84x3 i84x2 rfl
              have c84x3a := lc_le e84x2 c84x3
              have i84x3a := lr_le1 (-9223372036854775808) 999999999999 c84x3a (l_rng y21_6) i68x10x3a rfl
              refine g_lload_n 7 (gd rfl) rfl rfl ?_
              refine g_goto 11 (gd rfl) rfl ?_
              refine g_lreturn (gd rfl) rfl (hp84 _ _ ?_)
              show GG _ _ _ _ _ _ _ _ [.long y21_6] _ _ _
              refine g_lstore 89 (gd rfl) rfl (Nat.le_of_ble_eq_true rfl) ?_
              refine g_lload 91 (gd rfl) rfl rfl ?_
              refine g_lload 93 (gd rfl) rfl rfl ?_
              refine g_calls (As := [.long y21_8, .long z67]) (r := []) 96 (gd rfl) rfl rfl rfl rfl rfl (Nat.le_of_ble_eq_true rfl) (mc := 0) (ms := 0) (Nat.zero_le _) (Nat.zero_le _) (P := fun v u => _) ?_ (fun v u h => h)
              intro po93 xx93 hp93 hx93
              refine g_enter2 (k := 423) (N := 300) (by first | exact dq1 hd rfl | exact dq0 hd rfl | exact dq2 hd rfl | exact dq3 hd rfl | omega) rfl (Nat.le_of_ble_eq_true rfl) ?_
              refine g_lload_n 1 (gd rfl) rfl rfl ?_
              refine g_lload_n 2 (gd rfl) rfl rfl ?_
              refine g_lcmp 3 (gd rfl) rfl (fun z93x2 e93x2 => ?_)
              have i93x2 := lc_in e93x2
              refine g_if_lt 6 10 (gd rfl) rfl rfl (fun c93x3 => ?_) (fun c93x3 => ?_)
              · skip
                have i93x3 := z_lt (-1) (-1) c93x3 i93x2 rfl
                have c93x3a := lc_lt e93x2 c93x3
                have i93x3a := lr_lt1 (-9223372036854775808) 999999999998 c93x3a (l_rng y21_8) i68x10x3a rfl
                refine g_lload_n 11 (gd rfl) rfl rfl ?_
                refine g_lreturn (gd rfl) rfl (hp93 _ _ ?_)
                show GG _ _ _ _ _ _ _ _ [.long z67] _ _ _
                refine g_lstore 98 (gd rfl) rfl (Nat.le_of_ble_eq_true rfl) ?_
                refine g_iinc 101 (gd rfl) rfl rfl (Nat.le_of_ble_eq_true rfl) (fun z98 e98 => ?_)
                have i98 := in_add 1 160 e98 i31 (in_c 1 rfl) rfl rfl
                refine g_goto 21 (gd rfl) rfl ?_
                exact gg_w (by first | exact Nat.le_add_right _ _ | exact gw2 | exact gw3 | exact gwe rfl | exact gwf rfl | exact gwg rfl | exact gwh rfl | omega) (gg_f (gf_cons rfl (gf_cons rfl (gf_cons rfl (gf_cons rfl (gf_cons rfl (gf_cons rfl (gf_cons rfl (gf_cons rfl gf_nil)))))))) (ih21 sc21 z77 y21_6 z67 z98 hIc21 hFc21 (in_w 0 160 i98 rfl) (m_up mm21 (t_add e98 i31 (in_c 1 rfl) rfl) (in_w 1 1 (in_c 1 rfl) rfl))))
              · skip
                have i93x3 := z_ge 0 1 c93x3 i93x2 rfl
                have c93x3a := lc_ge e93x2 c93x3
                have i93x3a := lr_le2 (-999999999999) 9223372036854775807 c93x3a i68x10x3a (l_rng y21_8) rfl
                refine g_lload_n 7 (gd rfl) rfl rfl ?_
                refine g_goto 11 (gd rfl) rfl ?_
                refine g_lreturn (gd rfl) rfl (hp93 _ _ ?_)
                show GG _ _ _ _ _ _ _ _ [.long y21_8] _ _ _
                refine g_lstore 98 (gd rfl) rfl (Nat.le_of_ble_eq_true rfl) ?_
                refine g_iinc 101 (gd rfl) rfl rfl (Nat.le_of_ble_eq_true rfl) (fun z98 e98 => ?_)
                have i98 := in_add 1 160 e98 i31 (in_c 1 rfl) rfl rfl
                refine g_goto 21 (gd rfl) rfl ?_
                exact gg_w (by first | exact Nat.le_add_right _ _ | exact gw2 | exact gw3 | exact gwe rfl | exact gwf rfl | exact gwg rfl | exact gwh rfl | omega) (gg_f (gf_cons rfl (gf_cons rfl (gf_cons rfl (gf_cons rfl (gf_cons rfl (gf_cons rfl (gf_cons rfl (gf_cons rfl gf_nil)))))))) (ih21 sc21 z77 y21_6 y21_8 z98 hIc21 hFc21 (in_w 0 160 i98 rfl) (m_up mm21 (t_add e98 i31 (in_c 1 rfl) rfl) (in_w 1 1 (in_c 1 rfl) rfl))))
          · skip
            have i68x10x3 := z_ge 0 1 c68x10x3 i68x10x2 rfl
            have c68x10x3a := lc_ge e68x10x2 c68x10x3
            have i68x10x3a := lr_le1 (-9223372036854775808) (-1000000000000) c68x10x3a i68x7x3a (l_c (-1000000000000) rfl) rfl
            refine g_lload_n 7 (gd rfl) rfl rfl ?_
            refine g_goto 11 (gd rfl) rfl ?_
            refine g_lreturn (gd rfl) rfl (hp68x10 _ _ ?_)
            show GG _ _ _ _ _ _ _ _ [.long (Int64.ofInt (-1000000000000))] _ _ _
            refine g_lreturn (gd rfl) rfl (hp68 _ _ ?_)
            show GG _ _ _ _ _ _ _ _ [.long (Int64.ofInt (-1000000000000))] _ _ _
            refine g_lstore 73 (gd rfl) rfl (Nat.le_of_ble_eq_true rfl) ?_
            refine g_lload 75 (gd rfl) rfl rfl ?_
            refine g_lload 77 (gd rfl) rfl rfl ?_
            refine g_ladd 78 (gd rfl) rfl (fun z77 e77 => ?_)
            refine g_lstore 80 (gd rfl) rfl (Nat.le_of_ble_eq_true rfl) ?_
            refine g_lload 82 (gd rfl) rfl rfl ?_
            refine g_lload 84 (gd rfl) rfl rfl ?_
            refine g_calls (As := [.long y21_6, .long (Int64.ofInt (-1000000000000))]) (r := []) 87 (gd rfl) rfl rfl rfl rfl rfl (Nat.le_of_ble_eq_true rfl) (mc := 0) (ms := 0) (Nat.zero_le _) (Nat.zero_le _) (P := fun v u => _) ?_ (fun v u h => h)
            intro po84 xx84 hp84 hx84
            refine g_enter2 (k := 425) (N := 300) (by first | exact dq1 hd rfl | exact dq0 hd rfl | exact dq2 hd rfl | exact dq3 hd rfl | omega) rfl (Nat.le_of_ble_eq_true rfl) ?_
            refine g_lload_n 1 (gd rfl) rfl rfl ?_
            refine g_lload_n 2 (gd rfl) rfl rfl ?_
            refine g_lcmp 3 (gd rfl) rfl (fun z84x2 e84x2 => ?_)
            have i84x2 := lc_in e84x2
            refine g_if_gt 6 10 (gd rfl) rfl rfl (fun c84x3 => ?_) (fun c84x3 => ?_)
            · skip
              have i84x3 := z_gt 1 1 c84x3 i84x2 rfl
              have c84x3a := lc_gt e84x2 c84x3
              have i84x3a := lr_lt2 (-999999999999) 9223372036854775807 c84x3a (l_c (-1000000000000) rfl) (l_rng y21_6) rfl
              refine g_lload_n 11 (gd rfl) rfl rfl ?_
              refine g_lreturn (gd rfl) rfl (hp84 _ _ ?_)
              show GG _ _ _ _ _ _ _ _ [.long (Int64.ofInt (-1000000000000))] _ _ _
              refine g_lstore 89 (gd rfl) rfl (Nat.le_of_ble_eq_true rfl) ?_
              refine g_lload 91 (gd rfl) rfl rfl ?_
              refine g_lload 93 (gd rfl) rfl rfl ?_
              refine g_calls (As := [.long y21_8, .long (Int64.ofInt (-1000000000000))]) (r := []) 96 (gd rfl) rfl rfl rfl rfl rfl (Nat.le_of_ble_eq_true rfl) (mc := 0) (ms := 0) (Nat.zero_le _) (Nat.zero_le _) (P := fun v u => _) ?_ (fun v u h => h)
              intro po93 xx93 hp93 hx93
              refine g_enter2 (k := 423) (N := 300) (by first | exact dq1 hd rfl | exact dq0 hd rfl | exact dq2 hd rfl | exact dq3 hd rfl | omega) rfl (Nat.le_of_ble_eq_true rfl) ?_
              refine g_lload_n 1 (gd rfl) rfl rfl ?_
              refine g_lload_n 2 (gd rfl) rfl rfl ?_
              refine g_lcmp 3 (gd rfl) rfl (fun z93x2 e93x2 => ?_)
              have i93x2 := lc_in e93x2
              refine g_if_lt 6 10 (gd rfl) rfl rfl (fun c93x3 => ?_) (fun c93x3 => ?_)
              · skip
                have i93x3 := z_lt (-1) (-1) c93x3 i93x2 rfl
                have c93x3a := lc_lt e93x2 c93x3
                have i93x3a := lr_lt1 (-9223372036854775808) (-1000000000001) c93x3a (l_rng y21_8) (l_c (-1000000000000) rfl) rfl
                refine g_lload_n 11 (gd rfl) rfl rfl ?_
                refine g_lreturn (gd rfl) rfl (hp93 _ _ ?_)
                show GG _ _ _ _ _ _ _ _ [.long (Int64.ofInt (-1000000000000))] _ _ _
                refine g_lstore 98 (gd rfl) rfl (Nat.le_of_ble_eq_true rfl) ?_
                refine g_iinc 101 (gd rfl) rfl rfl (Nat.le_of_ble_eq_true rfl) (fun z98 e98 => ?_)
                have i98 := in_add 1 160 e98 i31 (in_c 1 rfl) rfl rfl
                refine g_goto 21 (gd rfl) rfl ?_
                exact gg_w (by first | exact Nat.le_add_right _ _ | exact gw2 | exact gw3 | exact gwe rfl | exact gwf rfl | exact gwg rfl | exact gwh rfl | omega) (gg_f (gf_cons rfl (gf_cons rfl (gf_cons rfl (gf_cons rfl (gf_cons rfl (gf_cons rfl (gf_cons rfl (gf_cons rfl gf_nil)))))))) (ih21 sc21 z77 (Int64.ofInt (-1000000000000)) (Int64.ofInt (-1000000000000)) z98 hIc21 hFc21 (in_w 0 160 i98 rfl) (m_up mm21 (t_add e98 i31 (in_c 1 rfl) rfl) (in_w 1 1 (in_c 1 rfl) rfl))))
              · skip
                have i93x3 := z_ge 0 1 c93x3 i93x2 rfl
                have c93x3a := lc_ge e93x2 c93x3
                have i93x3a := lr_le2 (-1000000000000) 9223372036854775807 c93x3a (l_c (-1000000000000) rfl) (l_rng y21_8) rfl
                refine g_lload_n 7 (gd rfl) rfl rfl ?_
                refine g_goto 11 (gd rfl) rfl ?_
                refine g_lreturn (gd rfl) rfl (hp93 _ _ ?_)
                show GG _ _ _ _ _ _ _ _ [.long y21_8] _ _ _
                refine g_lstore 98 (gd rfl) rfl (Nat.le_of_ble_eq_true rfl) ?_
                refine g_iinc 101 (gd rfl) rfl rfl (Nat.le_of_ble_eq_true rfl) (fun z98 e98 => ?_)
                have i98 := in_add 1 160 e98 i31 (in_c 1 rfl) rfl rfl
                refine g_goto 21 (gd rfl) rfl ?_
                exact gg_w (by first | exact Nat.le_add_right _ _ | exact gw2 | exact gw3 | exact gwe rfl | exact gwf rfl | exact gwg rfl | exact gwh rfl | omega) (gg_f (gf_cons rfl (gf_cons rfl (gf_cons rfl (gf_cons rfl (gf_cons rfl (gf_cons rfl (gf_cons rfl (gf_cons rfl gf_nil)))))))) (ih21 sc21 z77 (Int64.ofInt (-1000000000000)) y21_8 z98 hIc21 hFc21 (in_w 0 160 i98 rfl) (m_up mm21 (t_add e98 i31 (in_c 1 rfl) rfl) (in_w 1 1 (in_c 1 rfl) rfl))))
            · skip
              have i84x3 := z_le (-1) 0 c84x3 i84x2 rfl
              have c84x3a := lc_le e84x2 c84x3
              have i84x3a := lr_le1 (-9223372036854775808) (-1000000000000) c84x3a (l_rng y21_6) (l_c (-1000000000000) rfl) rfl
              refine g_lload_n 7 (gd rfl) rfl rfl ?_
              refine g_goto 11 (gd rfl) rfl ?_
              refine g_lreturn (gd rfl) rfl (hp84 _ _ ?_)
              show GG _ _ _ _ _ _ _ _ [.long y21_6] _ _ _
              refine g_lstore 89 (gd rfl) rfl (Nat.le_of_ble_eq_true rfl) ?_
              refine g_lload 91 (gd rfl) rfl rfl ?_
              refine g_lload 93 (gd rfl) rfl rfl ?_
              refine g_calls (As := [.long y21_8, .long (Int64.ofInt (-1000000000000))]) (r := []) 96 (gd rfl) rfl rfl rfl rfl rfl (Nat.le_of_ble_eq_true rfl) (mc := 0) (ms := 0) (Nat.zero_le _) (Nat.zero_le _) (P := fun v u => _) ?_ (fun v u h => h)
              intro po93 xx93 hp93 hx93
              refine g_enter2 (k := 423) (N := 300) (by first | exact dq1 hd rfl | exact dq0 hd rfl | exact dq2 hd rfl | exact dq3 hd rfl | omega) rfl (Nat.le_of_ble_eq_true rfl) ?_
              refine g_lload_n 1 (gd rfl) rfl rfl ?_
              refine g_lload_n 2 (gd rfl) rfl rfl ?_
              refine g_lcmp 3 (gd rfl) rfl (fun z93x2 e93x2 => ?_)
              have i93x2 := lc_in e93x2
              refine g_if_lt 6 10 (gd rfl) rfl rfl (fun c93x3 => ?_) (fun c93x3 => ?_)
              · skip
                have i93x3 := z_lt (-1) (-1) c93x3 i93x2 rfl
                have c93x3a := lc_lt e93x2 c93x3
                have i93x3a := lr_lt1 (-9223372036854775808) (-1000000000001) c93x3a (l_rng y21_8) (l_c (-1000000000000) rfl) rfl
                refine g_lload_n 11 (gd rfl) rfl rfl ?_
                refine g_lreturn (gd rfl) rfl (hp93 _ _ ?_)
                show GG _ _ _ _ _ _ _ _ [.long (Int64.ofInt (-1000000000000))] _ _ _
                refine g_lstore 98 (gd rfl) rfl (Nat.le_of_ble_eq_true rfl) ?_
                refine g_iinc 101 (gd rfl) rfl rfl (Nat.le_of_ble_eq_true rfl) (fun z98 e98 => ?_)
                have i98 := in_add 1 160 e98 i31 (in_c 1 rfl) rfl rfl
                refine g_goto 21 (gd rfl) rfl ?_
                exact gg_w (by first | exact Nat.le_add_right _ _ | exact gw2 | exact gw3 | exact gwe rfl | exact gwf rfl | exact gwg rfl | exact gwh rfl | omega) (gg_f (gf_cons rfl (gf_cons rfl (gf_cons rfl (gf_cons rfl (gf_cons rfl (gf_cons rfl (gf_cons rfl (gf_cons rfl gf_nil)))))))) (ih21 sc21 z77 y21_6 (Int64.ofInt (-1000000000000)) z98 hIc21 hFc21 (in_w 0 160 i98 rfl) (m_up mm21 (t_add e98 i31 (in_c 1 rfl) rfl) (in_w 1 1 (in_c 1 rfl) rfl))))
              · skip
                have i93x3 := z_ge 0 1 c93x3 i93x2 rfl
                have c93x3a := lc_ge e93x2 c93x3
                have i93x3a := lr_le2 (-1000000000000) 9223372036854775807 c93x3a (l_c (-1000000000000) rfl) (l_rng y21_8) rfl
                refine g_lload_n 7 (gd rfl) rfl rfl ?_
                refine g_goto 11 (gd rfl) rfl ?_
                refine g_lreturn (gd rfl) rfl (hp93 _ _ ?_)
                show GG _ _ _ _ _ _ _ _ [.long y21_8] _ _ _
                refine g_lstore 98 (gd rfl) rfl (Nat.le_of_ble_eq_true rfl) ?_
                refine g_iinc 101 (gd rfl) rfl rfl (Nat.le_of_ble_eq_true rfl) (fun z98 e98 => ?_)
                have i98 := in_add 1 160 e98 i31 (in_c 1 rfl) rfl rfl
                refine g_goto 21 (gd rfl) rfl ?_
                exact gg_w (by first | exact Nat.le_add_right _ _ | exact gw2 | exact gw3 | exact gwe rfl | exact gwf rfl | exact gwg rfl | exact gwh rfl | omega) (gg_f (gf_cons rfl (gf_cons rfl (gf_cons rfl (gf_cons rfl (gf_cons rfl (gf_cons rfl (gf_cons rfl (gf_cons rfl gf_nil)))))))) (ih21 sc21 z77 y21_6 y21_8 z98 hIc21 hFc21 (in_w 0 160 i98 rfl) (m_up mm21 (t_add e98 i31 (in_c 1 rfl) rfl) (in_w 1 1 (in_c 1 rfl) rfl))))
        · skip
          have i68x7x3 := z_le (-1) 0 c68x7x3 i68x7x2 rfl
          have c68x7x3a := lc_le e68x7x2 c68x7x3
          have i68x7x3a := lr_le2 1000000000000 9223372036854775807 c68x7x3a (l_c 1000000000000 rfl) (l_rng z67) rfl
          refine g_lload_n 7 (gd rfl) rfl rfl ?_
          refine g_goto 11 (gd rfl) rfl ?_
          refine g_lreturn (gd rfl) rfl (hp68x7 _ _ ?_)
          show GG _ _ _ _ _ _ _ _ [.long (Int64.ofInt 1000000000000), .long (Int64.ofInt (-1000000000000))] _ _ _
          refine g_calls (As := [.long (Int64.ofInt (-1000000000000)), .long (Int64.ofInt 1000000000000)]) (r := []) 13 (gd rfl) rfl rfl rfl rfl rfl (Nat.le_of_ble_eq_true rfl) (mc := 0) (ms := 0) (Nat.zero_le _) (Nat.zero_le _) (P := fun v u => _) ?_ (fun v u h => h)
          intro po68x10 xx68x10 hp68x10 hx68x10
          refine g_enter2 (k := 423) (N := 300) (by first | exact dq1 hd rfl | exact dq0 hd rfl | exact dq2 hd rfl | exact dq3 hd rfl | omega) rfl (Nat.le_of_ble_eq_true rfl) ?_
          refine g_lload_n 1 (gd rfl) rfl rfl ?_
          refine g_lload_n 2 (gd rfl) rfl rfl ?_
          refine g_lcmp 3 (gd rfl) rfl (fun z68x10x2 e68x10x2 => ?_)
          have i68x10x2 := lc_in e68x10x2
          refine g_if_lt 6 10 (gd rfl) rfl rfl (fun c68x10x3 => ?_) (fun c68x10x3 => ?_)
          · skip
            have i68x10x3 := z_lt (-1) (-1) c68x10x3 i68x10x2 rfl
            have c68x10x3a := lc_lt e68x10x2 c68x10x3
            refine g_lload_n 11 (gd rfl) rfl rfl ?_
            refine g_lreturn (gd rfl) rfl (hp68x10 _ _ ?_)
            show GG _ _ _ _ _ _ _ _ [.long (Int64.ofInt 1000000000000)] _ _ _
            refine g_lreturn (gd rfl) rfl (hp68 _ _ ?_)
            show GG _ _ _ _ _ _ _ _ [.long (Int64.ofInt 1000000000000)] _ _ _
            refine g_lstore 73 (gd rfl) rfl (Nat.le_of_ble_eq_true rfl) ?_
            refine g_lload 75 (gd rfl) rfl rfl ?_
            refine g_lload 77 (gd rfl) rfl rfl ?_
            refine g_ladd 78 (gd rfl) rfl (fun z77 e77 => ?_)
            refine g_lstore 80 (gd rfl) rfl (Nat.le_of_ble_eq_true rfl) ?_
            refine g_lload 82 (gd rfl) rfl rfl ?_
            refine g_lload 84 (gd rfl) rfl rfl ?_
            refine g_calls (As := [.long y21_6, .long (Int64.ofInt 1000000000000)]) (r := []) 87 (gd rfl) rfl rfl rfl rfl rfl (Nat.le_of_ble_eq_true rfl) (mc := 0) (ms := 0) (Nat.zero_le _) (Nat.zero_le _) (P := fun v u => _) ?_ (fun v u h => h)
            intro po84 xx84 hp84 hx84
            refine g_enter2 (k := 425) (N := 300) (by first | exact dq1 hd rfl | exact dq0 hd rfl | exact dq2 hd rfl | exact dq3 hd rfl | omega) rfl (Nat.le_of_ble_eq_true rfl) ?_
            refine g_lload_n 1 (gd rfl) rfl rfl ?_
            refine g_lload_n 2 (gd rfl) rfl rfl ?_
            refine g_lcmp 3 (gd rfl) rfl (fun z84x2 e84x2 => ?_)
            have i84x2 := lc_in e84x2
            refine g_if_gt 6 10 (gd rfl) rfl rfl (fun c84x3 => ?_) (fun c84x3 => ?_)
            · skip
              have i84x3 := z_gt 1 1 c84x3 i84x2 rfl
              have c84x3a := lc_gt e84x2 c84x3
              have i84x3a := lr_lt2 1000000000001 9223372036854775807 c84x3a (l_c 1000000000000 rfl) (l_rng y21_6) rfl
              refine g_lload_n 11 (gd rfl) rfl rfl ?_
              refine g_lreturn (gd rfl) rfl (hp84 _ _ ?_)
              show GG _ _ _ _ _ _ _ _ [.long (Int64.ofInt 1000000000000)] _ _ _
              refine g_lstore 89 (gd rfl) rfl (Nat.le_of_ble_eq_true rfl) ?_
              refine g_lload 91 (gd rfl) rfl rfl ?_
              refine g_lload 93 (gd rfl) rfl rfl ?_
              refine g_calls (As := [.long y21_8, .long (Int64.ofInt 1000000000000)]) (r := []) 96 (gd rfl) rfl rfl rfl rfl rfl (Nat.le_of_ble_eq_true rfl) (mc := 0) (ms := 0) (Nat.zero_le _) (Nat.zero_le _) (P := fun v u => _) ?_ (fun v u h => h)
              intro po93 xx93 hp93 hx93
              refine g_enter2 (k := 423) (N := 300) (by first | exact dq1 hd rfl | exact dq0 hd rfl | exact dq2 hd rfl | exact dq3 hd rfl | omega) rfl (Nat.le_of_ble_eq_true rfl) ?_
              refine g_lload_n 1 (gd rfl) rfl rfl ?_
              refine g_lload_n 2 (gd rfl) rfl rfl ?_
              refine g_lcmp 3 (gd rfl) rfl (fun z93x2 e93x2 => ?_)
              have i93x2 := lc_in e93x2
              refine g_if_lt 6 10 (gd rfl) rfl rfl (fun c93x3 => ?_) (fun c93x3 => ?_)
              · skip
                have i93x3 := z_lt (-1) (-1) c93x3 i93x2 rfl
                have c93x3a := lc_lt e93x2 c93x3
                have i93x3a := lr_lt1 (-9223372036854775808) 999999999999 c93x3a (l_rng y21_8) (l_c 1000000000000 rfl) rfl
                refine g_lload_n 11 (gd rfl) rfl rfl ?_
                refine g_lreturn (gd rfl) rfl (hp93 _ _ ?_)
                show GG _ _ _ _ _ _ _ _ [.long (Int64.ofInt 1000000000000)] _ _ _
                refine g_lstore 98 (gd rfl) rfl (Nat.le_of_ble_eq_true rfl) ?_
                refine g_iinc 101 (gd rfl) rfl rfl (Nat.le_of_ble_eq_true rfl) (fun z98 e98 => ?_)
                have i98 := in_add 1 160 e98 i31 (in_c 1 rfl) rfl rfl
                refine g_goto 21 (gd rfl) rfl ?_
                exact gg_w (by first | exact Nat.le_add_right _ _ | exact gw2 | exact gw3 | exact gwe rfl | exact gwf rfl | exact gwg rfl | exact gwh rfl | omega) (gg_f (gf_cons rfl (gf_cons rfl (gf_cons rfl (gf_cons rfl (gf_cons rfl (gf_cons rfl (gf_cons rfl (gf_cons rfl gf_nil)))))))) (ih21 sc21 z77 (Int64.ofInt 1000000000000) (Int64.ofInt 1000000000000) z98 hIc21 hFc21 (in_w 0 160 i98 rfl) (m_up mm21 (t_add e98 i31 (in_c 1 rfl) rfl) (in_w 1 1 (in_c 1 rfl) rfl))))
              · skip
                have i93x3 := z_ge 0 1 c93x3 i93x2 rfl
                have c93x3a := lc_ge e93x2 c93x3
                have i93x3a := lr_le2 1000000000000 9223372036854775807 c93x3a (l_c 1000000000000 rfl) (l_rng y21_8) rfl
                refine g_lload_n 7 (gd rfl) rfl rfl ?_
                refine g_goto 11 (gd rfl) rfl ?_
                refine g_lreturn (gd rfl) rfl (hp93 _ _ ?_)
                show GG _ _ _ _ _ _ _ _ [.long y21_8] _ _ _
                refine g_lstore 98 (gd rfl) rfl (Nat.le_of_ble_eq_true rfl) ?_
                refine g_iinc 101 (gd rfl) rfl rfl (Nat.le_of_ble_eq_true rfl) (fun z98 e98 => ?_)
                have i98 := in_add 1 160 e98 i31 (in_c 1 rfl) rfl rfl
                refine g_goto 21 (gd rfl) rfl ?_
                exact gg_w (by first | exact Nat.le_add_right _ _ | exact gw2 | exact gw3 | exact gwe rfl | exact gwf rfl | exact gwg rfl | exact gwh rfl | omega) (gg_f (gf_cons rfl (gf_cons rfl (gf_cons rfl (gf_cons rfl (gf_cons rfl (gf_cons rfl (gf_cons rfl (gf_cons rfl gf_nil)))))))) (ih21 sc21 z77 (Int64.ofInt 1000000000000) y21_8 z98 hIc21 hFc21 (in_w 0 160 i98 rfl) (m_up mm21 (t_add e98 i31 (in_c 1 rfl) rfl) (in_w 1 1 (in_c 1 rfl) rfl))))
            · skip
              have i84x3 := z_le (-1) 0 c84x3 i84x2 rfl
              have c84x3a := lc_le e84x2 c84x3
              have i84x3a := lr_le1 (-9223372036854775808) 1000000000000 c84x3a (l_rng y21_6) (l_c 1000000000000 rfl) rfl
              refine g_lload_n 7 (gd rfl) rfl rfl ?_
              refine g_goto 11 (gd rfl) rfl ?_
              refine g_lreturn (gd rfl) rfl (hp84 _ _ ?_)
              show GG _ _ _ _ _ _ _ _ [.long y21_6] _ _ _
              refine g_lstore 89 (gd rfl) rfl (Nat.le_of_ble_eq_true rfl) ?_
              refine g_lload 91 (gd rfl) rfl rfl ?_
              refine g_lload 93 (gd rfl) rfl rfl ?_
              refine g_calls (As := [.long y21_8, .long (Int64.ofInt 1000000000000)]) (r := []) 96 (gd rfl) rfl rfl rfl rfl rfl (Nat.le_of_ble_eq_true rfl) (mc := 0) (ms := 0) (Nat.zero_le _) (Nat.zero_le _) (P := fun v u => _) ?_ (fun v u h => h)
              intro po93 xx93 hp93 hx93
              refine g_enter2 (k := 423) (N := 300) (by first | exact dq1 hd rfl | exact dq0 hd rfl | exact dq2 hd rfl | exact dq3 hd rfl | omega) rfl (Nat.le_of_ble_eq_true rfl) ?_
              refine g_lload_n 1 (gd rfl) rfl rfl ?_
              refine g_lload_n 2 (gd rfl) rfl rfl ?_
              refine g_lcmp 3 (gd rfl) rfl (fun z93x2 e93x2 => ?_)
              have i93x2 := lc_in e93x2
              refine g_if_lt 6 10 (gd rfl) rfl rfl (fun c93x3 => ?_) (fun c93x3 => ?_)
              · skip
                have i93x3 := z_lt (-1) (-1) c93x3 i93x2 rfl
                have c93x3a := lc_lt e93x2 c93x3
                have i93x3a := lr_lt1 (-9223372036854775808) 999999999999 c93x3a (l_rng y21_8) (l_c 1000000000000 rfl) rfl
                refine g_lload_n 11 (gd rfl) rfl rfl ?_
                refine g_lreturn (gd rfl) rfl (hp93 _ _ ?_)
                show GG _ _ _ _ _ _ _ _ [.long (Int64.ofInt 1000000000000)] _ _ _
                refine g_lstore 98 (gd rfl) rfl (Nat.le_of_ble_eq_true rfl) ?_
                refine g_iinc 101 (gd rfl) rfl rfl (Nat.le_of_ble_eq_true rfl) (fun z98 e98 => ?_)
                have i98 := in_add 1 160 e98 i31 (in_c 1 rfl) rfl rfl
                refine g_goto 21 (gd rfl) rfl ?_
                exact gg_w (by first | exact Nat.le_add_right _ _ | exact gw2 | exact gw3 | exact gwe rfl | exact gwf rfl | exact gwg rfl | exact gwh rfl | omega) (gg_f (gf_cons rfl (gf_cons rfl (gf_cons rfl (gf_cons rfl (gf_cons rfl (gf_cons rfl (gf_cons rfl (gf_cons rfl gf_nil)))))))) (ih21 sc21 z77 y21_6 (Int64.ofInt 1000000000000) z98 hIc21 hFc21 (in_w 0 160 i98 rfl) (m_up mm21 (t_add e98 i31 (in_c 1 rfl) rfl) (in_w 1 1 (in_c 1 rfl) rfl))))
              · skip
                have i93x3 := z_ge 0 1 c93x3 i93x2 rfl
                have c93x3a := lc_ge e93x2 c93x3
                have i93x3a := lr_le2 1000000000000 9223372036854775807 c93x3a (l_c 1000000000000 rfl) (l_rng y21_8) rfl
                refine g_lload_n 7 (gd rfl) rfl rfl ?_
                refine g_goto 11 (gd rfl) rfl ?_
                refine g_lreturn (gd rfl) rfl (hp93 _ _ ?_)
                show GG _ _ _ _ _ _ _ _ [.long y21_8] _ _ _
                refine g_lstore 98 (gd rfl) rfl (Nat.le_of_ble_eq_true rfl) ?_
                refine g_iinc 101 (gd rfl) rfl rfl (Nat.le_of_ble_eq_true rfl) (fun z98 e98 => ?_)
                have i98 := in_add 1 160 e98 i31 (in_c 1 rfl) rfl rfl
                refine g_goto 21 (gd rfl) rfl ?_
                exact gg_w (by first | exact Nat.le_add_right _ _ | exact gw2 | exact gw3 | exact gwe rfl | exact gwf rfl | exact gwg rfl | exact gwh rfl | omega) (gg_f (gf_cons rfl (gf_cons rfl (gf_cons rfl (gf_cons rfl (gf_cons rfl (gf_cons rfl (gf_cons rfl (gf_cons rfl gf_nil)))))))) (ih21 sc21 z77 y21_6 y21_8 z98 hIc21 hFc21 (in_w 0 160 i98 rfl) (m_up mm21 (t_add e98 i31 (in_c 1 rfl) rfl) (in_w 1 1 (in_c 1 rfl) rfl))))
          · skip
            have i68x10x3 := z_ge 0 1 c68x10x3 i68x10x2 rfl
            have c68x10x3a := lc_ge e68x10x2 c68x10x3
            exact ln_le c68x10x3a (l_c 1000000000000 rfl) (l_c (-1000000000000) rfl) rfl
  refine g_enter2 (k := 65) (N := 145801) (by first | exact dq1 hd rfl | exact dq0 hd rfl | exact dq2 hd rfl | exact dq3 hd rfl | omega) rfl (Nat.le_of_ble_eq_true rfl) ?_
  refine g_lconst 0 1 (gd rfl) rfl rfl ?_
  refine g_lstore 3 (gd rfl) rfl (Nat.le_of_ble_eq_true rfl) ?_
  refine g_ldc2_w 1000000000000 6 (gd rfl) rfl rfl ?_
  refine g_lstore 8 (gd rfl) rfl (Nat.le_of_ble_eq_true rfl) ?_
  refine g_ldc2_w (-1000000000000) 11 (gd rfl) rfl rfl ?_
  refine g_lstore 13 (gd rfl) rfl (Nat.le_of_ble_eq_true rfl) ?_
  refine g_aload_n 14 (gd rfl) rfl rfl ?_
  refine g_getA (q2 := 44) 17 (gd rfl) rfl rfl rfl rfl ?_
  refine g_iload_n 18 (gd rfl) rfl rfl ?_
  refine g_iaload 19 (gd rfl) rfl (n := 33) rfl (in_ix h2 rfl) (fun z18 e18 => ?_)
  have i18 := inv_I hI (n := 33) (t := 0) 0 160 rfl (in_ix h2 rfl) rfl e18
  refine g_istore 21 (gd rfl) rfl (Nat.le_of_ble_eq_true rfl) ?_
  exact gg_w (by first | exact Nat.le_of_ble_eq_true rfl | omega) (gg_f (gf_cons rfl (gf_cons rfl (gf_cons rfl (gf_cons rfl (gf_cons rfl (gf_cons rfl (gf_cons rfl (gf_cons rfl gf_nil)))))))) (ct21 161 s (Int64.ofInt 0) (Int64.ofInt 1000000000000) (Int64.ofInt (-1000000000000)) z18 hI fr_rf (in_w 0 160 i18 rfl) (m_in 161 (in_w 0 160 i18 rfl) rfl)))
