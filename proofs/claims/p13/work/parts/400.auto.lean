/-! methods, by vc.py -/
/-- GraphHouse$Colours.growClique -/
theorem k_42_60_9_r {Z : AmZ} {A : Nat → Nat} {ex : va_W} (kk : Nat) : ∀ {s : GS} {d : Nat} {X : AmX} {x2 : Int32} {x3 : Int32} {x4 : Int32}, 5 + kk * 3 ≤ d → Inv s → In x4 0 32 → 32 - (x4).toInt < (kk : Int) → GC Z d 42 [.ref (A 60), .ref (A 9), .int x2, .int x3, .int x4] (WW Z A s ++ ex) 0 0 (fun v u => ∃ t : GS, Inv t ∧ v = none ∧ u = WW Z A t ++ ex) X := by
  induction kk with
  | zero => intro s d X x2 x3 x4 hd hI h4 hm; exact m_no hm h4 rfl
  | succ kk ih =>
    intro s d X x2 x3 x4 hd hI h4 hm
    intro post xp hP hX
    have ct34 : ∀ (k34 : Nat) (s : GS) (y34_5 : Int32) (y34_6 : Int32), Inv s → In x4 0 31 → In y34_5 0 63 → ((y34_6.toBitVec.toNat : Nat) : Int) < (k34 : Int) → GG Z (d - 1) 42 post (gx xp) (1 + k34 * 900) 34 (fun j => xlook j [(0, .ref (A 60)), (1, .ref (A 9)), (2, .int x2), (3, .int x3), (4, .int x4), (5, .int y34_5), (6, .int y34_6)]) [] (WW Z A s ++ ex) 0 0 := by
      intro k34
      induction k34 with
      | zero => intro s y34_5 y34_6 hI j34_4 j34_5 mm34; exact absurd mm34 (Int.not_lt.mpr (Int.natCast_nonneg _))
      | succ k34 ih34 =>
        intro s y34_5 y34_6 hI j34_4 j34_5 mm34
        refine gg_w (M := 1 + k34 * 900 + 900) (by omega) ?_
        refine g_iload 36 (gd rfl) rfl rfl ?_
        refine g_if_eq 39 99 (gd rfl) rfl rfl (fun c1 => ?_) (fun c1 => ?_)
        · skip
          have i2 := z_eq 0 0 c1 (i_rng y34_6) rfl
          exact g_return (gd rfl) rfl (hP _ _ ⟨s, hI, rfl, rfl⟩)
        · skip
          refine g_iload 41 (gd rfl) rfl rfl ?_
          refine g_iload 43 (gd rfl) rfl rfl ?_
          refine g_calls (As := [.int y34_6]) (r := [.int y34_5]) 46 (gd rfl) rfl rfl rfl rfl rfl (Nat.le_of_ble_eq_true rfl) (Nat.zero_le _) (Nat.zero_le _) (k_414 (by omega) hI ) (fun v u h => ?_)
          obtain ⟨z3, rfl, rfl, i4⟩ := h
          show GG _ _ _ _ _ _ _ _ [.int z3, .int y34_5] _ _ _
          refine g_iadd 47 (gd rfl) rfl (fun z5 e6 => ?_)
          have i7 := in_add 0 126 e6 j34_5 i4 rfl rfl
          refine g_aload_n 48 (gd rfl) rfl rfl ?_
          refine g_getI 51 (gd rfl) rfl rfl rfl (fun z8 e9 => ?_)
          refine g_calls (As := [.int z8]) (r := [.int z5]) 54 (gd rfl) rfl rfl rfl rfl rfl (Nat.le_of_ble_eq_true rfl) (Nat.zero_le _) (Nat.zero_le _) (k_414 (by omega) hI ) (fun v u h => ?_)
          obtain ⟨z10, rfl, rfl, i11⟩ := h
          show GG _ _ _ _ _ _ _ _ [.int z10, .int z5] _ _ _
          refine g_cmp_gt 57 58 (gd rfl) rfl rfl (fun c12 => ?_) (fun c12 => ?_)
          · skip
            have i13 := r_lt2 1 126 c12 i11 i7 rfl
            refine g_iload 60 (gd rfl) rfl rfl ?_
            refine g_calls (As := [.int y34_6]) (r := []) 63 (gd rfl) rfl rfl rfl rfl rfl (Nat.le_of_ble_eq_true rfl) (Nat.zero_le _) (Nat.zero_le _) (k_264n (by omega) c1) (fun v u h => ?_)
            obtain ⟨z14, rfl, rfl, i15⟩ := h
            show GG _ _ _ _ _ _ _ _ [.int z14] _ _ _
            refine g_istore 65 (gd rfl) rfl (Nat.le_of_ble_eq_true rfl) ?_
            refine g_aload_n 66 (gd rfl) rfl rfl ?_
            refine g_aload_n 67 (gd rfl) rfl rfl ?_
            refine g_iload_n 68 (gd rfl) rfl rfl ?_
            refine g_iconst 1 69 (gd rfl) rfl rfl ?_
            refine g_iload 71 (gd rfl) rfl rfl ?_
            refine g_ishl 72 (gd rfl) rfl (fun z16 e17 => ?_)
            refine g_ior 73 (gd rfl) rfl (fun z18 e19 => ?_)
            refine g_iload 75 (gd rfl) rfl rfl ?_
            refine g_aload_n 76 (gd rfl) rfl rfl ?_
            refine g_iload 78 (gd rfl) rfl rfl ?_
            refine g_iaload 79 (gd rfl) rfl (n := 32) rfl (in_ix i15 rfl) (fun z20 e21 => ?_)
            refine g_iand 80 (gd rfl) rfl (fun z22 e23 => ?_)
            refine g_iload 82 (gd rfl) rfl rfl ?_
            refine g_iconst 1 83 (gd rfl) rfl rfl ?_
            refine g_iadd 84 (gd rfl) rfl (fun z24 e25 => ?_)
            have i26 := in_add 1 32 e25 j34_4 (in_c 1 rfl) rfl rfl
            have n27 : 32 - (z24).toInt < ((kk : Nat) : Int) := by have a0 := i15; unfold In at a0; have a1 := j34_5; unfold In at a1; have a2 := j34_4; unfold In at a2; have a3 := i26; unfold In at a3; have a4 := t_add e25 j34_4 (in_c 1 rfl) rfl; have a5 := (in_c 1 rfl); unfold In at a5; have a6 := i13; unfold In at a6; have a7 := t_add e6 j34_5 i4 rfl; have a8 := i4; unfold In at a8; omega
            refine g_callv (X := _) (As := [.ref (A 9), .int z18, .int z22, .int z24]) (r := []) (b := A 60) (q := 60) 87 (gd rfl) rfl rfl rfl rfl rfl (ww_o rfl) (Nat.le_of_ble_eq_true rfl) (Nat.zero_le _) (Nat.zero_le _) (ih (by omega) hI (in_w 0 32 i26 rfl) n27) (fun e u h => h) (fun v u h => ?_)
            obtain ⟨s28, hI29, rfl, rfl⟩ := h
            show GG _ _ _ _ _ _ _ _ [] _ _ _
            refine g_iload 89 (gd rfl) rfl rfl ?_
            refine g_iload 91 (gd rfl) rfl rfl ?_
            refine g_iconst 1 92 (gd rfl) rfl rfl ?_
            refine g_isub 93 (gd rfl) rfl (fun z32 e33 => ?_)
            refine g_iand 94 (gd rfl) rfl (fun z34 e35 => ?_)
            refine g_istore 96 (gd rfl) rfl (Nat.le_of_ble_eq_true rfl) ?_
            refine g_goto 34 (gd rfl) rfl ?_
            exact gg_w (by omega) (gg_f (gf_cons rfl (gf_cons rfl (gf_cons rfl (gf_cons rfl (gf_cons rfl (gf_cons rfl (gf_cons rfl gf_nil))))))) (ih34 s28 y34_5 z34 hI29 (in_w 0 31 j34_4 rfl) (in_w 0 63 j34_5 rfl) (mb e35 e33 c1 mm34)))
          · skip
            have i36 := r_le1 0 63 c12 i7 i11 rfl
            exact g_return (gd rfl) rfl (hP _ _ ⟨s, hI, rfl, rfl⟩)
    refine g_enter2 (k := 42) (N := 3865470567301) (by omega) rfl (Nat.le_of_ble_eq_true rfl) ?_
    refine g_iload_n 1 (gd rfl) rfl rfl ?_
    refine g_calls (As := [.int x2]) (r := []) 4 (gd rfl) rfl rfl rfl rfl rfl (Nat.le_of_ble_eq_true rfl) (Nat.zero_le _) (Nat.zero_le _) (k_414 (by omega) hI ) (fun v u h => ?_)
    obtain ⟨z37, rfl, rfl, i38⟩ := h
    show GG _ _ _ _ _ _ _ _ [.int z37] _ _ _
    refine g_istore 6 (gd rfl) rfl (Nat.le_of_ble_eq_true rfl) ?_
    refine g_iload 8 (gd rfl) rfl rfl ?_
    refine g_aload_n 9 (gd rfl) rfl rfl ?_
    refine g_getI 12 (gd rfl) rfl rfl rfl (fun z39 e40 => ?_)
    refine g_calls (As := [.int z39]) (r := [.int z37]) 15 (gd rfl) rfl rfl rfl rfl rfl (Nat.le_of_ble_eq_true rfl) (Nat.zero_le _) (Nat.zero_le _) (k_414 (by omega) hI ) (fun v u h => ?_)
    obtain ⟨z41, rfl, rfl, i42⟩ := h
    show GG _ _ _ _ _ _ _ _ [.int z41, .int z37] _ _ _
    refine g_cmp_le 18 23 (gd rfl) rfl rfl (fun c43 => ?_) (fun c43 => ?_)
    · skip
      refine g_iload 25 (gd rfl) rfl rfl ?_
      refine g_bipush 32 27 (gd rfl) rfl rfl ?_
      refine g_cmp_lt 30 31 (gd rfl) rfl rfl (fun c44 => ?_) (fun c44 => ?_)
      · skip
        have i45 := r_lt1 0 31 c44 h4 (in_c 32 rfl) rfl
        refine g_iload_n 32 (gd rfl) rfl rfl ?_
        refine g_istore 34 (gd rfl) rfl (Nat.le_of_ble_eq_true rfl) ?_
        exact gg_w (by omega) (gg_f (gf_cons rfl (gf_cons rfl (gf_cons rfl (gf_cons rfl (gf_cons rfl (gf_cons rfl (gf_cons rfl gf_nil))))))) (ct34 4294967296 s z37 x3 hI (in_w 0 31 i45 rfl) (in_w 0 63 i38 rfl) (mb_in _)))
      · skip
        have i46 := r_le2 32 32 c44 (in_c 32 rfl) h4 rfl
        exact g_return (gd rfl) rfl (hP _ _ ⟨s, hI, rfl, rfl⟩)
    · skip
      have i47 := r_lt1 0 62 c43 i42 i38 rfl
      have i48 := r_lt2 1 63 c43 i42 i38 rfl
      refine g_aload_n 19 (gd rfl) rfl rfl ?_
      refine g_iload_n 20 (gd rfl) rfl rfl ?_
      refine g_putI 23 (gd rfl) rfl rfl rfl rfl ?_
      have hI49 := inv_sF (q := 60) (j := 1) hI rfl (in_w (-2147483648) 2147483647 (i_rng x2) rfl)
      refine g_iload 25 (gd rfl) rfl rfl ?_
      refine g_bipush 32 27 (gd rfl) rfl rfl ?_
      refine g_cmp_lt 30 31 (gd rfl) rfl rfl (fun c50 => ?_) (fun c50 => ?_)
      · skip
        have i51 := r_lt1 0 31 c50 h4 (in_c 32 rfl) rfl
        refine g_iload_n 32 (gd rfl) rfl rfl ?_
        refine g_istore 34 (gd rfl) rfl (Nat.le_of_ble_eq_true rfl) ?_
        exact gg_w (by omega) (gg_f (gf_cons rfl (gf_cons rfl (gf_cons rfl (gf_cons rfl (gf_cons rfl (gf_cons rfl (gf_cons rfl gf_nil))))))) (ct34 4294967296 (sF s 60 1 x2) z37 x3 hI49 (in_w 0 31 i51 rfl) (in_w 0 63 i48 rfl) (mb_in _)))
      · skip
        have i52 := r_le2 32 32 c50 (in_c 32 rfl) h4 rfl
        exact g_return (gd rfl) rfl (hP _ _ ⟨(sF s 60 1 x2), hI49, rfl, rfl⟩)
theorem k_42_60_9 {Z : AmZ} {A : Nat → Nat} {s : GS} {ex : va_W} {d : Nat} {X : AmX} {x2 : Int32} {x3 : Int32} {x4 : Int32} (hd : 104 ≤ d) (hI : Inv s) (h4 : In x4 0 32) : GC Z d 42 [.ref (A 60), .ref (A 9), .int x2, .int x3, .int x4] (WW Z A s ++ ex) 0 0 (fun v u => ∃ t : GS, Inv t ∧ v = none ∧ u = WW Z A t ++ ex) X := k_42_60_9_r 33 (by omega) hI h4 (m_in 33 h4 rfl)

/-- GraphHouse$Colours.growClique -/
theorem k_42_60_39_r {Z : AmZ} {A : Nat → Nat} {ex : va_W} (kk : Nat) : ∀ {s : GS} {d : Nat} {X : AmX} {x2 : Int32} {x3 : Int32} {x4 : Int32}, 5 + kk * 3 ≤ d → Inv s → In x4 0 32 → 32 - (x4).toInt < (kk : Int) → GC Z d 42 [.ref (A 60), .ref (A 39), .int x2, .int x3, .int x4] (WW Z A s ++ ex) 0 0 (fun v u => ∃ t : GS, Inv t ∧ v = none ∧ u = WW Z A t ++ ex) X := by
  induction kk with
  | zero => intro s d X x2 x3 x4 hd hI h4 hm; exact m_no hm h4 rfl
  | succ kk ih =>
    intro s d X x2 x3 x4 hd hI h4 hm
    intro post xp hP hX
    have ct34 : ∀ (k34 : Nat) (s : GS) (y34_5 : Int32) (y34_6 : Int32), Inv s → In x4 0 31 → In y34_5 0 63 → ((y34_6.toBitVec.toNat : Nat) : Int) < (k34 : Int) → GG Z (d - 1) 42 post (gx xp) (1 + k34 * 900) 34 (fun j => xlook j [(0, .ref (A 60)), (1, .ref (A 39)), (2, .int x2), (3, .int x3), (4, .int x4), (5, .int y34_5), (6, .int y34_6)]) [] (WW Z A s ++ ex) 0 0 := by
      intro k34
      induction k34 with
      | zero => intro s y34_5 y34_6 hI j34_4 j34_5 mm34; exact absurd mm34 (Int.not_lt.mpr (Int.natCast_nonneg _))
      | succ k34 ih34 =>
        intro s y34_5 y34_6 hI j34_4 j34_5 mm34
        refine gg_w (M := 1 + k34 * 900 + 900) (by omega) ?_
        refine g_iload 36 (gd rfl) rfl rfl ?_
        refine g_if_eq 39 99 (gd rfl) rfl rfl (fun c1 => ?_) (fun c1 => ?_)
        · skip
          have i2 := z_eq 0 0 c1 (i_rng y34_6) rfl
          exact g_return (gd rfl) rfl (hP _ _ ⟨s, hI, rfl, rfl⟩)
        · skip
          refine g_iload 41 (gd rfl) rfl rfl ?_
          refine g_iload 43 (gd rfl) rfl rfl ?_
          refine g_calls (As := [.int y34_6]) (r := [.int y34_5]) 46 (gd rfl) rfl rfl rfl rfl rfl (Nat.le_of_ble_eq_true rfl) (Nat.zero_le _) (Nat.zero_le _) (k_414 (by omega) hI ) (fun v u h => ?_)
          obtain ⟨z3, rfl, rfl, i4⟩ := h
          show GG _ _ _ _ _ _ _ _ [.int z3, .int y34_5] _ _ _
          refine g_iadd 47 (gd rfl) rfl (fun z5 e6 => ?_)
          have i7 := in_add 0 126 e6 j34_5 i4 rfl rfl
          refine g_aload_n 48 (gd rfl) rfl rfl ?_
          refine g_getI 51 (gd rfl) rfl rfl rfl (fun z8 e9 => ?_)
          refine g_calls (As := [.int z8]) (r := [.int z5]) 54 (gd rfl) rfl rfl rfl rfl rfl (Nat.le_of_ble_eq_true rfl) (Nat.zero_le _) (Nat.zero_le _) (k_414 (by omega) hI ) (fun v u h => ?_)
          obtain ⟨z10, rfl, rfl, i11⟩ := h
          show GG _ _ _ _ _ _ _ _ [.int z10, .int z5] _ _ _
          refine g_cmp_gt 57 58 (gd rfl) rfl rfl (fun c12 => ?_) (fun c12 => ?_)
          · skip
            have i13 := r_lt2 1 126 c12 i11 i7 rfl
            refine g_iload 60 (gd rfl) rfl rfl ?_
            refine g_calls (As := [.int y34_6]) (r := []) 63 (gd rfl) rfl rfl rfl rfl rfl (Nat.le_of_ble_eq_true rfl) (Nat.zero_le _) (Nat.zero_le _) (k_264n (by omega) c1) (fun v u h => ?_)
            obtain ⟨z14, rfl, rfl, i15⟩ := h
            show GG _ _ _ _ _ _ _ _ [.int z14] _ _ _
            refine g_istore 65 (gd rfl) rfl (Nat.le_of_ble_eq_true rfl) ?_
            refine g_aload_n 66 (gd rfl) rfl rfl ?_
            refine g_aload_n 67 (gd rfl) rfl rfl ?_
            refine g_iload_n 68 (gd rfl) rfl rfl ?_
            refine g_iconst 1 69 (gd rfl) rfl rfl ?_
            refine g_iload 71 (gd rfl) rfl rfl ?_
            refine g_ishl 72 (gd rfl) rfl (fun z16 e17 => ?_)
            refine g_ior 73 (gd rfl) rfl (fun z18 e19 => ?_)
            refine g_iload 75 (gd rfl) rfl rfl ?_
            refine g_aload_n 76 (gd rfl) rfl rfl ?_
            refine g_iload 78 (gd rfl) rfl rfl ?_
            refine g_iaload 79 (gd rfl) rfl (n := 32) rfl (in_ix i15 rfl) (fun z20 e21 => ?_)
            refine g_iand 80 (gd rfl) rfl (fun z22 e23 => ?_)
            refine g_iload 82 (gd rfl) rfl rfl ?_
            refine g_iconst 1 83 (gd rfl) rfl rfl ?_
            refine g_iadd 84 (gd rfl) rfl (fun z24 e25 => ?_)
            have i26 := in_add 1 32 e25 j34_4 (in_c 1 rfl) rfl rfl
            have n27 : 32 - (z24).toInt < ((kk : Nat) : Int) := by have a0 := i15; unfold In at a0; have a1 := j34_5; unfold In at a1; have a2 := j34_4; unfold In at a2; have a3 := i26; unfold In at a3; have a4 := t_add e25 j34_4 (in_c 1 rfl) rfl; have a5 := (in_c 1 rfl); unfold In at a5; have a6 := i13; unfold In at a6; have a7 := t_add e6 j34_5 i4 rfl; have a8 := i4; unfold In at a8; omega
            refine g_callv (X := _) (As := [.ref (A 39), .int z18, .int z22, .int z24]) (r := []) (b := A 60) (q := 60) 87 (gd rfl) rfl rfl rfl rfl rfl (ww_o rfl) (Nat.le_of_ble_eq_true rfl) (Nat.zero_le _) (Nat.zero_le _) (ih (by omega) hI (in_w 0 32 i26 rfl) n27) (fun e u h => h) (fun v u h => ?_)
            obtain ⟨s28, hI29, rfl, rfl⟩ := h
            show GG _ _ _ _ _ _ _ _ [] _ _ _
            refine g_iload 89 (gd rfl) rfl rfl ?_
            refine g_iload 91 (gd rfl) rfl rfl ?_
            refine g_iconst 1 92 (gd rfl) rfl rfl ?_
            refine g_isub 93 (gd rfl) rfl (fun z32 e33 => ?_)
            refine g_iand 94 (gd rfl) rfl (fun z34 e35 => ?_)
            refine g_istore 96 (gd rfl) rfl (Nat.le_of_ble_eq_true rfl) ?_
            refine g_goto 34 (gd rfl) rfl ?_
            exact gg_w (by omega) (gg_f (gf_cons rfl (gf_cons rfl (gf_cons rfl (gf_cons rfl (gf_cons rfl (gf_cons rfl (gf_cons rfl gf_nil))))))) (ih34 s28 y34_5 z34 hI29 (in_w 0 31 j34_4 rfl) (in_w 0 63 j34_5 rfl) (mb e35 e33 c1 mm34)))
          · skip
            have i36 := r_le1 0 63 c12 i7 i11 rfl
            exact g_return (gd rfl) rfl (hP _ _ ⟨s, hI, rfl, rfl⟩)
    refine g_enter2 (k := 42) (N := 3865470567301) (by omega) rfl (Nat.le_of_ble_eq_true rfl) ?_
    refine g_iload_n 1 (gd rfl) rfl rfl ?_
    refine g_calls (As := [.int x2]) (r := []) 4 (gd rfl) rfl rfl rfl rfl rfl (Nat.le_of_ble_eq_true rfl) (Nat.zero_le _) (Nat.zero_le _) (k_414 (by omega) hI ) (fun v u h => ?_)
    obtain ⟨z37, rfl, rfl, i38⟩ := h
    show GG _ _ _ _ _ _ _ _ [.int z37] _ _ _
    refine g_istore 6 (gd rfl) rfl (Nat.le_of_ble_eq_true rfl) ?_
    refine g_iload 8 (gd rfl) rfl rfl ?_
    refine g_aload_n 9 (gd rfl) rfl rfl ?_
    refine g_getI 12 (gd rfl) rfl rfl rfl (fun z39 e40 => ?_)
    refine g_calls (As := [.int z39]) (r := [.int z37]) 15 (gd rfl) rfl rfl rfl rfl rfl (Nat.le_of_ble_eq_true rfl) (Nat.zero_le _) (Nat.zero_le _) (k_414 (by omega) hI ) (fun v u h => ?_)
    obtain ⟨z41, rfl, rfl, i42⟩ := h
    show GG _ _ _ _ _ _ _ _ [.int z41, .int z37] _ _ _
    refine g_cmp_le 18 23 (gd rfl) rfl rfl (fun c43 => ?_) (fun c43 => ?_)
    · skip
      refine g_iload 25 (gd rfl) rfl rfl ?_
      refine g_bipush 32 27 (gd rfl) rfl rfl ?_
      refine g_cmp_lt 30 31 (gd rfl) rfl rfl (fun c44 => ?_) (fun c44 => ?_)
      · skip
        have i45 := r_lt1 0 31 c44 h4 (in_c 32 rfl) rfl
        refine g_iload_n 32 (gd rfl) rfl rfl ?_
        refine g_istore 34 (gd rfl) rfl (Nat.le_of_ble_eq_true rfl) ?_
        exact gg_w (by omega) (gg_f (gf_cons rfl (gf_cons rfl (gf_cons rfl (gf_cons rfl (gf_cons rfl (gf_cons rfl (gf_cons rfl gf_nil))))))) (ct34 4294967296 s z37 x3 hI (in_w 0 31 i45 rfl) (in_w 0 63 i38 rfl) (mb_in _)))
      · skip
        have i46 := r_le2 32 32 c44 (in_c 32 rfl) h4 rfl
        exact g_return (gd rfl) rfl (hP _ _ ⟨s, hI, rfl, rfl⟩)
    · skip
      have i47 := r_lt1 0 62 c43 i42 i38 rfl
      have i48 := r_lt2 1 63 c43 i42 i38 rfl
      refine g_aload_n 19 (gd rfl) rfl rfl ?_
      refine g_iload_n 20 (gd rfl) rfl rfl ?_
      refine g_putI 23 (gd rfl) rfl rfl rfl rfl ?_
      have hI49 := inv_sF (q := 60) (j := 1) hI rfl (in_w (-2147483648) 2147483647 (i_rng x2) rfl)
      refine g_iload 25 (gd rfl) rfl rfl ?_
      refine g_bipush 32 27 (gd rfl) rfl rfl ?_
      refine g_cmp_lt 30 31 (gd rfl) rfl rfl (fun c50 => ?_) (fun c50 => ?_)
      · skip
        have i51 := r_lt1 0 31 c50 h4 (in_c 32 rfl) rfl
        refine g_iload_n 32 (gd rfl) rfl rfl ?_
        refine g_istore 34 (gd rfl) rfl (Nat.le_of_ble_eq_true rfl) ?_
        exact gg_w (by omega) (gg_f (gf_cons rfl (gf_cons rfl (gf_cons rfl (gf_cons rfl (gf_cons rfl (gf_cons rfl (gf_cons rfl gf_nil))))))) (ct34 4294967296 (sF s 60 1 x2) z37 x3 hI49 (in_w 0 31 i51 rfl) (in_w 0 63 i48 rfl) (mb_in _)))
      · skip
        have i52 := r_le2 32 32 c50 (in_c 32 rfl) h4 rfl
        exact g_return (gd rfl) rfl (hP _ _ ⟨(sF s 60 1 x2), hI49, rfl, rfl⟩)
theorem k_42_60_39 {Z : AmZ} {A : Nat → Nat} {s : GS} {ex : va_W} {d : Nat} {X : AmX} {x2 : Int32} {x3 : Int32} {x4 : Int32} (hd : 104 ≤ d) (hI : Inv s) (h4 : In x4 0 32) : GC Z d 42 [.ref (A 60), .ref (A 39), .int x2, .int x3, .int x4] (WW Z A s ++ ex) 0 0 (fun v u => ∃ t : GS, Inv t ∧ v = none ∧ u = WW Z A t ++ ex) X := k_42_60_39_r 33 (by omega) hI h4 (m_in 33 h4 rfl)

/-- GraphHouse$Engine.lettersOf -/
theorem k_71_2 {Z : AmZ} {A : Nat → Nat} {s : GS} {ex : va_W} {d : Nat} {X : AmX} {x1 : Int32} (hd : 4 ≤ d) (hI : Inv s) (h1 : In x1 1 4) : GC Z d 71 [.ref (A 2), .int x1] (WW Z A s ++ ex) 0 0 (fun v u => ∃ z : Int32, v = some (.int z) ∧ u = WW Z A s ++ ex ∧ In z (-2147483648) 2147483647) X := by
  intro post xp hP hX
  have ct11 : ∀ (k11 : Nat) (y11_2 : Int32) (y11_3 : Int32), In y11_3 0 32 → 32 - (y11_3).toInt < (k11 : Int) → GG Z (d - 1) 71 post (gx xp) (1 + k11 * 3865470569101) 11 (fun j => xlook j [(0, .ref (A 2)), (1, .int x1), (2, .int y11_2), (3, .int y11_3)]) [] (WW Z A s ++ ex) 0 0 := by
    intro k11
    induction k11 with
    | zero => intro y11_2 y11_3 j11_3 mm11; exact m_no mm11 j11_3 rfl
    | succ k11 ih11 =>
      intro y11_2 y11_3 j11_3 mm11
      refine gg_w (M := 1 + k11 * 3865470569101 + 3865470569101) (by omega) ?_
      have ct30 : ∀ (k30 : Nat) (y30_4 : Int32) (y30_5 : Int32), In y11_3 0 31 → ((y30_5.toBitVec.toNat : Nat) : Int) < (k30 : Int) → GG Z (d - 1) 71 post (gx xp) (1 + k11 * 3865470569101 + 1 + k30 * 900) 30 (fun j => xlook j [(0, .ref (A 2)), (1, .int x1), (2, .int y11_2), (3, .int y11_3), (4, .int y30_4), (5, .int y30_5)]) [] (WW Z A s ++ ex) 0 0 := by
        intro k30
        induction k30 with
        | zero => intro y30_4 y30_5 j30_3 mm30; exact absurd mm30 (Int.not_lt.mpr (Int.natCast_nonneg _))
        | succ k30 ih30 =>
          intro y30_4 y30_5 j30_3 mm30
          refine gg_w (M := 1 + k11 * 3865470569101 + 1 + k30 * 900 + 900) (by omega) ?_
          refine g_iload 32 (gd rfl) rfl rfl ?_
          refine g_if_eq 35 61 (gd rfl) rfl rfl (fun c1 => ?_) (fun c1 => ?_)
          · skip
            have i2 := z_eq 0 0 c1 (i_rng y30_5) rfl
            refine g_iload_n 62 (gd rfl) rfl rfl ?_
            refine g_iload 64 (gd rfl) rfl rfl ?_
            refine g_iconst 1 65 (gd rfl) rfl rfl ?_
            refine g_iload_n 66 (gd rfl) rfl rfl ?_
            refine g_iload_n 67 (gd rfl) rfl rfl ?_
            refine g_irem 68 (gd rfl) rfl (dv_nz h1 rfl) (fun z3 e4 => ?_)
            have i5 := in_remv 3 e4 j30_3 h1 rfl
            refine g_ishl 69 (gd rfl) rfl (fun z6 e7 => ?_)
            refine g_iconst (-1) 70 (gd rfl) rfl rfl ?_
            refine g_ixor 71 (gd rfl) rfl (fun z8 e9 => ?_)
            refine g_iand 72 (gd rfl) rfl (fun z10 e11 => ?_)
            refine g_calls (As := [.int z10]) (r := [.int y11_2]) 75 (gd rfl) rfl rfl rfl rfl rfl (Nat.le_of_ble_eq_true rfl) (Nat.zero_le _) (Nat.zero_le _) (k_414 (by omega) hI ) (fun v u h => ?_)
            obtain ⟨z12, rfl, rfl, i13⟩ := h
            show GG _ _ _ _ _ _ _ _ [.int z12, .int y11_2] _ _ _
            refine g_iadd 76 (gd rfl) rfl (fun z14 e15 => ?_)
            refine g_istore_n 77 (gd rfl) rfl (Nat.le_of_ble_eq_true rfl) ?_
            refine g_iinc 80 (gd rfl) rfl rfl (Nat.le_of_ble_eq_true rfl) (fun z16 e17 => ?_)
            have i18 := in_add 1 32 e17 j30_3 (in_c 1 rfl) rfl rfl
            refine g_goto 11 (gd rfl) rfl ?_
            exact gg_w (by omega) (gg_f (gf_cons rfl (gf_cons rfl (gf_cons rfl (gf_cons rfl gf_nil)))) (ih11  z14 z16  (in_w 0 32 i18 rfl) (m_up mm11 (t_add e17 j30_3 (in_c 1 rfl) rfl) (in_w 1 1 (in_c 1 rfl) rfl))))
          · skip
            refine g_iload 37 (gd rfl) rfl rfl ?_
            refine g_iconst 1 38 (gd rfl) rfl rfl ?_
            refine g_iload 40 (gd rfl) rfl rfl ?_
            refine g_calls (As := [.int y30_5]) (r := [.int (Int32.ofInt 1), .int y30_4]) 43 (gd rfl) rfl rfl rfl rfl rfl (Nat.le_of_ble_eq_true rfl) (Nat.zero_le _) (Nat.zero_le _) (k_264n (by omega) c1) (fun v u h => ?_)
            obtain ⟨z19, rfl, rfl, i20⟩ := h
            show GG _ _ _ _ _ _ _ _ [.int z19, .int (Int32.ofInt 1), .int y30_4] _ _ _
            refine g_iload_n 44 (gd rfl) rfl rfl ?_
            refine g_irem 45 (gd rfl) rfl (dv_nz h1 rfl) (fun z21 e22 => ?_)
            have i23 := in_remv 3 e22 i20 h1 rfl
            refine g_ishl 46 (gd rfl) rfl (fun z24 e25 => ?_)
            refine g_ior 47 (gd rfl) rfl (fun z26 e27 => ?_)
            refine g_istore 49 (gd rfl) rfl (Nat.le_of_ble_eq_true rfl) ?_
            refine g_iload 51 (gd rfl) rfl rfl ?_
            refine g_iload 53 (gd rfl) rfl rfl ?_
            refine g_iconst 1 54 (gd rfl) rfl rfl ?_
            refine g_isub 55 (gd rfl) rfl (fun z28 e29 => ?_)
            refine g_iand 56 (gd rfl) rfl (fun z30 e31 => ?_)
            refine g_istore 58 (gd rfl) rfl (Nat.le_of_ble_eq_true rfl) ?_
            refine g_goto 30 (gd rfl) rfl ?_
            exact gg_w (by omega) (gg_f (gf_cons rfl (gf_cons rfl (gf_cons rfl (gf_cons rfl (gf_cons rfl (gf_cons rfl gf_nil)))))) (ih30  z26 z30  (in_w 0 31 j30_3 rfl) (mb e31 e29 c1 mm30)))
      refine g_iload_n 12 (gd rfl) rfl rfl ?_
      refine g_aload_n 13 (gd rfl) rfl rfl ?_
      refine g_getI 16 (gd rfl) rfl rfl rfl (fun z32 e33 => ?_)
      have i34 := inv_F hI 0 32 rfl e33
      refine g_cmp_ge 19 83 (gd rfl) rfl rfl (fun c35 => ?_) (fun c35 => ?_)
      · skip
        refine g_iload_n 84 (gd rfl) rfl rfl ?_
        exact g_ireturn (gd rfl) rfl rfl (hP _ _ ⟨y11_2, rfl, rfl, in_w (-2147483648) 2147483647 (i_rng y11_2) rfl⟩)
      · skip
        have i36 := r_lt1 0 31 c35 j11_3 i34 rfl
        have i37 := r_lt2 1 32 c35 j11_3 i34 rfl
        refine g_iconst 0 20 (gd rfl) rfl rfl ?_
        refine g_istore 22 (gd rfl) rfl (Nat.le_of_ble_eq_true rfl) ?_
        refine g_aload_n 23 (gd rfl) rfl rfl ?_
        refine g_getA (q2 := 10) 26 (gd rfl) rfl rfl rfl rfl rfl ?_
        refine g_iload_n 27 (gd rfl) rfl rfl ?_
        refine g_iaload 28 (gd rfl) rfl (n := 32) rfl (in_ix i36 rfl) (fun z38 e39 => ?_)
        refine g_istore 30 (gd rfl) rfl (Nat.le_of_ble_eq_true rfl) ?_
        exact gg_w (by omega) (gg_f (gf_cons rfl (gf_cons rfl (gf_cons rfl (gf_cons rfl (gf_cons rfl (gf_cons rfl gf_nil)))))) (ct30 4294967296  (Int32.ofInt 0) z38  (in_w 0 31 i36 rfl) (mb_in _)))
  refine g_enter2 (k := 71) (N := 127560528781234) (by omega) rfl (Nat.le_of_ble_eq_true rfl) ?_
  refine g_iload_n 1 (gd rfl) rfl rfl ?_
  refine g_iconst 1 2 (gd rfl) rfl rfl ?_
  refine g_cmp_ge 5 7 (gd rfl) rfl rfl (fun c40 => ?_) (fun c40 => ?_)
  · skip
    refine g_iconst 0 8 (gd rfl) rfl rfl ?_
    refine g_istore_n 9 (gd rfl) rfl (Nat.le_of_ble_eq_true rfl) ?_
    refine g_iconst 0 10 (gd rfl) rfl rfl ?_
    refine g_istore_n 11 (gd rfl) rfl (Nat.le_of_ble_eq_true rfl) ?_
    exact gg_w (by omega) (gg_f (gf_cons rfl (gf_cons rfl (gf_cons rfl (gf_cons rfl gf_nil)))) (ct11 33  (Int32.ofInt 0) (Int32.ofInt 0)  (in_w 0 32 (in_c 0 rfl) rfl) (m_in 33 (in_w 0 32 (in_c 0 rfl) rfl) rfl)))
  · skip
    exact n_lt c40 h1 (in_c 1 rfl) rfl

/-- GraphHouse$Engine.lettersOf -/
theorem k_71_32 {Z : AmZ} {A : Nat → Nat} {s : GS} {ex : va_W} {d : Nat} {X : AmX} {x1 : Int32} (hd : 4 ≤ d) (hI : Inv s) (h1 : In x1 1 4) : GC Z d 71 [.ref (A 32), .int x1] (WW Z A s ++ ex) 0 0 (fun v u => ∃ z : Int32, v = some (.int z) ∧ u = WW Z A s ++ ex ∧ In z (-2147483648) 2147483647) X := by
  intro post xp hP hX
  have ct11 : ∀ (k11 : Nat) (y11_2 : Int32) (y11_3 : Int32), In y11_3 0 32 → 32 - (y11_3).toInt < (k11 : Int) → GG Z (d - 1) 71 post (gx xp) (1 + k11 * 3865470569101) 11 (fun j => xlook j [(0, .ref (A 32)), (1, .int x1), (2, .int y11_2), (3, .int y11_3)]) [] (WW Z A s ++ ex) 0 0 := by
    intro k11
    induction k11 with
    | zero => intro y11_2 y11_3 j11_3 mm11; exact m_no mm11 j11_3 rfl
    | succ k11 ih11 =>
      intro y11_2 y11_3 j11_3 mm11
      refine gg_w (M := 1 + k11 * 3865470569101 + 3865470569101) (by omega) ?_
      have ct30 : ∀ (k30 : Nat) (y30_4 : Int32) (y30_5 : Int32), In y11_3 0 31 → ((y30_5.toBitVec.toNat : Nat) : Int) < (k30 : Int) → GG Z (d - 1) 71 post (gx xp) (1 + k11 * 3865470569101 + 1 + k30 * 900) 30 (fun j => xlook j [(0, .ref (A 32)), (1, .int x1), (2, .int y11_2), (3, .int y11_3), (4, .int y30_4), (5, .int y30_5)]) [] (WW Z A s ++ ex) 0 0 := by
        intro k30
        induction k30 with
        | zero => intro y30_4 y30_5 j30_3 mm30; exact absurd mm30 (Int.not_lt.mpr (Int.natCast_nonneg _))
        | succ k30 ih30 =>
          intro y30_4 y30_5 j30_3 mm30
          refine gg_w (M := 1 + k11 * 3865470569101 + 1 + k30 * 900 + 900) (by omega) ?_
          refine g_iload 32 (gd rfl) rfl rfl ?_
          refine g_if_eq 35 61 (gd rfl) rfl rfl (fun c1 => ?_) (fun c1 => ?_)
          · skip
            have i2 := z_eq 0 0 c1 (i_rng y30_5) rfl
            refine g_iload_n 62 (gd rfl) rfl rfl ?_
            refine g_iload 64 (gd rfl) rfl rfl ?_
            refine g_iconst 1 65 (gd rfl) rfl rfl ?_
            refine g_iload_n 66 (gd rfl) rfl rfl ?_
            refine g_iload_n 67 (gd rfl) rfl rfl ?_
            refine g_irem 68 (gd rfl) rfl (dv_nz h1 rfl) (fun z3 e4 => ?_)
            have i5 := in_remv 3 e4 j30_3 h1 rfl
            refine g_ishl 69 (gd rfl) rfl (fun z6 e7 => ?_)
            refine g_iconst (-1) 70 (gd rfl) rfl rfl ?_
            refine g_ixor 71 (gd rfl) rfl (fun z8 e9 => ?_)
            refine g_iand 72 (gd rfl) rfl (fun z10 e11 => ?_)
            refine g_calls (As := [.int z10]) (r := [.int y11_2]) 75 (gd rfl) rfl rfl rfl rfl rfl (Nat.le_of_ble_eq_true rfl) (Nat.zero_le _) (Nat.zero_le _) (k_414 (by omega) hI ) (fun v u h => ?_)
            obtain ⟨z12, rfl, rfl, i13⟩ := h
            show GG _ _ _ _ _ _ _ _ [.int z12, .int y11_2] _ _ _
            refine g_iadd 76 (gd rfl) rfl (fun z14 e15 => ?_)
            refine g_istore_n 77 (gd rfl) rfl (Nat.le_of_ble_eq_true rfl) ?_
            refine g_iinc 80 (gd rfl) rfl rfl (Nat.le_of_ble_eq_true rfl) (fun z16 e17 => ?_)
            have i18 := in_add 1 32 e17 j30_3 (in_c 1 rfl) rfl rfl
            refine g_goto 11 (gd rfl) rfl ?_
            exact gg_w (by omega) (gg_f (gf_cons rfl (gf_cons rfl (gf_cons rfl (gf_cons rfl gf_nil)))) (ih11  z14 z16  (in_w 0 32 i18 rfl) (m_up mm11 (t_add e17 j30_3 (in_c 1 rfl) rfl) (in_w 1 1 (in_c 1 rfl) rfl))))
          · skip
            refine g_iload 37 (gd rfl) rfl rfl ?_
            refine g_iconst 1 38 (gd rfl) rfl rfl ?_
            refine g_iload 40 (gd rfl) rfl rfl ?_
            refine g_calls (As := [.int y30_5]) (r := [.int (Int32.ofInt 1), .int y30_4]) 43 (gd rfl) rfl rfl rfl rfl rfl (Nat.le_of_ble_eq_true rfl) (Nat.zero_le _) (Nat.zero_le _) (k_264n (by omega) c1) (fun v u h => ?_)
            obtain ⟨z19, rfl, rfl, i20⟩ := h
            show GG _ _ _ _ _ _ _ _ [.int z19, .int (Int32.ofInt 1), .int y30_4] _ _ _
            refine g_iload_n 44 (gd rfl) rfl rfl ?_
            refine g_irem 45 (gd rfl) rfl (dv_nz h1 rfl) (fun z21 e22 => ?_)
            have i23 := in_remv 3 e22 i20 h1 rfl
            refine g_ishl 46 (gd rfl) rfl (fun z24 e25 => ?_)
            refine g_ior 47 (gd rfl) rfl (fun z26 e27 => ?_)
            refine g_istore 49 (gd rfl) rfl (Nat.le_of_ble_eq_true rfl) ?_
            refine g_iload 51 (gd rfl) rfl rfl ?_
            refine g_iload 53 (gd rfl) rfl rfl ?_
            refine g_iconst 1 54 (gd rfl) rfl rfl ?_
            refine g_isub 55 (gd rfl) rfl (fun z28 e29 => ?_)
            refine g_iand 56 (gd rfl) rfl (fun z30 e31 => ?_)
            refine g_istore 58 (gd rfl) rfl (Nat.le_of_ble_eq_true rfl) ?_
            refine g_goto 30 (gd rfl) rfl ?_
            exact gg_w (by omega) (gg_f (gf_cons rfl (gf_cons rfl (gf_cons rfl (gf_cons rfl (gf_cons rfl (gf_cons rfl gf_nil)))))) (ih30  z26 z30  (in_w 0 31 j30_3 rfl) (mb e31 e29 c1 mm30)))
      refine g_iload_n 12 (gd rfl) rfl rfl ?_
      refine g_aload_n 13 (gd rfl) rfl rfl ?_
      refine g_getI 16 (gd rfl) rfl rfl rfl (fun z32 e33 => ?_)
      have i34 := inv_F hI 0 32 rfl e33
      refine g_cmp_ge 19 83 (gd rfl) rfl rfl (fun c35 => ?_) (fun c35 => ?_)
      · skip
        refine g_iload_n 84 (gd rfl) rfl rfl ?_
        exact g_ireturn (gd rfl) rfl rfl (hP _ _ ⟨y11_2, rfl, rfl, in_w (-2147483648) 2147483647 (i_rng y11_2) rfl⟩)
      · skip
        have i36 := r_lt1 0 31 c35 j11_3 i34 rfl
        have i37 := r_lt2 1 32 c35 j11_3 i34 rfl
        refine g_iconst 0 20 (gd rfl) rfl rfl ?_
        refine g_istore 22 (gd rfl) rfl (Nat.le_of_ble_eq_true rfl) ?_
        refine g_aload_n 23 (gd rfl) rfl rfl ?_
        refine g_getA (q2 := 40) 26 (gd rfl) rfl rfl rfl rfl rfl ?_
        refine g_iload_n 27 (gd rfl) rfl rfl ?_
        refine g_iaload 28 (gd rfl) rfl (n := 32) rfl (in_ix i36 rfl) (fun z38 e39 => ?_)
        refine g_istore 30 (gd rfl) rfl (Nat.le_of_ble_eq_true rfl) ?_
        exact gg_w (by omega) (gg_f (gf_cons rfl (gf_cons rfl (gf_cons rfl (gf_cons rfl (gf_cons rfl (gf_cons rfl gf_nil)))))) (ct30 4294967296  (Int32.ofInt 0) z38  (in_w 0 31 i36 rfl) (mb_in _)))
  refine g_enter2 (k := 71) (N := 127560528781234) (by omega) rfl (Nat.le_of_ble_eq_true rfl) ?_
  refine g_iload_n 1 (gd rfl) rfl rfl ?_
  refine g_iconst 1 2 (gd rfl) rfl rfl ?_
  refine g_cmp_ge 5 7 (gd rfl) rfl rfl (fun c40 => ?_) (fun c40 => ?_)
  · skip
    refine g_iconst 0 8 (gd rfl) rfl rfl ?_
    refine g_istore_n 9 (gd rfl) rfl (Nat.le_of_ble_eq_true rfl) ?_
    refine g_iconst 0 10 (gd rfl) rfl rfl ?_
    refine g_istore_n 11 (gd rfl) rfl (Nat.le_of_ble_eq_true rfl) ?_
    exact gg_w (by omega) (gg_f (gf_cons rfl (gf_cons rfl (gf_cons rfl (gf_cons rfl gf_nil)))) (ct11 33  (Int32.ofInt 0) (Int32.ofInt 0)  (in_w 0 32 (in_c 0 rfl) rfl) (m_in 33 (in_w 0 32 (in_c 0 rfl) rfl) rfl)))
  · skip
    exact n_lt c40 h1 (in_c 1 rfl) rfl

/-- GraphHouse$Flows.openAll -/
theorem k_76_65_2 {Z : AmZ} {A : Nat → Nat} {s : GS} {ex : va_W} {d : Nat} {X : AmX}  (hd : 3 ≤ d) (hI : Inv s)  : GC Z d 76 [.ref (A 65), .ref (A 2)] (WW Z A s ++ ex) 0 0 (fun v u => ∃ t : GS, Inv t ∧ v = none ∧ u = WW Z A t ++ ex) X := by
  intro post xp hP hX
  have ct18 : ∀ (k18 : Nat) (s : GS) (y18_2 : Int32), Inv s → In y18_2 0 160 → 160 - (y18_2).toInt < (k18 : Int) → GG Z (d - 1) 76 post (gx xp) (1 + k18 * 900) 18 (fun j => xlook j [(0, .ref (A 65)), (1, .ref (A 2)), (2, .int y18_2)]) [] (WW Z A s ++ ex) 0 0 := by
    intro k18
    induction k18 with
    | zero => intro s y18_2 hI j18_2 mm18; exact m_no mm18 j18_2 rfl
    | succ k18 ih18 =>
      intro s y18_2 hI j18_2 mm18
      refine gg_w (M := 1 + k18 * 900 + 900) (by omega) ?_
      refine g_iload_n 19 (gd rfl) rfl rfl ?_
      refine g_aload_n 20 (gd rfl) rfl rfl ?_
      refine g_getI 23 (gd rfl) rfl rfl rfl (fun z1 e2 => ?_)
      have i3 := inv_F hI 0 160 rfl e2
      refine g_cmp_ge 26 101 (gd rfl) rfl rfl (fun c4 => ?_) (fun c4 => ?_)
      · skip
        exact g_return (gd rfl) rfl (hP _ _ ⟨s, hI, rfl, rfl⟩)
      · skip
        have i5 := r_lt1 0 159 c4 j18_2 i3 rfl
        have i6 := r_lt2 1 160 c4 j18_2 i3 rfl
        refine g_aload_n 27 (gd rfl) rfl rfl ?_
        refine g_iload_n 28 (gd rfl) rfl rfl ?_
        refine g_callv (X := _) (As := [.int y18_2]) (r := []) (b := A 2) (q := 2) 31 (gd rfl) rfl rfl rfl rfl rfl (ww_o rfl) (Nat.le_of_ble_eq_true rfl) (mc := 0) (ms := 0) (Nat.zero_le _) (Nat.zero_le _) (P := fun v u => _) ?_ (fun e u h => h) (fun v u h => h)
        intro po7 xx8 hp9 hx10
        refine g_enter2 (k := 97) (N := 300) (by omega) rfl (Nat.le_of_ble_eq_true rfl) ?_
        refine g_aload_n 1 (gd rfl) rfl rfl ?_
        refine g_getA (q2 := 4) 4 (gd rfl) rfl rfl rfl rfl rfl ?_
        refine g_iload_n 5 (gd rfl) rfl rfl ?_
        refine g_iaload 6 (gd rfl) rfl (n := 160) rfl (in_ix i5 rfl) (fun z11 e12 => ?_)
        have i13 := inv_I hI (n := 160) (t := 0) (-1) 31 rfl (in_ix i5 rfl) rfl e12
        refine g_iconst (-1) 7 (gd rfl) rfl rfl ?_
        refine g_cmp_eq 10 29 (gd rfl) rfl rfl (fun c14 => ?_) (fun c14 => ?_)
        · skip
          have i15 := r_eq1 (-1) (-1) c14 i13 (in_c (-1) rfl) rfl
          refine g_iconst 0 30 (gd rfl) rfl rfl ?_
          refine g_ireturn (gd rfl) rfl (nb01 (in_w 0 1 (in_c 0 rfl) rfl)) (hp9 _ _ ?_)
          show GG _ _ _ _ _ _ _ _ [.int (Int32.ofInt 0)] _ _ _
          refine g_if_eq 34 95 (gd rfl) rfl rfl (fun c16 => ?_) (fun c16 => ?_)
          · skip
            refine g_iinc 98 (gd rfl) rfl rfl (Nat.le_of_ble_eq_true rfl) (fun z17 e18 => ?_)
            have i19 := in_add 1 160 e18 i5 (in_c 1 rfl) rfl rfl
            refine g_goto 18 (gd rfl) rfl ?_
            exact gg_w (by omega) (gg_f (gf_cons rfl (gf_cons rfl (gf_cons rfl gf_nil))) (ih18 s z17 hI (in_w 0 160 i19 rfl) (m_up mm18 (t_add e18 i5 (in_c 1 rfl) rfl) (in_w 1 1 (in_c 1 rfl) rfl))))
          · skip
            exact zn_ne c16 (in_c 0 rfl) rfl
        · skip
          have i20 := r_ne1 0 31 c14 i13 (in_c (-1) rfl) rfl
          refine g_aload_n 11 (gd rfl) rfl rfl ?_
          refine g_getA (q2 := 4) 14 (gd rfl) rfl rfl rfl rfl rfl ?_
          refine g_iload_n 15 (gd rfl) rfl rfl ?_
          refine g_iaload 16 (gd rfl) rfl (n := 160) rfl (in_ix i5 rfl) (fun z21 e22 => ?_)
          have q23 : z11 = z21 := (e12).trans e22.symm
          subst q23
          refine g_aload_n 17 (gd rfl) rfl rfl ?_
          refine g_getA (q2 := 5) 20 (gd rfl) rfl rfl rfl rfl rfl ?_
          refine g_iload_n 21 (gd rfl) rfl rfl ?_
          refine g_iaload 22 (gd rfl) rfl (n := 160) rfl (in_ix i5 rfl) (fun z24 e25 => ?_)
          have i26 := inv_I hI (n := 160) (t := 0) 0 31 rfl (in_ix i5 rfl) rfl e25
          refine g_cmp_eq 25 29 (gd rfl) rfl rfl (fun c27 => ?_) (fun c27 => ?_)
          · skip
            refine g_iconst 0 30 (gd rfl) rfl rfl ?_
            refine g_ireturn (gd rfl) rfl (nb01 (in_w 0 1 (in_c 0 rfl) rfl)) (hp9 _ _ ?_)
            show GG _ _ _ _ _ _ _ _ [.int (Int32.ofInt 0)] _ _ _
            refine g_if_eq 34 95 (gd rfl) rfl rfl (fun c28 => ?_) (fun c28 => ?_)
            · skip
              refine g_iinc 98 (gd rfl) rfl rfl (Nat.le_of_ble_eq_true rfl) (fun z29 e30 => ?_)
              have i31 := in_add 1 160 e30 i5 (in_c 1 rfl) rfl rfl
              refine g_goto 18 (gd rfl) rfl ?_
              exact gg_w (by omega) (gg_f (gf_cons rfl (gf_cons rfl (gf_cons rfl gf_nil))) (ih18 s z29 hI (in_w 0 160 i31 rfl) (m_up mm18 (t_add e30 i5 (in_c 1 rfl) rfl) (in_w 1 1 (in_c 1 rfl) rfl))))
            · skip
              exact zn_ne c28 (in_c 0 rfl) rfl
          · skip
            refine g_iconst 1 26 (gd rfl) rfl rfl ?_
            refine g_goto 30 (gd rfl) rfl ?_
            refine g_ireturn (gd rfl) rfl (nb01 (in_w 0 1 (in_c 1 rfl) rfl)) (hp9 _ _ ?_)
            show GG _ _ _ _ _ _ _ _ [.int (Int32.ofInt 1)] _ _ _
            refine g_if_eq 34 95 (gd rfl) rfl rfl (fun c32 => ?_) (fun c32 => ?_)
            · skip
              exact zn_eq c32 (in_c 1 rfl) rfl
            · skip
              refine g_aload_n 35 (gd rfl) rfl rfl ?_
              refine g_getA (q2 := 7) 38 (gd rfl) rfl rfl rfl rfl rfl ?_
              refine g_iload_n 39 (gd rfl) rfl rfl ?_
              refine g_iaload 40 (gd rfl) rfl (n := 160) rfl (in_ix i5 rfl) (fun z33 e34 => ?_)
              have i35 := inv_I hI (n := 160) (t := 0) 0 1000000 rfl (in_ix i5 rfl) rfl e34
              refine g_if_le 43 95 (gd rfl) rfl rfl (fun c36 => ?_) (fun c36 => ?_)
              · skip
                have i37 := z_le 0 0 c36 i35 rfl
                refine g_iinc 98 (gd rfl) rfl rfl (Nat.le_of_ble_eq_true rfl) (fun z38 e39 => ?_)
                have i40 := in_add 1 160 e39 i5 (in_c 1 rfl) rfl rfl
                refine g_goto 18 (gd rfl) rfl ?_
                exact gg_w (by omega) (gg_f (gf_cons rfl (gf_cons rfl (gf_cons rfl gf_nil))) (ih18 s z38 hI (in_w 0 160 i40 rfl) (m_up mm18 (t_add e39 i5 (in_c 1 rfl) rfl) (in_w 1 1 (in_c 1 rfl) rfl))))
              · skip
                have i41 := z_gt 1 1000000 c36 i35 rfl
                refine g_aload_n 44 (gd rfl) rfl rfl ?_
                refine g_getA (q2 := 66) 47 (gd rfl) rfl rfl rfl rfl rfl ?_
                refine g_aload_n 48 (gd rfl) rfl rfl ?_
                refine g_getA (q2 := 4) 51 (gd rfl) rfl rfl rfl rfl rfl ?_
                refine g_iload_n 52 (gd rfl) rfl rfl ?_
                refine g_iaload 53 (gd rfl) rfl (n := 160) rfl (in_ix i5 rfl) (fun z42 e43 => ?_)
                have q44 : z11 = z42 := (e12).trans e43.symm
                subst q44
                refine g_bipush 32 55 (gd rfl) rfl rfl ?_
                refine g_imul 56 (gd rfl) rfl (fun z45 e46 => ?_)
                have i47 := in_mulc 32 0 992 (Or.inr e46) i20 rfl rfl
                refine g_aload_n 57 (gd rfl) rfl rfl ?_
                refine g_getA (q2 := 5) 60 (gd rfl) rfl rfl rfl rfl rfl ?_
                refine g_iload_n 61 (gd rfl) rfl rfl ?_
                refine g_iaload 62 (gd rfl) rfl (n := 160) rfl (in_ix i5 rfl) (fun z48 e49 => ?_)
                have q50 : z24 = z48 := (e25).trans e49.symm
                subst q50
                refine g_iadd 63 (gd rfl) rfl (fun z51 e52 => ?_)
                have i53 := in_add 0 1023 e52 i47 i26 rfl rfl
                refine g_dup2 64 (gd rfl) rfl rfl rfl ?_
                refine g_iaload 65 (gd rfl) rfl (n := 1024) rfl (in_ix i53 rfl) (fun z54 e55 => ?_)
                refine g_aload_n 66 (gd rfl) rfl rfl ?_
                refine g_getA (q2 := 7) 69 (gd rfl) rfl rfl rfl rfl rfl ?_
                refine g_iload_n 70 (gd rfl) rfl rfl ?_
                refine g_iaload 71 (gd rfl) rfl (n := 160) rfl (in_ix i5 rfl) (fun z56 e57 => ?_)
                have q58 : z33 = z56 := (e34).trans e57.symm
                subst q58
                refine g_iadd 72 (gd rfl) rfl (fun z59 e60 => ?_)
                refine g_iastore 73 (gd rfl) rfl (n := 1024) rfl (in_ix i53 rfl) ?_
                have hI61 := inv_sI (q := 66) (j := z51.toNatClampNeg) hI rfl (in_w (-2147483648) 2147483647 (i_rng z59) rfl)
                refine g_aload_n 74 (gd rfl) rfl rfl ?_
                refine g_getA (q2 := 67) 77 (gd rfl) rfl rfl rfl rfl rfl ?_
                refine g_aload_n 78 (gd rfl) rfl rfl ?_
                refine g_getA (q2 := 4) 81 (gd rfl) rfl rfl rfl rfl rfl ?_
                refine g_iload_n 82 (gd rfl) rfl rfl ?_
                refine g_iaload 83 (gd rfl) rfl (n := 160) rfl (in_ix i5 rfl) (fun z62 e63 => ?_)
                have q64 : z11 = z62 := (sI_ne rfl (e12)).trans e63.symm
                subst q64
                refine g_dup2 84 (gd rfl) rfl rfl rfl ?_
                refine g_iaload 85 (gd rfl) rfl (n := 32) rfl (in_ix i20 rfl) (fun z65 e66 => ?_)
                refine g_iconst 1 86 (gd rfl) rfl rfl ?_
                refine g_aload_n 87 (gd rfl) rfl rfl ?_
                refine g_getA (q2 := 5) 90 (gd rfl) rfl rfl rfl rfl rfl ?_
                refine g_iload_n 91 (gd rfl) rfl rfl ?_
                refine g_iaload 92 (gd rfl) rfl (n := 160) rfl (in_ix i5 rfl) (fun z67 e68 => ?_)
                have q69 : z24 = z67 := (sI_ne rfl (e25)).trans e68.symm
                subst q69
                refine g_ishl 93 (gd rfl) rfl (fun z70 e71 => ?_)
                refine g_ior 94 (gd rfl) rfl (fun z72 e73 => ?_)
                refine g_iastore 95 (gd rfl) rfl (n := 32) rfl (in_ix i20 rfl) ?_
                have hI74 := inv_sI (q := 67) (j := z11.toNatClampNeg) hI61 rfl (in_w (-2147483648) 2147483647 (i_rng z72) rfl)
                refine g_iinc 98 (gd rfl) rfl rfl (Nat.le_of_ble_eq_true rfl) (fun z75 e76 => ?_)
                have i77 := in_add 1 160 e76 i5 (in_c 1 rfl) rfl rfl
                refine g_goto 18 (gd rfl) rfl ?_
                exact gg_w (by omega) (gg_f (gf_cons rfl (gf_cons rfl (gf_cons rfl gf_nil))) (ih18 (sI (sI s 66 z51.toNatClampNeg z59) 67 z11.toNatClampNeg z72) z75 hI74 (in_w 0 160 i77 rfl) (m_up mm18 (t_add e76 i5 (in_c 1 rfl) rfl) (in_w 1 1 (in_c 1 rfl) rfl))))
  refine g_enter2 (k := 76) (N := 145801) (by omega) rfl (Nat.le_of_ble_eq_true rfl) ?_
  refine g_aload_n 1 (gd rfl) rfl rfl ?_
  refine g_getA (q2 := 66) 4 (gd rfl) rfl rfl rfl rfl rfl ?_
  refine g_iconst 0 5 (gd rfl) rfl rfl ?_
  refine g_calls (As := [.ref (A 66), .int (Int32.ofInt 0)]) (r := []) 8 (gd rfl) rfl rfl rfl rfl rfl (Nat.le_of_ble_eq_true rfl) (Nat.zero_le _) (Nat.zero_le _) (k_fillI 66 (by omega) hI (in_c 0 rfl) (n := 1024) rfl rfl rfl rfl) (fun v u h => ?_)
  obtain ⟨s78, hI79, rfl, rfl⟩ := h
  show GG _ _ _ _ _ _ _ _ [] _ _ _
  refine g_aload_n 9 (gd rfl) rfl rfl ?_
  refine g_getA (q2 := 67) 12 (gd rfl) rfl rfl rfl rfl rfl ?_
  refine g_iconst 0 13 (gd rfl) rfl rfl ?_
  refine g_calls (As := [.ref (A 67), .int (Int32.ofInt 0)]) (r := []) 16 (gd rfl) rfl rfl rfl rfl rfl (Nat.le_of_ble_eq_true rfl) (Nat.zero_le _) (Nat.zero_le _) (k_fillI 67 (by omega) hI79 (in_c 0 rfl) (n := 32) rfl rfl rfl rfl) (fun v u h => ?_)
  obtain ⟨s80, hI81, rfl, rfl⟩ := h
  show GG _ _ _ _ _ _ _ _ [] _ _ _
  refine g_iconst 0 17 (gd rfl) rfl rfl ?_
  refine g_istore_n 18 (gd rfl) rfl (Nat.le_of_ble_eq_true rfl) ?_
  exact gg_w (by omega) (gg_f (gf_cons rfl (gf_cons rfl (gf_cons rfl gf_nil))) (ct18 161 s80 (Int32.ofInt 0) hI81 (in_w 0 160 (in_c 0 rfl) rfl) (m_in 161 (in_w 0 160 (in_c 0 rfl) rfl) rfl)))

/-- GraphHouse$Flows.openAll -/
theorem k_76_65_32 {Z : AmZ} {A : Nat → Nat} {s : GS} {ex : va_W} {d : Nat} {X : AmX}  (hd : 3 ≤ d) (hI : Inv s)  : GC Z d 76 [.ref (A 65), .ref (A 32)] (WW Z A s ++ ex) 0 0 (fun v u => ∃ t : GS, Inv t ∧ v = none ∧ u = WW Z A t ++ ex) X := by
  intro post xp hP hX
  have ct18 : ∀ (k18 : Nat) (s : GS) (y18_2 : Int32), Inv s → In y18_2 0 160 → 160 - (y18_2).toInt < (k18 : Int) → GG Z (d - 1) 76 post (gx xp) (1 + k18 * 900) 18 (fun j => xlook j [(0, .ref (A 65)), (1, .ref (A 32)), (2, .int y18_2)]) [] (WW Z A s ++ ex) 0 0 := by
    intro k18
    induction k18 with
    | zero => intro s y18_2 hI j18_2 mm18; exact m_no mm18 j18_2 rfl
    | succ k18 ih18 =>
      intro s y18_2 hI j18_2 mm18
      refine gg_w (M := 1 + k18 * 900 + 900) (by omega) ?_
      refine g_iload_n 19 (gd rfl) rfl rfl ?_
      refine g_aload_n 20 (gd rfl) rfl rfl ?_
      refine g_getI 23 (gd rfl) rfl rfl rfl (fun z1 e2 => ?_)
      have i3 := inv_F hI 0 160 rfl e2
      refine g_cmp_ge 26 101 (gd rfl) rfl rfl (fun c4 => ?_) (fun c4 => ?_)
      · skip
        exact g_return (gd rfl) rfl (hP _ _ ⟨s, hI, rfl, rfl⟩)
      · skip
        have i5 := r_lt1 0 159 c4 j18_2 i3 rfl
        have i6 := r_lt2 1 160 c4 j18_2 i3 rfl
        refine g_aload_n 27 (gd rfl) rfl rfl ?_
        refine g_iload_n 28 (gd rfl) rfl rfl ?_
        refine g_callv (X := _) (As := [.int y18_2]) (r := []) (b := A 32) (q := 32) 31 (gd rfl) rfl rfl rfl rfl rfl (ww_o rfl) (Nat.le_of_ble_eq_true rfl) (mc := 0) (ms := 0) (Nat.zero_le _) (Nat.zero_le _) (P := fun v u => _) ?_ (fun e u h => h) (fun v u h => h)
        intro po7 xx8 hp9 hx10
        refine g_enter2 (k := 97) (N := 300) (by omega) rfl (Nat.le_of_ble_eq_true rfl) ?_
        refine g_aload_n 1 (gd rfl) rfl rfl ?_
        refine g_getA (q2 := 34) 4 (gd rfl) rfl rfl rfl rfl rfl ?_
        refine g_iload_n 5 (gd rfl) rfl rfl ?_
        refine g_iaload 6 (gd rfl) rfl (n := 160) rfl (in_ix i5 rfl) (fun z11 e12 => ?_)
        have i13 := inv_I hI (n := 160) (t := 0) (-1) 31 rfl (in_ix i5 rfl) rfl e12
        refine g_iconst (-1) 7 (gd rfl) rfl rfl ?_
        refine g_cmp_eq 10 29 (gd rfl) rfl rfl (fun c14 => ?_) (fun c14 => ?_)
        · skip
          have i15 := r_eq1 (-1) (-1) c14 i13 (in_c (-1) rfl) rfl
          refine g_iconst 0 30 (gd rfl) rfl rfl ?_
          refine g_ireturn (gd rfl) rfl (nb01 (in_w 0 1 (in_c 0 rfl) rfl)) (hp9 _ _ ?_)
          show GG _ _ _ _ _ _ _ _ [.int (Int32.ofInt 0)] _ _ _
          refine g_if_eq 34 95 (gd rfl) rfl rfl (fun c16 => ?_) (fun c16 => ?_)
          · skip
            refine g_iinc 98 (gd rfl) rfl rfl (Nat.le_of_ble_eq_true rfl) (fun z17 e18 => ?_)
            have i19 := in_add 1 160 e18 i5 (in_c 1 rfl) rfl rfl
            refine g_goto 18 (gd rfl) rfl ?_
            exact gg_w (by omega) (gg_f (gf_cons rfl (gf_cons rfl (gf_cons rfl gf_nil))) (ih18 s z17 hI (in_w 0 160 i19 rfl) (m_up mm18 (t_add e18 i5 (in_c 1 rfl) rfl) (in_w 1 1 (in_c 1 rfl) rfl))))
          · skip
            exact zn_ne c16 (in_c 0 rfl) rfl
        · skip
          have i20 := r_ne1 0 31 c14 i13 (in_c (-1) rfl) rfl
          refine g_aload_n 11 (gd rfl) rfl rfl ?_
          refine g_getA (q2 := 34) 14 (gd rfl) rfl rfl rfl rfl rfl ?_
          refine g_iload_n 15 (gd rfl) rfl rfl ?_
          refine g_iaload 16 (gd rfl) rfl (n := 160) rfl (in_ix i5 rfl) (fun z21 e22 => ?_)
          have q23 : z11 = z21 := (e12).trans e22.symm
          subst q23
          refine g_aload_n 17 (gd rfl) rfl rfl ?_
          refine g_getA (q2 := 35) 20 (gd rfl) rfl rfl rfl rfl rfl ?_
          refine g_iload_n 21 (gd rfl) rfl rfl ?_
          refine g_iaload 22 (gd rfl) rfl (n := 160) rfl (in_ix i5 rfl) (fun z24 e25 => ?_)
          have i26 := inv_I hI (n := 160) (t := 0) 0 31 rfl (in_ix i5 rfl) rfl e25
          refine g_cmp_eq 25 29 (gd rfl) rfl rfl (fun c27 => ?_) (fun c27 => ?_)
          · skip
            refine g_iconst 0 30 (gd rfl) rfl rfl ?_
            refine g_ireturn (gd rfl) rfl (nb01 (in_w 0 1 (in_c 0 rfl) rfl)) (hp9 _ _ ?_)
            show GG _ _ _ _ _ _ _ _ [.int (Int32.ofInt 0)] _ _ _
            refine g_if_eq 34 95 (gd rfl) rfl rfl (fun c28 => ?_) (fun c28 => ?_)
            · skip
              refine g_iinc 98 (gd rfl) rfl rfl (Nat.le_of_ble_eq_true rfl) (fun z29 e30 => ?_)
              have i31 := in_add 1 160 e30 i5 (in_c 1 rfl) rfl rfl
              refine g_goto 18 (gd rfl) rfl ?_
              exact gg_w (by omega) (gg_f (gf_cons rfl (gf_cons rfl (gf_cons rfl gf_nil))) (ih18 s z29 hI (in_w 0 160 i31 rfl) (m_up mm18 (t_add e30 i5 (in_c 1 rfl) rfl) (in_w 1 1 (in_c 1 rfl) rfl))))
            · skip
              exact zn_ne c28 (in_c 0 rfl) rfl
          · skip
            refine g_iconst 1 26 (gd rfl) rfl rfl ?_
            refine g_goto 30 (gd rfl) rfl ?_
            refine g_ireturn (gd rfl) rfl (nb01 (in_w 0 1 (in_c 1 rfl) rfl)) (hp9 _ _ ?_)
            show GG _ _ _ _ _ _ _ _ [.int (Int32.ofInt 1)] _ _ _
            refine g_if_eq 34 95 (gd rfl) rfl rfl (fun c32 => ?_) (fun c32 => ?_)
            · skip
              exact zn_eq c32 (in_c 1 rfl) rfl
            · skip
              refine g_aload_n 35 (gd rfl) rfl rfl ?_
              refine g_getA (q2 := 37) 38 (gd rfl) rfl rfl rfl rfl rfl ?_
              refine g_iload_n 39 (gd rfl) rfl rfl ?_
              refine g_iaload 40 (gd rfl) rfl (n := 160) rfl (in_ix i5 rfl) (fun z33 e34 => ?_)
              have i35 := inv_I hI (n := 160) (t := 0) 0 1000000 rfl (in_ix i5 rfl) rfl e34
              refine g_if_le 43 95 (gd rfl) rfl rfl (fun c36 => ?_) (fun c36 => ?_)
              · skip
                have i37 := z_le 0 0 c36 i35 rfl
                refine g_iinc 98 (gd rfl) rfl rfl (Nat.le_of_ble_eq_true rfl) (fun z38 e39 => ?_)
                have i40 := in_add 1 160 e39 i5 (in_c 1 rfl) rfl rfl
                refine g_goto 18 (gd rfl) rfl ?_
                exact gg_w (by omega) (gg_f (gf_cons rfl (gf_cons rfl (gf_cons rfl gf_nil))) (ih18 s z38 hI (in_w 0 160 i40 rfl) (m_up mm18 (t_add e39 i5 (in_c 1 rfl) rfl) (in_w 1 1 (in_c 1 rfl) rfl))))
              · skip
                have i41 := z_gt 1 1000000 c36 i35 rfl
                refine g_aload_n 44 (gd rfl) rfl rfl ?_
                refine g_getA (q2 := 66) 47 (gd rfl) rfl rfl rfl rfl rfl ?_
                refine g_aload_n 48 (gd rfl) rfl rfl ?_
                refine g_getA (q2 := 34) 51 (gd rfl) rfl rfl rfl rfl rfl ?_
                refine g_iload_n 52 (gd rfl) rfl rfl ?_
                refine g_iaload 53 (gd rfl) rfl (n := 160) rfl (in_ix i5 rfl) (fun z42 e43 => ?_)
                have q44 : z11 = z42 := (e12).trans e43.symm
                subst q44
                refine g_bipush 32 55 (gd rfl) rfl rfl ?_
                refine g_imul 56 (gd rfl) rfl (fun z45 e46 => ?_)
                have i47 := in_mulc 32 0 992 (Or.inr e46) i20 rfl rfl
                refine g_aload_n 57 (gd rfl) rfl rfl ?_
                refine g_getA (q2 := 35) 60 (gd rfl) rfl rfl rfl rfl rfl ?_
                refine g_iload_n 61 (gd rfl) rfl rfl ?_
                refine g_iaload 62 (gd rfl) rfl (n := 160) rfl (in_ix i5 rfl) (fun z48 e49 => ?_)
                have q50 : z24 = z48 := (e25).trans e49.symm
                subst q50
                refine g_iadd 63 (gd rfl) rfl (fun z51 e52 => ?_)
                have i53 := in_add 0 1023 e52 i47 i26 rfl rfl
                refine g_dup2 64 (gd rfl) rfl rfl rfl ?_
                refine g_iaload 65 (gd rfl) rfl (n := 1024) rfl (in_ix i53 rfl) (fun z54 e55 => ?_)
                refine g_aload_n 66 (gd rfl) rfl rfl ?_
                refine g_getA (q2 := 37) 69 (gd rfl) rfl rfl rfl rfl rfl ?_
                refine g_iload_n 70 (gd rfl) rfl rfl ?_
                refine g_iaload 71 (gd rfl) rfl (n := 160) rfl (in_ix i5 rfl) (fun z56 e57 => ?_)
                have q58 : z33 = z56 := (e34).trans e57.symm
                subst q58
                refine g_iadd 72 (gd rfl) rfl (fun z59 e60 => ?_)
                refine g_iastore 73 (gd rfl) rfl (n := 1024) rfl (in_ix i53 rfl) ?_
                have hI61 := inv_sI (q := 66) (j := z51.toNatClampNeg) hI rfl (in_w (-2147483648) 2147483647 (i_rng z59) rfl)
                refine g_aload_n 74 (gd rfl) rfl rfl ?_
                refine g_getA (q2 := 67) 77 (gd rfl) rfl rfl rfl rfl rfl ?_
                refine g_aload_n 78 (gd rfl) rfl rfl ?_
                refine g_getA (q2 := 34) 81 (gd rfl) rfl rfl rfl rfl rfl ?_
                refine g_iload_n 82 (gd rfl) rfl rfl ?_
                refine g_iaload 83 (gd rfl) rfl (n := 160) rfl (in_ix i5 rfl) (fun z62 e63 => ?_)
                have q64 : z11 = z62 := (sI_ne rfl (e12)).trans e63.symm
                subst q64
                refine g_dup2 84 (gd rfl) rfl rfl rfl ?_
                refine g_iaload 85 (gd rfl) rfl (n := 32) rfl (in_ix i20 rfl) (fun z65 e66 => ?_)
                refine g_iconst 1 86 (gd rfl) rfl rfl ?_
                refine g_aload_n 87 (gd rfl) rfl rfl ?_
                refine g_getA (q2 := 35) 90 (gd rfl) rfl rfl rfl rfl rfl ?_
                refine g_iload_n 91 (gd rfl) rfl rfl ?_
                refine g_iaload 92 (gd rfl) rfl (n := 160) rfl (in_ix i5 rfl) (fun z67 e68 => ?_)
                have q69 : z24 = z67 := (sI_ne rfl (e25)).trans e68.symm
                subst q69
                refine g_ishl 93 (gd rfl) rfl (fun z70 e71 => ?_)
                refine g_ior 94 (gd rfl) rfl (fun z72 e73 => ?_)
                refine g_iastore 95 (gd rfl) rfl (n := 32) rfl (in_ix i20 rfl) ?_
                have hI74 := inv_sI (q := 67) (j := z11.toNatClampNeg) hI61 rfl (in_w (-2147483648) 2147483647 (i_rng z72) rfl)
                refine g_iinc 98 (gd rfl) rfl rfl (Nat.le_of_ble_eq_true rfl) (fun z75 e76 => ?_)
                have i77 := in_add 1 160 e76 i5 (in_c 1 rfl) rfl rfl
                refine g_goto 18 (gd rfl) rfl ?_
                exact gg_w (by omega) (gg_f (gf_cons rfl (gf_cons rfl (gf_cons rfl gf_nil))) (ih18 (sI (sI s 66 z51.toNatClampNeg z59) 67 z11.toNatClampNeg z72) z75 hI74 (in_w 0 160 i77 rfl) (m_up mm18 (t_add e76 i5 (in_c 1 rfl) rfl) (in_w 1 1 (in_c 1 rfl) rfl))))
  refine g_enter2 (k := 76) (N := 145801) (by omega) rfl (Nat.le_of_ble_eq_true rfl) ?_
  refine g_aload_n 1 (gd rfl) rfl rfl ?_
  refine g_getA (q2 := 66) 4 (gd rfl) rfl rfl rfl rfl rfl ?_
  refine g_iconst 0 5 (gd rfl) rfl rfl ?_
  refine g_calls (As := [.ref (A 66), .int (Int32.ofInt 0)]) (r := []) 8 (gd rfl) rfl rfl rfl rfl rfl (Nat.le_of_ble_eq_true rfl) (Nat.zero_le _) (Nat.zero_le _) (k_fillI 66 (by omega) hI (in_c 0 rfl) (n := 1024) rfl rfl rfl rfl) (fun v u h => ?_)
  obtain ⟨s78, hI79, rfl, rfl⟩ := h
  show GG _ _ _ _ _ _ _ _ [] _ _ _
  refine g_aload_n 9 (gd rfl) rfl rfl ?_
  refine g_getA (q2 := 67) 12 (gd rfl) rfl rfl rfl rfl rfl ?_
  refine g_iconst 0 13 (gd rfl) rfl rfl ?_
  refine g_calls (As := [.ref (A 67), .int (Int32.ofInt 0)]) (r := []) 16 (gd rfl) rfl rfl rfl rfl rfl (Nat.le_of_ble_eq_true rfl) (Nat.zero_le _) (Nat.zero_le _) (k_fillI 67 (by omega) hI79 (in_c 0 rfl) (n := 32) rfl rfl rfl rfl) (fun v u h => ?_)
  obtain ⟨s80, hI81, rfl, rfl⟩ := h
  show GG _ _ _ _ _ _ _ _ [] _ _ _
  refine g_iconst 0 17 (gd rfl) rfl rfl ?_
  refine g_istore_n 18 (gd rfl) rfl (Nat.le_of_ble_eq_true rfl) ?_
  exact gg_w (by omega) (gg_f (gf_cons rfl (gf_cons rfl (gf_cons rfl gf_nil))) (ct18 161 s80 (Int32.ofInt 0) hI81 (in_w 0 160 (in_c 0 rfl) rfl) (m_in 161 (in_w 0 160 (in_c 0 rfl) rfl) rfl)))

/-- GraphHouse$Flows.lay -/
theorem k_84_65 {Z : AmZ} {A : Nat → Nat} {s : GS} {ex : va_W} {d : Nat} {X : AmX} {x1 : Int32} {x2 : Int32} {x3 : Int32} {x4 : Int32} (hd : 1 ≤ d) (hI : Inv s) (h1 : In x1 0 31) (h2 : In x2 0 31) (h3 : In x3 (-1000000) 1000000) (h4 : In x4 0 1000000) : GC Z d 84 [.ref (A 65), .int x1, .int x2, .int x3, .int x4] (WW Z A s ++ ex) 0 0 (fun v u => ∃ t : GS, Inv t ∧ v = none ∧ u = WW Z A t ++ ex) X := by
  intro post xp hP hX
  refine g_enter2 (k := 84) (N := 900) (by omega) rfl (Nat.le_of_ble_eq_true rfl) ?_
  refine g_aload_n 1 (gd rfl) rfl rfl ?_
  refine g_getI 4 (gd rfl) rfl rfl rfl (fun z1 e2 => ?_)
  have i3 := inv_F hI 0 160 rfl e2
  refine g_sipush 160 7 (gd rfl) rfl rfl ?_
  refine g_cmp_ge 10 71 (gd rfl) rfl rfl (fun c4 => ?_) (fun c4 => ?_)
  · skip
    have i5 := r_le2 160 160 c4 (in_c 160 rfl) i3 rfl
    exact g_return (gd rfl) rfl (hP _ _ ⟨s, hI, rfl, rfl⟩)
  · skip
    have i6 := r_lt1 0 159 c4 i3 (in_c 160 rfl) rfl
    refine g_aload_n 11 (gd rfl) rfl rfl ?_
    refine g_getA (q2 := 69) 14 (gd rfl) rfl rfl rfl rfl rfl ?_
    refine g_aload_n 15 (gd rfl) rfl rfl ?_
    refine g_getI 18 (gd rfl) rfl rfl rfl (fun z7 e8 => ?_)
    have q9 : z1 = z7 := (e2).trans e8.symm
    subst q9
    refine g_iload_n 19 (gd rfl) rfl rfl ?_
    refine g_iastore 20 (gd rfl) rfl (n := 160) rfl (in_ix i6 rfl) ?_
    have hI10 := inv_sI (q := 69) (j := z1.toNatClampNeg) hI rfl (in_w 0 31 h1 rfl)
    refine g_aload_n 21 (gd rfl) rfl rfl ?_
    refine g_getA (q2 := 70) 24 (gd rfl) rfl rfl rfl rfl rfl ?_
    refine g_aload_n 25 (gd rfl) rfl rfl ?_
    refine g_getI 28 (gd rfl) rfl rfl rfl (fun z11 e12 => ?_)
    have q13 : z1 = z11 := (e2).trans e12.symm
    subst q13
    refine g_iload_n 29 (gd rfl) rfl rfl ?_
    refine g_iastore 30 (gd rfl) rfl (n := 160) rfl (in_ix i6 rfl) ?_
    have hI14 := inv_sI (q := 70) (j := z1.toNatClampNeg) hI10 rfl (in_w 0 31 h2 rfl)
    refine g_aload_n 31 (gd rfl) rfl rfl ?_
    refine g_getA (q2 := 71) 34 (gd rfl) rfl rfl rfl rfl rfl ?_
    refine g_aload_n 35 (gd rfl) rfl rfl ?_
    refine g_getI 38 (gd rfl) rfl rfl rfl (fun z15 e16 => ?_)
    have q17 : z1 = z15 := (e2).trans e16.symm
    subst q17
    refine g_iload_n 39 (gd rfl) rfl rfl ?_
    refine g_iastore 40 (gd rfl) rfl (n := 160) rfl (in_ix i6 rfl) ?_
    have hI18 := inv_sI (q := 71) (j := z1.toNatClampNeg) hI14 rfl (in_w (-1000000) 1000000 h3 rfl)
    refine g_aload_n 41 (gd rfl) rfl rfl ?_
    refine g_getA (q2 := 72) 44 (gd rfl) rfl rfl rfl rfl rfl ?_
    refine g_aload_n 45 (gd rfl) rfl rfl ?_
    refine g_getI 48 (gd rfl) rfl rfl rfl (fun z19 e20 => ?_)
    have q21 : z1 = z19 := (e2).trans e20.symm
    subst q21
    refine g_iload 50 (gd rfl) rfl rfl ?_
    refine g_iastore 51 (gd rfl) rfl (n := 160) rfl (in_ix i6 rfl) ?_
    have hI22 := inv_sI (q := 72) (j := z1.toNatClampNeg) hI18 rfl (in_w 0 1000000 h4 rfl)
    refine g_aload_n 52 (gd rfl) rfl rfl ?_
    refine g_getA (q2 := 73) 55 (gd rfl) rfl rfl rfl rfl rfl ?_
    refine g_aload_n 56 (gd rfl) rfl rfl ?_
    refine g_getI 59 (gd rfl) rfl rfl rfl (fun z23 e24 => ?_)
    have q25 : z1 = z23 := (e2).trans e24.symm
    subst q25
    refine g_iconst 0 60 (gd rfl) rfl rfl ?_
    refine g_iastore 61 (gd rfl) rfl (n := 160) rfl (in_ix i6 rfl) ?_
    have hI26 := inv_sI (q := 73) (j := z1.toNatClampNeg) hI22 rfl (in_w (-2147483648) 2147483647 (in_c 0 rfl) rfl)
    refine g_aload_n 62 (gd rfl) rfl rfl ?_
    refine g_dup 63 (gd rfl) rfl rfl ?_
    refine g_getI 66 (gd rfl) rfl rfl rfl (fun z27 e28 => ?_)
    have q29 : z1 = z27 := (e2).trans e28.symm
    subst q29
    refine g_iconst 1 67 (gd rfl) rfl rfl ?_
    refine g_iadd 68 (gd rfl) rfl (fun z30 e31 => ?_)
    have i32 := in_add 1 160 e31 i6 (in_c 1 rfl) rfl rfl
    refine g_putI 71 (gd rfl) rfl rfl rfl rfl ?_
    have hI33 := inv_sF (q := 65) (j := 8) hI26 rfl (in_w 0 160 i32 rfl)
    exact g_return (gd rfl) rfl (hP _ _ ⟨(sF (sI (sI (sI (sI (sI s 69 z1.toNatClampNeg x1) 70 z1.toNatClampNeg x2) 71 z1.toNatClampNeg x3) 72 z1.toNatClampNeg x4) 73 z1.toNatClampNeg (Int32.ofInt 0)) 65 8 z30), hI33, rfl, rfl⟩)

/-- GraphHouse$Flows.relaxPipe -/
theorem k_87_65 {Z : AmZ} {A : Nat → Nat} {s : GS} {ex : va_W} {d : Nat} {X : AmX} {x1 : Int32} {x2 : Int32} (hd : 1 ≤ d) (hI : Inv s) (h1 : In x1 0 159) (h2 : In x2 1 1048576) : GC Z d 87 [.ref (A 65), .int x1, .int x2] (WW Z A s ++ ex) 0 0 (fun v u => ∃ t : GS, Inv t ∧ ∃ z : Int32, v = some (.int z) ∧ u = WW Z A t ++ ex ∧ In z 0 1) X := by
  intro post xp hP hX
  refine g_enter2 (k := 87) (N := 900) (by omega) rfl (Nat.le_of_ble_eq_true rfl) ?_
  refine g_aload_n 1 (gd rfl) rfl rfl ?_
  refine g_getA (q2 := 69) 4 (gd rfl) rfl rfl rfl rfl rfl ?_
  refine g_iload_n 5 (gd rfl) rfl rfl ?_
  refine g_iaload 6 (gd rfl) rfl (n := 160) rfl (in_ix h1 rfl) (fun z1 e2 => ?_)
  have i3 := inv_I hI (n := 160) (t := 0) 0 31 rfl (in_ix h1 rfl) rfl e2
  refine g_istore_n 7 (gd rfl) rfl (Nat.le_of_ble_eq_true rfl) ?_
  refine g_aload_n 8 (gd rfl) rfl rfl ?_
  refine g_getA (q2 := 70) 11 (gd rfl) rfl rfl rfl rfl rfl ?_
  refine g_iload_n 12 (gd rfl) rfl rfl ?_
  refine g_iaload 13 (gd rfl) rfl (n := 160) rfl (in_ix h1 rfl) (fun z4 e5 => ?_)
  have i6 := inv_I hI (n := 160) (t := 0) 0 31 rfl (in_ix h1 rfl) rfl e5
  refine g_istore 15 (gd rfl) rfl (Nat.le_of_ble_eq_true rfl) ?_
  refine g_aload_n 16 (gd rfl) rfl rfl ?_
  refine g_getA (q2 := 72) 19 (gd rfl) rfl rfl rfl rfl rfl ?_
  refine g_iload_n 20 (gd rfl) rfl rfl ?_
  refine g_iaload 21 (gd rfl) rfl (n := 160) rfl (in_ix h1 rfl) (fun z7 e8 => ?_)
  have i9 := inv_I hI (n := 160) (t := 0) 0 1000000 rfl (in_ix h1 rfl) rfl e8
  refine g_aload_n 22 (gd rfl) rfl rfl ?_
  refine g_getA (q2 := 73) 25 (gd rfl) rfl rfl rfl rfl rfl ?_
  refine g_iload_n 26 (gd rfl) rfl rfl ?_
  refine g_iaload 27 (gd rfl) rfl (n := 160) rfl (in_ix h1 rfl) (fun z10 e11 => ?_)
  refine g_isub 28 (gd rfl) rfl (fun z12 e13 => ?_)
  refine g_iload_n 29 (gd rfl) rfl rfl ?_
  refine g_cmp_lt 32 103 (gd rfl) rfl rfl (fun c14 => ?_) (fun c14 => ?_)
  · skip
    have i15 := r_lt1 (-2147483648) 1048575 c14 (i_rng z12) h2 rfl
    refine g_aload_n 104 (gd rfl) rfl rfl ?_
    refine g_getA (q2 := 73) 107 (gd rfl) rfl rfl rfl rfl rfl ?_
    refine g_iload_n 108 (gd rfl) rfl rfl ?_
    refine g_iaload 109 (gd rfl) rfl (n := 160) rfl (in_ix h1 rfl) (fun z16 e17 => ?_)
    have q18 : z10 = z16 := (e11).trans e17.symm
    subst q18
    refine g_iload_n 110 (gd rfl) rfl rfl ?_
    refine g_cmp_lt 113 186 (gd rfl) rfl rfl (fun c19 => ?_) (fun c19 => ?_)
    · skip
      have i20 := r_lt1 (-2147483648) 1048575 c19 (i_rng z10) h2 rfl
      refine g_iconst 0 187 (gd rfl) rfl rfl ?_
      exact g_ireturn (gd rfl) rfl (nb01 (in_w 0 1 (in_c 0 rfl) rfl)) (hP _ _ ⟨s, hI, (Int32.ofInt 0), rfl, rfl, in_w 0 1 (in_c 0 rfl) rfl⟩)
    · skip
      have i21 := r_le2 1 2147483647 c19 h2 (i_rng z10) rfl
      refine g_aload_n 114 (gd rfl) rfl rfl ?_
      refine g_getA (q2 := 75) 117 (gd rfl) rfl rfl rfl rfl rfl ?_
      refine g_iload 119 (gd rfl) rfl rfl ?_
      refine g_laload 120 (gd rfl) rfl (n := 32) rfl (in_ix i6 rfl) (fun z22 e23 => ?_)
      refine g_ldc2_w 9223372036854775807 123 (gd rfl) rfl rfl ?_
      refine g_lcmp 124 (gd rfl) rfl (fun z24 e25 => ?_)
      have i26 := lc_in e25
      refine g_if_eq 127 186 (gd rfl) rfl rfl (fun c27 => ?_) (fun c27 => ?_)
      · skip
        have i28 := z_eq 0 0 c27 i26 rfl
        have c29 := lc_eq e25 c27
        have i30 := lr_eq1 9223372036854775807 9223372036854775807 c29 (l_rng z22) (l_c 9223372036854775807 rfl) rfl
        refine g_iconst 0 187 (gd rfl) rfl rfl ?_
        exact g_ireturn (gd rfl) rfl (nb01 (in_w 0 1 (in_c 0 rfl) rfl)) (hP _ _ ⟨s, hI, (Int32.ofInt 0), rfl, rfl, in_w 0 1 (in_c 0 rfl) rfl⟩)
      · skip
        have c31 := lc_ne e25 c27
        have i32 := lr_ne1 (-9223372036854775808) 9223372036854775806 c31 (l_rng z22) (l_c 9223372036854775807 rfl) rfl
        refine g_aload_n 128 (gd rfl) rfl rfl ?_
        refine g_getA (q2 := 75) 131 (gd rfl) rfl rfl rfl rfl rfl ?_
        refine g_iload 133 (gd rfl) rfl rfl ?_
        refine g_laload 134 (gd rfl) rfl (n := 32) rfl (in_ix i6 rfl) (fun z33 e34 => ?_)
        refine g_aload_n 135 (gd rfl) rfl rfl ?_
        refine g_getA (q2 := 71) 138 (gd rfl) rfl rfl rfl rfl rfl ?_
        refine g_iload_n 139 (gd rfl) rfl rfl ?_
        refine g_iaload 140 (gd rfl) rfl (n := 160) rfl (in_ix h1 rfl) (fun z35 e36 => ?_)
        have i37 := inv_I hI (n := 160) (t := 0) (-1000000) 1000000 rfl (in_ix h1 rfl) rfl e36
        refine g_i2l 141 (gd rfl) rfl (fun z38 e39 => ?_)
        have i40 := l_i e39 i37
        refine g_lsub 142 (gd rfl) rfl (fun z41 e42 => ?_)
        refine g_aload_n 143 (gd rfl) rfl rfl ?_
        refine g_getA (q2 := 75) 146 (gd rfl) rfl rfl rfl rfl rfl ?_
        refine g_iload_n 147 (gd rfl) rfl rfl ?_
        refine g_laload 148 (gd rfl) rfl (n := 32) rfl (in_ix i3 rfl) (fun z43 e44 => ?_)
        refine g_lcmp 149 (gd rfl) rfl (fun z45 e46 => ?_)
        have i47 := lc_in e46
        refine g_if_ge 152 186 (gd rfl) rfl rfl (fun c48 => ?_) (fun c48 => ?_)
        · skip
          have i49 := z_ge 0 1 c48 i47 rfl
          have c50 := lc_ge e46 c48
          refine g_iconst 0 187 (gd rfl) rfl rfl ?_
          exact g_ireturn (gd rfl) rfl (nb01 (in_w 0 1 (in_c 0 rfl) rfl)) (hP _ _ ⟨s, hI, (Int32.ofInt 0), rfl, rfl, in_w 0 1 (in_c 0 rfl) rfl⟩)
        · skip
          have i51 := z_lt (-1) (-1) c48 i47 rfl
          have c52 := lc_lt e46 c48
          have i53 := lr_lt1 (-9223372036854775808) 9223372036854775806 c52 (l_rng z41) (l_rng z43) rfl
          have i54 := lr_lt2 (-9223372036854775807) 9223372036854775807 c52 (l_rng z41) (l_rng z43) rfl
          refine g_aload_n 153 (gd rfl) rfl rfl ?_
          refine g_getA (q2 := 75) 156 (gd rfl) rfl rfl rfl rfl rfl ?_
          refine g_iload_n 157 (gd rfl) rfl rfl ?_
          refine g_aload_n 158 (gd rfl) rfl rfl ?_
          refine g_getA (q2 := 75) 161 (gd rfl) rfl rfl rfl rfl rfl ?_
          refine g_iload 163 (gd rfl) rfl rfl ?_
          refine g_laload 164 (gd rfl) rfl (n := 32) rfl (in_ix i6 rfl) (fun z55 e56 => ?_)
          refine g_aload_n 165 (gd rfl) rfl rfl ?_
          refine g_getA (q2 := 71) 168 (gd rfl) rfl rfl rfl rfl rfl ?_
          refine g_iload_n 169 (gd rfl) rfl rfl ?_
          refine g_iaload 170 (gd rfl) rfl (n := 160) rfl (in_ix h1 rfl) (fun z57 e58 => ?_)
          have q59 : z35 = z57 := (e36).trans e58.symm
          subst q59
          refine g_i2l 171 (gd rfl) rfl (fun z60 e61 => ?_)
          have i62 := l_i e61 i37
          refine g_lsub 172 (gd rfl) rfl (fun z63 e64 => ?_)
          refine g_lastore 173 (gd rfl) rfl (n := 32) rfl (in_ix i3 rfl) ?_
          have hI65 := inv_sL (q := 75) (j := z1.toNatClampNeg) (x := z63) hI
          refine g_aload_n 174 (gd rfl) rfl rfl ?_
          refine g_getA (q2 := 68) 177 (gd rfl) rfl rfl rfl rfl rfl ?_
          refine g_iload_n 178 (gd rfl) rfl rfl ?_
          refine g_iconst 2 179 (gd rfl) rfl rfl ?_
          refine g_iload_n 180 (gd rfl) rfl rfl ?_
          refine g_imul 181 (gd rfl) rfl (fun z66 e67 => ?_)
          have i68 := in_mulc 2 0 318 (Or.inl e67) h1 rfl rfl
          refine g_iconst 1 182 (gd rfl) rfl rfl ?_
          refine g_iadd 183 (gd rfl) rfl (fun z69 e70 => ?_)
          have i71 := in_add 1 319 e70 i68 (in_c 1 rfl) rfl rfl
          refine g_iastore 184 (gd rfl) rfl (n := 32) rfl (in_ix i3 rfl) ?_
          have hI72 := inv_sI (q := 68) (j := z1.toNatClampNeg) hI65 rfl (in_w (-1) 319 i71 rfl)
          refine g_iconst 1 185 (gd rfl) rfl rfl ?_
          exact g_ireturn (gd rfl) rfl (nb01 (in_w 0 1 (in_c 1 rfl) rfl)) (hP _ _ ⟨(sI (sL s 75 z1.toNatClampNeg z63) 68 z1.toNatClampNeg z69), hI72, (Int32.ofInt 1), rfl, rfl, in_w 0 1 (in_c 1 rfl) rfl⟩)
  · skip
    have i73 := r_le2 1 2147483647 c14 h2 (i_rng z12) rfl
    refine g_aload_n 33 (gd rfl) rfl rfl ?_
    refine g_getA (q2 := 75) 36 (gd rfl) rfl rfl rfl rfl rfl ?_
    refine g_iload_n 37 (gd rfl) rfl rfl ?_
    refine g_laload 38 (gd rfl) rfl (n := 32) rfl (in_ix i3 rfl) (fun z74 e75 => ?_)
    refine g_ldc2_w 9223372036854775807 41 (gd rfl) rfl rfl ?_
    refine g_lcmp 42 (gd rfl) rfl (fun z76 e77 => ?_)
    have i78 := lc_in e77
    refine g_if_eq 45 103 (gd rfl) rfl rfl (fun c79 => ?_) (fun c79 => ?_)
    · skip
      have i80 := z_eq 0 0 c79 i78 rfl
      have c81 := lc_eq e77 c79
      have i82 := lr_eq1 9223372036854775807 9223372036854775807 c81 (l_rng z74) (l_c 9223372036854775807 rfl) rfl
      refine g_aload_n 104 (gd rfl) rfl rfl ?_
      refine g_getA (q2 := 73) 107 (gd rfl) rfl rfl rfl rfl rfl ?_
      refine g_iload_n 108 (gd rfl) rfl rfl ?_
      refine g_iaload 109 (gd rfl) rfl (n := 160) rfl (in_ix h1 rfl) (fun z83 e84 => ?_)
      have q85 : z10 = z83 := (e11).trans e84.symm
      subst q85
      refine g_iload_n 110 (gd rfl) rfl rfl ?_
      refine g_cmp_lt 113 186 (gd rfl) rfl rfl (fun c86 => ?_) (fun c86 => ?_)
      · skip
        have i87 := r_lt1 (-2147483648) 1048575 c86 (i_rng z10) h2 rfl
        refine g_iconst 0 187 (gd rfl) rfl rfl ?_
        exact g_ireturn (gd rfl) rfl (nb01 (in_w 0 1 (in_c 0 rfl) rfl)) (hP _ _ ⟨s, hI, (Int32.ofInt 0), rfl, rfl, in_w 0 1 (in_c 0 rfl) rfl⟩)
      · skip
        have i88 := r_le2 1 2147483647 c86 h2 (i_rng z10) rfl
        refine g_aload_n 114 (gd rfl) rfl rfl ?_
        refine g_getA (q2 := 75) 117 (gd rfl) rfl rfl rfl rfl rfl ?_
        refine g_iload 119 (gd rfl) rfl rfl ?_
        refine g_laload 120 (gd rfl) rfl (n := 32) rfl (in_ix i6 rfl) (fun z89 e90 => ?_)
        refine g_ldc2_w 9223372036854775807 123 (gd rfl) rfl rfl ?_
        refine g_lcmp 124 (gd rfl) rfl (fun z91 e92 => ?_)
        have i93 := lc_in e92
        refine g_if_eq 127 186 (gd rfl) rfl rfl (fun c94 => ?_) (fun c94 => ?_)
        · skip
          have i95 := z_eq 0 0 c94 i93 rfl
          have c96 := lc_eq e92 c94
          have i97 := lr_eq1 9223372036854775807 9223372036854775807 c96 (l_rng z89) (l_c 9223372036854775807 rfl) rfl
          refine g_iconst 0 187 (gd rfl) rfl rfl ?_
          exact g_ireturn (gd rfl) rfl (nb01 (in_w 0 1 (in_c 0 rfl) rfl)) (hP _ _ ⟨s, hI, (Int32.ofInt 0), rfl, rfl, in_w 0 1 (in_c 0 rfl) rfl⟩)
        · skip
          have c98 := lc_ne e92 c94
          have i99 := lr_ne1 (-9223372036854775808) 9223372036854775806 c98 (l_rng z89) (l_c 9223372036854775807 rfl) rfl
          refine g_aload_n 128 (gd rfl) rfl rfl ?_
          refine g_getA (q2 := 75) 131 (gd rfl) rfl rfl rfl rfl rfl ?_
          refine g_iload 133 (gd rfl) rfl rfl ?_
          refine g_laload 134 (gd rfl) rfl (n := 32) rfl (in_ix i6 rfl) (fun z100 e101 => ?_)
          refine g_aload_n 135 (gd rfl) rfl rfl ?_
          refine g_getA (q2 := 71) 138 (gd rfl) rfl rfl rfl rfl rfl ?_
          refine g_iload_n 139 (gd rfl) rfl rfl ?_
          refine g_iaload 140 (gd rfl) rfl (n := 160) rfl (in_ix h1 rfl) (fun z102 e103 => ?_)
          have i104 := inv_I hI (n := 160) (t := 0) (-1000000) 1000000 rfl (in_ix h1 rfl) rfl e103
          refine g_i2l 141 (gd rfl) rfl (fun z105 e106 => ?_)
          have i107 := l_i e106 i104
          refine g_lsub 142 (gd rfl) rfl (fun z108 e109 => ?_)
          refine g_aload_n 143 (gd rfl) rfl rfl ?_
          refine g_getA (q2 := 75) 146 (gd rfl) rfl rfl rfl rfl rfl ?_
          refine g_iload_n 147 (gd rfl) rfl rfl ?_
          refine g_laload 148 (gd rfl) rfl (n := 32) rfl (in_ix i3 rfl) (fun z110 e111 => ?_)
          refine g_lcmp 149 (gd rfl) rfl (fun z112 e113 => ?_)
          have i114 := lc_in e113
          refine g_if_ge 152 186 (gd rfl) rfl rfl (fun c115 => ?_) (fun c115 => ?_)
          · skip
            have i116 := z_ge 0 1 c115 i114 rfl
            have c117 := lc_ge e113 c115
            refine g_iconst 0 187 (gd rfl) rfl rfl ?_
            exact g_ireturn (gd rfl) rfl (nb01 (in_w 0 1 (in_c 0 rfl) rfl)) (hP _ _ ⟨s, hI, (Int32.ofInt 0), rfl, rfl, in_w 0 1 (in_c 0 rfl) rfl⟩)
          · skip
            have i118 := z_lt (-1) (-1) c115 i114 rfl
            have c119 := lc_lt e113 c115
            have i120 := lr_lt1 (-9223372036854775808) 9223372036854775806 c119 (l_rng z108) (l_rng z110) rfl
            have i121 := lr_lt2 (-9223372036854775807) 9223372036854775807 c119 (l_rng z108) (l_rng z110) rfl
            refine g_aload_n 153 (gd rfl) rfl rfl ?_
            refine g_getA (q2 := 75) 156 (gd rfl) rfl rfl rfl rfl rfl ?_
            refine g_iload_n 157 (gd rfl) rfl rfl ?_
            refine g_aload_n 158 (gd rfl) rfl rfl ?_
            refine g_getA (q2 := 75) 161 (gd rfl) rfl rfl rfl rfl rfl ?_
            refine g_iload 163 (gd rfl) rfl rfl ?_
            refine g_laload 164 (gd rfl) rfl (n := 32) rfl (in_ix i6 rfl) (fun z122 e123 => ?_)
            refine g_aload_n 165 (gd rfl) rfl rfl ?_
            refine g_getA (q2 := 71) 168 (gd rfl) rfl rfl rfl rfl rfl ?_
            refine g_iload_n 169 (gd rfl) rfl rfl ?_
            refine g_iaload 170 (gd rfl) rfl (n := 160) rfl (in_ix h1 rfl) (fun z124 e125 => ?_)
            have q126 : z102 = z124 := (e103).trans e125.symm
            subst q126
            refine g_i2l 171 (gd rfl) rfl (fun z127 e128 => ?_)
            have i129 := l_i e128 i104
            refine g_lsub 172 (gd rfl) rfl (fun z130 e131 => ?_)
            refine g_lastore 173 (gd rfl) rfl (n := 32) rfl (in_ix i3 rfl) ?_
            have hI132 := inv_sL (q := 75) (j := z1.toNatClampNeg) (x := z130) hI
            refine g_aload_n 174 (gd rfl) rfl rfl ?_
            refine g_getA (q2 := 68) 177 (gd rfl) rfl rfl rfl rfl rfl ?_
            refine g_iload_n 178 (gd rfl) rfl rfl ?_
            refine g_iconst 2 179 (gd rfl) rfl rfl ?_
            refine g_iload_n 180 (gd rfl) rfl rfl ?_
            refine g_imul 181 (gd rfl) rfl (fun z133 e134 => ?_)
            have i135 := in_mulc 2 0 318 (Or.inl e134) h1 rfl rfl
            refine g_iconst 1 182 (gd rfl) rfl rfl ?_
            refine g_iadd 183 (gd rfl) rfl (fun z136 e137 => ?_)
            have i138 := in_add 1 319 e137 i135 (in_c 1 rfl) rfl rfl
            refine g_iastore 184 (gd rfl) rfl (n := 32) rfl (in_ix i3 rfl) ?_
            have hI139 := inv_sI (q := 68) (j := z1.toNatClampNeg) hI132 rfl (in_w (-1) 319 i138 rfl)
            refine g_iconst 1 185 (gd rfl) rfl rfl ?_
            exact g_ireturn (gd rfl) rfl (nb01 (in_w 0 1 (in_c 1 rfl) rfl)) (hP _ _ ⟨(sI (sL s 75 z1.toNatClampNeg z130) 68 z1.toNatClampNeg z136), hI139, (Int32.ofInt 1), rfl, rfl, in_w 0 1 (in_c 1 rfl) rfl⟩)
    · skip
      have c140 := lc_ne e77 c79
      have i141 := lr_ne1 (-9223372036854775808) 9223372036854775806 c140 (l_rng z74) (l_c 9223372036854775807 rfl) rfl
      refine g_aload_n 46 (gd rfl) rfl rfl ?_
      refine g_getA (q2 := 75) 49 (gd rfl) rfl rfl rfl rfl rfl ?_
      refine g_iload_n 50 (gd rfl) rfl rfl ?_
      refine g_laload 51 (gd rfl) rfl (n := 32) rfl (in_ix i3 rfl) (fun z142 e143 => ?_)
      refine g_aload_n 52 (gd rfl) rfl rfl ?_
      refine g_getA (q2 := 71) 55 (gd rfl) rfl rfl rfl rfl rfl ?_
      refine g_iload_n 56 (gd rfl) rfl rfl ?_
      refine g_iaload 57 (gd rfl) rfl (n := 160) rfl (in_ix h1 rfl) (fun z144 e145 => ?_)
      have i146 := inv_I hI (n := 160) (t := 0) (-1000000) 1000000 rfl (in_ix h1 rfl) rfl e145
      refine g_i2l 58 (gd rfl) rfl (fun z147 e148 => ?_)
      have i149 := l_i e148 i146
      refine g_ladd 59 (gd rfl) rfl (fun z150 e151 => ?_)
      refine g_aload_n 60 (gd rfl) rfl rfl ?_
      refine g_getA (q2 := 75) 63 (gd rfl) rfl rfl rfl rfl rfl ?_
      refine g_iload 65 (gd rfl) rfl rfl ?_
      refine g_laload 66 (gd rfl) rfl (n := 32) rfl (in_ix i6 rfl) (fun z152 e153 => ?_)
      refine g_lcmp 67 (gd rfl) rfl (fun z154 e155 => ?_)
      have i156 := lc_in e155
      refine g_if_ge 70 103 (gd rfl) rfl rfl (fun c157 => ?_) (fun c157 => ?_)
      · skip
        have i158 := z_ge 0 1 c157 i156 rfl
        have c159 := lc_ge e155 c157
        refine g_aload_n 104 (gd rfl) rfl rfl ?_
        refine g_getA (q2 := 73) 107 (gd rfl) rfl rfl rfl rfl rfl ?_
        refine g_iload_n 108 (gd rfl) rfl rfl ?_
        refine g_iaload 109 (gd rfl) rfl (n := 160) rfl (in_ix h1 rfl) (fun z160 e161 => ?_)
        have q162 : z10 = z160 := (e11).trans e161.symm
        subst q162
        refine g_iload_n 110 (gd rfl) rfl rfl ?_
        refine g_cmp_lt 113 186 (gd rfl) rfl rfl (fun c163 => ?_) (fun c163 => ?_)
        · skip
          have i164 := r_lt1 (-2147483648) 1048575 c163 (i_rng z10) h2 rfl
          refine g_iconst 0 187 (gd rfl) rfl rfl ?_
          exact g_ireturn (gd rfl) rfl (nb01 (in_w 0 1 (in_c 0 rfl) rfl)) (hP _ _ ⟨s, hI, (Int32.ofInt 0), rfl, rfl, in_w 0 1 (in_c 0 rfl) rfl⟩)
        · skip
          have i165 := r_le2 1 2147483647 c163 h2 (i_rng z10) rfl
          refine g_aload_n 114 (gd rfl) rfl rfl ?_
          refine g_getA (q2 := 75) 117 (gd rfl) rfl rfl rfl rfl rfl ?_
          refine g_iload 119 (gd rfl) rfl rfl ?_
          refine g_laload 120 (gd rfl) rfl (n := 32) rfl (in_ix i6 rfl) (fun z166 e167 => ?_)
          refine g_ldc2_w 9223372036854775807 123 (gd rfl) rfl rfl ?_
          refine g_lcmp 124 (gd rfl) rfl (fun z168 e169 => ?_)
          have i170 := lc_in e169
          refine g_if_eq 127 186 (gd rfl) rfl rfl (fun c171 => ?_) (fun c171 => ?_)
          · skip
            have i172 := z_eq 0 0 c171 i170 rfl
            have c173 := lc_eq e169 c171
            have i174 := lr_eq1 9223372036854775807 9223372036854775807 c173 (l_rng z166) (l_c 9223372036854775807 rfl) rfl
            refine g_iconst 0 187 (gd rfl) rfl rfl ?_
            exact g_ireturn (gd rfl) rfl (nb01 (in_w 0 1 (in_c 0 rfl) rfl)) (hP _ _ ⟨s, hI, (Int32.ofInt 0), rfl, rfl, in_w 0 1 (in_c 0 rfl) rfl⟩)
          · skip
            have c175 := lc_ne e169 c171
            have i176 := lr_ne1 (-9223372036854775808) 9223372036854775806 c175 (l_rng z166) (l_c 9223372036854775807 rfl) rfl
            refine g_aload_n 128 (gd rfl) rfl rfl ?_
            refine g_getA (q2 := 75) 131 (gd rfl) rfl rfl rfl rfl rfl ?_
            refine g_iload 133 (gd rfl) rfl rfl ?_
            refine g_laload 134 (gd rfl) rfl (n := 32) rfl (in_ix i6 rfl) (fun z177 e178 => ?_)
            refine g_aload_n 135 (gd rfl) rfl rfl ?_
            refine g_getA (q2 := 71) 138 (gd rfl) rfl rfl rfl rfl rfl ?_
            refine g_iload_n 139 (gd rfl) rfl rfl ?_
            refine g_iaload 140 (gd rfl) rfl (n := 160) rfl (in_ix h1 rfl) (fun z179 e180 => ?_)
            have q181 : z144 = z179 := (e145).trans e180.symm
            subst q181
            refine g_i2l 141 (gd rfl) rfl (fun z182 e183 => ?_)
            have i184 := l_i e183 i146
            refine g_lsub 142 (gd rfl) rfl (fun z185 e186 => ?_)
            refine g_aload_n 143 (gd rfl) rfl rfl ?_
            refine g_getA (q2 := 75) 146 (gd rfl) rfl rfl rfl rfl rfl ?_
            refine g_iload_n 147 (gd rfl) rfl rfl ?_
            refine g_laload 148 (gd rfl) rfl (n := 32) rfl (in_ix i3 rfl) (fun z187 e188 => ?_)
            refine g_lcmp 149 (gd rfl) rfl (fun z189 e190 => ?_)
            have i191 := lc_in e190
            refine g_if_ge 152 186 (gd rfl) rfl rfl (fun c192 => ?_) (fun c192 => ?_)
            · skip
              have i193 := z_ge 0 1 c192 i191 rfl
              have c194 := lc_ge e190 c192
              refine g_iconst 0 187 (gd rfl) rfl rfl ?_
              exact g_ireturn (gd rfl) rfl (nb01 (in_w 0 1 (in_c 0 rfl) rfl)) (hP _ _ ⟨s, hI, (Int32.ofInt 0), rfl, rfl, in_w 0 1 (in_c 0 rfl) rfl⟩)
            · skip
              have i195 := z_lt (-1) (-1) c192 i191 rfl
              have c196 := lc_lt e190 c192
              have i197 := lr_lt1 (-9223372036854775808) 9223372036854775806 c196 (l_rng z185) (l_rng z187) rfl
              have i198 := lr_lt2 (-9223372036854775807) 9223372036854775807 c196 (l_rng z185) (l_rng z187) rfl
              refine g_aload_n 153 (gd rfl) rfl rfl ?_
              refine g_getA (q2 := 75) 156 (gd rfl) rfl rfl rfl rfl rfl ?_
              refine g_iload_n 157 (gd rfl) rfl rfl ?_
              refine g_aload_n 158 (gd rfl) rfl rfl ?_
              refine g_getA (q2 := 75) 161 (gd rfl) rfl rfl rfl rfl rfl ?_
              refine g_iload 163 (gd rfl) rfl rfl ?_
              refine g_laload 164 (gd rfl) rfl (n := 32) rfl (in_ix i6 rfl) (fun z199 e200 => ?_)
              refine g_aload_n 165 (gd rfl) rfl rfl ?_
              refine g_getA (q2 := 71) 168 (gd rfl) rfl rfl rfl rfl rfl ?_
              refine g_iload_n 169 (gd rfl) rfl rfl ?_
              refine g_iaload 170 (gd rfl) rfl (n := 160) rfl (in_ix h1 rfl) (fun z201 e202 => ?_)
              have q203 : z144 = z201 := (e145).trans e202.symm
              subst q203
              refine g_i2l 171 (gd rfl) rfl (fun z204 e205 => ?_)
              have i206 := l_i e205 i146
              refine g_lsub 172 (gd rfl) rfl (fun z207 e208 => ?_)
              refine g_lastore 173 (gd rfl) rfl (n := 32) rfl (in_ix i3 rfl) ?_
              have hI209 := inv_sL (q := 75) (j := z1.toNatClampNeg) (x := z207) hI
              refine g_aload_n 174 (gd rfl) rfl rfl ?_
              refine g_getA (q2 := 68) 177 (gd rfl) rfl rfl rfl rfl rfl ?_
              refine g_iload_n 178 (gd rfl) rfl rfl ?_
              refine g_iconst 2 179 (gd rfl) rfl rfl ?_
              refine g_iload_n 180 (gd rfl) rfl rfl ?_
              refine g_imul 181 (gd rfl) rfl (fun z210 e211 => ?_)
              have i212 := in_mulc 2 0 318 (Or.inl e211) h1 rfl rfl
              refine g_iconst 1 182 (gd rfl) rfl rfl ?_
              refine g_iadd 183 (gd rfl) rfl (fun z213 e214 => ?_)
              have i215 := in_add 1 319 e214 i212 (in_c 1 rfl) rfl rfl
              refine g_iastore 184 (gd rfl) rfl (n := 32) rfl (in_ix i3 rfl) ?_
              have hI216 := inv_sI (q := 68) (j := z1.toNatClampNeg) hI209 rfl (in_w (-1) 319 i215 rfl)
              refine g_iconst 1 185 (gd rfl) rfl rfl ?_
              exact g_ireturn (gd rfl) rfl (nb01 (in_w 0 1 (in_c 1 rfl) rfl)) (hP _ _ ⟨(sI (sL s 75 z1.toNatClampNeg z207) 68 z1.toNatClampNeg z213), hI216, (Int32.ofInt 1), rfl, rfl, in_w 0 1 (in_c 1 rfl) rfl⟩)
      · skip
        have i217 := z_lt (-1) (-1) c157 i156 rfl
        have c218 := lc_lt e155 c157
        have i219 := lr_lt1 (-9223372036854775808) 9223372036854775806 c218 (l_rng z150) (l_rng z152) rfl
        have i220 := lr_lt2 (-9223372036854775807) 9223372036854775807 c218 (l_rng z150) (l_rng z152) rfl
        refine g_aload_n 71 (gd rfl) rfl rfl ?_
        refine g_getA (q2 := 75) 74 (gd rfl) rfl rfl rfl rfl rfl ?_
        refine g_iload 76 (gd rfl) rfl rfl ?_
        refine g_aload_n 77 (gd rfl) rfl rfl ?_
        refine g_getA (q2 := 75) 80 (gd rfl) rfl rfl rfl rfl rfl ?_
        refine g_iload_n 81 (gd rfl) rfl rfl ?_
        refine g_laload 82 (gd rfl) rfl (n := 32) rfl (in_ix i3 rfl) (fun z221 e222 => ?_)
        refine g_aload_n 83 (gd rfl) rfl rfl ?_
        refine g_getA (q2 := 71) 86 (gd rfl) rfl rfl rfl rfl rfl ?_
        refine g_iload_n 87 (gd rfl) rfl rfl ?_
        refine g_iaload 88 (gd rfl) rfl (n := 160) rfl (in_ix h1 rfl) (fun z223 e224 => ?_)
        have q225 : z144 = z223 := (e145).trans e224.symm
        subst q225
        refine g_i2l 89 (gd rfl) rfl (fun z226 e227 => ?_)
        have i228 := l_i e227 i146
        refine g_ladd 90 (gd rfl) rfl (fun z229 e230 => ?_)
        refine g_lastore 91 (gd rfl) rfl (n := 32) rfl (in_ix i6 rfl) ?_
        have hI231 := inv_sL (q := 75) (j := z4.toNatClampNeg) (x := z229) hI
        refine g_aload_n 92 (gd rfl) rfl rfl ?_
        refine g_getA (q2 := 68) 95 (gd rfl) rfl rfl rfl rfl rfl ?_
        refine g_iload 97 (gd rfl) rfl rfl ?_
        refine g_iconst 2 98 (gd rfl) rfl rfl ?_
        refine g_iload_n 99 (gd rfl) rfl rfl ?_
        refine g_imul 100 (gd rfl) rfl (fun z232 e233 => ?_)
        have i234 := in_mulc 2 0 318 (Or.inl e233) h1 rfl rfl
        refine g_iastore 101 (gd rfl) rfl (n := 32) rfl (in_ix i6 rfl) ?_
        have hI235 := inv_sI (q := 68) (j := z4.toNatClampNeg) hI231 rfl (in_w (-1) 319 i234 rfl)
        refine g_iconst 1 102 (gd rfl) rfl rfl ?_
        exact g_ireturn (gd rfl) rfl (nb01 (in_w 0 1 (in_c 1 rfl) rfl)) (hP _ _ ⟨(sI (sL s 75 z4.toNatClampNeg z229) 68 z4.toNatClampNeg z232), hI235, (Int32.ofInt 1), rfl, rfl, in_w 0 1 (in_c 1 rfl) rfl⟩)

/-- GraphHouse$Graph.copyOf -/
theorem k_93_2_16 {Z : AmZ} {A : Nat → Nat} {s : GS} {ex : va_W} {d : Nat} {X : AmX}  (hd : 1 ≤ d) (hI : Inv s)  : GC Z d 93 [.ref (A 2), .ref (A 16)] (WW Z A s ++ ex) 0 0 (fun v u => ∃ t : GS, Inv t ∧ v = none ∧ u = WW Z A t ++ ex) X := by
  intro post xp hP hX
  refine g_enter2 (k := 93) (N := 900) (by omega) rfl (Nat.le_of_ble_eq_true rfl) ?_
  refine g_aload_n 1 (gd rfl) rfl rfl ?_
  refine g_aload_n 2 (gd rfl) rfl rfl ?_
  refine g_getI 5 (gd rfl) rfl rfl rfl (fun z1 e2 => ?_)
  have i3 := inv_F hI 0 4000 rfl e2
  refine g_putI 8 (gd rfl) rfl rfl rfl rfl ?_
  have hI4 := inv_sF (q := 2) (j := 0) hI rfl (in_w 0 4000 i3 rfl)
  refine g_aload_n 9 (gd rfl) rfl rfl ?_
  refine g_aload_n 10 (gd rfl) rfl rfl ?_
  refine g_getI 13 (gd rfl) rfl rfl rfl (fun z5 e6 => ?_)
  have i7 := inv_F hI4 0 32 rfl e6
  refine g_putI 16 (gd rfl) rfl rfl rfl rfl ?_
  have hI8 := inv_sF (q := 2) (j := 1) hI4 rfl (in_w 0 32 i7 rfl)
  refine g_aload_n 17 (gd rfl) rfl rfl ?_
  refine g_aload_n 18 (gd rfl) rfl rfl ?_
  refine g_getI 21 (gd rfl) rfl rfl rfl (fun z9 e10 => ?_)
  have i11 := inv_F hI8 0 160 rfl e10
  refine g_putI 24 (gd rfl) rfl rfl rfl rfl ?_
  have hI12 := inv_sF (q := 2) (j := 2) hI8 rfl (in_w 0 160 i11 rfl)
  refine g_aload_n 25 (gd rfl) rfl rfl ?_
  refine g_aload_n 26 (gd rfl) rfl rfl ?_
  refine g_getI 29 (gd rfl) rfl rfl rfl (fun z13 e14 => ?_)
  have i15 := inv_F hI12 0 160 rfl e14
  refine g_putI 32 (gd rfl) rfl rfl rfl rfl ?_
  have hI16 := inv_sF (q := 2) (j := 3) hI12 rfl (in_w 0 160 i15 rfl)
  refine g_aload_n 33 (gd rfl) rfl rfl ?_
  refine g_iconst (-1) 34 (gd rfl) rfl rfl ?_
  refine g_putI 37 (gd rfl) rfl rfl rfl rfl ?_
  have hI17 := inv_sF (q := 2) (j := 4) hI16 rfl (in_w (-1) 4000 (in_c (-1) rfl) rfl)
  refine g_aload_n 38 (gd rfl) rfl rfl ?_
  refine g_getA (q2 := 17) 41 (gd rfl) rfl rfl rfl rfl rfl ?_
  refine g_iconst 0 42 (gd rfl) rfl rfl ?_
  refine g_aload_n 43 (gd rfl) rfl rfl ?_
  refine g_getA (q2 := 3) 46 (gd rfl) rfl rfl rfl rfl rfl ?_
  refine g_iconst 0 47 (gd rfl) rfl rfl ?_
  refine g_bipush 32 49 (gd rfl) rfl rfl ?_
  refine g_copyI (n0 := 32) (n1 := 32) 52 (gd rfl) rfl rfl rfl rfl (Nat.le_of_ble_eq_true rfl) (cp_0 (in_c 0 rfl) rfl) (cp_0 (in_c 0 rfl) rfl) (cp_0 (in_c 32 rfl) rfl) (cp_1 (in_c 0 rfl) (in_c 32 rfl) rfl) (cp_1 (in_c 0 rfl) (in_c 32 rfl) rfl) ?_
  have hI18 := inv_cpy (q := 3) (q2 := 17) (n0 := 32) (n1 := 32) (sp := (Int32.ofInt 0).toNatClampNeg) (dp := (Int32.ofInt 0).toNatClampNeg) (n := (Int32.ofInt 32).toNatClampNeg) hI17 rfl rfl (cp_2 (in_c 0 rfl) (in_c 32 rfl) rfl) rfl rfl rfl
  refine g_aload_n 53 (gd rfl) rfl rfl ?_
  refine g_getA (q2 := 18) 56 (gd rfl) rfl rfl rfl rfl rfl ?_
  refine g_iconst 0 57 (gd rfl) rfl rfl ?_
  refine g_aload_n 58 (gd rfl) rfl rfl ?_
  refine g_getA (q2 := 4) 61 (gd rfl) rfl rfl rfl rfl rfl ?_
  refine g_iconst 0 62 (gd rfl) rfl rfl ?_
  refine g_sipush 160 65 (gd rfl) rfl rfl ?_
  refine g_copyI (n0 := 160) (n1 := 160) 68 (gd rfl) rfl rfl rfl rfl (Nat.le_of_ble_eq_true rfl) (cp_0 (in_c 0 rfl) rfl) (cp_0 (in_c 0 rfl) rfl) (cp_0 (in_c 160 rfl) rfl) (cp_1 (in_c 0 rfl) (in_c 160 rfl) rfl) (cp_1 (in_c 0 rfl) (in_c 160 rfl) rfl) ?_
  have hI19 := inv_cpy (q := 4) (q2 := 18) (n0 := 160) (n1 := 160) (sp := (Int32.ofInt 0).toNatClampNeg) (dp := (Int32.ofInt 0).toNatClampNeg) (n := (Int32.ofInt 160).toNatClampNeg) hI18 rfl rfl (cp_2 (in_c 0 rfl) (in_c 160 rfl) rfl) rfl rfl rfl
  refine g_aload_n 69 (gd rfl) rfl rfl ?_
  refine g_getA (q2 := 19) 72 (gd rfl) rfl rfl rfl rfl rfl ?_
  refine g_iconst 0 73 (gd rfl) rfl rfl ?_
  refine g_aload_n 74 (gd rfl) rfl rfl ?_
  refine g_getA (q2 := 5) 77 (gd rfl) rfl rfl rfl rfl rfl ?_
  refine g_iconst 0 78 (gd rfl) rfl rfl ?_
  refine g_sipush 160 81 (gd rfl) rfl rfl ?_
  refine g_copyI (n0 := 160) (n1 := 160) 84 (gd rfl) rfl rfl rfl rfl (Nat.le_of_ble_eq_true rfl) (cp_0 (in_c 0 rfl) rfl) (cp_0 (in_c 0 rfl) rfl) (cp_0 (in_c 160 rfl) rfl) (cp_1 (in_c 0 rfl) (in_c 160 rfl) rfl) (cp_1 (in_c 0 rfl) (in_c 160 rfl) rfl) ?_
  have hI20 := inv_cpy (q := 5) (q2 := 19) (n0 := 160) (n1 := 160) (sp := (Int32.ofInt 0).toNatClampNeg) (dp := (Int32.ofInt 0).toNatClampNeg) (n := (Int32.ofInt 160).toNatClampNeg) hI19 rfl rfl (cp_2 (in_c 0 rfl) (in_c 160 rfl) rfl) rfl rfl rfl
  refine g_aload_n 85 (gd rfl) rfl rfl ?_
  refine g_getA (q2 := 20) 88 (gd rfl) rfl rfl rfl rfl rfl ?_
  refine g_iconst 0 89 (gd rfl) rfl rfl ?_
  refine g_aload_n 90 (gd rfl) rfl rfl ?_
  refine g_getA (q2 := 6) 93 (gd rfl) rfl rfl rfl rfl rfl ?_
  refine g_iconst 0 94 (gd rfl) rfl rfl ?_
  refine g_sipush 160 97 (gd rfl) rfl rfl ?_
  refine g_copyI (n0 := 160) (n1 := 160) 100 (gd rfl) rfl rfl rfl rfl (Nat.le_of_ble_eq_true rfl) (cp_0 (in_c 0 rfl) rfl) (cp_0 (in_c 0 rfl) rfl) (cp_0 (in_c 160 rfl) rfl) (cp_1 (in_c 0 rfl) (in_c 160 rfl) rfl) (cp_1 (in_c 0 rfl) (in_c 160 rfl) rfl) ?_
  have hI21 := inv_cpy (q := 6) (q2 := 20) (n0 := 160) (n1 := 160) (sp := (Int32.ofInt 0).toNatClampNeg) (dp := (Int32.ofInt 0).toNatClampNeg) (n := (Int32.ofInt 160).toNatClampNeg) hI20 rfl rfl (cp_2 (in_c 0 rfl) (in_c 160 rfl) rfl) rfl rfl rfl
  refine g_aload_n 101 (gd rfl) rfl rfl ?_
  refine g_getA (q2 := 21) 104 (gd rfl) rfl rfl rfl rfl rfl ?_
  refine g_iconst 0 105 (gd rfl) rfl rfl ?_
  refine g_aload_n 106 (gd rfl) rfl rfl ?_
  refine g_getA (q2 := 7) 109 (gd rfl) rfl rfl rfl rfl rfl ?_
  refine g_iconst 0 110 (gd rfl) rfl rfl ?_
  refine g_sipush 160 113 (gd rfl) rfl rfl ?_
  refine g_copyI (n0 := 160) (n1 := 160) 116 (gd rfl) rfl rfl rfl rfl (Nat.le_of_ble_eq_true rfl) (cp_0 (in_c 0 rfl) rfl) (cp_0 (in_c 0 rfl) rfl) (cp_0 (in_c 160 rfl) rfl) (cp_1 (in_c 0 rfl) (in_c 160 rfl) rfl) (cp_1 (in_c 0 rfl) (in_c 160 rfl) rfl) ?_
  have hI22 := inv_cpy (q := 7) (q2 := 21) (n0 := 160) (n1 := 160) (sp := (Int32.ofInt 0).toNatClampNeg) (dp := (Int32.ofInt 0).toNatClampNeg) (n := (Int32.ofInt 160).toNatClampNeg) hI21 rfl rfl (cp_2 (in_c 0 rfl) (in_c 160 rfl) rfl) rfl rfl rfl
  refine g_aload_n 117 (gd rfl) rfl rfl ?_
  refine g_getA (q2 := 22) 120 (gd rfl) rfl rfl rfl rfl rfl ?_
  refine g_iconst 0 121 (gd rfl) rfl rfl ?_
  refine g_aload_n 122 (gd rfl) rfl rfl ?_
  refine g_getA (q2 := 8) 125 (gd rfl) rfl rfl rfl rfl rfl ?_
  refine g_iconst 0 126 (gd rfl) rfl rfl ?_
  refine g_sipush 160 129 (gd rfl) rfl rfl ?_
  refine g_copyI (n0 := 160) (n1 := 160) 132 (gd rfl) rfl rfl rfl rfl (Nat.le_of_ble_eq_true rfl) (cp_0 (in_c 0 rfl) rfl) (cp_0 (in_c 0 rfl) rfl) (cp_0 (in_c 160 rfl) rfl) (cp_1 (in_c 0 rfl) (in_c 160 rfl) rfl) (cp_1 (in_c 0 rfl) (in_c 160 rfl) rfl) ?_
  have hI23 := inv_cpy (q := 8) (q2 := 22) (n0 := 160) (n1 := 160) (sp := (Int32.ofInt 0).toNatClampNeg) (dp := (Int32.ofInt 0).toNatClampNeg) (n := (Int32.ofInt 160).toNatClampNeg) hI22 rfl rfl (cp_2 (in_c 0 rfl) (in_c 160 rfl) rfl) rfl rfl rfl
  exact g_return (gd rfl) rfl (hP _ _ ⟨(sA (sA (sA (sA (sA (sA (sF (sF (sF (sF (sF s 2 0 z1) 2 1 z5) 2 2 z9) 2 3 z13) 2 4 (Int32.ofInt (-1))) 3 (va_cpy ((sF (sF (sF (sF (sF s 2 0 z1) 2 1 z5) 2 2 z9) 2 3 z13) 2 4 (Int32.ofInt (-1))).1 17) ((sF (sF (sF (sF (sF s 2 0 z1) 2 1 z5) 2 2 z9) 2 3 z13) 2 4 (Int32.ofInt (-1))).1 3) (Int32.ofInt 0).toNatClampNeg (Int32.ofInt 0).toNatClampNeg (Int32.ofInt 32).toNatClampNeg)) 4 (va_cpy ((sA (sF (sF (sF (sF (sF s 2 0 z1) 2 1 z5) 2 2 z9) 2 3 z13) 2 4 (Int32.ofInt (-1))) 3 (va_cpy ((sF (sF (sF (sF (sF s 2 0 z1) 2 1 z5) 2 2 z9) 2 3 z13) 2 4 (Int32.ofInt (-1))).1 17) ((sF (sF (sF (sF (sF s 2 0 z1) 2 1 z5) 2 2 z9) 2 3 z13) 2 4 (Int32.ofInt (-1))).1 3) (Int32.ofInt 0).toNatClampNeg (Int32.ofInt 0).toNatClampNeg (Int32.ofInt 32).toNatClampNeg)).1 18) ((sA (sF (sF (sF (sF (sF s 2 0 z1) 2 1 z5) 2 2 z9) 2 3 z13) 2 4 (Int32.ofInt (-1))) 3 (va_cpy ((sF (sF (sF (sF (sF s 2 0 z1) 2 1 z5) 2 2 z9) 2 3 z13) 2 4 (Int32.ofInt (-1))).1 17) ((sF (sF (sF (sF (sF s 2 0 z1) 2 1 z5) 2 2 z9) 2 3 z13) 2 4 (Int32.ofInt (-1))).1 3) (Int32.ofInt 0).toNatClampNeg (Int32.ofInt 0).toNatClampNeg (Int32.ofInt 32).toNatClampNeg)).1 4) (Int32.ofInt 0).toNatClampNeg (Int32.ofInt 0).toNatClampNeg (Int32.ofInt 160).toNatClampNeg)) 5 (va_cpy ((sA (sA (sF (sF (sF (sF (sF s 2 0 z1) 2 1 z5) 2 2 z9) 2 3 z13) 2 4 (Int32.ofInt (-1))) 3 (va_cpy ((sF (sF (sF (sF (sF s 2 0 z1) 2 1 z5) 2 2 z9) 2 3 z13) 2 4 (Int32.ofInt (-1))).1 17) ((sF (sF (sF (sF (sF s 2 0 z1) 2 1 z5) 2 2 z9) 2 3 z13) 2 4 (Int32.ofInt (-1))).1 3) (Int32.ofInt 0).toNatClampNeg (Int32.ofInt 0).toNatClampNeg (Int32.ofInt 32).toNatClampNeg)) 4 (va_cpy ((sA (sF (sF (sF (sF (sF s 2 0 z1) 2 1 z5) 2 2 z9) 2 3 z13) 2 4 (Int32.ofInt (-1))) 3 (va_cpy ((sF (sF (sF (sF (sF s 2 0 z1) 2 1 z5) 2 2 z9) 2 3 z13) 2 4 (Int32.ofInt (-1))).1 17) ((sF (sF (sF (sF (sF s 2 0 z1) 2 1 z5) 2 2 z9) 2 3 z13) 2 4 (Int32.ofInt (-1))).1 3) (Int32.ofInt 0).toNatClampNeg (Int32.ofInt 0).toNatClampNeg (Int32.ofInt 32).toNatClampNeg)).1 18) ((sA (sF (sF (sF (sF (sF s 2 0 z1) 2 1 z5) 2 2 z9) 2 3 z13) 2 4 (Int32.ofInt (-1))) 3 (va_cpy ((sF (sF (sF (sF (sF s 2 0 z1) 2 1 z5) 2 2 z9) 2 3 z13) 2 4 (Int32.ofInt (-1))).1 17) ((sF (sF (sF (sF (sF s 2 0 z1) 2 1 z5) 2 2 z9) 2 3 z13) 2 4 (Int32.ofInt (-1))).1 3) (Int32.ofInt 0).toNatClampNeg (Int32.ofInt 0).toNatClampNeg (Int32.ofInt 32).toNatClampNeg)).1 4) (Int32.ofInt 0).toNatClampNeg (Int32.ofInt 0).toNatClampNeg (Int32.ofInt 160).toNatClampNeg)).1 19) ((sA (sA (sF (sF (sF (sF (sF s 2 0 z1) 2 1 z5) 2 2 z9) 2 3 z13) 2 4 (Int32.ofInt (-1))) 3 (va_cpy ((sF (sF (sF (sF (sF s 2 0 z1) 2 1 z5) 2 2 z9) 2 3 z13) 2 4 (Int32.ofInt (-1))).1 17) ((sF (sF (sF (sF (sF s 2 0 z1) 2 1 z5) 2 2 z9) 2 3 z13) 2 4 (Int32.ofInt (-1))).1 3) (Int32.ofInt 0).toNatClampNeg (Int32.ofInt 0).toNatClampNeg (Int32.ofInt 32).toNatClampNeg)) 4 (va_cpy ((sA (sF (sF (sF (sF (sF s 2 0 z1) 2 1 z5) 2 2 z9) 2 3 z13) 2 4 (Int32.ofInt (-1))) 3 (va_cpy ((sF (sF (sF (sF (sF s 2 0 z1) 2 1 z5) 2 2 z9) 2 3 z13) 2 4 (Int32.ofInt (-1))).1 17) ((sF (sF (sF (sF (sF s 2 0 z1) 2 1 z5) 2 2 z9) 2 3 z13) 2 4 (Int32.ofInt (-1))).1 3) (Int32.ofInt 0).toNatClampNeg (Int32.ofInt 0).toNatClampNeg (Int32.ofInt 32).toNatClampNeg)).1 18) ((sA (sF (sF (sF (sF (sF s 2 0 z1) 2 1 z5) 2 2 z9) 2 3 z13) 2 4 (Int32.ofInt (-1))) 3 (va_cpy ((sF (sF (sF (sF (sF s 2 0 z1) 2 1 z5) 2 2 z9) 2 3 z13) 2 4 (Int32.ofInt (-1))).1 17) ((sF (sF (sF (sF (sF s 2 0 z1) 2 1 z5) 2 2 z9) 2 3 z13) 2 4 (Int32.ofInt (-1))).1 3) (Int32.ofInt 0).toNatClampNeg (Int32.ofInt 0).toNatClampNeg (Int32.ofInt 32).toNatClampNeg)).1 4) (Int32.ofInt 0).toNatClampNeg (Int32.ofInt 0).toNatClampNeg (Int32.ofInt 160).toNatClampNeg)).1 5) (Int32.ofInt 0).toNatClampNeg (Int32.ofInt 0).toNatClampNeg (Int32.ofInt 160).toNatClampNeg)) 6 (va_cpy ((sA (sA (sA (sF (sF (sF (sF (sF s 2 0 z1) 2 1 z5) 2 2 z9) 2 3 z13) 2 4 (Int32.ofInt (-1))) 3 (va_cpy ((sF (sF (sF (sF (sF s 2 0 z1) 2 1 z5) 2 2 z9) 2 3 z13) 2 4 (Int32.ofInt (-1))).1 17) ((sF (sF (sF (sF (sF s 2 0 z1) 2 1 z5) 2 2 z9) 2 3 z13) 2 4 (Int32.ofInt (-1))).1 3) (Int32.ofInt 0).toNatClampNeg (Int32.ofInt 0).toNatClampNeg (Int32.ofInt 32).toNatClampNeg)) 4 (va_cpy ((sA (sF (sF (sF (sF (sF s 2 0 z1) 2 1 z5) 2 2 z9) 2 3 z13) 2 4 (Int32.ofInt (-1))) 3 (va_cpy ((sF (sF (sF (sF (sF s 2 0 z1) 2 1 z5) 2 2 z9) 2 3 z13) 2 4 (Int32.ofInt (-1))).1 17) ((sF (sF (sF (sF (sF s 2 0 z1) 2 1 z5) 2 2 z9) 2 3 z13) 2 4 (Int32.ofInt (-1))).1 3) (Int32.ofInt 0).toNatClampNeg (Int32.ofInt 0).toNatClampNeg (Int32.ofInt 32).toNatClampNeg)).1 18) ((sA (sF (sF (sF (sF (sF s 2 0 z1) 2 1 z5) 2 2 z9) 2 3 z13) 2 4 (Int32.ofInt (-1))) 3 (va_cpy ((sF (sF (sF (sF (sF s 2 0 z1) 2 1 z5) 2 2 z9) 2 3 z13) 2 4 (Int32.ofInt (-1))).1 17) ((sF (sF (sF (sF (sF s 2 0 z1) 2 1 z5) 2 2 z9) 2 3 z13) 2 4 (Int32.ofInt (-1))).1 3) (Int32.ofInt 0).toNatClampNeg (Int32.ofInt 0).toNatClampNeg (Int32.ofInt 32).toNatClampNeg)).1 4) (Int32.ofInt 0).toNatClampNeg (Int32.ofInt 0).toNatClampNeg (Int32.ofInt 160).toNatClampNeg)) 5 (va_cpy ((sA (sA (sF (sF (sF (sF (sF s 2 0 z1) 2 1 z5) 2 2 z9) 2 3 z13) 2 4 (Int32.ofInt (-1))) 3 (va_cpy ((sF (sF (sF (sF (sF s 2 0 z1) 2 1 z5) 2 2 z9) 2 3 z13) 2 4 (Int32.ofInt (-1))).1 17) ((sF (sF (sF (sF (sF s 2 0 z1) 2 1 z5) 2 2 z9) 2 3 z13) 2 4 (Int32.ofInt (-1))).1 3) (Int32.ofInt 0).toNatClampNeg (Int32.ofInt 0).toNatClampNeg (Int32.ofInt 32).toNatClampNeg)) 4 (va_cpy ((sA (sF (sF (sF (sF (sF s 2 0 z1) 2 1 z5) 2 2 z9) 2 3 z13) 2 4 (Int32.ofInt (-1))) 3 (va_cpy ((sF (sF (sF (sF (sF s 2 0 z1) 2 1 z5) 2 2 z9) 2 3 z13) 2 4 (Int32.ofInt (-1))).1 17) ((sF (sF (sF (sF (sF s 2 0 z1) 2 1 z5) 2 2 z9) 2 3 z13) 2 4 (Int32.ofInt (-1))).1 3) (Int32.ofInt 0).toNatClampNeg (Int32.ofInt 0).toNatClampNeg (Int32.ofInt 32).toNatClampNeg)).1 18) ((sA (sF (sF (sF (sF (sF s 2 0 z1) 2 1 z5) 2 2 z9) 2 3 z13) 2 4 (Int32.ofInt (-1))) 3 (va_cpy ((sF (sF (sF (sF (sF s 2 0 z1) 2 1 z5) 2 2 z9) 2 3 z13) 2 4 (Int32.ofInt (-1))).1 17) ((sF (sF (sF (sF (sF s 2 0 z1) 2 1 z5) 2 2 z9) 2 3 z13) 2 4 (Int32.ofInt (-1))).1 3) (Int32.ofInt 0).toNatClampNeg (Int32.ofInt 0).toNatClampNeg (Int32.ofInt 32).toNatClampNeg)).1 4) (Int32.ofInt 0).toNatClampNeg (Int32.ofInt 0).toNatClampNeg (Int32.ofInt 160).toNatClampNeg)).1 19) ((sA (sA (sF (sF (sF (sF (sF s 2 0 z1) 2 1 z5) 2 2 z9) 2 3 z13) 2 4 (Int32.ofInt (-1))) 3 (va_cpy ((sF (sF (sF (sF (sF s 2 0 z1) 2 1 z5) 2 2 z9) 2 3 z13) 2 4 (Int32.ofInt (-1))).1 17) ((sF (sF (sF (sF (sF s 2 0 z1) 2 1 z5) 2 2 z9) 2 3 z13) 2 4 (Int32.ofInt (-1))).1 3) (Int32.ofInt 0).toNatClampNeg (Int32.ofInt 0).toNatClampNeg (Int32.ofInt 32).toNatClampNeg)) 4 (va_cpy ((sA (sF (sF (sF (sF (sF s 2 0 z1) 2 1 z5) 2 2 z9) 2 3 z13) 2 4 (Int32.ofInt (-1))) 3 (va_cpy ((sF (sF (sF (sF (sF s 2 0 z1) 2 1 z5) 2 2 z9) 2 3 z13) 2 4 (Int32.ofInt (-1))).1 17) ((sF (sF (sF (sF (sF s 2 0 z1) 2 1 z5) 2 2 z9) 2 3 z13) 2 4 (Int32.ofInt (-1))).1 3) (Int32.ofInt 0).toNatClampNeg (Int32.ofInt 0).toNatClampNeg (Int32.ofInt 32).toNatClampNeg)).1 18) ((sA (sF (sF (sF (sF (sF s 2 0 z1) 2 1 z5) 2 2 z9) 2 3 z13) 2 4 (Int32.ofInt (-1))) 3 (va_cpy ((sF (sF (sF (sF (sF s 2 0 z1) 2 1 z5) 2 2 z9) 2 3 z13) 2 4 (Int32.ofInt (-1))).1 17) ((sF (sF (sF (sF (sF s 2 0 z1) 2 1 z5) 2 2 z9) 2 3 z13) 2 4 (Int32.ofInt (-1))).1 3) (Int32.ofInt 0).toNatClampNeg (Int32.ofInt 0).toNatClampNeg (Int32.ofInt 32).toNatClampNeg)).1 4) (Int32.ofInt 0).toNatClampNeg (Int32.ofInt 0).toNatClampNeg (Int32.ofInt 160).toNatClampNeg)).1 5) (Int32.ofInt 0).toNatClampNeg (Int32.ofInt 0).toNatClampNeg (Int32.ofInt 160).toNatClampNeg)).1 20) ((sA (sA (sA (sF (sF (sF (sF (sF s 2 0 z1) 2 1 z5) 2 2 z9) 2 3 z13) 2 4 (Int32.ofInt (-1))) 3 (va_cpy ((sF (sF (sF (sF (sF s 2 0 z1) 2 1 z5) 2 2 z9) 2 3 z13) 2 4 (Int32.ofInt (-1))).1 17) ((sF (sF (sF (sF (sF s 2 0 z1) 2 1 z5) 2 2 z9) 2 3 z13) 2 4 (Int32.ofInt (-1))).1 3) (Int32.ofInt 0).toNatClampNeg (Int32.ofInt 0).toNatClampNeg (Int32.ofInt 32).toNatClampNeg)) 4 (va_cpy ((sA (sF (sF (sF (sF (sF s 2 0 z1) 2 1 z5) 2 2 z9) 2 3 z13) 2 4 (Int32.ofInt (-1))) 3 (va_cpy ((sF (sF (sF (sF (sF s 2 0 z1) 2 1 z5) 2 2 z9) 2 3 z13) 2 4 (Int32.ofInt (-1))).1 17) ((sF (sF (sF (sF (sF s 2 0 z1) 2 1 z5) 2 2 z9) 2 3 z13) 2 4 (Int32.ofInt (-1))).1 3) (Int32.ofInt 0).toNatClampNeg (Int32.ofInt 0).toNatClampNeg (Int32.ofInt 32).toNatClampNeg)).1 18) ((sA (sF (sF (sF (sF (sF s 2 0 z1) 2 1 z5) 2 2 z9) 2 3 z13) 2 4 (Int32.ofInt (-1))) 3 (va_cpy ((sF (sF (sF (sF (sF s 2 0 z1) 2 1 z5) 2 2 z9) 2 3 z13) 2 4 (Int32.ofInt (-1))).1 17) ((sF (sF (sF (sF (sF s 2 0 z1) 2 1 z5) 2 2 z9) 2 3 z13) 2 4 (Int32.ofInt (-1))).1 3) (Int32.ofInt 0).toNatClampNeg (Int32.ofInt 0).toNatClampNeg (Int32.ofInt 32).toNatClampNeg)).1 4) (Int32.ofInt 0).toNatClampNeg (Int32.ofInt 0).toNatClampNeg (Int32.ofInt 160).toNatClampNeg)) 5 (va_cpy ((sA (sA (sF (sF (sF (sF (sF s 2 0 z1) 2 1 z5) 2 2 z9) 2 3 z13) 2 4 (Int32.ofInt (-1))) 3 (va_cpy ((sF (sF (sF (sF (sF s 2 0 z1) 2 1 z5) 2 2 z9) 2 3 z13) 2 4 (Int32.ofInt (-1))).1 17) ((sF (sF (sF (sF (sF s 2 0 z1) 2 1 z5) 2 2 z9) 2 3 z13) 2 4 (Int32.ofInt (-1))).1 3) (Int32.ofInt 0).toNatClampNeg (Int32.ofInt 0).toNatClampNeg (Int32.ofInt 32).toNatClampNeg)) 4 (va_cpy ((sA (sF (sF (sF (sF (sF s 2 0 z1) 2 1 z5) 2 2 z9) 2 3 z13) 2 4 (Int32.ofInt (-1))) 3 (va_cpy ((sF (sF (sF (sF (sF s 2 0 z1) 2 1 z5) 2 2 z9) 2 3 z13) 2 4 (Int32.ofInt (-1))).1 17) ((sF (sF (sF (sF (sF s 2 0 z1) 2 1 z5) 2 2 z9) 2 3 z13) 2 4 (Int32.ofInt (-1))).1 3) (Int32.ofInt 0).toNatClampNeg (Int32.ofInt 0).toNatClampNeg (Int32.ofInt 32).toNatClampNeg)).1 18) ((sA (sF (sF (sF (sF (sF s 2 0 z1) 2 1 z5) 2 2 z9) 2 3 z13) 2 4 (Int32.ofInt (-1))) 3 (va_cpy ((sF (sF (sF (sF (sF s 2 0 z1) 2 1 z5) 2 2 z9) 2 3 z13) 2 4 (Int32.ofInt (-1))).1 17) ((sF (sF (sF (sF (sF s 2 0 z1) 2 1 z5) 2 2 z9) 2 3 z13) 2 4 (Int32.ofInt (-1))).1 3) (Int32.ofInt 0).toNatClampNeg (Int32.ofInt 0).toNatClampNeg (Int32.ofInt 32).toNatClampNeg)).1 4) (Int32.ofInt 0).toNatClampNeg (Int32.ofInt 0).toNatClampNeg (Int32.ofInt 160).toNatClampNeg)).1 19) ((sA (sA (sF (sF (sF (sF (sF s 2 0 z1) 2 1 z5) 2 2 z9) 2 3 z13) 2 4 (Int32.ofInt (-1))) 3 (va_cpy ((sF (sF (sF (sF (sF s 2 0 z1) 2 1 z5) 2 2 z9) 2 3 z13) 2 4 (Int32.ofInt (-1))).1 17) ((sF (sF (sF (sF (sF s 2 0 z1) 2 1 z5) 2 2 z9) 2 3 z13) 2 4 (Int32.ofInt (-1))).1 3) (Int32.ofInt 0).toNatClampNeg (Int32.ofInt 0).toNatClampNeg (Int32.ofInt 32).toNatClampNeg)) 4 (va_cpy ((sA (sF (sF (sF (sF (sF s 2 0 z1) 2 1 z5) 2 2 z9) 2 3 z13) 2 4 (Int32.ofInt (-1))) 3 (va_cpy ((sF (sF (sF (sF (sF s 2 0 z1) 2 1 z5) 2 2 z9) 2 3 z13) 2 4 (Int32.ofInt (-1))).1 17) ((sF (sF (sF (sF (sF s 2 0 z1) 2 1 z5) 2 2 z9) 2 3 z13) 2 4 (Int32.ofInt (-1))).1 3) (Int32.ofInt 0).toNatClampNeg (Int32.ofInt 0).toNatClampNeg (Int32.ofInt 32).toNatClampNeg)).1 18) ((sA (sF (sF (sF (sF (sF s 2 0 z1) 2 1 z5) 2 2 z9) 2 3 z13) 2 4 (Int32.ofInt (-1))) 3 (va_cpy ((sF (sF (sF (sF (sF s 2 0 z1) 2 1 z5) 2 2 z9) 2 3 z13) 2 4 (Int32.ofInt (-1))).1 17) ((sF (sF (sF (sF (sF s 2 0 z1) 2 1 z5) 2 2 z9) 2 3 z13) 2 4 (Int32.ofInt (-1))).1 3) (Int32.ofInt 0).toNatClampNeg (Int32.ofInt 0).toNatClampNeg (Int32.ofInt 32).toNatClampNeg)).1 4) (Int32.ofInt 0).toNatClampNeg (Int32.ofInt 0).toNatClampNeg (Int32.ofInt 160).toNatClampNeg)).1 5) (Int32.ofInt 0).toNatClampNeg (Int32.ofInt 0).toNatClampNeg (Int32.ofInt 160).toNatClampNeg)).1 6) (Int32.ofInt 0).toNatClampNeg (Int32.ofInt 0).toNatClampNeg (Int32.ofInt 160).toNatClampNeg)) 7 (va_cpy ((sA (sA (sA (sA (sF (sF (sF (sF (sF s 2 0 z1) 2 1 z5) 2 2 z9) 2 3 z13) 2 4 (Int32.ofInt (-1))) 3 (va_cpy ((sF (sF (sF (sF (sF s 2 0 z1) 2 1 z5) 2 2 z9) 2 3 z13) 2 4 (Int32.ofInt (-1))).1 17) ((sF (sF (sF (sF (sF s 2 0 z1) 2 1 z5) 2 2 z9) 2 3 z13) 2 4 (Int32.ofInt (-1))).1 3) (Int32.ofInt 0).toNatClampNeg (Int32.ofInt 0).toNatClampNeg (Int32.ofInt 32).toNatClampNeg)) 4 (va_cpy ((sA (sF (sF (sF (sF (sF s 2 0 z1) 2 1 z5) 2 2 z9) 2 3 z13) 2 4 (Int32.ofInt (-1))) 3 (va_cpy ((sF (sF (sF (sF (sF s 2 0 z1) 2 1 z5) 2 2 z9) 2 3 z13) 2 4 (Int32.ofInt (-1))).1 17) ((sF (sF (sF (sF (sF s 2 0 z1) 2 1 z5) 2 2 z9) 2 3 z13) 2 4 (Int32.ofInt (-1))).1 3) (Int32.ofInt 0).toNatClampNeg (Int32.ofInt 0).toNatClampNeg (Int32.ofInt 32).toNatClampNeg)).1 18) ((sA (sF (sF (sF (sF (sF s 2 0 z1) 2 1 z5) 2 2 z9) 2 3 z13) 2 4 (Int32.ofInt (-1))) 3 (va_cpy ((sF (sF (sF (sF (sF s 2 0 z1) 2 1 z5) 2 2 z9) 2 3 z13) 2 4 (Int32.ofInt (-1))).1 17) ((sF (sF (sF (sF (sF s 2 0 z1) 2 1 z5) 2 2 z9) 2 3 z13) 2 4 (Int32.ofInt (-1))).1 3) (Int32.ofInt 0).toNatClampNeg (Int32.ofInt 0).toNatClampNeg (Int32.ofInt 32).toNatClampNeg)).1 4) (Int32.ofInt 0).toNatClampNeg (Int32.ofInt 0).toNatClampNeg (Int32.ofInt 160).toNatClampNeg)) 5 (va_cpy ((sA (sA (sF (sF (sF (sF (sF s 2 0 z1) 2 1 z5) 2 2 z9) 2 3 z13) 2 4 (Int32.ofInt (-1))) 3 (va_cpy ((sF (sF (sF (sF (sF s 2 0 z1) 2 1 z5) 2 2 z9) 2 3 z13) 2 4 (Int32.ofInt (-1))).1 17) ((sF (sF (sF (sF (sF s 2 0 z1) 2 1 z5) 2 2 z9) 2 3 z13) 2 4 (Int32.ofInt (-1))).1 3) (Int32.ofInt 0).toNatClampNeg (Int32.ofInt 0).toNatClampNeg (Int32.ofInt 32).toNatClampNeg)) 4 (va_cpy ((sA (sF (sF (sF (sF (sF s 2 0 z1) 2 1 z5) 2 2 z9) 2 3 z13) 2 4 (Int32.ofInt (-1))) 3 (va_cpy ((sF (sF (sF (sF (sF s 2 0 z1) 2 1 z5) 2 2 z9) 2 3 z13) 2 4 (Int32.ofInt (-1))).1 17) ((sF (sF (sF (sF (sF s 2 0 z1) 2 1 z5) 2 2 z9) 2 3 z13) 2 4 (Int32.ofInt (-1))).1 3) (Int32.ofInt 0).toNatClampNeg (Int32.ofInt 0).toNatClampNeg (Int32.ofInt 32).toNatClampNeg)).1 18) ((sA (sF (sF (sF (sF (sF s 2 0 z1) 2 1 z5) 2 2 z9) 2 3 z13) 2 4 (Int32.ofInt (-1))) 3 (va_cpy ((sF (sF (sF (sF (sF s 2 0 z1) 2 1 z5) 2 2 z9) 2 3 z13) 2 4 (Int32.ofInt (-1))).1 17) ((sF (sF (sF (sF (sF s 2 0 z1) 2 1 z5) 2 2 z9) 2 3 z13) 2 4 (Int32.ofInt (-1))).1 3) (Int32.ofInt 0).toNatClampNeg (Int32.ofInt 0).toNatClampNeg (Int32.ofInt 32).toNatClampNeg)).1 4) (Int32.ofInt 0).toNatClampNeg (Int32.ofInt 0).toNatClampNeg (Int32.ofInt 160).toNatClampNeg)).1 19) ((sA (sA (sF (sF (sF (sF (sF s 2 0 z1) 2 1 z5) 2 2 z9) 2 3 z13) 2 4 (Int32.ofInt (-1))) 3 (va_cpy ((sF (sF (sF (sF (sF s 2 0 z1) 2 1 z5) 2 2 z9) 2 3 z13) 2 4 (Int32.ofInt (-1))).1 17) ((sF (sF (sF (sF (sF s 2 0 z1) 2 1 z5) 2 2 z9) 2 3 z13) 2 4 (Int32.ofInt (-1))).1 3) (Int32.ofInt 0).toNatClampNeg (Int32.ofInt 0).toNatClampNeg (Int32.ofInt 32).toNatClampNeg)) 4 (va_cpy ((sA (sF (sF (sF (sF (sF s 2 0 z1) 2 1 z5) 2 2 z9) 2 3 z13) 2 4 (Int32.ofInt (-1))) 3 (va_cpy ((sF (sF (sF (sF (sF s 2 0 z1) 2 1 z5) 2 2 z9) 2 3 z13) 2 4 (Int32.ofInt (-1))).1 17) ((sF (sF (sF (sF (sF s 2 0 z1) 2 1 z5) 2 2 z9) 2 3 z13) 2 4 (Int32.ofInt (-1))).1 3) (Int32.ofInt 0).toNatClampNeg (Int32.ofInt 0).toNatClampNeg (Int32.ofInt 32).toNatClampNeg)).1 18) ((sA (sF (sF (sF (sF (sF s 2 0 z1) 2 1 z5) 2 2 z9) 2 3 z13) 2 4 (Int32.ofInt (-1))) 3 (va_cpy ((sF (sF (sF (sF (sF s 2 0 z1) 2 1 z5) 2 2 z9) 2 3 z13) 2 4 (Int32.ofInt (-1))).1 17) ((sF (sF (sF (sF (sF s 2 0 z1) 2 1 z5) 2 2 z9) 2 3 z13) 2 4 (Int32.ofInt (-1))).1 3) (Int32.ofInt 0).toNatClampNeg (Int32.ofInt 0).toNatClampNeg (Int32.ofInt 32).toNatClampNeg)).1 4) (Int32.ofInt 0).toNatClampNeg (Int32.ofInt 0).toNatClampNeg (Int32.ofInt 160).toNatClampNeg)).1 5) (Int32.ofInt 0).toNatClampNeg (Int32.ofInt 0).toNatClampNeg (Int32.ofInt 160).toNatClampNeg)) 6 (va_cpy ((sA (sA (sA (sF (sF (sF (sF (sF s 2 0 z1) 2 1 z5) 2 2 z9) 2 3 z13) 2 4 (Int32.ofInt (-1))) 3 (va_cpy ((sF (sF (sF (sF (sF s 2 0 z1) 2 1 z5) 2 2 z9) 2 3 z13) 2 4 (Int32.ofInt (-1))).1 17) ((sF (sF (sF (sF (sF s 2 0 z1) 2 1 z5) 2 2 z9) 2 3 z13) 2 4 (Int32.ofInt (-1))).1 3) (Int32.ofInt 0).toNatClampNeg (Int32.ofInt 0).toNatClampNeg (Int32.ofInt 32).toNatClampNeg)) 4 (va_cpy ((sA (sF (sF (sF (sF (sF s 2 0 z1) 2 1 z5) 2 2 z9) 2 3 z13) 2 4 (Int32.ofInt (-1))) 3 (va_cpy ((sF (sF (sF (sF (sF s 2 0 z1) 2 1 z5) 2 2 z9) 2 3 z13) 2 4 (Int32.ofInt (-1))).1 17) ((sF (sF (sF (sF (sF s 2 0 z1) 2 1 z5) 2 2 z9) 2 3 z13) 2 4 (Int32.ofInt (-1))).1 3) (Int32.ofInt 0).toNatClampNeg (Int32.ofInt 0).toNatClampNeg (Int32.ofInt 32).toNatClampNeg)).1 18) ((sA (sF (sF (sF (sF (sF s 2 0 z1) 2 1 z5) 2 2 z9) 2 3 z13) 2 4 (Int32.ofInt (-1))) 3 (va_cpy ((sF (sF (sF (sF (sF s 2 0 z1) 2 1 z5) 2 2 z9) 2 3 z13) 2 4 (Int32.ofInt (-1))).1 17) ((sF (sF (sF (sF (sF s 2 0 z1) 2 1 z5) 2 2 z9) 2 3 z13) 2 4 (Int32.ofInt (-1))).1 3) (Int32.ofInt 0).toNatClampNeg (Int32.ofInt 0).toNatClampNeg (Int32.ofInt 32).toNatClampNeg)).1 4) (Int32.ofInt 0).toNatClampNeg (Int32.ofInt 0).toNatClampNeg (Int32.ofInt 160).toNatClampNeg)) 5 (va_cpy ((sA (sA (sF (sF (sF (sF (sF s 2 0 z1) 2 1 z5) 2 2 z9) 2 3 z13) 2 4 (Int32.ofInt (-1))) 3 (va_cpy ((sF (sF (sF (sF (sF s 2 0 z1) 2 1 z5) 2 2 z9) 2 3 z13) 2 4 (Int32.ofInt (-1))).1 17) ((sF (sF (sF (sF (sF s 2 0 z1) 2 1 z5) 2 2 z9) 2 3 z13) 2 4 (Int32.ofInt (-1))).1 3) (Int32.ofInt 0).toNatClampNeg (Int32.ofInt 0).toNatClampNeg (Int32.ofInt 32).toNatClampNeg)) 4 (va_cpy ((sA (sF (sF (sF (sF (sF s 2 0 z1) 2 1 z5) 2 2 z9) 2 3 z13) 2 4 (Int32.ofInt (-1))) 3 (va_cpy ((sF (sF (sF (sF (sF s 2 0 z1) 2 1 z5) 2 2 z9) 2 3 z13) 2 4 (Int32.ofInt (-1))).1 17) ((sF (sF (sF (sF (sF s 2 0 z1) 2 1 z5) 2 2 z9) 2 3 z13) 2 4 (Int32.ofInt (-1))).1 3) (Int32.ofInt 0).toNatClampNeg (Int32.ofInt 0).toNatClampNeg (Int32.ofInt 32).toNatClampNeg)).1 18) ((sA (sF (sF (sF (sF (sF s 2 0 z1) 2 1 z5) 2 2 z9) 2 3 z13) 2 4 (Int32.ofInt (-1))) 3 (va_cpy ((sF (sF (sF (sF (sF s 2 0 z1) 2 1 z5) 2 2 z9) 2 3 z13) 2 4 (Int32.ofInt (-1))).1 17) ((sF (sF (sF (sF (sF s 2 0 z1) 2 1 z5) 2 2 z9) 2 3 z13) 2 4 (Int32.ofInt (-1))).1 3) (Int32.ofInt 0).toNatClampNeg (Int32.ofInt 0).toNatClampNeg (Int32.ofInt 32).toNatClampNeg)).1 4) (Int32.ofInt 0).toNatClampNeg (Int32.ofInt 0).toNatClampNeg (Int32.ofInt 160).toNatClampNeg)).1 19) ((sA (sA (sF (sF (sF (sF (sF s 2 0 z1) 2 1 z5) 2 2 z9) 2 3 z13) 2 4 (Int32.ofInt (-1))) 3 (va_cpy ((sF (sF (sF (sF (sF s 2 0 z1) 2 1 z5) 2 2 z9) 2 3 z13) 2 4 (Int32.ofInt (-1))).1 17) ((sF (sF (sF (sF (sF s 2 0 z1) 2 1 z5) 2 2 z9) 2 3 z13) 2 4 (Int32.ofInt (-1))).1 3) (Int32.ofInt 0).toNatClampNeg (Int32.ofInt 0).toNatClampNeg (Int32.ofInt 32).toNatClampNeg)) 4 (va_cpy ((sA (sF (sF (sF (sF (sF s 2 0 z1) 2 1 z5) 2 2 z9) 2 3 z13) 2 4 (Int32.ofInt (-1))) 3 (va_cpy ((sF (sF (sF (sF (sF s 2 0 z1) 2 1 z5) 2 2 z9) 2 3 z13) 2 4 (Int32.ofInt (-1))).1 17) ((sF (sF (sF (sF (sF s 2 0 z1) 2 1 z5) 2 2 z9) 2 3 z13) 2 4 (Int32.ofInt (-1))).1 3) (Int32.ofInt 0).toNatClampNeg (Int32.ofInt 0).toNatClampNeg (Int32.ofInt 32).toNatClampNeg)).1 18) ((sA (sF (sF (sF (sF (sF s 2 0 z1) 2 1 z5) 2 2 z9) 2 3 z13) 2 4 (Int32.ofInt (-1))) 3 (va_cpy ((sF (sF (sF (sF (sF s 2 0 z1) 2 1 z5) 2 2 z9) 2 3 z13) 2 4 (Int32.ofInt (-1))).1 17) ((sF (sF (sF (sF (sF s 2 0 z1) 2 1 z5) 2 2 z9) 2 3 z13) 2 4 (Int32.ofInt (-1))).1 3) (Int32.ofInt 0).toNatClampNeg (Int32.ofInt 0).toNatClampNeg (Int32.ofInt 32).toNatClampNeg)).1 4) (Int32.ofInt 0).toNatClampNeg (Int32.ofInt 0).toNatClampNeg (Int32.ofInt 160).toNatClampNeg)).1 5) (Int32.ofInt 0).toNatClampNeg (Int32.ofInt 0).toNatClampNeg (Int32.ofInt 160).toNatClampNeg)).1 20) ((sA (sA (sA (sF (sF (sF (sF (sF s 2 0 z1) 2 1 z5) 2 2 z9) 2 3 z13) 2 4 (Int32.ofInt (-1))) 3 (va_cpy ((sF (sF (sF (sF (sF s 2 0 z1) 2 1 z5) 2 2 z9) 2 3 z13) 2 4 (Int32.ofInt (-1))).1 17) ((sF (sF (sF (sF (sF s 2 0 z1) 2 1 z5) 2 2 z9) 2 3 z13) 2 4 (Int32.ofInt (-1))).1 3) (Int32.ofInt 0).toNatClampNeg (Int32.ofInt 0).toNatClampNeg (Int32.ofInt 32).toNatClampNeg)) 4 (va_cpy ((sA (sF (sF (sF (sF (sF s 2 0 z1) 2 1 z5) 2 2 z9) 2 3 z13) 2 4 (Int32.ofInt (-1))) 3 (va_cpy ((sF (sF (sF (sF (sF s 2 0 z1) 2 1 z5) 2 2 z9) 2 3 z13) 2 4 (Int32.ofInt (-1))).1 17) ((sF (sF (sF (sF (sF s 2 0 z1) 2 1 z5) 2 2 z9) 2 3 z13) 2 4 (Int32.ofInt (-1))).1 3) (Int32.ofInt 0).toNatClampNeg (Int32.ofInt 0).toNatClampNeg (Int32.ofInt 32).toNatClampNeg)).1 18) ((sA (sF (sF (sF (sF (sF s 2 0 z1) 2 1 z5) 2 2 z9) 2 3 z13) 2 4 (Int32.ofInt (-1))) 3 (va_cpy ((sF (sF (sF (sF (sF s 2 0 z1) 2 1 z5) 2 2 z9) 2 3 z13) 2 4 (Int32.ofInt (-1))).1 17) ((sF (sF (sF (sF (sF s 2 0 z1) 2 1 z5) 2 2 z9) 2 3 z13) 2 4 (Int32.ofInt (-1))).1 3) (Int32.ofInt 0).toNatClampNeg (Int32.ofInt 0).toNatClampNeg (Int32.ofInt 32).toNatClampNeg)).1 4) (Int32.ofInt 0).toNatClampNeg (Int32.ofInt 0).toNatClampNeg (Int32.ofInt 160).toNatClampNeg)) 5 (va_cpy ((sA (sA (sF (sF (sF (sF (sF s 2 0 z1) 2 1 z5) 2 2 z9) 2 3 z13) 2 4 (Int32.ofInt (-1))) 3 (va_cpy ((sF (sF (sF (sF (sF s 2 0 z1) 2 1 z5) 2 2 z9) 2 3 z13) 2 4 (Int32.ofInt (-1))).1 17) ((sF (sF (sF (sF (sF s 2 0 z1) 2 1 z5) 2 2 z9) 2 3 z13) 2 4 (Int32.ofInt (-1))).1 3) (Int32.ofInt 0).toNatClampNeg (Int32.ofInt 0).toNatClampNeg (Int32.ofInt 32).toNatClampNeg)) 4 (va_cpy ((sA (sF (sF (sF (sF (sF s 2 0 z1) 2 1 z5) 2 2 z9) 2 3 z13) 2 4 (Int32.ofInt (-1))) 3 (va_cpy ((sF (sF (sF (sF (sF s 2 0 z1) 2 1 z5) 2 2 z9) 2 3 z13) 2 4 (Int32.ofInt (-1))).1 17) ((sF (sF (sF (sF (sF s 2 0 z1) 2 1 z5) 2 2 z9) 2 3 z13) 2 4 (Int32.ofInt (-1))).1 3) (Int32.ofInt 0).toNatClampNeg (Int32.ofInt 0).toNatClampNeg (Int32.ofInt 32).toNatClampNeg)).1 18) ((sA (sF (sF (sF (sF (sF s 2 0 z1) 2 1 z5) 2 2 z9) 2 3 z13) 2 4 (Int32.ofInt (-1))) 3 (va_cpy ((sF (sF (sF (sF (sF s 2 0 z1) 2 1 z5) 2 2 z9) 2 3 z13) 2 4 (Int32.ofInt (-1))).1 17) ((sF (sF (sF (sF (sF s 2 0 z1) 2 1 z5) 2 2 z9) 2 3 z13) 2 4 (Int32.ofInt (-1))).1 3) (Int32.ofInt 0).toNatClampNeg (Int32.ofInt 0).toNatClampNeg (Int32.ofInt 32).toNatClampNeg)).1 4) (Int32.ofInt 0).toNatClampNeg (Int32.ofInt 0).toNatClampNeg (Int32.ofInt 160).toNatClampNeg)).1 19) ((sA (sA (sF (sF (sF (sF (sF s 2 0 z1) 2 1 z5) 2 2 z9) 2 3 z13) 2 4 (Int32.ofInt (-1))) 3 (va_cpy ((sF (sF (sF (sF (sF s 2 0 z1) 2 1 z5) 2 2 z9) 2 3 z13) 2 4 (Int32.ofInt (-1))).1 17) ((sF (sF (sF (sF (sF s 2 0 z1) 2 1 z5) 2 2 z9) 2 3 z13) 2 4 (Int32.ofInt (-1))).1 3) (Int32.ofInt 0).toNatClampNeg (Int32.ofInt 0).toNatClampNeg (Int32.ofInt 32).toNatClampNeg)) 4 (va_cpy ((sA (sF (sF (sF (sF (sF s 2 0 z1) 2 1 z5) 2 2 z9) 2 3 z13) 2 4 (Int32.ofInt (-1))) 3 (va_cpy ((sF (sF (sF (sF (sF s 2 0 z1) 2 1 z5) 2 2 z9) 2 3 z13) 2 4 (Int32.ofInt (-1))).1 17) ((sF (sF (sF (sF (sF s 2 0 z1) 2 1 z5) 2 2 z9) 2 3 z13) 2 4 (Int32.ofInt (-1))).1 3) (Int32.ofInt 0).toNatClampNeg (Int32.ofInt 0).toNatClampNeg (Int32.ofInt 32).toNatClampNeg)).1 18) ((sA (sF (sF (sF (sF (sF s 2 0 z1) 2 1 z5) 2 2 z9) 2 3 z13) 2 4 (Int32.ofInt (-1))) 3 (va_cpy ((sF (sF (sF (sF (sF s 2 0 z1) 2 1 z5) 2 2 z9) 2 3 z13) 2 4 (Int32.ofInt (-1))).1 17) ((sF (sF (sF (sF (sF s 2 0 z1) 2 1 z5) 2 2 z9) 2 3 z13) 2 4 (Int32.ofInt (-1))).1 3) (Int32.ofInt 0).toNatClampNeg (Int32.ofInt 0).toNatClampNeg (Int32.ofInt 32).toNatClampNeg)).1 4) (Int32.ofInt 0).toNatClampNeg (Int32.ofInt 0).toNatClampNeg (Int32.ofInt 160).toNatClampNeg)).1 5) (Int32.ofInt 0).toNatClampNeg (Int32.ofInt 0).toNatClampNeg (Int32.ofInt 160).toNatClampNeg)).1 6) (Int32.ofInt 0).toNatClampNeg (Int32.ofInt 0).toNatClampNeg (Int32.ofInt 160).toNatClampNeg)).1 21) ((sA (sA (sA (sA (sF (sF (sF (sF (sF s 2 0 z1) 2 1 z5) 2 2 z9) 2 3 z13) 2 4 (Int32.ofInt (-1))) 3 (va_cpy ((sF (sF (sF (sF (sF s 2 0 z1) 2 1 z5) 2 2 z9) 2 3 z13) 2 4 (Int32.ofInt (-1))).1 17) ((sF (sF (sF (sF (sF s 2 0 z1) 2 1 z5) 2 2 z9) 2 3 z13) 2 4 (Int32.ofInt (-1))).1 3) (Int32.ofInt 0).toNatClampNeg (Int32.ofInt 0).toNatClampNeg (Int32.ofInt 32).toNatClampNeg)) 4 (va_cpy ((sA (sF (sF (sF (sF (sF s 2 0 z1) 2 1 z5) 2 2 z9) 2 3 z13) 2 4 (Int32.ofInt (-1))) 3 (va_cpy ((sF (sF (sF (sF (sF s 2 0 z1) 2 1 z5) 2 2 z9) 2 3 z13) 2 4 (Int32.ofInt (-1))).1 17) ((sF (sF (sF (sF (sF s 2 0 z1) 2 1 z5) 2 2 z9) 2 3 z13) 2 4 (Int32.ofInt (-1))).1 3) (Int32.ofInt 0).toNatClampNeg (Int32.ofInt 0).toNatClampNeg (Int32.ofInt 32).toNatClampNeg)).1 18) ((sA (sF (sF (sF (sF (sF s 2 0 z1) 2 1 z5) 2 2 z9) 2 3 z13) 2 4 (Int32.ofInt (-1))) 3 (va_cpy ((sF (sF (sF (sF (sF s 2 0 z1) 2 1 z5) 2 2 z9) 2 3 z13) 2 4 (Int32.ofInt (-1))).1 17) ((sF (sF (sF (sF (sF s 2 0 z1) 2 1 z5) 2 2 z9) 2 3 z13) 2 4 (Int32.ofInt (-1))).1 3) (Int32.ofInt 0).toNatClampNeg (Int32.ofInt 0).toNatClampNeg (Int32.ofInt 32).toNatClampNeg)).1 4) (Int32.ofInt 0).toNatClampNeg (Int32.ofInt 0).toNatClampNeg (Int32.ofInt 160).toNatClampNeg)) 5 (va_cpy ((sA (sA (sF (sF (sF (sF (sF s 2 0 z1) 2 1 z5) 2 2 z9) 2 3 z13) 2 4 (Int32.ofInt (-1))) 3 (va_cpy ((sF (sF (sF (sF (sF s 2 0 z1) 2 1 z5) 2 2 z9) 2 3 z13) 2 4 (Int32.ofInt (-1))).1 17) ((sF (sF (sF (sF (sF s 2 0 z1) 2 1 z5) 2 2 z9) 2 3 z13) 2 4 (Int32.ofInt (-1))).1 3) (Int32.ofInt 0).toNatClampNeg (Int32.ofInt 0).toNatClampNeg (Int32.ofInt 32).toNatClampNeg)) 4 (va_cpy ((sA (sF (sF (sF (sF (sF s 2 0 z1) 2 1 z5) 2 2 z9) 2 3 z13) 2 4 (Int32.ofInt (-1))) 3 (va_cpy ((sF (sF (sF (sF (sF s 2 0 z1) 2 1 z5) 2 2 z9) 2 3 z13) 2 4 (Int32.ofInt (-1))).1 17) ((sF (sF (sF (sF (sF s 2 0 z1) 2 1 z5) 2 2 z9) 2 3 z13) 2 4 (Int32.ofInt (-1))).1 3) (Int32.ofInt 0).toNatClampNeg (Int32.ofInt 0).toNatClampNeg (Int32.ofInt 32).toNatClampNeg)).1 18) ((sA (sF (sF (sF (sF (sF s 2 0 z1) 2 1 z5) 2 2 z9) 2 3 z13) 2 4 (Int32.ofInt (-1))) 3 (va_cpy ((sF (sF (sF (sF (sF s 2 0 z1) 2 1 z5) 2 2 z9) 2 3 z13) 2 4 (Int32.ofInt (-1))).1 17) ((sF (sF (sF (sF (sF s 2 0 z1) 2 1 z5) 2 2 z9) 2 3 z13) 2 4 (Int32.ofInt (-1))).1 3) (Int32.ofInt 0).toNatClampNeg (Int32.ofInt 0).toNatClampNeg (Int32.ofInt 32).toNatClampNeg)).1 4) (Int32.ofInt 0).toNatClampNeg (Int32.ofInt 0).toNatClampNeg (Int32.ofInt 160).toNatClampNeg)).1 19) ((sA (sA (sF (sF (sF (sF (sF s 2 0 z1) 2 1 z5) 2 2 z9) 2 3 z13) 2 4 (Int32.ofInt (-1))) 3 (va_cpy ((sF (sF (sF (sF (sF s 2 0 z1) 2 1 z5) 2 2 z9) 2 3 z13) 2 4 (Int32.ofInt (-1))).1 17) ((sF (sF (sF (sF (sF s 2 0 z1) 2 1 z5) 2 2 z9) 2 3 z13) 2 4 (Int32.ofInt (-1))).1 3) (Int32.ofInt 0).toNatClampNeg (Int32.ofInt 0).toNatClampNeg (Int32.ofInt 32).toNatClampNeg)) 4 (va_cpy ((sA (sF (sF (sF (sF (sF s 2 0 z1) 2 1 z5) 2 2 z9) 2 3 z13) 2 4 (Int32.ofInt (-1))) 3 (va_cpy ((sF (sF (sF (sF (sF s 2 0 z1) 2 1 z5) 2 2 z9) 2 3 z13) 2 4 (Int32.ofInt (-1))).1 17) ((sF (sF (sF (sF (sF s 2 0 z1) 2 1 z5) 2 2 z9) 2 3 z13) 2 4 (Int32.ofInt (-1))).1 3) (Int32.ofInt 0).toNatClampNeg (Int32.ofInt 0).toNatClampNeg (Int32.ofInt 32).toNatClampNeg)).1 18) ((sA (sF (sF (sF (sF (sF s 2 0 z1) 2 1 z5) 2 2 z9) 2 3 z13) 2 4 (Int32.ofInt (-1))) 3 (va_cpy ((sF (sF (sF (sF (sF s 2 0 z1) 2 1 z5) 2 2 z9) 2 3 z13) 2 4 (Int32.ofInt (-1))).1 17) ((sF (sF (sF (sF (sF s 2 0 z1) 2 1 z5) 2 2 z9) 2 3 z13) 2 4 (Int32.ofInt (-1))).1 3) (Int32.ofInt 0).toNatClampNeg (Int32.ofInt 0).toNatClampNeg (Int32.ofInt 32).toNatClampNeg)).1 4) (Int32.ofInt 0).toNatClampNeg (Int32.ofInt 0).toNatClampNeg (Int32.ofInt 160).toNatClampNeg)).1 5) (Int32.ofInt 0).toNatClampNeg (Int32.ofInt 0).toNatClampNeg (Int32.ofInt 160).toNatClampNeg)) 6 (va_cpy ((sA (sA (sA (sF (sF (sF (sF (sF s 2 0 z1) 2 1 z5) 2 2 z9) 2 3 z13) 2 4 (Int32.ofInt (-1))) 3 (va_cpy ((sF (sF (sF (sF (sF s 2 0 z1) 2 1 z5) 2 2 z9) 2 3 z13) 2 4 (Int32.ofInt (-1))).1 17) ((sF (sF (sF (sF (sF s 2 0 z1) 2 1 z5) 2 2 z9) 2 3 z13) 2 4 (Int32.ofInt (-1))).1 3) (Int32.ofInt 0).toNatClampNeg (Int32.ofInt 0).toNatClampNeg (Int32.ofInt 32).toNatClampNeg)) 4 (va_cpy ((sA (sF (sF (sF (sF (sF s 2 0 z1) 2 1 z5) 2 2 z9) 2 3 z13) 2 4 (Int32.ofInt (-1))) 3 (va_cpy ((sF (sF (sF (sF (sF s 2 0 z1) 2 1 z5) 2 2 z9) 2 3 z13) 2 4 (Int32.ofInt (-1))).1 17) ((sF (sF (sF (sF (sF s 2 0 z1) 2 1 z5) 2 2 z9) 2 3 z13) 2 4 (Int32.ofInt (-1))).1 3) (Int32.ofInt 0).toNatClampNeg (Int32.ofInt 0).toNatClampNeg (Int32.ofInt 32).toNatClampNeg)).1 18) ((sA (sF (sF (sF (sF (sF s 2 0 z1) 2 1 z5) 2 2 z9) 2 3 z13) 2 4 (Int32.ofInt (-1))) 3 (va_cpy ((sF (sF (sF (sF (sF s 2 0 z1) 2 1 z5) 2 2 z9) 2 3 z13) 2 4 (Int32.ofInt (-1))).1 17) ((sF (sF (sF (sF (sF s 2 0 z1) 2 1 z5) 2 2 z9) 2 3 z13) 2 4 (Int32.ofInt (-1))).1 3) (Int32.ofInt 0).toNatClampNeg (Int32.ofInt 0).toNatClampNeg (Int32.ofInt 32).toNatClampNeg)).1 4) (Int32.ofInt 0).toNatClampNeg (Int32.ofInt 0).toNatClampNeg (Int32.ofInt 160).toNatClampNeg)) 5 (va_cpy ((sA (sA (sF (sF (sF (sF (sF s 2 0 z1) 2 1 z5) 2 2 z9) 2 3 z13) 2 4 (Int32.ofInt (-1))) 3 (va_cpy ((sF (sF (sF (sF (sF s 2 0 z1) 2 1 z5) 2 2 z9) 2 3 z13) 2 4 (Int32.ofInt (-1))).1 17) ((sF (sF (sF (sF (sF s 2 0 z1) 2 1 z5) 2 2 z9) 2 3 z13) 2 4 (Int32.ofInt (-1))).1 3) (Int32.ofInt 0).toNatClampNeg (Int32.ofInt 0).toNatClampNeg (Int32.ofInt 32).toNatClampNeg)) 4 (va_cpy ((sA (sF (sF (sF (sF (sF s 2 0 z1) 2 1 z5) 2 2 z9) 2 3 z13) 2 4 (Int32.ofInt (-1))) 3 (va_cpy ((sF (sF (sF (sF (sF s 2 0 z1) 2 1 z5) 2 2 z9) 2 3 z13) 2 4 (Int32.ofInt (-1))).1 17) ((sF (sF (sF (sF (sF s 2 0 z1) 2 1 z5) 2 2 z9) 2 3 z13) 2 4 (Int32.ofInt (-1))).1 3) (Int32.ofInt 0).toNatClampNeg (Int32.ofInt 0).toNatClampNeg (Int32.ofInt 32).toNatClampNeg)).1 18) ((sA (sF (sF (sF (sF (sF s 2 0 z1) 2 1 z5) 2 2 z9) 2 3 z13) 2 4 (Int32.ofInt (-1))) 3 (va_cpy ((sF (sF (sF (sF (sF s 2 0 z1) 2 1 z5) 2 2 z9) 2 3 z13) 2 4 (Int32.ofInt (-1))).1 17) ((sF (sF (sF (sF (sF s 2 0 z1) 2 1 z5) 2 2 z9) 2 3 z13) 2 4 (Int32.ofInt (-1))).1 3) (Int32.ofInt 0).toNatClampNeg (Int32.ofInt 0).toNatClampNeg (Int32.ofInt 32).toNatClampNeg)).1 4) (Int32.ofInt 0).toNatClampNeg (Int32.ofInt 0).toNatClampNeg (Int32.ofInt 160).toNatClampNeg)).1 19) ((sA (sA (sF (sF (sF (sF (sF s 2 0 z1) 2 1 z5) 2 2 z9) 2 3 z13) 2 4 (Int32.ofInt (-1))) 3 (va_cpy ((sF (sF (sF (sF (sF s 2 0 z1) 2 1 z5) 2 2 z9) 2 3 z13) 2 4 (Int32.ofInt (-1))).1 17) ((sF (sF (sF (sF (sF s 2 0 z1) 2 1 z5) 2 2 z9) 2 3 z13) 2 4 (Int32.ofInt (-1))).1 3) (Int32.ofInt 0).toNatClampNeg (Int32.ofInt 0).toNatClampNeg (Int32.ofInt 32).toNatClampNeg)) 4 (va_cpy ((sA (sF (sF (sF (sF (sF s 2 0 z1) 2 1 z5) 2 2 z9) 2 3 z13) 2 4 (Int32.ofInt (-1))) 3 (va_cpy ((sF (sF (sF (sF (sF s 2 0 z1) 2 1 z5) 2 2 z9) 2 3 z13) 2 4 (Int32.ofInt (-1))).1 17) ((sF (sF (sF (sF (sF s 2 0 z1) 2 1 z5) 2 2 z9) 2 3 z13) 2 4 (Int32.ofInt (-1))).1 3) (Int32.ofInt 0).toNatClampNeg (Int32.ofInt 0).toNatClampNeg (Int32.ofInt 32).toNatClampNeg)).1 18) ((sA (sF (sF (sF (sF (sF s 2 0 z1) 2 1 z5) 2 2 z9) 2 3 z13) 2 4 (Int32.ofInt (-1))) 3 (va_cpy ((sF (sF (sF (sF (sF s 2 0 z1) 2 1 z5) 2 2 z9) 2 3 z13) 2 4 (Int32.ofInt (-1))).1 17) ((sF (sF (sF (sF (sF s 2 0 z1) 2 1 z5) 2 2 z9) 2 3 z13) 2 4 (Int32.ofInt (-1))).1 3) (Int32.ofInt 0).toNatClampNeg (Int32.ofInt 0).toNatClampNeg (Int32.ofInt 32).toNatClampNeg)).1 4) (Int32.ofInt 0).toNatClampNeg (Int32.ofInt 0).toNatClampNeg (Int32.ofInt 160).toNatClampNeg)).1 5) (Int32.ofInt 0).toNatClampNeg (Int32.ofInt 0).toNatClampNeg (Int32.ofInt 160).toNatClampNeg)).1 20) ((sA (sA (sA (sF (sF (sF (sF (sF s 2 0 z1) 2 1 z5) 2 2 z9) 2 3 z13) 2 4 (Int32.ofInt (-1))) 3 (va_cpy ((sF (sF (sF (sF (sF s 2 0 z1) 2 1 z5) 2 2 z9) 2 3 z13) 2 4 (Int32.ofInt (-1))).1 17) ((sF (sF (sF (sF (sF s 2 0 z1) 2 1 z5) 2 2 z9) 2 3 z13) 2 4 (Int32.ofInt (-1))).1 3) (Int32.ofInt 0).toNatClampNeg (Int32.ofInt 0).toNatClampNeg (Int32.ofInt 32).toNatClampNeg)) 4 (va_cpy ((sA (sF (sF (sF (sF (sF s 2 0 z1) 2 1 z5) 2 2 z9) 2 3 z13) 2 4 (Int32.ofInt (-1))) 3 (va_cpy ((sF (sF (sF (sF (sF s 2 0 z1) 2 1 z5) 2 2 z9) 2 3 z13) 2 4 (Int32.ofInt (-1))).1 17) ((sF (sF (sF (sF (sF s 2 0 z1) 2 1 z5) 2 2 z9) 2 3 z13) 2 4 (Int32.ofInt (-1))).1 3) (Int32.ofInt 0).toNatClampNeg (Int32.ofInt 0).toNatClampNeg (Int32.ofInt 32).toNatClampNeg)).1 18) ((sA (sF (sF (sF (sF (sF s 2 0 z1) 2 1 z5) 2 2 z9) 2 3 z13) 2 4 (Int32.ofInt (-1))) 3 (va_cpy ((sF (sF (sF (sF (sF s 2 0 z1) 2 1 z5) 2 2 z9) 2 3 z13) 2 4 (Int32.ofInt (-1))).1 17) ((sF (sF (sF (sF (sF s 2 0 z1) 2 1 z5) 2 2 z9) 2 3 z13) 2 4 (Int32.ofInt (-1))).1 3) (Int32.ofInt 0).toNatClampNeg (Int32.ofInt 0).toNatClampNeg (Int32.ofInt 32).toNatClampNeg)).1 4) (Int32.ofInt 0).toNatClampNeg (Int32.ofInt 0).toNatClampNeg (Int32.ofInt 160).toNatClampNeg)) 5 (va_cpy ((sA (sA (sF (sF (sF (sF (sF s 2 0 z1) 2 1 z5) 2 2 z9) 2 3 z13) 2 4 (Int32.ofInt (-1))) 3 (va_cpy ((sF (sF (sF (sF (sF s 2 0 z1) 2 1 z5) 2 2 z9) 2 3 z13) 2 4 (Int32.ofInt (-1))).1 17) ((sF (sF (sF (sF (sF s 2 0 z1) 2 1 z5) 2 2 z9) 2 3 z13) 2 4 (Int32.ofInt (-1))).1 3) (Int32.ofInt 0).toNatClampNeg (Int32.ofInt 0).toNatClampNeg (Int32.ofInt 32).toNatClampNeg)) 4 (va_cpy ((sA (sF (sF (sF (sF (sF s 2 0 z1) 2 1 z5) 2 2 z9) 2 3 z13) 2 4 (Int32.ofInt (-1))) 3 (va_cpy ((sF (sF (sF (sF (sF s 2 0 z1) 2 1 z5) 2 2 z9) 2 3 z13) 2 4 (Int32.ofInt (-1))).1 17) ((sF (sF (sF (sF (sF s 2 0 z1) 2 1 z5) 2 2 z9) 2 3 z13) 2 4 (Int32.ofInt (-1))).1 3) (Int32.ofInt 0).toNatClampNeg (Int32.ofInt 0).toNatClampNeg (Int32.ofInt 32).toNatClampNeg)).1 18) ((sA (sF (sF (sF (sF (sF s 2 0 z1) 2 1 z5) 2 2 z9) 2 3 z13) 2 4 (Int32.ofInt (-1))) 3 (va_cpy ((sF (sF (sF (sF (sF s 2 0 z1) 2 1 z5) 2 2 z9) 2 3 z13) 2 4 (Int32.ofInt (-1))).1 17) ((sF (sF (sF (sF (sF s 2 0 z1) 2 1 z5) 2 2 z9) 2 3 z13) 2 4 (Int32.ofInt (-1))).1 3) (Int32.ofInt 0).toNatClampNeg (Int32.ofInt 0).toNatClampNeg (Int32.ofInt 32).toNatClampNeg)).1 4) (Int32.ofInt 0).toNatClampNeg (Int32.ofInt 0).toNatClampNeg (Int32.ofInt 160).toNatClampNeg)).1 19) ((sA (sA (sF (sF (sF (sF (sF s 2 0 z1) 2 1 z5) 2 2 z9) 2 3 z13) 2 4 (Int32.ofInt (-1))) 3 (va_cpy ((sF (sF (sF (sF (sF s 2 0 z1) 2 1 z5) 2 2 z9) 2 3 z13) 2 4 (Int32.ofInt (-1))).1 17) ((sF (sF (sF (sF (sF s 2 0 z1) 2 1 z5) 2 2 z9) 2 3 z13) 2 4 (Int32.ofInt (-1))).1 3) (Int32.ofInt 0).toNatClampNeg (Int32.ofInt 0).toNatClampNeg (Int32.ofInt 32).toNatClampNeg)) 4 (va_cpy ((sA (sF (sF (sF (sF (sF s 2 0 z1) 2 1 z5) 2 2 z9) 2 3 z13) 2 4 (Int32.ofInt (-1))) 3 (va_cpy ((sF (sF (sF (sF (sF s 2 0 z1) 2 1 z5) 2 2 z9) 2 3 z13) 2 4 (Int32.ofInt (-1))).1 17) ((sF (sF (sF (sF (sF s 2 0 z1) 2 1 z5) 2 2 z9) 2 3 z13) 2 4 (Int32.ofInt (-1))).1 3) (Int32.ofInt 0).toNatClampNeg (Int32.ofInt 0).toNatClampNeg (Int32.ofInt 32).toNatClampNeg)).1 18) ((sA (sF (sF (sF (sF (sF s 2 0 z1) 2 1 z5) 2 2 z9) 2 3 z13) 2 4 (Int32.ofInt (-1))) 3 (va_cpy ((sF (sF (sF (sF (sF s 2 0 z1) 2 1 z5) 2 2 z9) 2 3 z13) 2 4 (Int32.ofInt (-1))).1 17) ((sF (sF (sF (sF (sF s 2 0 z1) 2 1 z5) 2 2 z9) 2 3 z13) 2 4 (Int32.ofInt (-1))).1 3) (Int32.ofInt 0).toNatClampNeg (Int32.ofInt 0).toNatClampNeg (Int32.ofInt 32).toNatClampNeg)).1 4) (Int32.ofInt 0).toNatClampNeg (Int32.ofInt 0).toNatClampNeg (Int32.ofInt 160).toNatClampNeg)).1 5) (Int32.ofInt 0).toNatClampNeg (Int32.ofInt 0).toNatClampNeg (Int32.ofInt 160).toNatClampNeg)).1 6) (Int32.ofInt 0).toNatClampNeg (Int32.ofInt 0).toNatClampNeg (Int32.ofInt 160).toNatClampNeg)).1 7) (Int32.ofInt 0).toNatClampNeg (Int32.ofInt 0).toNatClampNeg (Int32.ofInt 160).toNatClampNeg)) 8 (va_cpy ((sA (sA (sA (sA (sA (sF (sF (sF (sF (sF s 2 0 z1) 2 1 z5) 2 2 z9) 2 3 z13) 2 4 (Int32.ofInt (-1))) 3 (va_cpy ((sF (sF (sF (sF (sF s 2 0 z1) 2 1 z5) 2 2 z9) 2 3 z13) 2 4 (Int32.ofInt (-1))).1 17) ((sF (sF (sF (sF (sF s 2 0 z1) 2 1 z5) 2 2 z9) 2 3 z13) 2 4 (Int32.ofInt (-1))).1 3) (Int32.ofInt 0).toNatClampNeg (Int32.ofInt 0).toNatClampNeg (Int32.ofInt 32).toNatClampNeg)) 4 (va_cpy ((sA (sF (sF (sF (sF (sF s 2 0 z1) 2 1 z5) 2 2 z9) 2 3 z13) 2 4 (Int32.ofInt (-1))) 3 (va_cpy ((sF (sF (sF (sF (sF s 2 0 z1) 2 1 z5) 2 2 z9) 2 3 z13) 2 4 (Int32.ofInt (-1))).1 17) ((sF (sF (sF (sF (sF s 2 0 z1) 2 1 z5) 2 2 z9) 2 3 z13) 2 4 (Int32.ofInt (-1))).1 3) (Int32.ofInt 0).toNatClampNeg (Int32.ofInt 0).toNatClampNeg (Int32.ofInt 32).toNatClampNeg)).1 18) ((sA (sF (sF (sF (sF (sF s 2 0 z1) 2 1 z5) 2 2 z9) 2 3 z13) 2 4 (Int32.ofInt (-1))) 3 (va_cpy ((sF (sF (sF (sF (sF s 2 0 z1) 2 1 z5) 2 2 z9) 2 3 z13) 2 4 (Int32.ofInt (-1))).1 17) ((sF (sF (sF (sF (sF s 2 0 z1) 2 1 z5) 2 2 z9) 2 3 z13) 2 4 (Int32.ofInt (-1))).1 3) (Int32.ofInt 0).toNatClampNeg (Int32.ofInt 0).toNatClampNeg (Int32.ofInt 32).toNatClampNeg)).1 4) (Int32.ofInt 0).toNatClampNeg (Int32.ofInt 0).toNatClampNeg (Int32.ofInt 160).toNatClampNeg)) 5 (va_cpy ((sA (sA (sF (sF (sF (sF (sF s 2 0 z1) 2 1 z5) 2 2 z9) 2 3 z13) 2 4 (Int32.ofInt (-1))) 3 (va_cpy ((sF (sF (sF (sF (sF s 2 0 z1) 2 1 z5) 2 2 z9) 2 3 z13) 2 4 (Int32.ofInt (-1))).1 17) ((sF (sF (sF (sF (sF s 2 0 z1) 2 1 z5) 2 2 z9) 2 3 z13) 2 4 (Int32.ofInt (-1))).1 3) (Int32.ofInt 0).toNatClampNeg (Int32.ofInt 0).toNatClampNeg (Int32.ofInt 32).toNatClampNeg)) 4 (va_cpy ((sA (sF (sF (sF (sF (sF s 2 0 z1) 2 1 z5) 2 2 z9) 2 3 z13) 2 4 (Int32.ofInt (-1))) 3 (va_cpy ((sF (sF (sF (sF (sF s 2 0 z1) 2 1 z5) 2 2 z9) 2 3 z13) 2 4 (Int32.ofInt (-1))).1 17) ((sF (sF (sF (sF (sF s 2 0 z1) 2 1 z5) 2 2 z9) 2 3 z13) 2 4 (Int32.ofInt (-1))).1 3) (Int32.ofInt 0).toNatClampNeg (Int32.ofInt 0).toNatClampNeg (Int32.ofInt 32).toNatClampNeg)).1 18) ((sA (sF (sF (sF (sF (sF s 2 0 z1) 2 1 z5) 2 2 z9) 2 3 z13) 2 4 (Int32.ofInt (-1))) 3 (va_cpy ((sF (sF (sF (sF (sF s 2 0 z1) 2 1 z5) 2 2 z9) 2 3 z13) 2 4 (Int32.ofInt (-1))).1 17) ((sF (sF (sF (sF (sF s 2 0 z1) 2 1 z5) 2 2 z9) 2 3 z13) 2 4 (Int32.ofInt (-1))).1 3) (Int32.ofInt 0).toNatClampNeg (Int32.ofInt 0).toNatClampNeg (Int32.ofInt 32).toNatClampNeg)).1 4) (Int32.ofInt 0).toNatClampNeg (Int32.ofInt 0).toNatClampNeg (Int32.ofInt 160).toNatClampNeg)).1 19) ((sA (sA (sF (sF (sF (sF (sF s 2 0 z1) 2 1 z5) 2 2 z9) 2 3 z13) 2 4 (Int32.ofInt (-1))) 3 (va_cpy ((sF (sF (sF (sF (sF s 2 0 z1) 2 1 z5) 2 2 z9) 2 3 z13) 2 4 (Int32.ofInt (-1))).1 17) ((sF (sF (sF (sF (sF s 2 0 z1) 2 1 z5) 2 2 z9) 2 3 z13) 2 4 (Int32.ofInt (-1))).1 3) (Int32.ofInt 0).toNatClampNeg (Int32.ofInt 0).toNatClampNeg (Int32.ofInt 32).toNatClampNeg)) 4 (va_cpy ((sA (sF (sF (sF (sF (sF s 2 0 z1) 2 1 z5) 2 2 z9) 2 3 z13) 2 4 (Int32.ofInt (-1))) 3 (va_cpy ((sF (sF (sF (sF (sF s 2 0 z1) 2 1 z5) 2 2 z9) 2 3 z13) 2 4 (Int32.ofInt (-1))).1 17) ((sF (sF (sF (sF (sF s 2 0 z1) 2 1 z5) 2 2 z9) 2 3 z13) 2 4 (Int32.ofInt (-1))).1 3) (Int32.ofInt 0).toNatClampNeg (Int32.ofInt 0).toNatClampNeg (Int32.ofInt 32).toNatClampNeg)).1 18) ((sA (sF (sF (sF (sF (sF s 2 0 z1) 2 1 z5) 2 2 z9) 2 3 z13) 2 4 (Int32.ofInt (-1))) 3 (va_cpy ((sF (sF (sF (sF (sF s 2 0 z1) 2 1 z5) 2 2 z9) 2 3 z13) 2 4 (Int32.ofInt (-1))).1 17) ((sF (sF (sF (sF (sF s 2 0 z1) 2 1 z5) 2 2 z9) 2 3 z13) 2 4 (Int32.ofInt (-1))).1 3) (Int32.ofInt 0).toNatClampNeg (Int32.ofInt 0).toNatClampNeg (Int32.ofInt 32).toNatClampNeg)).1 4) (Int32.ofInt 0).toNatClampNeg (Int32.ofInt 0).toNatClampNeg (Int32.ofInt 160).toNatClampNeg)).1 5) (Int32.ofInt 0).toNatClampNeg (Int32.ofInt 0).toNatClampNeg (Int32.ofInt 160).toNatClampNeg)) 6 (va_cpy ((sA (sA (sA (sF (sF (sF (sF (sF s 2 0 z1) 2 1 z5) 2 2 z9) 2 3 z13) 2 4 (Int32.ofInt (-1))) 3 (va_cpy ((sF (sF (sF (sF (sF s 2 0 z1) 2 1 z5) 2 2 z9) 2 3 z13) 2 4 (Int32.ofInt (-1))).1 17) ((sF (sF (sF (sF (sF s 2 0 z1) 2 1 z5) 2 2 z9) 2 3 z13) 2 4 (Int32.ofInt (-1))).1 3) (Int32.ofInt 0).toNatClampNeg (Int32.ofInt 0).toNatClampNeg (Int32.ofInt 32).toNatClampNeg)) 4 (va_cpy ((sA (sF (sF (sF (sF (sF s 2 0 z1) 2 1 z5) 2 2 z9) 2 3 z13) 2 4 (Int32.ofInt (-1))) 3 (va_cpy ((sF (sF (sF (sF (sF s 2 0 z1) 2 1 z5) 2 2 z9) 2 3 z13) 2 4 (Int32.ofInt (-1))).1 17) ((sF (sF (sF (sF (sF s 2 0 z1) 2 1 z5) 2 2 z9) 2 3 z13) 2 4 (Int32.ofInt (-1))).1 3) (Int32.ofInt 0).toNatClampNeg (Int32.ofInt 0).toNatClampNeg (Int32.ofInt 32).toNatClampNeg)).1 18) ((sA (sF (sF (sF (sF (sF s 2 0 z1) 2 1 z5) 2 2 z9) 2 3 z13) 2 4 (Int32.ofInt (-1))) 3 (va_cpy ((sF (sF (sF (sF (sF s 2 0 z1) 2 1 z5) 2 2 z9) 2 3 z13) 2 4 (Int32.ofInt (-1))).1 17) ((sF (sF (sF (sF (sF s 2 0 z1) 2 1 z5) 2 2 z9) 2 3 z13) 2 4 (Int32.ofInt (-1))).1 3) (Int32.ofInt 0).toNatClampNeg (Int32.ofInt 0).toNatClampNeg (Int32.ofInt 32).toNatClampNeg)).1 4) (Int32.ofInt 0).toNatClampNeg (Int32.ofInt 0).toNatClampNeg (Int32.ofInt 160).toNatClampNeg)) 5 (va_cpy ((sA (sA (sF (sF (sF (sF (sF s 2 0 z1) 2 1 z5) 2 2 z9) 2 3 z13) 2 4 (Int32.ofInt (-1))) 3 (va_cpy ((sF (sF (sF (sF (sF s 2 0 z1) 2 1 z5) 2 2 z9) 2 3 z13) 2 4 (Int32.ofInt (-1))).1 17) ((sF (sF (sF (sF (sF s 2 0 z1) 2 1 z5) 2 2 z9) 2 3 z13) 2 4 (Int32.ofInt (-1))).1 3) (Int32.ofInt 0).toNatClampNeg (Int32.ofInt 0).toNatClampNeg (Int32.ofInt 32).toNatClampNeg)) 4 (va_cpy ((sA (sF (sF (sF (sF (sF s 2 0 z1) 2 1 z5) 2 2 z9) 2 3 z13) 2 4 (Int32.ofInt (-1))) 3 (va_cpy ((sF (sF (sF (sF (sF s 2 0 z1) 2 1 z5) 2 2 z9) 2 3 z13) 2 4 (Int32.ofInt (-1))).1 17) ((sF (sF (sF (sF (sF s 2 0 z1) 2 1 z5) 2 2 z9) 2 3 z13) 2 4 (Int32.ofInt (-1))).1 3) (Int32.ofInt 0).toNatClampNeg (Int32.ofInt 0).toNatClampNeg (Int32.ofInt 32).toNatClampNeg)).1 18) ((sA (sF (sF (sF (sF (sF s 2 0 z1) 2 1 z5) 2 2 z9) 2 3 z13) 2 4 (Int32.ofInt (-1))) 3 (va_cpy ((sF (sF (sF (sF (sF s 2 0 z1) 2 1 z5) 2 2 z9) 2 3 z13) 2 4 (Int32.ofInt (-1))).1 17) ((sF (sF (sF (sF (sF s 2 0 z1) 2 1 z5) 2 2 z9) 2 3 z13) 2 4 (Int32.ofInt (-1))).1 3) (Int32.ofInt 0).toNatClampNeg (Int32.ofInt 0).toNatClampNeg (Int32.ofInt 32).toNatClampNeg)).1 4) (Int32.ofInt 0).toNatClampNeg (Int32.ofInt 0).toNatClampNeg (Int32.ofInt 160).toNatClampNeg)).1 19) ((sA (sA (sF (sF (sF (sF (sF s 2 0 z1) 2 1 z5) 2 2 z9) 2 3 z13) 2 4 (Int32.ofInt (-1))) 3 (va_cpy ((sF (sF (sF (sF (sF s 2 0 z1) 2 1 z5) 2 2 z9) 2 3 z13) 2 4 (Int32.ofInt (-1))).1 17) ((sF (sF (sF (sF (sF s 2 0 z1) 2 1 z5) 2 2 z9) 2 3 z13) 2 4 (Int32.ofInt (-1))).1 3) (Int32.ofInt 0).toNatClampNeg (Int32.ofInt 0).toNatClampNeg (Int32.ofInt 32).toNatClampNeg)) 4 (va_cpy ((sA (sF (sF (sF (sF (sF s 2 0 z1) 2 1 z5) 2 2 z9) 2 3 z13) 2 4 (Int32.ofInt (-1))) 3 (va_cpy ((sF (sF (sF (sF (sF s 2 0 z1) 2 1 z5) 2 2 z9) 2 3 z13) 2 4 (Int32.ofInt (-1))).1 17) ((sF (sF (sF (sF (sF s 2 0 z1) 2 1 z5) 2 2 z9) 2 3 z13) 2 4 (Int32.ofInt (-1))).1 3) (Int32.ofInt 0).toNatClampNeg (Int32.ofInt 0).toNatClampNeg (Int32.ofInt 32).toNatClampNeg)).1 18) ((sA (sF (sF (sF (sF (sF s 2 0 z1) 2 1 z5) 2 2 z9) 2 3 z13) 2 4 (Int32.ofInt (-1))) 3 (va_cpy ((sF (sF (sF (sF (sF s 2 0 z1) 2 1 z5) 2 2 z9) 2 3 z13) 2 4 (Int32.ofInt (-1))).1 17) ((sF (sF (sF (sF (sF s 2 0 z1) 2 1 z5) 2 2 z9) 2 3 z13) 2 4 (Int32.ofInt (-1))).1 3) (Int32.ofInt 0).toNatClampNeg (Int32.ofInt 0).toNatClampNeg (Int32.ofInt 32).toNatClampNeg)).1 4) (Int32.ofInt 0).toNatClampNeg (Int32.ofInt 0).toNatClampNeg (Int32.ofInt 160).toNatClampNeg)).1 5) (Int32.ofInt 0).toNatClampNeg (Int32.ofInt 0).toNatClampNeg (Int32.ofInt 160).toNatClampNeg)).1 20) ((sA (sA (sA (sF (sF (sF (sF (sF s 2 0 z1) 2 1 z5) 2 2 z9) 2 3 z13) 2 4 (Int32.ofInt (-1))) 3 (va_cpy ((sF (sF (sF (sF (sF s 2 0 z1) 2 1 z5) 2 2 z9) 2 3 z13) 2 4 (Int32.ofInt (-1))).1 17) ((sF (sF (sF (sF (sF s 2 0 z1) 2 1 z5) 2 2 z9) 2 3 z13) 2 4 (Int32.ofInt (-1))).1 3) (Int32.ofInt 0).toNatClampNeg (Int32.ofInt 0).toNatClampNeg (Int32.ofInt 32).toNatClampNeg)) 4 (va_cpy ((sA (sF (sF (sF (sF (sF s 2 0 z1) 2 1 z5) 2 2 z9) 2 3 z13) 2 4 (Int32.ofInt (-1))) 3 (va_cpy ((sF (sF (sF (sF (sF s 2 0 z1) 2 1 z5) 2 2 z9) 2 3 z13) 2 4 (Int32.ofInt (-1))).1 17) ((sF (sF (sF (sF (sF s 2 0 z1) 2 1 z5) 2 2 z9) 2 3 z13) 2 4 (Int32.ofInt (-1))).1 3) (Int32.ofInt 0).toNatClampNeg (Int32.ofInt 0).toNatClampNeg (Int32.ofInt 32).toNatClampNeg)).1 18) ((sA (sF (sF (sF (sF (sF s 2 0 z1) 2 1 z5) 2 2 z9) 2 3 z13) 2 4 (Int32.ofInt (-1))) 3 (va_cpy ((sF (sF (sF (sF (sF s 2 0 z1) 2 1 z5) 2 2 z9) 2 3 z13) 2 4 (Int32.ofInt (-1))).1 17) ((sF (sF (sF (sF (sF s 2 0 z1) 2 1 z5) 2 2 z9) 2 3 z13) 2 4 (Int32.ofInt (-1))).1 3) (Int32.ofInt 0).toNatClampNeg (Int32.ofInt 0).toNatClampNeg (Int32.ofInt 32).toNatClampNeg)).1 4) (Int32.ofInt 0).toNatClampNeg (Int32.ofInt 0).toNatClampNeg (Int32.ofInt 160).toNatClampNeg)) 5 (va_cpy ((sA (sA (sF (sF (sF (sF (sF s 2 0 z1) 2 1 z5) 2 2 z9) 2 3 z13) 2 4 (Int32.ofInt (-1))) 3 (va_cpy ((sF (sF (sF (sF (sF s 2 0 z1) 2 1 z5) 2 2 z9) 2 3 z13) 2 4 (Int32.ofInt (-1))).1 17) ((sF (sF (sF (sF (sF s 2 0 z1) 2 1 z5) 2 2 z9) 2 3 z13) 2 4 (Int32.ofInt (-1))).1 3) (Int32.ofInt 0).toNatClampNeg (Int32.ofInt 0).toNatClampNeg (Int32.ofInt 32).toNatClampNeg)) 4 (va_cpy ((sA (sF (sF (sF (sF (sF s 2 0 z1) 2 1 z5) 2 2 z9) 2 3 z13) 2 4 (Int32.ofInt (-1))) 3 (va_cpy ((sF (sF (sF (sF (sF s 2 0 z1) 2 1 z5) 2 2 z9) 2 3 z13) 2 4 (Int32.ofInt (-1))).1 17) ((sF (sF (sF (sF (sF s 2 0 z1) 2 1 z5) 2 2 z9) 2 3 z13) 2 4 (Int32.ofInt (-1))).1 3) (Int32.ofInt 0).toNatClampNeg (Int32.ofInt 0).toNatClampNeg (Int32.ofInt 32).toNatClampNeg)).1 18) ((sA (sF (sF (sF (sF (sF s 2 0 z1) 2 1 z5) 2 2 z9) 2 3 z13) 2 4 (Int32.ofInt (-1))) 3 (va_cpy ((sF (sF (sF (sF (sF s 2 0 z1) 2 1 z5) 2 2 z9) 2 3 z13) 2 4 (Int32.ofInt (-1))).1 17) ((sF (sF (sF (sF (sF s 2 0 z1) 2 1 z5) 2 2 z9) 2 3 z13) 2 4 (Int32.ofInt (-1))).1 3) (Int32.ofInt 0).toNatClampNeg (Int32.ofInt 0).toNatClampNeg (Int32.ofInt 32).toNatClampNeg)).1 4) (Int32.ofInt 0).toNatClampNeg (Int32.ofInt 0).toNatClampNeg (Int32.ofInt 160).toNatClampNeg)).1 19) ((sA (sA (sF (sF (sF (sF (sF s 2 0 z1) 2 1 z5) 2 2 z9) 2 3 z13) 2 4 (Int32.ofInt (-1))) 3 (va_cpy ((sF (sF (sF (sF (sF s 2 0 z1) 2 1 z5) 2 2 z9) 2 3 z13) 2 4 (Int32.ofInt (-1))).1 17) ((sF (sF (sF (sF (sF s 2 0 z1) 2 1 z5) 2 2 z9) 2 3 z13) 2 4 (Int32.ofInt (-1))).1 3) (Int32.ofInt 0).toNatClampNeg (Int32.ofInt 0).toNatClampNeg (Int32.ofInt 32).toNatClampNeg)) 4 (va_cpy ((sA (sF (sF (sF (sF (sF s 2 0 z1) 2 1 z5) 2 2 z9) 2 3 z13) 2 4 (Int32.ofInt (-1))) 3 (va_cpy ((sF (sF (sF (sF (sF s 2 0 z1) 2 1 z5) 2 2 z9) 2 3 z13) 2 4 (Int32.ofInt (-1))).1 17) ((sF (sF (sF (sF (sF s 2 0 z1) 2 1 z5) 2 2 z9) 2 3 z13) 2 4 (Int32.ofInt (-1))).1 3) (Int32.ofInt 0).toNatClampNeg (Int32.ofInt 0).toNatClampNeg (Int32.ofInt 32).toNatClampNeg)).1 18) ((sA (sF (sF (sF (sF (sF s 2 0 z1) 2 1 z5) 2 2 z9) 2 3 z13) 2 4 (Int32.ofInt (-1))) 3 (va_cpy ((sF (sF (sF (sF (sF s 2 0 z1) 2 1 z5) 2 2 z9) 2 3 z13) 2 4 (Int32.ofInt (-1))).1 17) ((sF (sF (sF (sF (sF s 2 0 z1) 2 1 z5) 2 2 z9) 2 3 z13) 2 4 (Int32.ofInt (-1))).1 3) (Int32.ofInt 0).toNatClampNeg (Int32.ofInt 0).toNatClampNeg (Int32.ofInt 32).toNatClampNeg)).1 4) (Int32.ofInt 0).toNatClampNeg (Int32.ofInt 0).toNatClampNeg (Int32.ofInt 160).toNatClampNeg)).1 5) (Int32.ofInt 0).toNatClampNeg (Int32.ofInt 0).toNatClampNeg (Int32.ofInt 160).toNatClampNeg)).1 6) (Int32.ofInt 0).toNatClampNeg (Int32.ofInt 0).toNatClampNeg (Int32.ofInt 160).toNatClampNeg)) 7 (va_cpy ((sA (sA (sA (sA (sF (sF (sF (sF (sF s 2 0 z1) 2 1 z5) 2 2 z9) 2 3 z13) 2 4 (Int32.ofInt (-1))) 3 (va_cpy ((sF (sF (sF (sF (sF s 2 0 z1) 2 1 z5) 2 2 z9) 2 3 z13) 2 4 (Int32.ofInt (-1))).1 17) ((sF (sF (sF (sF (sF s 2 0 z1) 2 1 z5) 2 2 z9) 2 3 z13) 2 4 (Int32.ofInt (-1))).1 3) (Int32.ofInt 0).toNatClampNeg (Int32.ofInt 0).toNatClampNeg (Int32.ofInt 32).toNatClampNeg)) 4 (va_cpy ((sA (sF (sF (sF (sF (sF s 2 0 z1) 2 1 z5) 2 2 z9) 2 3 z13) 2 4 (Int32.ofInt (-1))) 3 (va_cpy ((sF (sF (sF (sF (sF s 2 0 z1) 2 1 z5) 2 2 z9) 2 3 z13) 2 4 (Int32.ofInt (-1))).1 17) ((sF (sF (sF (sF (sF s 2 0 z1) 2 1 z5) 2 2 z9) 2 3 z13) 2 4 (Int32.ofInt (-1))).1 3) (Int32.ofInt 0).toNatClampNeg (Int32.ofInt 0).toNatClampNeg (Int32.ofInt 32).toNatClampNeg)).1 18) ((sA (sF (sF (sF (sF (sF s 2 0 z1) 2 1 z5) 2 2 z9) 2 3 z13) 2 4 (Int32.ofInt (-1))) 3 (va_cpy ((sF (sF (sF (sF (sF s 2 0 z1) 2 1 z5) 2 2 z9) 2 3 z13) 2 4 (Int32.ofInt (-1))).1 17) ((sF (sF (sF (sF (sF s 2 0 z1) 2 1 z5) 2 2 z9) 2 3 z13) 2 4 (Int32.ofInt (-1))).1 3) (Int32.ofInt 0).toNatClampNeg (Int32.ofInt 0).toNatClampNeg (Int32.ofInt 32).toNatClampNeg)).1 4) (Int32.ofInt 0).toNatClampNeg (Int32.ofInt 0).toNatClampNeg (Int32.ofInt 160).toNatClampNeg)) 5 (va_cpy ((sA (sA (sF (sF (sF (sF (sF s 2 0 z1) 2 1 z5) 2 2 z9) 2 3 z13) 2 4 (Int32.ofInt (-1))) 3 (va_cpy ((sF (sF (sF (sF (sF s 2 0 z1) 2 1 z5) 2 2 z9) 2 3 z13) 2 4 (Int32.ofInt (-1))).1 17) ((sF (sF (sF (sF (sF s 2 0 z1) 2 1 z5) 2 2 z9) 2 3 z13) 2 4 (Int32.ofInt (-1))).1 3) (Int32.ofInt 0).toNatClampNeg (Int32.ofInt 0).toNatClampNeg (Int32.ofInt 32).toNatClampNeg)) 4 (va_cpy ((sA (sF (sF (sF (sF (sF s 2 0 z1) 2 1 z5) 2 2 z9) 2 3 z13) 2 4 (Int32.ofInt (-1))) 3 (va_cpy ((sF (sF (sF (sF (sF s 2 0 z1) 2 1 z5) 2 2 z9) 2 3 z13) 2 4 (Int32.ofInt (-1))).1 17) ((sF (sF (sF (sF (sF s 2 0 z1) 2 1 z5) 2 2 z9) 2 3 z13) 2 4 (Int32.ofInt (-1))).1 3) (Int32.ofInt 0).toNatClampNeg (Int32.ofInt 0).toNatClampNeg (Int32.ofInt 32).toNatClampNeg)).1 18) ((sA (sF (sF (sF (sF (sF s 2 0 z1) 2 1 z5) 2 2 z9) 2 3 z13) 2 4 (Int32.ofInt (-1))) 3 (va_cpy ((sF (sF (sF (sF (sF s 2 0 z1) 2 1 z5) 2 2 z9) 2 3 z13) 2 4 (Int32.ofInt (-1))).1 17) ((sF (sF (sF (sF (sF s 2 0 z1) 2 1 z5) 2 2 z9) 2 3 z13) 2 4 (Int32.ofInt (-1))).1 3) (Int32.ofInt 0).toNatClampNeg (Int32.ofInt 0).toNatClampNeg (Int32.ofInt 32).toNatClampNeg)).1 4) (Int32.ofInt 0).toNatClampNeg (Int32.ofInt 0).toNatClampNeg (Int32.ofInt 160).toNatClampNeg)).1 19) ((sA (sA (sF (sF (sF (sF (sF s 2 0 z1) 2 1 z5) 2 2 z9) 2 3 z13) 2 4 (Int32.ofInt (-1))) 3 (va_cpy ((sF (sF (sF (sF (sF s 2 0 z1) 2 1 z5) 2 2 z9) 2 3 z13) 2 4 (Int32.ofInt (-1))).1 17) ((sF (sF (sF (sF (sF s 2 0 z1) 2 1 z5) 2 2 z9) 2 3 z13) 2 4 (Int32.ofInt (-1))).1 3) (Int32.ofInt 0).toNatClampNeg (Int32.ofInt 0).toNatClampNeg (Int32.ofInt 32).toNatClampNeg)) 4 (va_cpy ((sA (sF (sF (sF (sF (sF s 2 0 z1) 2 1 z5) 2 2 z9) 2 3 z13) 2 4 (Int32.ofInt (-1))) 3 (va_cpy ((sF (sF (sF (sF (sF s 2 0 z1) 2 1 z5) 2 2 z9) 2 3 z13) 2 4 (Int32.ofInt (-1))).1 17) ((sF (sF (sF (sF (sF s 2 0 z1) 2 1 z5) 2 2 z9) 2 3 z13) 2 4 (Int32.ofInt (-1))).1 3) (Int32.ofInt 0).toNatClampNeg (Int32.ofInt 0).toNatClampNeg (Int32.ofInt 32).toNatClampNeg)).1 18) ((sA (sF (sF (sF (sF (sF s 2 0 z1) 2 1 z5) 2 2 z9) 2 3 z13) 2 4 (Int32.ofInt (-1))) 3 (va_cpy ((sF (sF (sF (sF (sF s 2 0 z1) 2 1 z5) 2 2 z9) 2 3 z13) 2 4 (Int32.ofInt (-1))).1 17) ((sF (sF (sF (sF (sF s 2 0 z1) 2 1 z5) 2 2 z9) 2 3 z13) 2 4 (Int32.ofInt (-1))).1 3) (Int32.ofInt 0).toNatClampNeg (Int32.ofInt 0).toNatClampNeg (Int32.ofInt 32).toNatClampNeg)).1 4) (Int32.ofInt 0).toNatClampNeg (Int32.ofInt 0).toNatClampNeg (Int32.ofInt 160).toNatClampNeg)).1 5) (Int32.ofInt 0).toNatClampNeg (Int32.ofInt 0).toNatClampNeg (Int32.ofInt 160).toNatClampNeg)) 6 (va_cpy ((sA (sA (sA (sF (sF (sF (sF (sF s 2 0 z1) 2 1 z5) 2 2 z9) 2 3 z13) 2 4 (Int32.ofInt (-1))) 3 (va_cpy ((sF (sF (sF (sF (sF s 2 0 z1) 2 1 z5) 2 2 z9) 2 3 z13) 2 4 (Int32.ofInt (-1))).1 17) ((sF (sF (sF (sF (sF s 2 0 z1) 2 1 z5) 2 2 z9) 2 3 z13) 2 4 (Int32.ofInt (-1))).1 3) (Int32.ofInt 0).toNatClampNeg (Int32.ofInt 0).toNatClampNeg (Int32.ofInt 32).toNatClampNeg)) 4 (va_cpy ((sA (sF (sF (sF (sF (sF s 2 0 z1) 2 1 z5) 2 2 z9) 2 3 z13) 2 4 (Int32.ofInt (-1))) 3 (va_cpy ((sF (sF (sF (sF (sF s 2 0 z1) 2 1 z5) 2 2 z9) 2 3 z13) 2 4 (Int32.ofInt (-1))).1 17) ((sF (sF (sF (sF (sF s 2 0 z1) 2 1 z5) 2 2 z9) 2 3 z13) 2 4 (Int32.ofInt (-1))).1 3) (Int32.ofInt 0).toNatClampNeg (Int32.ofInt 0).toNatClampNeg (Int32.ofInt 32).toNatClampNeg)).1 18) ((sA (sF (sF (sF (sF (sF s 2 0 z1) 2 1 z5) 2 2 z9) 2 3 z13) 2 4 (Int32.ofInt (-1))) 3 (va_cpy ((sF (sF (sF (sF (sF s 2 0 z1) 2 1 z5) 2 2 z9) 2 3 z13) 2 4 (Int32.ofInt (-1))).1 17) ((sF (sF (sF (sF (sF s 2 0 z1) 2 1 z5) 2 2 z9) 2 3 z13) 2 4 (Int32.ofInt (-1))).1 3) (Int32.ofInt 0).toNatClampNeg (Int32.ofInt 0).toNatClampNeg (Int32.ofInt 32).toNatClampNeg)).1 4) (Int32.ofInt 0).toNatClampNeg (Int32.ofInt 0).toNatClampNeg (Int32.ofInt 160).toNatClampNeg)) 5 (va_cpy ((sA (sA (sF (sF (sF (sF (sF s 2 0 z1) 2 1 z5) 2 2 z9) 2 3 z13) 2 4 (Int32.ofInt (-1))) 3 (va_cpy ((sF (sF (sF (sF (sF s 2 0 z1) 2 1 z5) 2 2 z9) 2 3 z13) 2 4 (Int32.ofInt (-1))).1 17) ((sF (sF (sF (sF (sF s 2 0 z1) 2 1 z5) 2 2 z9) 2 3 z13) 2 4 (Int32.ofInt (-1))).1 3) (Int32.ofInt 0).toNatClampNeg (Int32.ofInt 0).toNatClampNeg (Int32.ofInt 32).toNatClampNeg)) 4 (va_cpy ((sA (sF (sF (sF (sF (sF s 2 0 z1) 2 1 z5) 2 2 z9) 2 3 z13) 2 4 (Int32.ofInt (-1))) 3 (va_cpy ((sF (sF (sF (sF (sF s 2 0 z1) 2 1 z5) 2 2 z9) 2 3 z13) 2 4 (Int32.ofInt (-1))).1 17) ((sF (sF (sF (sF (sF s 2 0 z1) 2 1 z5) 2 2 z9) 2 3 z13) 2 4 (Int32.ofInt (-1))).1 3) (Int32.ofInt 0).toNatClampNeg (Int32.ofInt 0).toNatClampNeg (Int32.ofInt 32).toNatClampNeg)).1 18) ((sA (sF (sF (sF (sF (sF s 2 0 z1) 2 1 z5) 2 2 z9) 2 3 z13) 2 4 (Int32.ofInt (-1))) 3 (va_cpy ((sF (sF (sF (sF (sF s 2 0 z1) 2 1 z5) 2 2 z9) 2 3 z13) 2 4 (Int32.ofInt (-1))).1 17) ((sF (sF (sF (sF (sF s 2 0 z1) 2 1 z5) 2 2 z9) 2 3 z13) 2 4 (Int32.ofInt (-1))).1 3) (Int32.ofInt 0).toNatClampNeg (Int32.ofInt 0).toNatClampNeg (Int32.ofInt 32).toNatClampNeg)).1 4) (Int32.ofInt 0).toNatClampNeg (Int32.ofInt 0).toNatClampNeg (Int32.ofInt 160).toNatClampNeg)).1 19) ((sA (sA (sF (sF (sF (sF (sF s 2 0 z1) 2 1 z5) 2 2 z9) 2 3 z13) 2 4 (Int32.ofInt (-1))) 3 (va_cpy ((sF (sF (sF (sF (sF s 2 0 z1) 2 1 z5) 2 2 z9) 2 3 z13) 2 4 (Int32.ofInt (-1))).1 17) ((sF (sF (sF (sF (sF s 2 0 z1) 2 1 z5) 2 2 z9) 2 3 z13) 2 4 (Int32.ofInt (-1))).1 3) (Int32.ofInt 0).toNatClampNeg (Int32.ofInt 0).toNatClampNeg (Int32.ofInt 32).toNatClampNeg)) 4 (va_cpy ((sA (sF (sF (sF (sF (sF s 2 0 z1) 2 1 z5) 2 2 z9) 2 3 z13) 2 4 (Int32.ofInt (-1))) 3 (va_cpy ((sF (sF (sF (sF (sF s 2 0 z1) 2 1 z5) 2 2 z9) 2 3 z13) 2 4 (Int32.ofInt (-1))).1 17) ((sF (sF (sF (sF (sF s 2 0 z1) 2 1 z5) 2 2 z9) 2 3 z13) 2 4 (Int32.ofInt (-1))).1 3) (Int32.ofInt 0).toNatClampNeg (Int32.ofInt 0).toNatClampNeg (Int32.ofInt 32).toNatClampNeg)).1 18) ((sA (sF (sF (sF (sF (sF s 2 0 z1) 2 1 z5) 2 2 z9) 2 3 z13) 2 4 (Int32.ofInt (-1))) 3 (va_cpy ((sF (sF (sF (sF (sF s 2 0 z1) 2 1 z5) 2 2 z9) 2 3 z13) 2 4 (Int32.ofInt (-1))).1 17) ((sF (sF (sF (sF (sF s 2 0 z1) 2 1 z5) 2 2 z9) 2 3 z13) 2 4 (Int32.ofInt (-1))).1 3) (Int32.ofInt 0).toNatClampNeg (Int32.ofInt 0).toNatClampNeg (Int32.ofInt 32).toNatClampNeg)).1 4) (Int32.ofInt 0).toNatClampNeg (Int32.ofInt 0).toNatClampNeg (Int32.ofInt 160).toNatClampNeg)).1 5) (Int32.ofInt 0).toNatClampNeg (Int32.ofInt 0).toNatClampNeg (Int32.ofInt 160).toNatClampNeg)).1 20) ((sA (sA (sA (sF (sF (sF (sF (sF s 2 0 z1) 2 1 z5) 2 2 z9) 2 3 z13) 2 4 (Int32.ofInt (-1))) 3 (va_cpy ((sF (sF (sF (sF (sF s 2 0 z1) 2 1 z5) 2 2 z9) 2 3 z13) 2 4 (Int32.ofInt (-1))).1 17) ((sF (sF (sF (sF (sF s 2 0 z1) 2 1 z5) 2 2 z9) 2 3 z13) 2 4 (Int32.ofInt (-1))).1 3) (Int32.ofInt 0).toNatClampNeg (Int32.ofInt 0).toNatClampNeg (Int32.ofInt 32).toNatClampNeg)) 4 (va_cpy ((sA (sF (sF (sF (sF (sF s 2 0 z1) 2 1 z5) 2 2 z9) 2 3 z13) 2 4 (Int32.ofInt (-1))) 3 (va_cpy ((sF (sF (sF (sF (sF s 2 0 z1) 2 1 z5) 2 2 z9) 2 3 z13) 2 4 (Int32.ofInt (-1))).1 17) ((sF (sF (sF (sF (sF s 2 0 z1) 2 1 z5) 2 2 z9) 2 3 z13) 2 4 (Int32.ofInt (-1))).1 3) (Int32.ofInt 0).toNatClampNeg (Int32.ofInt 0).toNatClampNeg (Int32.ofInt 32).toNatClampNeg)).1 18) ((sA (sF (sF (sF (sF (sF s 2 0 z1) 2 1 z5) 2 2 z9) 2 3 z13) 2 4 (Int32.ofInt (-1))) 3 (va_cpy ((sF (sF (sF (sF (sF s 2 0 z1) 2 1 z5) 2 2 z9) 2 3 z13) 2 4 (Int32.ofInt (-1))).1 17) ((sF (sF (sF (sF (sF s 2 0 z1) 2 1 z5) 2 2 z9) 2 3 z13) 2 4 (Int32.ofInt (-1))).1 3) (Int32.ofInt 0).toNatClampNeg (Int32.ofInt 0).toNatClampNeg (Int32.ofInt 32).toNatClampNeg)).1 4) (Int32.ofInt 0).toNatClampNeg (Int32.ofInt 0).toNatClampNeg (Int32.ofInt 160).toNatClampNeg)) 5 (va_cpy ((sA (sA (sF (sF (sF (sF (sF s 2 0 z1) 2 1 z5) 2 2 z9) 2 3 z13) 2 4 (Int32.ofInt (-1))) 3 (va_cpy ((sF (sF (sF (sF (sF s 2 0 z1) 2 1 z5) 2 2 z9) 2 3 z13) 2 4 (Int32.ofInt (-1))).1 17) ((sF (sF (sF (sF (sF s 2 0 z1) 2 1 z5) 2 2 z9) 2 3 z13) 2 4 (Int32.ofInt (-1))).1 3) (Int32.ofInt 0).toNatClampNeg (Int32.ofInt 0).toNatClampNeg (Int32.ofInt 32).toNatClampNeg)) 4 (va_cpy ((sA (sF (sF (sF (sF (sF s 2 0 z1) 2 1 z5) 2 2 z9) 2 3 z13) 2 4 (Int32.ofInt (-1))) 3 (va_cpy ((sF (sF (sF (sF (sF s 2 0 z1) 2 1 z5) 2 2 z9) 2 3 z13) 2 4 (Int32.ofInt (-1))).1 17) ((sF (sF (sF (sF (sF s 2 0 z1) 2 1 z5) 2 2 z9) 2 3 z13) 2 4 (Int32.ofInt (-1))).1 3) (Int32.ofInt 0).toNatClampNeg (Int32.ofInt 0).toNatClampNeg (Int32.ofInt 32).toNatClampNeg)).1 18) ((sA (sF (sF (sF (sF (sF s 2 0 z1) 2 1 z5) 2 2 z9) 2 3 z13) 2 4 (Int32.ofInt (-1))) 3 (va_cpy ((sF (sF (sF (sF (sF s 2 0 z1) 2 1 z5) 2 2 z9) 2 3 z13) 2 4 (Int32.ofInt (-1))).1 17) ((sF (sF (sF (sF (sF s 2 0 z1) 2 1 z5) 2 2 z9) 2 3 z13) 2 4 (Int32.ofInt (-1))).1 3) (Int32.ofInt 0).toNatClampNeg (Int32.ofInt 0).toNatClampNeg (Int32.ofInt 32).toNatClampNeg)).1 4) (Int32.ofInt 0).toNatClampNeg (Int32.ofInt 0).toNatClampNeg (Int32.ofInt 160).toNatClampNeg)).1 19) ((sA (sA (sF (sF (sF (sF (sF s 2 0 z1) 2 1 z5) 2 2 z9) 2 3 z13) 2 4 (Int32.ofInt (-1))) 3 (va_cpy ((sF (sF (sF (sF (sF s 2 0 z1) 2 1 z5) 2 2 z9) 2 3 z13) 2 4 (Int32.ofInt (-1))).1 17) ((sF (sF (sF (sF (sF s 2 0 z1) 2 1 z5) 2 2 z9) 2 3 z13) 2 4 (Int32.ofInt (-1))).1 3) (Int32.ofInt 0).toNatClampNeg (Int32.ofInt 0).toNatClampNeg (Int32.ofInt 32).toNatClampNeg)) 4 (va_cpy ((sA (sF (sF (sF (sF (sF s 2 0 z1) 2 1 z5) 2 2 z9) 2 3 z13) 2 4 (Int32.ofInt (-1))) 3 (va_cpy ((sF (sF (sF (sF (sF s 2 0 z1) 2 1 z5) 2 2 z9) 2 3 z13) 2 4 (Int32.ofInt (-1))).1 17) ((sF (sF (sF (sF (sF s 2 0 z1) 2 1 z5) 2 2 z9) 2 3 z13) 2 4 (Int32.ofInt (-1))).1 3) (Int32.ofInt 0).toNatClampNeg (Int32.ofInt 0).toNatClampNeg (Int32.ofInt 32).toNatClampNeg)).1 18) ((sA (sF (sF (sF (sF (sF s 2 0 z1) 2 1 z5) 2 2 z9) 2 3 z13) 2 4 (Int32.ofInt (-1))) 3 (va_cpy ((sF (sF (sF (sF (sF s 2 0 z1) 2 1 z5) 2 2 z9) 2 3 z13) 2 4 (Int32.ofInt (-1))).1 17) ((sF (sF (sF (sF (sF s 2 0 z1) 2 1 z5) 2 2 z9) 2 3 z13) 2 4 (Int32.ofInt (-1))).1 3) (Int32.ofInt 0).toNatClampNeg (Int32.ofInt 0).toNatClampNeg (Int32.ofInt 32).toNatClampNeg)).1 4) (Int32.ofInt 0).toNatClampNeg (Int32.ofInt 0).toNatClampNeg (Int32.ofInt 160).toNatClampNeg)).1 5) (Int32.ofInt 0).toNatClampNeg (Int32.ofInt 0).toNatClampNeg (Int32.ofInt 160).toNatClampNeg)).1 6) (Int32.ofInt 0).toNatClampNeg (Int32.ofInt 0).toNatClampNeg (Int32.ofInt 160).toNatClampNeg)).1 21) ((sA (sA (sA (sA (sF (sF (sF (sF (sF s 2 0 z1) 2 1 z5) 2 2 z9) 2 3 z13) 2 4 (Int32.ofInt (-1))) 3 (va_cpy ((sF (sF (sF (sF (sF s 2 0 z1) 2 1 z5) 2 2 z9) 2 3 z13) 2 4 (Int32.ofInt (-1))).1 17) ((sF (sF (sF (sF (sF s 2 0 z1) 2 1 z5) 2 2 z9) 2 3 z13) 2 4 (Int32.ofInt (-1))).1 3) (Int32.ofInt 0).toNatClampNeg (Int32.ofInt 0).toNatClampNeg (Int32.ofInt 32).toNatClampNeg)) 4 (va_cpy ((sA (sF (sF (sF (sF (sF s 2 0 z1) 2 1 z5) 2 2 z9) 2 3 z13) 2 4 (Int32.ofInt (-1))) 3 (va_cpy ((sF (sF (sF (sF (sF s 2 0 z1) 2 1 z5) 2 2 z9) 2 3 z13) 2 4 (Int32.ofInt (-1))).1 17) ((sF (sF (sF (sF (sF s 2 0 z1) 2 1 z5) 2 2 z9) 2 3 z13) 2 4 (Int32.ofInt (-1))).1 3) (Int32.ofInt 0).toNatClampNeg (Int32.ofInt 0).toNatClampNeg (Int32.ofInt 32).toNatClampNeg)).1 18) ((sA (sF (sF (sF (sF (sF s 2 0 z1) 2 1 z5) 2 2 z9) 2 3 z13) 2 4 (Int32.ofInt (-1))) 3 (va_cpy ((sF (sF (sF (sF (sF s 2 0 z1) 2 1 z5) 2 2 z9) 2 3 z13) 2 4 (Int32.ofInt (-1))).1 17) ((sF (sF (sF (sF (sF s 2 0 z1) 2 1 z5) 2 2 z9) 2 3 z13) 2 4 (Int32.ofInt (-1))).1 3) (Int32.ofInt 0).toNatClampNeg (Int32.ofInt 0).toNatClampNeg (Int32.ofInt 32).toNatClampNeg)).1 4) (Int32.ofInt 0).toNatClampNeg (Int32.ofInt 0).toNatClampNeg (Int32.ofInt 160).toNatClampNeg)) 5 (va_cpy ((sA (sA (sF (sF (sF (sF (sF s 2 0 z1) 2 1 z5) 2 2 z9) 2 3 z13) 2 4 (Int32.ofInt (-1))) 3 (va_cpy ((sF (sF (sF (sF (sF s 2 0 z1) 2 1 z5) 2 2 z9) 2 3 z13) 2 4 (Int32.ofInt (-1))).1 17) ((sF (sF (sF (sF (sF s 2 0 z1) 2 1 z5) 2 2 z9) 2 3 z13) 2 4 (Int32.ofInt (-1))).1 3) (Int32.ofInt 0).toNatClampNeg (Int32.ofInt 0).toNatClampNeg (Int32.ofInt 32).toNatClampNeg)) 4 (va_cpy ((sA (sF (sF (sF (sF (sF s 2 0 z1) 2 1 z5) 2 2 z9) 2 3 z13) 2 4 (Int32.ofInt (-1))) 3 (va_cpy ((sF (sF (sF (sF (sF s 2 0 z1) 2 1 z5) 2 2 z9) 2 3 z13) 2 4 (Int32.ofInt (-1))).1 17) ((sF (sF (sF (sF (sF s 2 0 z1) 2 1 z5) 2 2 z9) 2 3 z13) 2 4 (Int32.ofInt (-1))).1 3) (Int32.ofInt 0).toNatClampNeg (Int32.ofInt 0).toNatClampNeg (Int32.ofInt 32).toNatClampNeg)).1 18) ((sA (sF (sF (sF (sF (sF s 2 0 z1) 2 1 z5) 2 2 z9) 2 3 z13) 2 4 (Int32.ofInt (-1))) 3 (va_cpy ((sF (sF (sF (sF (sF s 2 0 z1) 2 1 z5) 2 2 z9) 2 3 z13) 2 4 (Int32.ofInt (-1))).1 17) ((sF (sF (sF (sF (sF s 2 0 z1) 2 1 z5) 2 2 z9) 2 3 z13) 2 4 (Int32.ofInt (-1))).1 3) (Int32.ofInt 0).toNatClampNeg (Int32.ofInt 0).toNatClampNeg (Int32.ofInt 32).toNatClampNeg)).1 4) (Int32.ofInt 0).toNatClampNeg (Int32.ofInt 0).toNatClampNeg (Int32.ofInt 160).toNatClampNeg)).1 19) ((sA (sA (sF (sF (sF (sF (sF s 2 0 z1) 2 1 z5) 2 2 z9) 2 3 z13) 2 4 (Int32.ofInt (-1))) 3 (va_cpy ((sF (sF (sF (sF (sF s 2 0 z1) 2 1 z5) 2 2 z9) 2 3 z13) 2 4 (Int32.ofInt (-1))).1 17) ((sF (sF (sF (sF (sF s 2 0 z1) 2 1 z5) 2 2 z9) 2 3 z13) 2 4 (Int32.ofInt (-1))).1 3) (Int32.ofInt 0).toNatClampNeg (Int32.ofInt 0).toNatClampNeg (Int32.ofInt 32).toNatClampNeg)) 4 (va_cpy ((sA (sF (sF (sF (sF (sF s 2 0 z1) 2 1 z5) 2 2 z9) 2 3 z13) 2 4 (Int32.ofInt (-1))) 3 (va_cpy ((sF (sF (sF (sF (sF s 2 0 z1) 2 1 z5) 2 2 z9) 2 3 z13) 2 4 (Int32.ofInt (-1))).1 17) ((sF (sF (sF (sF (sF s 2 0 z1) 2 1 z5) 2 2 z9) 2 3 z13) 2 4 (Int32.ofInt (-1))).1 3) (Int32.ofInt 0).toNatClampNeg (Int32.ofInt 0).toNatClampNeg (Int32.ofInt 32).toNatClampNeg)).1 18) ((sA (sF (sF (sF (sF (sF s 2 0 z1) 2 1 z5) 2 2 z9) 2 3 z13) 2 4 (Int32.ofInt (-1))) 3 (va_cpy ((sF (sF (sF (sF (sF s 2 0 z1) 2 1 z5) 2 2 z9) 2 3 z13) 2 4 (Int32.ofInt (-1))).1 17) ((sF (sF (sF (sF (sF s 2 0 z1) 2 1 z5) 2 2 z9) 2 3 z13) 2 4 (Int32.ofInt (-1))).1 3) (Int32.ofInt 0).toNatClampNeg (Int32.ofInt 0).toNatClampNeg (Int32.ofInt 32).toNatClampNeg)).1 4) (Int32.ofInt 0).toNatClampNeg (Int32.ofInt 0).toNatClampNeg (Int32.ofInt 160).toNatClampNeg)).1 5) (Int32.ofInt 0).toNatClampNeg (Int32.ofInt 0).toNatClampNeg (Int32.ofInt 160).toNatClampNeg)) 6 (va_cpy ((sA (sA (sA (sF (sF (sF (sF (sF s 2 0 z1) 2 1 z5) 2 2 z9) 2 3 z13) 2 4 (Int32.ofInt (-1))) 3 (va_cpy ((sF (sF (sF (sF (sF s 2 0 z1) 2 1 z5) 2 2 z9) 2 3 z13) 2 4 (Int32.ofInt (-1))).1 17) ((sF (sF (sF (sF (sF s 2 0 z1) 2 1 z5) 2 2 z9) 2 3 z13) 2 4 (Int32.ofInt (-1))).1 3) (Int32.ofInt 0).toNatClampNeg (Int32.ofInt 0).toNatClampNeg (Int32.ofInt 32).toNatClampNeg)) 4 (va_cpy ((sA (sF (sF (sF (sF (sF s 2 0 z1) 2 1 z5) 2 2 z9) 2 3 z13) 2 4 (Int32.ofInt (-1))) 3 (va_cpy ((sF (sF (sF (sF (sF s 2 0 z1) 2 1 z5) 2 2 z9) 2 3 z13) 2 4 (Int32.ofInt (-1))).1 17) ((sF (sF (sF (sF (sF s 2 0 z1) 2 1 z5) 2 2 z9) 2 3 z13) 2 4 (Int32.ofInt (-1))).1 3) (Int32.ofInt 0).toNatClampNeg (Int32.ofInt 0).toNatClampNeg (Int32.ofInt 32).toNatClampNeg)).1 18) ((sA (sF (sF (sF (sF (sF s 2 0 z1) 2 1 z5) 2 2 z9) 2 3 z13) 2 4 (Int32.ofInt (-1))) 3 (va_cpy ((sF (sF (sF (sF (sF s 2 0 z1) 2 1 z5) 2 2 z9) 2 3 z13) 2 4 (Int32.ofInt (-1))).1 17) ((sF (sF (sF (sF (sF s 2 0 z1) 2 1 z5) 2 2 z9) 2 3 z13) 2 4 (Int32.ofInt (-1))).1 3) (Int32.ofInt 0).toNatClampNeg (Int32.ofInt 0).toNatClampNeg (Int32.ofInt 32).toNatClampNeg)).1 4) (Int32.ofInt 0).toNatClampNeg (Int32.ofInt 0).toNatClampNeg (Int32.ofInt 160).toNatClampNeg)) 5 (va_cpy ((sA (sA (sF (sF (sF (sF (sF s 2 0 z1) 2 1 z5) 2 2 z9) 2 3 z13) 2 4 (Int32.ofInt (-1))) 3 (va_cpy ((sF (sF (sF (sF (sF s 2 0 z1) 2 1 z5) 2 2 z9) 2 3 z13) 2 4 (Int32.ofInt (-1))).1 17) ((sF (sF (sF (sF (sF s 2 0 z1) 2 1 z5) 2 2 z9) 2 3 z13) 2 4 (Int32.ofInt (-1))).1 3) (Int32.ofInt 0).toNatClampNeg (Int32.ofInt 0).toNatClampNeg (Int32.ofInt 32).toNatClampNeg)) 4 (va_cpy ((sA (sF (sF (sF (sF (sF s 2 0 z1) 2 1 z5) 2 2 z9) 2 3 z13) 2 4 (Int32.ofInt (-1))) 3 (va_cpy ((sF (sF (sF (sF (sF s 2 0 z1) 2 1 z5) 2 2 z9) 2 3 z13) 2 4 (Int32.ofInt (-1))).1 17) ((sF (sF (sF (sF (sF s 2 0 z1) 2 1 z5) 2 2 z9) 2 3 z13) 2 4 (Int32.ofInt (-1))).1 3) (Int32.ofInt 0).toNatClampNeg (Int32.ofInt 0).toNatClampNeg (Int32.ofInt 32).toNatClampNeg)).1 18) ((sA (sF (sF (sF (sF (sF s 2 0 z1) 2 1 z5) 2 2 z9) 2 3 z13) 2 4 (Int32.ofInt (-1))) 3 (va_cpy ((sF (sF (sF (sF (sF s 2 0 z1) 2 1 z5) 2 2 z9) 2 3 z13) 2 4 (Int32.ofInt (-1))).1 17) ((sF (sF (sF (sF (sF s 2 0 z1) 2 1 z5) 2 2 z9) 2 3 z13) 2 4 (Int32.ofInt (-1))).1 3) (Int32.ofInt 0).toNatClampNeg (Int32.ofInt 0).toNatClampNeg (Int32.ofInt 32).toNatClampNeg)).1 4) (Int32.ofInt 0).toNatClampNeg (Int32.ofInt 0).toNatClampNeg (Int32.ofInt 160).toNatClampNeg)).1 19) ((sA (sA (sF (sF (sF (sF (sF s 2 0 z1) 2 1 z5) 2 2 z9) 2 3 z13) 2 4 (Int32.ofInt (-1))) 3 (va_cpy ((sF (sF (sF (sF (sF s 2 0 z1) 2 1 z5) 2 2 z9) 2 3 z13) 2 4 (Int32.ofInt (-1))).1 17) ((sF (sF (sF (sF (sF s 2 0 z1) 2 1 z5) 2 2 z9) 2 3 z13) 2 4 (Int32.ofInt (-1))).1 3) (Int32.ofInt 0).toNatClampNeg (Int32.ofInt 0).toNatClampNeg (Int32.ofInt 32).toNatClampNeg)) 4 (va_cpy ((sA (sF (sF (sF (sF (sF s 2 0 z1) 2 1 z5) 2 2 z9) 2 3 z13) 2 4 (Int32.ofInt (-1))) 3 (va_cpy ((sF (sF (sF (sF (sF s 2 0 z1) 2 1 z5) 2 2 z9) 2 3 z13) 2 4 (Int32.ofInt (-1))).1 17) ((sF (sF (sF (sF (sF s 2 0 z1) 2 1 z5) 2 2 z9) 2 3 z13) 2 4 (Int32.ofInt (-1))).1 3) (Int32.ofInt 0).toNatClampNeg (Int32.ofInt 0).toNatClampNeg (Int32.ofInt 32).toNatClampNeg)).1 18) ((sA (sF (sF (sF (sF (sF s 2 0 z1) 2 1 z5) 2 2 z9) 2 3 z13) 2 4 (Int32.ofInt (-1))) 3 (va_cpy ((sF (sF (sF (sF (sF s 2 0 z1) 2 1 z5) 2 2 z9) 2 3 z13) 2 4 (Int32.ofInt (-1))).1 17) ((sF (sF (sF (sF (sF s 2 0 z1) 2 1 z5) 2 2 z9) 2 3 z13) 2 4 (Int32.ofInt (-1))).1 3) (Int32.ofInt 0).toNatClampNeg (Int32.ofInt 0).toNatClampNeg (Int32.ofInt 32).toNatClampNeg)).1 4) (Int32.ofInt 0).toNatClampNeg (Int32.ofInt 0).toNatClampNeg (Int32.ofInt 160).toNatClampNeg)).1 5) (Int32.ofInt 0).toNatClampNeg (Int32.ofInt 0).toNatClampNeg (Int32.ofInt 160).toNatClampNeg)).1 20) ((sA (sA (sA (sF (sF (sF (sF (sF s 2 0 z1) 2 1 z5) 2 2 z9) 2 3 z13) 2 4 (Int32.ofInt (-1))) 3 (va_cpy ((sF (sF (sF (sF (sF s 2 0 z1) 2 1 z5) 2 2 z9) 2 3 z13) 2 4 (Int32.ofInt (-1))).1 17) ((sF (sF (sF (sF (sF s 2 0 z1) 2 1 z5) 2 2 z9) 2 3 z13) 2 4 (Int32.ofInt (-1))).1 3) (Int32.ofInt 0).toNatClampNeg (Int32.ofInt 0).toNatClampNeg (Int32.ofInt 32).toNatClampNeg)) 4 (va_cpy ((sA (sF (sF (sF (sF (sF s 2 0 z1) 2 1 z5) 2 2 z9) 2 3 z13) 2 4 (Int32.ofInt (-1))) 3 (va_cpy ((sF (sF (sF (sF (sF s 2 0 z1) 2 1 z5) 2 2 z9) 2 3 z13) 2 4 (Int32.ofInt (-1))).1 17) ((sF (sF (sF (sF (sF s 2 0 z1) 2 1 z5) 2 2 z9) 2 3 z13) 2 4 (Int32.ofInt (-1))).1 3) (Int32.ofInt 0).toNatClampNeg (Int32.ofInt 0).toNatClampNeg (Int32.ofInt 32).toNatClampNeg)).1 18) ((sA (sF (sF (sF (sF (sF s 2 0 z1) 2 1 z5) 2 2 z9) 2 3 z13) 2 4 (Int32.ofInt (-1))) 3 (va_cpy ((sF (sF (sF (sF (sF s 2 0 z1) 2 1 z5) 2 2 z9) 2 3 z13) 2 4 (Int32.ofInt (-1))).1 17) ((sF (sF (sF (sF (sF s 2 0 z1) 2 1 z5) 2 2 z9) 2 3 z13) 2 4 (Int32.ofInt (-1))).1 3) (Int32.ofInt 0).toNatClampNeg (Int32.ofInt 0).toNatClampNeg (Int32.ofInt 32).toNatClampNeg)).1 4) (Int32.ofInt 0).toNatClampNeg (Int32.ofInt 0).toNatClampNeg (Int32.ofInt 160).toNatClampNeg)) 5 (va_cpy ((sA (sA (sF (sF (sF (sF (sF s 2 0 z1) 2 1 z5) 2 2 z9) 2 3 z13) 2 4 (Int32.ofInt (-1))) 3 (va_cpy ((sF (sF (sF (sF (sF s 2 0 z1) 2 1 z5) 2 2 z9) 2 3 z13) 2 4 (Int32.ofInt (-1))).1 17) ((sF (sF (sF (sF (sF s 2 0 z1) 2 1 z5) 2 2 z9) 2 3 z13) 2 4 (Int32.ofInt (-1))).1 3) (Int32.ofInt 0).toNatClampNeg (Int32.ofInt 0).toNatClampNeg (Int32.ofInt 32).toNatClampNeg)) 4 (va_cpy ((sA (sF (sF (sF (sF (sF s 2 0 z1) 2 1 z5) 2 2 z9) 2 3 z13) 2 4 (Int32.ofInt (-1))) 3 (va_cpy ((sF (sF (sF (sF (sF s 2 0 z1) 2 1 z5) 2 2 z9) 2 3 z13) 2 4 (Int32.ofInt (-1))).1 17) ((sF (sF (sF (sF (sF s 2 0 z1) 2 1 z5) 2 2 z9) 2 3 z13) 2 4 (Int32.ofInt (-1))).1 3) (Int32.ofInt 0).toNatClampNeg (Int32.ofInt 0).toNatClampNeg (Int32.ofInt 32).toNatClampNeg)).1 18) ((sA (sF (sF (sF (sF (sF s 2 0 z1) 2 1 z5) 2 2 z9) 2 3 z13) 2 4 (Int32.ofInt (-1))) 3 (va_cpy ((sF (sF (sF (sF (sF s 2 0 z1) 2 1 z5) 2 2 z9) 2 3 z13) 2 4 (Int32.ofInt (-1))).1 17) ((sF (sF (sF (sF (sF s 2 0 z1) 2 1 z5) 2 2 z9) 2 3 z13) 2 4 (Int32.ofInt (-1))).1 3) (Int32.ofInt 0).toNatClampNeg (Int32.ofInt 0).toNatClampNeg (Int32.ofInt 32).toNatClampNeg)).1 4) (Int32.ofInt 0).toNatClampNeg (Int32.ofInt 0).toNatClampNeg (Int32.ofInt 160).toNatClampNeg)).1 19) ((sA (sA (sF (sF (sF (sF (sF s 2 0 z1) 2 1 z5) 2 2 z9) 2 3 z13) 2 4 (Int32.ofInt (-1))) 3 (va_cpy ((sF (sF (sF (sF (sF s 2 0 z1) 2 1 z5) 2 2 z9) 2 3 z13) 2 4 (Int32.ofInt (-1))).1 17) ((sF (sF (sF (sF (sF s 2 0 z1) 2 1 z5) 2 2 z9) 2 3 z13) 2 4 (Int32.ofInt (-1))).1 3) (Int32.ofInt 0).toNatClampNeg (Int32.ofInt 0).toNatClampNeg (Int32.ofInt 32).toNatClampNeg)) 4 (va_cpy ((sA (sF (sF (sF (sF (sF s 2 0 z1) 2 1 z5) 2 2 z9) 2 3 z13) 2 4 (Int32.ofInt (-1))) 3 (va_cpy ((sF (sF (sF (sF (sF s 2 0 z1) 2 1 z5) 2 2 z9) 2 3 z13) 2 4 (Int32.ofInt (-1))).1 17) ((sF (sF (sF (sF (sF s 2 0 z1) 2 1 z5) 2 2 z9) 2 3 z13) 2 4 (Int32.ofInt (-1))).1 3) (Int32.ofInt 0).toNatClampNeg (Int32.ofInt 0).toNatClampNeg (Int32.ofInt 32).toNatClampNeg)).1 18) ((sA (sF (sF (sF (sF (sF s 2 0 z1) 2 1 z5) 2 2 z9) 2 3 z13) 2 4 (Int32.ofInt (-1))) 3 (va_cpy ((sF (sF (sF (sF (sF s 2 0 z1) 2 1 z5) 2 2 z9) 2 3 z13) 2 4 (Int32.ofInt (-1))).1 17) ((sF (sF (sF (sF (sF s 2 0 z1) 2 1 z5) 2 2 z9) 2 3 z13) 2 4 (Int32.ofInt (-1))).1 3) (Int32.ofInt 0).toNatClampNeg (Int32.ofInt 0).toNatClampNeg (Int32.ofInt 32).toNatClampNeg)).1 4) (Int32.ofInt 0).toNatClampNeg (Int32.ofInt 0).toNatClampNeg (Int32.ofInt 160).toNatClampNeg)).1 5) (Int32.ofInt 0).toNatClampNeg (Int32.ofInt 0).toNatClampNeg (Int32.ofInt 160).toNatClampNeg)).1 6) (Int32.ofInt 0).toNatClampNeg (Int32.ofInt 0).toNatClampNeg (Int32.ofInt 160).toNatClampNeg)).1 7) (Int32.ofInt 0).toNatClampNeg (Int32.ofInt 0).toNatClampNeg (Int32.ofInt 160).toNatClampNeg)).1 22) ((sA (sA (sA (sA (sA (sF (sF (sF (sF (sF s 2 0 z1) 2 1 z5) 2 2 z9) 2 3 z13) 2 4 (Int32.ofInt (-1))) 3 (va_cpy ((sF (sF (sF (sF (sF s 2 0 z1) 2 1 z5) 2 2 z9) 2 3 z13) 2 4 (Int32.ofInt (-1))).1 17) ((sF (sF (sF (sF (sF s 2 0 z1) 2 1 z5) 2 2 z9) 2 3 z13) 2 4 (Int32.ofInt (-1))).1 3) (Int32.ofInt 0).toNatClampNeg (Int32.ofInt 0).toNatClampNeg (Int32.ofInt 32).toNatClampNeg)) 4 (va_cpy ((sA (sF (sF (sF (sF (sF s 2 0 z1) 2 1 z5) 2 2 z9) 2 3 z13) 2 4 (Int32.ofInt (-1))) 3 (va_cpy ((sF (sF (sF (sF (sF s 2 0 z1) 2 1 z5) 2 2 z9) 2 3 z13) 2 4 (Int32.ofInt (-1))).1 17) ((sF (sF (sF (sF (sF s 2 0 z1) 2 1 z5) 2 2 z9) 2 3 z13) 2 4 (Int32.ofInt (-1))).1 3) (Int32.ofInt 0).toNatClampNeg (Int32.ofInt 0).toNatClampNeg (Int32.ofInt 32).toNatClampNeg)).1 18) ((sA (sF (sF (sF (sF (sF s 2 0 z1) 2 1 z5) 2 2 z9) 2 3 z13) 2 4 (Int32.ofInt (-1))) 3 (va_cpy ((sF (sF (sF (sF (sF s 2 0 z1) 2 1 z5) 2 2 z9) 2 3 z13) 2 4 (Int32.ofInt (-1))).1 17) ((sF (sF (sF (sF (sF s 2 0 z1) 2 1 z5) 2 2 z9) 2 3 z13) 2 4 (Int32.ofInt (-1))).1 3) (Int32.ofInt 0).toNatClampNeg (Int32.ofInt 0).toNatClampNeg (Int32.ofInt 32).toNatClampNeg)).1 4) (Int32.ofInt 0).toNatClampNeg (Int32.ofInt 0).toNatClampNeg (Int32.ofInt 160).toNatClampNeg)) 5 (va_cpy ((sA (sA (sF (sF (sF (sF (sF s 2 0 z1) 2 1 z5) 2 2 z9) 2 3 z13) 2 4 (Int32.ofInt (-1))) 3 (va_cpy ((sF (sF (sF (sF (sF s 2 0 z1) 2 1 z5) 2 2 z9) 2 3 z13) 2 4 (Int32.ofInt (-1))).1 17) ((sF (sF (sF (sF (sF s 2 0 z1) 2 1 z5) 2 2 z9) 2 3 z13) 2 4 (Int32.ofInt (-1))).1 3) (Int32.ofInt 0).toNatClampNeg (Int32.ofInt 0).toNatClampNeg (Int32.ofInt 32).toNatClampNeg)) 4 (va_cpy ((sA (sF (sF (sF (sF (sF s 2 0 z1) 2 1 z5) 2 2 z9) 2 3 z13) 2 4 (Int32.ofInt (-1))) 3 (va_cpy ((sF (sF (sF (sF (sF s 2 0 z1) 2 1 z5) 2 2 z9) 2 3 z13) 2 4 (Int32.ofInt (-1))).1 17) ((sF (sF (sF (sF (sF s 2 0 z1) 2 1 z5) 2 2 z9) 2 3 z13) 2 4 (Int32.ofInt (-1))).1 3) (Int32.ofInt 0).toNatClampNeg (Int32.ofInt 0).toNatClampNeg (Int32.ofInt 32).toNatClampNeg)).1 18) ((sA (sF (sF (sF (sF (sF s 2 0 z1) 2 1 z5) 2 2 z9) 2 3 z13) 2 4 (Int32.ofInt (-1))) 3 (va_cpy ((sF (sF (sF (sF (sF s 2 0 z1) 2 1 z5) 2 2 z9) 2 3 z13) 2 4 (Int32.ofInt (-1))).1 17) ((sF (sF (sF (sF (sF s 2 0 z1) 2 1 z5) 2 2 z9) 2 3 z13) 2 4 (Int32.ofInt (-1))).1 3) (Int32.ofInt 0).toNatClampNeg (Int32.ofInt 0).toNatClampNeg (Int32.ofInt 32).toNatClampNeg)).1 4) (Int32.ofInt 0).toNatClampNeg (Int32.ofInt 0).toNatClampNeg (Int32.ofInt 160).toNatClampNeg)).1 19) ((sA (sA (sF (sF (sF (sF (sF s 2 0 z1) 2 1 z5) 2 2 z9) 2 3 z13) 2 4 (Int32.ofInt (-1))) 3 (va_cpy ((sF (sF (sF (sF (sF s 2 0 z1) 2 1 z5) 2 2 z9) 2 3 z13) 2 4 (Int32.ofInt (-1))).1 17) ((sF (sF (sF (sF (sF s 2 0 z1) 2 1 z5) 2 2 z9) 2 3 z13) 2 4 (Int32.ofInt (-1))).1 3) (Int32.ofInt 0).toNatClampNeg (Int32.ofInt 0).toNatClampNeg (Int32.ofInt 32).toNatClampNeg)) 4 (va_cpy ((sA (sF (sF (sF (sF (sF s 2 0 z1) 2 1 z5) 2 2 z9) 2 3 z13) 2 4 (Int32.ofInt (-1))) 3 (va_cpy ((sF (sF (sF (sF (sF s 2 0 z1) 2 1 z5) 2 2 z9) 2 3 z13) 2 4 (Int32.ofInt (-1))).1 17) ((sF (sF (sF (sF (sF s 2 0 z1) 2 1 z5) 2 2 z9) 2 3 z13) 2 4 (Int32.ofInt (-1))).1 3) (Int32.ofInt 0).toNatClampNeg (Int32.ofInt 0).toNatClampNeg (Int32.ofInt 32).toNatClampNeg)).1 18) ((sA (sF (sF (sF (sF (sF s 2 0 z1) 2 1 z5) 2 2 z9) 2 3 z13) 2 4 (Int32.ofInt (-1))) 3 (va_cpy ((sF (sF (sF (sF (sF s 2 0 z1) 2 1 z5) 2 2 z9) 2 3 z13) 2 4 (Int32.ofInt (-1))).1 17) ((sF (sF (sF (sF (sF s 2 0 z1) 2 1 z5) 2 2 z9) 2 3 z13) 2 4 (Int32.ofInt (-1))).1 3) (Int32.ofInt 0).toNatClampNeg (Int32.ofInt 0).toNatClampNeg (Int32.ofInt 32).toNatClampNeg)).1 4) (Int32.ofInt 0).toNatClampNeg (Int32.ofInt 0).toNatClampNeg (Int32.ofInt 160).toNatClampNeg)).1 5) (Int32.ofInt 0).toNatClampNeg (Int32.ofInt 0).toNatClampNeg (Int32.ofInt 160).toNatClampNeg)) 6 (va_cpy ((sA (sA (sA (sF (sF (sF (sF (sF s 2 0 z1) 2 1 z5) 2 2 z9) 2 3 z13) 2 4 (Int32.ofInt (-1))) 3 (va_cpy ((sF (sF (sF (sF (sF s 2 0 z1) 2 1 z5) 2 2 z9) 2 3 z13) 2 4 (Int32.ofInt (-1))).1 17) ((sF (sF (sF (sF (sF s 2 0 z1) 2 1 z5) 2 2 z9) 2 3 z13) 2 4 (Int32.ofInt (-1))).1 3) (Int32.ofInt 0).toNatClampNeg (Int32.ofInt 0).toNatClampNeg (Int32.ofInt 32).toNatClampNeg)) 4 (va_cpy ((sA (sF (sF (sF (sF (sF s 2 0 z1) 2 1 z5) 2 2 z9) 2 3 z13) 2 4 (Int32.ofInt (-1))) 3 (va_cpy ((sF (sF (sF (sF (sF s 2 0 z1) 2 1 z5) 2 2 z9) 2 3 z13) 2 4 (Int32.ofInt (-1))).1 17) ((sF (sF (sF (sF (sF s 2 0 z1) 2 1 z5) 2 2 z9) 2 3 z13) 2 4 (Int32.ofInt (-1))).1 3) (Int32.ofInt 0).toNatClampNeg (Int32.ofInt 0).toNatClampNeg (Int32.ofInt 32).toNatClampNeg)).1 18) ((sA (sF (sF (sF (sF (sF s 2 0 z1) 2 1 z5) 2 2 z9) 2 3 z13) 2 4 (Int32.ofInt (-1))) 3 (va_cpy ((sF (sF (sF (sF (sF s 2 0 z1) 2 1 z5) 2 2 z9) 2 3 z13) 2 4 (Int32.ofInt (-1))).1 17) ((sF (sF (sF (sF (sF s 2 0 z1) 2 1 z5) 2 2 z9) 2 3 z13) 2 4 (Int32.ofInt (-1))).1 3) (Int32.ofInt 0).toNatClampNeg (Int32.ofInt 0).toNatClampNeg (Int32.ofInt 32).toNatClampNeg)).1 4) (Int32.ofInt 0).toNatClampNeg (Int32.ofInt 0).toNatClampNeg (Int32.ofInt 160).toNatClampNeg)) 5 (va_cpy ((sA (sA (sF (sF (sF (sF (sF s 2 0 z1) 2 1 z5) 2 2 z9) 2 3 z13) 2 4 (Int32.ofInt (-1))) 3 (va_cpy ((sF (sF (sF (sF (sF s 2 0 z1) 2 1 z5) 2 2 z9) 2 3 z13) 2 4 (Int32.ofInt (-1))).1 17) ((sF (sF (sF (sF (sF s 2 0 z1) 2 1 z5) 2 2 z9) 2 3 z13) 2 4 (Int32.ofInt (-1))).1 3) (Int32.ofInt 0).toNatClampNeg (Int32.ofInt 0).toNatClampNeg (Int32.ofInt 32).toNatClampNeg)) 4 (va_cpy ((sA (sF (sF (sF (sF (sF s 2 0 z1) 2 1 z5) 2 2 z9) 2 3 z13) 2 4 (Int32.ofInt (-1))) 3 (va_cpy ((sF (sF (sF (sF (sF s 2 0 z1) 2 1 z5) 2 2 z9) 2 3 z13) 2 4 (Int32.ofInt (-1))).1 17) ((sF (sF (sF (sF (sF s 2 0 z1) 2 1 z5) 2 2 z9) 2 3 z13) 2 4 (Int32.ofInt (-1))).1 3) (Int32.ofInt 0).toNatClampNeg (Int32.ofInt 0).toNatClampNeg (Int32.ofInt 32).toNatClampNeg)).1 18) ((sA (sF (sF (sF (sF (sF s 2 0 z1) 2 1 z5) 2 2 z9) 2 3 z13) 2 4 (Int32.ofInt (-1))) 3 (va_cpy ((sF (sF (sF (sF (sF s 2 0 z1) 2 1 z5) 2 2 z9) 2 3 z13) 2 4 (Int32.ofInt (-1))).1 17) ((sF (sF (sF (sF (sF s 2 0 z1) 2 1 z5) 2 2 z9) 2 3 z13) 2 4 (Int32.ofInt (-1))).1 3) (Int32.ofInt 0).toNatClampNeg (Int32.ofInt 0).toNatClampNeg (Int32.ofInt 32).toNatClampNeg)).1 4) (Int32.ofInt 0).toNatClampNeg (Int32.ofInt 0).toNatClampNeg (Int32.ofInt 160).toNatClampNeg)).1 19) ((sA (sA (sF (sF (sF (sF (sF s 2 0 z1) 2 1 z5) 2 2 z9) 2 3 z13) 2 4 (Int32.ofInt (-1))) 3 (va_cpy ((sF (sF (sF (sF (sF s 2 0 z1) 2 1 z5) 2 2 z9) 2 3 z13) 2 4 (Int32.ofInt (-1))).1 17) ((sF (sF (sF (sF (sF s 2 0 z1) 2 1 z5) 2 2 z9) 2 3 z13) 2 4 (Int32.ofInt (-1))).1 3) (Int32.ofInt 0).toNatClampNeg (Int32.ofInt 0).toNatClampNeg (Int32.ofInt 32).toNatClampNeg)) 4 (va_cpy ((sA (sF (sF (sF (sF (sF s 2 0 z1) 2 1 z5) 2 2 z9) 2 3 z13) 2 4 (Int32.ofInt (-1))) 3 (va_cpy ((sF (sF (sF (sF (sF s 2 0 z1) 2 1 z5) 2 2 z9) 2 3 z13) 2 4 (Int32.ofInt (-1))).1 17) ((sF (sF (sF (sF (sF s 2 0 z1) 2 1 z5) 2 2 z9) 2 3 z13) 2 4 (Int32.ofInt (-1))).1 3) (Int32.ofInt 0).toNatClampNeg (Int32.ofInt 0).toNatClampNeg (Int32.ofInt 32).toNatClampNeg)).1 18) ((sA (sF (sF (sF (sF (sF s 2 0 z1) 2 1 z5) 2 2 z9) 2 3 z13) 2 4 (Int32.ofInt (-1))) 3 (va_cpy ((sF (sF (sF (sF (sF s 2 0 z1) 2 1 z5) 2 2 z9) 2 3 z13) 2 4 (Int32.ofInt (-1))).1 17) ((sF (sF (sF (sF (sF s 2 0 z1) 2 1 z5) 2 2 z9) 2 3 z13) 2 4 (Int32.ofInt (-1))).1 3) (Int32.ofInt 0).toNatClampNeg (Int32.ofInt 0).toNatClampNeg (Int32.ofInt 32).toNatClampNeg)).1 4) (Int32.ofInt 0).toNatClampNeg (Int32.ofInt 0).toNatClampNeg (Int32.ofInt 160).toNatClampNeg)).1 5) (Int32.ofInt 0).toNatClampNeg (Int32.ofInt 0).toNatClampNeg (Int32.ofInt 160).toNatClampNeg)).1 20) ((sA (sA (sA (sF (sF (sF (sF (sF s 2 0 z1) 2 1 z5) 2 2 z9) 2 3 z13) 2 4 (Int32.ofInt (-1))) 3 (va_cpy ((sF (sF (sF (sF (sF s 2 0 z1) 2 1 z5) 2 2 z9) 2 3 z13) 2 4 (Int32.ofInt (-1))).1 17) ((sF (sF (sF (sF (sF s 2 0 z1) 2 1 z5) 2 2 z9) 2 3 z13) 2 4 (Int32.ofInt (-1))).1 3) (Int32.ofInt 0).toNatClampNeg (Int32.ofInt 0).toNatClampNeg (Int32.ofInt 32).toNatClampNeg)) 4 (va_cpy ((sA (sF (sF (sF (sF (sF s 2 0 z1) 2 1 z5) 2 2 z9) 2 3 z13) 2 4 (Int32.ofInt (-1))) 3 (va_cpy ((sF (sF (sF (sF (sF s 2 0 z1) 2 1 z5) 2 2 z9) 2 3 z13) 2 4 (Int32.ofInt (-1))).1 17) ((sF (sF (sF (sF (sF s 2 0 z1) 2 1 z5) 2 2 z9) 2 3 z13) 2 4 (Int32.ofInt (-1))).1 3) (Int32.ofInt 0).toNatClampNeg (Int32.ofInt 0).toNatClampNeg (Int32.ofInt 32).toNatClampNeg)).1 18) ((sA (sF (sF (sF (sF (sF s 2 0 z1) 2 1 z5) 2 2 z9) 2 3 z13) 2 4 (Int32.ofInt (-1))) 3 (va_cpy ((sF (sF (sF (sF (sF s 2 0 z1) 2 1 z5) 2 2 z9) 2 3 z13) 2 4 (Int32.ofInt (-1))).1 17) ((sF (sF (sF (sF (sF s 2 0 z1) 2 1 z5) 2 2 z9) 2 3 z13) 2 4 (Int32.ofInt (-1))).1 3) (Int32.ofInt 0).toNatClampNeg (Int32.ofInt 0).toNatClampNeg (Int32.ofInt 32).toNatClampNeg)).1 4) (Int32.ofInt 0).toNatClampNeg (Int32.ofInt 0).toNatClampNeg (Int32.ofInt 160).toNatClampNeg)) 5 (va_cpy ((sA (sA (sF (sF (sF (sF (sF s 2 0 z1) 2 1 z5) 2 2 z9) 2 3 z13) 2 4 (Int32.ofInt (-1))) 3 (va_cpy ((sF (sF (sF (sF (sF s 2 0 z1) 2 1 z5) 2 2 z9) 2 3 z13) 2 4 (Int32.ofInt (-1))).1 17) ((sF (sF (sF (sF (sF s 2 0 z1) 2 1 z5) 2 2 z9) 2 3 z13) 2 4 (Int32.ofInt (-1))).1 3) (Int32.ofInt 0).toNatClampNeg (Int32.ofInt 0).toNatClampNeg (Int32.ofInt 32).toNatClampNeg)) 4 (va_cpy ((sA (sF (sF (sF (sF (sF s 2 0 z1) 2 1 z5) 2 2 z9) 2 3 z13) 2 4 (Int32.ofInt (-1))) 3 (va_cpy ((sF (sF (sF (sF (sF s 2 0 z1) 2 1 z5) 2 2 z9) 2 3 z13) 2 4 (Int32.ofInt (-1))).1 17) ((sF (sF (sF (sF (sF s 2 0 z1) 2 1 z5) 2 2 z9) 2 3 z13) 2 4 (Int32.ofInt (-1))).1 3) (Int32.ofInt 0).toNatClampNeg (Int32.ofInt 0).toNatClampNeg (Int32.ofInt 32).toNatClampNeg)).1 18) ((sA (sF (sF (sF (sF (sF s 2 0 z1) 2 1 z5) 2 2 z9) 2 3 z13) 2 4 (Int32.ofInt (-1))) 3 (va_cpy ((sF (sF (sF (sF (sF s 2 0 z1) 2 1 z5) 2 2 z9) 2 3 z13) 2 4 (Int32.ofInt (-1))).1 17) ((sF (sF (sF (sF (sF s 2 0 z1) 2 1 z5) 2 2 z9) 2 3 z13) 2 4 (Int32.ofInt (-1))).1 3) (Int32.ofInt 0).toNatClampNeg (Int32.ofInt 0).toNatClampNeg (Int32.ofInt 32).toNatClampNeg)).1 4) (Int32.ofInt 0).toNatClampNeg (Int32.ofInt 0).toNatClampNeg (Int32.ofInt 160).toNatClampNeg)).1 19) ((sA (sA (sF (sF (sF (sF (sF s 2 0 z1) 2 1 z5) 2 2 z9) 2 3 z13) 2 4 (Int32.ofInt (-1))) 3 (va_cpy ((sF (sF (sF (sF (sF s 2 0 z1) 2 1 z5) 2 2 z9) 2 3 z13) 2 4 (Int32.ofInt (-1))).1 17) ((sF (sF (sF (sF (sF s 2 0 z1) 2 1 z5) 2 2 z9) 2 3 z13) 2 4 (Int32.ofInt (-1))).1 3) (Int32.ofInt 0).toNatClampNeg (Int32.ofInt 0).toNatClampNeg (Int32.ofInt 32).toNatClampNeg)) 4 (va_cpy ((sA (sF (sF (sF (sF (sF s 2 0 z1) 2 1 z5) 2 2 z9) 2 3 z13) 2 4 (Int32.ofInt (-1))) 3 (va_cpy ((sF (sF (sF (sF (sF s 2 0 z1) 2 1 z5) 2 2 z9) 2 3 z13) 2 4 (Int32.ofInt (-1))).1 17) ((sF (sF (sF (sF (sF s 2 0 z1) 2 1 z5) 2 2 z9) 2 3 z13) 2 4 (Int32.ofInt (-1))).1 3) (Int32.ofInt 0).toNatClampNeg (Int32.ofInt 0).toNatClampNeg (Int32.ofInt 32).toNatClampNeg)).1 18) ((sA (sF (sF (sF (sF (sF s 2 0 z1) 2 1 z5) 2 2 z9) 2 3 z13) 2 4 (Int32.ofInt (-1))) 3 (va_cpy ((sF (sF (sF (sF (sF s 2 0 z1) 2 1 z5) 2 2 z9) 2 3 z13) 2 4 (Int32.ofInt (-1))).1 17) ((sF (sF (sF (sF (sF s 2 0 z1) 2 1 z5) 2 2 z9) 2 3 z13) 2 4 (Int32.ofInt (-1))).1 3) (Int32.ofInt 0).toNatClampNeg (Int32.ofInt 0).toNatClampNeg (Int32.ofInt 32).toNatClampNeg)).1 4) (Int32.ofInt 0).toNatClampNeg (Int32.ofInt 0).toNatClampNeg (Int32.ofInt 160).toNatClampNeg)).1 5) (Int32.ofInt 0).toNatClampNeg (Int32.ofInt 0).toNatClampNeg (Int32.ofInt 160).toNatClampNeg)).1 6) (Int32.ofInt 0).toNatClampNeg (Int32.ofInt 0).toNatClampNeg (Int32.ofInt 160).toNatClampNeg)) 7 (va_cpy ((sA (sA (sA (sA (sF (sF (sF (sF (sF s 2 0 z1) 2 1 z5) 2 2 z9) 2 3 z13) 2 4 (Int32.ofInt (-1))) 3 (va_cpy ((sF (sF (sF (sF (sF s 2 0 z1) 2 1 z5) 2 2 z9) 2 3 z13) 2 4 (Int32.ofInt (-1))).1 17) ((sF (sF (sF (sF (sF s 2 0 z1) 2 1 z5) 2 2 z9) 2 3 z13) 2 4 (Int32.ofInt (-1))).1 3) (Int32.ofInt 0).toNatClampNeg (Int32.ofInt 0).toNatClampNeg (Int32.ofInt 32).toNatClampNeg)) 4 (va_cpy ((sA (sF (sF (sF (sF (sF s 2 0 z1) 2 1 z5) 2 2 z9) 2 3 z13) 2 4 (Int32.ofInt (-1))) 3 (va_cpy ((sF (sF (sF (sF (sF s 2 0 z1) 2 1 z5) 2 2 z9) 2 3 z13) 2 4 (Int32.ofInt (-1))).1 17) ((sF (sF (sF (sF (sF s 2 0 z1) 2 1 z5) 2 2 z9) 2 3 z13) 2 4 (Int32.ofInt (-1))).1 3) (Int32.ofInt 0).toNatClampNeg (Int32.ofInt 0).toNatClampNeg (Int32.ofInt 32).toNatClampNeg)).1 18) ((sA (sF (sF (sF (sF (sF s 2 0 z1) 2 1 z5) 2 2 z9) 2 3 z13) 2 4 (Int32.ofInt (-1))) 3 (va_cpy ((sF (sF (sF (sF (sF s 2 0 z1) 2 1 z5) 2 2 z9) 2 3 z13) 2 4 (Int32.ofInt (-1))).1 17) ((sF (sF (sF (sF (sF s 2 0 z1) 2 1 z5) 2 2 z9) 2 3 z13) 2 4 (Int32.ofInt (-1))).1 3) (Int32.ofInt 0).toNatClampNeg (Int32.ofInt 0).toNatClampNeg (Int32.ofInt 32).toNatClampNeg)).1 4) (Int32.ofInt 0).toNatClampNeg (Int32.ofInt 0).toNatClampNeg (Int32.ofInt 160).toNatClampNeg)) 5 (va_cpy ((sA (sA (sF (sF (sF (sF (sF s 2 0 z1) 2 1 z5) 2 2 z9) 2 3 z13) 2 4 (Int32.ofInt (-1))) 3 (va_cpy ((sF (sF (sF (sF (sF s 2 0 z1) 2 1 z5) 2 2 z9) 2 3 z13) 2 4 (Int32.ofInt (-1))).1 17) ((sF (sF (sF (sF (sF s 2 0 z1) 2 1 z5) 2 2 z9) 2 3 z13) 2 4 (Int32.ofInt (-1))).1 3) (Int32.ofInt 0).toNatClampNeg (Int32.ofInt 0).toNatClampNeg (Int32.ofInt 32).toNatClampNeg)) 4 (va_cpy ((sA (sF (sF (sF (sF (sF s 2 0 z1) 2 1 z5) 2 2 z9) 2 3 z13) 2 4 (Int32.ofInt (-1))) 3 (va_cpy ((sF (sF (sF (sF (sF s 2 0 z1) 2 1 z5) 2 2 z9) 2 3 z13) 2 4 (Int32.ofInt (-1))).1 17) ((sF (sF (sF (sF (sF s 2 0 z1) 2 1 z5) 2 2 z9) 2 3 z13) 2 4 (Int32.ofInt (-1))).1 3) (Int32.ofInt 0).toNatClampNeg (Int32.ofInt 0).toNatClampNeg (Int32.ofInt 32).toNatClampNeg)).1 18) ((sA (sF (sF (sF (sF (sF s 2 0 z1) 2 1 z5) 2 2 z9) 2 3 z13) 2 4 (Int32.ofInt (-1))) 3 (va_cpy ((sF (sF (sF (sF (sF s 2 0 z1) 2 1 z5) 2 2 z9) 2 3 z13) 2 4 (Int32.ofInt (-1))).1 17) ((sF (sF (sF (sF (sF s 2 0 z1) 2 1 z5) 2 2 z9) 2 3 z13) 2 4 (Int32.ofInt (-1))).1 3) (Int32.ofInt 0).toNatClampNeg (Int32.ofInt 0).toNatClampNeg (Int32.ofInt 32).toNatClampNeg)).1 4) (Int32.ofInt 0).toNatClampNeg (Int32.ofInt 0).toNatClampNeg (Int32.ofInt 160).toNatClampNeg)).1 19) ((sA (sA (sF (sF (sF (sF (sF s 2 0 z1) 2 1 z5) 2 2 z9) 2 3 z13) 2 4 (Int32.ofInt (-1))) 3 (va_cpy ((sF (sF (sF (sF (sF s 2 0 z1) 2 1 z5) 2 2 z9) 2 3 z13) 2 4 (Int32.ofInt (-1))).1 17) ((sF (sF (sF (sF (sF s 2 0 z1) 2 1 z5) 2 2 z9) 2 3 z13) 2 4 (Int32.ofInt (-1))).1 3) (Int32.ofInt 0).toNatClampNeg (Int32.ofInt 0).toNatClampNeg (Int32.ofInt 32).toNatClampNeg)) 4 (va_cpy ((sA (sF (sF (sF (sF (sF s 2 0 z1) 2 1 z5) 2 2 z9) 2 3 z13) 2 4 (Int32.ofInt (-1))) 3 (va_cpy ((sF (sF (sF (sF (sF s 2 0 z1) 2 1 z5) 2 2 z9) 2 3 z13) 2 4 (Int32.ofInt (-1))).1 17) ((sF (sF (sF (sF (sF s 2 0 z1) 2 1 z5) 2 2 z9) 2 3 z13) 2 4 (Int32.ofInt (-1))).1 3) (Int32.ofInt 0).toNatClampNeg (Int32.ofInt 0).toNatClampNeg (Int32.ofInt 32).toNatClampNeg)).1 18) ((sA (sF (sF (sF (sF (sF s 2 0 z1) 2 1 z5) 2 2 z9) 2 3 z13) 2 4 (Int32.ofInt (-1))) 3 (va_cpy ((sF (sF (sF (sF (sF s 2 0 z1) 2 1 z5) 2 2 z9) 2 3 z13) 2 4 (Int32.ofInt (-1))).1 17) ((sF (sF (sF (sF (sF s 2 0 z1) 2 1 z5) 2 2 z9) 2 3 z13) 2 4 (Int32.ofInt (-1))).1 3) (Int32.ofInt 0).toNatClampNeg (Int32.ofInt 0).toNatClampNeg (Int32.ofInt 32).toNatClampNeg)).1 4) (Int32.ofInt 0).toNatClampNeg (Int32.ofInt 0).toNatClampNeg (Int32.ofInt 160).toNatClampNeg)).1 5) (Int32.ofInt 0).toNatClampNeg (Int32.ofInt 0).toNatClampNeg (Int32.ofInt 160).toNatClampNeg)) 6 (va_cpy ((sA (sA (sA (sF (sF (sF (sF (sF s 2 0 z1) 2 1 z5) 2 2 z9) 2 3 z13) 2 4 (Int32.ofInt (-1))) 3 (va_cpy ((sF (sF (sF (sF (sF s 2 0 z1) 2 1 z5) 2 2 z9) 2 3 z13) 2 4 (Int32.ofInt (-1))).1 17) ((sF (sF (sF (sF (sF s 2 0 z1) 2 1 z5) 2 2 z9) 2 3 z13) 2 4 (Int32.ofInt (-1))).1 3) (Int32.ofInt 0).toNatClampNeg (Int32.ofInt 0).toNatClampNeg (Int32.ofInt 32).toNatClampNeg)) 4 (va_cpy ((sA (sF (sF (sF (sF (sF s 2 0 z1) 2 1 z5) 2 2 z9) 2 3 z13) 2 4 (Int32.ofInt (-1))) 3 (va_cpy ((sF (sF (sF (sF (sF s 2 0 z1) 2 1 z5) 2 2 z9) 2 3 z13) 2 4 (Int32.ofInt (-1))).1 17) ((sF (sF (sF (sF (sF s 2 0 z1) 2 1 z5) 2 2 z9) 2 3 z13) 2 4 (Int32.ofInt (-1))).1 3) (Int32.ofInt 0).toNatClampNeg (Int32.ofInt 0).toNatClampNeg (Int32.ofInt 32).toNatClampNeg)).1 18) ((sA (sF (sF (sF (sF (sF s 2 0 z1) 2 1 z5) 2 2 z9) 2 3 z13) 2 4 (Int32.ofInt (-1))) 3 (va_cpy ((sF (sF (sF (sF (sF s 2 0 z1) 2 1 z5) 2 2 z9) 2 3 z13) 2 4 (Int32.ofInt (-1))).1 17) ((sF (sF (sF (sF (sF s 2 0 z1) 2 1 z5) 2 2 z9) 2 3 z13) 2 4 (Int32.ofInt (-1))).1 3) (Int32.ofInt 0).toNatClampNeg (Int32.ofInt 0).toNatClampNeg (Int32.ofInt 32).toNatClampNeg)).1 4) (Int32.ofInt 0).toNatClampNeg (Int32.ofInt 0).toNatClampNeg (Int32.ofInt 160).toNatClampNeg)) 5 (va_cpy ((sA (sA (sF (sF (sF (sF (sF s 2 0 z1) 2 1 z5) 2 2 z9) 2 3 z13) 2 4 (Int32.ofInt (-1))) 3 (va_cpy ((sF (sF (sF (sF (sF s 2 0 z1) 2 1 z5) 2 2 z9) 2 3 z13) 2 4 (Int32.ofInt (-1))).1 17) ((sF (sF (sF (sF (sF s 2 0 z1) 2 1 z5) 2 2 z9) 2 3 z13) 2 4 (Int32.ofInt (-1))).1 3) (Int32.ofInt 0).toNatClampNeg (Int32.ofInt 0).toNatClampNeg (Int32.ofInt 32).toNatClampNeg)) 4 (va_cpy ((sA (sF (sF (sF (sF (sF s 2 0 z1) 2 1 z5) 2 2 z9) 2 3 z13) 2 4 (Int32.ofInt (-1))) 3 (va_cpy ((sF (sF (sF (sF (sF s 2 0 z1) 2 1 z5) 2 2 z9) 2 3 z13) 2 4 (Int32.ofInt (-1))).1 17) ((sF (sF (sF (sF (sF s 2 0 z1) 2 1 z5) 2 2 z9) 2 3 z13) 2 4 (Int32.ofInt (-1))).1 3) (Int32.ofInt 0).toNatClampNeg (Int32.ofInt 0).toNatClampNeg (Int32.ofInt 32).toNatClampNeg)).1 18) ((sA (sF (sF (sF (sF (sF s 2 0 z1) 2 1 z5) 2 2 z9) 2 3 z13) 2 4 (Int32.ofInt (-1))) 3 (va_cpy ((sF (sF (sF (sF (sF s 2 0 z1) 2 1 z5) 2 2 z9) 2 3 z13) 2 4 (Int32.ofInt (-1))).1 17) ((sF (sF (sF (sF (sF s 2 0 z1) 2 1 z5) 2 2 z9) 2 3 z13) 2 4 (Int32.ofInt (-1))).1 3) (Int32.ofInt 0).toNatClampNeg (Int32.ofInt 0).toNatClampNeg (Int32.ofInt 32).toNatClampNeg)).1 4) (Int32.ofInt 0).toNatClampNeg (Int32.ofInt 0).toNatClampNeg (Int32.ofInt 160).toNatClampNeg)).1 19) ((sA (sA (sF (sF (sF (sF (sF s 2 0 z1) 2 1 z5) 2 2 z9) 2 3 z13) 2 4 (Int32.ofInt (-1))) 3 (va_cpy ((sF (sF (sF (sF (sF s 2 0 z1) 2 1 z5) 2 2 z9) 2 3 z13) 2 4 (Int32.ofInt (-1))).1 17) ((sF (sF (sF (sF (sF s 2 0 z1) 2 1 z5) 2 2 z9) 2 3 z13) 2 4 (Int32.ofInt (-1))).1 3) (Int32.ofInt 0).toNatClampNeg (Int32.ofInt 0).toNatClampNeg (Int32.ofInt 32).toNatClampNeg)) 4 (va_cpy ((sA (sF (sF (sF (sF (sF s 2 0 z1) 2 1 z5) 2 2 z9) 2 3 z13) 2 4 (Int32.ofInt (-1))) 3 (va_cpy ((sF (sF (sF (sF (sF s 2 0 z1) 2 1 z5) 2 2 z9) 2 3 z13) 2 4 (Int32.ofInt (-1))).1 17) ((sF (sF (sF (sF (sF s 2 0 z1) 2 1 z5) 2 2 z9) 2 3 z13) 2 4 (Int32.ofInt (-1))).1 3) (Int32.ofInt 0).toNatClampNeg (Int32.ofInt 0).toNatClampNeg (Int32.ofInt 32).toNatClampNeg)).1 18) ((sA (sF (sF (sF (sF (sF s 2 0 z1) 2 1 z5) 2 2 z9) 2 3 z13) 2 4 (Int32.ofInt (-1))) 3 (va_cpy ((sF (sF (sF (sF (sF s 2 0 z1) 2 1 z5) 2 2 z9) 2 3 z13) 2 4 (Int32.ofInt (-1))).1 17) ((sF (sF (sF (sF (sF s 2 0 z1) 2 1 z5) 2 2 z9) 2 3 z13) 2 4 (Int32.ofInt (-1))).1 3) (Int32.ofInt 0).toNatClampNeg (Int32.ofInt 0).toNatClampNeg (Int32.ofInt 32).toNatClampNeg)).1 4) (Int32.ofInt 0).toNatClampNeg (Int32.ofInt 0).toNatClampNeg (Int32.ofInt 160).toNatClampNeg)).1 5) (Int32.ofInt 0).toNatClampNeg (Int32.ofInt 0).toNatClampNeg (Int32.ofInt 160).toNatClampNeg)).1 20) ((sA (sA (sA (sF (sF (sF (sF (sF s 2 0 z1) 2 1 z5) 2 2 z9) 2 3 z13) 2 4 (Int32.ofInt (-1))) 3 (va_cpy ((sF (sF (sF (sF (sF s 2 0 z1) 2 1 z5) 2 2 z9) 2 3 z13) 2 4 (Int32.ofInt (-1))).1 17) ((sF (sF (sF (sF (sF s 2 0 z1) 2 1 z5) 2 2 z9) 2 3 z13) 2 4 (Int32.ofInt (-1))).1 3) (Int32.ofInt 0).toNatClampNeg (Int32.ofInt 0).toNatClampNeg (Int32.ofInt 32).toNatClampNeg)) 4 (va_cpy ((sA (sF (sF (sF (sF (sF s 2 0 z1) 2 1 z5) 2 2 z9) 2 3 z13) 2 4 (Int32.ofInt (-1))) 3 (va_cpy ((sF (sF (sF (sF (sF s 2 0 z1) 2 1 z5) 2 2 z9) 2 3 z13) 2 4 (Int32.ofInt (-1))).1 17) ((sF (sF (sF (sF (sF s 2 0 z1) 2 1 z5) 2 2 z9) 2 3 z13) 2 4 (Int32.ofInt (-1))).1 3) (Int32.ofInt 0).toNatClampNeg (Int32.ofInt 0).toNatClampNeg (Int32.ofInt 32).toNatClampNeg)).1 18) ((sA (sF (sF (sF (sF (sF s 2 0 z1) 2 1 z5) 2 2 z9) 2 3 z13) 2 4 (Int32.ofInt (-1))) 3 (va_cpy ((sF (sF (sF (sF (sF s 2 0 z1) 2 1 z5) 2 2 z9) 2 3 z13) 2 4 (Int32.ofInt (-1))).1 17) ((sF (sF (sF (sF (sF s 2 0 z1) 2 1 z5) 2 2 z9) 2 3 z13) 2 4 (Int32.ofInt (-1))).1 3) (Int32.ofInt 0).toNatClampNeg (Int32.ofInt 0).toNatClampNeg (Int32.ofInt 32).toNatClampNeg)).1 4) (Int32.ofInt 0).toNatClampNeg (Int32.ofInt 0).toNatClampNeg (Int32.ofInt 160).toNatClampNeg)) 5 (va_cpy ((sA (sA (sF (sF (sF (sF (sF s 2 0 z1) 2 1 z5) 2 2 z9) 2 3 z13) 2 4 (Int32.ofInt (-1))) 3 (va_cpy ((sF (sF (sF (sF (sF s 2 0 z1) 2 1 z5) 2 2 z9) 2 3 z13) 2 4 (Int32.ofInt (-1))).1 17) ((sF (sF (sF (sF (sF s 2 0 z1) 2 1 z5) 2 2 z9) 2 3 z13) 2 4 (Int32.ofInt (-1))).1 3) (Int32.ofInt 0).toNatClampNeg (Int32.ofInt 0).toNatClampNeg (Int32.ofInt 32).toNatClampNeg)) 4 (va_cpy ((sA (sF (sF (sF (sF (sF s 2 0 z1) 2 1 z5) 2 2 z9) 2 3 z13) 2 4 (Int32.ofInt (-1))) 3 (va_cpy ((sF (sF (sF (sF (sF s 2 0 z1) 2 1 z5) 2 2 z9) 2 3 z13) 2 4 (Int32.ofInt (-1))).1 17) ((sF (sF (sF (sF (sF s 2 0 z1) 2 1 z5) 2 2 z9) 2 3 z13) 2 4 (Int32.ofInt (-1))).1 3) (Int32.ofInt 0).toNatClampNeg (Int32.ofInt 0).toNatClampNeg (Int32.ofInt 32).toNatClampNeg)).1 18) ((sA (sF (sF (sF (sF (sF s 2 0 z1) 2 1 z5) 2 2 z9) 2 3 z13) 2 4 (Int32.ofInt (-1))) 3 (va_cpy ((sF (sF (sF (sF (sF s 2 0 z1) 2 1 z5) 2 2 z9) 2 3 z13) 2 4 (Int32.ofInt (-1))).1 17) ((sF (sF (sF (sF (sF s 2 0 z1) 2 1 z5) 2 2 z9) 2 3 z13) 2 4 (Int32.ofInt (-1))).1 3) (Int32.ofInt 0).toNatClampNeg (Int32.ofInt 0).toNatClampNeg (Int32.ofInt 32).toNatClampNeg)).1 4) (Int32.ofInt 0).toNatClampNeg (Int32.ofInt 0).toNatClampNeg (Int32.ofInt 160).toNatClampNeg)).1 19) ((sA (sA (sF (sF (sF (sF (sF s 2 0 z1) 2 1 z5) 2 2 z9) 2 3 z13) 2 4 (Int32.ofInt (-1))) 3 (va_cpy ((sF (sF (sF (sF (sF s 2 0 z1) 2 1 z5) 2 2 z9) 2 3 z13) 2 4 (Int32.ofInt (-1))).1 17) ((sF (sF (sF (sF (sF s 2 0 z1) 2 1 z5) 2 2 z9) 2 3 z13) 2 4 (Int32.ofInt (-1))).1 3) (Int32.ofInt 0).toNatClampNeg (Int32.ofInt 0).toNatClampNeg (Int32.ofInt 32).toNatClampNeg)) 4 (va_cpy ((sA (sF (sF (sF (sF (sF s 2 0 z1) 2 1 z5) 2 2 z9) 2 3 z13) 2 4 (Int32.ofInt (-1))) 3 (va_cpy ((sF (sF (sF (sF (sF s 2 0 z1) 2 1 z5) 2 2 z9) 2 3 z13) 2 4 (Int32.ofInt (-1))).1 17) ((sF (sF (sF (sF (sF s 2 0 z1) 2 1 z5) 2 2 z9) 2 3 z13) 2 4 (Int32.ofInt (-1))).1 3) (Int32.ofInt 0).toNatClampNeg (Int32.ofInt 0).toNatClampNeg (Int32.ofInt 32).toNatClampNeg)).1 18) ((sA (sF (sF (sF (sF (sF s 2 0 z1) 2 1 z5) 2 2 z9) 2 3 z13) 2 4 (Int32.ofInt (-1))) 3 (va_cpy ((sF (sF (sF (sF (sF s 2 0 z1) 2 1 z5) 2 2 z9) 2 3 z13) 2 4 (Int32.ofInt (-1))).1 17) ((sF (sF (sF (sF (sF s 2 0 z1) 2 1 z5) 2 2 z9) 2 3 z13) 2 4 (Int32.ofInt (-1))).1 3) (Int32.ofInt 0).toNatClampNeg (Int32.ofInt 0).toNatClampNeg (Int32.ofInt 32).toNatClampNeg)).1 4) (Int32.ofInt 0).toNatClampNeg (Int32.ofInt 0).toNatClampNeg (Int32.ofInt 160).toNatClampNeg)).1 5) (Int32.ofInt 0).toNatClampNeg (Int32.ofInt 0).toNatClampNeg (Int32.ofInt 160).toNatClampNeg)).1 6) (Int32.ofInt 0).toNatClampNeg (Int32.ofInt 0).toNatClampNeg (Int32.ofInt 160).toNatClampNeg)).1 21) ((sA (sA (sA (sA (sF (sF (sF (sF (sF s 2 0 z1) 2 1 z5) 2 2 z9) 2 3 z13) 2 4 (Int32.ofInt (-1))) 3 (va_cpy ((sF (sF (sF (sF (sF s 2 0 z1) 2 1 z5) 2 2 z9) 2 3 z13) 2 4 (Int32.ofInt (-1))).1 17) ((sF (sF (sF (sF (sF s 2 0 z1) 2 1 z5) 2 2 z9) 2 3 z13) 2 4 (Int32.ofInt (-1))).1 3) (Int32.ofInt 0).toNatClampNeg (Int32.ofInt 0).toNatClampNeg (Int32.ofInt 32).toNatClampNeg)) 4 (va_cpy ((sA (sF (sF (sF (sF (sF s 2 0 z1) 2 1 z5) 2 2 z9) 2 3 z13) 2 4 (Int32.ofInt (-1))) 3 (va_cpy ((sF (sF (sF (sF (sF s 2 0 z1) 2 1 z5) 2 2 z9) 2 3 z13) 2 4 (Int32.ofInt (-1))).1 17) ((sF (sF (sF (sF (sF s 2 0 z1) 2 1 z5) 2 2 z9) 2 3 z13) 2 4 (Int32.ofInt (-1))).1 3) (Int32.ofInt 0).toNatClampNeg (Int32.ofInt 0).toNatClampNeg (Int32.ofInt 32).toNatClampNeg)).1 18) ((sA (sF (sF (sF (sF (sF s 2 0 z1) 2 1 z5) 2 2 z9) 2 3 z13) 2 4 (Int32.ofInt (-1))) 3 (va_cpy ((sF (sF (sF (sF (sF s 2 0 z1) 2 1 z5) 2 2 z9) 2 3 z13) 2 4 (Int32.ofInt (-1))).1 17) ((sF (sF (sF (sF (sF s 2 0 z1) 2 1 z5) 2 2 z9) 2 3 z13) 2 4 (Int32.ofInt (-1))).1 3) (Int32.ofInt 0).toNatClampNeg (Int32.ofInt 0).toNatClampNeg (Int32.ofInt 32).toNatClampNeg)).1 4) (Int32.ofInt 0).toNatClampNeg (Int32.ofInt 0).toNatClampNeg (Int32.ofInt 160).toNatClampNeg)) 5 (va_cpy ((sA (sA (sF (sF (sF (sF (sF s 2 0 z1) 2 1 z5) 2 2 z9) 2 3 z13) 2 4 (Int32.ofInt (-1))) 3 (va_cpy ((sF (sF (sF (sF (sF s 2 0 z1) 2 1 z5) 2 2 z9) 2 3 z13) 2 4 (Int32.ofInt (-1))).1 17) ((sF (sF (sF (sF (sF s 2 0 z1) 2 1 z5) 2 2 z9) 2 3 z13) 2 4 (Int32.ofInt (-1))).1 3) (Int32.ofInt 0).toNatClampNeg (Int32.ofInt 0).toNatClampNeg (Int32.ofInt 32).toNatClampNeg)) 4 (va_cpy ((sA (sF (sF (sF (sF (sF s 2 0 z1) 2 1 z5) 2 2 z9) 2 3 z13) 2 4 (Int32.ofInt (-1))) 3 (va_cpy ((sF (sF (sF (sF (sF s 2 0 z1) 2 1 z5) 2 2 z9) 2 3 z13) 2 4 (Int32.ofInt (-1))).1 17) ((sF (sF (sF (sF (sF s 2 0 z1) 2 1 z5) 2 2 z9) 2 3 z13) 2 4 (Int32.ofInt (-1))).1 3) (Int32.ofInt 0).toNatClampNeg (Int32.ofInt 0).toNatClampNeg (Int32.ofInt 32).toNatClampNeg)).1 18) ((sA (sF (sF (sF (sF (sF s 2 0 z1) 2 1 z5) 2 2 z9) 2 3 z13) 2 4 (Int32.ofInt (-1))) 3 (va_cpy ((sF (sF (sF (sF (sF s 2 0 z1) 2 1 z5) 2 2 z9) 2 3 z13) 2 4 (Int32.ofInt (-1))).1 17) ((sF (sF (sF (sF (sF s 2 0 z1) 2 1 z5) 2 2 z9) 2 3 z13) 2 4 (Int32.ofInt (-1))).1 3) (Int32.ofInt 0).toNatClampNeg (Int32.ofInt 0).toNatClampNeg (Int32.ofInt 32).toNatClampNeg)).1 4) (Int32.ofInt 0).toNatClampNeg (Int32.ofInt 0).toNatClampNeg (Int32.ofInt 160).toNatClampNeg)).1 19) ((sA (sA (sF (sF (sF (sF (sF s 2 0 z1) 2 1 z5) 2 2 z9) 2 3 z13) 2 4 (Int32.ofInt (-1))) 3 (va_cpy ((sF (sF (sF (sF (sF s 2 0 z1) 2 1 z5) 2 2 z9) 2 3 z13) 2 4 (Int32.ofInt (-1))).1 17) ((sF (sF (sF (sF (sF s 2 0 z1) 2 1 z5) 2 2 z9) 2 3 z13) 2 4 (Int32.ofInt (-1))).1 3) (Int32.ofInt 0).toNatClampNeg (Int32.ofInt 0).toNatClampNeg (Int32.ofInt 32).toNatClampNeg)) 4 (va_cpy ((sA (sF (sF (sF (sF (sF s 2 0 z1) 2 1 z5) 2 2 z9) 2 3 z13) 2 4 (Int32.ofInt (-1))) 3 (va_cpy ((sF (sF (sF (sF (sF s 2 0 z1) 2 1 z5) 2 2 z9) 2 3 z13) 2 4 (Int32.ofInt (-1))).1 17) ((sF (sF (sF (sF (sF s 2 0 z1) 2 1 z5) 2 2 z9) 2 3 z13) 2 4 (Int32.ofInt (-1))).1 3) (Int32.ofInt 0).toNatClampNeg (Int32.ofInt 0).toNatClampNeg (Int32.ofInt 32).toNatClampNeg)).1 18) ((sA (sF (sF (sF (sF (sF s 2 0 z1) 2 1 z5) 2 2 z9) 2 3 z13) 2 4 (Int32.ofInt (-1))) 3 (va_cpy ((sF (sF (sF (sF (sF s 2 0 z1) 2 1 z5) 2 2 z9) 2 3 z13) 2 4 (Int32.ofInt (-1))).1 17) ((sF (sF (sF (sF (sF s 2 0 z1) 2 1 z5) 2 2 z9) 2 3 z13) 2 4 (Int32.ofInt (-1))).1 3) (Int32.ofInt 0).toNatClampNeg (Int32.ofInt 0).toNatClampNeg (Int32.ofInt 32).toNatClampNeg)).1 4) (Int32.ofInt 0).toNatClampNeg (Int32.ofInt 0).toNatClampNeg (Int32.ofInt 160).toNatClampNeg)).1 5) (Int32.ofInt 0).toNatClampNeg (Int32.ofInt 0).toNatClampNeg (Int32.ofInt 160).toNatClampNeg)) 6 (va_cpy ((sA (sA (sA (sF (sF (sF (sF (sF s 2 0 z1) 2 1 z5) 2 2 z9) 2 3 z13) 2 4 (Int32.ofInt (-1))) 3 (va_cpy ((sF (sF (sF (sF (sF s 2 0 z1) 2 1 z5) 2 2 z9) 2 3 z13) 2 4 (Int32.ofInt (-1))).1 17) ((sF (sF (sF (sF (sF s 2 0 z1) 2 1 z5) 2 2 z9) 2 3 z13) 2 4 (Int32.ofInt (-1))).1 3) (Int32.ofInt 0).toNatClampNeg (Int32.ofInt 0).toNatClampNeg (Int32.ofInt 32).toNatClampNeg)) 4 (va_cpy ((sA (sF (sF (sF (sF (sF s 2 0 z1) 2 1 z5) 2 2 z9) 2 3 z13) 2 4 (Int32.ofInt (-1))) 3 (va_cpy ((sF (sF (sF (sF (sF s 2 0 z1) 2 1 z5) 2 2 z9) 2 3 z13) 2 4 (Int32.ofInt (-1))).1 17) ((sF (sF (sF (sF (sF s 2 0 z1) 2 1 z5) 2 2 z9) 2 3 z13) 2 4 (Int32.ofInt (-1))).1 3) (Int32.ofInt 0).toNatClampNeg (Int32.ofInt 0).toNatClampNeg (Int32.ofInt 32).toNatClampNeg)).1 18) ((sA (sF (sF (sF (sF (sF s 2 0 z1) 2 1 z5) 2 2 z9) 2 3 z13) 2 4 (Int32.ofInt (-1))) 3 (va_cpy ((sF (sF (sF (sF (sF s 2 0 z1) 2 1 z5) 2 2 z9) 2 3 z13) 2 4 (Int32.ofInt (-1))).1 17) ((sF (sF (sF (sF (sF s 2 0 z1) 2 1 z5) 2 2 z9) 2 3 z13) 2 4 (Int32.ofInt (-1))).1 3) (Int32.ofInt 0).toNatClampNeg (Int32.ofInt 0).toNatClampNeg (Int32.ofInt 32).toNatClampNeg)).1 4) (Int32.ofInt 0).toNatClampNeg (Int32.ofInt 0).toNatClampNeg (Int32.ofInt 160).toNatClampNeg)) 5 (va_cpy ((sA (sA (sF (sF (sF (sF (sF s 2 0 z1) 2 1 z5) 2 2 z9) 2 3 z13) 2 4 (Int32.ofInt (-1))) 3 (va_cpy ((sF (sF (sF (sF (sF s 2 0 z1) 2 1 z5) 2 2 z9) 2 3 z13) 2 4 (Int32.ofInt (-1))).1 17) ((sF (sF (sF (sF (sF s 2 0 z1) 2 1 z5) 2 2 z9) 2 3 z13) 2 4 (Int32.ofInt (-1))).1 3) (Int32.ofInt 0).toNatClampNeg (Int32.ofInt 0).toNatClampNeg (Int32.ofInt 32).toNatClampNeg)) 4 (va_cpy ((sA (sF (sF (sF (sF (sF s 2 0 z1) 2 1 z5) 2 2 z9) 2 3 z13) 2 4 (Int32.ofInt (-1))) 3 (va_cpy ((sF (sF (sF (sF (sF s 2 0 z1) 2 1 z5) 2 2 z9) 2 3 z13) 2 4 (Int32.ofInt (-1))).1 17) ((sF (sF (sF (sF (sF s 2 0 z1) 2 1 z5) 2 2 z9) 2 3 z13) 2 4 (Int32.ofInt (-1))).1 3) (Int32.ofInt 0).toNatClampNeg (Int32.ofInt 0).toNatClampNeg (Int32.ofInt 32).toNatClampNeg)).1 18) ((sA (sF (sF (sF (sF (sF s 2 0 z1) 2 1 z5) 2 2 z9) 2 3 z13) 2 4 (Int32.ofInt (-1))) 3 (va_cpy ((sF (sF (sF (sF (sF s 2 0 z1) 2 1 z5) 2 2 z9) 2 3 z13) 2 4 (Int32.ofInt (-1))).1 17) ((sF (sF (sF (sF (sF s 2 0 z1) 2 1 z5) 2 2 z9) 2 3 z13) 2 4 (Int32.ofInt (-1))).1 3) (Int32.ofInt 0).toNatClampNeg (Int32.ofInt 0).toNatClampNeg (Int32.ofInt 32).toNatClampNeg)).1 4) (Int32.ofInt 0).toNatClampNeg (Int32.ofInt 0).toNatClampNeg (Int32.ofInt 160).toNatClampNeg)).1 19) ((sA (sA (sF (sF (sF (sF (sF s 2 0 z1) 2 1 z5) 2 2 z9) 2 3 z13) 2 4 (Int32.ofInt (-1))) 3 (va_cpy ((sF (sF (sF (sF (sF s 2 0 z1) 2 1 z5) 2 2 z9) 2 3 z13) 2 4 (Int32.ofInt (-1))).1 17) ((sF (sF (sF (sF (sF s 2 0 z1) 2 1 z5) 2 2 z9) 2 3 z13) 2 4 (Int32.ofInt (-1))).1 3) (Int32.ofInt 0).toNatClampNeg (Int32.ofInt 0).toNatClampNeg (Int32.ofInt 32).toNatClampNeg)) 4 (va_cpy ((sA (sF (sF (sF (sF (sF s 2 0 z1) 2 1 z5) 2 2 z9) 2 3 z13) 2 4 (Int32.ofInt (-1))) 3 (va_cpy ((sF (sF (sF (sF (sF s 2 0 z1) 2 1 z5) 2 2 z9) 2 3 z13) 2 4 (Int32.ofInt (-1))).1 17) ((sF (sF (sF (sF (sF s 2 0 z1) 2 1 z5) 2 2 z9) 2 3 z13) 2 4 (Int32.ofInt (-1))).1 3) (Int32.ofInt 0).toNatClampNeg (Int32.ofInt 0).toNatClampNeg (Int32.ofInt 32).toNatClampNeg)).1 18) ((sA (sF (sF (sF (sF (sF s 2 0 z1) 2 1 z5) 2 2 z9) 2 3 z13) 2 4 (Int32.ofInt (-1))) 3 (va_cpy ((sF (sF (sF (sF (sF s 2 0 z1) 2 1 z5) 2 2 z9) 2 3 z13) 2 4 (Int32.ofInt (-1))).1 17) ((sF (sF (sF (sF (sF s 2 0 z1) 2 1 z5) 2 2 z9) 2 3 z13) 2 4 (Int32.ofInt (-1))).1 3) (Int32.ofInt 0).toNatClampNeg (Int32.ofInt 0).toNatClampNeg (Int32.ofInt 32).toNatClampNeg)).1 4) (Int32.ofInt 0).toNatClampNeg (Int32.ofInt 0).toNatClampNeg (Int32.ofInt 160).toNatClampNeg)).1 5) (Int32.ofInt 0).toNatClampNeg (Int32.ofInt 0).toNatClampNeg (Int32.ofInt 160).toNatClampNeg)).1 20) ((sA (sA (sA (sF (sF (sF (sF (sF s 2 0 z1) 2 1 z5) 2 2 z9) 2 3 z13) 2 4 (Int32.ofInt (-1))) 3 (va_cpy ((sF (sF (sF (sF (sF s 2 0 z1) 2 1 z5) 2 2 z9) 2 3 z13) 2 4 (Int32.ofInt (-1))).1 17) ((sF (sF (sF (sF (sF s 2 0 z1) 2 1 z5) 2 2 z9) 2 3 z13) 2 4 (Int32.ofInt (-1))).1 3) (Int32.ofInt 0).toNatClampNeg (Int32.ofInt 0).toNatClampNeg (Int32.ofInt 32).toNatClampNeg)) 4 (va_cpy ((sA (sF (sF (sF (sF (sF s 2 0 z1) 2 1 z5) 2 2 z9) 2 3 z13) 2 4 (Int32.ofInt (-1))) 3 (va_cpy ((sF (sF (sF (sF (sF s 2 0 z1) 2 1 z5) 2 2 z9) 2 3 z13) 2 4 (Int32.ofInt (-1))).1 17) ((sF (sF (sF (sF (sF s 2 0 z1) 2 1 z5) 2 2 z9) 2 3 z13) 2 4 (Int32.ofInt (-1))).1 3) (Int32.ofInt 0).toNatClampNeg (Int32.ofInt 0).toNatClampNeg (Int32.ofInt 32).toNatClampNeg)).1 18) ((sA (sF (sF (sF (sF (sF s 2 0 z1) 2 1 z5) 2 2 z9) 2 3 z13) 2 4 (Int32.ofInt (-1))) 3 (va_cpy ((sF (sF (sF (sF (sF s 2 0 z1) 2 1 z5) 2 2 z9) 2 3 z13) 2 4 (Int32.ofInt (-1))).1 17) ((sF (sF (sF (sF (sF s 2 0 z1) 2 1 z5) 2 2 z9) 2 3 z13) 2 4 (Int32.ofInt (-1))).1 3) (Int32.ofInt 0).toNatClampNeg (Int32.ofInt 0).toNatClampNeg (Int32.ofInt 32).toNatClampNeg)).1 4) (Int32.ofInt 0).toNatClampNeg (Int32.ofInt 0).toNatClampNeg (Int32.ofInt 160).toNatClampNeg)) 5 (va_cpy ((sA (sA (sF (sF (sF (sF (sF s 2 0 z1) 2 1 z5) 2 2 z9) 2 3 z13) 2 4 (Int32.ofInt (-1))) 3 (va_cpy ((sF (sF (sF (sF (sF s 2 0 z1) 2 1 z5) 2 2 z9) 2 3 z13) 2 4 (Int32.ofInt (-1))).1 17) ((sF (sF (sF (sF (sF s 2 0 z1) 2 1 z5) 2 2 z9) 2 3 z13) 2 4 (Int32.ofInt (-1))).1 3) (Int32.ofInt 0).toNatClampNeg (Int32.ofInt 0).toNatClampNeg (Int32.ofInt 32).toNatClampNeg)) 4 (va_cpy ((sA (sF (sF (sF (sF (sF s 2 0 z1) 2 1 z5) 2 2 z9) 2 3 z13) 2 4 (Int32.ofInt (-1))) 3 (va_cpy ((sF (sF (sF (sF (sF s 2 0 z1) 2 1 z5) 2 2 z9) 2 3 z13) 2 4 (Int32.ofInt (-1))).1 17) ((sF (sF (sF (sF (sF s 2 0 z1) 2 1 z5) 2 2 z9) 2 3 z13) 2 4 (Int32.ofInt (-1))).1 3) (Int32.ofInt 0).toNatClampNeg (Int32.ofInt 0).toNatClampNeg (Int32.ofInt 32).toNatClampNeg)).1 18) ((sA (sF (sF (sF (sF (sF s 2 0 z1) 2 1 z5) 2 2 z9) 2 3 z13) 2 4 (Int32.ofInt (-1))) 3 (va_cpy ((sF (sF (sF (sF (sF s 2 0 z1) 2 1 z5) 2 2 z9) 2 3 z13) 2 4 (Int32.ofInt (-1))).1 17) ((sF (sF (sF (sF (sF s 2 0 z1) 2 1 z5) 2 2 z9) 2 3 z13) 2 4 (Int32.ofInt (-1))).1 3) (Int32.ofInt 0).toNatClampNeg (Int32.ofInt 0).toNatClampNeg (Int32.ofInt 32).toNatClampNeg)).1 4) (Int32.ofInt 0).toNatClampNeg (Int32.ofInt 0).toNatClampNeg (Int32.ofInt 160).toNatClampNeg)).1 19) ((sA (sA (sF (sF (sF (sF (sF s 2 0 z1) 2 1 z5) 2 2 z9) 2 3 z13) 2 4 (Int32.ofInt (-1))) 3 (va_cpy ((sF (sF (sF (sF (sF s 2 0 z1) 2 1 z5) 2 2 z9) 2 3 z13) 2 4 (Int32.ofInt (-1))).1 17) ((sF (sF (sF (sF (sF s 2 0 z1) 2 1 z5) 2 2 z9) 2 3 z13) 2 4 (Int32.ofInt (-1))).1 3) (Int32.ofInt 0).toNatClampNeg (Int32.ofInt 0).toNatClampNeg (Int32.ofInt 32).toNatClampNeg)) 4 (va_cpy ((sA (sF (sF (sF (sF (sF s 2 0 z1) 2 1 z5) 2 2 z9) 2 3 z13) 2 4 (Int32.ofInt (-1))) 3 (va_cpy ((sF (sF (sF (sF (sF s 2 0 z1) 2 1 z5) 2 2 z9) 2 3 z13) 2 4 (Int32.ofInt (-1))).1 17) ((sF (sF (sF (sF (sF s 2 0 z1) 2 1 z5) 2 2 z9) 2 3 z13) 2 4 (Int32.ofInt (-1))).1 3) (Int32.ofInt 0).toNatClampNeg (Int32.ofInt 0).toNatClampNeg (Int32.ofInt 32).toNatClampNeg)).1 18) ((sA (sF (sF (sF (sF (sF s 2 0 z1) 2 1 z5) 2 2 z9) 2 3 z13) 2 4 (Int32.ofInt (-1))) 3 (va_cpy ((sF (sF (sF (sF (sF s 2 0 z1) 2 1 z5) 2 2 z9) 2 3 z13) 2 4 (Int32.ofInt (-1))).1 17) ((sF (sF (sF (sF (sF s 2 0 z1) 2 1 z5) 2 2 z9) 2 3 z13) 2 4 (Int32.ofInt (-1))).1 3) (Int32.ofInt 0).toNatClampNeg (Int32.ofInt 0).toNatClampNeg (Int32.ofInt 32).toNatClampNeg)).1 4) (Int32.ofInt 0).toNatClampNeg (Int32.ofInt 0).toNatClampNeg (Int32.ofInt 160).toNatClampNeg)).1 5) (Int32.ofInt 0).toNatClampNeg (Int32.ofInt 0).toNatClampNeg (Int32.ofInt 160).toNatClampNeg)).1 6) (Int32.ofInt 0).toNatClampNeg (Int32.ofInt 0).toNatClampNeg (Int32.ofInt 160).toNatClampNeg)).1 7) (Int32.ofInt 0).toNatClampNeg (Int32.ofInt 0).toNatClampNeg (Int32.ofInt 160).toNatClampNeg)).1 8) (Int32.ofInt 0).toNatClampNeg (Int32.ofInt 0).toNatClampNeg (Int32.ofInt 160).toNatClampNeg)), hI23, rfl, rfl⟩)
