/-! methods, by vc.py -/
def fm_195_49_32 : FM := ([39, 40, 41, 42, 43, 44, 45], [50], [(32, 4), (49, 0), (49, 1), (49, 2)], [])
/-- GraphHouse$Ways.leastArc -/
theorem k_195_49_32 {Z : AmZ} {A : Nat → Nat} {s : GS} {ex : va_W} {d : Nat} {X : AmX} {x2 : Int32} {x3 : Int32} {x4 : Int32} (hd : 6 ≤ d) (hI : Inv s) (h2 : In x2 0 31) (h3 : In x3 0 31) (h4 : In x4 0 2147483647) : GC Z d 195 [.ref (A 49), .ref (A 32), .int x2, .int x3, .int x4] (WW Z A s ++ ex) 0 0 (fun v u => ∃ t : GS, Inv t ∧ Fr fm_195_49_32 s t ∧ ∃ z : Int32, v = some (.int z) ∧ u = WW Z A t ++ ex ∧ In z (-1) 159) X := by
  intro post xp hP hX
  have ct60 : ∀ (k60 : Nat) (sc60 : GS) (y60_5 : Int32) (y60_6 : Int32) (y60_7 : Int32), Inv sc60 → Fr fm_195_49_32 s sc60 → (In x4 0 2046) → (In y60_5 (-1) 159) → (In y60_6 0 31) → (In y60_7 0 4000) → 4000 - (y60_7).toInt < (k60 : Int) → GG Z (d - 1) 195 post (gx xp) (1 + k60 * 900) 60 (fun j => xlook j [(0, .ref (A 49)), (1, .ref (A 32)), (2, .int x2), (3, .int x3), (4, .int x4), (5, .int y60_5), (6, .int y60_6), (7, .int y60_7)]) [] (WW Z A sc60 ++ ex) 0 0 := by
    intro k60
    induction k60 with
    | zero => intro sc60 y60_5 y60_6 y60_7 hIc60 hFc60 j60_4 j60_5 j60_6 j60_7 mm60; exact m_no mm60 j60_7 rfl
    | succ k60 ih60 =>
      intro sc60 y60_5 y60_6 y60_7 hIc60 hFc60 j60_4 j60_5 j60_6 j60_7 mm60
      refine gg_w (M := 1 + k60 * 900 + 900) (by omega) (g_iload 62 (gd rfl) rfl rfl (g_iload 64 (gd rfl) rfl rfl (g_cmp_gt 67 99 (gd rfl) rfl rfl (fun c64 => ?_) (fun c64 => ?_))))
      · skip
        have i64 := r_lt2 1 4000 c64 j60_4 j60_7 rfl
        exact g_iload 101 (gd rfl) rfl rfl (g_ireturn (gd rfl) rfl rfl (hP _ _ ⟨sc60, hIc60, hFc60, y60_5, rfl, rfl, in_w (-1) 159 j60_5 rfl⟩))
      · skip
        have i64 := r_le1 0 2046 c64 j60_7 j60_4 rfl
        refine g_aload_n 68 (gd rfl) rfl rfl (g_aload_n 69 (gd rfl) rfl rfl (g_iload 71 (gd rfl) rfl rfl (g_callv (X := _) (As := [.ref (A 32), .int y60_6]) (r := []) (b := A 49) (q := 49) 74 (gd rfl) rfl rfl rfl rfl rfl (ww_o rfl) (Nat.le_of_ble_eq_true rfl) (Nat.zero_le _) (Nat.zero_le _) (k_196_49_32 (by omega) hIc60 (in_w 0 31 j60_6 rfl)) (fun e u h => h) (fun v u h => ?_))))
        obtain ⟨z71, rfl, rfl, i71⟩ := h
        show GG _ _ _ _ _ _ _ _ [.int z71] _ _ _
        refine g_istore 76 (gd rfl) rfl (Nat.le_of_ble_eq_true rfl) (g_iload 78 (gd rfl) rfl rfl (g_iconst (-1) 79 (gd rfl) rfl rfl (g_cmp_ne 82 84 (gd rfl) rfl rfl (fun c79 => ?_) (fun c79 => ?_))))
        · skip
          have i79 := r_ne1 0 159 c79 i71 (in_c (-1) rfl) rfl
          exact g_aload_n 85 (gd rfl) rfl rfl (g_getA (q2 := 35) 88 (gd rfl) rfl rfl rfl rfl (g_iload 90 (gd rfl) rfl rfl (g_iaload 91 (gd rfl) rfl (n := 160) rfl (in_ix i79 rfl) (fun z90 e90 => have i90 := inv_I hIc60 (n := 160) (t := 0) 0 31 rfl (in_ix i79 rfl) rfl e90; g_istore 93 (gd rfl) rfl (Nat.le_of_ble_eq_true rfl) (g_iinc 96 (gd rfl) rfl rfl (Nat.le_of_ble_eq_true rfl) (fun z93 e93 => have i93 := in_add 1 2047 e93 i64 (in_c 1 rfl) rfl rfl; g_goto 60 (gd rfl) rfl (gg_w (by omega) (gg_f (gf_cons rfl (gf_cons rfl (gf_cons rfl (gf_cons rfl (gf_cons rfl (gf_cons rfl (gf_cons rfl (gf_cons rfl gf_nil)))))))) (ih60 sc60 z71 z90 z93 hIc60 hFc60 (in_w 0 2046 j60_4 rfl) (in_w (-1) 159 i79 rfl) (in_w 0 31 i90 rfl) (in_w 0 4000 i93 rfl) (m_up mm60 (t_add e93 i64 (in_c 1 rfl) rfl) (in_w 1 1 (in_c 1 rfl) rfl)))))))))))
        · skip
          have i79 := r_eq1 (-1) (-1) c79 i71 (in_c (-1) rfl) rfl
          exact g_iconst (-1) 83 (gd rfl) rfl rfl (g_ireturn (gd rfl) rfl rfl (hP _ _ ⟨sc60, hIc60, hFc60, (Int32.ofInt (-1)), rfl, rfl, in_w (-1) 159 (in_c (-1) rfl) rfl⟩))
  refine g_enter2 (k := 195) (N := 3601801) (by omega) rfl (Nat.le_of_ble_eq_true rfl) (g_aload_n 1 (gd rfl) rfl rfl (g_aload_n 2 (gd rfl) rfl rfl (g_iload_n 3 (gd rfl) rfl rfl (g_callv (X := _) (As := [.ref (A 32), .int x3]) (r := []) (b := A 49) (q := 49) 6 (gd rfl) rfl rfl rfl rfl rfl (ww_o rfl) (Nat.le_of_ble_eq_true rfl) (Nat.zero_le _) (Nat.zero_le _) (k_198_49_32 (by omega) hI (in_w 0 31 h3 rfl)) (fun e u h => h) (fun v u h => ?_)))))
  obtain ⟨s3, hI3, hF3, rfl, rfl⟩ := h
  show GG _ _ _ _ _ _ _ _ [] _ _ _
  refine g_aload_n 7 (gd rfl) rfl rfl (g_getI 10 (gd rfl) rfl rfl rfl (fun z7 e7 => g_iload_n 11 (gd rfl) rfl rfl (g_ishr 12 (gd rfl) rfl (fun z11 e11 => g_iconst 1 13 (gd rfl) rfl rfl (g_iand 14 (gd rfl) rfl (fun z13 e13 => have i13 := in_and2 e13 (in_c 1 rfl) rfl; g_if_ne 17 49 (gd rfl) rfl rfl (fun c14 => ?_) (fun c14 => ?_)))))))
  · skip
    have i14 := z_ne 1 1 c14 i13 rfl
    exact g_iconst (-1) 50 (gd rfl) rfl rfl (g_ireturn (gd rfl) rfl rfl (hP _ _ ⟨s3, hI3, (fr_tr rfl fr_rf hF3), (Int32.ofInt (-1)), rfl, rfl, in_w (-1) 159 (in_c (-1) rfl) rfl⟩))
  · skip
    have i14 := z_eq 0 0 c14 i13 rfl
    refine g_aload_n 18 (gd rfl) rfl rfl (g_getA (q2 := 50) 21 (gd rfl) rfl rfl rfl rfl (g_iload_n 22 (gd rfl) rfl rfl (g_laload 23 (gd rfl) rfl (n := 32) rfl (in_ix h2 rfl) (fun z22 e22 => g_ldc2_w 9223372036854775807 26 (gd rfl) rfl rfl (g_lcmp 27 (gd rfl) rfl (fun z26 e26 => have i26 := lc_in e26; g_if_eq 30 49 (gd rfl) rfl rfl (fun c27 => ?_) (fun c27 => ?_)))))))
    · skip
      have i27 := z_eq 0 0 c27 i26 rfl
      have c27a := lc_eq e26 c27
      have i27a := lr_eq1 9223372036854775807 9223372036854775807 c27a (l_rng z22) (l_c 9223372036854775807 rfl) rfl
      exact g_iconst (-1) 50 (gd rfl) rfl rfl (g_ireturn (gd rfl) rfl rfl (hP _ _ ⟨s3, hI3, (fr_tr rfl fr_rf hF3), (Int32.ofInt (-1)), rfl, rfl, in_w (-1) 159 (in_c (-1) rfl) rfl⟩))
    · skip
      have c27a := lc_ne e26 c27
      have i27 := lr_ne1 (-9223372036854775808) 9223372036854775806 c27a (l_rng z22) (l_c 9223372036854775807 rfl) rfl
      refine g_iload 32 (gd rfl) rfl rfl (g_i2l 33 (gd rfl) rfl (fun z32 e32 => have i32 := l_i e32 h4; g_aload_n 34 (gd rfl) rfl rfl (g_getA (q2 := 50) 37 (gd rfl) rfl rfl rfl rfl (g_iload_n 38 (gd rfl) rfl rfl (g_laload 39 (gd rfl) rfl (n := 32) rfl (in_ix h2 rfl) (fun z38 e38 => g_ldc2_w 1024 42 (gd rfl) rfl rfl ?_))))))
      refine g_calls (As := [.long z38, .long (Int64.ofInt 1024)]) (r := [.long z32]) 45 (gd rfl) rfl rfl rfl rfl rfl (Nat.le_of_ble_eq_true rfl) (mc := 0) (ms := 0) (Nat.zero_le _) (Nat.zero_le _) (P := fun v u => _) ?_ (fun v u h => h)
      intro po42 xx42 hp42 hx42
      refine g_enter2 (k := 419) (N := 300) (by omega) rfl (Nat.le_of_ble_eq_true rfl) (g_lload_n 1 (gd rfl) rfl rfl (g_lload_n 2 (gd rfl) rfl rfl (g_lrem 3 (gd rfl) rfl (by decide) (fun z42x2 e42x2 => have i42x2 := l_rem (-1023) 1023 e42x2 rfl; g_lstore 5 (gd rfl) rfl (Nat.le_of_ble_eq_true rfl) (g_lload_n 6 (gd rfl) rfl rfl (g_lload_n 7 (gd rfl) rfl rfl (g_lxor 8 (gd rfl) rfl (fun z42x7 e42x7 => g_lconst 0 9 (gd rfl) rfl rfl (g_lcmp 10 (gd rfl) rfl (fun z42x9 e42x9 => have i42x9 := lc_in e42x9; g_if_ge 13 25 (gd rfl) rfl rfl (fun c42x10 => ?_) (fun c42x10 => ?_)))))))))))
      · skip
        have i42x10 := z_ge 0 1 c42x10 i42x9 rfl
        have c42x10a := lc_ge e42x9 c42x10
        have i42x10a := lr_le2 0 9223372036854775807 c42x10a (l_c 0 rfl) (l_rng z42x7) rfl
        refine g_lload 27 (gd rfl) rfl rfl ?_
        refine g_lreturn (gd rfl) rfl (hp42 _ _ ?_)
        show GG _ _ _ _ _ _ _ _ [.long z42x2, .long z32] _ _ _
        refine g_lcmp 46 (gd rfl) rfl (fun z45 e45 => have i45 := lc_in e45; g_if_lt 49 51 (gd rfl) rfl rfl (fun c46 => ?_) (fun c46 => ?_))
        · skip
          have i46 := z_lt (-1) (-1) c46 i45 rfl
          have c46a := lc_lt e45 c46
          have i46a := lr_lt1 0 1022 c46a i32 i42x2 rfl
          have i46b := l_b e32 i46a
          have i46c := lr_lt2 1 1023 c46a i32 i42x2 rfl
          exact g_iconst (-1) 52 (gd rfl) rfl rfl (g_istore 54 (gd rfl) rfl (Nat.le_of_ble_eq_true rfl) (g_iload_n 55 (gd rfl) rfl rfl (g_istore 57 (gd rfl) rfl (Nat.le_of_ble_eq_true rfl) (g_iconst 0 58 (gd rfl) rfl rfl (g_istore 60 (gd rfl) rfl (Nat.le_of_ble_eq_true rfl) (gg_w (by omega) (gg_f (gf_cons rfl (gf_cons rfl (gf_cons rfl (gf_cons rfl (gf_cons rfl (gf_cons rfl (gf_cons rfl (gf_cons rfl gf_nil)))))))) (ct60 4001 s3 (Int32.ofInt (-1)) x2 (Int32.ofInt 0) hI3 (fr_tr rfl fr_rf hF3) (in_w 0 2046 i46b rfl) (in_w (-1) 159 (in_c (-1) rfl) rfl) (in_w 0 31 h2 rfl) (in_w 0 4000 (in_c 0 rfl) rfl) (m_in 4001 (in_w 0 4000 (in_c 0 rfl) rfl) rfl)))))))))
        · skip
          have i46 := z_ge 0 1 c46 i45 rfl
          have c46a := lc_ge e45 c46
          exact g_iconst (-1) 50 (gd rfl) rfl rfl (g_ireturn (gd rfl) rfl rfl (hP _ _ ⟨s3, hI3, (fr_tr rfl fr_rf hF3), (Int32.ofInt (-1)), rfl, rfl, in_w (-1) 159 (in_c (-1) rfl) rfl⟩))
      · skip
        have i42x10 := z_lt (-1) (-1) c42x10 i42x9 rfl
        have c42x10a := lc_lt e42x9 c42x10
        have i42x10a := lr_lt1 (-9223372036854775808) (-1) c42x10a (l_rng z42x7) (l_c 0 rfl) rfl
        refine g_lload 15 (gd rfl) rfl rfl (g_lconst 0 16 (gd rfl) rfl rfl (g_lcmp 17 (gd rfl) rfl (fun z42x16 e42x16 => have i42x16 := lc_in e42x16; g_if_eq 20 25 (gd rfl) rfl rfl (fun c42x17 => ?_) (fun c42x17 => ?_))))
        · skip
          have i42x17 := z_eq 0 0 c42x17 i42x16 rfl
          have c42x17a := lc_eq e42x16 c42x17
          have i42x17a := lr_eq1 0 0 c42x17a i42x2 (l_c 0 rfl) rfl
          refine g_lload 27 (gd rfl) rfl rfl ?_
          refine g_lreturn (gd rfl) rfl (hp42 _ _ ?_)
          show GG _ _ _ _ _ _ _ _ [.long z42x2, .long z32] _ _ _
          refine g_lcmp 46 (gd rfl) rfl (fun z45 e45 => have i45 := lc_in e45; g_if_lt 49 51 (gd rfl) rfl rfl (fun c46 => ?_) (fun c46 => ?_))
          · skip
            have i46 := z_lt (-1) (-1) c46 i45 rfl
            have c46a := lc_lt e45 c46
            exact ln_lt c46a i32 i42x17a rfl
          · skip
            have i46 := z_ge 0 1 c46 i45 rfl
            have c46a := lc_ge e45 c46
            exact g_iconst (-1) 50 (gd rfl) rfl rfl (g_ireturn (gd rfl) rfl rfl (hP _ _ ⟨s3, hI3, (fr_tr rfl fr_rf hF3), (Int32.ofInt (-1)), rfl, rfl, in_w (-1) 159 (in_c (-1) rfl) rfl⟩))
        · skip
          have c42x17a := lc_ne e42x16 c42x17
          refine g_lload 22 (gd rfl) rfl rfl (g_lload_n 23 (gd rfl) rfl rfl (g_ladd 24 (gd rfl) rfl (fun z42x23 e42x23 => ?_)))
          have i42x23 := l_add 1 2047 e42x23 i42x2 (l_c 1024 rfl) rfl
          refine g_lreturn (gd rfl) rfl (hp42 _ _ ?_)
          show GG _ _ _ _ _ _ _ _ [.long z42x23, .long z32] _ _ _
          refine g_lcmp 46 (gd rfl) rfl (fun z45 e45 => have i45 := lc_in e45; g_if_lt 49 51 (gd rfl) rfl rfl (fun c46 => ?_) (fun c46 => ?_))
          · skip
            have i46 := z_lt (-1) (-1) c46 i45 rfl
            have c46a := lc_lt e45 c46
            have i46a := lr_lt1 0 2046 c46a i32 i42x23 rfl
            have i46b := l_b e32 i46a
            exact g_iconst (-1) 52 (gd rfl) rfl rfl (g_istore 54 (gd rfl) rfl (Nat.le_of_ble_eq_true rfl) (g_iload_n 55 (gd rfl) rfl rfl (g_istore 57 (gd rfl) rfl (Nat.le_of_ble_eq_true rfl) (g_iconst 0 58 (gd rfl) rfl rfl (g_istore 60 (gd rfl) rfl (Nat.le_of_ble_eq_true rfl) (gg_w (by omega) (gg_f (gf_cons rfl (gf_cons rfl (gf_cons rfl (gf_cons rfl (gf_cons rfl (gf_cons rfl (gf_cons rfl (gf_cons rfl gf_nil)))))))) (ct60 4001 s3 (Int32.ofInt (-1)) x2 (Int32.ofInt 0) hI3 (fr_tr rfl fr_rf hF3) (in_w 0 2046 i46b rfl) (in_w (-1) 159 (in_c (-1) rfl) rfl) (in_w 0 31 h2 rfl) (in_w 0 4000 (in_c 0 rfl) rfl) (m_in 4001 (in_w 0 4000 (in_c 0 rfl) rfl) rfl)))))))))
          · skip
            have i46 := z_ge 0 1 c46 i45 rfl
            have c46a := lc_ge e45 c46
            have i46a := lr_le2 1 2147483647 c46a i42x23 i32 rfl
            have i46b := l_b e32 i46a
            exact g_iconst (-1) 50 (gd rfl) rfl rfl (g_ireturn (gd rfl) rfl rfl (hP _ _ ⟨s3, hI3, (fr_tr rfl fr_rf hF3), (Int32.ofInt (-1)), rfl, rfl, in_w (-1) 159 (in_c (-1) rfl) rfl⟩))

def fm_207_49_2 : FM := ([9, 10, 11, 12, 13, 14, 15], [55], [(2, 4), (49, 8), (49, 9), (49, 10), (49, 11)], [])
/-- GraphHouse$Ways.collect -/
theorem k_207_49_2 {Z : AmZ} {A : Nat → Nat} {s : GS} {ex : va_W} {d : Nat} {X : AmX} {x2 : Int32} {x3 : Int32} (hd : 22 ≤ d) (hI : Inv s) (h2 : In x2 0 31) (h3 : In x3 0 31) : GC Z d 207 [.ref (A 49), .ref (A 2), .int x2, .int x3] (WW Z A s ++ ex) 0 0 (fun v u => ∃ t : GS, Inv t ∧ Fr fm_207_49_2 s t ∧ v = none ∧ u = WW Z A t ++ ex) X := by
  intro post xp hP hX
  obtain ⟨u_2_0, e_2_0⟩ : ∃ w, w = s.2.2.1 2 0 := ⟨_, rfl⟩
  have ro_2_0 := inv_F hI 0 4000 rfl e_2_0
  refine g_enter2 (k := 207) (N := 900) (by omega) rfl (Nat.le_of_ble_eq_true rfl) (g_aload_n 1 (gd rfl) rfl rfl (g_getI 4 (gd rfl) rfl rfl rfl (fun z1 e1 => have i1 := inv_F hI (-1) 4000 rfl e1; g_aload_n 5 (gd rfl) rfl rfl (g_getIv (y := u_2_0) 8 (gd rfl) rfl rfl rfl (e_2_0) (g_cmp_ne 11 28 (gd rfl) rfl rfl (fun c8 => ?_) (fun c8 => ?_))))))
  · skip
    refine g_aload_n 29 (gd rfl) rfl rfl (g_callv (X := _) (As := []) (r := []) (b := A 2) (q := 2) 32 (gd rfl) rfl rfl rfl rfl rfl (ww_o rfl) (Nat.le_of_ble_eq_true rfl) (Nat.zero_le _) (Nat.zero_le _) (k_106_2 (by omega) hI ) (fun e u h => h) (fun v u h => ?_))
    obtain ⟨s29, hI29, hF29, n29, rfl, rfl⟩ := h
    obtain ⟨z29a, e29⟩ : ∃ w, w = s29.2.2.1 2 4 := ⟨_, rfl⟩
    have i29a := inv_F hI29 (-1) 4000 rfl e29
    rw [← (show z29a = s29.2.2.1 2 4 from e29)] at n29
    rw [← (show u_2_0 = s29.2.2.1 2 0 from fr_F (e_2_0) hF29 rfl)] at n29
    show GG _ _ _ _ _ _ _ _ [] _ _ _
    refine g_aload_n 33 (gd rfl) rfl rfl (g_aload_n 34 (gd rfl) rfl rfl (g_getIv (y := u_2_0) 37 (gd rfl) rfl rfl rfl (fr_F (e_2_0) hF29 rfl) (g_putI 40 (gd rfl) rfl rfl rfl rfl (have hI37 := inv_sF (q := 49) (j := 8) hI29 rfl (in_w (-1) 4000 ro_2_0 rfl); g_aload_n 41 (gd rfl) rfl rfl (g_iload_n 42 (gd rfl) rfl rfl (g_putI 45 (gd rfl) rfl rfl rfl rfl (have hI42 := inv_sF (q := 49) (j := 9) hI37 rfl (in_w 0 31 h2 rfl); g_aload_n 46 (gd rfl) rfl rfl (g_iload_n 47 (gd rfl) rfl rfl (g_putI 50 (gd rfl) rfl rfl rfl rfl (have hI47 := inv_sF (q := 49) (j := 10) hI42 rfl (in_w 0 31 h3 rfl); g_aload_n 51 (gd rfl) rfl rfl (g_iconst 0 52 (gd rfl) rfl rfl (g_putI 55 (gd rfl) rfl rfl rfl rfl (have hI52 := inv_sF (q := 49) (j := 11) hI47 rfl (in_w 0 2001 (in_c 0 rfl) rfl); g_aload_n 56 (gd rfl) rfl rfl (g_aload_n 57 (gd rfl) rfl rfl (g_iload_n 58 (gd rfl) rfl rfl (g_iconst 1 59 (gd rfl) rfl rfl (g_iload_n 60 (gd rfl) rfl rfl (g_ishl 61 (gd rfl) rfl (fun z60 e60 => g_iconst 0 62 (gd rfl) rfl rfl (g_lconst 0 63 (gd rfl) rfl rfl (g_callv (X := _) (As := [.ref (A 2), .int x2, .int z60, .int (Int32.ofInt 0), .long (Int64.ofInt 0)]) (r := []) (b := A 49) (q := 49) 66 (gd rfl) rfl rfl rfl rfl rfl (ww_o rfl) (Nat.le_of_ble_eq_true rfl) (Nat.zero_le _) (Nat.zero_le _) (k_208_49_2 (by omega) hI52 (in_w 0 31 h2 rfl) (in_w 0 4 (in_c 0 rfl) rfl)) (fun e u h => h) (fun v u h => ?_))))))))))))))))))))))
    obtain ⟨s63, hI63, hF63, rfl, rfl⟩ := h
    show GG _ _ _ _ _ _ _ _ [] _ _ _
    refine g_aload_n 67 (gd rfl) rfl rfl (g_getI 70 (gd rfl) rfl rfl rfl (fun z67 e67 => have i67 := inv_F hI63 0 2001 rfl e67; g_sipush 2000 73 (gd rfl) rfl rfl (g_cmp_gt 76 80 (gd rfl) rfl rfl (fun c73 => ?_) (fun c73 => ?_))))
    · skip
      have i73 := r_lt2 2001 2001 c73 (in_c 2000 rfl) i67 rfl
      exact g_return (gd rfl) rfl (hP _ _ ⟨s63, hI63, (fr_tr rfl (fr_sF rfl (fr_sF rfl (fr_sF rfl (fr_sF rfl (fr_tr rfl fr_rf hF29))))) hF63), rfl, rfl⟩)
    · skip
      have i73 := r_le1 0 2000 c73 i67 (in_c 2000 rfl) rfl
      refine g_aload_n 77 (gd rfl) rfl rfl (g_callv (X := _) (As := []) (r := []) (b := A 49) (q := 49) 80 (gd rfl) rfl rfl rfl rfl rfl (ww_o rfl) (Nat.le_of_ble_eq_true rfl) (Nat.zero_le _) (Nat.zero_le _) (k_210_49 (by omega) hI63 ) (fun e u h => h) (fun v u h => ?_))
      obtain ⟨s77, hI77, hF77, rfl, rfl⟩ := h
      show GG _ _ _ _ _ _ _ _ [] _ _ _
      exact g_return (gd rfl) rfl (hP _ _ ⟨s77, hI77, (fr_tr rfl (fr_tr rfl (fr_sF rfl (fr_sF rfl (fr_sF rfl (fr_sF rfl (fr_tr rfl fr_rf hF29))))) hF63) hF77), rfl, rfl⟩)
  · skip
    have i8 := r_eq1 0 4000 c8 i1 ro_2_0 rfl
    refine g_aload_n 12 (gd rfl) rfl rfl (g_getI 15 (gd rfl) rfl rfl rfl (fun z12 e12 => have i12 := inv_F hI 0 31 rfl e12; g_iload_n 16 (gd rfl) rfl rfl (g_cmp_ne 19 28 (gd rfl) rfl rfl (fun c16 => ?_) (fun c16 => ?_))))
    · skip
      refine g_aload_n 29 (gd rfl) rfl rfl (g_callv (X := _) (As := []) (r := []) (b := A 2) (q := 2) 32 (gd rfl) rfl rfl rfl rfl rfl (ww_o rfl) (Nat.le_of_ble_eq_true rfl) (Nat.zero_le _) (Nat.zero_le _) (k_106_2 (by omega) hI ) (fun e u h => h) (fun v u h => ?_))
      obtain ⟨s29, hI29, hF29, n29, rfl, rfl⟩ := h
      obtain ⟨z29a, e29⟩ : ∃ w, w = s29.2.2.1 2 4 := ⟨_, rfl⟩
      have i29a := inv_F hI29 (-1) 4000 rfl e29
      rw [← (show z29a = s29.2.2.1 2 4 from e29)] at n29
      rw [← (show u_2_0 = s29.2.2.1 2 0 from fr_F (e_2_0) hF29 rfl)] at n29
      show GG _ _ _ _ _ _ _ _ [] _ _ _
      refine g_aload_n 33 (gd rfl) rfl rfl (g_aload_n 34 (gd rfl) rfl rfl (g_getIv (y := u_2_0) 37 (gd rfl) rfl rfl rfl (fr_F (e_2_0) hF29 rfl) (g_putI 40 (gd rfl) rfl rfl rfl rfl (have hI37 := inv_sF (q := 49) (j := 8) hI29 rfl (in_w (-1) 4000 ro_2_0 rfl); g_aload_n 41 (gd rfl) rfl rfl (g_iload_n 42 (gd rfl) rfl rfl (g_putI 45 (gd rfl) rfl rfl rfl rfl (have hI42 := inv_sF (q := 49) (j := 9) hI37 rfl (in_w 0 31 h2 rfl); g_aload_n 46 (gd rfl) rfl rfl (g_iload_n 47 (gd rfl) rfl rfl (g_putI 50 (gd rfl) rfl rfl rfl rfl (have hI47 := inv_sF (q := 49) (j := 10) hI42 rfl (in_w 0 31 h3 rfl); g_aload_n 51 (gd rfl) rfl rfl (g_iconst 0 52 (gd rfl) rfl rfl (g_putI 55 (gd rfl) rfl rfl rfl rfl (have hI52 := inv_sF (q := 49) (j := 11) hI47 rfl (in_w 0 2001 (in_c 0 rfl) rfl); g_aload_n 56 (gd rfl) rfl rfl (g_aload_n 57 (gd rfl) rfl rfl (g_iload_n 58 (gd rfl) rfl rfl (g_iconst 1 59 (gd rfl) rfl rfl (g_iload_n 60 (gd rfl) rfl rfl (g_ishl 61 (gd rfl) rfl (fun z60 e60 => g_iconst 0 62 (gd rfl) rfl rfl (g_lconst 0 63 (gd rfl) rfl rfl (g_callv (X := _) (As := [.ref (A 2), .int x2, .int z60, .int (Int32.ofInt 0), .long (Int64.ofInt 0)]) (r := []) (b := A 49) (q := 49) 66 (gd rfl) rfl rfl rfl rfl rfl (ww_o rfl) (Nat.le_of_ble_eq_true rfl) (Nat.zero_le _) (Nat.zero_le _) (k_208_49_2 (by omega) hI52 (in_w 0 31 h2 rfl) (in_w 0 4 (in_c 0 rfl) rfl)) (fun e u h => h) (fun v u h => ?_))))))))))))))))))))))
      obtain ⟨s63, hI63, hF63, rfl, rfl⟩ := h
      show GG _ _ _ _ _ _ _ _ [] _ _ _
      refine g_aload_n 67 (gd rfl) rfl rfl (g_getI 70 (gd rfl) rfl rfl rfl (fun z67 e67 => have i67 := inv_F hI63 0 2001 rfl e67; g_sipush 2000 73 (gd rfl) rfl rfl (g_cmp_gt 76 80 (gd rfl) rfl rfl (fun c73 => ?_) (fun c73 => ?_))))
      · skip
        have i73 := r_lt2 2001 2001 c73 (in_c 2000 rfl) i67 rfl
        exact g_return (gd rfl) rfl (hP _ _ ⟨s63, hI63, (fr_tr rfl (fr_sF rfl (fr_sF rfl (fr_sF rfl (fr_sF rfl (fr_tr rfl fr_rf hF29))))) hF63), rfl, rfl⟩)
      · skip
        have i73 := r_le1 0 2000 c73 i67 (in_c 2000 rfl) rfl
        refine g_aload_n 77 (gd rfl) rfl rfl (g_callv (X := _) (As := []) (r := []) (b := A 49) (q := 49) 80 (gd rfl) rfl rfl rfl rfl rfl (ww_o rfl) (Nat.le_of_ble_eq_true rfl) (Nat.zero_le _) (Nat.zero_le _) (k_210_49 (by omega) hI63 ) (fun e u h => h) (fun v u h => ?_))
        obtain ⟨s77, hI77, hF77, rfl, rfl⟩ := h
        show GG _ _ _ _ _ _ _ _ [] _ _ _
        exact g_return (gd rfl) rfl (hP _ _ ⟨s77, hI77, (fr_tr rfl (fr_tr rfl (fr_sF rfl (fr_sF rfl (fr_sF rfl (fr_sF rfl (fr_tr rfl fr_rf hF29))))) hF63) hF77), rfl, rfl⟩)
    · skip
      refine g_aload_n 20 (gd rfl) rfl rfl (g_getI 23 (gd rfl) rfl rfl rfl (fun z20 e20 => have i20 := inv_F hI 0 31 rfl e20; g_iload_n 24 (gd rfl) rfl rfl (g_cmp_ne 27 28 (gd rfl) rfl rfl (fun c24 => ?_) (fun c24 => ?_))))
      · skip
        refine g_aload_n 29 (gd rfl) rfl rfl (g_callv (X := _) (As := []) (r := []) (b := A 2) (q := 2) 32 (gd rfl) rfl rfl rfl rfl rfl (ww_o rfl) (Nat.le_of_ble_eq_true rfl) (Nat.zero_le _) (Nat.zero_le _) (k_106_2 (by omega) hI ) (fun e u h => h) (fun v u h => ?_))
        obtain ⟨s29, hI29, hF29, n29, rfl, rfl⟩ := h
        obtain ⟨z29a, e29⟩ : ∃ w, w = s29.2.2.1 2 4 := ⟨_, rfl⟩
        have i29a := inv_F hI29 (-1) 4000 rfl e29
        rw [← (show z29a = s29.2.2.1 2 4 from e29)] at n29
        rw [← (show u_2_0 = s29.2.2.1 2 0 from fr_F (e_2_0) hF29 rfl)] at n29
        show GG _ _ _ _ _ _ _ _ [] _ _ _
        refine g_aload_n 33 (gd rfl) rfl rfl (g_aload_n 34 (gd rfl) rfl rfl (g_getIv (y := u_2_0) 37 (gd rfl) rfl rfl rfl (fr_F (e_2_0) hF29 rfl) (g_putI 40 (gd rfl) rfl rfl rfl rfl (have hI37 := inv_sF (q := 49) (j := 8) hI29 rfl (in_w (-1) 4000 ro_2_0 rfl); g_aload_n 41 (gd rfl) rfl rfl (g_iload_n 42 (gd rfl) rfl rfl (g_putI 45 (gd rfl) rfl rfl rfl rfl (have hI42 := inv_sF (q := 49) (j := 9) hI37 rfl (in_w 0 31 h2 rfl); g_aload_n 46 (gd rfl) rfl rfl (g_iload_n 47 (gd rfl) rfl rfl (g_putI 50 (gd rfl) rfl rfl rfl rfl (have hI47 := inv_sF (q := 49) (j := 10) hI42 rfl (in_w 0 31 h3 rfl); g_aload_n 51 (gd rfl) rfl rfl (g_iconst 0 52 (gd rfl) rfl rfl (g_putI 55 (gd rfl) rfl rfl rfl rfl (have hI52 := inv_sF (q := 49) (j := 11) hI47 rfl (in_w 0 2001 (in_c 0 rfl) rfl); g_aload_n 56 (gd rfl) rfl rfl (g_aload_n 57 (gd rfl) rfl rfl (g_iload_n 58 (gd rfl) rfl rfl (g_iconst 1 59 (gd rfl) rfl rfl (g_iload_n 60 (gd rfl) rfl rfl (g_ishl 61 (gd rfl) rfl (fun z60 e60 => g_iconst 0 62 (gd rfl) rfl rfl (g_lconst 0 63 (gd rfl) rfl rfl (g_callv (X := _) (As := [.ref (A 2), .int x2, .int z60, .int (Int32.ofInt 0), .long (Int64.ofInt 0)]) (r := []) (b := A 49) (q := 49) 66 (gd rfl) rfl rfl rfl rfl rfl (ww_o rfl) (Nat.le_of_ble_eq_true rfl) (Nat.zero_le _) (Nat.zero_le _) (k_208_49_2 (by omega) hI52 (in_w 0 31 h2 rfl) (in_w 0 4 (in_c 0 rfl) rfl)) (fun e u h => h) (fun v u h => ?_))))))))))))))))))))))
        obtain ⟨s63, hI63, hF63, rfl, rfl⟩ := h
        show GG _ _ _ _ _ _ _ _ [] _ _ _
        refine g_aload_n 67 (gd rfl) rfl rfl (g_getI 70 (gd rfl) rfl rfl rfl (fun z67 e67 => have i67 := inv_F hI63 0 2001 rfl e67; g_sipush 2000 73 (gd rfl) rfl rfl (g_cmp_gt 76 80 (gd rfl) rfl rfl (fun c73 => ?_) (fun c73 => ?_))))
        · skip
          have i73 := r_lt2 2001 2001 c73 (in_c 2000 rfl) i67 rfl
          exact g_return (gd rfl) rfl (hP _ _ ⟨s63, hI63, (fr_tr rfl (fr_sF rfl (fr_sF rfl (fr_sF rfl (fr_sF rfl (fr_tr rfl fr_rf hF29))))) hF63), rfl, rfl⟩)
        · skip
          have i73 := r_le1 0 2000 c73 i67 (in_c 2000 rfl) rfl
          refine g_aload_n 77 (gd rfl) rfl rfl (g_callv (X := _) (As := []) (r := []) (b := A 49) (q := 49) 80 (gd rfl) rfl rfl rfl rfl rfl (ww_o rfl) (Nat.le_of_ble_eq_true rfl) (Nat.zero_le _) (Nat.zero_le _) (k_210_49 (by omega) hI63 ) (fun e u h => h) (fun v u h => ?_))
          obtain ⟨s77, hI77, hF77, rfl, rfl⟩ := h
          show GG _ _ _ _ _ _ _ _ [] _ _ _
          exact g_return (gd rfl) rfl (hP _ _ ⟨s77, hI77, (fr_tr rfl (fr_tr rfl (fr_sF rfl (fr_sF rfl (fr_sF rfl (fr_sF rfl (fr_tr rfl fr_rf hF29))))) hF63) hF77), rfl, rfl⟩)
      · skip
        exact g_return (gd rfl) rfl (hP _ _ ⟨s, hI, fr_rf, rfl, rfl⟩)

def fm_207_49_32 : FM := ([39, 40, 41, 42, 43, 44, 45], [55], [(32, 4), (49, 8), (49, 9), (49, 10), (49, 11)], [])
/-- GraphHouse$Ways.collect -/
theorem k_207_49_32 {Z : AmZ} {A : Nat → Nat} {s : GS} {ex : va_W} {d : Nat} {X : AmX} {x2 : Int32} {x3 : Int32} (hd : 22 ≤ d) (hI : Inv s) (h2 : In x2 0 31) (h3 : In x3 0 31) : GC Z d 207 [.ref (A 49), .ref (A 32), .int x2, .int x3] (WW Z A s ++ ex) 0 0 (fun v u => ∃ t : GS, Inv t ∧ Fr fm_207_49_32 s t ∧ v = none ∧ u = WW Z A t ++ ex) X := by
  intro post xp hP hX
  obtain ⟨u_32_0, e_32_0⟩ : ∃ w, w = s.2.2.1 32 0 := ⟨_, rfl⟩
  have ro_32_0 := inv_F hI 0 4000 rfl e_32_0
  refine g_enter2 (k := 207) (N := 900) (by omega) rfl (Nat.le_of_ble_eq_true rfl) (g_aload_n 1 (gd rfl) rfl rfl (g_getI 4 (gd rfl) rfl rfl rfl (fun z1 e1 => have i1 := inv_F hI (-1) 4000 rfl e1; g_aload_n 5 (gd rfl) rfl rfl (g_getIv (y := u_32_0) 8 (gd rfl) rfl rfl rfl (e_32_0) (g_cmp_ne 11 28 (gd rfl) rfl rfl (fun c8 => ?_) (fun c8 => ?_))))))
  · skip
    refine g_aload_n 29 (gd rfl) rfl rfl (g_callv (X := _) (As := []) (r := []) (b := A 32) (q := 32) 32 (gd rfl) rfl rfl rfl rfl rfl (ww_o rfl) (Nat.le_of_ble_eq_true rfl) (Nat.zero_le _) (Nat.zero_le _) (k_106_32 (by omega) hI ) (fun e u h => h) (fun v u h => ?_))
    obtain ⟨s29, hI29, hF29, n29, rfl, rfl⟩ := h
    obtain ⟨z29a, e29⟩ : ∃ w, w = s29.2.2.1 32 4 := ⟨_, rfl⟩
    have i29a := inv_F hI29 (-1) 4000 rfl e29
    rw [← (show z29a = s29.2.2.1 32 4 from e29)] at n29
    rw [← (show u_32_0 = s29.2.2.1 32 0 from fr_F (e_32_0) hF29 rfl)] at n29
    show GG _ _ _ _ _ _ _ _ [] _ _ _
    refine g_aload_n 33 (gd rfl) rfl rfl (g_aload_n 34 (gd rfl) rfl rfl (g_getIv (y := u_32_0) 37 (gd rfl) rfl rfl rfl (fr_F (e_32_0) hF29 rfl) (g_putI 40 (gd rfl) rfl rfl rfl rfl (have hI37 := inv_sF (q := 49) (j := 8) hI29 rfl (in_w (-1) 4000 ro_32_0 rfl); g_aload_n 41 (gd rfl) rfl rfl (g_iload_n 42 (gd rfl) rfl rfl (g_putI 45 (gd rfl) rfl rfl rfl rfl (have hI42 := inv_sF (q := 49) (j := 9) hI37 rfl (in_w 0 31 h2 rfl); g_aload_n 46 (gd rfl) rfl rfl (g_iload_n 47 (gd rfl) rfl rfl (g_putI 50 (gd rfl) rfl rfl rfl rfl (have hI47 := inv_sF (q := 49) (j := 10) hI42 rfl (in_w 0 31 h3 rfl); g_aload_n 51 (gd rfl) rfl rfl (g_iconst 0 52 (gd rfl) rfl rfl (g_putI 55 (gd rfl) rfl rfl rfl rfl (have hI52 := inv_sF (q := 49) (j := 11) hI47 rfl (in_w 0 2001 (in_c 0 rfl) rfl); g_aload_n 56 (gd rfl) rfl rfl (g_aload_n 57 (gd rfl) rfl rfl (g_iload_n 58 (gd rfl) rfl rfl (g_iconst 1 59 (gd rfl) rfl rfl (g_iload_n 60 (gd rfl) rfl rfl (g_ishl 61 (gd rfl) rfl (fun z60 e60 => g_iconst 0 62 (gd rfl) rfl rfl (g_lconst 0 63 (gd rfl) rfl rfl (g_callv (X := _) (As := [.ref (A 32), .int x2, .int z60, .int (Int32.ofInt 0), .long (Int64.ofInt 0)]) (r := []) (b := A 49) (q := 49) 66 (gd rfl) rfl rfl rfl rfl rfl (ww_o rfl) (Nat.le_of_ble_eq_true rfl) (Nat.zero_le _) (Nat.zero_le _) (k_208_49_32 (by omega) hI52 (in_w 0 31 h2 rfl) (in_w 0 4 (in_c 0 rfl) rfl)) (fun e u h => h) (fun v u h => ?_))))))))))))))))))))))
    obtain ⟨s63, hI63, hF63, rfl, rfl⟩ := h
    show GG _ _ _ _ _ _ _ _ [] _ _ _
    refine g_aload_n 67 (gd rfl) rfl rfl (g_getI 70 (gd rfl) rfl rfl rfl (fun z67 e67 => have i67 := inv_F hI63 0 2001 rfl e67; g_sipush 2000 73 (gd rfl) rfl rfl (g_cmp_gt 76 80 (gd rfl) rfl rfl (fun c73 => ?_) (fun c73 => ?_))))
    · skip
      have i73 := r_lt2 2001 2001 c73 (in_c 2000 rfl) i67 rfl
      exact g_return (gd rfl) rfl (hP _ _ ⟨s63, hI63, (fr_tr rfl (fr_sF rfl (fr_sF rfl (fr_sF rfl (fr_sF rfl (fr_tr rfl fr_rf hF29))))) hF63), rfl, rfl⟩)
    · skip
      have i73 := r_le1 0 2000 c73 i67 (in_c 2000 rfl) rfl
      refine g_aload_n 77 (gd rfl) rfl rfl (g_callv (X := _) (As := []) (r := []) (b := A 49) (q := 49) 80 (gd rfl) rfl rfl rfl rfl rfl (ww_o rfl) (Nat.le_of_ble_eq_true rfl) (Nat.zero_le _) (Nat.zero_le _) (k_210_49 (by omega) hI63 ) (fun e u h => h) (fun v u h => ?_))
      obtain ⟨s77, hI77, hF77, rfl, rfl⟩ := h
      show GG _ _ _ _ _ _ _ _ [] _ _ _
      exact g_return (gd rfl) rfl (hP _ _ ⟨s77, hI77, (fr_tr rfl (fr_tr rfl (fr_sF rfl (fr_sF rfl (fr_sF rfl (fr_sF rfl (fr_tr rfl fr_rf hF29))))) hF63) hF77), rfl, rfl⟩)
  · skip
    have i8 := r_eq1 0 4000 c8 i1 ro_32_0 rfl
    refine g_aload_n 12 (gd rfl) rfl rfl (g_getI 15 (gd rfl) rfl rfl rfl (fun z12 e12 => have i12 := inv_F hI 0 31 rfl e12; g_iload_n 16 (gd rfl) rfl rfl (g_cmp_ne 19 28 (gd rfl) rfl rfl (fun c16 => ?_) (fun c16 => ?_))))
    · skip
      refine g_aload_n 29 (gd rfl) rfl rfl (g_callv (X := _) (As := []) (r := []) (b := A 32) (q := 32) 32 (gd rfl) rfl rfl rfl rfl rfl (ww_o rfl) (Nat.le_of_ble_eq_true rfl) (Nat.zero_le _) (Nat.zero_le _) (k_106_32 (by omega) hI ) (fun e u h => h) (fun v u h => ?_))
      obtain ⟨s29, hI29, hF29, n29, rfl, rfl⟩ := h
      obtain ⟨z29a, e29⟩ : ∃ w, w = s29.2.2.1 32 4 := ⟨_, rfl⟩
      have i29a := inv_F hI29 (-1) 4000 rfl e29
      rw [← (show z29a = s29.2.2.1 32 4 from e29)] at n29
      rw [← (show u_32_0 = s29.2.2.1 32 0 from fr_F (e_32_0) hF29 rfl)] at n29
      show GG _ _ _ _ _ _ _ _ [] _ _ _
      refine g_aload_n 33 (gd rfl) rfl rfl (g_aload_n 34 (gd rfl) rfl rfl (g_getIv (y := u_32_0) 37 (gd rfl) rfl rfl rfl (fr_F (e_32_0) hF29 rfl) (g_putI 40 (gd rfl) rfl rfl rfl rfl (have hI37 := inv_sF (q := 49) (j := 8) hI29 rfl (in_w (-1) 4000 ro_32_0 rfl); g_aload_n 41 (gd rfl) rfl rfl (g_iload_n 42 (gd rfl) rfl rfl (g_putI 45 (gd rfl) rfl rfl rfl rfl (have hI42 := inv_sF (q := 49) (j := 9) hI37 rfl (in_w 0 31 h2 rfl); g_aload_n 46 (gd rfl) rfl rfl (g_iload_n 47 (gd rfl) rfl rfl (g_putI 50 (gd rfl) rfl rfl rfl rfl (have hI47 := inv_sF (q := 49) (j := 10) hI42 rfl (in_w 0 31 h3 rfl); g_aload_n 51 (gd rfl) rfl rfl (g_iconst 0 52 (gd rfl) rfl rfl (g_putI 55 (gd rfl) rfl rfl rfl rfl (have hI52 := inv_sF (q := 49) (j := 11) hI47 rfl (in_w 0 2001 (in_c 0 rfl) rfl); g_aload_n 56 (gd rfl) rfl rfl (g_aload_n 57 (gd rfl) rfl rfl (g_iload_n 58 (gd rfl) rfl rfl (g_iconst 1 59 (gd rfl) rfl rfl (g_iload_n 60 (gd rfl) rfl rfl (g_ishl 61 (gd rfl) rfl (fun z60 e60 => g_iconst 0 62 (gd rfl) rfl rfl (g_lconst 0 63 (gd rfl) rfl rfl (g_callv (X := _) (As := [.ref (A 32), .int x2, .int z60, .int (Int32.ofInt 0), .long (Int64.ofInt 0)]) (r := []) (b := A 49) (q := 49) 66 (gd rfl) rfl rfl rfl rfl rfl (ww_o rfl) (Nat.le_of_ble_eq_true rfl) (Nat.zero_le _) (Nat.zero_le _) (k_208_49_32 (by omega) hI52 (in_w 0 31 h2 rfl) (in_w 0 4 (in_c 0 rfl) rfl)) (fun e u h => h) (fun v u h => ?_))))))))))))))))))))))
      obtain ⟨s63, hI63, hF63, rfl, rfl⟩ := h
      show GG _ _ _ _ _ _ _ _ [] _ _ _
      refine g_aload_n 67 (gd rfl) rfl rfl (g_getI 70 (gd rfl) rfl rfl rfl (fun z67 e67 => have i67 := inv_F hI63 0 2001 rfl e67; g_sipush 2000 73 (gd rfl) rfl rfl (g_cmp_gt 76 80 (gd rfl) rfl rfl (fun c73 => ?_) (fun c73 => ?_))))
      · skip
        have i73 := r_lt2 2001 2001 c73 (in_c 2000 rfl) i67 rfl
        exact g_return (gd rfl) rfl (hP _ _ ⟨s63, hI63, (fr_tr rfl (fr_sF rfl (fr_sF rfl (fr_sF rfl (fr_sF rfl (fr_tr rfl fr_rf hF29))))) hF63), rfl, rfl⟩)
      · skip
        have i73 := r_le1 0 2000 c73 i67 (in_c 2000 rfl) rfl
        refine g_aload_n 77 (gd rfl) rfl rfl (g_callv (X := _) (As := []) (r := []) (b := A 49) (q := 49) 80 (gd rfl) rfl rfl rfl rfl rfl (ww_o rfl) (Nat.le_of_ble_eq_true rfl) (Nat.zero_le _) (Nat.zero_le _) (k_210_49 (by omega) hI63 ) (fun e u h => h) (fun v u h => ?_))
        obtain ⟨s77, hI77, hF77, rfl, rfl⟩ := h
        show GG _ _ _ _ _ _ _ _ [] _ _ _
        exact g_return (gd rfl) rfl (hP _ _ ⟨s77, hI77, (fr_tr rfl (fr_tr rfl (fr_sF rfl (fr_sF rfl (fr_sF rfl (fr_sF rfl (fr_tr rfl fr_rf hF29))))) hF63) hF77), rfl, rfl⟩)
    · skip
      refine g_aload_n 20 (gd rfl) rfl rfl (g_getI 23 (gd rfl) rfl rfl rfl (fun z20 e20 => have i20 := inv_F hI 0 31 rfl e20; g_iload_n 24 (gd rfl) rfl rfl (g_cmp_ne 27 28 (gd rfl) rfl rfl (fun c24 => ?_) (fun c24 => ?_))))
      · skip
        refine g_aload_n 29 (gd rfl) rfl rfl (g_callv (X := _) (As := []) (r := []) (b := A 32) (q := 32) 32 (gd rfl) rfl rfl rfl rfl rfl (ww_o rfl) (Nat.le_of_ble_eq_true rfl) (Nat.zero_le _) (Nat.zero_le _) (k_106_32 (by omega) hI ) (fun e u h => h) (fun v u h => ?_))
        obtain ⟨s29, hI29, hF29, n29, rfl, rfl⟩ := h
        obtain ⟨z29a, e29⟩ : ∃ w, w = s29.2.2.1 32 4 := ⟨_, rfl⟩
        have i29a := inv_F hI29 (-1) 4000 rfl e29
        rw [← (show z29a = s29.2.2.1 32 4 from e29)] at n29
        rw [← (show u_32_0 = s29.2.2.1 32 0 from fr_F (e_32_0) hF29 rfl)] at n29
        show GG _ _ _ _ _ _ _ _ [] _ _ _
        refine g_aload_n 33 (gd rfl) rfl rfl (g_aload_n 34 (gd rfl) rfl rfl (g_getIv (y := u_32_0) 37 (gd rfl) rfl rfl rfl (fr_F (e_32_0) hF29 rfl) (g_putI 40 (gd rfl) rfl rfl rfl rfl (have hI37 := inv_sF (q := 49) (j := 8) hI29 rfl (in_w (-1) 4000 ro_32_0 rfl); g_aload_n 41 (gd rfl) rfl rfl (g_iload_n 42 (gd rfl) rfl rfl (g_putI 45 (gd rfl) rfl rfl rfl rfl (have hI42 := inv_sF (q := 49) (j := 9) hI37 rfl (in_w 0 31 h2 rfl); g_aload_n 46 (gd rfl) rfl rfl (g_iload_n 47 (gd rfl) rfl rfl (g_putI 50 (gd rfl) rfl rfl rfl rfl (have hI47 := inv_sF (q := 49) (j := 10) hI42 rfl (in_w 0 31 h3 rfl); g_aload_n 51 (gd rfl) rfl rfl (g_iconst 0 52 (gd rfl) rfl rfl (g_putI 55 (gd rfl) rfl rfl rfl rfl (have hI52 := inv_sF (q := 49) (j := 11) hI47 rfl (in_w 0 2001 (in_c 0 rfl) rfl); g_aload_n 56 (gd rfl) rfl rfl (g_aload_n 57 (gd rfl) rfl rfl (g_iload_n 58 (gd rfl) rfl rfl (g_iconst 1 59 (gd rfl) rfl rfl (g_iload_n 60 (gd rfl) rfl rfl (g_ishl 61 (gd rfl) rfl (fun z60 e60 => g_iconst 0 62 (gd rfl) rfl rfl (g_lconst 0 63 (gd rfl) rfl rfl (g_callv (X := _) (As := [.ref (A 32), .int x2, .int z60, .int (Int32.ofInt 0), .long (Int64.ofInt 0)]) (r := []) (b := A 49) (q := 49) 66 (gd rfl) rfl rfl rfl rfl rfl (ww_o rfl) (Nat.le_of_ble_eq_true rfl) (Nat.zero_le _) (Nat.zero_le _) (k_208_49_32 (by omega) hI52 (in_w 0 31 h2 rfl) (in_w 0 4 (in_c 0 rfl) rfl)) (fun e u h => h) (fun v u h => ?_))))))))))))))))))))))
        obtain ⟨s63, hI63, hF63, rfl, rfl⟩ := h
        show GG _ _ _ _ _ _ _ _ [] _ _ _
        refine g_aload_n 67 (gd rfl) rfl rfl (g_getI 70 (gd rfl) rfl rfl rfl (fun z67 e67 => have i67 := inv_F hI63 0 2001 rfl e67; g_sipush 2000 73 (gd rfl) rfl rfl (g_cmp_gt 76 80 (gd rfl) rfl rfl (fun c73 => ?_) (fun c73 => ?_))))
        · skip
          have i73 := r_lt2 2001 2001 c73 (in_c 2000 rfl) i67 rfl
          exact g_return (gd rfl) rfl (hP _ _ ⟨s63, hI63, (fr_tr rfl (fr_sF rfl (fr_sF rfl (fr_sF rfl (fr_sF rfl (fr_tr rfl fr_rf hF29))))) hF63), rfl, rfl⟩)
        · skip
          have i73 := r_le1 0 2000 c73 i67 (in_c 2000 rfl) rfl
          refine g_aload_n 77 (gd rfl) rfl rfl (g_callv (X := _) (As := []) (r := []) (b := A 49) (q := 49) 80 (gd rfl) rfl rfl rfl rfl rfl (ww_o rfl) (Nat.le_of_ble_eq_true rfl) (Nat.zero_le _) (Nat.zero_le _) (k_210_49 (by omega) hI63 ) (fun e u h => h) (fun v u h => ?_))
          obtain ⟨s77, hI77, hF77, rfl, rfl⟩ := h
          show GG _ _ _ _ _ _ _ _ [] _ _ _
          exact g_return (gd rfl) rfl (hP _ _ ⟨s77, hI77, (fr_tr rfl (fr_tr rfl (fr_sF rfl (fr_sF rfl (fr_sF rfl (fr_sF rfl (fr_tr rfl fr_rf hF29))))) hF63) hF77), rfl, rfl⟩)
      · skip
        exact g_return (gd rfl) rfl (hP _ _ ⟨s, hI, fr_rf, rfl, rfl⟩)

def fm_230_0 : FM := ([9, 10, 11, 12, 13, 14, 15, 39, 40, 41, 42, 43, 44, 45], [50], [(2, 4), (32, 4), (49, 0), (49, 1), (49, 2)], [])
/-- GraphHouse.way -/
theorem k_230_0 {Z : AmZ} {A : Nat → Nat} {s : GS} {ex : va_W} {d : Nat} {x1 : Int32} {x2 : Int32} {x3 : Int32} (hd : 7 ≤ d) (hI : Inv s)  : GC Z d 230 [.ref (A 0), .int x1, .int x2, .int x3] (WW Z A s ++ ex) 3 18 (fun v u => ∃ t : GS, Inv t ∧ Fr fm_230_0 s t ∧ ∃ z : Int32, v = some (.int z) ∧ u = WW Z A t ++ ex ∧ In z (-1) 159) (gE1 Z A ex fm_230_0 s) := by
  intro post xp hP hX
  obtain ⟨u_0_2, e_0_2⟩ : ∃ w, w = s.2.2.1 0 2 := ⟨_, rfl⟩
  have ro_0_2 := inv_F hI (-1) 4000 rfl e_0_2
  obtain ⟨u_2_1, e_2_1⟩ : ∃ w, w = s.2.2.1 2 1 := ⟨_, rfl⟩
  have ro_2_1 := inv_F hI 0 32 rfl e_2_1
  obtain ⟨u_32_1, e_32_1⟩ : ∃ w, w = s.2.2.1 32 1 := ⟨_, rfl⟩
  have ro_32_1 := inv_F hI 0 32 rfl e_32_1
  refine g_enter2 (k := 230) (N := 900) (by omega) rfl (Nat.le_of_ble_eq_true rfl) (g_aload_n 1 (gd rfl) rfl rfl ?_)
  refine g_callv (X := _) (As := []) (r := []) (b := A 0) (q := 0) 4 (gd rfl) rfl rfl rfl rfl rfl (ww_o rfl) (Nat.le_of_ble_eq_true rfl) (mc := 0) (ms := 0) (Nat.zero_le _) (Nat.zero_le _) (P := fun v u => _) ?_ (fun e u h => h) (fun v u h => h)
  intro po1 xx1 hp1 hx1
  refine g_enter2 (k := 259) (N := 300) (by omega) rfl (Nat.le_of_ble_eq_true rfl) (g_aload_n 1 (gd rfl) rfl rfl (g_getIv (y := u_0_2) 4 (gd rfl) rfl rfl rfl (e_0_2) (g_iconst (-1) 5 (gd rfl) rfl rfl (g_cmp_ne 8 18 (gd rfl) rfl rfl (fun c1x5 => ?_) (fun c1x5 => ?_)))))
  · skip
    have i1x5 := r_ne1 0 4000 c1x5 ro_0_2 (in_c (-1) rfl) rfl
    refine g_aload_n 19 (gd rfl) rfl rfl (g_getA (q2 := 32) 22 (gd rfl) rfl rfl rfl rfl ?_)
    refine g_areturn (gd rfl) rfl (hp1 _ _ ?_)
    show GG _ _ _ _ _ _ _ _ [.ref (A 32)] _ _ _
    refine g_astore 6 (gd rfl) rfl (Nat.le_of_ble_eq_true rfl) (g_aload 8 (gd rfl) rfl rfl (g_iload_n 9 (gd rfl) rfl rfl ?_))
    refine g_callv (X := _) (As := [.int x1]) (r := []) (b := A 32) (q := 32) 12 (gd rfl) rfl rfl rfl rfl rfl (ww_o rfl) (Nat.le_of_ble_eq_true rfl) (mc := 0) (ms := 0) (Nat.zero_le _) (Nat.zero_le _) (P := fun v u => _) ?_ (fun e u h => h) (fun v u h => h)
    intro po9 xx9 hp9 hx9
    refine g_enter2 (k := 94) (N := 300) (by omega) rfl (Nat.le_of_ble_eq_true rfl) (g_iload_n 1 (gd rfl) rfl rfl (g_if_lt 4 16 (gd rfl) rfl rfl (fun c9x1 => ?_) (fun c9x1 => ?_)))
    · skip
      have i9x1 := z_lt (-2147483648) (-1) c9x1 (i_rng x1) rfl
      refine g_iconst 0 17 (gd rfl) rfl rfl ?_
      refine g_ireturn (gd rfl) rfl (nb01 (in_w 0 1 (in_c 0 rfl) rfl)) (hp9 _ _ ?_)
      show GG _ _ _ _ _ _ _ _ [.int (Int32.ofInt 0)] _ _ _
      refine g_if_eq 15 32 (gd rfl) rfl rfl (fun c12 => ?_) (fun c12 => ?_)
      · skip
        refine g_iconst 0 33 (gd rfl) rfl rfl (g_thr (E := am_IA) (y := yX11_allow) 36 (gd rfl) rfl rfl (Or.inl ⟨rfl, rfl, rfl⟩) (by omega) (Nat.le_of_ble_eq_true rfl) (Nat.le_of_ble_eq_true rfl) (Nat.le_of_ble_eq_true rfl) (fun c33 => ?_) (fun c33 => ?_))
        · skip
          exact zn_ne c33 (in_c 0 rfl) rfl
        · skip
          exact (hX _ _ ⟨rfl, s, hI, fr_rf, rfl⟩)
      · skip
        exact zn_ne c12 (in_c 0 rfl) rfl
    · skip
      have i9x1 := z_ge 0 2147483647 c9x1 (i_rng x1) rfl
      refine g_iload_n 5 (gd rfl) rfl rfl (g_aload_n 6 (gd rfl) rfl rfl (g_getIv (y := u_32_1) 9 (gd rfl) rfl rfl rfl (e_32_1) (g_cmp_ge 12 16 (gd rfl) rfl rfl (fun c9x9 => ?_) (fun c9x9 => ?_))))
      · skip
        refine g_iconst 0 17 (gd rfl) rfl rfl ?_
        refine g_ireturn (gd rfl) rfl (nb01 (in_w 0 1 (in_c 0 rfl) rfl)) (hp9 _ _ ?_)
        show GG _ _ _ _ _ _ _ _ [.int (Int32.ofInt 0)] _ _ _
        refine g_if_eq 15 32 (gd rfl) rfl rfl (fun c12 => ?_) (fun c12 => ?_)
        · skip
          refine g_iconst 0 33 (gd rfl) rfl rfl (g_thr (E := am_IA) (y := yX11_allow) 36 (gd rfl) rfl rfl (Or.inl ⟨rfl, rfl, rfl⟩) (by omega) (Nat.le_of_ble_eq_true rfl) (Nat.le_of_ble_eq_true rfl) (Nat.le_of_ble_eq_true rfl) (fun c33 => ?_) (fun c33 => ?_))
          · skip
            exact zn_ne c33 (in_c 0 rfl) rfl
          · skip
            exact (hX _ _ ⟨rfl, s, hI, fr_rf, rfl⟩)
        · skip
          exact zn_ne c12 (in_c 0 rfl) rfl
      · skip
        have i9x9 := r_lt1 0 31 c9x9 i9x1 ro_32_1 rfl
        have i9x9a := r_lt2 1 32 c9x9 i9x1 ro_32_1 rfl
        refine g_iconst 1 13 (gd rfl) rfl rfl (g_goto 17 (gd rfl) rfl ?_)
        refine g_ireturn (gd rfl) rfl (nb01 (in_w 0 1 (in_c 1 rfl) rfl)) (hp9 _ _ ?_)
        show GG _ _ _ _ _ _ _ _ [.int (Int32.ofInt 1)] _ _ _
        refine g_if_eq 15 32 (gd rfl) rfl rfl (fun c12 => ?_) (fun c12 => ?_)
        · skip
          exact zn_eq c12 (in_c 1 rfl) rfl
        · skip
          refine g_aload 17 (gd rfl) rfl rfl (g_iload_n 18 (gd rfl) rfl rfl ?_)
          refine g_callv (X := _) (As := [.int x2]) (r := []) (b := A 32) (q := 32) 21 (gd rfl) rfl rfl rfl rfl rfl (ww_o rfl) (Nat.le_of_ble_eq_true rfl) (mc := 0) (ms := 0) (Nat.zero_le _) (Nat.zero_le _) (P := fun v u => _) ?_ (fun e u h => h) (fun v u h => h)
          intro po18 xx18 hp18 hx18
          refine g_enter2 (k := 94) (N := 300) (by omega) rfl (Nat.le_of_ble_eq_true rfl) (g_iload_n 1 (gd rfl) rfl rfl (g_if_lt 4 16 (gd rfl) rfl rfl (fun c18x1 => ?_) (fun c18x1 => ?_)))
          · skip
            have i18x1 := z_lt (-2147483648) (-1) c18x1 (i_rng x2) rfl
            refine g_iconst 0 17 (gd rfl) rfl rfl ?_
            refine g_ireturn (gd rfl) rfl (nb01 (in_w 0 1 (in_c 0 rfl) rfl)) (hp18 _ _ ?_)
            show GG _ _ _ _ _ _ _ _ [.int (Int32.ofInt 0)] _ _ _
            refine g_if_eq 24 32 (gd rfl) rfl rfl (fun c21 => ?_) (fun c21 => ?_)
            · skip
              refine g_iconst 0 33 (gd rfl) rfl rfl (g_thr (E := am_IA) (y := yX11_allow) 36 (gd rfl) rfl rfl (Or.inl ⟨rfl, rfl, rfl⟩) (by omega) (Nat.le_of_ble_eq_true rfl) (Nat.le_of_ble_eq_true rfl) (Nat.le_of_ble_eq_true rfl) (fun c33 => ?_) (fun c33 => ?_))
              · skip
                exact zn_ne c33 (in_c 0 rfl) rfl
              · skip
                exact (hX _ _ ⟨rfl, s, hI, fr_rf, rfl⟩)
            · skip
              exact zn_ne c21 (in_c 0 rfl) rfl
          · skip
            have i18x1 := z_ge 0 2147483647 c18x1 (i_rng x2) rfl
            refine g_iload_n 5 (gd rfl) rfl rfl (g_aload_n 6 (gd rfl) rfl rfl (g_getIv (y := u_32_1) 9 (gd rfl) rfl rfl rfl (e_32_1) (g_cmp_ge 12 16 (gd rfl) rfl rfl (fun c18x9 => ?_) (fun c18x9 => ?_))))
            · skip
              have i18x9 := r_le2 1 2147483647 c18x9 i9x9a i18x1 rfl
              refine g_iconst 0 17 (gd rfl) rfl rfl ?_
              refine g_ireturn (gd rfl) rfl (nb01 (in_w 0 1 (in_c 0 rfl) rfl)) (hp18 _ _ ?_)
              show GG _ _ _ _ _ _ _ _ [.int (Int32.ofInt 0)] _ _ _
              refine g_if_eq 24 32 (gd rfl) rfl rfl (fun c21 => ?_) (fun c21 => ?_)
              · skip
                refine g_iconst 0 33 (gd rfl) rfl rfl (g_thr (E := am_IA) (y := yX11_allow) 36 (gd rfl) rfl rfl (Or.inl ⟨rfl, rfl, rfl⟩) (by omega) (Nat.le_of_ble_eq_true rfl) (Nat.le_of_ble_eq_true rfl) (Nat.le_of_ble_eq_true rfl) (fun c33 => ?_) (fun c33 => ?_))
                · skip
                  exact zn_ne c33 (in_c 0 rfl) rfl
                · skip
                  exact (hX _ _ ⟨rfl, s, hI, fr_rf, rfl⟩)
              · skip
                exact zn_ne c21 (in_c 0 rfl) rfl
            · skip
              have i18x9 := r_lt1 0 31 c18x9 i18x1 i9x9a rfl
              refine g_iconst 1 13 (gd rfl) rfl rfl (g_goto 17 (gd rfl) rfl ?_)
              refine g_ireturn (gd rfl) rfl (nb01 (in_w 0 1 (in_c 1 rfl) rfl)) (hp18 _ _ ?_)
              show GG _ _ _ _ _ _ _ _ [.int (Int32.ofInt 1)] _ _ _
              refine g_if_eq 24 32 (gd rfl) rfl rfl (fun c21 => ?_) (fun c21 => ?_)
              · skip
                exact zn_eq c21 (in_c 1 rfl) rfl
              · skip
                refine g_iload_n 25 (gd rfl) rfl rfl (g_if_lt 28 32 (gd rfl) rfl rfl (fun c25 => ?_) (fun c25 => ?_))
                · skip
                  have i25 := z_lt (-2147483648) (-1) c25 (i_rng x3) rfl
                  refine g_iconst 0 33 (gd rfl) rfl rfl (g_thr (E := am_IA) (y := yX11_allow) 36 (gd rfl) rfl rfl (Or.inl ⟨rfl, rfl, rfl⟩) (by omega) (Nat.le_of_ble_eq_true rfl) (Nat.le_of_ble_eq_true rfl) (Nat.le_of_ble_eq_true rfl) (fun c33 => ?_) (fun c33 => ?_))
                  · skip
                    exact zn_ne c33 (in_c 0 rfl) rfl
                  · skip
                    exact (hX _ _ ⟨rfl, s, hI, fr_rf, rfl⟩)
                · skip
                  have i25 := z_ge 0 2147483647 c25 (i_rng x3) rfl
                  refine g_iconst 1 29 (gd rfl) rfl rfl (g_goto 33 (gd rfl) rfl (g_thr (E := am_IA) (y := yX11_allow) 36 (gd rfl) rfl rfl (Or.inl ⟨rfl, rfl, rfl⟩) (by omega) (Nat.le_of_ble_eq_true rfl) (Nat.le_of_ble_eq_true rfl) (Nat.le_of_ble_eq_true rfl) (fun c33 => ?_) (fun c33 => ?_)))
                  · skip
                    refine g_aload_n 37 (gd rfl) rfl rfl (g_getA (q2 := 49) 40 (gd rfl) rfl rfl rfl rfl (g_aload 42 (gd rfl) rfl rfl (g_iload_n 43 (gd rfl) rfl rfl (g_iload_n 44 (gd rfl) rfl rfl (g_iload_n 45 (gd rfl) rfl rfl (g_callv (X := _) (As := [.ref (A 32), .int x1, .int x2, .int x3]) (r := []) (b := A 49) (q := 49) 48 (gd rfl) rfl rfl rfl rfl rfl (ww_o rfl) (Nat.le_of_ble_eq_true rfl) (Nat.zero_le _) (Nat.zero_le _) (k_195_49_32 (by omega) hI (in_w 0 31 i9x9 rfl) (in_w 0 31 i18x9 rfl) (in_w 0 2147483647 i25 rfl)) (fun e u h => h) (fun v u h => ?_)))))))
                    obtain ⟨s45, hI45, hF45, z45, rfl, rfl, i45⟩ := h
                    show GG _ _ _ _ _ _ _ _ [.int z45] _ _ _
                    exact g_ireturn (gd rfl) rfl rfl (hP _ _ ⟨s45, hI45, (fr_tr rfl fr_rf hF45), z45, rfl, rfl, in_w (-1) 159 i45 rfl⟩)
                  · skip
                    exact zn_eq c33 (in_c 1 rfl) rfl
  · skip
    have i1x5 := r_eq1 (-1) (-1) c1x5 ro_0_2 (in_c (-1) rfl) rfl
    refine g_aload_n 9 (gd rfl) rfl rfl (g_getA (q2 := 1) 12 (gd rfl) rfl rfl rfl rfl (g_getA (q2 := 2) 15 (gd rfl) rfl rfl rfl rfl (g_goto 22 (gd rfl) rfl ?_)))
    refine g_areturn (gd rfl) rfl (hp1 _ _ ?_)
    show GG _ _ _ _ _ _ _ _ [.ref (A 2)] _ _ _
    refine g_astore 6 (gd rfl) rfl (Nat.le_of_ble_eq_true rfl) (g_aload 8 (gd rfl) rfl rfl (g_iload_n 9 (gd rfl) rfl rfl ?_))
    refine g_callv (X := _) (As := [.int x1]) (r := []) (b := A 2) (q := 2) 12 (gd rfl) rfl rfl rfl rfl rfl (ww_o rfl) (Nat.le_of_ble_eq_true rfl) (mc := 0) (ms := 0) (Nat.zero_le _) (Nat.zero_le _) (P := fun v u => _) ?_ (fun e u h => h) (fun v u h => h)
    intro po9 xx9 hp9 hx9
    refine g_enter2 (k := 94) (N := 300) (by omega) rfl (Nat.le_of_ble_eq_true rfl) (g_iload_n 1 (gd rfl) rfl rfl (g_if_lt 4 16 (gd rfl) rfl rfl (fun c9x1 => ?_) (fun c9x1 => ?_)))
    · skip
      have i9x1 := z_lt (-2147483648) (-1) c9x1 (i_rng x1) rfl
      refine g_iconst 0 17 (gd rfl) rfl rfl ?_
      refine g_ireturn (gd rfl) rfl (nb01 (in_w 0 1 (in_c 0 rfl) rfl)) (hp9 _ _ ?_)
      show GG _ _ _ _ _ _ _ _ [.int (Int32.ofInt 0)] _ _ _
      refine g_if_eq 15 32 (gd rfl) rfl rfl (fun c12 => ?_) (fun c12 => ?_)
      · skip
        refine g_iconst 0 33 (gd rfl) rfl rfl (g_thr (E := am_IA) (y := yX11_allow) 36 (gd rfl) rfl rfl (Or.inl ⟨rfl, rfl, rfl⟩) (by omega) (Nat.le_of_ble_eq_true rfl) (Nat.le_of_ble_eq_true rfl) (Nat.le_of_ble_eq_true rfl) (fun c33 => ?_) (fun c33 => ?_))
        · skip
          exact zn_ne c33 (in_c 0 rfl) rfl
        · skip
          exact (hX _ _ ⟨rfl, s, hI, fr_rf, rfl⟩)
      · skip
        exact zn_ne c12 (in_c 0 rfl) rfl
    · skip
      have i9x1 := z_ge 0 2147483647 c9x1 (i_rng x1) rfl
      refine g_iload_n 5 (gd rfl) rfl rfl (g_aload_n 6 (gd rfl) rfl rfl (g_getIv (y := u_2_1) 9 (gd rfl) rfl rfl rfl (e_2_1) (g_cmp_ge 12 16 (gd rfl) rfl rfl (fun c9x9 => ?_) (fun c9x9 => ?_))))
      · skip
        refine g_iconst 0 17 (gd rfl) rfl rfl ?_
        refine g_ireturn (gd rfl) rfl (nb01 (in_w 0 1 (in_c 0 rfl) rfl)) (hp9 _ _ ?_)
        show GG _ _ _ _ _ _ _ _ [.int (Int32.ofInt 0)] _ _ _
        refine g_if_eq 15 32 (gd rfl) rfl rfl (fun c12 => ?_) (fun c12 => ?_)
        · skip
          refine g_iconst 0 33 (gd rfl) rfl rfl (g_thr (E := am_IA) (y := yX11_allow) 36 (gd rfl) rfl rfl (Or.inl ⟨rfl, rfl, rfl⟩) (by omega) (Nat.le_of_ble_eq_true rfl) (Nat.le_of_ble_eq_true rfl) (Nat.le_of_ble_eq_true rfl) (fun c33 => ?_) (fun c33 => ?_))
          · skip
            exact zn_ne c33 (in_c 0 rfl) rfl
          · skip
            exact (hX _ _ ⟨rfl, s, hI, fr_rf, rfl⟩)
        · skip
          exact zn_ne c12 (in_c 0 rfl) rfl
      · skip
        have i9x9 := r_lt1 0 31 c9x9 i9x1 ro_2_1 rfl
        have i9x9a := r_lt2 1 32 c9x9 i9x1 ro_2_1 rfl
        refine g_iconst 1 13 (gd rfl) rfl rfl (g_goto 17 (gd rfl) rfl ?_)
        refine g_ireturn (gd rfl) rfl (nb01 (in_w 0 1 (in_c 1 rfl) rfl)) (hp9 _ _ ?_)
        show GG _ _ _ _ _ _ _ _ [.int (Int32.ofInt 1)] _ _ _
        refine g_if_eq 15 32 (gd rfl) rfl rfl (fun c12 => ?_) (fun c12 => ?_)
        · skip
          exact zn_eq c12 (in_c 1 rfl) rfl
        · skip
          refine g_aload 17 (gd rfl) rfl rfl (g_iload_n 18 (gd rfl) rfl rfl ?_)
          refine g_callv (X := _) (As := [.int x2]) (r := []) (b := A 2) (q := 2) 21 (gd rfl) rfl rfl rfl rfl rfl (ww_o rfl) (Nat.le_of_ble_eq_true rfl) (mc := 0) (ms := 0) (Nat.zero_le _) (Nat.zero_le _) (P := fun v u => _) ?_ (fun e u h => h) (fun v u h => h)
          intro po18 xx18 hp18 hx18
          refine g_enter2 (k := 94) (N := 300) (by omega) rfl (Nat.le_of_ble_eq_true rfl) (g_iload_n 1 (gd rfl) rfl rfl (g_if_lt 4 16 (gd rfl) rfl rfl (fun c18x1 => ?_) (fun c18x1 => ?_)))
          · skip
            have i18x1 := z_lt (-2147483648) (-1) c18x1 (i_rng x2) rfl
            refine g_iconst 0 17 (gd rfl) rfl rfl ?_
            refine g_ireturn (gd rfl) rfl (nb01 (in_w 0 1 (in_c 0 rfl) rfl)) (hp18 _ _ ?_)
            show GG _ _ _ _ _ _ _ _ [.int (Int32.ofInt 0)] _ _ _
            refine g_if_eq 24 32 (gd rfl) rfl rfl (fun c21 => ?_) (fun c21 => ?_)
            · skip
              refine g_iconst 0 33 (gd rfl) rfl rfl (g_thr (E := am_IA) (y := yX11_allow) 36 (gd rfl) rfl rfl (Or.inl ⟨rfl, rfl, rfl⟩) (by omega) (Nat.le_of_ble_eq_true rfl) (Nat.le_of_ble_eq_true rfl) (Nat.le_of_ble_eq_true rfl) (fun c33 => ?_) (fun c33 => ?_))
              · skip
                exact zn_ne c33 (in_c 0 rfl) rfl
              · skip
                exact (hX _ _ ⟨rfl, s, hI, fr_rf, rfl⟩)
            · skip
              exact zn_ne c21 (in_c 0 rfl) rfl
          · skip
            have i18x1 := z_ge 0 2147483647 c18x1 (i_rng x2) rfl
            refine g_iload_n 5 (gd rfl) rfl rfl (g_aload_n 6 (gd rfl) rfl rfl (g_getIv (y := u_2_1) 9 (gd rfl) rfl rfl rfl (e_2_1) (g_cmp_ge 12 16 (gd rfl) rfl rfl (fun c18x9 => ?_) (fun c18x9 => ?_))))
            · skip
              have i18x9 := r_le2 1 2147483647 c18x9 i9x9a i18x1 rfl
              refine g_iconst 0 17 (gd rfl) rfl rfl ?_
              refine g_ireturn (gd rfl) rfl (nb01 (in_w 0 1 (in_c 0 rfl) rfl)) (hp18 _ _ ?_)
              show GG _ _ _ _ _ _ _ _ [.int (Int32.ofInt 0)] _ _ _
              refine g_if_eq 24 32 (gd rfl) rfl rfl (fun c21 => ?_) (fun c21 => ?_)
              · skip
                refine g_iconst 0 33 (gd rfl) rfl rfl (g_thr (E := am_IA) (y := yX11_allow) 36 (gd rfl) rfl rfl (Or.inl ⟨rfl, rfl, rfl⟩) (by omega) (Nat.le_of_ble_eq_true rfl) (Nat.le_of_ble_eq_true rfl) (Nat.le_of_ble_eq_true rfl) (fun c33 => ?_) (fun c33 => ?_))
                · skip
                  exact zn_ne c33 (in_c 0 rfl) rfl
                · skip
                  exact (hX _ _ ⟨rfl, s, hI, fr_rf, rfl⟩)
              · skip
                exact zn_ne c21 (in_c 0 rfl) rfl
            · skip
              have i18x9 := r_lt1 0 31 c18x9 i18x1 i9x9a rfl
              refine g_iconst 1 13 (gd rfl) rfl rfl (g_goto 17 (gd rfl) rfl ?_)
              refine g_ireturn (gd rfl) rfl (nb01 (in_w 0 1 (in_c 1 rfl) rfl)) (hp18 _ _ ?_)
              show GG _ _ _ _ _ _ _ _ [.int (Int32.ofInt 1)] _ _ _
              refine g_if_eq 24 32 (gd rfl) rfl rfl (fun c21 => ?_) (fun c21 => ?_)
              · skip
                exact zn_eq c21 (in_c 1 rfl) rfl
              · skip
                refine g_iload_n 25 (gd rfl) rfl rfl (g_if_lt 28 32 (gd rfl) rfl rfl (fun c25 => ?_) (fun c25 => ?_))
                · skip
                  have i25 := z_lt (-2147483648) (-1) c25 (i_rng x3) rfl
                  refine g_iconst 0 33 (gd rfl) rfl rfl (g_thr (E := am_IA) (y := yX11_allow) 36 (gd rfl) rfl rfl (Or.inl ⟨rfl, rfl, rfl⟩) (by omega) (Nat.le_of_ble_eq_true rfl) (Nat.le_of_ble_eq_true rfl) (Nat.le_of_ble_eq_true rfl) (fun c33 => ?_) (fun c33 => ?_))
                  · skip
                    exact zn_ne c33 (in_c 0 rfl) rfl
                  · skip
                    exact (hX _ _ ⟨rfl, s, hI, fr_rf, rfl⟩)
                · skip
                  have i25 := z_ge 0 2147483647 c25 (i_rng x3) rfl
                  refine g_iconst 1 29 (gd rfl) rfl rfl (g_goto 33 (gd rfl) rfl (g_thr (E := am_IA) (y := yX11_allow) 36 (gd rfl) rfl rfl (Or.inl ⟨rfl, rfl, rfl⟩) (by omega) (Nat.le_of_ble_eq_true rfl) (Nat.le_of_ble_eq_true rfl) (Nat.le_of_ble_eq_true rfl) (fun c33 => ?_) (fun c33 => ?_)))
                  · skip
                    refine g_aload_n 37 (gd rfl) rfl rfl (g_getA (q2 := 49) 40 (gd rfl) rfl rfl rfl rfl (g_aload 42 (gd rfl) rfl rfl (g_iload_n 43 (gd rfl) rfl rfl (g_iload_n 44 (gd rfl) rfl rfl (g_iload_n 45 (gd rfl) rfl rfl (g_callv (X := _) (As := [.ref (A 2), .int x1, .int x2, .int x3]) (r := []) (b := A 49) (q := 49) 48 (gd rfl) rfl rfl rfl rfl rfl (ww_o rfl) (Nat.le_of_ble_eq_true rfl) (Nat.zero_le _) (Nat.zero_le _) (k_195_49_2 (by omega) hI (in_w 0 31 i9x9 rfl) (in_w 0 31 i18x9 rfl) (in_w 0 2147483647 i25 rfl)) (fun e u h => h) (fun v u h => ?_)))))))
                    obtain ⟨s45, hI45, hF45, z45, rfl, rfl, i45⟩ := h
                    show GG _ _ _ _ _ _ _ _ [.int z45] _ _ _
                    exact g_ireturn (gd rfl) rfl rfl (hP _ _ ⟨s45, hI45, (fr_tr rfl fr_rf hF45), z45, rfl, rfl, in_w (-1) 159 i45 rfl⟩)
                  · skip
                    exact zn_eq c33 (in_c 1 rfl) rfl

def fm_232_0 : FM := ([9, 10, 11, 12, 13, 14, 15, 39, 40, 41, 42, 43, 44, 45], [55], [(2, 4), (32, 4), (49, 8), (49, 9), (49, 10), (49, 11)], [])
/-- GraphHouse.shorts -/
theorem k_232_0 {Z : AmZ} {A : Nat → Nat} {s : GS} {ex : va_W} {d : Nat} {x1 : Int32} {x2 : Int32} (hd : 24 ≤ d) (hI : Inv s)  : GC Z d 232 [.ref (A 0), .int x1, .int x2] (WW Z A s ++ ex) 3 18 (fun v u => ∃ t : GS, Inv t ∧ Fr fm_232_0 s t ∧ ∃ z : Int32, v = some (.int z) ∧ u = WW Z A t ++ ex ∧ In z (-2) 2000) (gE1 Z A ex fm_232_0 s) := by
  intro post xp hP hX
  obtain ⟨u_0_2, e_0_2⟩ : ∃ w, w = s.2.2.1 0 2 := ⟨_, rfl⟩
  have ro_0_2 := inv_F hI (-1) 4000 rfl e_0_2
  obtain ⟨u_2_1, e_2_1⟩ : ∃ w, w = s.2.2.1 2 1 := ⟨_, rfl⟩
  have ro_2_1 := inv_F hI 0 32 rfl e_2_1
  obtain ⟨u_32_1, e_32_1⟩ : ∃ w, w = s.2.2.1 32 1 := ⟨_, rfl⟩
  have ro_32_1 := inv_F hI 0 32 rfl e_32_1
  refine g_enter2 (k := 232) (N := 900) (by omega) rfl (Nat.le_of_ble_eq_true rfl) (g_aload_n 1 (gd rfl) rfl rfl ?_)
  refine g_callv (X := _) (As := []) (r := []) (b := A 0) (q := 0) 4 (gd rfl) rfl rfl rfl rfl rfl (ww_o rfl) (Nat.le_of_ble_eq_true rfl) (mc := 0) (ms := 0) (Nat.zero_le _) (Nat.zero_le _) (P := fun v u => _) ?_ (fun e u h => h) (fun v u h => h)
  intro po1 xx1 hp1 hx1
  refine g_enter2 (k := 259) (N := 300) (by omega) rfl (Nat.le_of_ble_eq_true rfl) (g_aload_n 1 (gd rfl) rfl rfl (g_getIv (y := u_0_2) 4 (gd rfl) rfl rfl rfl (e_0_2) (g_iconst (-1) 5 (gd rfl) rfl rfl (g_cmp_ne 8 18 (gd rfl) rfl rfl (fun c1x5 => ?_) (fun c1x5 => ?_)))))
  · skip
    have i1x5 := r_ne1 0 4000 c1x5 ro_0_2 (in_c (-1) rfl) rfl
    refine g_aload_n 19 (gd rfl) rfl rfl (g_getA (q2 := 32) 22 (gd rfl) rfl rfl rfl rfl ?_)
    refine g_areturn (gd rfl) rfl (hp1 _ _ ?_)
    show GG _ _ _ _ _ _ _ _ [.ref (A 32)] _ _ _
    refine g_astore_n 5 (gd rfl) rfl (Nat.le_of_ble_eq_true rfl) (g_aload_n 6 (gd rfl) rfl rfl (g_iload_n 7 (gd rfl) rfl rfl (g_iload_n 8 (gd rfl) rfl rfl ?_)))
    refine g_callv (X := _) (As := [.int x1, .int x2]) (r := []) (b := A 32) (q := 32) 11 (gd rfl) rfl rfl rfl rfl rfl (ww_o rfl) (Nat.le_of_ble_eq_true rfl) (mc := 0) (ms := 0) (Nat.zero_le _) (Nat.zero_le _) (P := fun v u => _) ?_ (fun e u h => h) (fun v u h => h)
    intro po8 xx8 hp8 hx8
    refine g_enter2 (k := 95) (N := 300) (by omega) rfl (Nat.le_of_ble_eq_true rfl) (g_aload_n 1 (gd rfl) rfl rfl (g_iload_n 2 (gd rfl) rfl rfl ?_))
    refine g_callv (X := _) (As := [.int x1]) (r := []) (b := A 32) (q := 32) 5 (gd rfl) rfl rfl rfl rfl rfl (ww_o rfl) (Nat.le_of_ble_eq_true rfl) (mc := 0) (ms := 0) (Nat.zero_le _) (Nat.zero_le _) (P := fun v u => _) ?_ (fun e u h => h) (fun v u h => h)
    intro po8x2 xx8x2 hp8x2 hx8x2
    refine g_enter2 (k := 94) (N := 300) (by omega) rfl (Nat.le_of_ble_eq_true rfl) (g_iload_n 1 (gd rfl) rfl rfl (g_if_lt 4 16 (gd rfl) rfl rfl (fun c8x2x1 => ?_) (fun c8x2x1 => ?_)))
    · skip
      have i8x2x1 := z_lt (-2147483648) (-1) c8x2x1 (i_rng x1) rfl
      refine g_iconst 0 17 (gd rfl) rfl rfl ?_
      refine g_ireturn (gd rfl) rfl (nb01 (in_w 0 1 (in_c 0 rfl) rfl)) (hp8x2 _ _ ?_)
      show GG _ _ _ _ _ _ _ _ [.int (Int32.ofInt 0)] _ _ _
      refine g_if_eq 8 25 (gd rfl) rfl rfl (fun c8x5 => ?_) (fun c8x5 => ?_)
      · skip
        refine g_iconst 0 26 (gd rfl) rfl rfl ?_
        refine g_ireturn (gd rfl) rfl (nb01 (in_w 0 1 (in_c 0 rfl) rfl)) (hp8 _ _ ?_)
        show GG _ _ _ _ _ _ _ _ [.int (Int32.ofInt 0)] _ _ _
        refine g_thr (E := am_IA) (y := yX11_allow) 14 (gd rfl) rfl rfl (Or.inl ⟨rfl, rfl, rfl⟩) (by omega) (Nat.le_of_ble_eq_true rfl) (Nat.le_of_ble_eq_true rfl) (Nat.le_of_ble_eq_true rfl) (fun c11 => ?_) (fun c11 => ?_)
        · skip
          exact zn_ne c11 (in_c 0 rfl) rfl
        · skip
          exact (hX _ _ ⟨rfl, s, hI, fr_rf, rfl⟩)
      · skip
        exact zn_ne c8x5 (in_c 0 rfl) rfl
    · skip
      have i8x2x1 := z_ge 0 2147483647 c8x2x1 (i_rng x1) rfl
      refine g_iload_n 5 (gd rfl) rfl rfl (g_aload_n 6 (gd rfl) rfl rfl (g_getIv (y := u_32_1) 9 (gd rfl) rfl rfl rfl (e_32_1) (g_cmp_ge 12 16 (gd rfl) rfl rfl (fun c8x2x9 => ?_) (fun c8x2x9 => ?_))))
      · skip
        refine g_iconst 0 17 (gd rfl) rfl rfl ?_
        refine g_ireturn (gd rfl) rfl (nb01 (in_w 0 1 (in_c 0 rfl) rfl)) (hp8x2 _ _ ?_)
        show GG _ _ _ _ _ _ _ _ [.int (Int32.ofInt 0)] _ _ _
        refine g_if_eq 8 25 (gd rfl) rfl rfl (fun c8x5 => ?_) (fun c8x5 => ?_)
        · skip
          refine g_iconst 0 26 (gd rfl) rfl rfl ?_
          refine g_ireturn (gd rfl) rfl (nb01 (in_w 0 1 (in_c 0 rfl) rfl)) (hp8 _ _ ?_)
          show GG _ _ _ _ _ _ _ _ [.int (Int32.ofInt 0)] _ _ _
          refine g_thr (E := am_IA) (y := yX11_allow) 14 (gd rfl) rfl rfl (Or.inl ⟨rfl, rfl, rfl⟩) (by omega) (Nat.le_of_ble_eq_true rfl) (Nat.le_of_ble_eq_true rfl) (Nat.le_of_ble_eq_true rfl) (fun c11 => ?_) (fun c11 => ?_)
          · skip
            exact zn_ne c11 (in_c 0 rfl) rfl
          · skip
            exact (hX _ _ ⟨rfl, s, hI, fr_rf, rfl⟩)
        · skip
          exact zn_ne c8x5 (in_c 0 rfl) rfl
      · skip
        have i8x2x9 := r_lt1 0 31 c8x2x9 i8x2x1 ro_32_1 rfl
        have i8x2x9a := r_lt2 1 32 c8x2x9 i8x2x1 ro_32_1 rfl
        refine g_iconst 1 13 (gd rfl) rfl rfl (g_goto 17 (gd rfl) rfl ?_)
        refine g_ireturn (gd rfl) rfl (nb01 (in_w 0 1 (in_c 1 rfl) rfl)) (hp8x2 _ _ ?_)
        show GG _ _ _ _ _ _ _ _ [.int (Int32.ofInt 1)] _ _ _
        refine g_if_eq 8 25 (gd rfl) rfl rfl (fun c8x5 => ?_) (fun c8x5 => ?_)
        · skip
          exact zn_eq c8x5 (in_c 1 rfl) rfl
        · skip
          refine g_aload_n 9 (gd rfl) rfl rfl (g_iload_n 10 (gd rfl) rfl rfl ?_)
          refine g_callv (X := _) (As := [.int x2]) (r := []) (b := A 32) (q := 32) 13 (gd rfl) rfl rfl rfl rfl rfl (ww_o rfl) (Nat.le_of_ble_eq_true rfl) (mc := 0) (ms := 0) (Nat.zero_le _) (Nat.zero_le _) (P := fun v u => _) ?_ (fun e u h => h) (fun v u h => h)
          intro po8x10 xx8x10 hp8x10 hx8x10
          refine g_enter2 (k := 94) (N := 300) (by omega) rfl (Nat.le_of_ble_eq_true rfl) (g_iload_n 1 (gd rfl) rfl rfl (g_if_lt 4 16 (gd rfl) rfl rfl (fun c8x10x1 => ?_) (fun c8x10x1 => ?_)))
          · skip
            have i8x10x1 := z_lt (-2147483648) (-1) c8x10x1 (i_rng x2) rfl
            refine g_iconst 0 17 (gd rfl) rfl rfl ?_
            refine g_ireturn (gd rfl) rfl (nb01 (in_w 0 1 (in_c 0 rfl) rfl)) (hp8x10 _ _ ?_)
            show GG _ _ _ _ _ _ _ _ [.int (Int32.ofInt 0)] _ _ _
            refine g_if_eq 16 25 (gd rfl) rfl rfl (fun c8x13 => ?_) (fun c8x13 => ?_)
            · skip
              refine g_iconst 0 26 (gd rfl) rfl rfl ?_
              refine g_ireturn (gd rfl) rfl (nb01 (in_w 0 1 (in_c 0 rfl) rfl)) (hp8 _ _ ?_)
              show GG _ _ _ _ _ _ _ _ [.int (Int32.ofInt 0)] _ _ _
              refine g_thr (E := am_IA) (y := yX11_allow) 14 (gd rfl) rfl rfl (Or.inl ⟨rfl, rfl, rfl⟩) (by omega) (Nat.le_of_ble_eq_true rfl) (Nat.le_of_ble_eq_true rfl) (Nat.le_of_ble_eq_true rfl) (fun c11 => ?_) (fun c11 => ?_)
              · skip
                exact zn_ne c11 (in_c 0 rfl) rfl
              · skip
                exact (hX _ _ ⟨rfl, s, hI, fr_rf, rfl⟩)
            · skip
              exact zn_ne c8x13 (in_c 0 rfl) rfl
          · skip
            have i8x10x1 := z_ge 0 2147483647 c8x10x1 (i_rng x2) rfl
            refine g_iload_n 5 (gd rfl) rfl rfl (g_aload_n 6 (gd rfl) rfl rfl (g_getIv (y := u_32_1) 9 (gd rfl) rfl rfl rfl (e_32_1) (g_cmp_ge 12 16 (gd rfl) rfl rfl (fun c8x10x9 => ?_) (fun c8x10x9 => ?_))))
            · skip
              have i8x10x9 := r_le2 1 2147483647 c8x10x9 i8x2x9a i8x10x1 rfl
              refine g_iconst 0 17 (gd rfl) rfl rfl ?_
              refine g_ireturn (gd rfl) rfl (nb01 (in_w 0 1 (in_c 0 rfl) rfl)) (hp8x10 _ _ ?_)
              show GG _ _ _ _ _ _ _ _ [.int (Int32.ofInt 0)] _ _ _
              refine g_if_eq 16 25 (gd rfl) rfl rfl (fun c8x13 => ?_) (fun c8x13 => ?_)
              · skip
                refine g_iconst 0 26 (gd rfl) rfl rfl ?_
                refine g_ireturn (gd rfl) rfl (nb01 (in_w 0 1 (in_c 0 rfl) rfl)) (hp8 _ _ ?_)
                show GG _ _ _ _ _ _ _ _ [.int (Int32.ofInt 0)] _ _ _
                refine g_thr (E := am_IA) (y := yX11_allow) 14 (gd rfl) rfl rfl (Or.inl ⟨rfl, rfl, rfl⟩) (by omega) (Nat.le_of_ble_eq_true rfl) (Nat.le_of_ble_eq_true rfl) (Nat.le_of_ble_eq_true rfl) (fun c11 => ?_) (fun c11 => ?_)
                · skip
                  exact zn_ne c11 (in_c 0 rfl) rfl
                · skip
                  exact (hX _ _ ⟨rfl, s, hI, fr_rf, rfl⟩)
              · skip
                exact zn_ne c8x13 (in_c 0 rfl) rfl
            · skip
              have i8x10x9 := r_lt1 0 31 c8x10x9 i8x10x1 i8x2x9a rfl
              refine g_iconst 1 13 (gd rfl) rfl rfl (g_goto 17 (gd rfl) rfl ?_)
              refine g_ireturn (gd rfl) rfl (nb01 (in_w 0 1 (in_c 1 rfl) rfl)) (hp8x10 _ _ ?_)
              show GG _ _ _ _ _ _ _ _ [.int (Int32.ofInt 1)] _ _ _
              refine g_if_eq 16 25 (gd rfl) rfl rfl (fun c8x13 => ?_) (fun c8x13 => ?_)
              · skip
                exact zn_eq c8x13 (in_c 1 rfl) rfl
              · skip
                refine g_iload_n 17 (gd rfl) rfl rfl (g_iload_n 18 (gd rfl) rfl rfl (g_cmp_eq 21 25 (gd rfl) rfl rfl (fun c8x18 => ?_) (fun c8x18 => ?_)))
                · skip
                  refine g_iconst 0 26 (gd rfl) rfl rfl ?_
                  refine g_ireturn (gd rfl) rfl (nb01 (in_w 0 1 (in_c 0 rfl) rfl)) (hp8 _ _ ?_)
                  show GG _ _ _ _ _ _ _ _ [.int (Int32.ofInt 0)] _ _ _
                  refine g_thr (E := am_IA) (y := yX11_allow) 14 (gd rfl) rfl rfl (Or.inl ⟨rfl, rfl, rfl⟩) (by omega) (Nat.le_of_ble_eq_true rfl) (Nat.le_of_ble_eq_true rfl) (Nat.le_of_ble_eq_true rfl) (fun c11 => ?_) (fun c11 => ?_)
                  · skip
                    exact zn_ne c11 (in_c 0 rfl) rfl
                  · skip
                    exact (hX _ _ ⟨rfl, s, hI, fr_rf, rfl⟩)
                · skip
                  refine g_iconst 1 22 (gd rfl) rfl rfl (g_goto 26 (gd rfl) rfl ?_)
                  refine g_ireturn (gd rfl) rfl (nb01 (in_w 0 1 (in_c 1 rfl) rfl)) (hp8 _ _ ?_)
                  show GG _ _ _ _ _ _ _ _ [.int (Int32.ofInt 1)] _ _ _
                  refine g_thr (E := am_IA) (y := yX11_allow) 14 (gd rfl) rfl rfl (Or.inl ⟨rfl, rfl, rfl⟩) (by omega) (Nat.le_of_ble_eq_true rfl) (Nat.le_of_ble_eq_true rfl) (Nat.le_of_ble_eq_true rfl) (fun c11 => ?_) (fun c11 => ?_)
                  · skip
                    refine g_aload_n 15 (gd rfl) rfl rfl (g_getA (q2 := 49) 18 (gd rfl) rfl rfl rfl rfl (g_aload_n 19 (gd rfl) rfl rfl (g_iload_n 20 (gd rfl) rfl rfl (g_iload_n 21 (gd rfl) rfl rfl ?_))))
                    refine g_callv (X := _) (As := [.ref (A 32), .int x1, .int x2]) (r := []) (b := A 49) (q := 49) 24 (gd rfl) rfl rfl rfl rfl rfl (ww_o rfl) (Nat.le_of_ble_eq_true rfl) (mc := 0) (ms := 0) (Nat.zero_le _) (Nat.zero_le _) (P := fun v u => _) ?_ (fun e u h => h) (fun v u h => h)
                    intro po21 xx21 hp21 hx21
                    refine g_enter2 (k := 205) (N := 300) (by omega) rfl (Nat.le_of_ble_eq_true rfl) (g_aload_n 1 (gd rfl) rfl rfl (g_aload_n 2 (gd rfl) rfl rfl (g_iload_n 3 (gd rfl) rfl rfl (g_iload_n 4 (gd rfl) rfl rfl (g_callv (X := _) (As := [.ref (A 32), .int x1, .int x2]) (r := []) (b := A 49) (q := 49) 7 (gd rfl) rfl rfl rfl rfl rfl (ww_o rfl) (Nat.le_of_ble_eq_true rfl) (Nat.zero_le _) (Nat.zero_le _) (k_207_49_32 (by omega) hI (in_w 0 31 i8x2x9 rfl) (in_w 0 31 i8x10x9 rfl)) (fun e u h => h) (fun v u h => ?_))))))
                    obtain ⟨s21x4, hI21x4, hF21x4, rfl, rfl⟩ := h
                    show GG _ _ _ _ _ _ _ _ [] _ _ _
                    refine g_aload_n 8 (gd rfl) rfl rfl (g_getI 11 (gd rfl) rfl rfl rfl (fun z21x8 e21x8 => have i21x8 := inv_F hI21x4 0 2001 rfl e21x8; g_sipush 2000 14 (gd rfl) rfl rfl (g_cmp_le 17 22 (gd rfl) rfl rfl (fun c21x14 => ?_) (fun c21x14 => ?_))))
                    · skip
                      have i21x14 := r_le1 0 2000 c21x14 i21x8 (in_c 2000 rfl) rfl
                      refine g_aload_n 23 (gd rfl) rfl rfl (g_getIv (y := z21x8) 26 (gd rfl) rfl rfl rfl (e21x8) ?_)
                      refine g_ireturn (gd rfl) rfl rfl (hp21 _ _ ?_)
                      show GG _ _ _ _ _ _ _ _ [.int z21x8] _ _ _
                      exact g_ireturn (gd rfl) rfl rfl (hP _ _ ⟨s21x4, hI21x4, (fr_tr rfl fr_rf hF21x4), z21x8, rfl, rfl, in_w (-2) 2000 i21x14 rfl⟩)
                    · skip
                      have i21x14 := r_lt2 2001 2001 c21x14 (in_c 2000 rfl) i21x8 rfl
                      refine g_bipush (-2) 19 (gd rfl) rfl rfl (g_goto 26 (gd rfl) rfl ?_)
                      refine g_ireturn (gd rfl) rfl rfl (hp21 _ _ ?_)
                      show GG _ _ _ _ _ _ _ _ [.int (Int32.ofInt (-2))] _ _ _
                      exact g_ireturn (gd rfl) rfl rfl (hP _ _ ⟨s21x4, hI21x4, (fr_tr rfl fr_rf hF21x4), (Int32.ofInt (-2)), rfl, rfl, in_w (-2) 2000 (in_c (-2) rfl) rfl⟩)
                  · skip
                    exact zn_eq c11 (in_c 1 rfl) rfl
  · skip
    have i1x5 := r_eq1 (-1) (-1) c1x5 ro_0_2 (in_c (-1) rfl) rfl
    refine g_aload_n 9 (gd rfl) rfl rfl (g_getA (q2 := 1) 12 (gd rfl) rfl rfl rfl rfl (g_getA (q2 := 2) 15 (gd rfl) rfl rfl rfl rfl (g_goto 22 (gd rfl) rfl ?_)))
    refine g_areturn (gd rfl) rfl (hp1 _ _ ?_)
    show GG _ _ _ _ _ _ _ _ [.ref (A 2)] _ _ _
    refine g_astore_n 5 (gd rfl) rfl (Nat.le_of_ble_eq_true rfl) (g_aload_n 6 (gd rfl) rfl rfl (g_iload_n 7 (gd rfl) rfl rfl (g_iload_n 8 (gd rfl) rfl rfl ?_)))
    refine g_callv (X := _) (As := [.int x1, .int x2]) (r := []) (b := A 2) (q := 2) 11 (gd rfl) rfl rfl rfl rfl rfl (ww_o rfl) (Nat.le_of_ble_eq_true rfl) (mc := 0) (ms := 0) (Nat.zero_le _) (Nat.zero_le _) (P := fun v u => _) ?_ (fun e u h => h) (fun v u h => h)
    intro po8 xx8 hp8 hx8
    refine g_enter2 (k := 95) (N := 300) (by omega) rfl (Nat.le_of_ble_eq_true rfl) (g_aload_n 1 (gd rfl) rfl rfl (g_iload_n 2 (gd rfl) rfl rfl ?_))
    refine g_callv (X := _) (As := [.int x1]) (r := []) (b := A 2) (q := 2) 5 (gd rfl) rfl rfl rfl rfl rfl (ww_o rfl) (Nat.le_of_ble_eq_true rfl) (mc := 0) (ms := 0) (Nat.zero_le _) (Nat.zero_le _) (P := fun v u => _) ?_ (fun e u h => h) (fun v u h => h)
    intro po8x2 xx8x2 hp8x2 hx8x2
    refine g_enter2 (k := 94) (N := 300) (by omega) rfl (Nat.le_of_ble_eq_true rfl) (g_iload_n 1 (gd rfl) rfl rfl (g_if_lt 4 16 (gd rfl) rfl rfl (fun c8x2x1 => ?_) (fun c8x2x1 => ?_)))
    · skip
      have i8x2x1 := z_lt (-2147483648) (-1) c8x2x1 (i_rng x1) rfl
      refine g_iconst 0 17 (gd rfl) rfl rfl ?_
      refine g_ireturn (gd rfl) rfl (nb01 (in_w 0 1 (in_c 0 rfl) rfl)) (hp8x2 _ _ ?_)
      show GG _ _ _ _ _ _ _ _ [.int (Int32.ofInt 0)] _ _ _
      refine g_if_eq 8 25 (gd rfl) rfl rfl (fun c8x5 => ?_) (fun c8x5 => ?_)
      · skip
        refine g_iconst 0 26 (gd rfl) rfl rfl ?_
        refine g_ireturn (gd rfl) rfl (nb01 (in_w 0 1 (in_c 0 rfl) rfl)) (hp8 _ _ ?_)
        show GG _ _ _ _ _ _ _ _ [.int (Int32.ofInt 0)] _ _ _
        refine g_thr (E := am_IA) (y := yX11_allow) 14 (gd rfl) rfl rfl (Or.inl ⟨rfl, rfl, rfl⟩) (by omega) (Nat.le_of_ble_eq_true rfl) (Nat.le_of_ble_eq_true rfl) (Nat.le_of_ble_eq_true rfl) (fun c11 => ?_) (fun c11 => ?_)
        · skip
          exact zn_ne c11 (in_c 0 rfl) rfl
        · skip
          exact (hX _ _ ⟨rfl, s, hI, fr_rf, rfl⟩)
      · skip
        exact zn_ne c8x5 (in_c 0 rfl) rfl
    · skip
      have i8x2x1 := z_ge 0 2147483647 c8x2x1 (i_rng x1) rfl
      refine g_iload_n 5 (gd rfl) rfl rfl (g_aload_n 6 (gd rfl) rfl rfl (g_getIv (y := u_2_1) 9 (gd rfl) rfl rfl rfl (e_2_1) (g_cmp_ge 12 16 (gd rfl) rfl rfl (fun c8x2x9 => ?_) (fun c8x2x9 => ?_))))
      · skip
        refine g_iconst 0 17 (gd rfl) rfl rfl ?_
        refine g_ireturn (gd rfl) rfl (nb01 (in_w 0 1 (in_c 0 rfl) rfl)) (hp8x2 _ _ ?_)
        show GG _ _ _ _ _ _ _ _ [.int (Int32.ofInt 0)] _ _ _
        refine g_if_eq 8 25 (gd rfl) rfl rfl (fun c8x5 => ?_) (fun c8x5 => ?_)
        · skip
          refine g_iconst 0 26 (gd rfl) rfl rfl ?_
          refine g_ireturn (gd rfl) rfl (nb01 (in_w 0 1 (in_c 0 rfl) rfl)) (hp8 _ _ ?_)
          show GG _ _ _ _ _ _ _ _ [.int (Int32.ofInt 0)] _ _ _
          refine g_thr (E := am_IA) (y := yX11_allow) 14 (gd rfl) rfl rfl (Or.inl ⟨rfl, rfl, rfl⟩) (by omega) (Nat.le_of_ble_eq_true rfl) (Nat.le_of_ble_eq_true rfl) (Nat.le_of_ble_eq_true rfl) (fun c11 => ?_) (fun c11 => ?_)
          · skip
            exact zn_ne c11 (in_c 0 rfl) rfl
          · skip
            exact (hX _ _ ⟨rfl, s, hI, fr_rf, rfl⟩)
        · skip
          exact zn_ne c8x5 (in_c 0 rfl) rfl
      · skip
        have i8x2x9 := r_lt1 0 31 c8x2x9 i8x2x1 ro_2_1 rfl
        have i8x2x9a := r_lt2 1 32 c8x2x9 i8x2x1 ro_2_1 rfl
        refine g_iconst 1 13 (gd rfl) rfl rfl (g_goto 17 (gd rfl) rfl ?_)
        refine g_ireturn (gd rfl) rfl (nb01 (in_w 0 1 (in_c 1 rfl) rfl)) (hp8x2 _ _ ?_)
        show GG _ _ _ _ _ _ _ _ [.int (Int32.ofInt 1)] _ _ _
        refine g_if_eq 8 25 (gd rfl) rfl rfl (fun c8x5 => ?_) (fun c8x5 => ?_)
        · skip
          exact zn_eq c8x5 (in_c 1 rfl) rfl
        · skip
          refine g_aload_n 9 (gd rfl) rfl rfl (g_iload_n 10 (gd rfl) rfl rfl ?_)
          refine g_callv (X := _) (As := [.int x2]) (r := []) (b := A 2) (q := 2) 13 (gd rfl) rfl rfl rfl rfl rfl (ww_o rfl) (Nat.le_of_ble_eq_true rfl) (mc := 0) (ms := 0) (Nat.zero_le _) (Nat.zero_le _) (P := fun v u => _) ?_ (fun e u h => h) (fun v u h => h)
          intro po8x10 xx8x10 hp8x10 hx8x10
          refine g_enter2 (k := 94) (N := 300) (by omega) rfl (Nat.le_of_ble_eq_true rfl) (g_iload_n 1 (gd rfl) rfl rfl (g_if_lt 4 16 (gd rfl) rfl rfl (fun c8x10x1 => ?_) (fun c8x10x1 => ?_)))
          · skip
            have i8x10x1 := z_lt (-2147483648) (-1) c8x10x1 (i_rng x2) rfl
            refine g_iconst 0 17 (gd rfl) rfl rfl ?_
            refine g_ireturn (gd rfl) rfl (nb01 (in_w 0 1 (in_c 0 rfl) rfl)) (hp8x10 _ _ ?_)
            show GG _ _ _ _ _ _ _ _ [.int (Int32.ofInt 0)] _ _ _
            refine g_if_eq 16 25 (gd rfl) rfl rfl (fun c8x13 => ?_) (fun c8x13 => ?_)
            · skip
              refine g_iconst 0 26 (gd rfl) rfl rfl ?_
              refine g_ireturn (gd rfl) rfl (nb01 (in_w 0 1 (in_c 0 rfl) rfl)) (hp8 _ _ ?_)
              show GG _ _ _ _ _ _ _ _ [.int (Int32.ofInt 0)] _ _ _
              refine g_thr (E := am_IA) (y := yX11_allow) 14 (gd rfl) rfl rfl (Or.inl ⟨rfl, rfl, rfl⟩) (by omega) (Nat.le_of_ble_eq_true rfl) (Nat.le_of_ble_eq_true rfl) (Nat.le_of_ble_eq_true rfl) (fun c11 => ?_) (fun c11 => ?_)
              · skip
                exact zn_ne c11 (in_c 0 rfl) rfl
              · skip
                exact (hX _ _ ⟨rfl, s, hI, fr_rf, rfl⟩)
            · skip
              exact zn_ne c8x13 (in_c 0 rfl) rfl
          · skip
            have i8x10x1 := z_ge 0 2147483647 c8x10x1 (i_rng x2) rfl
            refine g_iload_n 5 (gd rfl) rfl rfl (g_aload_n 6 (gd rfl) rfl rfl (g_getIv (y := u_2_1) 9 (gd rfl) rfl rfl rfl (e_2_1) (g_cmp_ge 12 16 (gd rfl) rfl rfl (fun c8x10x9 => ?_) (fun c8x10x9 => ?_))))
            · skip
              have i8x10x9 := r_le2 1 2147483647 c8x10x9 i8x2x9a i8x10x1 rfl
              refine g_iconst 0 17 (gd rfl) rfl rfl ?_
              refine g_ireturn (gd rfl) rfl (nb01 (in_w 0 1 (in_c 0 rfl) rfl)) (hp8x10 _ _ ?_)
              show GG _ _ _ _ _ _ _ _ [.int (Int32.ofInt 0)] _ _ _
              refine g_if_eq 16 25 (gd rfl) rfl rfl (fun c8x13 => ?_) (fun c8x13 => ?_)
              · skip
                refine g_iconst 0 26 (gd rfl) rfl rfl ?_
                refine g_ireturn (gd rfl) rfl (nb01 (in_w 0 1 (in_c 0 rfl) rfl)) (hp8 _ _ ?_)
                show GG _ _ _ _ _ _ _ _ [.int (Int32.ofInt 0)] _ _ _
                refine g_thr (E := am_IA) (y := yX11_allow) 14 (gd rfl) rfl rfl (Or.inl ⟨rfl, rfl, rfl⟩) (by omega) (Nat.le_of_ble_eq_true rfl) (Nat.le_of_ble_eq_true rfl) (Nat.le_of_ble_eq_true rfl) (fun c11 => ?_) (fun c11 => ?_)
                · skip
                  exact zn_ne c11 (in_c 0 rfl) rfl
                · skip
                  exact (hX _ _ ⟨rfl, s, hI, fr_rf, rfl⟩)
              · skip
                exact zn_ne c8x13 (in_c 0 rfl) rfl
            · skip
              have i8x10x9 := r_lt1 0 31 c8x10x9 i8x10x1 i8x2x9a rfl
              refine g_iconst 1 13 (gd rfl) rfl rfl (g_goto 17 (gd rfl) rfl ?_)
              refine g_ireturn (gd rfl) rfl (nb01 (in_w 0 1 (in_c 1 rfl) rfl)) (hp8x10 _ _ ?_)
              show GG _ _ _ _ _ _ _ _ [.int (Int32.ofInt 1)] _ _ _
              refine g_if_eq 16 25 (gd rfl) rfl rfl (fun c8x13 => ?_) (fun c8x13 => ?_)
              · skip
                exact zn_eq c8x13 (in_c 1 rfl) rfl
              · skip
                refine g_iload_n 17 (gd rfl) rfl rfl (g_iload_n 18 (gd rfl) rfl rfl (g_cmp_eq 21 25 (gd rfl) rfl rfl (fun c8x18 => ?_) (fun c8x18 => ?_)))
                · skip
                  refine g_iconst 0 26 (gd rfl) rfl rfl ?_
                  refine g_ireturn (gd rfl) rfl (nb01 (in_w 0 1 (in_c 0 rfl) rfl)) (hp8 _ _ ?_)
                  show GG _ _ _ _ _ _ _ _ [.int (Int32.ofInt 0)] _ _ _
                  refine g_thr (E := am_IA) (y := yX11_allow) 14 (gd rfl) rfl rfl (Or.inl ⟨rfl, rfl, rfl⟩) (by omega) (Nat.le_of_ble_eq_true rfl) (Nat.le_of_ble_eq_true rfl) (Nat.le_of_ble_eq_true rfl) (fun c11 => ?_) (fun c11 => ?_)
                  · skip
                    exact zn_ne c11 (in_c 0 rfl) rfl
                  · skip
                    exact (hX _ _ ⟨rfl, s, hI, fr_rf, rfl⟩)
                · skip
                  refine g_iconst 1 22 (gd rfl) rfl rfl (g_goto 26 (gd rfl) rfl ?_)
                  refine g_ireturn (gd rfl) rfl (nb01 (in_w 0 1 (in_c 1 rfl) rfl)) (hp8 _ _ ?_)
                  show GG _ _ _ _ _ _ _ _ [.int (Int32.ofInt 1)] _ _ _
                  refine g_thr (E := am_IA) (y := yX11_allow) 14 (gd rfl) rfl rfl (Or.inl ⟨rfl, rfl, rfl⟩) (by omega) (Nat.le_of_ble_eq_true rfl) (Nat.le_of_ble_eq_true rfl) (Nat.le_of_ble_eq_true rfl) (fun c11 => ?_) (fun c11 => ?_)
                  · skip
                    refine g_aload_n 15 (gd rfl) rfl rfl (g_getA (q2 := 49) 18 (gd rfl) rfl rfl rfl rfl (g_aload_n 19 (gd rfl) rfl rfl (g_iload_n 20 (gd rfl) rfl rfl (g_iload_n 21 (gd rfl) rfl rfl ?_))))
                    refine g_callv (X := _) (As := [.ref (A 2), .int x1, .int x2]) (r := []) (b := A 49) (q := 49) 24 (gd rfl) rfl rfl rfl rfl rfl (ww_o rfl) (Nat.le_of_ble_eq_true rfl) (mc := 0) (ms := 0) (Nat.zero_le _) (Nat.zero_le _) (P := fun v u => _) ?_ (fun e u h => h) (fun v u h => h)
                    intro po21 xx21 hp21 hx21
                    refine g_enter2 (k := 205) (N := 300) (by omega) rfl (Nat.le_of_ble_eq_true rfl) (g_aload_n 1 (gd rfl) rfl rfl (g_aload_n 2 (gd rfl) rfl rfl (g_iload_n 3 (gd rfl) rfl rfl (g_iload_n 4 (gd rfl) rfl rfl (g_callv (X := _) (As := [.ref (A 2), .int x1, .int x2]) (r := []) (b := A 49) (q := 49) 7 (gd rfl) rfl rfl rfl rfl rfl (ww_o rfl) (Nat.le_of_ble_eq_true rfl) (Nat.zero_le _) (Nat.zero_le _) (k_207_49_2 (by omega) hI (in_w 0 31 i8x2x9 rfl) (in_w 0 31 i8x10x9 rfl)) (fun e u h => h) (fun v u h => ?_))))))
                    obtain ⟨s21x4, hI21x4, hF21x4, rfl, rfl⟩ := h
                    show GG _ _ _ _ _ _ _ _ [] _ _ _
                    refine g_aload_n 8 (gd rfl) rfl rfl (g_getI 11 (gd rfl) rfl rfl rfl (fun z21x8 e21x8 => have i21x8 := inv_F hI21x4 0 2001 rfl e21x8; g_sipush 2000 14 (gd rfl) rfl rfl (g_cmp_le 17 22 (gd rfl) rfl rfl (fun c21x14 => ?_) (fun c21x14 => ?_))))
                    · skip
                      have i21x14 := r_le1 0 2000 c21x14 i21x8 (in_c 2000 rfl) rfl
                      refine g_aload_n 23 (gd rfl) rfl rfl (g_getIv (y := z21x8) 26 (gd rfl) rfl rfl rfl (e21x8) ?_)
                      refine g_ireturn (gd rfl) rfl rfl (hp21 _ _ ?_)
                      show GG _ _ _ _ _ _ _ _ [.int z21x8] _ _ _
                      exact g_ireturn (gd rfl) rfl rfl (hP _ _ ⟨s21x4, hI21x4, (fr_tr rfl fr_rf hF21x4), z21x8, rfl, rfl, in_w (-2) 2000 i21x14 rfl⟩)
                    · skip
                      have i21x14 := r_lt2 2001 2001 c21x14 (in_c 2000 rfl) i21x8 rfl
                      refine g_bipush (-2) 19 (gd rfl) rfl rfl (g_goto 26 (gd rfl) rfl ?_)
                      refine g_ireturn (gd rfl) rfl rfl (hp21 _ _ ?_)
                      show GG _ _ _ _ _ _ _ _ [.int (Int32.ofInt (-2))] _ _ _
                      exact g_ireturn (gd rfl) rfl rfl (hP _ _ ⟨s21x4, hI21x4, (fr_tr rfl fr_rf hF21x4), (Int32.ofInt (-2)), rfl, rfl, in_w (-2) 2000 (in_c (-2) rfl) rfl⟩)
                  · skip
                    exact zn_eq c11 (in_c 1 rfl) rfl

def fm_244_0 : FM := ([68, 69, 70, 71, 72, 73, 74], [75], [(65, 8), (65, 16), (65, 17)], [(65, 18)])
/-- GraphHouse.pairing -/
theorem k_244_0 {Z : AmZ} {A : Nat → Nat} {s : GS} {ex : va_W} {d : Nat} {x1 : Int32} (hd : 7 ≤ d) (hI : Inv s)  : GC Z d 244 [.ref (A 0), .int x1] (WW Z A s ++ ex) 3 18 (fun v u => ∃ t : GS, Inv t ∧ Fr fm_244_0 s t ∧ ∃ z : Int64, v = some (.long z) ∧ u = WW Z A t ++ ex) (gE1 Z A ex fm_244_0 s) := by
  intro post xp hP hX
  obtain ⟨u_0_2, e_0_2⟩ : ∃ w, w = s.2.2.1 0 2 := ⟨_, rfl⟩
  have ro_0_2 := inv_F hI (-1) 4000 rfl e_0_2
  refine g_enter2 (k := 244) (N := 900) (by omega) rfl (Nat.le_of_ble_eq_true rfl) (g_iload_n 1 (gd rfl) rfl rfl (g_if_lt 4 13 (gd rfl) rfl rfl (fun c1 => ?_) (fun c1 => ?_)))
  · skip
    have i1 := z_lt (-2147483648) (-1) c1 (i_rng x1) rfl
    refine g_iconst 0 14 (gd rfl) rfl rfl (g_thr (E := am_IA) (y := yX11_allow) 17 (gd rfl) rfl rfl (Or.inl ⟨rfl, rfl, rfl⟩) (by omega) (Nat.le_of_ble_eq_true rfl) (Nat.le_of_ble_eq_true rfl) (Nat.le_of_ble_eq_true rfl) (fun c14 => ?_) (fun c14 => ?_))
    · skip
      exact zn_ne c14 (in_c 0 rfl) rfl
    · skip
      exact (hX _ _ ⟨rfl, s, hI, fr_rf, rfl⟩)
  · skip
    have i1 := z_ge 0 2147483647 c1 (i_rng x1) rfl
    refine g_iload_n 5 (gd rfl) rfl rfl (g_iconst 1 6 (gd rfl) rfl rfl (g_cmp_gt 9 13 (gd rfl) rfl rfl (fun c6 => ?_) (fun c6 => ?_)))
    · skip
      have i6 := r_lt2 2 2147483647 c6 (in_c 1 rfl) i1 rfl
      refine g_iconst 0 14 (gd rfl) rfl rfl (g_thr (E := am_IA) (y := yX11_allow) 17 (gd rfl) rfl rfl (Or.inl ⟨rfl, rfl, rfl⟩) (by omega) (Nat.le_of_ble_eq_true rfl) (Nat.le_of_ble_eq_true rfl) (Nat.le_of_ble_eq_true rfl) (fun c14 => ?_) (fun c14 => ?_))
      · skip
        exact zn_ne c14 (in_c 0 rfl) rfl
      · skip
        exact (hX _ _ ⟨rfl, s, hI, fr_rf, rfl⟩)
    · skip
      have i6 := r_le1 0 1 c6 i1 (in_c 1 rfl) rfl
      refine g_iconst 1 10 (gd rfl) rfl rfl (g_goto 14 (gd rfl) rfl (g_thr (E := am_IA) (y := yX11_allow) 17 (gd rfl) rfl rfl (Or.inl ⟨rfl, rfl, rfl⟩) (by omega) (Nat.le_of_ble_eq_true rfl) (Nat.le_of_ble_eq_true rfl) (Nat.le_of_ble_eq_true rfl) (fun c14 => ?_) (fun c14 => ?_)))
      · skip
        refine g_aload_n 18 (gd rfl) rfl rfl (g_getA (q2 := 65) 21 (gd rfl) rfl rfl rfl rfl (g_aload_n 22 (gd rfl) rfl rfl ?_))
        refine g_callv (X := _) (As := []) (r := [.ref (A 65)]) (b := A 0) (q := 0) 25 (gd rfl) rfl rfl rfl rfl rfl (ww_o rfl) (Nat.le_of_ble_eq_true rfl) (mc := 0) (ms := 0) (Nat.zero_le _) (Nat.zero_le _) (P := fun v u => _) ?_ (fun e u h => h) (fun v u h => h)
        intro po22 xx22 hp22 hx22
        refine g_enter2 (k := 259) (N := 300) (by omega) rfl (Nat.le_of_ble_eq_true rfl) (g_aload_n 1 (gd rfl) rfl rfl (g_getIv (y := u_0_2) 4 (gd rfl) rfl rfl rfl (e_0_2) (g_iconst (-1) 5 (gd rfl) rfl rfl (g_cmp_ne 8 18 (gd rfl) rfl rfl (fun c22x5 => ?_) (fun c22x5 => ?_)))))
        · skip
          have i22x5 := r_ne1 0 4000 c22x5 ro_0_2 (in_c (-1) rfl) rfl
          refine g_aload_n 19 (gd rfl) rfl rfl (g_getA (q2 := 32) 22 (gd rfl) rfl rfl rfl rfl ?_)
          refine g_areturn (gd rfl) rfl (hp22 _ _ ?_)
          show GG _ _ _ _ _ _ _ _ [.ref (A 32), .ref (A 65)] _ _ _
          refine g_callv (X := _) (As := [.ref (A 32)]) (r := []) (b := A 65) (q := 65) 28 (gd rfl) rfl rfl rfl rfl rfl (ww_o rfl) (Nat.le_of_ble_eq_true rfl) (Nat.zero_le _) (Nat.zero_le _) (k_89_65_32 (by omega) hI ) (fun e u h => h) (fun v u h => ?_)
          obtain ⟨s25, hI25, hF25, rfl, rfl⟩ := h
          show GG _ _ _ _ _ _ _ _ [] _ _ _
          refine g_iload_n 29 (gd rfl) rfl rfl (g_if_ne 32 43 (gd rfl) rfl rfl (fun c29 => ?_) (fun c29 => ?_))
          · skip
            have i29 := z_ne 1 1 c29 i6 rfl
            exact g_aload_n 44 (gd rfl) rfl rfl (g_getA (q2 := 65) 47 (gd rfl) rfl rfl rfl rfl (g_getL 50 (gd rfl) rfl rfl rfl (fun z47 e47 => g_lreturn (gd rfl) rfl (hP _ _ ⟨s25, hI25, (fr_tr rfl fr_rf hF25), z47, rfl, rfl⟩))))
          · skip
            have i29 := z_eq 0 0 c29 i6 rfl
            exact g_aload_n 33 (gd rfl) rfl rfl (g_getA (q2 := 65) 36 (gd rfl) rfl rfl rfl rfl (g_getI 39 (gd rfl) rfl rfl rfl (fun z36 e36 => have i36 := inv_F hI25 0 32 rfl e36; g_i2l 40 (gd rfl) rfl (fun z39 e39 => have i39 := l_i e39 i36; g_goto 50 (gd rfl) rfl (g_lreturn (gd rfl) rfl (hP _ _ ⟨s25, hI25, (fr_tr rfl fr_rf hF25), z39, rfl, rfl⟩))))))
        · skip
          have i22x5 := r_eq1 (-1) (-1) c22x5 ro_0_2 (in_c (-1) rfl) rfl
          refine g_aload_n 9 (gd rfl) rfl rfl (g_getA (q2 := 1) 12 (gd rfl) rfl rfl rfl rfl (g_getA (q2 := 2) 15 (gd rfl) rfl rfl rfl rfl (g_goto 22 (gd rfl) rfl ?_)))
          refine g_areturn (gd rfl) rfl (hp22 _ _ ?_)
          show GG _ _ _ _ _ _ _ _ [.ref (A 2), .ref (A 65)] _ _ _
          refine g_callv (X := _) (As := [.ref (A 2)]) (r := []) (b := A 65) (q := 65) 28 (gd rfl) rfl rfl rfl rfl rfl (ww_o rfl) (Nat.le_of_ble_eq_true rfl) (Nat.zero_le _) (Nat.zero_le _) (k_89_65_2 (by omega) hI ) (fun e u h => h) (fun v u h => ?_)
          obtain ⟨s25, hI25, hF25, rfl, rfl⟩ := h
          show GG _ _ _ _ _ _ _ _ [] _ _ _
          refine g_iload_n 29 (gd rfl) rfl rfl (g_if_ne 32 43 (gd rfl) rfl rfl (fun c29 => ?_) (fun c29 => ?_))
          · skip
            have i29 := z_ne 1 1 c29 i6 rfl
            exact g_aload_n 44 (gd rfl) rfl rfl (g_getA (q2 := 65) 47 (gd rfl) rfl rfl rfl rfl (g_getL 50 (gd rfl) rfl rfl rfl (fun z47 e47 => g_lreturn (gd rfl) rfl (hP _ _ ⟨s25, hI25, (fr_tr rfl fr_rf hF25), z47, rfl, rfl⟩))))
          · skip
            have i29 := z_eq 0 0 c29 i6 rfl
            exact g_aload_n 33 (gd rfl) rfl rfl (g_getA (q2 := 65) 36 (gd rfl) rfl rfl rfl rfl (g_getI 39 (gd rfl) rfl rfl rfl (fun z36 e36 => have i36 := inv_F hI25 0 32 rfl e36; g_i2l 40 (gd rfl) rfl (fun z39 e39 => have i39 := l_i e39 i36; g_goto 50 (gd rfl) rfl (g_lreturn (gd rfl) rfl (hP _ _ ⟨s25, hI25, (fr_tr rfl fr_rf hF25), z39, rfl, rfl⟩))))))
      · skip
        exact zn_eq c14 (in_c 1 rfl) rfl

def fm_247_0 : FM := ([], [85], [(76, 9), (76, 10)], [])
/-- GraphHouse.trees -/
theorem k_247_0 {Z : AmZ} {A : Nat → Nat} {s : GS} {ex : va_W} {d : Nat} {X : AmX}  (hd : 5 ≤ d) (hI : Inv s)  : GC Z d 247 [.ref (A 0)] (WW Z A s ++ ex) 3 18 (fun v u => ∃ t : GS, Inv t ∧ Fr fm_247_0 s t ∧ ∃ z : Int32, v = some (.int z) ∧ u = WW Z A t ++ ex ∧ In z (-2147483648) 2147483647) X := by
  intro post xp hP hX
  obtain ⟨u_0_2, e_0_2⟩ : ∃ w, w = s.2.2.1 0 2 := ⟨_, rfl⟩
  have ro_0_2 := inv_F hI (-1) 4000 rfl e_0_2
  obtain ⟨u_2_0, e_2_0⟩ : ∃ w, w = s.2.2.1 2 0 := ⟨_, rfl⟩
  have ro_2_0 := inv_F hI 0 4000 rfl e_2_0
  obtain ⟨u_2_1, e_2_1⟩ : ∃ w, w = s.2.2.1 2 1 := ⟨_, rfl⟩
  have ro_2_1 := inv_F hI 0 32 rfl e_2_1
  obtain ⟨u_32_0, e_32_0⟩ : ∃ w, w = s.2.2.1 32 0 := ⟨_, rfl⟩
  have ro_32_0 := inv_F hI 0 4000 rfl e_32_0
  obtain ⟨u_32_1, e_32_1⟩ : ∃ w, w = s.2.2.1 32 1 := ⟨_, rfl⟩
  have ro_32_1 := inv_F hI 0 32 rfl e_32_1
  refine g_enter2 (k := 247) (N := 900) (by omega) rfl (Nat.le_of_ble_eq_true rfl) (g_aload_n 1 (gd rfl) rfl rfl (g_getA (q2 := 76) 4 (gd rfl) rfl rfl rfl rfl (g_aload_n 5 (gd rfl) rfl rfl ?_)))
  refine g_callv (X := _) (As := []) (r := [.ref (A 76)]) (b := A 0) (q := 0) 8 (gd rfl) rfl rfl rfl rfl rfl (ww_o rfl) (Nat.le_of_ble_eq_true rfl) (mc := 0) (ms := 0) (Nat.zero_le _) (Nat.zero_le _) (P := fun v u => _) ?_ (fun e u h => h) (fun v u h => h)
  intro po5 xx5 hp5 hx5
  refine g_enter2 (k := 259) (N := 300) (by omega) rfl (Nat.le_of_ble_eq_true rfl) (g_aload_n 1 (gd rfl) rfl rfl (g_getIv (y := u_0_2) 4 (gd rfl) rfl rfl rfl (e_0_2) (g_iconst (-1) 5 (gd rfl) rfl rfl (g_cmp_ne 8 18 (gd rfl) rfl rfl (fun c5x5 => ?_) (fun c5x5 => ?_)))))
  · skip
    have i5x5 := r_ne1 0 4000 c5x5 ro_0_2 (in_c (-1) rfl) rfl
    refine g_aload_n 19 (gd rfl) rfl rfl (g_getA (q2 := 32) 22 (gd rfl) rfl rfl rfl rfl ?_)
    refine g_areturn (gd rfl) rfl (hp5 _ _ ?_)
    show GG _ _ _ _ _ _ _ _ [.ref (A 32), .ref (A 76)] _ _ _
    refine g_callv (X := _) (As := [.ref (A 32)]) (r := []) (b := A 76) (q := 76) 11 (gd rfl) rfl rfl rfl rfl rfl (ww_o rfl) (Nat.le_of_ble_eq_true rfl) (mc := 0) (ms := 0) (Nat.zero_le _) (Nat.zero_le _) (P := fun v u => _) ?_ (fun e u h => h) (fun v u h => h)
    intro po8 xx8 hp8 hx8
    refine g_enter2 (k := 188) (N := 300) (by omega) rfl (Nat.le_of_ble_eq_true rfl) (g_aload_n 1 (gd rfl) rfl rfl (g_getI 4 (gd rfl) rfl rfl rfl (fun z8x1 e8x1 => have i8x1 := inv_F hI (-1) 4000 rfl e8x1; g_aload_n 5 (gd rfl) rfl rfl (g_getIv (y := u_32_0) 8 (gd rfl) rfl rfl rfl (e_32_0) (g_cmp_eq 11 39 (gd rfl) rfl rfl (fun c8x8 => ?_) (fun c8x8 => ?_))))))
    · skip
      have i8x8 := r_eq1 0 4000 c8x8 i8x1 ro_32_0 rfl
      refine g_aload_n 40 (gd rfl) rfl rfl (g_getI 43 (gd rfl) rfl rfl rfl (fun z8x40 e8x40 => ?_))
      refine g_ireturn (gd rfl) rfl rfl (hp8 _ _ ?_)
      show GG _ _ _ _ _ _ _ _ [.int z8x40] _ _ _
      exact g_ireturn (gd rfl) rfl rfl (hP _ _ ⟨s, hI, fr_rf, z8x40, rfl, rfl, in_w (-2147483648) 2147483647 (i_rng z8x40) rfl⟩)
    · skip
      refine g_aload_n 12 (gd rfl) rfl rfl (g_aload_n 13 (gd rfl) rfl rfl (g_getIv (y := u_32_0) 16 (gd rfl) rfl rfl rfl (e_32_0) (g_putI 19 (gd rfl) rfl rfl rfl rfl (have hI8x16 := inv_sF (q := 76) (j := 9) hI rfl (in_w (-1) 4000 ro_32_0 rfl); g_aload_n 20 (gd rfl) rfl rfl (g_aload_n 21 (gd rfl) rfl rfl (g_getIv (y := u_32_1) 24 (gd rfl) rfl rfl rfl (sF_ne rfl (e_32_1)) (g_if_ne 27 31 (gd rfl) rfl rfl (fun c8x24 => ?_) (fun c8x24 => ?_))))))))
      · skip
        have i8x24 := z_ne 1 32 c8x24 ro_32_1 rfl
        refine g_aload_n 32 (gd rfl) rfl rfl (g_aload_n 33 (gd rfl) rfl rfl (g_callv (X := _) (As := [.ref (A 32)]) (r := [.ref (A 76)]) (b := A 76) (q := 76) 36 (gd rfl) rfl rfl rfl rfl rfl (ww_o rfl) (Nat.le_of_ble_eq_true rfl) (Nat.zero_le _) (Nat.zero_le _) (k_189_76_32 (by omega) hI8x16 ) (fun e u h => h) (fun v u h => ?_)))
        obtain ⟨s8x33, hI8x33, hF8x33, z8x33, rfl, rfl, i8x33⟩ := h
        show GG _ _ _ _ _ _ _ _ [.int z8x33, .ref (A 76)] _ _ _
        refine g_putI 39 (gd rfl) rfl rfl rfl rfl (have hI8x36 := inv_sF (q := 76) (j := 10) hI8x33 rfl (in_w (-2147483648) 2147483647 i8x33 rfl); g_aload_n 40 (gd rfl) rfl rfl (g_getIv (y := z8x33) 43 (gd rfl) rfl rfl rfl (sF_get) ?_))
        refine g_ireturn (gd rfl) rfl rfl (hp8 _ _ ?_)
        show GG _ _ _ _ _ _ _ _ [.int z8x33] _ _ _
        exact g_ireturn (gd rfl) rfl rfl (hP _ _ ⟨(sF s8x33 76 10 z8x33), hI8x36, (fr_sF rfl (fr_tr rfl (fr_sF rfl fr_rf) hF8x33)), z8x33, rfl, rfl, in_w (-2147483648) 2147483647 i8x33 rfl⟩)
      · skip
        have i8x24 := z_eq 0 0 c8x24 ro_32_1 rfl
        refine g_iconst 0 28 (gd rfl) rfl rfl (g_goto 36 (gd rfl) rfl (g_putI 39 (gd rfl) rfl rfl rfl rfl (have hI8x36 := inv_sF (q := 76) (j := 10) hI8x16 rfl (in_w (-2147483648) 2147483647 (in_c 0 rfl) rfl); g_aload_n 40 (gd rfl) rfl rfl (g_getIv (y := (Int32.ofInt 0)) 43 (gd rfl) rfl rfl rfl (sF_get) ?_))))
        refine g_ireturn (gd rfl) rfl rfl (hp8 _ _ ?_)
        show GG _ _ _ _ _ _ _ _ [.int (Int32.ofInt 0)] _ _ _
        exact g_ireturn (gd rfl) rfl rfl (hP _ _ ⟨(sF (sF s 76 9 u_32_0) 76 10 (Int32.ofInt 0)), hI8x36, (fr_sF rfl (fr_sF rfl fr_rf)), (Int32.ofInt 0), rfl, rfl, in_w (-2147483648) 2147483647 (in_c 0 rfl) rfl⟩)
  · skip
    have i5x5 := r_eq1 (-1) (-1) c5x5 ro_0_2 (in_c (-1) rfl) rfl
    refine g_aload_n 9 (gd rfl) rfl rfl (g_getA (q2 := 1) 12 (gd rfl) rfl rfl rfl rfl (g_getA (q2 := 2) 15 (gd rfl) rfl rfl rfl rfl (g_goto 22 (gd rfl) rfl ?_)))
    refine g_areturn (gd rfl) rfl (hp5 _ _ ?_)
    show GG _ _ _ _ _ _ _ _ [.ref (A 2), .ref (A 76)] _ _ _
    refine g_callv (X := _) (As := [.ref (A 2)]) (r := []) (b := A 76) (q := 76) 11 (gd rfl) rfl rfl rfl rfl rfl (ww_o rfl) (Nat.le_of_ble_eq_true rfl) (mc := 0) (ms := 0) (Nat.zero_le _) (Nat.zero_le _) (P := fun v u => _) ?_ (fun e u h => h) (fun v u h => h)
    intro po8 xx8 hp8 hx8
    refine g_enter2 (k := 188) (N := 300) (by omega) rfl (Nat.le_of_ble_eq_true rfl) (g_aload_n 1 (gd rfl) rfl rfl (g_getI 4 (gd rfl) rfl rfl rfl (fun z8x1 e8x1 => have i8x1 := inv_F hI (-1) 4000 rfl e8x1; g_aload_n 5 (gd rfl) rfl rfl (g_getIv (y := u_2_0) 8 (gd rfl) rfl rfl rfl (e_2_0) (g_cmp_eq 11 39 (gd rfl) rfl rfl (fun c8x8 => ?_) (fun c8x8 => ?_))))))
    · skip
      have i8x8 := r_eq1 0 4000 c8x8 i8x1 ro_2_0 rfl
      refine g_aload_n 40 (gd rfl) rfl rfl (g_getI 43 (gd rfl) rfl rfl rfl (fun z8x40 e8x40 => ?_))
      refine g_ireturn (gd rfl) rfl rfl (hp8 _ _ ?_)
      show GG _ _ _ _ _ _ _ _ [.int z8x40] _ _ _
      exact g_ireturn (gd rfl) rfl rfl (hP _ _ ⟨s, hI, fr_rf, z8x40, rfl, rfl, in_w (-2147483648) 2147483647 (i_rng z8x40) rfl⟩)
    · skip
      refine g_aload_n 12 (gd rfl) rfl rfl (g_aload_n 13 (gd rfl) rfl rfl (g_getIv (y := u_2_0) 16 (gd rfl) rfl rfl rfl (e_2_0) (g_putI 19 (gd rfl) rfl rfl rfl rfl (have hI8x16 := inv_sF (q := 76) (j := 9) hI rfl (in_w (-1) 4000 ro_2_0 rfl); g_aload_n 20 (gd rfl) rfl rfl (g_aload_n 21 (gd rfl) rfl rfl (g_getIv (y := u_2_1) 24 (gd rfl) rfl rfl rfl (sF_ne rfl (e_2_1)) (g_if_ne 27 31 (gd rfl) rfl rfl (fun c8x24 => ?_) (fun c8x24 => ?_))))))))
      · skip
        have i8x24 := z_ne 1 32 c8x24 ro_2_1 rfl
        refine g_aload_n 32 (gd rfl) rfl rfl (g_aload_n 33 (gd rfl) rfl rfl (g_callv (X := _) (As := [.ref (A 2)]) (r := [.ref (A 76)]) (b := A 76) (q := 76) 36 (gd rfl) rfl rfl rfl rfl rfl (ww_o rfl) (Nat.le_of_ble_eq_true rfl) (Nat.zero_le _) (Nat.zero_le _) (k_189_76_2 (by omega) hI8x16 ) (fun e u h => h) (fun v u h => ?_)))
        obtain ⟨s8x33, hI8x33, hF8x33, z8x33, rfl, rfl, i8x33⟩ := h
        show GG _ _ _ _ _ _ _ _ [.int z8x33, .ref (A 76)] _ _ _
        refine g_putI 39 (gd rfl) rfl rfl rfl rfl (have hI8x36 := inv_sF (q := 76) (j := 10) hI8x33 rfl (in_w (-2147483648) 2147483647 i8x33 rfl); g_aload_n 40 (gd rfl) rfl rfl (g_getIv (y := z8x33) 43 (gd rfl) rfl rfl rfl (sF_get) ?_))
        refine g_ireturn (gd rfl) rfl rfl (hp8 _ _ ?_)
        show GG _ _ _ _ _ _ _ _ [.int z8x33] _ _ _
        exact g_ireturn (gd rfl) rfl rfl (hP _ _ ⟨(sF s8x33 76 10 z8x33), hI8x36, (fr_sF rfl (fr_tr rfl (fr_sF rfl fr_rf) hF8x33)), z8x33, rfl, rfl, in_w (-2147483648) 2147483647 i8x33 rfl⟩)
      · skip
        have i8x24 := z_eq 0 0 c8x24 ro_2_1 rfl
        refine g_iconst 0 28 (gd rfl) rfl rfl (g_goto 36 (gd rfl) rfl (g_putI 39 (gd rfl) rfl rfl rfl rfl (have hI8x36 := inv_sF (q := 76) (j := 10) hI8x16 rfl (in_w (-2147483648) 2147483647 (in_c 0 rfl) rfl); g_aload_n 40 (gd rfl) rfl rfl (g_getIv (y := (Int32.ofInt 0)) 43 (gd rfl) rfl rfl rfl (sF_get) ?_))))
        refine g_ireturn (gd rfl) rfl rfl (hp8 _ _ ?_)
        show GG _ _ _ _ _ _ _ _ [.int (Int32.ofInt 0)] _ _ _
        exact g_ireturn (gd rfl) rfl rfl (hP _ _ ⟨(sF (sF s 76 9 u_2_0) 76 10 (Int32.ofInt 0)), hI8x36, (fr_sF rfl (fr_sF rfl fr_rf)), (Int32.ofInt 0), rfl, rfl, in_w (-2147483648) 2147483647 (in_c 0 rfl) rfl⟩)

def fm_250_0 : FM := ([9, 10, 11, 12, 13, 14, 15, 39, 40, 41, 42, 43, 44, 45, 89, 90, 91, 92, 93], [], [(2, 4), (32, 4), (86, 4), (86, 5)], [])
/-- GraphHouse.group -/
theorem k_250_0 {Z : AmZ} {A : Nat → Nat} {s : GS} {ex : va_W} {d : Nat} {x1 : Int32} (hd : 8 ≤ d) (hI : Inv s)  : GC Z d 250 [.ref (A 0), .int x1] (WW Z A s ++ ex) 3 18 (fun v u => ∃ t : GS, Inv t ∧ Fr fm_250_0 s t ∧ ∃ z : Int32, v = some (.int z) ∧ u = WW Z A t ++ ex ∧ In z 0 32) (gE1 Z A ex fm_250_0 s) := by
  intro post xp hP hX
  obtain ⟨u_0_2, e_0_2⟩ : ∃ w, w = s.2.2.1 0 2 := ⟨_, rfl⟩
  have ro_0_2 := inv_F hI (-1) 4000 rfl e_0_2
  obtain ⟨u_2_1, e_2_1⟩ : ∃ w, w = s.2.2.1 2 1 := ⟨_, rfl⟩
  have ro_2_1 := inv_F hI 0 32 rfl e_2_1
  obtain ⟨u_32_1, e_32_1⟩ : ∃ w, w = s.2.2.1 32 1 := ⟨_, rfl⟩
  have ro_32_1 := inv_F hI 0 32 rfl e_32_1
  refine g_enter2 (k := 250) (N := 900) (by omega) rfl (Nat.le_of_ble_eq_true rfl) (g_aload_n 1 (gd rfl) rfl rfl ?_)
  refine g_callv (X := _) (As := []) (r := []) (b := A 0) (q := 0) 4 (gd rfl) rfl rfl rfl rfl rfl (ww_o rfl) (Nat.le_of_ble_eq_true rfl) (mc := 0) (ms := 0) (Nat.zero_le _) (Nat.zero_le _) (P := fun v u => _) ?_ (fun e u h => h) (fun v u h => h)
  intro po1 xx1 hp1 hx1
  refine g_enter2 (k := 259) (N := 300) (by omega) rfl (Nat.le_of_ble_eq_true rfl) (g_aload_n 1 (gd rfl) rfl rfl (g_getIv (y := u_0_2) 4 (gd rfl) rfl rfl rfl (e_0_2) (g_iconst (-1) 5 (gd rfl) rfl rfl (g_cmp_ne 8 18 (gd rfl) rfl rfl (fun c1x5 => ?_) (fun c1x5 => ?_)))))
  · skip
    have i1x5 := r_ne1 0 4000 c1x5 ro_0_2 (in_c (-1) rfl) rfl
    refine g_aload_n 19 (gd rfl) rfl rfl (g_getA (q2 := 32) 22 (gd rfl) rfl rfl rfl rfl ?_)
    refine g_areturn (gd rfl) rfl (hp1 _ _ ?_)
    show GG _ _ _ _ _ _ _ _ [.ref (A 32)] _ _ _
    refine g_astore_n 5 (gd rfl) rfl (Nat.le_of_ble_eq_true rfl) (g_aload_n 6 (gd rfl) rfl rfl (g_iload_n 7 (gd rfl) rfl rfl ?_))
    refine g_callv (X := _) (As := [.int x1]) (r := []) (b := A 32) (q := 32) 10 (gd rfl) rfl rfl rfl rfl rfl (ww_o rfl) (Nat.le_of_ble_eq_true rfl) (mc := 0) (ms := 0) (Nat.zero_le _) (Nat.zero_le _) (P := fun v u => _) ?_ (fun e u h => h) (fun v u h => h)
    intro po7 xx7 hp7 hx7
    refine g_enter2 (k := 94) (N := 300) (by omega) rfl (Nat.le_of_ble_eq_true rfl) (g_iload_n 1 (gd rfl) rfl rfl (g_if_lt 4 16 (gd rfl) rfl rfl (fun c7x1 => ?_) (fun c7x1 => ?_)))
    · skip
      have i7x1 := z_lt (-2147483648) (-1) c7x1 (i_rng x1) rfl
      refine g_iconst 0 17 (gd rfl) rfl rfl ?_
      refine g_ireturn (gd rfl) rfl (nb01 (in_w 0 1 (in_c 0 rfl) rfl)) (hp7 _ _ ?_)
      show GG _ _ _ _ _ _ _ _ [.int (Int32.ofInt 0)] _ _ _
      refine g_thr (E := am_IA) (y := yX11_allow) 13 (gd rfl) rfl rfl (Or.inl ⟨rfl, rfl, rfl⟩) (by omega) (Nat.le_of_ble_eq_true rfl) (Nat.le_of_ble_eq_true rfl) (Nat.le_of_ble_eq_true rfl) (fun c10 => ?_) (fun c10 => ?_)
      · skip
        exact zn_ne c10 (in_c 0 rfl) rfl
      · skip
        exact (hX _ _ ⟨rfl, s, hI, fr_rf, rfl⟩)
    · skip
      have i7x1 := z_ge 0 2147483647 c7x1 (i_rng x1) rfl
      refine g_iload_n 5 (gd rfl) rfl rfl (g_aload_n 6 (gd rfl) rfl rfl (g_getIv (y := u_32_1) 9 (gd rfl) rfl rfl rfl (e_32_1) (g_cmp_ge 12 16 (gd rfl) rfl rfl (fun c7x9 => ?_) (fun c7x9 => ?_))))
      · skip
        refine g_iconst 0 17 (gd rfl) rfl rfl ?_
        refine g_ireturn (gd rfl) rfl (nb01 (in_w 0 1 (in_c 0 rfl) rfl)) (hp7 _ _ ?_)
        show GG _ _ _ _ _ _ _ _ [.int (Int32.ofInt 0)] _ _ _
        refine g_thr (E := am_IA) (y := yX11_allow) 13 (gd rfl) rfl rfl (Or.inl ⟨rfl, rfl, rfl⟩) (by omega) (Nat.le_of_ble_eq_true rfl) (Nat.le_of_ble_eq_true rfl) (Nat.le_of_ble_eq_true rfl) (fun c10 => ?_) (fun c10 => ?_)
        · skip
          exact zn_ne c10 (in_c 0 rfl) rfl
        · skip
          exact (hX _ _ ⟨rfl, s, hI, fr_rf, rfl⟩)
      · skip
        have i7x9 := r_lt1 0 31 c7x9 i7x1 ro_32_1 rfl
        have i7x9a := r_lt2 1 32 c7x9 i7x1 ro_32_1 rfl
        refine g_iconst 1 13 (gd rfl) rfl rfl (g_goto 17 (gd rfl) rfl ?_)
        refine g_ireturn (gd rfl) rfl (nb01 (in_w 0 1 (in_c 1 rfl) rfl)) (hp7 _ _ ?_)
        show GG _ _ _ _ _ _ _ _ [.int (Int32.ofInt 1)] _ _ _
        refine g_thr (E := am_IA) (y := yX11_allow) 13 (gd rfl) rfl rfl (Or.inl ⟨rfl, rfl, rfl⟩) (by omega) (Nat.le_of_ble_eq_true rfl) (Nat.le_of_ble_eq_true rfl) (Nat.le_of_ble_eq_true rfl) (fun c10 => ?_) (fun c10 => ?_)
        · skip
          refine g_aload_n 14 (gd rfl) rfl rfl (g_getA (q2 := 86) 17 (gd rfl) rfl rfl rfl rfl (g_aload_n 18 (gd rfl) rfl rfl (g_iload_n 19 (gd rfl) rfl rfl ?_)))
          refine g_callv (X := _) (As := [.ref (A 32), .int x1]) (r := []) (b := A 86) (q := 86) 22 (gd rfl) rfl rfl rfl rfl rfl (ww_o rfl) (Nat.le_of_ble_eq_true rfl) (mc := 0) (ms := 0) (Nat.zero_le _) (Nat.zero_le _) (P := fun v u => _) ?_ (fun e u h => h) (fun v u h => h)
          intro po19 xx19 hp19 hx19
          refine g_enter2 (k := 111) (N := 300) (by omega) rfl (Nat.le_of_ble_eq_true rfl) (g_aload_n 1 (gd rfl) rfl rfl (g_aload_n 2 (gd rfl) rfl rfl (g_callv (X := _) (As := [.ref (A 32)]) (r := []) (b := A 86) (q := 86) 5 (gd rfl) rfl rfl rfl rfl rfl (ww_o rfl) (Nat.le_of_ble_eq_true rfl) (Nat.zero_le _) (Nat.zero_le _) (k_113_86_32 (by omega) hI ) (fun e u h => h) (fun v u h => ?_))))
          obtain ⟨s19x2, hI19x2, hF19x2, rfl, rfl⟩ := h
          show GG _ _ _ _ _ _ _ _ [] _ _ _
          refine g_aload_n 6 (gd rfl) rfl rfl (g_getA (q2 := 90) 9 (gd rfl) rfl rfl rfl rfl (g_aload_n 10 (gd rfl) rfl rfl (g_getA (q2 := 89) 13 (gd rfl) rfl rfl rfl rfl (g_iload_n 14 (gd rfl) rfl rfl (g_iaload 15 (gd rfl) rfl (n := 32) rfl (in_ix i7x9 rfl) (fun z19x14 e19x14 => have i19x14 := inv_I hI19x2 (n := 32) (t := 0) 0 31 rfl (in_ix i7x9 rfl) rfl e19x14; g_iaload 16 (gd rfl) rfl (n := 32) rfl (in_ix i19x14 rfl) (fun z19x15 e19x15 => g_calls (As := [.int z19x15]) (r := []) 19 (gd rfl) rfl rfl rfl rfl rfl (Nat.le_of_ble_eq_true rfl) (Nat.zero_le _) (Nat.zero_le _) (k_264 (by omega)) (fun v u h => ?_))))))))
          obtain ⟨z19x16, rfl, rfl, i19x16, hb19x16⟩ := h
          show GG _ _ _ _ _ _ _ _ [.int z19x16] _ _ _
          refine g_ireturn (gd rfl) rfl rfl (hp19 _ _ ?_)
          show GG _ _ _ _ _ _ _ _ [.int z19x16] _ _ _
          exact g_ireturn (gd rfl) rfl rfl (hP _ _ ⟨s19x2, hI19x2, (fr_tr rfl fr_rf hF19x2), z19x16, rfl, rfl, in_w 0 32 i19x16 rfl⟩)
        · skip
          exact zn_eq c10 (in_c 1 rfl) rfl
  · skip
    have i1x5 := r_eq1 (-1) (-1) c1x5 ro_0_2 (in_c (-1) rfl) rfl
    refine g_aload_n 9 (gd rfl) rfl rfl (g_getA (q2 := 1) 12 (gd rfl) rfl rfl rfl rfl (g_getA (q2 := 2) 15 (gd rfl) rfl rfl rfl rfl (g_goto 22 (gd rfl) rfl ?_)))
    refine g_areturn (gd rfl) rfl (hp1 _ _ ?_)
    show GG _ _ _ _ _ _ _ _ [.ref (A 2)] _ _ _
    refine g_astore_n 5 (gd rfl) rfl (Nat.le_of_ble_eq_true rfl) (g_aload_n 6 (gd rfl) rfl rfl (g_iload_n 7 (gd rfl) rfl rfl ?_))
    refine g_callv (X := _) (As := [.int x1]) (r := []) (b := A 2) (q := 2) 10 (gd rfl) rfl rfl rfl rfl rfl (ww_o rfl) (Nat.le_of_ble_eq_true rfl) (mc := 0) (ms := 0) (Nat.zero_le _) (Nat.zero_le _) (P := fun v u => _) ?_ (fun e u h => h) (fun v u h => h)
    intro po7 xx7 hp7 hx7
    refine g_enter2 (k := 94) (N := 300) (by omega) rfl (Nat.le_of_ble_eq_true rfl) (g_iload_n 1 (gd rfl) rfl rfl (g_if_lt 4 16 (gd rfl) rfl rfl (fun c7x1 => ?_) (fun c7x1 => ?_)))
    · skip
      have i7x1 := z_lt (-2147483648) (-1) c7x1 (i_rng x1) rfl
      refine g_iconst 0 17 (gd rfl) rfl rfl ?_
      refine g_ireturn (gd rfl) rfl (nb01 (in_w 0 1 (in_c 0 rfl) rfl)) (hp7 _ _ ?_)
      show GG _ _ _ _ _ _ _ _ [.int (Int32.ofInt 0)] _ _ _
      refine g_thr (E := am_IA) (y := yX11_allow) 13 (gd rfl) rfl rfl (Or.inl ⟨rfl, rfl, rfl⟩) (by omega) (Nat.le_of_ble_eq_true rfl) (Nat.le_of_ble_eq_true rfl) (Nat.le_of_ble_eq_true rfl) (fun c10 => ?_) (fun c10 => ?_)
      · skip
        exact zn_ne c10 (in_c 0 rfl) rfl
      · skip
        exact (hX _ _ ⟨rfl, s, hI, fr_rf, rfl⟩)
    · skip
      have i7x1 := z_ge 0 2147483647 c7x1 (i_rng x1) rfl
      refine g_iload_n 5 (gd rfl) rfl rfl (g_aload_n 6 (gd rfl) rfl rfl (g_getIv (y := u_2_1) 9 (gd rfl) rfl rfl rfl (e_2_1) (g_cmp_ge 12 16 (gd rfl) rfl rfl (fun c7x9 => ?_) (fun c7x9 => ?_))))
      · skip
        refine g_iconst 0 17 (gd rfl) rfl rfl ?_
        refine g_ireturn (gd rfl) rfl (nb01 (in_w 0 1 (in_c 0 rfl) rfl)) (hp7 _ _ ?_)
        show GG _ _ _ _ _ _ _ _ [.int (Int32.ofInt 0)] _ _ _
        refine g_thr (E := am_IA) (y := yX11_allow) 13 (gd rfl) rfl rfl (Or.inl ⟨rfl, rfl, rfl⟩) (by omega) (Nat.le_of_ble_eq_true rfl) (Nat.le_of_ble_eq_true rfl) (Nat.le_of_ble_eq_true rfl) (fun c10 => ?_) (fun c10 => ?_)
        · skip
          exact zn_ne c10 (in_c 0 rfl) rfl
        · skip
          exact (hX _ _ ⟨rfl, s, hI, fr_rf, rfl⟩)
      · skip
        have i7x9 := r_lt1 0 31 c7x9 i7x1 ro_2_1 rfl
        have i7x9a := r_lt2 1 32 c7x9 i7x1 ro_2_1 rfl
        refine g_iconst 1 13 (gd rfl) rfl rfl (g_goto 17 (gd rfl) rfl ?_)
        refine g_ireturn (gd rfl) rfl (nb01 (in_w 0 1 (in_c 1 rfl) rfl)) (hp7 _ _ ?_)
        show GG _ _ _ _ _ _ _ _ [.int (Int32.ofInt 1)] _ _ _
        refine g_thr (E := am_IA) (y := yX11_allow) 13 (gd rfl) rfl rfl (Or.inl ⟨rfl, rfl, rfl⟩) (by omega) (Nat.le_of_ble_eq_true rfl) (Nat.le_of_ble_eq_true rfl) (Nat.le_of_ble_eq_true rfl) (fun c10 => ?_) (fun c10 => ?_)
        · skip
          refine g_aload_n 14 (gd rfl) rfl rfl (g_getA (q2 := 86) 17 (gd rfl) rfl rfl rfl rfl (g_aload_n 18 (gd rfl) rfl rfl (g_iload_n 19 (gd rfl) rfl rfl ?_)))
          refine g_callv (X := _) (As := [.ref (A 2), .int x1]) (r := []) (b := A 86) (q := 86) 22 (gd rfl) rfl rfl rfl rfl rfl (ww_o rfl) (Nat.le_of_ble_eq_true rfl) (mc := 0) (ms := 0) (Nat.zero_le _) (Nat.zero_le _) (P := fun v u => _) ?_ (fun e u h => h) (fun v u h => h)
          intro po19 xx19 hp19 hx19
          refine g_enter2 (k := 111) (N := 300) (by omega) rfl (Nat.le_of_ble_eq_true rfl) (g_aload_n 1 (gd rfl) rfl rfl (g_aload_n 2 (gd rfl) rfl rfl (g_callv (X := _) (As := [.ref (A 2)]) (r := []) (b := A 86) (q := 86) 5 (gd rfl) rfl rfl rfl rfl rfl (ww_o rfl) (Nat.le_of_ble_eq_true rfl) (Nat.zero_le _) (Nat.zero_le _) (k_113_86_2 (by omega) hI ) (fun e u h => h) (fun v u h => ?_))))
          obtain ⟨s19x2, hI19x2, hF19x2, rfl, rfl⟩ := h
          show GG _ _ _ _ _ _ _ _ [] _ _ _
          refine g_aload_n 6 (gd rfl) rfl rfl (g_getA (q2 := 90) 9 (gd rfl) rfl rfl rfl rfl (g_aload_n 10 (gd rfl) rfl rfl (g_getA (q2 := 89) 13 (gd rfl) rfl rfl rfl rfl (g_iload_n 14 (gd rfl) rfl rfl (g_iaload 15 (gd rfl) rfl (n := 32) rfl (in_ix i7x9 rfl) (fun z19x14 e19x14 => have i19x14 := inv_I hI19x2 (n := 32) (t := 0) 0 31 rfl (in_ix i7x9 rfl) rfl e19x14; g_iaload 16 (gd rfl) rfl (n := 32) rfl (in_ix i19x14 rfl) (fun z19x15 e19x15 => g_calls (As := [.int z19x15]) (r := []) 19 (gd rfl) rfl rfl rfl rfl rfl (Nat.le_of_ble_eq_true rfl) (Nat.zero_le _) (Nat.zero_le _) (k_264 (by omega)) (fun v u h => ?_))))))))
          obtain ⟨z19x16, rfl, rfl, i19x16, hb19x16⟩ := h
          show GG _ _ _ _ _ _ _ _ [.int z19x16] _ _ _
          refine g_ireturn (gd rfl) rfl rfl (hp19 _ _ ?_)
          show GG _ _ _ _ _ _ _ _ [.int z19x16] _ _ _
          exact g_ireturn (gd rfl) rfl rfl (hP _ _ ⟨s19x2, hI19x2, (fr_tr rfl fr_rf hF19x2), z19x16, rfl, rfl, in_w 0 32 i19x16 rfl⟩)
        · skip
          exact zn_eq c10 (in_c 1 rfl) rfl

def fm_254_0 : FM := ([9, 10, 11, 12, 13, 14, 15, 39, 40, 41, 42, 43, 44, 45], [99, 100, 101], [(2, 4), (32, 4)], [])
/-- GraphHouse.fits -/
theorem k_254_0 {Z : AmZ} {A : Nat → Nat} {s : GS} {ex : va_W} {d : Nat} {x1 : Int32} {x2 : Int32} (hd : 7 ≤ d) (hI : Inv s)  : GC Z d 254 [.ref (A 0), .int x1, .int x2] (WW Z A s ++ ex) 3 18 (fun v u => ∃ t : GS, Inv t ∧ Fr fm_254_0 s t ∧ ∃ z : Int32, v = some (.int z) ∧ u = WW Z A t ++ ex ∧ In z (-1) 1952) (gE1 Z A ex fm_254_0 s) := by
  intro post xp hP hX
  obtain ⟨u_0_2, e_0_2⟩ : ∃ w, w = s.2.2.1 0 2 := ⟨_, rfl⟩
  have ro_0_2 := inv_F hI (-1) 4000 rfl e_0_2
  obtain ⟨u_2_1, e_2_1⟩ : ∃ w, w = s.2.2.1 2 1 := ⟨_, rfl⟩
  have ro_2_1 := inv_F hI 0 32 rfl e_2_1
  obtain ⟨u_32_1, e_32_1⟩ : ∃ w, w = s.2.2.1 32 1 := ⟨_, rfl⟩
  have ro_32_1 := inv_F hI 0 32 rfl e_32_1
  refine g_enter2 (k := 254) (N := 900) (by omega) rfl (Nat.le_of_ble_eq_true rfl) (g_aload_n 1 (gd rfl) rfl rfl ?_)
  refine g_callv (X := _) (As := []) (r := []) (b := A 0) (q := 0) 4 (gd rfl) rfl rfl rfl rfl rfl (ww_o rfl) (Nat.le_of_ble_eq_true rfl) (mc := 0) (ms := 0) (Nat.zero_le _) (Nat.zero_le _) (P := fun v u => _) ?_ (fun e u h => h) (fun v u h => h)
  intro po1 xx1 hp1 hx1
  refine g_enter2 (k := 259) (N := 300) (by omega) rfl (Nat.le_of_ble_eq_true rfl) (g_aload_n 1 (gd rfl) rfl rfl (g_getIv (y := u_0_2) 4 (gd rfl) rfl rfl rfl (e_0_2) (g_iconst (-1) 5 (gd rfl) rfl rfl (g_cmp_ne 8 18 (gd rfl) rfl rfl (fun c1x5 => ?_) (fun c1x5 => ?_)))))
  · skip
    have i1x5 := r_ne1 0 4000 c1x5 ro_0_2 (in_c (-1) rfl) rfl
    refine g_aload_n 19 (gd rfl) rfl rfl (g_getA (q2 := 32) 22 (gd rfl) rfl rfl rfl rfl ?_)
    refine g_areturn (gd rfl) rfl (hp1 _ _ ?_)
    show GG _ _ _ _ _ _ _ _ [.ref (A 32)] _ _ _
    refine g_astore_n 5 (gd rfl) rfl (Nat.le_of_ble_eq_true rfl) (g_aload_n 6 (gd rfl) rfl rfl (g_iload_n 7 (gd rfl) rfl rfl ?_))
    refine g_callv (X := _) (As := [.int x1]) (r := []) (b := A 32) (q := 32) 10 (gd rfl) rfl rfl rfl rfl rfl (ww_o rfl) (Nat.le_of_ble_eq_true rfl) (mc := 0) (ms := 0) (Nat.zero_le _) (Nat.zero_le _) (P := fun v u => _) ?_ (fun e u h => h) (fun v u h => h)
    intro po7 xx7 hp7 hx7
    refine g_enter2 (k := 94) (N := 300) (by omega) rfl (Nat.le_of_ble_eq_true rfl) (g_iload_n 1 (gd rfl) rfl rfl (g_if_lt 4 16 (gd rfl) rfl rfl (fun c7x1 => ?_) (fun c7x1 => ?_)))
    · skip
      have i7x1 := z_lt (-2147483648) (-1) c7x1 (i_rng x1) rfl
      refine g_iconst 0 17 (gd rfl) rfl rfl ?_
      refine g_ireturn (gd rfl) rfl (nb01 (in_w 0 1 (in_c 0 rfl) rfl)) (hp7 _ _ ?_)
      show GG _ _ _ _ _ _ _ _ [.int (Int32.ofInt 0)] _ _ _
      refine g_if_eq 13 25 (gd rfl) rfl rfl (fun c10 => ?_) (fun c10 => ?_)
      · skip
        refine g_iconst 0 26 (gd rfl) rfl rfl (g_thr (E := am_IA) (y := yX11_allow) 29 (gd rfl) rfl rfl (Or.inl ⟨rfl, rfl, rfl⟩) (by omega) (Nat.le_of_ble_eq_true rfl) (Nat.le_of_ble_eq_true rfl) (Nat.le_of_ble_eq_true rfl) (fun c26 => ?_) (fun c26 => ?_))
        · skip
          exact zn_ne c26 (in_c 0 rfl) rfl
        · skip
          exact (hX _ _ ⟨rfl, s, hI, fr_rf, rfl⟩)
      · skip
        exact zn_ne c10 (in_c 0 rfl) rfl
    · skip
      have i7x1 := z_ge 0 2147483647 c7x1 (i_rng x1) rfl
      refine g_iload_n 5 (gd rfl) rfl rfl (g_aload_n 6 (gd rfl) rfl rfl (g_getIv (y := u_32_1) 9 (gd rfl) rfl rfl rfl (e_32_1) (g_cmp_ge 12 16 (gd rfl) rfl rfl (fun c7x9 => ?_) (fun c7x9 => ?_))))
      · skip
        refine g_iconst 0 17 (gd rfl) rfl rfl ?_
        refine g_ireturn (gd rfl) rfl (nb01 (in_w 0 1 (in_c 0 rfl) rfl)) (hp7 _ _ ?_)
        show GG _ _ _ _ _ _ _ _ [.int (Int32.ofInt 0)] _ _ _
        refine g_if_eq 13 25 (gd rfl) rfl rfl (fun c10 => ?_) (fun c10 => ?_)
        · skip
          refine g_iconst 0 26 (gd rfl) rfl rfl (g_thr (E := am_IA) (y := yX11_allow) 29 (gd rfl) rfl rfl (Or.inl ⟨rfl, rfl, rfl⟩) (by omega) (Nat.le_of_ble_eq_true rfl) (Nat.le_of_ble_eq_true rfl) (Nat.le_of_ble_eq_true rfl) (fun c26 => ?_) (fun c26 => ?_))
          · skip
            exact zn_ne c26 (in_c 0 rfl) rfl
          · skip
            exact (hX _ _ ⟨rfl, s, hI, fr_rf, rfl⟩)
        · skip
          exact zn_ne c10 (in_c 0 rfl) rfl
      · skip
        have i7x9 := r_lt1 0 31 c7x9 i7x1 ro_32_1 rfl
        have i7x9a := r_lt2 1 32 c7x9 i7x1 ro_32_1 rfl
        refine g_iconst 1 13 (gd rfl) rfl rfl (g_goto 17 (gd rfl) rfl ?_)
        refine g_ireturn (gd rfl) rfl (nb01 (in_w 0 1 (in_c 1 rfl) rfl)) (hp7 _ _ ?_)
        show GG _ _ _ _ _ _ _ _ [.int (Int32.ofInt 1)] _ _ _
        refine g_if_eq 13 25 (gd rfl) rfl rfl (fun c10 => ?_) (fun c10 => ?_)
        · skip
          exact zn_eq c10 (in_c 1 rfl) rfl
        · skip
          refine g_aload_n 14 (gd rfl) rfl rfl (g_iload_n 15 (gd rfl) rfl rfl ?_)
          refine g_callv (X := _) (As := [.int x2]) (r := []) (b := A 32) (q := 32) 18 (gd rfl) rfl rfl rfl rfl rfl (ww_o rfl) (Nat.le_of_ble_eq_true rfl) (mc := 0) (ms := 0) (Nat.zero_le _) (Nat.zero_le _) (P := fun v u => _) ?_ (fun e u h => h) (fun v u h => h)
          intro po15 xx15 hp15 hx15
          refine g_enter2 (k := 94) (N := 300) (by omega) rfl (Nat.le_of_ble_eq_true rfl) (g_iload_n 1 (gd rfl) rfl rfl (g_if_lt 4 16 (gd rfl) rfl rfl (fun c15x1 => ?_) (fun c15x1 => ?_)))
          · skip
            have i15x1 := z_lt (-2147483648) (-1) c15x1 (i_rng x2) rfl
            refine g_iconst 0 17 (gd rfl) rfl rfl ?_
            refine g_ireturn (gd rfl) rfl (nb01 (in_w 0 1 (in_c 0 rfl) rfl)) (hp15 _ _ ?_)
            show GG _ _ _ _ _ _ _ _ [.int (Int32.ofInt 0)] _ _ _
            refine g_if_eq 21 25 (gd rfl) rfl rfl (fun c18 => ?_) (fun c18 => ?_)
            · skip
              refine g_iconst 0 26 (gd rfl) rfl rfl (g_thr (E := am_IA) (y := yX11_allow) 29 (gd rfl) rfl rfl (Or.inl ⟨rfl, rfl, rfl⟩) (by omega) (Nat.le_of_ble_eq_true rfl) (Nat.le_of_ble_eq_true rfl) (Nat.le_of_ble_eq_true rfl) (fun c26 => ?_) (fun c26 => ?_))
              · skip
                exact zn_ne c26 (in_c 0 rfl) rfl
              · skip
                exact (hX _ _ ⟨rfl, s, hI, fr_rf, rfl⟩)
            · skip
              exact zn_ne c18 (in_c 0 rfl) rfl
          · skip
            have i15x1 := z_ge 0 2147483647 c15x1 (i_rng x2) rfl
            refine g_iload_n 5 (gd rfl) rfl rfl (g_aload_n 6 (gd rfl) rfl rfl (g_getIv (y := u_32_1) 9 (gd rfl) rfl rfl rfl (e_32_1) (g_cmp_ge 12 16 (gd rfl) rfl rfl (fun c15x9 => ?_) (fun c15x9 => ?_))))
            · skip
              have i15x9 := r_le2 1 2147483647 c15x9 i7x9a i15x1 rfl
              refine g_iconst 0 17 (gd rfl) rfl rfl ?_
              refine g_ireturn (gd rfl) rfl (nb01 (in_w 0 1 (in_c 0 rfl) rfl)) (hp15 _ _ ?_)
              show GG _ _ _ _ _ _ _ _ [.int (Int32.ofInt 0)] _ _ _
              refine g_if_eq 21 25 (gd rfl) rfl rfl (fun c18 => ?_) (fun c18 => ?_)
              · skip
                refine g_iconst 0 26 (gd rfl) rfl rfl (g_thr (E := am_IA) (y := yX11_allow) 29 (gd rfl) rfl rfl (Or.inl ⟨rfl, rfl, rfl⟩) (by omega) (Nat.le_of_ble_eq_true rfl) (Nat.le_of_ble_eq_true rfl) (Nat.le_of_ble_eq_true rfl) (fun c26 => ?_) (fun c26 => ?_))
                · skip
                  exact zn_ne c26 (in_c 0 rfl) rfl
                · skip
                  exact (hX _ _ ⟨rfl, s, hI, fr_rf, rfl⟩)
              · skip
                exact zn_ne c18 (in_c 0 rfl) rfl
            · skip
              have i15x9 := r_lt1 0 31 c15x9 i15x1 i7x9a rfl
              refine g_iconst 1 13 (gd rfl) rfl rfl (g_goto 17 (gd rfl) rfl ?_)
              refine g_ireturn (gd rfl) rfl (nb01 (in_w 0 1 (in_c 1 rfl) rfl)) (hp15 _ _ ?_)
              show GG _ _ _ _ _ _ _ _ [.int (Int32.ofInt 1)] _ _ _
              refine g_if_eq 21 25 (gd rfl) rfl rfl (fun c18 => ?_) (fun c18 => ?_)
              · skip
                exact zn_eq c18 (in_c 1 rfl) rfl
              · skip
                refine g_iconst 1 22 (gd rfl) rfl rfl (g_goto 26 (gd rfl) rfl (g_thr (E := am_IA) (y := yX11_allow) 29 (gd rfl) rfl rfl (Or.inl ⟨rfl, rfl, rfl⟩) (by omega) (Nat.le_of_ble_eq_true rfl) (Nat.le_of_ble_eq_true rfl) (Nat.le_of_ble_eq_true rfl) (fun c26 => ?_) (fun c26 => ?_)))
                · skip
                  refine g_aload_n 30 (gd rfl) rfl rfl (g_getA (q2 := 94) 33 (gd rfl) rfl rfl rfl rfl (g_aload_n 34 (gd rfl) rfl rfl (g_iload_n 35 (gd rfl) rfl rfl (g_iload_n 36 (gd rfl) rfl rfl (g_callv (X := _) (As := [.ref (A 32), .int x1, .int x2]) (r := []) (b := A 94) (q := 94) 39 (gd rfl) rfl rfl rfl rfl rfl (ww_o rfl) (Nat.le_of_ble_eq_true rfl) (Nat.zero_le _) (Nat.zero_le _) (k_163_94_32 (by omega) hI (in_w 0 31 i7x9 rfl) (in_w 0 31 i15x9 rfl)) (fun e u h => h) (fun v u h => ?_))))))
                  obtain ⟨s36, hI36, hF36, z36, rfl, rfl, i36⟩ := h
                  show GG _ _ _ _ _ _ _ _ [.int z36] _ _ _
                  exact g_ireturn (gd rfl) rfl rfl (hP _ _ ⟨s36, hI36, (fr_tr rfl fr_rf hF36), z36, rfl, rfl, in_w (-1) 1952 i36 rfl⟩)
                · skip
                  exact zn_eq c26 (in_c 1 rfl) rfl
  · skip
    have i1x5 := r_eq1 (-1) (-1) c1x5 ro_0_2 (in_c (-1) rfl) rfl
    refine g_aload_n 9 (gd rfl) rfl rfl (g_getA (q2 := 1) 12 (gd rfl) rfl rfl rfl rfl (g_getA (q2 := 2) 15 (gd rfl) rfl rfl rfl rfl (g_goto 22 (gd rfl) rfl ?_)))
    refine g_areturn (gd rfl) rfl (hp1 _ _ ?_)
    show GG _ _ _ _ _ _ _ _ [.ref (A 2)] _ _ _
    refine g_astore_n 5 (gd rfl) rfl (Nat.le_of_ble_eq_true rfl) (g_aload_n 6 (gd rfl) rfl rfl (g_iload_n 7 (gd rfl) rfl rfl ?_))
    refine g_callv (X := _) (As := [.int x1]) (r := []) (b := A 2) (q := 2) 10 (gd rfl) rfl rfl rfl rfl rfl (ww_o rfl) (Nat.le_of_ble_eq_true rfl) (mc := 0) (ms := 0) (Nat.zero_le _) (Nat.zero_le _) (P := fun v u => _) ?_ (fun e u h => h) (fun v u h => h)
    intro po7 xx7 hp7 hx7
    refine g_enter2 (k := 94) (N := 300) (by omega) rfl (Nat.le_of_ble_eq_true rfl) (g_iload_n 1 (gd rfl) rfl rfl (g_if_lt 4 16 (gd rfl) rfl rfl (fun c7x1 => ?_) (fun c7x1 => ?_)))
    · skip
      have i7x1 := z_lt (-2147483648) (-1) c7x1 (i_rng x1) rfl
      refine g_iconst 0 17 (gd rfl) rfl rfl ?_
      refine g_ireturn (gd rfl) rfl (nb01 (in_w 0 1 (in_c 0 rfl) rfl)) (hp7 _ _ ?_)
      show GG _ _ _ _ _ _ _ _ [.int (Int32.ofInt 0)] _ _ _
      refine g_if_eq 13 25 (gd rfl) rfl rfl (fun c10 => ?_) (fun c10 => ?_)
      · skip
        refine g_iconst 0 26 (gd rfl) rfl rfl (g_thr (E := am_IA) (y := yX11_allow) 29 (gd rfl) rfl rfl (Or.inl ⟨rfl, rfl, rfl⟩) (by omega) (Nat.le_of_ble_eq_true rfl) (Nat.le_of_ble_eq_true rfl) (Nat.le_of_ble_eq_true rfl) (fun c26 => ?_) (fun c26 => ?_))
        · skip
          exact zn_ne c26 (in_c 0 rfl) rfl
        · skip
          exact (hX _ _ ⟨rfl, s, hI, fr_rf, rfl⟩)
      · skip
        exact zn_ne c10 (in_c 0 rfl) rfl
    · skip
      have i7x1 := z_ge 0 2147483647 c7x1 (i_rng x1) rfl
      refine g_iload_n 5 (gd rfl) rfl rfl (g_aload_n 6 (gd rfl) rfl rfl (g_getIv (y := u_2_1) 9 (gd rfl) rfl rfl rfl (e_2_1) (g_cmp_ge 12 16 (gd rfl) rfl rfl (fun c7x9 => ?_) (fun c7x9 => ?_))))
      · skip
        refine g_iconst 0 17 (gd rfl) rfl rfl ?_
        refine g_ireturn (gd rfl) rfl (nb01 (in_w 0 1 (in_c 0 rfl) rfl)) (hp7 _ _ ?_)
        show GG _ _ _ _ _ _ _ _ [.int (Int32.ofInt 0)] _ _ _
        refine g_if_eq 13 25 (gd rfl) rfl rfl (fun c10 => ?_) (fun c10 => ?_)
        · skip
          refine g_iconst 0 26 (gd rfl) rfl rfl (g_thr (E := am_IA) (y := yX11_allow) 29 (gd rfl) rfl rfl (Or.inl ⟨rfl, rfl, rfl⟩) (by omega) (Nat.le_of_ble_eq_true rfl) (Nat.le_of_ble_eq_true rfl) (Nat.le_of_ble_eq_true rfl) (fun c26 => ?_) (fun c26 => ?_))
          · skip
            exact zn_ne c26 (in_c 0 rfl) rfl
          · skip
            exact (hX _ _ ⟨rfl, s, hI, fr_rf, rfl⟩)
        · skip
          exact zn_ne c10 (in_c 0 rfl) rfl
      · skip
        have i7x9 := r_lt1 0 31 c7x9 i7x1 ro_2_1 rfl
        have i7x9a := r_lt2 1 32 c7x9 i7x1 ro_2_1 rfl
        refine g_iconst 1 13 (gd rfl) rfl rfl (g_goto 17 (gd rfl) rfl ?_)
        refine g_ireturn (gd rfl) rfl (nb01 (in_w 0 1 (in_c 1 rfl) rfl)) (hp7 _ _ ?_)
        show GG _ _ _ _ _ _ _ _ [.int (Int32.ofInt 1)] _ _ _
        refine g_if_eq 13 25 (gd rfl) rfl rfl (fun c10 => ?_) (fun c10 => ?_)
        · skip
          exact zn_eq c10 (in_c 1 rfl) rfl
        · skip
          refine g_aload_n 14 (gd rfl) rfl rfl (g_iload_n 15 (gd rfl) rfl rfl ?_)
          refine g_callv (X := _) (As := [.int x2]) (r := []) (b := A 2) (q := 2) 18 (gd rfl) rfl rfl rfl rfl rfl (ww_o rfl) (Nat.le_of_ble_eq_true rfl) (mc := 0) (ms := 0) (Nat.zero_le _) (Nat.zero_le _) (P := fun v u => _) ?_ (fun e u h => h) (fun v u h => h)
          intro po15 xx15 hp15 hx15
          refine g_enter2 (k := 94) (N := 300) (by omega) rfl (Nat.le_of_ble_eq_true rfl) (g_iload_n 1 (gd rfl) rfl rfl (g_if_lt 4 16 (gd rfl) rfl rfl (fun c15x1 => ?_) (fun c15x1 => ?_)))
          · skip
            have i15x1 := z_lt (-2147483648) (-1) c15x1 (i_rng x2) rfl
            refine g_iconst 0 17 (gd rfl) rfl rfl ?_
            refine g_ireturn (gd rfl) rfl (nb01 (in_w 0 1 (in_c 0 rfl) rfl)) (hp15 _ _ ?_)
            show GG _ _ _ _ _ _ _ _ [.int (Int32.ofInt 0)] _ _ _
            refine g_if_eq 21 25 (gd rfl) rfl rfl (fun c18 => ?_) (fun c18 => ?_)
            · skip
              refine g_iconst 0 26 (gd rfl) rfl rfl (g_thr (E := am_IA) (y := yX11_allow) 29 (gd rfl) rfl rfl (Or.inl ⟨rfl, rfl, rfl⟩) (by omega) (Nat.le_of_ble_eq_true rfl) (Nat.le_of_ble_eq_true rfl) (Nat.le_of_ble_eq_true rfl) (fun c26 => ?_) (fun c26 => ?_))
              · skip
                exact zn_ne c26 (in_c 0 rfl) rfl
              · skip
                exact (hX _ _ ⟨rfl, s, hI, fr_rf, rfl⟩)
            · skip
              exact zn_ne c18 (in_c 0 rfl) rfl
          · skip
            have i15x1 := z_ge 0 2147483647 c15x1 (i_rng x2) rfl
            refine g_iload_n 5 (gd rfl) rfl rfl (g_aload_n 6 (gd rfl) rfl rfl (g_getIv (y := u_2_1) 9 (gd rfl) rfl rfl rfl (e_2_1) (g_cmp_ge 12 16 (gd rfl) rfl rfl (fun c15x9 => ?_) (fun c15x9 => ?_))))
            · skip
              have i15x9 := r_le2 1 2147483647 c15x9 i7x9a i15x1 rfl
              refine g_iconst 0 17 (gd rfl) rfl rfl ?_
              refine g_ireturn (gd rfl) rfl (nb01 (in_w 0 1 (in_c 0 rfl) rfl)) (hp15 _ _ ?_)
              show GG _ _ _ _ _ _ _ _ [.int (Int32.ofInt 0)] _ _ _
              refine g_if_eq 21 25 (gd rfl) rfl rfl (fun c18 => ?_) (fun c18 => ?_)
              · skip
                refine g_iconst 0 26 (gd rfl) rfl rfl (g_thr (E := am_IA) (y := yX11_allow) 29 (gd rfl) rfl rfl (Or.inl ⟨rfl, rfl, rfl⟩) (by omega) (Nat.le_of_ble_eq_true rfl) (Nat.le_of_ble_eq_true rfl) (Nat.le_of_ble_eq_true rfl) (fun c26 => ?_) (fun c26 => ?_))
                · skip
                  exact zn_ne c26 (in_c 0 rfl) rfl
                · skip
                  exact (hX _ _ ⟨rfl, s, hI, fr_rf, rfl⟩)
              · skip
                exact zn_ne c18 (in_c 0 rfl) rfl
            · skip
              have i15x9 := r_lt1 0 31 c15x9 i15x1 i7x9a rfl
              refine g_iconst 1 13 (gd rfl) rfl rfl (g_goto 17 (gd rfl) rfl ?_)
              refine g_ireturn (gd rfl) rfl (nb01 (in_w 0 1 (in_c 1 rfl) rfl)) (hp15 _ _ ?_)
              show GG _ _ _ _ _ _ _ _ [.int (Int32.ofInt 1)] _ _ _
              refine g_if_eq 21 25 (gd rfl) rfl rfl (fun c18 => ?_) (fun c18 => ?_)
              · skip
                exact zn_eq c18 (in_c 1 rfl) rfl
              · skip
                refine g_iconst 1 22 (gd rfl) rfl rfl (g_goto 26 (gd rfl) rfl (g_thr (E := am_IA) (y := yX11_allow) 29 (gd rfl) rfl rfl (Or.inl ⟨rfl, rfl, rfl⟩) (by omega) (Nat.le_of_ble_eq_true rfl) (Nat.le_of_ble_eq_true rfl) (Nat.le_of_ble_eq_true rfl) (fun c26 => ?_) (fun c26 => ?_)))
                · skip
                  refine g_aload_n 30 (gd rfl) rfl rfl (g_getA (q2 := 94) 33 (gd rfl) rfl rfl rfl rfl (g_aload_n 34 (gd rfl) rfl rfl (g_iload_n 35 (gd rfl) rfl rfl (g_iload_n 36 (gd rfl) rfl rfl (g_callv (X := _) (As := [.ref (A 2), .int x1, .int x2]) (r := []) (b := A 94) (q := 94) 39 (gd rfl) rfl rfl rfl rfl rfl (ww_o rfl) (Nat.le_of_ble_eq_true rfl) (Nat.zero_le _) (Nat.zero_le _) (k_163_94_2 (by omega) hI (in_w 0 31 i7x9 rfl) (in_w 0 31 i15x9 rfl)) (fun e u h => h) (fun v u h => ?_))))))
                  obtain ⟨s36, hI36, hF36, z36, rfl, rfl, i36⟩ := h
                  show GG _ _ _ _ _ _ _ _ [.int z36] _ _ _
                  exact g_ireturn (gd rfl) rfl rfl (hP _ _ ⟨s36, hI36, (fr_tr rfl fr_rf hF36), z36, rfl, rfl, in_w (-1) 1952 i36 rfl⟩)
                · skip
                  exact zn_eq c26 (in_c 1 rfl) rfl

def fm_256_0 : FM := ([9, 10, 11, 12, 13, 14, 15, 39, 40, 41, 42, 43, 44, 45], [105, 106, 107, 108], [(2, 4), (32, 4), (102, 9), (102, 10), (102, 11), (102, 12)], [])
/-- GraphHouse.run -/
theorem k_256_0 {Z : AmZ} {A : Nat → Nat} {s : GS} {ex : va_W} {d : Nat} {x1 : Int32} {x2 : Int32} {x3 : Int32} {x4 : Int64} (hd : 8 ≤ d) (hI : Inv s)  : GC Z d 256 [.ref (A 0), .int x1, .int x2, .int x3, .long x4] (WW Z A s ++ ex) 3 18 (fun v u => ∃ t : GS, Inv t ∧ Fr fm_256_0 s t ∧ ∃ z : Int32, v = some (.int z) ∧ u = WW Z A t ++ ex ∧ In z 0 200) (gE1 Z A ex fm_256_0 s) := by
  intro post xp hP hX
  obtain ⟨u_0_2, e_0_2⟩ : ∃ w, w = s.2.2.1 0 2 := ⟨_, rfl⟩
  have ro_0_2 := inv_F hI (-1) 4000 rfl e_0_2
  refine g_enter2 (k := 256) (N := 900) (by omega) rfl (Nat.le_of_ble_eq_true rfl) (g_iload_n 1 (gd rfl) rfl rfl (g_if_lt 4 35 (gd rfl) rfl rfl (fun c1 => ?_) (fun c1 => ?_)))
  · skip
    have i1 := z_lt (-2147483648) (-1) c1 (i_rng x1) rfl
    refine g_iconst 0 36 (gd rfl) rfl rfl (g_thr (E := am_IA) (y := yX11_allow) 39 (gd rfl) rfl rfl (Or.inl ⟨rfl, rfl, rfl⟩) (by omega) (Nat.le_of_ble_eq_true rfl) (Nat.le_of_ble_eq_true rfl) (Nat.le_of_ble_eq_true rfl) (fun c36 => ?_) (fun c36 => ?_))
    · skip
      exact zn_ne c36 (in_c 0 rfl) rfl
    · skip
      exact (hX _ _ ⟨rfl, s, hI, fr_rf, rfl⟩)
  · skip
    have i1 := z_ge 0 2147483647 c1 (i_rng x1) rfl
    refine g_iload_n 5 (gd rfl) rfl rfl (g_sipush 200 8 (gd rfl) rfl rfl (g_cmp_gt 11 35 (gd rfl) rfl rfl (fun c8 => ?_) (fun c8 => ?_)))
    · skip
      have i8 := r_lt2 201 2147483647 c8 (in_c 200 rfl) i1 rfl
      refine g_iconst 0 36 (gd rfl) rfl rfl (g_thr (E := am_IA) (y := yX11_allow) 39 (gd rfl) rfl rfl (Or.inl ⟨rfl, rfl, rfl⟩) (by omega) (Nat.le_of_ble_eq_true rfl) (Nat.le_of_ble_eq_true rfl) (Nat.le_of_ble_eq_true rfl) (fun c36 => ?_) (fun c36 => ?_))
      · skip
        exact zn_ne c36 (in_c 0 rfl) rfl
      · skip
        exact (hX _ _ ⟨rfl, s, hI, fr_rf, rfl⟩)
    · skip
      have i8 := r_le1 0 200 c8 i1 (in_c 200 rfl) rfl
      refine g_iload_n 12 (gd rfl) rfl rfl (g_iconst 1 13 (gd rfl) rfl rfl (g_cmp_lt 16 35 (gd rfl) rfl rfl (fun c13 => ?_) (fun c13 => ?_)))
      · skip
        have i13 := r_lt1 (-2147483648) 0 c13 (i_rng x2) (in_c 1 rfl) rfl
        refine g_iconst 0 36 (gd rfl) rfl rfl (g_thr (E := am_IA) (y := yX11_allow) 39 (gd rfl) rfl rfl (Or.inl ⟨rfl, rfl, rfl⟩) (by omega) (Nat.le_of_ble_eq_true rfl) (Nat.le_of_ble_eq_true rfl) (Nat.le_of_ble_eq_true rfl) (fun c36 => ?_) (fun c36 => ?_))
        · skip
          exact zn_ne c36 (in_c 0 rfl) rfl
        · skip
          exact (hX _ _ ⟨rfl, s, hI, fr_rf, rfl⟩)
      · skip
        have i13 := r_le2 1 2147483647 c13 (in_c 1 rfl) (i_rng x2) rfl
        refine g_iload_n 17 (gd rfl) rfl rfl (g_iconst 4 18 (gd rfl) rfl rfl (g_cmp_gt 21 35 (gd rfl) rfl rfl (fun c18 => ?_) (fun c18 => ?_)))
        · skip
          have i18 := r_lt2 5 2147483647 c18 (in_c 4 rfl) i13 rfl
          refine g_iconst 0 36 (gd rfl) rfl rfl (g_thr (E := am_IA) (y := yX11_allow) 39 (gd rfl) rfl rfl (Or.inl ⟨rfl, rfl, rfl⟩) (by omega) (Nat.le_of_ble_eq_true rfl) (Nat.le_of_ble_eq_true rfl) (Nat.le_of_ble_eq_true rfl) (fun c36 => ?_) (fun c36 => ?_))
          · skip
            exact zn_ne c36 (in_c 0 rfl) rfl
          · skip
            exact (hX _ _ ⟨rfl, s, hI, fr_rf, rfl⟩)
        · skip
          have i18 := r_le1 1 4 c18 i13 (in_c 4 rfl) rfl
          refine g_iload_n 22 (gd rfl) rfl rfl (g_if_lt 25 35 (gd rfl) rfl rfl (fun c22 => ?_) (fun c22 => ?_))
          · skip
            have i22 := z_lt (-2147483648) (-1) c22 (i_rng x3) rfl
            refine g_iconst 0 36 (gd rfl) rfl rfl (g_thr (E := am_IA) (y := yX11_allow) 39 (gd rfl) rfl rfl (Or.inl ⟨rfl, rfl, rfl⟩) (by omega) (Nat.le_of_ble_eq_true rfl) (Nat.le_of_ble_eq_true rfl) (Nat.le_of_ble_eq_true rfl) (fun c36 => ?_) (fun c36 => ?_))
            · skip
              exact zn_ne c36 (in_c 0 rfl) rfl
            · skip
              exact (hX _ _ ⟨rfl, s, hI, fr_rf, rfl⟩)
          · skip
            have i22 := z_ge 0 2147483647 c22 (i_rng x3) rfl
            refine g_iload_n 26 (gd rfl) rfl rfl (g_bipush 90 28 (gd rfl) rfl rfl (g_cmp_gt 31 35 (gd rfl) rfl rfl (fun c28 => ?_) (fun c28 => ?_)))
            · skip
              have i28 := r_lt2 91 2147483647 c28 (in_c 90 rfl) i22 rfl
              refine g_iconst 0 36 (gd rfl) rfl rfl (g_thr (E := am_IA) (y := yX11_allow) 39 (gd rfl) rfl rfl (Or.inl ⟨rfl, rfl, rfl⟩) (by omega) (Nat.le_of_ble_eq_true rfl) (Nat.le_of_ble_eq_true rfl) (Nat.le_of_ble_eq_true rfl) (fun c36 => ?_) (fun c36 => ?_))
              · skip
                exact zn_ne c36 (in_c 0 rfl) rfl
              · skip
                exact (hX _ _ ⟨rfl, s, hI, fr_rf, rfl⟩)
            · skip
              have i28 := r_le1 0 90 c28 i22 (in_c 90 rfl) rfl
              refine g_iconst 1 32 (gd rfl) rfl rfl (g_goto 36 (gd rfl) rfl (g_thr (E := am_IA) (y := yX11_allow) 39 (gd rfl) rfl rfl (Or.inl ⟨rfl, rfl, rfl⟩) (by omega) (Nat.le_of_ble_eq_true rfl) (Nat.le_of_ble_eq_true rfl) (Nat.le_of_ble_eq_true rfl) (fun c36 => ?_) (fun c36 => ?_)))
              · skip
                refine g_aload_n 40 (gd rfl) rfl rfl ?_
                refine g_callv (X := _) (As := []) (r := []) (b := A 0) (q := 0) 43 (gd rfl) rfl rfl rfl rfl rfl (ww_o rfl) (Nat.le_of_ble_eq_true rfl) (mc := 0) (ms := 0) (Nat.zero_le _) (Nat.zero_le _) (P := fun v u => _) ?_ (fun e u h => h) (fun v u h => h)
                intro po40 xx40 hp40 hx40
                refine g_enter2 (k := 259) (N := 300) (by omega) rfl (Nat.le_of_ble_eq_true rfl) (g_aload_n 1 (gd rfl) rfl rfl (g_getIv (y := u_0_2) 4 (gd rfl) rfl rfl rfl (e_0_2) (g_iconst (-1) 5 (gd rfl) rfl rfl (g_cmp_ne 8 18 (gd rfl) rfl rfl (fun c40x5 => ?_) (fun c40x5 => ?_)))))
                · skip
                  have i40x5 := r_ne1 0 4000 c40x5 ro_0_2 (in_c (-1) rfl) rfl
                  refine g_aload_n 19 (gd rfl) rfl rfl (g_getA (q2 := 32) 22 (gd rfl) rfl rfl rfl rfl ?_)
                  refine g_areturn (gd rfl) rfl (hp40 _ _ ?_)
                  show GG _ _ _ _ _ _ _ _ [.ref (A 32)] _ _ _
                  refine g_astore 45 (gd rfl) rfl (Nat.le_of_ble_eq_true rfl) (g_aload_n 46 (gd rfl) rfl rfl (g_getA (q2 := 102) 49 (gd rfl) rfl rfl rfl rfl (g_aload 51 (gd rfl) rfl rfl (g_iload_n 52 (gd rfl) rfl rfl (g_callv (X := _) (As := [.ref (A 32), .int x1]) (r := []) (b := A 102) (q := 102) 55 (gd rfl) rfl rfl rfl rfl rfl (ww_o rfl) (Nat.le_of_ble_eq_true rfl) (Nat.zero_le _) (Nat.zero_le _) (k_63_102_32 (by omega) hI (in_w 0 200 i8 rfl)) (fun e u h => h) (fun v u h => ?_))))))
                  obtain ⟨s52, hI52, hF52, z52, rfl, rfl, i52⟩ := h
                  show GG _ _ _ _ _ _ _ _ [.int z52] _ _ _
                  refine g_istore 57 (gd rfl) rfl (Nat.le_of_ble_eq_true rfl) (g_aload_n 58 (gd rfl) rfl rfl (g_getA (q2 := 102) 61 (gd rfl) rfl rfl rfl rfl (g_aload 63 (gd rfl) rfl rfl (g_iload 65 (gd rfl) rfl rfl (g_iload_n 66 (gd rfl) rfl rfl (g_iload_n 67 (gd rfl) rfl rfl (g_lload 69 (gd rfl) rfl rfl (g_callv (X := _) (As := [.ref (A 32), .int z52, .int x2, .int x3, .long x4]) (r := []) (b := A 102) (q := 102) 72 (gd rfl) rfl rfl rfl rfl rfl (ww_o rfl) (Nat.le_of_ble_eq_true rfl) (Nat.zero_le _) (Nat.zero_le _) (k_70_102_32 (by omega) hI52 (in_w 0 200 i52 rfl) (in_w 1 4 i18 rfl) (in_w 0 90 i28 rfl)) (fun e u h => h) (fun v u h => ?_)))))))))
                  obtain ⟨s69, hI69, hF69, rfl, rfl⟩ := h
                  show GG _ _ _ _ _ _ _ _ [] _ _ _
                  exact g_iload 74 (gd rfl) rfl rfl (g_ireturn (gd rfl) rfl rfl (hP _ _ ⟨s69, hI69, (fr_tr rfl (fr_tr rfl fr_rf hF52) hF69), z52, rfl, rfl, in_w 0 200 i52 rfl⟩))
                · skip
                  have i40x5 := r_eq1 (-1) (-1) c40x5 ro_0_2 (in_c (-1) rfl) rfl
                  refine g_aload_n 9 (gd rfl) rfl rfl (g_getA (q2 := 1) 12 (gd rfl) rfl rfl rfl rfl (g_getA (q2 := 2) 15 (gd rfl) rfl rfl rfl rfl (g_goto 22 (gd rfl) rfl ?_)))
                  refine g_areturn (gd rfl) rfl (hp40 _ _ ?_)
                  show GG _ _ _ _ _ _ _ _ [.ref (A 2)] _ _ _
                  refine g_astore 45 (gd rfl) rfl (Nat.le_of_ble_eq_true rfl) (g_aload_n 46 (gd rfl) rfl rfl (g_getA (q2 := 102) 49 (gd rfl) rfl rfl rfl rfl (g_aload 51 (gd rfl) rfl rfl (g_iload_n 52 (gd rfl) rfl rfl (g_callv (X := _) (As := [.ref (A 2), .int x1]) (r := []) (b := A 102) (q := 102) 55 (gd rfl) rfl rfl rfl rfl rfl (ww_o rfl) (Nat.le_of_ble_eq_true rfl) (Nat.zero_le _) (Nat.zero_le _) (k_63_102_2 (by omega) hI (in_w 0 200 i8 rfl)) (fun e u h => h) (fun v u h => ?_))))))
                  obtain ⟨s52, hI52, hF52, z52, rfl, rfl, i52⟩ := h
                  show GG _ _ _ _ _ _ _ _ [.int z52] _ _ _
                  refine g_istore 57 (gd rfl) rfl (Nat.le_of_ble_eq_true rfl) (g_aload_n 58 (gd rfl) rfl rfl (g_getA (q2 := 102) 61 (gd rfl) rfl rfl rfl rfl (g_aload 63 (gd rfl) rfl rfl (g_iload 65 (gd rfl) rfl rfl (g_iload_n 66 (gd rfl) rfl rfl (g_iload_n 67 (gd rfl) rfl rfl (g_lload 69 (gd rfl) rfl rfl (g_callv (X := _) (As := [.ref (A 2), .int z52, .int x2, .int x3, .long x4]) (r := []) (b := A 102) (q := 102) 72 (gd rfl) rfl rfl rfl rfl rfl (ww_o rfl) (Nat.le_of_ble_eq_true rfl) (Nat.zero_le _) (Nat.zero_le _) (k_70_102_2 (by omega) hI52 (in_w 0 200 i52 rfl) (in_w 1 4 i18 rfl) (in_w 0 90 i28 rfl)) (fun e u h => h) (fun v u h => ?_)))))))))
                  obtain ⟨s69, hI69, hF69, rfl, rfl⟩ := h
                  show GG _ _ _ _ _ _ _ _ [] _ _ _
                  exact g_iload 74 (gd rfl) rfl rfl (g_ireturn (gd rfl) rfl rfl (hP _ _ ⟨s69, hI69, (fr_tr rfl (fr_tr rfl fr_rf hF52) hF69), z52, rfl, rfl, in_w 0 200 i52 rfl⟩))
              · skip
                exact zn_eq c36 (in_c 1 rfl) rfl
