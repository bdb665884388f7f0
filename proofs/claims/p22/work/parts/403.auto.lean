section
/-! methods, by vc.py -/
def fm_66_102 : FM := ([], [105], [], [])
/-- GraphHouse$Engine.compute -/
theorem k_66_102 {Z : AmZ} {A : Nat → Nat} {s : GS} {ex : va_W} {d : Nat} {X : AmX} {x1 : Int32} {x2 : Int32} (hd : 5 ≤ d) (hI : Inv s) (h1 : In x1 0 120) (h2 : In x2 0 120) (q_0 : (ht (fun i => hc (s.1 103 i)) (x1).toNatClampNeg ((x2).toNatClampNeg - (x1).toNatClampNeg)).isSome = true) : GC Z d 66 [.ref (A 102), .int x1, .int x2] (WW Z A s ++ ex) 0 0 (fun v u => ∃ t : GS, Inv t ∧ Fr fm_66_102 s t ∧ ∃ z : Int64, v = some (.long z) ∧ u = WW Z A t ++ ex) X := by
  intro post xp hP hX
  have ct5 : ∀ (k5 : Nat) (sc5 : GS) (y5_3 : Int32) (y5_4 : Int32), Inv sc5 → Fr fm_66_102 s sc5 → (In y5_3 0 120) → (In y5_4 0 120) → ((y5_3).toInt ≤ (y5_4).toInt) → (CS sc5 x1 y5_4 y5_3) → 120 - (y5_4).toInt < (k5 : Int) → GG Z (d - 1) 66 post (gx xp) (1 + k5 * 900) 5 (fun j => xlook j [(0, .ref (A 102)), (1, .int x1), (2, .int x2), (3, .int y5_3), (4, .int y5_4)]) [] (WW Z A sc5 ++ ex) 0 0 := by
    intro k5
    induction k5 with
    | zero => intro sc5 y5_3 y5_4 hIc5 hFc5 j5_3 j5_4 n5_0 g5_0 mm5; exact m_no mm5 j5_4 rfl
    | succ k5 ih5 =>
      intro sc5 y5_3 y5_4 hIc5 hFc5 j5_3 j5_4 n5_0 g5_0 mm5
      refine gg_w (M := 1 + k5 * 900 + 900) gws ?_
      refine g_iload 7 (gd rfl) rfl rfl ?_
      refine g_iload_n 8 (gd rfl) rfl rfl ?_
      refine g_cmp_ge 11 128 (gd rfl) rfl rfl (fun c8 => ?_) (fun c8 => ?_)
      · skip
        refine g_aload_n 129 (gd rfl) rfl rfl ?_
        refine g_getA (q2 := 105) 132 (gd rfl) rfl rfl rfl rfl ?_
        refine g_iconst 0 133 (gd rfl) rfl rfl ?_
        refine g_laload 134 (gd rfl) rfl (n := 120) rfl (in_ix (in_c 0 rfl) rfl) (fun z133 e133 => ?_)
        exact g_lreturn (gd rfl) rfl (hP _ _ ⟨sc5, hIc5, hFc5, z133, rfl, rfl⟩)
      · skip
        have i8 := r_lt1 0 119 c8 j5_4 h2 rfl
        have i8a := r_lt2 1 120 c8 j5_4 h2 rfl
        refine g_aload_n 12 (gd rfl) rfl rfl ?_
        refine g_getA (q2 := 103) 15 (gd rfl) rfl rfl rfl rfl ?_
        refine g_iload 17 (gd rfl) rfl rfl ?_
        refine g_iaload 18 (gd rfl) rfl (n := 120) rfl (in_ix i8 rfl) (fun z17 e17 => ?_)
        refine g_istore 20 (gd rfl) rfl (Nat.le_of_ble_eq_true rfl) ?_
        obtain ⟨kn, hk1, hk2⟩ := cs_ok (by rw [hFc5.1 103 rfl]; exact q_0) g5_0 e17 c8; have hkle := cs_le g5_0; have hk0 := g5_0.1
        refine g_iload 22 (gd rfl) rfl rfl ?_
        refine g_ldc 1000100 24 (gd rfl) rfl rfl ?_
        refine g_cmp_ge 27 62 (gd rfl) rfl rfl (fun c24 => ?_) (fun c24 => ?_)
        · skip
          have i24 := r_le2 1000100 2147483647 c24 (in_c 1000100 rfl) (i_rng z17) rfl
          refine g_iload 64 (gd rfl) rfl rfl ?_
          refine g_ldc 1000226 66 (gd rfl) rfl rfl ?_
          refine g_cmp_ne 69 89 (gd rfl) rfl rfl (fun c66 => ?_) (fun c66 => ?_)
          · skip
            have hk3 := hc_3 hk1 (by (first | have a0 := oa5 i8a h1 i8 j5_3 i24 | ((first | have a0 := in_u i8a | (have a0 := i8a; unfold In at a0)); (first | have a1 := in_u h1 | (have a1 := h1; unfold In at a1)); (first | have a2 := in_u i8 | (have a2 := i8; unfold In at a2)); (first | have a3 := in_u j5_3 | (have a3 := j5_3; unfold In at a3)); (first | have a4 := in_u i24 | (have a4 := i24; unfold In at a4)))); omega) c66
            refine g_iinc 92 (gd rfl) rfl rfl (Nat.le_of_ble_eq_true rfl) (fun z89 e89 => ?_)
            have i89 := in_add (-1) 119 e89 j5_3 (in_c (-1) rfl) rfl rfl
            refine g_aload_n 93 (gd rfl) rfl rfl ?_
            refine g_getA (q2 := 105) 96 (gd rfl) rfl rfl rfl rfl ?_
            refine g_iload_n 97 (gd rfl) rfl rfl ?_
            refine g_iconst 1 98 (gd rfl) rfl rfl ?_
            refine g_isub 99 (gd rfl) rfl (fun z98 e98 => ?_)
            have i98 := in_sub (-2) 118 e98 i89 (in_c 1 rfl) rfl rfl
            refine g_iload 101 (gd rfl) rfl rfl ?_
            refine g_ldc 1000100 103 (gd rfl) rfl rfl ?_
            refine g_isub 104 (gd rfl) rfl (fun z103 e103 => ?_)
            have i103 := in_sub 0 2146483547 e103 i24 (in_c 1000100 rfl) rfl rfl
            refine g_aload_n 105 (gd rfl) rfl rfl ?_
            refine g_getA (q2 := 105) 108 (gd rfl) rfl rfl rfl rfl ?_
            refine g_iload_n 109 (gd rfl) rfl rfl ?_
            refine g_iconst 1 110 (gd rfl) rfl rfl ?_
            refine g_isub 111 (gd rfl) rfl (fun z110 e110 => ?_)
            have i110 := in_sub (-2) 118 e110 i89 (in_c 1 rfl) rfl rfl
            have i111 : In z110 0 119 := by (first | have a0 := oa6 i8a h1 i8 j5_3 i24 i89 | ((first | have a0 := in_u i8a | (have a0 := i8a; unfold In at a0)); (first | have a1 := in_u h1 | (have a1 := h1; unfold In at a1)); (first | have a2 := in_u i8 | (have a2 := i8; unfold In at a2)); (first | have a3 := in_u j5_3 | (have a3 := j5_3; unfold In at a3)); (first | have a4 := in_u i24 | (have a4 := i24; unfold In at a4)); (first | have a5 := in_u i89 | (have a5 := i89; unfold In at a5)))); have a6 := t_add e89 j5_3 (in_c (-1) rfl) rfl; (first | have a7 := oa2 ((in_c (-1) rfl)) i110 | ((first | have a7 := in_u ((in_c (-1) rfl)) | (have a7 := (in_c (-1) rfl); unfold In at a7)); (first | have a8 := in_u i110 | (have a8 := i110; unfold In at a8)))); have a9 := t_sub e110 i89 (in_c 1 rfl) rfl; (first | have a10 := oa2 ((in_c 1 rfl)) i103 | ((first | have a10 := in_u ((in_c 1 rfl)) | (have a10 := (in_c 1 rfl); unfold In at a10)); (first | have a11 := in_u i103 | (have a11 := i103; unfold In at a11)))); have a12 := t_sub e103 i24 (in_c 1000100 rfl) rfl; (first | have a13 := oa2 ((in_c 1000100 rfl)) i98 | ((first | have a13 := in_u ((in_c 1000100 rfl)) | (have a13 := (in_c 1000100 rfl); unfold In at a13)); (first | have a14 := in_u i98 | (have a14 := i98; unfold In at a14)))); have a15 := t_sub e98 i89 (in_c 1 rfl) rfl; exact ⟨by omega, by omega⟩
            refine g_laload 112 (gd rfl) rfl (n := 120) rfl (in_ix i111 rfl) (fun z111 e111 => ?_)
            refine g_aload_n 113 (gd rfl) rfl rfl ?_
            refine g_getA (q2 := 105) 116 (gd rfl) rfl rfl rfl rfl ?_
            refine g_iload_n 117 (gd rfl) rfl rfl ?_
            have i117 : In z89 0 119 := by (first | have a0 := oa6 i8a h1 i8 j5_3 i24 i89 | ((first | have a0 := in_u i8a | (have a0 := i8a; unfold In at a0)); (first | have a1 := in_u h1 | (have a1 := h1; unfold In at a1)); (first | have a2 := in_u i8 | (have a2 := i8; unfold In at a2)); (first | have a3 := in_u j5_3 | (have a3 := j5_3; unfold In at a3)); (first | have a4 := in_u i24 | (have a4 := i24; unfold In at a4)); (first | have a5 := in_u i89 | (have a5 := i89; unfold In at a5)))); have a6 := t_add e89 j5_3 (in_c (-1) rfl) rfl; (first | have a7 := oa2 ((in_c (-1) rfl)) i111 | ((first | have a7 := in_u ((in_c (-1) rfl)) | (have a7 := (in_c (-1) rfl); unfold In at a7)); (first | have a8 := in_u i111 | (have a8 := i111; unfold In at a8)))); have a9 := t_sub e110 i89 (in_c 1 rfl) rfl; (first | have a10 := oa2 ((in_c 1 rfl)) i103 | ((first | have a10 := in_u ((in_c 1 rfl)) | (have a10 := (in_c 1 rfl); unfold In at a10)); (first | have a11 := in_u i103 | (have a11 := i103; unfold In at a11)))); have a12 := t_sub e103 i24 (in_c 1000100 rfl) rfl; (first | have a13 := oa2 ((in_c 1000100 rfl)) i98 | ((first | have a13 := in_u ((in_c 1000100 rfl)) | (have a13 := (in_c 1000100 rfl); unfold In at a13)); (first | have a14 := in_u i98 | (have a14 := i98; unfold In at a14)))); have a15 := t_sub e98 i89 (in_c 1 rfl) rfl; exact ⟨by omega, by omega⟩
            refine g_laload 118 (gd rfl) rfl (n := 120) rfl (in_ix i117 rfl) (fun z117 e117 => ?_)
            refine g_calls (As := [.int z103, .long z111, .long z117]) (r := [.int z98, .ref (A 105)]) 121 (gd rfl) rfl rfl rfl rfl rfl (Nat.le_of_ble_eq_true rfl) (mc := 0) (ms := 0) (Nat.zero_le _) (Nat.zero_le _) (P := fun v u => _) ?_ (fun v u h => h)
            intro po118 xx118 hp118 hx118
            refine g_enter2 (k := 67) (N := 300) (by first | exact dq1 hd rfl | exact dq0 hd rfl | exact dq2 hd rfl | exact dq3 hd rfl | omega) rfl (Nat.le_of_ble_eq_true rfl) ?_
            refine g_iload_n 1 (gd rfl) rfl rfl ?_
            refine g_lsw [(42, 58), (43, 44), (45, 51), (60, 64)] 76 (gd rfl) rfl rfl rfl ⟨fun c118x1 => ?_, fun c118x1_0 => ⟨fun c118x1 => ?_, fun c118x1_1 => ⟨fun c118x1 => ?_, fun c118x1_2 => ⟨fun c118x1 => ?_, fun c118x1_3 => ?_⟩⟩⟩⟩
            · skip
              have i118x1 := sw_eq c118x1
              refine g_lload_n 59 (gd rfl) rfl rfl ?_
              refine g_lload_n 60 (gd rfl) rfl rfl ?_
              refine g_calls (As := [.long z111, .long z117]) (r := []) 63 (gd rfl) rfl rfl rfl rfl rfl (Nat.le_of_ble_eq_true rfl) (mc := 0) (ms := 0) (Nat.zero_le _) (Nat.zero_le _) (P := fun v u => _) ?_ (fun v u h => h)
              intro po118x60 xx118x60 hp118x60 hx118x60
              refine g_enter2 (k := 68) (N := 300) (by first | exact dq1 hd rfl | exact dq0 hd rfl | exact dq2 hd rfl | exact dq3 hd rfl | omega) rfl (Nat.le_of_ble_eq_true rfl) ?_
              refine g_lload_n 1 (gd rfl) rfl rfl ?_
              refine g_lconst 0 2 (gd rfl) rfl rfl ?_
              refine g_lcmp 3 (gd rfl) rfl (fun z118x60x2 e118x60x2 => ?_)
              have i118x60x2 := lc_in e118x60x2
              refine g_if_eq 6 22 (gd rfl) rfl rfl (fun c118x60x3 => ?_) (fun c118x60x3 => ?_)
              · skip
                have i118x60x3 := z_eq 0 0 c118x60x3 i118x60x2 rfl
                have c118x60x3a := lc_eq e118x60x2 c118x60x3
                have i118x60x3a := lr_eq1 0 0 c118x60x3a (l_rng z111) (l_c 0 rfl) rfl
                refine g_lload_n 23 (gd rfl) rfl rfl ?_
                refine g_lload_n 24 (gd rfl) rfl rfl ?_
                refine g_lmul 25 (gd rfl) rfl (fun z118x60x24 e118x60x24 => ?_)
                refine g_lreturn (gd rfl) rfl (hp118x60 _ _ ?_)
                show GG _ _ _ _ _ _ _ _ [.long z118x60x24] _ _ _
                refine g_lreturn (gd rfl) rfl (hp118 _ _ ?_)
                show GG _ _ _ _ _ _ _ _ [.long z118x60x24, .int z98, .ref (A 105)] _ _ _
                have i121 : In z98 0 119 := by (first | have a0 := oa6 i8a h1 i8 j5_3 i24 i117 | ((first | have a0 := in_u i8a | (have a0 := i8a; unfold In at a0)); (first | have a1 := in_u h1 | (have a1 := h1; unfold In at a1)); (first | have a2 := in_u i8 | (have a2 := i8; unfold In at a2)); (first | have a3 := in_u j5_3 | (have a3 := j5_3; unfold In at a3)); (first | have a4 := in_u i24 | (have a4 := i24; unfold In at a4)); (first | have a5 := in_u i117 | (have a5 := i117; unfold In at a5)))); have a6 := t_add e89 j5_3 (in_c (-1) rfl) rfl; (first | have a7 := oa2 ((in_c (-1) rfl)) i111 | ((first | have a7 := in_u ((in_c (-1) rfl)) | (have a7 := (in_c (-1) rfl); unfold In at a7)); (first | have a8 := in_u i111 | (have a8 := i111; unfold In at a8)))); have a9 := t_sub e110 i89 (in_c 1 rfl) rfl; (first | have a10 := oa2 ((in_c 1 rfl)) i118x1 | ((first | have a10 := in_u ((in_c 1 rfl)) | (have a10 := (in_c 1 rfl); unfold In at a10)); (first | have a11 := in_u i118x1 | (have a11 := i118x1; unfold In at a11)))); have a12 := t_sub e103 i24 (in_c 1000100 rfl) rfl; (first | have a13 := oa2 ((in_c 1000100 rfl)) i98 | ((first | have a13 := in_u ((in_c 1000100 rfl)) | (have a13 := (in_c 1000100 rfl); unfold In at a13)); (first | have a14 := in_u i98 | (have a14 := i98; unfold In at a14)))); have a15 := t_sub e98 i89 (in_c 1 rfl) rfl; exact ⟨by omega, by omega⟩
                refine g_lastore 122 (gd rfl) rfl (n := 120) rfl (in_ix i121 rfl) ?_
                have hI121 := inv_sL (q := 105) (j := z98.toNatClampNeg) (x := z118x60x24) hIc5 rfl (l_rng z118x60x24)
                refine g_iinc 125 (gd rfl) rfl rfl (Nat.le_of_ble_eq_true rfl) (fun z122 e122 => ?_)
                have i122 := in_add 1 120 e122 i8 (in_c 1 rfl) rfl rfl
                refine g_goto 5 (gd rfl) rfl ?_
                have n5 : (z89).toInt ≤ (z122).toInt := by (first | have a0 := oa6 i8a h1 i8 j5_3 i24 i122 | ((first | have a0 := in_u i8a | (have a0 := i8a; unfold In at a0)); (first | have a1 := in_u h1 | (have a1 := h1; unfold In at a1)); (first | have a2 := in_u i8 | (have a2 := i8; unfold In at a2)); (first | have a3 := in_u j5_3 | (have a3 := j5_3; unfold In at a3)); (first | have a4 := in_u i24 | (have a4 := i24; unfold In at a4)); (first | have a5 := in_u i122 | (have a5 := i122; unfold In at a5)))); have a6 := t_add e122 i8 (in_c 1 rfl) rfl; (first | have a7 := oa2 ((in_c 1 rfl)) i117 | ((first | have a7 := in_u ((in_c 1 rfl)) | (have a7 := (in_c 1 rfl); unfold In at a7)); (first | have a8 := in_u i117 | (have a8 := i117; unfold In at a8)))); have a9 := t_add e89 j5_3 (in_c (-1) rfl) rfl; (first | have a10 := oa2 ((in_c (-1) rfl)) i111 | ((first | have a10 := in_u ((in_c (-1) rfl)) | (have a10 := (in_c (-1) rfl); unfold In at a10)); (first | have a11 := in_u i111 | (have a11 := i111; unfold In at a11)))); have a12 := t_sub e110 i89 (in_c 1 rfl) rfl; (first | have a13 := in_u i118x1 | (have a13 := i118x1; unfold In at a13)); have a14 := t_sub e103 i24 (in_c 1000100 rfl) rfl; (first | have a15 := oa2 ((in_c 1000100 rfl)) i121 | ((first | have a15 := in_u ((in_c 1000100 rfl)) | (have a15 := (in_c 1000100 rfl); unfold In at a15)); (first | have a16 := in_u i121 | (have a16 := i121; unfold In at a16)))); have a17 := t_sub e98 i89 (in_c 1 rfl) rfl; omega
                have n5a : CS (sL sc5 105 z98.toNatClampNeg z118x60x24) x1 z122 z89 := by first | exact hk2 _ _ (by (first | have a0 := oa6 i8a h1 i8 j5_3 i24 i122 | ((first | have a0 := in_u i8a | (have a0 := i8a; unfold In at a0)); (first | have a1 := in_u h1 | (have a1 := h1; unfold In at a1)); (first | have a2 := in_u i8 | (have a2 := i8; unfold In at a2)); (first | have a3 := in_u j5_3 | (have a3 := j5_3; unfold In at a3)); (first | have a4 := in_u i24 | (have a4 := i24; unfold In at a4)); (first | have a5 := in_u i122 | (have a5 := i122; unfold In at a5)))); have a6 := t_add e122 i8 (in_c 1 rfl) rfl; (first | have a7 := oa2 ((in_c 1 rfl)) i117 | ((first | have a7 := in_u ((in_c 1 rfl)) | (have a7 := (in_c 1 rfl); unfold In at a7)); (first | have a8 := in_u i117 | (have a8 := i117; unfold In at a8)))); have a9 := t_add e89 j5_3 (in_c (-1) rfl) rfl; (first | have a10 := oa2 ((in_c (-1) rfl)) i111 | ((first | have a10 := in_u ((in_c (-1) rfl)) | (have a10 := (in_c (-1) rfl); unfold In at a10)); (first | have a11 := in_u i111 | (have a11 := i111; unfold In at a11)))); have a12 := t_sub e110 i89 (in_c 1 rfl) rfl; (first | have a13 := in_u i118x1 | (have a13 := i118x1; unfold In at a13)); have a14 := t_sub e103 i24 (in_c 1000100 rfl) rfl; (first | have a15 := oa2 ((in_c 1000100 rfl)) i121 | ((first | have a15 := in_u ((in_c 1000100 rfl)) | (have a15 := (in_c 1000100 rfl); unfold In at a15)); (first | have a16 := in_u i121 | (have a16 := i121; unfold In at a16)))); have a17 := t_sub e98 i89 (in_c 1 rfl) rfl; omega) (by (first | have a0 := oa6 i8a h1 i8 j5_3 i24 i122 | ((first | have a0 := in_u i8a | (have a0 := i8a; unfold In at a0)); (first | have a1 := in_u h1 | (have a1 := h1; unfold In at a1)); (first | have a2 := in_u i8 | (have a2 := i8; unfold In at a2)); (first | have a3 := in_u j5_3 | (have a3 := j5_3; unfold In at a3)); (first | have a4 := in_u i24 | (have a4 := i24; unfold In at a4)); (first | have a5 := in_u i122 | (have a5 := i122; unfold In at a5)))); have a6 := t_add e122 i8 (in_c 1 rfl) rfl; (first | have a7 := oa2 ((in_c 1 rfl)) i117 | ((first | have a7 := in_u ((in_c 1 rfl)) | (have a7 := (in_c 1 rfl); unfold In at a7)); (first | have a8 := in_u i117 | (have a8 := i117; unfold In at a8)))); have a9 := t_add e89 j5_3 (in_c (-1) rfl) rfl; (first | have a10 := oa2 ((in_c (-1) rfl)) i111 | ((first | have a10 := in_u ((in_c (-1) rfl)) | (have a10 := (in_c (-1) rfl); unfold In at a10)); (first | have a11 := in_u i111 | (have a11 := i111; unfold In at a11)))); have a12 := t_sub e110 i89 (in_c 1 rfl) rfl; (first | have a13 := in_u i118x1 | (have a13 := i118x1; unfold In at a13)); have a14 := t_sub e103 i24 (in_c 1000100 rfl) rfl; (first | have a15 := oa2 ((in_c 1000100 rfl)) i121 | ((first | have a15 := in_u ((in_c 1000100 rfl)) | (have a15 := (in_c 1000100 rfl); unfold In at a15)); (first | have a16 := in_u i121 | (have a16 := i121; unfold In at a16)))); have a17 := t_sub e98 i89 (in_c 1 rfl) rfl; omega) | exact cs_0 rfl h1.1
                exact gg_w (by first | exact Nat.le_add_right _ _ | exact gw2 | exact gw3 | exact gwe rfl | exact gwf rfl | exact gwg rfl | exact gwh rfl | omega) (gg_f (gf_cons rfl (gf_cons rfl (gf_cons rfl (gf_cons rfl (gf_cons rfl gf_nil))))) (ih5 (sL sc5 105 z98.toNatClampNeg z118x60x24) z89 z122 hI121 (fr_sL rfl hFc5) (in_w 0 120 i117 rfl) (in_w 0 120 i122 rfl) n5 n5a (m_up mm5 (t_add e122 i8 (in_c 1 rfl) rfl) (in_w 1 1 (in_c 1 rfl) rfl))))
              · skip
                have c118x60x3a := lc_ne e118x60x2 c118x60x3
                refine g_lload_n 7 (gd rfl) rfl rfl ?_
                refine g_calls (As := [.long z117]) (r := []) 10 (gd rfl) rfl rfl rfl rfl rfl (Nat.le_of_ble_eq_true rfl) (mc := 0) (ms := 0) (Nat.zero_le _) (Nat.zero_le _) (P := fun v u => _) ?_ (fun v u h => h)
                intro po118x60x7 xx118x60x7 hp118x60x7 hx118x60x7
                refine g_enter2 (k := 421) (N := 300) (by first | exact dq1 hd rfl | exact dq0 hd rfl | exact dq2 hd rfl | exact dq3 hd rfl | omega) rfl (Nat.le_of_ble_eq_true rfl) ?_
                refine g_lload_n 1 (gd rfl) rfl rfl ?_
                refine g_lconst 0 2 (gd rfl) rfl rfl ?_
                refine g_lcmp 3 (gd rfl) rfl (fun z118x60x7x2 e118x60x7x2 => ?_)
                have i118x60x7x2 := lc_in e118x60x7x2
                refine g_if_ge 6 11 (gd rfl) rfl rfl (fun c118x60x7x3 => ?_) (fun c118x60x7x3 => ?_)
                · skip
                  have i118x60x7x3 := z_ge 0 1 c118x60x7x3 i118x60x7x2 rfl
                  have c118x60x7x3a := lc_ge e118x60x7x2 c118x60x7x3
                  have i118x60x7x3a := lr_le2 0 9223372036854775807 c118x60x7x3a (l_c 0 rfl) (l_rng z117) rfl
                  refine g_lload_n 12 (gd rfl) rfl rfl ?_
                  refine g_lreturn (gd rfl) rfl (hp118x60x7 _ _ ?_)
                  show GG _ _ _ _ _ _ _ _ [.long z117] _ _ _
                  refine g_ldc2_w 1000000000000 13 (gd rfl) rfl rfl ?_
                  refine g_lload_n 14 (gd rfl) rfl rfl ?_
                  refine g_calls (As := [.long z111]) (r := [.long (Int64.ofInt 1000000000000), .long z117]) 17 (gd rfl) rfl rfl rfl rfl rfl (Nat.le_of_ble_eq_true rfl) (mc := 0) (ms := 0) (Nat.zero_le _) (Nat.zero_le _) (P := fun v u => _) ?_ (fun v u h => h)
                  intro po118x60x14 xx118x60x14 hp118x60x14 hx118x60x14
                  refine g_enter2 (k := 421) (N := 300) (by first | exact dq1 hd rfl | exact dq0 hd rfl | exact dq2 hd rfl | exact dq3 hd rfl | omega) rfl (Nat.le_of_ble_eq_true rfl) ?_
                  refine g_lload_n 1 (gd rfl) rfl rfl ?_
                  refine g_lconst 0 2 (gd rfl) rfl rfl ?_
                  refine g_lcmp 3 (gd rfl) rfl (fun z118x60x14x2 e118x60x14x2 => ?_)
                  have i118x60x14x2 := lc_in e118x60x14x2
                  refine g_if_ge 6 11 (gd rfl) rfl rfl (fun c118x60x14x3 => ?_) (fun c118x60x14x3 => ?_)
                  · skip
                    have i118x60x14x3 := z_ge 0 1 c118x60x14x3 i118x60x14x2 rfl
                    have c118x60x14x3a := lc_ge e118x60x14x2 c118x60x14x3
                    have i118x60x14x3a := lr_le2 0 9223372036854775807 c118x60x14x3a (l_c 0 rfl) (l_rng z111) rfl
                    refine g_lload_n 12 (gd rfl) rfl rfl ?_
                    refine g_lreturn (gd rfl) rfl (hp118x60x14 _ _ ?_)
                    show GG _ _ _ _ _ _ _ _ [.long z111, .long (Int64.ofInt 1000000000000), .long z117] _ _ _
                    refine g_ldiv 18 (gd rfl) rfl (lnz (nz_l c118x60x3a)) (fun z118x60x17 e118x60x17 => ?_)
                    refine g_lcmp 19 (gd rfl) rfl (fun z118x60x18 e118x60x18 => ?_)
                    have i118x60x18 := lc_in e118x60x18
                    refine g_if_gt 22 26 (gd rfl) rfl rfl (fun c118x60x19 => ?_) (fun c118x60x19 => ?_)
                    · skip
                      have i118x60x19 := z_gt 1 1 c118x60x19 i118x60x18 rfl
                      have c118x60x19a := lc_gt e118x60x18 c118x60x19
                      have i118x60x19a := lr_lt1 (-9223372036854775808) 9223372036854775806 c118x60x19a (l_rng z118x60x17) i118x60x7x3a rfl
                      refine g_lload_n 27 (gd rfl) rfl rfl ?_
                      refine g_lconst 0 28 (gd rfl) rfl rfl ?_
                      refine g_lcmp 29 (gd rfl) rfl (fun z118x60x28 e118x60x28 => ?_)
                      have i118x60x28 := lc_in e118x60x28
                      refine g_if_le 32 36 (gd rfl) rfl rfl (fun c118x60x29 => ?_) (fun c118x60x29 => ?_)
                      · skip
                        have i118x60x29 := z_le (-1) 0 c118x60x29 i118x60x28 rfl
                        have c118x60x29a := lc_le e118x60x28 c118x60x29
                        have i118x60x29a := lr_le1 0 0 c118x60x29a i118x60x14x3a (l_c 0 rfl) rfl
                        refine g_iconst 0 37 (gd rfl) rfl rfl ?_
                        refine g_lload_n 38 (gd rfl) rfl rfl ?_
                        refine g_lconst 0 39 (gd rfl) rfl rfl ?_
                        refine g_lcmp 40 (gd rfl) rfl (fun z118x60x39 e118x60x39 => ?_)
                        have i118x60x39 := lc_in e118x60x39
                        refine g_if_le 43 47 (gd rfl) rfl rfl (fun c118x60x40 => ?_) (fun c118x60x40 => ?_)
                        · skip
                          have i118x60x40 := z_le (-1) 0 c118x60x40 i118x60x39 rfl
                          have c118x60x40a := lc_le e118x60x39 c118x60x40
                          have i118x60x40a := lr_le1 0 0 c118x60x40a i118x60x7x3a (l_c 0 rfl) rfl
                          refine g_iconst 0 48 (gd rfl) rfl rfl ?_
                          refine g_cmp_ne 51 57 (gd rfl) rfl rfl (fun c118x60x48 => ?_) (fun c118x60x48 => ?_)
                          · skip
                            exact n_ne c118x60x48 (in_c 0 rfl) (in_c 0 rfl) rfl
                          · skip
                            refine g_ldc2_w 1000000000000 54 (gd rfl) rfl rfl ?_
                            refine g_goto 60 (gd rfl) rfl ?_
                            refine g_lreturn (gd rfl) rfl (hp118x60 _ _ ?_)
                            show GG _ _ _ _ _ _ _ _ [.long (Int64.ofInt 1000000000000)] _ _ _
                            refine g_lreturn (gd rfl) rfl (hp118 _ _ ?_)
                            show GG _ _ _ _ _ _ _ _ [.long (Int64.ofInt 1000000000000), .int z98, .ref (A 105)] _ _ _
                            have i121 : In z98 0 119 := by (first | have a0 := oa6 i8a h1 i8 j5_3 i24 i117 | ((first | have a0 := in_u i8a | (have a0 := i8a; unfold In at a0)); (first | have a1 := in_u h1 | (have a1 := h1; unfold In at a1)); (first | have a2 := in_u i8 | (have a2 := i8; unfold In at a2)); (first | have a3 := in_u j5_3 | (have a3 := j5_3; unfold In at a3)); (first | have a4 := in_u i24 | (have a4 := i24; unfold In at a4)); (first | have a5 := in_u i117 | (have a5 := i117; unfold In at a5)))); have a6 := t_add e89 j5_3 (in_c (-1) rfl) rfl; (first | have a7 := oa2 ((in_c (-1) rfl)) i111 | ((first | have a7 := in_u ((in_c (-1) rfl)) | (have a7 := (in_c (-1) rfl); unfold In at a7)); (first | have a8 := in_u i111 | (have a8 := i111; unfold In at a8)))); have a9 := t_sub e110 i89 (in_c 1 rfl) rfl; (first | have a10 := oa2 ((in_c 1 rfl)) i118x1 | ((first | have a10 := in_u ((in_c 1 rfl)) | (have a10 := (in_c 1 rfl); unfold In at a10)); (first | have a11 := in_u i118x1 | (have a11 := i118x1; unfold In at a11)))); have a12 := t_sub e103 i24 (in_c 1000100 rfl) rfl; (first | have a13 := oa2 ((in_c 1000100 rfl)) i98 | ((first | have a13 := in_u ((in_c 1000100 rfl)) | (have a13 := (in_c 1000100 rfl); unfold In at a13)); (first | have a14 := in_u i98 | (have a14 := i98; unfold In at a14)))); have a15 := t_sub e98 i89 (in_c 1 rfl) rfl; exact ⟨by omega, by omega⟩
                            refine g_lastore 122 (gd rfl) rfl (n := 120) rfl (in_ix i121 rfl) ?_
                            have hI121 := inv_sL (q := 105) (j := z98.toNatClampNeg) (x := (Int64.ofInt 1000000000000)) hIc5 rfl (l_rng (Int64.ofInt 1000000000000))
                            refine g_iinc 125 (gd rfl) rfl rfl (Nat.le_of_ble_eq_true rfl) (fun z122 e122 => ?_)
                            have i122 := in_add 1 120 e122 i8 (in_c 1 rfl) rfl rfl
                            refine g_goto 5 (gd rfl) rfl ?_
                            have n5 : (z89).toInt ≤ (z122).toInt := by (first | have a0 := oa6 i8a h1 i8 j5_3 i24 i122 | ((first | have a0 := in_u i8a | (have a0 := i8a; unfold In at a0)); (first | have a1 := in_u h1 | (have a1 := h1; unfold In at a1)); (first | have a2 := in_u i8 | (have a2 := i8; unfold In at a2)); (first | have a3 := in_u j5_3 | (have a3 := j5_3; unfold In at a3)); (first | have a4 := in_u i24 | (have a4 := i24; unfold In at a4)); (first | have a5 := in_u i122 | (have a5 := i122; unfold In at a5)))); have a6 := t_add e122 i8 (in_c 1 rfl) rfl; (first | have a7 := oa2 ((in_c 1 rfl)) i117 | ((first | have a7 := in_u ((in_c 1 rfl)) | (have a7 := (in_c 1 rfl); unfold In at a7)); (first | have a8 := in_u i117 | (have a8 := i117; unfold In at a8)))); have a9 := t_add e89 j5_3 (in_c (-1) rfl) rfl; (first | have a10 := oa2 ((in_c (-1) rfl)) i111 | ((first | have a10 := in_u ((in_c (-1) rfl)) | (have a10 := (in_c (-1) rfl); unfold In at a10)); (first | have a11 := in_u i111 | (have a11 := i111; unfold In at a11)))); have a12 := t_sub e110 i89 (in_c 1 rfl) rfl; (first | have a13 := in_u i118x1 | (have a13 := i118x1; unfold In at a13)); have a14 := t_sub e103 i24 (in_c 1000100 rfl) rfl; (first | have a15 := oa2 ((in_c 1000100 rfl)) i121 | ((first | have a15 := in_u ((in_c 1000100 rfl)) | (have a15 := (in_c 1000100 rfl); unfold In at a15)); (first | have a16 := in_u i121 | (have a16 := i121; unfold In at a16)))); have a17 := t_sub e98 i89 (in_c 1 rfl) rfl; omega
                            have n5a : CS (sL sc5 105 z98.toNatClampNeg (Int64.ofInt 1000000000000)) x1 z122 z89 := by first | exact hk2 _ _ (by (first | have a0 := oa6 i8a h1 i8 j5_3 i24 i122 | ((first | have a0 := in_u i8a | (have a0 := i8a; unfold In at a0)); (first | have a1 := in_u h1 | (have a1 := h1; unfold In at a1)); (first | have a2 := in_u i8 | (have a2 := i8; unfold In at a2)); (first | have a3 := in_u j5_3 | (have a3 := j5_3; unfold In at a3)); (first | have a4 := in_u i24 | (have a4 := i24; unfold In at a4)); (first | have a5 := in_u i122 | (have a5 := i122; unfold In at a5)))); have a6 := t_add e122 i8 (in_c 1 rfl) rfl; (first | have a7 := oa2 ((in_c 1 rfl)) i117 | ((first | have a7 := in_u ((in_c 1 rfl)) | (have a7 := (in_c 1 rfl); unfold In at a7)); (first | have a8 := in_u i117 | (have a8 := i117; unfold In at a8)))); have a9 := t_add e89 j5_3 (in_c (-1) rfl) rfl; (first | have a10 := oa2 ((in_c (-1) rfl)) i111 | ((first | have a10 := in_u ((in_c (-1) rfl)) | (have a10 := (in_c (-1) rfl); unfold In at a10)); (first | have a11 := in_u i111 | (have a11 := i111; unfold In at a11)))); have a12 := t_sub e110 i89 (in_c 1 rfl) rfl; (first | have a13 := in_u i118x1 | (have a13 := i118x1; unfold In at a13)); have a14 := t_sub e103 i24 (in_c 1000100 rfl) rfl; (first | have a15 := oa2 ((in_c 1000100 rfl)) i121 | ((first | have a15 := in_u ((in_c 1000100 rfl)) | (have a15 := (in_c 1000100 rfl); unfold In at a15)); (first | have a16 := in_u i121 | (have a16 := i121; unfold In at a16)))); have a17 := t_sub e98 i89 (in_c 1 rfl) rfl; omega) (by (first | have a0 := oa6 i8a h1 i8 j5_3 i24 i122 | ((first | have a0 := in_u i8a | (have a0 := i8a; unfold In at a0)); (first | have a1 := in_u h1 | (have a1 := h1; unfold In at a1)); (first | have a2 := in_u i8 | (have a2 := i8; unfold In at a2)); (first | have a3 := in_u j5_3 | (have a3 := j5_3; unfold In at a3)); (first | have a4 := in_u i24 | (have a4 := i24; unfold In at a4)); (first | have a5 := in_u i122 | (have a5 := i122; unfold In at a5)))); have a6 := t_add e122 i8 (in_c 1 rfl) rfl; (first | have a7 := oa2 ((in_c 1 rfl)) i117 | ((first | have a7 := in_u ((in_c 1 rfl)) | (have a7 := (in_c 1 rfl); unfold In at a7)); (first | have a8 := in_u i117 | (have a8 := i117; unfold In at a8)))); have a9 := t_add e89 j5_3 (in_c (-1) rfl) rfl; (first | have a10 := oa2 ((in_c (-1) rfl)) i111 | ((first | have a10 := in_u ((in_c (-1) rfl)) | (have a10 := (in_c (-1) rfl); unfold In at a10)); (first | have a11 := in_u i111 | (have a11 := i111; unfold In at a11)))); have a12 := t_sub e110 i89 (in_c 1 rfl) rfl; (first | have a13 := in_u i118x1 | (have a13 := i118x1; unfold In at a13)); have a14 := t_sub e103 i24 (in_c 1000100 rfl) rfl; (first | have a15 := oa2 ((in_c 1000100 rfl)) i121 | ((first | have a15 := in_u ((in_c 1000100 rfl)) | (have a15 := (in_c 1000100 rfl); unfold In at a15)); (first | have a16 := in_u i121 | (have a16 := i121; unfold In at a16)))); have a17 := t_sub e98 i89 (in_c 1 rfl) rfl; omega) | exact cs_0 rfl h1.1
                            exact gg_w (by first | exact Nat.le_add_right _ _ | exact gw2 | exact gw3 | exact gwe rfl | exact gwf rfl | exact gwg rfl | exact gwh rfl | omega) (gg_f (gf_cons rfl (gf_cons rfl (gf_cons rfl (gf_cons rfl (gf_cons rfl gf_nil))))) (ih5 (sL sc5 105 z98.toNatClampNeg (Int64.ofInt 1000000000000)) z89 z122 hI121 (fr_sL rfl hFc5) (in_w 0 120 i117 rfl) (in_w 0 120 i122 rfl) n5 n5a (m_up mm5 (t_add e122 i8 (in_c 1 rfl) rfl) (in_w 1 1 (in_c 1 rfl) rfl))))
                        · skip
                          have i118x60x40 := z_gt 1 1 c118x60x40 i118x60x39 rfl
                          have c118x60x40a := lc_gt e118x60x39 c118x60x40
                          have i118x60x40a := lr_lt2 1 9223372036854775807 c118x60x40a (l_c 0 rfl) i118x60x7x3a rfl
                          refine g_iconst 1 44 (gd rfl) rfl rfl ?_
                          refine g_goto 48 (gd rfl) rfl ?_
                          refine g_cmp_ne 51 57 (gd rfl) rfl rfl (fun c118x60x48 => ?_) (fun c118x60x48 => ?_)
                          · skip
                            refine g_ldc2_w (-1000000000000) 60 (gd rfl) rfl rfl ?_
                            refine g_lreturn (gd rfl) rfl (hp118x60 _ _ ?_)
                            show GG _ _ _ _ _ _ _ _ [.long (Int64.ofInt (-1000000000000))] _ _ _
                            refine g_lreturn (gd rfl) rfl (hp118 _ _ ?_)
                            show GG _ _ _ _ _ _ _ _ [.long (Int64.ofInt (-1000000000000)), .int z98, .ref (A 105)] _ _ _
                            have i121 : In z98 0 119 := by (first | have a0 := oa6 i8a h1 i8 j5_3 i24 i117 | ((first | have a0 := in_u i8a | (have a0 := i8a; unfold In at a0)); (first | have a1 := in_u h1 | (have a1 := h1; unfold In at a1)); (first | have a2 := in_u i8 | (have a2 := i8; unfold In at a2)); (first | have a3 := in_u j5_3 | (have a3 := j5_3; unfold In at a3)); (first | have a4 := in_u i24 | (have a4 := i24; unfold In at a4)); (first | have a5 := in_u i117 | (have a5 := i117; unfold In at a5)))); have a6 := t_add e89 j5_3 (in_c (-1) rfl) rfl; (first | have a7 := oa2 ((in_c (-1) rfl)) i111 | ((first | have a7 := in_u ((in_c (-1) rfl)) | (have a7 := (in_c (-1) rfl); unfold In at a7)); (first | have a8 := in_u i111 | (have a8 := i111; unfold In at a8)))); have a9 := t_sub e110 i89 (in_c 1 rfl) rfl; (first | have a10 := oa2 ((in_c 1 rfl)) i118x1 | ((first | have a10 := in_u ((in_c 1 rfl)) | (have a10 := (in_c 1 rfl); unfold In at a10)); (first | have a11 := in_u i118x1 | (have a11 := i118x1; unfold In at a11)))); have a12 := t_sub e103 i24 (in_c 1000100 rfl) rfl; (first | have a13 := oa2 ((in_c 1000100 rfl)) i98 | ((first | have a13 := in_u ((in_c 1000100 rfl)) | (have a13 := (in_c 1000100 rfl); unfold In at a13)); (first | have a14 := in_u i98 | (have a14 := i98; unfold In at a14)))); have a15 := t_sub e98 i89 (in_c 1 rfl) rfl; exact ⟨by omega, by omega⟩
                            refine g_lastore 122 (gd rfl) rfl (n := 120) rfl (in_ix i121 rfl) ?_
                            have hI121 := inv_sL (q := 105) (j := z98.toNatClampNeg) (x := (Int64.ofInt (-1000000000000))) hIc5 rfl (l_rng (Int64.ofInt (-1000000000000)))
                            refine g_iinc 125 (gd rfl) rfl rfl (Nat.le_of_ble_eq_true rfl) (fun z122 e122 => ?_)
                            have i122 := in_add 1 120 e122 i8 (in_c 1 rfl) rfl rfl
                            refine g_goto 5 (gd rfl) rfl ?_
                            have n5 : (z89).toInt ≤ (z122).toInt := by (first | have a0 := oa6 i8a h1 i8 j5_3 i24 i122 | ((first | have a0 := in_u i8a | (have a0 := i8a; unfold In at a0)); (first | have a1 := in_u h1 | (have a1 := h1; unfold In at a1)); (first | have a2 := in_u i8 | (have a2 := i8; unfold In at a2)); (first | have a3 := in_u j5_3 | (have a3 := j5_3; unfold In at a3)); (first | have a4 := in_u i24 | (have a4 := i24; unfold In at a4)); (first | have a5 := in_u i122 | (have a5 := i122; unfold In at a5)))); have a6 := t_add e122 i8 (in_c 1 rfl) rfl; (first | have a7 := oa2 ((in_c 1 rfl)) i117 | ((first | have a7 := in_u ((in_c 1 rfl)) | (have a7 := (in_c 1 rfl); unfold In at a7)); (first | have a8 := in_u i117 | (have a8 := i117; unfold In at a8)))); have a9 := t_add e89 j5_3 (in_c (-1) rfl) rfl; (first | have a10 := oa2 ((in_c (-1) rfl)) i111 | ((first | have a10 := in_u ((in_c (-1) rfl)) | (have a10 := (in_c (-1) rfl); unfold In at a10)); (first | have a11 := in_u i111 | (have a11 := i111; unfold In at a11)))); have a12 := t_sub e110 i89 (in_c 1 rfl) rfl; (first | have a13 := in_u i118x1 | (have a13 := i118x1; unfold In at a13)); have a14 := t_sub e103 i24 (in_c 1000100 rfl) rfl; (first | have a15 := oa2 ((in_c 1000100 rfl)) i121 | ((first | have a15 := in_u ((in_c 1000100 rfl)) | (have a15 := (in_c 1000100 rfl); unfold In at a15)); (first | have a16 := in_u i121 | (have a16 := i121; unfold In at a16)))); have a17 := t_sub e98 i89 (in_c 1 rfl) rfl; omega
                            have n5a : CS (sL sc5 105 z98.toNatClampNeg (Int64.ofInt (-1000000000000))) x1 z122 z89 := by first | exact hk2 _ _ (by (first | have a0 := oa6 i8a h1 i8 j5_3 i24 i122 | ((first | have a0 := in_u i8a | (have a0 := i8a; unfold In at a0)); (first | have a1 := in_u h1 | (have a1 := h1; unfold In at a1)); (first | have a2 := in_u i8 | (have a2 := i8; unfold In at a2)); (first | have a3 := in_u j5_3 | (have a3 := j5_3; unfold In at a3)); (first | have a4 := in_u i24 | (have a4 := i24; unfold In at a4)); (first | have a5 := in_u i122 | (have a5 := i122; unfold In at a5)))); have a6 := t_add e122 i8 (in_c 1 rfl) rfl; (first | have a7 := oa2 ((in_c 1 rfl)) i117 | ((first | have a7 := in_u ((in_c 1 rfl)) | (have a7 := (in_c 1 rfl); unfold In at a7)); (first | have a8 := in_u i117 | (have a8 := i117; unfold In at a8)))); have a9 := t_add e89 j5_3 (in_c (-1) rfl) rfl; (first | have a10 := oa2 ((in_c (-1) rfl)) i111 | ((first | have a10 := in_u ((in_c (-1) rfl)) | (have a10 := (in_c (-1) rfl); unfold In at a10)); (first | have a11 := in_u i111 | (have a11 := i111; unfold In at a11)))); have a12 := t_sub e110 i89 (in_c 1 rfl) rfl; (first | have a13 := in_u i118x1 | (have a13 := i118x1; unfold In at a13)); have a14 := t_sub e103 i24 (in_c 1000100 rfl) rfl; (first | have a15 := oa2 ((in_c 1000100 rfl)) i121 | ((first | have a15 := in_u ((in_c 1000100 rfl)) | (have a15 := (in_c 1000100 rfl); unfold In at a15)); (first | have a16 := in_u i121 | (have a16 := i121; unfold In at a16)))); have a17 := t_sub e98 i89 (in_c 1 rfl) rfl; omega) (by (first | have a0 := oa6 i8a h1 i8 j5_3 i24 i122 | ((first | have a0 := in_u i8a | (have a0 := i8a; unfold In at a0)); (first | have a1 := in_u h1 | (have a1 := h1; unfold In at a1)); (first | have a2 := in_u i8 | (have a2 := i8; unfold In at a2)); (first | have a3 := in_u j5_3 | (have a3 := j5_3; unfold In at a3)); (first | have a4 := in_u i24 | (have a4 := i24; unfold In at a4)); (first | have a5 := in_u i122 | (have a5 := i122; unfold In at a5)))); have a6 := t_add e122 i8 (in_c 1 rfl) rfl; (first | have a7 := oa2 ((in_c 1 rfl)) i117 | ((first | have a7 := in_u ((in_c 1 rfl)) | (have a7 := (in_c 1 rfl); unfold In at a7)); (first | have a8 := in_u i117 | (have a8 := i117; unfold In at a8)))); have a9 := t_add e89 j5_3 (in_c (-1) rfl) rfl; (first | have a10 := oa2 ((in_c (-1) rfl)) i111 | ((first | have a10 := in_u ((in_c (-1) rfl)) | (have a10 := (in_c (-1) rfl); unfold In at a10)); (first | have a11 := in_u i111 | (have a11 := i111; unfold In at a11)))); have a12 := t_sub e110 i89 (in_c 1 rfl) rfl; (first | have a13 := in_u i118x1 | (have a13 := i118x1; unfold In at a13)); have a14 := t_sub e103 i24 (in_c 1000100 rfl) rfl; (first | have a15 := oa2 ((in_c 1000100 rfl)) i121 | ((first | have a15 := in_u ((in_c 1000100 rfl)) | (have a15 := (in_c 1000100 rfl); unfold In at a15)); (first | have a16 := in_u i121 | (have a16 := i121; unfold In at a16)))); have a17 := t_sub e98 i89 (in_c 1 rfl) rfl; omega) | exact cs_0 rfl h1.1
                            exact gg_w (by first | exact Nat.le_add_right _ _ | exact gw2 | exact gw3 | exact gwe rfl | exact gwf rfl | exact gwg rfl | exact gwh rfl | omega) (gg_f (gf_cons rfl (gf_cons rfl (gf_cons rfl (gf_cons rfl (gf_cons rfl gf_nil))))) (ih5 (sL sc5 105 z98.toNatClampNeg (Int64.ofInt (-1000000000000))) z89 z122 hI121 (fr_sL rfl hFc5) (in_w 0 120 i117 rfl) (in_w 0 120 i122 rfl) n5 n5a (m_up mm5 (t_add e122 i8 (in_c 1 rfl) rfl) (in_w 1 1 (in_c 1 rfl) rfl))))
                          · skip
                            exact n_eq c118x60x48 (in_c 0 rfl) (in_c 1 rfl) rfl
                      · skip
                        have i118x60x29 := z_gt 1 1 c118x60x29 i118x60x28 rfl
                        have c118x60x29a := lc_gt e118x60x28 c118x60x29
                        have i118x60x29a := lr_lt2 1 9223372036854775807 c118x60x29a (l_c 0 rfl) i118x60x14x3a rfl
                        refine g_iconst 1 33 (gd rfl) rfl rfl ?_
                        refine g_goto 37 (gd rfl) rfl ?_
                        refine g_lload_n 38 (gd rfl) rfl rfl ?_
                        refine g_lconst 0 39 (gd rfl) rfl rfl ?_
                        refine g_lcmp 40 (gd rfl) rfl (fun z118x60x39 e118x60x39 => ?_)
                        have i118x60x39 := lc_in e118x60x39
                        refine g_if_le 43 47 (gd rfl) rfl rfl (fun c118x60x40 => ?_) (fun c118x60x40 => ?_)
                        · skip
                          have i118x60x40 := z_le (-1) 0 c118x60x40 i118x60x39 rfl
                          have c118x60x40a := lc_le e118x60x39 c118x60x40
                          have i118x60x40a := lr_le1 0 0 c118x60x40a i118x60x7x3a (l_c 0 rfl) rfl
                          refine g_iconst 0 48 (gd rfl) rfl rfl ?_
                          refine g_cmp_ne 51 57 (gd rfl) rfl rfl (fun c118x60x48 => ?_) (fun c118x60x48 => ?_)
                          · skip
                            refine g_ldc2_w (-1000000000000) 60 (gd rfl) rfl rfl ?_
                            refine g_lreturn (gd rfl) rfl (hp118x60 _ _ ?_)
                            show GG _ _ _ _ _ _ _ _ [.long (Int64.ofInt (-1000000000000))] _ _ _
                            refine g_lreturn (gd rfl) rfl (hp118 _ _ ?_)
                            show GG _ _ _ _ _ _ _ _ [.long (Int64.ofInt (-1000000000000)), .int z98, .ref (A 105)] _ _ _
                            have i121 : In z98 0 119 := by (first | have a0 := oa6 i8a h1 i8 j5_3 i24 i117 | ((first | have a0 := in_u i8a | (have a0 := i8a; unfold In at a0)); (first | have a1 := in_u h1 | (have a1 := h1; unfold In at a1)); (first | have a2 := in_u i8 | (have a2 := i8; unfold In at a2)); (first | have a3 := in_u j5_3 | (have a3 := j5_3; unfold In at a3)); (first | have a4 := in_u i24 | (have a4 := i24; unfold In at a4)); (first | have a5 := in_u i117 | (have a5 := i117; unfold In at a5)))); have a6 := t_add e89 j5_3 (in_c (-1) rfl) rfl; (first | have a7 := oa2 ((in_c (-1) rfl)) i111 | ((first | have a7 := in_u ((in_c (-1) rfl)) | (have a7 := (in_c (-1) rfl); unfold In at a7)); (first | have a8 := in_u i111 | (have a8 := i111; unfold In at a8)))); have a9 := t_sub e110 i89 (in_c 1 rfl) rfl; (first | have a10 := oa2 ((in_c 1 rfl)) i118x1 | ((first | have a10 := in_u ((in_c 1 rfl)) | (have a10 := (in_c 1 rfl); unfold In at a10)); (first | have a11 := in_u i118x1 | (have a11 := i118x1; unfold In at a11)))); have a12 := t_sub e103 i24 (in_c 1000100 rfl) rfl; (first | have a13 := oa2 ((in_c 1000100 rfl)) i98 | ((first | have a13 := in_u ((in_c 1000100 rfl)) | (have a13 := (in_c 1000100 rfl); unfold In at a13)); (first | have a14 := in_u i98 | (have a14 := i98; unfold In at a14)))); have a15 := t_sub e98 i89 (in_c 1 rfl) rfl; exact ⟨by omega, by omega⟩
                            refine g_lastore 122 (gd rfl) rfl (n := 120) rfl (in_ix i121 rfl) ?_
                            have hI121 := inv_sL (q := 105) (j := z98.toNatClampNeg) (x := (Int64.ofInt (-1000000000000))) hIc5 rfl (l_rng (Int64.ofInt (-1000000000000)))
                            refine g_iinc 125 (gd rfl) rfl rfl (Nat.le_of_ble_eq_true rfl) (fun z122 e122 => ?_)
                            have i122 := in_add 1 120 e122 i8 (in_c 1 rfl) rfl rfl
                            refine g_goto 5 (gd rfl) rfl ?_
                            have n5 : (z89).toInt ≤ (z122).toInt := by (first | have a0 := oa6 i8a h1 i8 j5_3 i24 i122 | ((first | have a0 := in_u i8a | (have a0 := i8a; unfold In at a0)); (first | have a1 := in_u h1 | (have a1 := h1; unfold In at a1)); (first | have a2 := in_u i8 | (have a2 := i8; unfold In at a2)); (first | have a3 := in_u j5_3 | (have a3 := j5_3; unfold In at a3)); (first | have a4 := in_u i24 | (have a4 := i24; unfold In at a4)); (first | have a5 := in_u i122 | (have a5 := i122; unfold In at a5)))); have a6 := t_add e122 i8 (in_c 1 rfl) rfl; (first | have a7 := oa2 ((in_c 1 rfl)) i117 | ((first | have a7 := in_u ((in_c 1 rfl)) | (have a7 := (in_c 1 rfl); unfold In at a7)); (first | have a8 := in_u i117 | (have a8 := i117; unfold In at a8)))); have a9 := t_add e89 j5_3 (in_c (-1) rfl) rfl; (first | have a10 := oa2 ((in_c (-1) rfl)) i111 | ((first | have a10 := in_u ((in_c (-1) rfl)) | (have a10 := (in_c (-1) rfl); unfold In at a10)); (first | have a11 := in_u i111 | (have a11 := i111; unfold In at a11)))); have a12 := t_sub e110 i89 (in_c 1 rfl) rfl; (first | have a13 := in_u i118x1 | (have a13 := i118x1; unfold In at a13)); have a14 := t_sub e103 i24 (in_c 1000100 rfl) rfl; (first | have a15 := oa2 ((in_c 1000100 rfl)) i121 | ((first | have a15 := in_u ((in_c 1000100 rfl)) | (have a15 := (in_c 1000100 rfl); unfold In at a15)); (first | have a16 := in_u i121 | (have a16 := i121; unfold In at a16)))); have a17 := t_sub e98 i89 (in_c 1 rfl) rfl; omega
                            have n5a : CS (sL sc5 105 z98.toNatClampNeg (Int64.ofInt (-1000000000000))) x1 z122 z89 := by first | exact hk2 _ _ (by (first | have a0 := oa6 i8a h1 i8 j5_3 i24 i122 | ((first | have a0 := in_u i8a | (have a0 := i8a; unfold In at a0)); (first | have a1 := in_u h1 | (have a1 := h1; unfold In at a1)); (first | have a2 := in_u i8 | (have a2 := i8; unfold In at a2)); (first | have a3 := in_u j5_3 | (have a3 := j5_3; unfold In at a3)); (first | have a4 := in_u i24 | (have a4 := i24; unfold In at a4)); (first | have a5 := in_u i122 | (have a5 := i122; unfold In at a5)))); have a6 := t_add e122 i8 (in_c 1 rfl) rfl; (first | have a7 := oa2 ((in_c 1 rfl)) i117 | ((first | have a7 := in_u ((in_c 1 rfl)) | (have a7 := (in_c 1 rfl); unfold In at a7)); (first | have a8 := in_u i117 | (have a8 := i117; unfold In at a8)))); have a9 := t_add e89 j5_3 (in_c (-1) rfl) rfl; (first | have a10 := oa2 ((in_c (-1) rfl)) i111 | ((first | have a10 := in_u ((in_c (-1) rfl)) | (have a10 := (in_c (-1) rfl); unfold In at a10)); (first | have a11 := in_u i111 | (have a11 := i111; unfold In at a11)))); have a12 := t_sub e110 i89 (in_c 1 rfl) rfl; (first | have a13 := in_u i118x1 | (have a13 := i118x1; unfold In at a13)); have a14 := t_sub e103 i24 (in_c 1000100 rfl) rfl; (first | have a15 := oa2 ((in_c 1000100 rfl)) i121 | ((first | have a15 := in_u ((in_c 1000100 rfl)) | (have a15 := (in_c 1000100 rfl); unfold In at a15)); (first | have a16 := in_u i121 | (have a16 := i121; unfold In at a16)))); have a17 := t_sub e98 i89 (in_c 1 rfl) rfl; omega) (by (first | have a0 := oa6 i8a h1 i8 j5_3 i24 i122 | ((first | have a0 := in_u i8a | (have a0 := i8a; unfold In at a0)); (first | have a1 := in_u h1 | (have a1 := h1; unfold In at a1)); (first | have a2 := in_u i8 | (have a2 := i8; unfold In at a2)); (first | have a3 := in_u j5_3 | (have a3 := j5_3; unfold In at a3)); (first | have a4 := in_u i24 | (have a4 := i24; unfold In at a4)); (first | have a5 := in_u i122 | (have a5 := i122; unfold In at a5)))); have a6 := t_add e122 i8 (in_c 1 rfl) rfl; (first | have a7 := oa2 ((in_c 1 rfl)) i117 | ((first | have a7 := in_u ((in_c 1 rfl)) | (have a7 := (in_c 1 rfl); unfold In at a7)); (first | have a8 := in_u i117 | (have a8 := i117; unfold In at a8)))); have a9 := t_add e89 j5_3 (in_c (-1) rfl) rfl; (first | have a10 := oa2 ((in_c (-1) rfl)) i111 | ((first | have a10 := in_u ((in_c (-1) rfl)) | (have a10 := (in_c (-1) rfl); unfold In at a10)); (first | have a11 := in_u i111 | (have a11 := i111; unfold In at a11)))); have a12 := t_sub e110 i89 (in_c 1 rfl) rfl; (first | have a13 := in_u i118x1 | (have a13 := i118x1; unfold In at a13)); have a14 := t_sub e103 i24 (in_c 1000100 rfl) rfl; (first | have a15 := oa2 ((in_c 1000100 rfl)) i121 | ((first | have a15 := in_u ((in_c 1000100 rfl)) | (have a15 := (in_c 1000100 rfl); unfold In at a15)); (first | have a16 := in_u i121 | (have a16 := i121; unfold In at a16)))); have a17 := t_sub e98 i89 (in_c 1 rfl) rfl; omega) | exact cs_0 rfl h1.1
                            exact gg_w (by first | exact Nat.le_add_right _ _ | exact gw2 | exact gw3 | exact gwe rfl | exact gwf rfl | exact gwg rfl | exact gwh rfl | omega) (gg_f (gf_cons rfl (gf_cons rfl (gf_cons rfl (gf_cons rfl (gf_cons rfl gf_nil))))) (ih5 (sL sc5 105 z98.toNatClampNeg (Int64.ofInt (-1000000000000))) z89 z122 hI121 (fr_sL rfl hFc5) (in_w 0 120 i117 rfl) (in_w 0 120 i122 rfl) n5 n5a (m_up mm5 (t_add e122 i8 (in_c 1 rfl) rfl) (in_w 1 1 (in_c 1 rfl) rfl))))
                          · skip
                            exact n_eq c118x60x48 (in_c 1 rfl) (in_c 0 rfl) rfl
                        · skip
                          have i118x60x40 := z_gt 1 1 c118x60x40 i118x60x39 rfl
                          have c118x60x40a := lc_gt e118x60x39 c118x60x40
                          have i118x60x40a := lr_lt2 1 9223372036854775807 c118x60x40a (l_c 0 rfl) i118x60x7x3a rfl
                          refine g_iconst 1 44 (gd rfl) rfl rfl ?_
                          refine g_goto 48 (gd rfl) rfl ?_
                          refine g_cmp_ne 51 57 (gd rfl) rfl rfl (fun c118x60x48 => ?_) (fun c118x60x48 => ?_)
                          · skip
                            exact n_ne c118x60x48 (in_c 1 rfl) (in_c 1 rfl) rfl
                          · skip
                            refine g_ldc2_w 1000000000000 54 (gd rfl) rfl rfl ?_
                            refine g_goto 60 (gd rfl) rfl ?_
                            refine g_lreturn (gd rfl) rfl (hp118x60 _ _ ?_)
                            show GG _ _ _ _ _ _ _ _ [.long (Int64.ofInt 1000000000000)] _ _ _
                            refine g_lreturn (gd rfl) rfl (hp118 _ _ ?_)
                            show GG _ _ _ _ _ _ _ _ [.long (Int64.ofInt 1000000000000), .int z98, .ref (A 105)] _ _ _
                            have i121 : In z98 0 119 := by (first | have a0 := oa6 i8a h1 i8 j5_3 i24 i117 | ((first | have a0 := in_u i8a | (have a0 := i8a; unfold In at a0)); (first | have a1 := in_u h1 | (have a1 := h1; unfold In at a1)); (first | have a2 := in_u i8 | (have a2 := i8; unfold In at a2)); (first | have a3 := in_u j5_3 | (have a3 := j5_3; unfold In at a3)); (first | have a4 := in_u i24 | (have a4 := i24; unfold In at a4)); (first | have a5 := in_u i117 | (have a5 := i117; unfold In at a5)))); have a6 := t_add e89 j5_3 (in_c (-1) rfl) rfl; (first | have a7 := oa2 ((in_c (-1) rfl)) i111 | ((first | have a7 := in_u ((in_c (-1) rfl)) | (have a7 := (in_c (-1) rfl); unfold In at a7)); (first | have a8 := in_u i111 | (have a8 := i111; unfold In at a8)))); have a9 := t_sub e110 i89 (in_c 1 rfl) rfl; (first | have a10 := oa2 ((in_c 1 rfl)) i118x1 | ((first | have a10 := in_u ((in_c 1 rfl)) | (have a10 := (in_c 1 rfl); unfold In at a10)); (first | have a11 := in_u i118x1 | (have a11 := i118x1; unfold In at a11)))); have a12 := t_sub e103 i24 (in_c 1000100 rfl) rfl; (first | have a13 := oa2 ((in_c 1000100 rfl)) i98 | ((first | have a13 := in_u ((in_c 1000100 rfl)) | (have a13 := (in_c 1000100 rfl); unfold In at a13)); (first | have a14 := in_u i98 | (have a14 := i98; unfold In at a14)))); have a15 := t_sub e98 i89 (in_c 1 rfl) rfl; exact ⟨by omega, by omega⟩
                            refine g_lastore 122 (gd rfl) rfl (n := 120) rfl (in_ix i121 rfl) ?_
                            have hI121 := inv_sL (q := 105) (j := z98.toNatClampNeg) (x := (Int64.ofInt 1000000000000)) hIc5 rfl (l_rng (Int64.ofInt 1000000000000))
                            refine g_iinc 125 (gd rfl) rfl rfl (Nat.le_of_ble_eq_true rfl) (fun z122 e122 => ?_)
                            have i122 := in_add 1 120 e122 i8 (in_c 1 rfl) rfl rfl
                            refine g_goto 5 (gd rfl) rfl ?_
                            have n5 : (z89).toInt ≤ (z122).toInt := by (first | have a0 := oa6 i8a h1 i8 j5_3 i24 i122 | ((first | have a0 := in_u i8a | (have a0 := i8a; unfold In at a0)); (first | have a1 := in_u h1 | (have a1 := h1; unfold In at a1)); (first | have a2 := in_u i8 | (have a2 := i8; unfold In at a2)); (first | have a3 := in_u j5_3 | (have a3 := j5_3; unfold In at a3)); (first | have a4 := in_u i24 | (have a4 := i24; unfold In at a4)); (first | have a5 := in_u i122 | (have a5 := i122; unfold In at a5)))); have a6 := t_add e122 i8 (in_c 1 rfl) rfl; (first | have a7 := oa2 ((in_c 1 rfl)) i117 | ((first | have a7 := in_u ((in_c 1 rfl)) | (have a7 := (in_c 1 rfl); unfold In at a7)); (first | have a8 := in_u i117 | (have a8 := i117; unfold In at a8)))); have a9 := t_add e89 j5_3 (in_c (-1) rfl) rfl; (first | have a10 := oa2 ((in_c (-1) rfl)) i111 | ((first | have a10 := in_u ((in_c (-1) rfl)) | (have a10 := (in_c (-1) rfl); unfold In at a10)); (first | have a11 := in_u i111 | (have a11 := i111; unfold In at a11)))); have a12 := t_sub e110 i89 (in_c 1 rfl) rfl; (first | have a13 := in_u i118x1 | (have a13 := i118x1; unfold In at a13)); have a14 := t_sub e103 i24 (in_c 1000100 rfl) rfl; (first | have a15 := oa2 ((in_c 1000100 rfl)) i121 | ((first | have a15 := in_u ((in_c 1000100 rfl)) | (have a15 := (in_c 1000100 rfl); unfold In at a15)); (first | have a16 := in_u i121 | (have a16 := i121; unfold In at a16)))); have a17 := t_sub e98 i89 (in_c 1 rfl) rfl; omega
                            have n5a : CS (sL sc5 105 z98.toNatClampNeg (Int64.ofInt 1000000000000)) x1 z122 z89 := by first | exact hk2 _ _ (by (first | have a0 := oa6 i8a h1 i8 j5_3 i24 i122 | ((first | have a0 := in_u i8a | (have a0 := i8a; unfold In at a0)); (first | have a1 := in_u h1 | (have a1 := h1; unfold In at a1)); (first | have a2 := in_u i8 | (have a2 := i8; unfold In at a2)); (first | have a3 := in_u j5_3 | (have a3 := j5_3; unfold In at a3)); (first | have a4 := in_u i24 | (have a4 := i24; unfold In at a4)); (first | have a5 := in_u i122 | (have a5 := i122; unfold In at a5)))); have a6 := t_add e122 i8 (in_c 1 rfl) rfl; (first | have a7 := oa2 ((in_c 1 rfl)) i117 | ((first | have a7 := in_u ((in_c 1 rfl)) | (have a7 := (in_c 1 rfl); unfold In at a7)); (first | have a8 := in_u i117 | (have a8 := i117; unfold In at a8)))); have a9 := t_add e89 j5_3 (in_c (-1) rfl) rfl; (first | have a10 := oa2 ((in_c (-1) rfl)) i111 | ((first | have a10 := in_u ((in_c (-1) rfl)) | (have a10 := (in_c (-1) rfl); unfold In at a10)); (first | have a11 := in_u i111 | (have a11 := i111; unfold In at a11)))); have a12 := t_sub e110 i89 (in_c 1 rfl) rfl; (first | have a13 := in_u i118x1 | (have a13 := i118x1; unfold In at a13)); have a14 := t_sub e103 i24 (in_c 1000100 rfl) rfl; (first | have a15 := oa2 ((in_c 1000100 rfl)) i121 | ((first | have a15 := in_u ((in_c 1000100 rfl)) | (have a15 := (in_c 1000100 rfl); unfold In at a15)); (first | have a16 := in_u i121 | (have a16 := i121; unfold In at a16)))); have a17 := t_sub e98 i89 (in_c 1 rfl) rfl; omega) (by (first | have a0 := oa6 i8a h1 i8 j5_3 i24 i122 | ((first | have a0 := in_u i8a | (have a0 := i8a; unfold In at a0)); (first | have a1 := in_u h1 | (have a1 := h1; unfold In at a1)); (first | have a2 := in_u i8 | (have a2 := i8; unfold In at a2)); (first | have a3 := in_u j5_3 | (have a3 := j5_3; unfold In at a3)); (first | have a4 := in_u i24 | (have a4 := i24; unfold In at a4)); (first | have a5 := in_u i122 | (have a5 := i122; unfold In at a5)))); have a6 := t_add e122 i8 (in_c 1 rfl) rfl; (first | have a7 := oa2 ((in_c 1 rfl)) i117 | ((first | have a7 := in_u ((in_c 1 rfl)) | (have a7 := (in_c 1 rfl); unfold In at a7)); (first | have a8 := in_u i117 | (have a8 := i117; unfold In at a8)))); have a9 := t_add e89 j5_3 (in_c (-1) rfl) rfl; (first | have a10 := oa2 ((in_c (-1) rfl)) i111 | ((first | have a10 := in_u ((in_c (-1) rfl)) | (have a10 := (in_c (-1) rfl); unfold In at a10)); (first | have a11 := in_u i111 | (have a11 := i111; unfold In at a11)))); have a12 := t_sub e110 i89 (in_c 1 rfl) rfl; (first | have a13 := in_u i118x1 | (have a13 := i118x1; unfold In at a13)); have a14 := t_sub e103 i24 (in_c 1000100 rfl) rfl; (first | have a15 := oa2 ((in_c 1000100 rfl)) i121 | ((first | have a15 := in_u ((in_c 1000100 rfl)) | (have a15 := (in_c 1000100 rfl); unfold In at a15)); (first | have a16 := in_u i121 | (have a16 := i121; unfold In at a16)))); have a17 := t_sub e98 i89 (in_c 1 rfl) rfl; omega) | exact cs_0 rfl h1.1
                            exact gg_w (by first | exact Nat.le_add_right _ _ | exact gw2 | exact gw3 | exact gwe rfl | exact gwf rfl | exact gwg rfl | exact gwh rfl | omega) (gg_f (gf_cons rfl (gf_cons rfl (gf_cons rfl (gf_cons rfl (gf_cons rfl gf_nil))))) (ih5 (sL sc5 105 z98.toNatClampNeg (Int64.ofInt 1000000000000)) z89 z122 hI121 (fr_sL rfl hFc5) (in_w 0 120 i117 rfl) (in_w 0 120 i122 rfl) n5 n5a (m_up mm5 (t_add e122 i8 (in_c 1 rfl) rfl) (in_w 1 1 (in_c 1 rfl) rfl))))
                    · skip
                      have i118x60x19 := z_le (-1) 0 c118x60x19 i118x60x18 rfl
                      have c118x60x19a := lc_le e118x60x18 c118x60x19
                      have i118x60x19a := lr_le2 0 9223372036854775807 c118x60x19a i118x60x7x3a (l_rng z118x60x17) rfl
                      refine g_lload_n 23 (gd rfl) rfl rfl ?_
                      refine g_lload_n 24 (gd rfl) rfl rfl ?_
                      refine g_lmul 25 (gd rfl) rfl (fun z118x60x24 e118x60x24 => ?_)
                      refine g_lreturn (gd rfl) rfl (hp118x60 _ _ ?_)
                      show GG _ _ _ _ _ _ _ _ [.long z118x60x24] _ _ _
                      refine g_lreturn (gd rfl) rfl (hp118 _ _ ?_)
                      show GG _ _ _ _ _ _ _ _ [.long z118x60x24, .int z98, .ref (A 105)] _ _ _
                      have i121 : In z98 0 119 := by (first | have a0 := oa6 i8a h1 i8 j5_3 i24 i117 | ((first | have a0 := in_u i8a | (have a0 := i8a; unfold In at a0)); (first | have a1 := in_u h1 | (have a1 := h1; unfold In at a1)); (first | have a2 := in_u i8 | (have a2 := i8; unfold In at a2)); (first | have a3 := in_u j5_3 | (have a3 := j5_3; unfold In at a3)); (first | have a4 := in_u i24 | (have a4 := i24; unfold In at a4)); (first | have a5 := in_u i117 | (have a5 := i117; unfold In at a5)))); have a6 := t_add e89 j5_3 (in_c (-1) rfl) rfl; (first | have a7 := oa2 ((in_c (-1) rfl)) i111 | ((first | have a7 := in_u ((in_c (-1) rfl)) | (have a7 := (in_c (-1) rfl); unfold In at a7)); (first | have a8 := in_u i111 | (have a8 := i111; unfold In at a8)))); have a9 := t_sub e110 i89 (in_c 1 rfl) rfl; (first | have a10 := oa2 ((in_c 1 rfl)) i118x1 | ((first | have a10 := in_u ((in_c 1 rfl)) | (have a10 := (in_c 1 rfl); unfold In at a10)); (first | have a11 := in_u i118x1 | (have a11 := i118x1; unfold In at a11)))); have a12 := t_sub e103 i24 (in_c 1000100 rfl) rfl; (first | have a13 := oa2 ((in_c 1000100 rfl)) i98 | ((first | have a13 := in_u ((in_c 1000100 rfl)) | (have a13 := (in_c 1000100 rfl); unfold In at a13)); (first | have a14 := in_u i98 | (have a14 := i98; unfold In at a14)))); have a15 := t_sub e98 i89 (in_c 1 rfl) rfl; exact ⟨by omega, by omega⟩
                      refine g_lastore 122 (gd rfl) rfl (n := 120) rfl (in_ix i121 rfl) ?_
                      have hI121 := inv_sL (q := 105) (j := z98.toNatClampNeg) (x := z118x60x24) hIc5 rfl (l_rng z118x60x24)
                      refine g_iinc 125 (gd rfl) rfl rfl (Nat.le_of_ble_eq_true rfl) (fun z122 e122 => ?_)
                      have i122 := in_add 1 120 e122 i8 (in_c 1 rfl) rfl rfl
                      refine g_goto 5 (gd rfl) rfl ?_
                      have n5 : (z89).toInt ≤ (z122).toInt := by (first | have a0 := oa6 i8a h1 i8 j5_3 i24 i122 | ((first | have a0 := in_u i8a | (have a0 := i8a; unfold In at a0)); (first | have a1 := in_u h1 | (have a1 := h1; unfold In at a1)); (first | have a2 := in_u i8 | (have a2 := i8; unfold In at a2)); (first | have a3 := in_u j5_3 | (have a3 := j5_3; unfold In at a3)); (first | have a4 := in_u i24 | (have a4 := i24; unfold In at a4)); (first | have a5 := in_u i122 | (have a5 := i122; unfold In at a5)))); have a6 := t_add e122 i8 (in_c 1 rfl) rfl; (first | have a7 := oa2 ((in_c 1 rfl)) i117 | ((first | have a7 := in_u ((in_c 1 rfl)) | (have a7 := (in_c 1 rfl); unfold In at a7)); (first | have a8 := in_u i117 | (have a8 := i117; unfold In at a8)))); have a9 := t_add e89 j5_3 (in_c (-1) rfl) rfl; (first | have a10 := oa2 ((in_c (-1) rfl)) i111 | ((first | have a10 := in_u ((in_c (-1) rfl)) | (have a10 := (in_c (-1) rfl); unfold In at a10)); (first | have a11 := in_u i111 | (have a11 := i111; unfold In at a11)))); have a12 := t_sub e110 i89 (in_c 1 rfl) rfl; (first | have a13 := in_u i118x1 | (have a13 := i118x1; unfold In at a13)); have a14 := t_sub e103 i24 (in_c 1000100 rfl) rfl; (first | have a15 := oa2 ((in_c 1000100 rfl)) i121 | ((first | have a15 := in_u ((in_c 1000100 rfl)) | (have a15 := (in_c 1000100 rfl); unfold In at a15)); (first | have a16 := in_u i121 | (have a16 := i121; unfold In at a16)))); have a17 := t_sub e98 i89 (in_c 1 rfl) rfl; omega
                      have n5a : CS (sL sc5 105 z98.toNatClampNeg z118x60x24) x1 z122 z89 := by first | exact hk2 _ _ (by (first | have a0 := oa6 i8a h1 i8 j5_3 i24 i122 | ((first | have a0 := in_u i8a | (have a0 := i8a; unfold In at a0)); (first | have a1 := in_u h1 | (have a1 := h1; unfold In at a1)); (first | have a2 := in_u i8 | (have a2 := i8; unfold In at a2)); (first | have a3 := in_u j5_3 | (have a3 := j5_3; unfold In at a3)); (first | have a4 := in_u i24 | (have a4 := i24; unfold In at a4)); (first | have a5 := in_u i122 | (have a5 := i122; unfold In at a5)))); have a6 := t_add e122 i8 (in_c 1 rfl) rfl; (first | have a7 := oa2 ((in_c 1 rfl)) i117 | ((first | have a7 := in_u ((in_c 1 rfl)) | (have a7 := (in_c 1 rfl); unfold In at a7)); (first | have a8 := in_u i117 | (have a8 := i117; unfold In at a8)))); have a9 := t_add e89 j5_3 (in_c (-1) rfl) rfl; (first | have a10 := oa2 ((in_c (-1) rfl)) i111 | ((first | have a10 := in_u ((in_c (-1) rfl)) | (have a10 := (in_c (-1) rfl); unfold In at a10)); (first | have a11 := in_u i111 | (have a11 := i111; unfold In at a11)))); have a12 := t_sub e110 i89 (in_c 1 rfl) rfl; (first | have a13 := in_u i118x1 | (have a13 := i118x1; unfold In at a13)); have a14 := t_sub e103 i24 (in_c 1000100 rfl) rfl; (first | have a15 := oa2 ((in_c 1000100 rfl)) i121 | ((first | have a15 := in_u ((in_c 1000100 rfl)) | (have a15 := (in_c 1000100 rfl); unfold In at a15)); (first | have a16 := in_u i121 | (have a16 := i121; unfold In at a16)))); have a17 := t_sub e98 i89 (in_c 1 rfl) rfl; omega) (by (first | have a0 := oa6 i8a h1 i8 j5_3 i24 i122 | ((first | have a0 := in_u i8a | (have a0 := i8a; unfold In at a0)); (first | have a1 := in_u h1 | (have a1 := h1; unfold In at a1)); (first | have a2 := in_u i8 | (have a2 := i8; unfold In at a2)); (first | have a3 := in_u j5_3 | (have a3 := j5_3; unfold In at a3)); (first | have a4 := in_u i24 | (have a4 := i24; unfold In at a4)); (first | have a5 := in_u i122 | (have a5 := i122; unfold In at a5)))); have a6 := t_add e122 i8 (in_c 1 rfl) rfl; (first | have a7 := oa2 ((in_c 1 rfl)) i117 | ((first | have a7 := in_u ((in_c 1 rfl)) | (have a7 := (in_c 1 rfl); unfold In at a7)); (first | have a8 := in_u i117 | (have a8 := i117; unfold In at a8)))); have a9 := t_add e89 j5_3 (in_c (-1) rfl) rfl; (first | have a10 := oa2 ((in_c (-1) rfl)) i111 | ((first | have a10 := in_u ((in_c (-1) rfl)) | (have a10 := (in_c (-1) rfl); unfold In at a10)); (first | have a11 := in_u i111 | (have a11 := i111; unfold In at a11)))); have a12 := t_sub e110 i89 (in_c 1 rfl) rfl; (first | have a13 := in_u i118x1 | (have a13 := i118x1; unfold In at a13)); have a14 := t_sub e103 i24 (in_c 1000100 rfl) rfl; (first | have a15 := oa2 ((in_c 1000100 rfl)) i121 | ((first | have a15 := in_u ((in_c 1000100 rfl)) | (have a15 := (in_c 1000100 rfl); unfold In at a15)); (first | have a16 := in_u i121 | (have a16 := i121; unfold In at a16)))); have a17 := t_sub e98 i89 (in_c 1 rfl) rfl; omega) | exact cs_0 rfl h1.1
                      exact gg_w (by first | exact Nat.le_add_right _ _ | exact gw2 | exact gw3 | exact gwe rfl | exact gwf rfl | exact gwg rfl | exact gwh rfl | omega) (gg_f (gf_cons rfl (gf_cons rfl (gf_cons rfl (gf_cons rfl (gf_cons rfl gf_nil))))) (ih5 (sL sc5 105 z98.toNatClampNeg z118x60x24) z89 z122 hI121 (fr_sL rfl hFc5) (in_w 0 120 i117 rfl) (in_w 0 120 i122 rfl) n5 n5a (m_up mm5 (t_add e122 i8 (in_c 1 rfl) rfl) (in_w 1 1 (in_c 1 rfl) rfl))))
                  · skip
                    have i118x60x14x3 := z_lt (-1) (-1) c118x60x14x3 i118x60x14x2 rfl
                    have c118x60x14x3a := lc_lt e118x60x14x2 c118x60x14x3
                    have i118x60x14x3a := lr_lt1 (-9223372036854775808) (-1) c118x60x14x3a (l_rng z111) (l_c 0 rfl) rfl
                    refine g_lload_n 7 (gd rfl) rfl rfl ?_
                    refine g_lneg 8 (gd rfl) rfl (fun z118x60x14x7 e118x60x14x7 => ?_)
                    refine g_goto 12 (gd rfl) rfl ?_
                    refine g_lreturn (gd rfl) rfl (hp118x60x14 _ _ ?_)
                    show GG _ _ _ _ _ _ _ _ [.long z118x60x14x7, .long (Int64.ofInt 1000000000000), .long z117] _ _ _
                    refine g_ldiv 18 (gd rfl) rfl (lnz (lneg_nz e118x60x14x7 (nz_l c118x60x3a))) (fun z118x60x17 e118x60x17 => ?_)
                    refine g_lcmp 19 (gd rfl) rfl (fun z118x60x18 e118x60x18 => ?_)
                    have i118x60x18 := lc_in e118x60x18
                    refine g_if_gt 22 26 (gd rfl) rfl rfl (fun c118x60x19 => ?_) (fun c118x60x19 => ?_)
                    · skip
                      have i118x60x19 := z_gt 1 1 c118x60x19 i118x60x18 rfl
                      have c118x60x19a := lc_gt e118x60x18 c118x60x19
                      have i118x60x19a := lr_lt1 (-9223372036854775808) 9223372036854775806 c118x60x19a (l_rng z118x60x17) i118x60x7x3a rfl
                      refine g_lload_n 27 (gd rfl) rfl rfl ?_
                      refine g_lconst 0 28 (gd rfl) rfl rfl ?_
                      refine g_lcmp 29 (gd rfl) rfl (fun z118x60x28 e118x60x28 => ?_)
                      have i118x60x28 := lc_in e118x60x28
                      refine g_if_le 32 36 (gd rfl) rfl rfl (fun c118x60x29 => ?_) (fun c118x60x29 => ?_)
                      · skip
                        have i118x60x29 := z_le (-1) 0 c118x60x29 i118x60x28 rfl
                        have c118x60x29a := lc_le e118x60x28 c118x60x29
                        refine g_iconst 0 37 (gd rfl) rfl rfl ?_
                        refine g_lload_n 38 (gd rfl) rfl rfl ?_
                        refine g_lconst 0 39 (gd rfl) rfl rfl ?_
                        refine g_lcmp 40 (gd rfl) rfl (fun z118x60x39 e118x60x39 => ?_)
                        have i118x60x39 := lc_in e118x60x39
                        refine g_if_le 43 47 (gd rfl) rfl rfl (fun c118x60x40 => ?_) (fun c118x60x40 => ?_)
                        · skip
                          have i118x60x40 := z_le (-1) 0 c118x60x40 i118x60x39 rfl
                          have c118x60x40a := lc_le e118x60x39 c118x60x40
                          have i118x60x40a := lr_le1 0 0 c118x60x40a i118x60x7x3a (l_c 0 rfl) rfl
                          refine g_iconst 0 48 (gd rfl) rfl rfl ?_
                          refine g_cmp_ne 51 57 (gd rfl) rfl rfl (fun c118x60x48 => ?_) (fun c118x60x48 => ?_)
                          · skip
                            exact n_ne c118x60x48 (in_c 0 rfl) (in_c 0 rfl) rfl
                          · skip
                            refine g_ldc2_w 1000000000000 54 (gd rfl) rfl rfl ?_
                            refine g_goto 60 (gd rfl) rfl ?_
                            refine g_lreturn (gd rfl) rfl (hp118x60 _ _ ?_)
                            show GG _ _ _ _ _ _ _ _ [.long (Int64.ofInt 1000000000000)] _ _ _
                            refine g_lreturn (gd rfl) rfl (hp118 _ _ ?_)
                            show GG _ _ _ _ _ _ _ _ [.long (Int64.ofInt 1000000000000), .int z98, .ref (A 105)] _ _ _
                            have i121 : In z98 0 119 := by (first | have a0 := oa6 i8a h1 i8 j5_3 i24 i117 | ((first | have a0 := in_u i8a | (have a0 := i8a; unfold In at a0)); (first | have a1 := in_u h1 | (have a1 := h1; unfold In at a1)); (first | have a2 := in_u i8 | (have a2 := i8; unfold In at a2)); (first | have a3 := in_u j5_3 | (have a3 := j5_3; unfold In at a3)); (first | have a4 := in_u i24 | (have a4 := i24; unfold In at a4)); (first | have a5 := in_u i117 | (have a5 := i117; unfold In at a5)))); have a6 := t_add e89 j5_3 (in_c (-1) rfl) rfl; (first | have a7 := oa2 ((in_c (-1) rfl)) i111 | ((first | have a7 := in_u ((in_c (-1) rfl)) | (have a7 := (in_c (-1) rfl); unfold In at a7)); (first | have a8 := in_u i111 | (have a8 := i111; unfold In at a8)))); have a9 := t_sub e110 i89 (in_c 1 rfl) rfl; (first | have a10 := oa2 ((in_c 1 rfl)) i118x1 | ((first | have a10 := in_u ((in_c 1 rfl)) | (have a10 := (in_c 1 rfl); unfold In at a10)); (first | have a11 := in_u i118x1 | (have a11 := i118x1; unfold In at a11)))); have a12 := t_sub e103 i24 (in_c 1000100 rfl) rfl; (first | have a13 := oa2 ((in_c 1000100 rfl)) i98 | ((first | have a13 := in_u ((in_c 1000100 rfl)) | (have a13 := (in_c 1000100 rfl); unfold In at a13)); (first | have a14 := in_u i98 | (have a14 := i98; unfold In at a14)))); have a15 := t_sub e98 i89 (in_c 1 rfl) rfl; exact ⟨by omega, by omega⟩
                            refine g_lastore 122 (gd rfl) rfl (n := 120) rfl (in_ix i121 rfl) ?_
                            have hI121 := inv_sL (q := 105) (j := z98.toNatClampNeg) (x := (Int64.ofInt 1000000000000)) hIc5 rfl (l_rng (Int64.ofInt 1000000000000))
                            refine g_iinc 125 (gd rfl) rfl rfl (Nat.le_of_ble_eq_true rfl) (fun z122 e122 => ?_)
                            have i122 := in_add 1 120 e122 i8 (in_c 1 rfl) rfl rfl
                            refine g_goto 5 (gd rfl) rfl ?_
                            have n5 : (z89).toInt ≤ (z122).toInt := by (first | have a0 := oa6 i8a h1 i8 j5_3 i24 i122 | ((first | have a0 := in_u i8a | (have a0 := i8a; unfold In at a0)); (first | have a1 := in_u h1 | (have a1 := h1; unfold In at a1)); (first | have a2 := in_u i8 | (have a2 := i8; unfold In at a2)); (first | have a3 := in_u j5_3 | (have a3 := j5_3; unfold In at a3)); (first | have a4 := in_u i24 | (have a4 := i24; unfold In at a4)); (first | have a5 := in_u i122 | (have a5 := i122; unfold In at a5)))); have a6 := t_add e122 i8 (in_c 1 rfl) rfl; (first | have a7 := oa2 ((in_c 1 rfl)) i117 | ((first | have a7 := in_u ((in_c 1 rfl)) | (have a7 := (in_c 1 rfl); unfold In at a7)); (first | have a8 := in_u i117 | (have a8 := i117; unfold In at a8)))); have a9 := t_add e89 j5_3 (in_c (-1) rfl) rfl; (first | have a10 := oa2 ((in_c (-1) rfl)) i111 | ((first | have a10 := in_u ((in_c (-1) rfl)) | (have a10 := (in_c (-1) rfl); unfold In at a10)); (first | have a11 := in_u i111 | (have a11 := i111; unfold In at a11)))); have a12 := t_sub e110 i89 (in_c 1 rfl) rfl; (first | have a13 := in_u i118x1 | (have a13 := i118x1; unfold In at a13)); have a14 := t_sub e103 i24 (in_c 1000100 rfl) rfl; (first | have a15 := oa2 ((in_c 1000100 rfl)) i121 | ((first | have a15 := in_u ((in_c 1000100 rfl)) | (have a15 := (in_c 1000100 rfl); unfold In at a15)); (first | have a16 := in_u i121 | (have a16 := i121; unfold In at a16)))); have a17 := t_sub e98 i89 (in_c 1 rfl) rfl; omega
                            have n5a : CS (sL sc5 105 z98.toNatClampNeg (Int64.ofInt 1000000000000)) x1 z122 z89 := by first | exact hk2 _ _ (by (first | have a0 := oa6 i8a h1 i8 j5_3 i24 i122 | ((first | have a0 := in_u i8a | (have a0 := i8a; unfold In at a0)); (first | have a1 := in_u h1 | (have a1 := h1; unfold In at a1)); (first | have a2 := in_u i8 | (have a2 := i8; unfold In at a2)); (first | have a3 := in_u j5_3 | (have a3 := j5_3; unfold In at a3)); (first | have a4 := in_u i24 | (have a4 := i24; unfold In at a4)); (first | have a5 := in_u i122 | (have a5 := i122; unfold In at a5)))); have a6 := t_add e122 i8 (in_c 1 rfl) rfl; (first | have a7 := oa2 ((in_c 1 rfl)) i117 | ((first | have a7 := in_u ((in_c 1 rfl)) | (have a7 := (in_c 1 rfl); unfold In at a7)); (first | have a8 := in_u i117 | (have a8 := i117; unfold In at a8)))); have a9 := t_add e89 j5_3 (in_c (-1) rfl) rfl; (first | have a10 := oa2 ((in_c (-1) rfl)) i111 | ((first | have a10 := in_u ((in_c (-1) rfl)) | (have a10 := (in_c (-1) rfl); unfold In at a10)); (first | have a11 := in_u i111 | (have a11 := i111; unfold In at a11)))); have a12 := t_sub e110 i89 (in_c 1 rfl) rfl; (first | have a13 := in_u i118x1 | (have a13 := i118x1; unfold In at a13)); have a14 := t_sub e103 i24 (in_c 1000100 rfl) rfl; (first | have a15 := oa2 ((in_c 1000100 rfl)) i121 | ((first | have a15 := in_u ((in_c 1000100 rfl)) | (have a15 := (in_c 1000100 rfl); unfold In at a15)); (first | have a16 := in_u i121 | (have a16 := i121; unfold In at a16)))); have a17 := t_sub e98 i89 (in_c 1 rfl) rfl; omega) (by (first | have a0 := oa6 i8a h1 i8 j5_3 i24 i122 | ((first | have a0 := in_u i8a | (have a0 := i8a; unfold In at a0)); (first | have a1 := in_u h1 | (have a1 := h1; unfold In at a1)); (first | have a2 := in_u i8 | (have a2 := i8; unfold In at a2)); (first | have a3 := in_u j5_3 | (have a3 := j5_3; unfold In at a3)); (first | have a4 := in_u i24 | (have a4 := i24; unfold In at a4)); (first | have a5 := in_u i122 | (have a5 := i122; unfold In at a5)))); have a6 := t_add e122 i8 (in_c 1 rfl) rfl; (first | have a7 := oa2 ((in_c 1 rfl)) i117 | ((first | have a7 := in_u ((in_c 1 rfl)) | (have a7 := (in_c 1 rfl); unfold In at a7)); (first | have a8 := in_u i117 | (have a8 := i117; unfold In at a8)))); have a9 := t_add e89 j5_3 (in_c (-1) rfl) rfl; (first | have a10 := oa2 ((in_c (-1) rfl)) i111 | ((first | have a10 := in_u ((in_c (-1) rfl)) | (have a10 := (in_c (-1) rfl); unfold In at a10)); (first | have a11 := in_u i111 | (have a11 := i111; unfold In at a11)))); have a12 := t_sub e110 i89 (in_c 1 rfl) rfl; (first | have a13 := in_u i118x1 | (have a13 := i118x1; unfold In at a13)); have a14 := t_sub e103 i24 (in_c 1000100 rfl) rfl; (first | have a15 := oa2 ((in_c 1000100 rfl)) i121 | ((first | have a15 := in_u ((in_c 1000100 rfl)) | (have a15 := (in_c 1000100 rfl); unfold In at a15)); (first | have a16 := in_u i121 | (have a16 := i121; unfold In at a16)))); have a17 := t_sub e98 i89 (in_c 1 rfl) rfl; omega) | exact cs_0 rfl h1.1
                            exact gg_w (by first | exact Nat.le_add_right _ _ | exact gw2 | exact gw3 | exact gwe rfl | exact gwf rfl | exact gwg rfl | exact gwh rfl | omega) (gg_f (gf_cons rfl (gf_cons rfl (gf_cons rfl (gf_cons rfl (gf_cons rfl gf_nil))))) (ih5 (sL sc5 105 z98.toNatClampNeg (Int64.ofInt 1000000000000)) z89 z122 hI121 (fr_sL rfl hFc5) (in_w 0 120 i117 rfl) (in_w 0 120 i122 rfl) n5 n5a (m_up mm5 (t_add e122 i8 (in_c 1 rfl) rfl) (in_w 1 1 (in_c 1 rfl) rfl))))
                        · skip
                          have i118x60x40 := z_gt 1 1 c118x60x40 i118x60x39 rfl
                          have c118x60x40a := lc_gt e118x60x39 c118x60x40
                          have i118x60x40a := lr_lt2 1 9223372036854775807 c118x60x40a (l_c 0 rfl) i118x60x7x3a rfl
                          refine g_iconst 1 44 (gd rfl) rfl rfl ?_
                          refine g_goto 48 (gd rfl) rfl ?_
                          refine g_cmp_ne 51 57 (gd rfl) rfl rfl (fun c118x60x48 => ?_) (fun c118x60x48 => ?_)
                          · skip
                            refine g_ldc2_w (-1000000000000) 60 (gd rfl) rfl rfl ?_
                            refine g_lreturn (gd rfl) rfl (hp118x60 _ _ ?_)
                            show GG _ _ _ _ _ _ _ _ [.long (Int64.ofInt (-1000000000000))] _ _ _
                            refine g_lreturn (gd rfl) rfl (hp118 _ _ ?_)
                            show GG _ _ _ _ _ _ _ _ [.long (Int64.ofInt (-1000000000000)), .int z98, .ref (A 105)] _ _ _
                            have i121 : In z98 0 119 := by (first | have a0 := oa6 i8a h1 i8 j5_3 i24 i117 | ((first | have a0 := in_u i8a | (have a0 := i8a; unfold In at a0)); (first | have a1 := in_u h1 | (have a1 := h1; unfold In at a1)); (first | have a2 := in_u i8 | (have a2 := i8; unfold In at a2)); (first | have a3 := in_u j5_3 | (have a3 := j5_3; unfold In at a3)); (first | have a4 := in_u i24 | (have a4 := i24; unfold In at a4)); (first | have a5 := in_u i117 | (have a5 := i117; unfold In at a5)))); have a6 := t_add e89 j5_3 (in_c (-1) rfl) rfl; (first | have a7 := oa2 ((in_c (-1) rfl)) i111 | ((first | have a7 := in_u ((in_c (-1) rfl)) | (have a7 := (in_c (-1) rfl); unfold In at a7)); (first | have a8 := in_u i111 | (have a8 := i111; unfold In at a8)))); have a9 := t_sub e110 i89 (in_c 1 rfl) rfl; (first | have a10 := oa2 ((in_c 1 rfl)) i118x1 | ((first | have a10 := in_u ((in_c 1 rfl)) | (have a10 := (in_c 1 rfl); unfold In at a10)); (first | have a11 := in_u i118x1 | (have a11 := i118x1; unfold In at a11)))); have a12 := t_sub e103 i24 (in_c 1000100 rfl) rfl; (first | have a13 := oa2 ((in_c 1000100 rfl)) i98 | ((first | have a13 := in_u ((in_c 1000100 rfl)) | (have a13 := (in_c 1000100 rfl); unfold In at a13)); (first | have a14 := in_u i98 | (have a14 := i98; unfold In at a14)))); have a15 := t_sub e98 i89 (in_c 1 rfl) rfl; exact ⟨by omega, by omega⟩
                            refine g_lastore 122 (gd rfl) rfl (n := 120) rfl (in_ix i121 rfl) ?_
                            have hI121 := inv_sL (q := 105) (j := z98.toNatClampNeg) (x := (Int64.ofInt (-1000000000000))) hIc5 rfl (l_rng (Int64.ofInt (-1000000000000)))
                            refine g_iinc 125 (gd rfl) rfl rfl (Nat.le_of_ble_eq_true rfl) (fun z122 e122 => ?_)
                            have i122 := in_add 1 120 e122 i8 (in_c 1 rfl) rfl rfl
                            refine g_goto 5 (gd rfl) rfl ?_
                            have n5 : (z89).toInt ≤ (z122).toInt := by (first | have a0 := oa6 i8a h1 i8 j5_3 i24 i122 | ((first | have a0 := in_u i8a | (have a0 := i8a; unfold In at a0)); (first | have a1 := in_u h1 | (have a1 := h1; unfold In at a1)); (first | have a2 := in_u i8 | (have a2 := i8; unfold In at a2)); (first | have a3 := in_u j5_3 | (have a3 := j5_3; unfold In at a3)); (first | have a4 := in_u i24 | (have a4 := i24; unfold In at a4)); (first | have a5 := in_u i122 | (have a5 := i122; unfold In at a5)))); have a6 := t_add e122 i8 (in_c 1 rfl) rfl; (first | have a7 := oa2 ((in_c 1 rfl)) i117 | ((first | have a7 := in_u ((in_c 1 rfl)) | (have a7 := (in_c 1 rfl); unfold In at a7)); (first | have a8 := in_u i117 | (have a8 := i117; unfold In at a8)))); have a9 := t_add e89 j5_3 (in_c (-1) rfl) rfl; (first | have a10 := oa2 ((in_c (-1) rfl)) i111 | ((first | have a10 := in_u ((in_c (-1) rfl)) | (have a10 := (in_c (-1) rfl); unfold In at a10)); (first | have a11 := in_u i111 | (have a11 := i111; unfold In at a11)))); have a12 := t_sub e110 i89 (in_c 1 rfl) rfl; (first | have a13 := in_u i118x1 | (have a13 := i118x1; unfold In at a13)); have a14 := t_sub e103 i24 (in_c 1000100 rfl) rfl; (first | have a15 := oa2 ((in_c 1000100 rfl)) i121 | ((first | have a15 := in_u ((in_c 1000100 rfl)) | (have a15 := (in_c 1000100 rfl); unfold In at a15)); (first | have a16 := in_u i121 | (have a16 := i121; unfold In at a16)))); have a17 := t_sub e98 i89 (in_c 1 rfl) rfl; omega
                            have n5a : CS (sL sc5 105 z98.toNatClampNeg (Int64.ofInt (-1000000000000))) x1 z122 z89 := by first | exact hk2 _ _ (by (first | have a0 := oa6 i8a h1 i8 j5_3 i24 i122 | ((first | have a0 := in_u i8a | (have a0 := i8a; unfold In at a0)); (first | have a1 := in_u h1 | (have a1 := h1; unfold In at a1)); (first | have a2 := in_u i8 | (have a2 := i8; unfold In at a2)); (first | have a3 := in_u j5_3 | (have a3 := j5_3; unfold In at a3)); (first | have a4 := in_u i24 | (have a4 := i24; unfold In at a4)); (first | have a5 := in_u i122 | (have a5 := i122; unfold In at a5)))); have a6 := t_add e122 i8 (in_c 1 rfl) rfl; (first | have a7 := oa2 ((in_c 1 rfl)) i117 | ((first | have a7 := in_u ((in_c 1 rfl)) | (have a7 := (in_c 1 rfl); unfold In at a7)); (first | have a8 := in_u i117 | (have a8 := i117; unfold In at a8)))); have a9 := t_add e89 j5_3 (in_c (-1) rfl) rfl; (first | have a10 := oa2 ((in_c (-1) rfl)) i111 | ((first | have a10 := in_u ((in_c (-1) rfl)) | (have a10 := (in_c (-1) rfl); unfold In at a10)); (first | have a11 := in_u i111 | (have a11 := i111; unfold In at a11)))); have a12 := t_sub e110 i89 (in_c 1 rfl) rfl; (first | have a13 := in_u i118x1 | (have a13 := i118x1; unfold In at a13)); have a14 := t_sub e103 i24 (in_c 1000100 rfl) rfl; (first | have a15 := oa2 ((in_c 1000100 rfl)) i121 | ((first | have a15 := in_u ((in_c 1000100 rfl)) | (have a15 := (in_c 1000100 rfl); unfold In at a15)); (first | have a16 := in_u i121 | (have a16 := i121; unfold In at a16)))); have a17 := t_sub e98 i89 (in_c 1 rfl) rfl; omega) (by (first | have a0 := oa6 i8a h1 i8 j5_3 i24 i122 | ((first | have a0 := in_u i8a | (have a0 := i8a; unfold In at a0)); (first | have a1 := in_u h1 | (have a1 := h1; unfold In at a1)); (first | have a2 := in_u i8 | (have a2 := i8; unfold In at a2)); (first | have a3 := in_u j5_3 | (have a3 := j5_3; unfold In at a3)); (first | have a4 := in_u i24 | (have a4 := i24; unfold In at a4)); (first | have a5 := in_u i122 | (have a5 := i122; unfold In at a5)))); have a6 := t_add e122 i8 (in_c 1 rfl) rfl; (first | have a7 := oa2 ((in_c 1 rfl)) i117 | ((first | have a7 := in_u ((in_c 1 rfl)) | (have a7 := (in_c 1 rfl); unfold In at a7)); (first | have a8 := in_u i117 | (have a8 := i117; unfold In at a8)))); have a9 := t_add e89 j5_3 (in_c (-1) rfl) rfl; (first | have a10 := oa2 ((in_c (-1) rfl)) i111 | ((first | have a10 := in_u ((in_c (-1) rfl)) | (have a10 := (in_c (-1) rfl); unfold In at a10)); (first | have a11 := in_u i111 | (have a11 := i111; unfold In at a11)))); have a12 := t_sub e110 i89 (in_c 1 rfl) rfl; (first | have a13 := in_u i118x1 | (have a13 := i118x1; unfold In at a13)); have a14 := t_sub e103 i24 (in_c 1000100 rfl) rfl; (first | have a15 := oa2 ((in_c 1000100 rfl)) i121 | ((first | have a15 := in_u ((in_c 1000100 rfl)) | (have a15 := (in_c 1000100 rfl); unfold In at a15)); (first | have a16 := in_u i121 | (have a16 := i121; unfold In at a16)))); have a17 := t_sub e98 i89 (in_c 1 rfl) rfl; omega) | exact cs_0 rfl h1.1
                            exact gg_w (by first | exact Nat.le_add_right _ _ | exact gw2 | exact gw3 | exact gwe rfl | exact gwf rfl | exact gwg rfl | exact gwh rfl | omega) (gg_f (gf_cons rfl (gf_cons rfl (gf_cons rfl (gf_cons rfl (gf_cons rfl gf_nil))))) (ih5 (sL sc5 105 z98.toNatClampNeg (Int64.ofInt (-1000000000000))) z89 z122 hI121 (fr_sL rfl hFc5) (in_w 0 120 i117 rfl) (in_w 0 120 i122 rfl) n5 n5a (m_up mm5 (t_add e122 i8 (in_c 1 rfl) rfl) (in_w 1 1 (in_c 1 rfl) rfl))))
                          · skip
                            exact n_eq c118x60x48 (in_c 0 rfl) (in_c 1 rfl) rfl
                      · skip
                        have i118x60x29 := z_gt 1 1 c118x60x29 i118x60x28 rfl
                        have c118x60x29a := lc_gt e118x60x28 c118x60x29
                        exact ln_lt c118x60x29a (l_c 0 rfl) i118x60x14x3a rfl
                    · skip
                      have i118x60x19 := z_le (-1) 0 c118x60x19 i118x60x18 rfl
                      have c118x60x19a := lc_le e118x60x18 c118x60x19
                      have i118x60x19a := lr_le2 0 9223372036854775807 c118x60x19a i118x60x7x3a (l_rng z118x60x17) rfl
                      refine g_lload_n 23 (gd rfl) rfl rfl ?_
                      refine g_lload_n 24 (gd rfl) rfl rfl ?_
                      refine g_lmul 25 (gd rfl) rfl (fun z118x60x24 e118x60x24 => ?_)
                      refine g_lreturn (gd rfl) rfl (hp118x60 _ _ ?_)
                      show GG _ _ _ _ _ _ _ _ [.long z118x60x24] _ _ _
                      refine g_lreturn (gd rfl) rfl (hp118 _ _ ?_)
                      show GG _ _ _ _ _ _ _ _ [.long z118x60x24, .int z98, .ref (A 105)] _ _ _
                      have i121 : In z98 0 119 := by (first | have a0 := oa6 i8a h1 i8 j5_3 i24 i117 | ((first | have a0 := in_u i8a | (have a0 := i8a; unfold In at a0)); (first | have a1 := in_u h1 | (have a1 := h1; unfold In at a1)); (first | have a2 := in_u i8 | (have a2 := i8; unfold In at a2)); (first | have a3 := in_u j5_3 | (have a3 := j5_3; unfold In at a3)); (first | have a4 := in_u i24 | (have a4 := i24; unfold In at a4)); (first | have a5 := in_u i117 | (have a5 := i117; unfold In at a5)))); have a6 := t_add e89 j5_3 (in_c (-1) rfl) rfl; (first | have a7 := oa2 ((in_c (-1) rfl)) i111 | ((first | have a7 := in_u ((in_c (-1) rfl)) | (have a7 := (in_c (-1) rfl); unfold In at a7)); (first | have a8 := in_u i111 | (have a8 := i111; unfold In at a8)))); have a9 := t_sub e110 i89 (in_c 1 rfl) rfl; (first | have a10 := oa2 ((in_c 1 rfl)) i118x1 | ((first | have a10 := in_u ((in_c 1 rfl)) | (have a10 := (in_c 1 rfl); unfold In at a10)); (first | have a11 := in_u i118x1 | (have a11 := i118x1; unfold In at a11)))); have a12 := t_sub e103 i24 (in_c 1000100 rfl) rfl; (first | have a13 := oa2 ((in_c 1000100 rfl)) i98 | ((first | have a13 := in_u ((in_c 1000100 rfl)) | (have a13 := (in_c 1000100 rfl); unfold In at a13)); (first | have a14 := in_u i98 | (have a14 := i98; unfold In at a14)))); have a15 := t_sub e98 i89 (in_c 1 rfl) rfl; exact ⟨by omega, by omega⟩
                      refine g_lastore 122 (gd rfl) rfl (n := 120) rfl (in_ix i121 rfl) ?_
                      have hI121 := inv_sL (q := 105) (j := z98.toNatClampNeg) (x := z118x60x24) hIc5 rfl (l_rng z118x60x24)
                      refine g_iinc 125 (gd rfl) rfl rfl (Nat.le_of_ble_eq_true rfl) (fun z122 e122 => ?_)
                      have i122 := in_add 1 120 e122 i8 (in_c 1 rfl) rfl rfl
                      refine g_goto 5 (gd rfl) rfl ?_
                      have n5 : (z89).toInt ≤ (z122).toInt := by (first | have a0 := oa6 i8a h1 i8 j5_3 i24 i122 | ((first | have a0 := in_u i8a | (have a0 := i8a; unfold In at a0)); (first | have a1 := in_u h1 | (have a1 := h1; unfold In at a1)); (first | have a2 := in_u i8 | (have a2 := i8; unfold In at a2)); (first | have a3 := in_u j5_3 | (have a3 := j5_3; unfold In at a3)); (first | have a4 := in_u i24 | (have a4 := i24; unfold In at a4)); (first | have a5 := in_u i122 | (have a5 := i122; unfold In at a5)))); have a6 := t_add e122 i8 (in_c 1 rfl) rfl; (first | have a7 := oa2 ((in_c 1 rfl)) i117 | ((first | have a7 := in_u ((in_c 1 rfl)) | (have a7 := (in_c 1 rfl); unfold In at a7)); (first | have a8 := in_u i117 | (have a8 := i117; unfold In at a8)))); have a9 := t_add e89 j5_3 (in_c (-1) rfl) rfl; (first | have a10 := oa2 ((in_c (-1) rfl)) i111 | ((first | have a10 := in_u ((in_c (-1) rfl)) | (have a10 := (in_c (-1) rfl); unfold In at a10)); (first | have a11 := in_u i111 | (have a11 := i111; unfold In at a11)))); have a12 := t_sub e110 i89 (in_c 1 rfl) rfl; (first | have a13 := in_u i118x1 | (have a13 := i118x1; unfold In at a13)); have a14 := t_sub e103 i24 (in_c 1000100 rfl) rfl; (first | have a15 := oa2 ((in_c 1000100 rfl)) i121 | ((first | have a15 := in_u ((in_c 1000100 rfl)) | (have a15 := (in_c 1000100 rfl); unfold In at a15)); (first | have a16 := in_u i121 | (have a16 := i121; unfold In at a16)))); have a17 := t_sub e98 i89 (in_c 1 rfl) rfl; omega
                      have n5a : CS (sL sc5 105 z98.toNatClampNeg z118x60x24) x1 z122 z89 := by first | exact hk2 _ _ (by (first | have a0 := oa6 i8a h1 i8 j5_3 i24 i122 | ((first | have a0 := in_u i8a | (have a0 := i8a; unfold In at a0)); (first | have a1 := in_u h1 | (have a1 := h1; unfold In at a1)); (first | have a2 := in_u i8 | (have a2 := i8; unfold In at a2)); (first | have a3 := in_u j5_3 | (have a3 := j5_3; unfold In at a3)); (first | have a4 := in_u i24 | (have a4 := i24; unfold In at a4)); (first | have a5 := in_u i122 | (have a5 := i122; unfold In at a5)))); have a6 := t_add e122 i8 (in_c 1 rfl) rfl; (first | have a7 := oa2 ((in_c 1 rfl)) i117 | ((first | have a7 := in_u ((in_c 1 rfl)) | (have a7 := (in_c 1 rfl); unfold In at a7)); (first | have a8 := in_u i117 | (have a8 := i117; unfold In at a8)))); have a9 := t_add e89 j5_3 (in_c (-1) rfl) rfl; (first | have a10 := oa2 ((in_c (-1) rfl)) i111 | ((first | have a10 := in_u ((in_c (-1) rfl)) | (have a10 := (in_c (-1) rfl); unfold In at a10)); (first | have a11 := in_u i111 | (have a11 := i111; unfold In at a11)))); have a12 := t_sub e110 i89 (in_c 1 rfl) rfl; (first | have a13 := in_u i118x1 | (have a13 := i118x1; unfold In at a13)); have a14 := t_sub e103 i24 (in_c 1000100 rfl) rfl; (first | have a15 := oa2 ((in_c 1000100 rfl)) i121 | ((first | have a15 := in_u ((in_c 1000100 rfl)) | (have a15 := (in_c 1000100 rfl); unfold In at a15)); (first | have a16 := in_u i121 | (have a16 := i121; unfold In at a16)))); have a17 := t_sub e98 i89 (in_c 1 rfl) rfl; omega) (by (first | have a0 := oa6 i8a h1 i8 j5_3 i24 i122 | ((first | have a0 := in_u i8a | (have a0 := i8a; unfold In at a0)); (first | have a1 := in_u h1 | (have a1 := h1; unfold In at a1)); (first | have a2 := in_u i8 | (have a2 := i8; unfold In at a2)); (first | have a3 := in_u j5_3 | (have a3 := j5_3; unfold In at a3)); (first | have a4 := in_u i24 | (have a4 := i24; unfold In at a4)); (first | have a5 := in_u i122 | (have a5 := i122; unfold In at a5)))); have a6 := t_add e122 i8 (in_c 1 rfl) rfl; (first | have a7 := oa2 ((in_c 1 rfl)) i117 | ((first | have a7 := in_u ((in_c 1 rfl)) | (have a7 := (in_c 1 rfl); unfold In at a7)); (first | have a8 := in_u i117 | (have a8 := i117; unfold In at a8)))); have a9 := t_add e89 j5_3 (in_c (-1) rfl) rfl; (first | have a10 := oa2 ((in_c (-1) rfl)) i111 | ((first | have a10 := in_u ((in_c (-1) rfl)) | (have a10 := (in_c (-1) rfl); unfold In at a10)); (first | have a11 := in_u i111 | (have a11 := i111; unfold In at a11)))); have a12 := t_sub e110 i89 (in_c 1 rfl) rfl; (first | have a13 := in_u i118x1 | (have a13 := i118x1; unfold In at a13)); have a14 := t_sub e103 i24 (in_c 1000100 rfl) rfl; (first | have a15 := oa2 ((in_c 1000100 rfl)) i121 | ((first | have a15 := in_u ((in_c 1000100 rfl)) | (have a15 := (in_c 1000100 rfl); unfold In at a15)); (first | have a16 := in_u i121 | (have a16 := i121; unfold In at a16)))); have a17 := t_sub e98 i89 (in_c 1 rfl) rfl; omega) | exact cs_0 rfl h1.1
                      exact gg_w (by first | exact Nat.le_add_right _ _ | exact gw2 | exact gw3 | exact gwe rfl | exact gwf rfl | exact gwg rfl | exact gwh rfl | omega) (gg_f (gf_cons rfl (gf_cons rfl (gf_cons rfl (gf_cons rfl (gf_cons rfl gf_nil))))) (ih5 (sL sc5 105 z98.toNatClampNeg z118x60x24) z89 z122 hI121 (fr_sL rfl hFc5) (in_w 0 120 i117 rfl) (in_w 0 120 i122 rfl) n5 n5a (m_up mm5 (t_add e122 i8 (in_c 1 rfl) rfl) (in_w 1 1 (in_c 1 rfl) rfl))))
                · skip
                  have i118x60x7x3 := z_lt (-1) (-1) c118x60x7x3 i118x60x7x2 rfl
                  have c118x60x7x3a := lc_lt e118x60x7x2 c118x60x7x3
                  have i118x60x7x3a := lr_lt1 (-9223372036854775808) (-1) c118x60x7x3a (l_rng z117) (l_c 0 rfl) rfl
                  refine g_lload_n 7 (gd rfl) rfl rfl ?_
                  refine g_lneg 8 (gd rfl) rfl (fun z118x60x7x7 e118x60x7x7 => ?_)
                  refine g_goto 12 (gd rfl) rfl ?_
                  refine g_lreturn (gd rfl) rfl (hp118x60x7 _ _ ?_)
                  show GG _ _ _ _ _ _ _ _ [.long z118x60x7x7] _ _ _
                  refine g_ldc2_w 1000000000000 13 (gd rfl) rfl rfl ?_
                  refine g_lload_n 14 (gd rfl) rfl rfl ?_
                  refine g_calls (As := [.long z111]) (r := [.long (Int64.ofInt 1000000000000), .long z118x60x7x7]) 17 (gd rfl) rfl rfl rfl rfl rfl (Nat.le_of_ble_eq_true rfl) (mc := 0) (ms := 0) (Nat.zero_le _) (Nat.zero_le _) (P := fun v u => _) ?_ (fun v u h => h)
                  intro po118x60x14 xx118x60x14 hp118x60x14 hx118x60x14
                  refine g_enter2 (k := 421) (N := 300) (by first | exact dq1 hd rfl | exact dq0 hd rfl | exact dq2 hd rfl | exact dq3 hd rfl | omega) rfl (Nat.le_of_ble_eq_true rfl) ?_
                  refine g_lload_n 1 (gd rfl) rfl rfl ?_
                  refine g_lconst 0 2 (gd rfl) rfl rfl ?_
                  refine g_lcmp 3 (gd rfl) rfl (fun z118x60x14x2 e118x60x14x2 => ?_)
                  have i118x60x14x2 := lc_in e118x60x14x2
                  refine g_if_ge 6 11 (gd rfl) rfl rfl (fun c118x60x14x3 => ?_) (fun c118x60x14x3 => ?_)
                  · skip
                    have i118x60x14x3 := z_ge 0 1 c118x60x14x3 i118x60x14x2 rfl
                    have c118x60x14x3a := lc_ge e118x60x14x2 c118x60x14x3
                    have i118x60x14x3a := lr_le2 0 9223372036854775807 c118x60x14x3a (l_c 0 rfl) (l_rng z111) rfl
                    refine g_lload_n 12 (gd rfl) rfl rfl ?_
                    refine g_lreturn (gd rfl) rfl (hp118x60x14 _ _ ?_)
                    show GG _ _ _ _ _ _ _ _ [.long z111, .long (Int64.ofInt 1000000000000), .long z118x60x7x7] _ _ _
                    refine g_ldiv 18 (gd rfl) rfl (lnz (nz_l c118x60x3a)) (fun z118x60x17 e118x60x17 => ?_)
                    refine g_lcmp 19 (gd rfl) rfl (fun z118x60x18 e118x60x18 => ?_)
                    have i118x60x18 := lc_in e118x60x18
                    refine g_if_gt 22 26 (gd rfl) rfl rfl (fun c118x60x19 => ?_) (fun c118x60x19 => ?_)
                    · skip
                      have i118x60x19 := z_gt 1 1 c118x60x19 i118x60x18 rfl
                      have c118x60x19a := lc_gt e118x60x18 c118x60x19
                      have i118x60x19a := lr_lt1 (-9223372036854775808) 9223372036854775806 c118x60x19a (l_rng z118x60x17) (l_rng z118x60x7x7) rfl
                      have i118x60x19b := lr_lt2 (-9223372036854775807) 9223372036854775807 c118x60x19a (l_rng z118x60x17) (l_rng z118x60x7x7) rfl
                      refine g_lload_n 27 (gd rfl) rfl rfl ?_
                      refine g_lconst 0 28 (gd rfl) rfl rfl ?_
                      refine g_lcmp 29 (gd rfl) rfl (fun z118x60x28 e118x60x28 => ?_)
                      have i118x60x28 := lc_in e118x60x28
                      refine g_if_le 32 36 (gd rfl) rfl rfl (fun c118x60x29 => ?_) (fun c118x60x29 => ?_)
                      · skip
                        have i118x60x29 := z_le (-1) 0 c118x60x29 i118x60x28 rfl
                        have c118x60x29a := lc_le e118x60x28 c118x60x29
                        have i118x60x29a := lr_le1 0 0 c118x60x29a i118x60x14x3a (l_c 0 rfl) rfl
                        refine g_iconst 0 37 (gd rfl) rfl rfl ?_
                        refine g_lload_n 38 (gd rfl) rfl rfl ?_
                        refine g_lconst 0 39 (gd rfl) rfl rfl ?_
                        refine g_lcmp 40 (gd rfl) rfl (fun z118x60x39 e118x60x39 => ?_)
                        have i118x60x39 := lc_in e118x60x39
                        refine g_if_le 43 47 (gd rfl) rfl rfl (fun c118x60x40 => ?_) (fun c118x60x40 => ?_)
                        · skip
                          have i118x60x40 := z_le (-1) 0 c118x60x40 i118x60x39 rfl
                          have c118x60x40a := lc_le e118x60x39 c118x60x40
                          refine g_iconst 0 48 (gd rfl) rfl rfl ?_
                          refine g_cmp_ne 51 57 (gd rfl) rfl rfl (fun c118x60x48 => ?_) (fun c118x60x48 => ?_)
                          · skip
                            exact n_ne c118x60x48 (in_c 0 rfl) (in_c 0 rfl) rfl
                          · skip
                            refine g_ldc2_w 1000000000000 54 (gd rfl) rfl rfl ?_
                            refine g_goto 60 (gd rfl) rfl ?_
                            refine g_lreturn (gd rfl) rfl (hp118x60 _ _ ?_)
                            show GG _ _ _ _ _ _ _ _ [.long (Int64.ofInt 1000000000000)] _ _ _
                            refine g_lreturn (gd rfl) rfl (hp118 _ _ ?_)
                            show GG _ _ _ _ _ _ _ _ [.long (Int64.ofInt 1000000000000), .int z98, .ref (A 105)] _ _ _
                            have i121 : In z98 0 119 := by (first | have a0 := oa6 i8a h1 i8 j5_3 i24 i117 | ((first | have a0 := in_u i8a | (have a0 := i8a; unfold In at a0)); (first | have a1 := in_u h1 | (have a1 := h1; unfold In at a1)); (first | have a2 := in_u i8 | (have a2 := i8; unfold In at a2)); (first | have a3 := in_u j5_3 | (have a3 := j5_3; unfold In at a3)); (first | have a4 := in_u i24 | (have a4 := i24; unfold In at a4)); (first | have a5 := in_u i117 | (have a5 := i117; unfold In at a5)))); have a6 := t_add e89 j5_3 (in_c (-1) rfl) rfl; (first | have a7 := oa2 ((in_c (-1) rfl)) i111 | ((first | have a7 := in_u ((in_c (-1) rfl)) | (have a7 := (in_c (-1) rfl); unfold In at a7)); (first | have a8 := in_u i111 | (have a8 := i111; unfold In at a8)))); have a9 := t_sub e110 i89 (in_c 1 rfl) rfl; (first | have a10 := oa2 ((in_c 1 rfl)) i118x1 | ((first | have a10 := in_u ((in_c 1 rfl)) | (have a10 := (in_c 1 rfl); unfold In at a10)); (first | have a11 := in_u i118x1 | (have a11 := i118x1; unfold In at a11)))); have a12 := t_sub e103 i24 (in_c 1000100 rfl) rfl; (first | have a13 := oa2 ((in_c 1000100 rfl)) i98 | ((first | have a13 := in_u ((in_c 1000100 rfl)) | (have a13 := (in_c 1000100 rfl); unfold In at a13)); (first | have a14 := in_u i98 | (have a14 := i98; unfold In at a14)))); have a15 := t_sub e98 i89 (in_c 1 rfl) rfl; exact ⟨by omega, by omega⟩
                            refine g_lastore 122 (gd rfl) rfl (n := 120) rfl (in_ix i121 rfl) ?_
                            have hI121 := inv_sL (q := 105) (j := z98.toNatClampNeg) (x := (Int64.ofInt 1000000000000)) hIc5 rfl (l_rng (Int64.ofInt 1000000000000))
                            refine g_iinc 125 (gd rfl) rfl rfl (Nat.le_of_ble_eq_true rfl) (fun z122 e122 => ?_)
                            have i122 := in_add 1 120 e122 i8 (in_c 1 rfl) rfl rfl
                            refine g_goto 5 (gd rfl) rfl ?_
                            have n5 : (z89).toInt ≤ (z122).toInt := by (first | have a0 := oa6 i8a h1 i8 j5_3 i24 i122 | ((first | have a0 := in_u i8a | (have a0 := i8a; unfold In at a0)); (first | have a1 := in_u h1 | (have a1 := h1; unfold In at a1)); (first | have a2 := in_u i8 | (have a2 := i8; unfold In at a2)); (first | have a3 := in_u j5_3 | (have a3 := j5_3; unfold In at a3)); (first | have a4 := in_u i24 | (have a4 := i24; unfold In at a4)); (first | have a5 := in_u i122 | (have a5 := i122; unfold In at a5)))); have a6 := t_add e122 i8 (in_c 1 rfl) rfl; (first | have a7 := oa2 ((in_c 1 rfl)) i117 | ((first | have a7 := in_u ((in_c 1 rfl)) | (have a7 := (in_c 1 rfl); unfold In at a7)); (first | have a8 := in_u i117 | (have a8 := i117; unfold In at a8)))); have a9 := t_add e89 j5_3 (in_c (-1) rfl) rfl; (first | have a10 := oa2 ((in_c (-1) rfl)) i111 | ((first | have a10 := in_u ((in_c (-1) rfl)) | (have a10 := (in_c (-1) rfl); unfold In at a10)); (first | have a11 := in_u i111 | (have a11 := i111; unfold In at a11)))); have a12 := t_sub e110 i89 (in_c 1 rfl) rfl; (first | have a13 := in_u i118x1 | (have a13 := i118x1; unfold In at a13)); have a14 := t_sub e103 i24 (in_c 1000100 rfl) rfl; (first | have a15 := oa2 ((in_c 1000100 rfl)) i121 | ((first | have a15 := in_u ((in_c 1000100 rfl)) | (have a15 := (in_c 1000100 rfl); unfold In at a15)); (first | have a16 := in_u i121 | (have a16 := i121; unfold In at a16)))); have a17 := t_sub e98 i89 (in_c 1 rfl) rfl; omega
                            have n5a : CS (sL sc5 105 z98.toNatClampNeg (Int64.ofInt 1000000000000)) x1 z122 z89 := by first | exact hk2 _ _ (by (first | have a0 := oa6 i8a h1 i8 j5_3 i24 i122 | ((first | have a0 := in_u i8a | (have a0 := i8a; unfold In at a0)); (first | have a1 := in_u h1 | (have a1 := h1; unfold In at a1)); (first | have a2 := in_u i8 | (have a2 := i8; unfold In at a2)); (first | have a3 := in_u j5_3 | (have a3 := j5_3; unfold In at a3)); (first | have a4 := in_u i24 | (have a4 := i24; unfold In at a4)); (first | have a5 := in_u i122 | (have a5 := i122; unfold In at a5)))); have a6 := t_add e122 i8 (in_c 1 rfl) rfl; (first | have a7 := oa2 ((in_c 1 rfl)) i117 | ((first | have a7 := in_u ((in_c 1 rfl)) | (have a7 := (in_c 1 rfl); unfold In at a7)); (first | have a8 := in_u i117 | (have a8 := i117; unfold In at a8)))); have a9 := t_add e89 j5_3 (in_c (-1) rfl) rfl; (first | have a10 := oa2 ((in_c (-1) rfl)) i111 | ((first | have a10 := in_u ((in_c (-1) rfl)) | (have a10 := (in_c (-1) rfl); unfold In at a10)); (first | have a11 := in_u i111 | (have a11 := i111; unfold In at a11)))); have a12 := t_sub e110 i89 (in_c 1 rfl) rfl; (first | have a13 := in_u i118x1 | (have a13 := i118x1; unfold In at a13)); have a14 := t_sub e103 i24 (in_c 1000100 rfl) rfl; (first | have a15 := oa2 ((in_c 1000100 rfl)) i121 | ((first | have a15 := in_u ((in_c 1000100 rfl)) | (have a15 := (in_c 1000100 rfl); unfold In at a15)); (first | have a16 := in_u i121 | (have a16 := i121; unfold In at a16)))); have a17 := t_sub e98 i89 (in_c 1 rfl) rfl; omega) (by (first | have a0 := oa6 i8a h1 i8 j5_3 i24 i122 | ((first | have a0 := in_u i8a | (have a0 := i8a; unfold In at a0)); (first | have a1 := in_u h1 | (have a1 := h1; unfold In at a1)); (first | have a2 := in_u i8 | (have a2 := i8; unfold In at a2)); (first | have a3 := in_u j5_3 | (have a3 := j5_3; unfold In at a3)); (first | have a4 := in_u i24 | (have a4 := i24; unfold In at a4)); (first | have a5 := in_u i122 | (have a5 := i122; unfold In at a5)))); have a6 := t_add e122 i8 (in_c 1 rfl) rfl; (first | have a7 := oa2 ((in_c 1 rfl)) i117 | ((first | have a7 := in_u ((in_c 1 rfl)) | (have a7 := (in_c 1 rfl); unfold In at a7)); (first | have a8 := in_u i117 | (have a8 := i117; unfold In at a8)))); have a9 := t_add e89 j5_3 (in_c (-1) rfl) rfl; (first | have a10 := oa2 ((in_c (-1) rfl)) i111 | ((first | have a10 := in_u ((in_c (-1) rfl)) | (have a10 := (in_c (-1) rfl); unfold In at a10)); (first | have a11 := in_u i111 | (have a11 := i111; unfold In at a11)))); have a12 := t_sub e110 i89 (in_c 1 rfl) rfl; (first | have a13 := in_u i118x1 | (have a13 := i118x1; unfold In at a13)); have a14 := t_sub e103 i24 (in_c 1000100 rfl) rfl; (first | have a15 := oa2 ((in_c 1000100 rfl)) i121 | ((first | have a15 := in_u ((in_c 1000100 rfl)) | (have a15 := (in_c 1000100 rfl); unfold In at a15)); (first | have a16 := in_u i121 | (have a16 := i121; unfold In at a16)))); have a17 := t_sub e98 i89 (in_c 1 rfl) rfl; omega) | exact cs_0 rfl h1.1
                            exact gg_w (by first | exact Nat.le_add_right _ _ | exact gw2 | exact gw3 | exact gwe rfl | exact gwf rfl | exact gwg rfl | exact gwh rfl | omega) (gg_f (gf_cons rfl (gf_cons rfl (gf_cons rfl (gf_cons rfl (gf_cons rfl gf_nil))))) (ih5 (sL sc5 105 z98.toNatClampNeg (Int64.ofInt 1000000000000)) z89 z122 hI121 (fr_sL rfl hFc5) (in_w 0 120 i117 rfl) (in_w 0 120 i122 rfl) n5 n5a (m_up mm5 (t_add e122 i8 (in_c 1 rfl) rfl) (in_w 1 1 (in_c 1 rfl) rfl))))
                        · skip
                          have i118x60x40 := z_gt 1 1 c118x60x40 i118x60x39 rfl
                          have c118x60x40a := lc_gt e118x60x39 c118x60x40
                          exact ln_lt c118x60x40a (l_c 0 rfl) i118x60x7x3a rfl
                      · skip
                        have i118x60x29 := z_gt 1 1 c118x60x29 i118x60x28 rfl
                        have c118x60x29a := lc_gt e118x60x28 c118x60x29
                        have i118x60x29a := lr_lt2 1 9223372036854775807 c118x60x29a (l_c 0 rfl) i118x60x14x3a rfl
                        refine g_iconst 1 33 (gd rfl) rfl rfl ?_
                        refine g_goto 37 (gd rfl) rfl ?_
                        refine g_lload_n 38 (gd rfl) rfl rfl ?_
                        refine g_lconst 0 39 (gd rfl) rfl rfl ?_
                        refine g_lcmp 40 (gd rfl) rfl (fun z118x60x39 e118x60x39 => ?_)
                        have i118x60x39 := lc_in e118x60x39
                        refine g_if_le 43 47 (gd rfl) rfl rfl (fun c118x60x40 => ?_) (fun c118x60x40 => ?_)
                        · skip
                          have i118x60x40 := z_le (-1) 0 c118x60x40 i118x60x39 rfl
                          have c118x60x40a := lc_le e118x60x39 c118x60x40
                          refine g_iconst 0 48 (gd rfl) rfl rfl ?_
                          refine g_cmp_ne 51 57 (gd rfl) rfl rfl (fun c118x60x48 => ?_) (fun c118x60x48 => ?_)
                          · skip
                            refine g_ldc2_w (-1000000000000) 60 (gd rfl) rfl rfl ?_
                            refine g_lreturn (gd rfl) rfl (hp118x60 _ _ ?_)
                            show GG _ _ _ _ _ _ _ _ [.long (Int64.ofInt (-1000000000000))] _ _ _
                            refine g_lreturn (gd rfl) rfl (hp118 _ _ ?_)
                            show GG _ _ _ _ _ _ _ _ [.long (Int64.ofInt (-1000000000000)), .int z98, .ref (A 105)] _ _ _
                            have i121 : In z98 0 119 := by (first | have a0 := oa6 i8a h1 i8 j5_3 i24 i117 | ((first | have a0 := in_u i8a | (have a0 := i8a; unfold In at a0)); (first | have a1 := in_u h1 | (have a1 := h1; unfold In at a1)); (first | have a2 := in_u i8 | (have a2 := i8; unfold In at a2)); (first | have a3 := in_u j5_3 | (have a3 := j5_3; unfold In at a3)); (first | have a4 := in_u i24 | (have a4 := i24; unfold In at a4)); (first | have a5 := in_u i117 | (have a5 := i117; unfold In at a5)))); have a6 := t_add e89 j5_3 (in_c (-1) rfl) rfl; (first | have a7 := oa2 ((in_c (-1) rfl)) i111 | ((first | have a7 := in_u ((in_c (-1) rfl)) | (have a7 := (in_c (-1) rfl); unfold In at a7)); (first | have a8 := in_u i111 | (have a8 := i111; unfold In at a8)))); have a9 := t_sub e110 i89 (in_c 1 rfl) rfl; (first | have a10 := oa2 ((in_c 1 rfl)) i118x1 | ((first | have a10 := in_u ((in_c 1 rfl)) | (have a10 := (in_c 1 rfl); unfold In at a10)); (first | have a11 := in_u i118x1 | (have a11 := i118x1; unfold In at a11)))); have a12 := t_sub e103 i24 (in_c 1000100 rfl) rfl; (first | have a13 := oa2 ((in_c 1000100 rfl)) i98 | ((first | have a13 := in_u ((in_c 1000100 rfl)) | (have a13 := (in_c 1000100 rfl); unfold In at a13)); (first | have a14 := in_u i98 | (have a14 := i98; unfold In at a14)))); have a15 := t_sub e98 i89 (in_c 1 rfl) rfl; exact ⟨by omega, by omega⟩
                            refine g_lastore 122 (gd rfl) rfl (n := 120) rfl (in_ix i121 rfl) ?_
                            have hI121 := inv_sL (q := 105) (j := z98.toNatClampNeg) (x := (Int64.ofInt (-1000000000000))) hIc5 rfl (l_rng (Int64.ofInt (-1000000000000)))
                            refine g_iinc 125 (gd rfl) rfl rfl (Nat.le_of_ble_eq_true rfl) (fun z122 e122 => ?_)
                            have i122 := in_add 1 120 e122 i8 (in_c 1 rfl) rfl rfl
                            refine g_goto 5 (gd rfl) rfl ?_
                            have n5 : (z89).toInt ≤ (z122).toInt := by (first | have a0 := oa6 i8a h1 i8 j5_3 i24 i122 | ((first | have a0 := in_u i8a | (have a0 := i8a; unfold In at a0)); (first | have a1 := in_u h1 | (have a1 := h1; unfold In at a1)); (first | have a2 := in_u i8 | (have a2 := i8; unfold In at a2)); (first | have a3 := in_u j5_3 | (have a3 := j5_3; unfold In at a3)); (first | have a4 := in_u i24 | (have a4 := i24; unfold In at a4)); (first | have a5 := in_u i122 | (have a5 := i122; unfold In at a5)))); have a6 := t_add e122 i8 (in_c 1 rfl) rfl; (first | have a7 := oa2 ((in_c 1 rfl)) i117 | ((first | have a7 := in_u ((in_c 1 rfl)) | (have a7 := (in_c 1 rfl); unfold In at a7)); (first | have a8 := in_u i117 | (have a8 := i117; unfold In at a8)))); have a9 := t_add e89 j5_3 (in_c (-1) rfl) rfl; (first | have a10 := oa2 ((in_c (-1) rfl)) i111 | ((first | have a10 := in_u ((in_c (-1) rfl)) | (have a10 := (in_c (-1) rfl); unfold In at a10)); (first | have a11 := in_u i111 | (have a11 := i111; unfold In at a11)))); have a12 := t_sub e110 i89 (in_c 1 rfl) rfl; (first | have a13 := in_u i118x1 | (have a13 := i118x1; unfold In at a13)); have a14 := t_sub e103 i24 (in_c 1000100 rfl) rfl; (first | have a15 := oa2 ((in_c 1000100 rfl)) i121 | ((first | have a15 := in_u ((in_c 1000100 rfl)) | (have a15 := (in_c 1000100 rfl); unfold In at a15)); (first | have a16 := in_u i121 | (have a16 := i121; unfold In at a16)))); have a17 := t_sub e98 i89 (in_c 1 rfl) rfl; omega
                            have n5a : CS (sL sc5 105 z98.toNatClampNeg (Int64.ofInt (-1000000000000))) x1 z122 z89 := by first | exact hk2 _ _ (by (first | have a0 := oa6 i8a h1 i8 j5_3 i24 i122 | ((first | have a0 := in_u i8a | (have a0 := i8a; unfold In at a0)); (first | have a1 := in_u h1 | (have a1 := h1; unfold In at a1)); (first | have a2 := in_u i8 | (have a2 := i8; unfold In at a2)); (first | have a3 := in_u j5_3 | (have a3 := j5_3; unfold In at a3)); (first | have a4 := in_u i24 | (have a4 := i24; unfold In at a4)); (first | have a5 := in_u i122 | (have a5 := i122; unfold In at a5)))); have a6 := t_add e122 i8 (in_c 1 rfl) rfl; (first | have a7 := oa2 ((in_c 1 rfl)) i117 | ((first | have a7 := in_u ((in_c 1 rfl)) | (have a7 := (in_c 1 rfl); unfold In at a7)); (first | have a8 := in_u i117 | (have a8 := i117; unfold In at a8)))); have a9 := t_add e89 j5_3 (in_c (-1) rfl) rfl; (first | have a10 := oa2 ((in_c (-1) rfl)) i111 | ((first | have a10 := in_u ((in_c (-1) rfl)) | (have a10 := (in_c (-1) rfl); unfold In at a10)); (first | have a11 := in_u i111 | (have a11 := i111; unfold In at a11)))); have a12 := t_sub e110 i89 (in_c 1 rfl) rfl; (first | have a13 := in_u i118x1 | (have a13 := i118x1; unfold In at a13)); have a14 := t_sub e103 i24 (in_c 1000100 rfl) rfl; (first | have a15 := oa2 ((in_c 1000100 rfl)) i121 | ((first | have a15 := in_u ((in_c 1000100 rfl)) | (have a15 := (in_c 1000100 rfl); unfold In at a15)); (first | have a16 := in_u i121 | (have a16 := i121; unfold In at a16)))); have a17 := t_sub e98 i89 (in_c 1 rfl) rfl; omega) (by (first | have a0 := oa6 i8a h1 i8 j5_3 i24 i122 | ((first | have a0 := in_u i8a | (have a0 := i8a; unfold In at a0)); (first | have a1 := in_u h1 | (have a1 := h1; unfold In at a1)); (first | have a2 := in_u i8 | (have a2 := i8; unfold In at a2)); (first | have a3 := in_u j5_3 | (have a3 := j5_3; unfold In at a3)); (first | have a4 := in_u i24 | (have a4 := i24; unfold In at a4)); (first | have a5 := in_u i122 | (have a5 := i122; unfold In at a5)))); have a6 := t_add e122 i8 (in_c 1 rfl) rfl; (first | have a7 := oa2 ((in_c 1 rfl)) i117 | ((first | have a7 := in_u ((in_c 1 rfl)) | (have a7 := (in_c 1 rfl); unfold In at a7)); (first | have a8 := in_u i117 | (have a8 := i117; unfold In at a8)))); have a9 := t_add e89 j5_3 (in_c (-1) rfl) rfl; (first | have a10 := oa2 ((in_c (-1) rfl)) i111 | ((first | have a10 := in_u ((in_c (-1) rfl)) | (have a10 := (in_c (-1) rfl); unfold In at a10)); (first | have a11 := in_u i111 | (have a11 := i111; unfold In at a11)))); have a12 := t_sub e110 i89 (in_c 1 rfl) rfl; (first | have a13 := in_u i118x1 | (have a13 := i118x1; unfold In at a13)); have a14 := t_sub e103 i24 (in_c 1000100 rfl) rfl; (first | have a15 := oa2 ((in_c 1000100 rfl)) i121 | ((first | have a15 := in_u ((in_c 1000100 rfl)) | (have a15 := (in_c 1000100 rfl); unfold In at a15)); (first | have a16 := in_u i121 | (have a16 := i121; unfold In at a16)))); have a17 := t_sub e98 i89 (in_c 1 rfl) rfl; omega) | exact cs_0 rfl h1.1
                            exact gg_w (by first | exact Nat.le_add_right _ _ | exact gw2 | exact gw3 | exact gwe rfl | exact gwf rfl | exact gwg rfl | exact gwh rfl | omega) (gg_f (gf_cons rfl (gf_cons rfl (gf_cons rfl (gf_cons rfl (gf_cons rfl gf_nil))))) (ih5 (sL sc5 105 z98.toNatClampNeg (Int64.ofInt (-1000000000000))) z89 z122 hI121 (fr_sL rfl hFc5) (in_w 0 120 i117 rfl) (in_w 0 120 i122 rfl) n5 n5a (m_up mm5 (t_add e122 i8 (in_c 1 rfl) rfl) (in_w 1 1 (in_c 1 rfl) rfl))))
                          · skip
                            exact n_eq c118x60x48 (in_c 1 rfl) (in_c 0 rfl) rfl
                        · skip
                          have i118x60x40 := z_gt 1 1 c118x60x40 i118x60x39 rfl
                          have c118x60x40a := lc_gt e118x60x39 c118x60x40
                          exact ln_lt c118x60x40a (l_c 0 rfl) i118x60x7x3a rfl
                    · skip
                      have i118x60x19 := z_le (-1) 0 c118x60x19 i118x60x18 rfl
                      have c118x60x19a := lc_le e118x60x18 c118x60x19
                      refine g_lload_n 23 (gd rfl) rfl rfl ?_
                      refine g_lload_n 24 (gd rfl) rfl rfl ?_
                      refine g_lmul 25 (gd rfl) rfl (fun z118x60x24 e118x60x24 => ?_)
                      refine g_lreturn (gd rfl) rfl (hp118x60 _ _ ?_)
                      show GG _ _ _ _ _ _ _ _ [.long z118x60x24] _ _ _
                      refine g_lreturn (gd rfl) rfl (hp118 _ _ ?_)
                      show GG _ _ _ _ _ _ _ _ [.long z118x60x24, .int z98, .ref (A 105)] _ _ _
                      have i121 : In z98 0 119 := by (first | have a0 := oa6 i8a h1 i8 j5_3 i24 i117 | ((first | have a0 := in_u i8a | (have a0 := i8a; unfold In at a0)); (first | have a1 := in_u h1 | (have a1 := h1; unfold In at a1)); (first | have a2 := in_u i8 | (have a2 := i8; unfold In at a2)); (first | have a3 := in_u j5_3 | (have a3 := j5_3; unfold In at a3)); (first | have a4 := in_u i24 | (have a4 := i24; unfold In at a4)); (first | have a5 := in_u i117 | (have a5 := i117; unfold In at a5)))); have a6 := t_add e89 j5_3 (in_c (-1) rfl) rfl; (first | have a7 := oa2 ((in_c (-1) rfl)) i111 | ((first | have a7 := in_u ((in_c (-1) rfl)) | (have a7 := (in_c (-1) rfl); unfold In at a7)); (first | have a8 := in_u i111 | (have a8 := i111; unfold In at a8)))); have a9 := t_sub e110 i89 (in_c 1 rfl) rfl; (first | have a10 := oa2 ((in_c 1 rfl)) i118x1 | ((first | have a10 := in_u ((in_c 1 rfl)) | (have a10 := (in_c 1 rfl); unfold In at a10)); (first | have a11 := in_u i118x1 | (have a11 := i118x1; unfold In at a11)))); have a12 := t_sub e103 i24 (in_c 1000100 rfl) rfl; (first | have a13 := oa2 ((in_c 1000100 rfl)) i98 | ((first | have a13 := in_u ((in_c 1000100 rfl)) | (have a13 := (in_c 1000100 rfl); unfold In at a13)); (first | have a14 := in_u i98 | (have a14 := i98; unfold In at a14)))); have a15 := t_sub e98 i89 (in_c 1 rfl) rfl; exact ⟨by omega, by omega⟩
                      refine g_lastore 122 (gd rfl) rfl (n := 120) rfl (in_ix i121 rfl) ?_
                      have hI121 := inv_sL (q := 105) (j := z98.toNatClampNeg) (x := z118x60x24) hIc5 rfl (l_rng z118x60x24)
                      refine g_iinc 125 (gd rfl) rfl rfl (Nat.le_of_ble_eq_true rfl) (fun z122 e122 => ?_)
                      have i122 := in_add 1 120 e122 i8 (in_c 1 rfl) rfl rfl
                      refine g_goto 5 (gd rfl) rfl ?_
                      have n5 : (z89).toInt ≤ (z122).toInt := by (first | have a0 := oa6 i8a h1 i8 j5_3 i24 i122 | ((first | have a0 := in_u i8a | (have a0 := i8a; unfold In at a0)); (first | have a1 := in_u h1 | (have a1 := h1; unfold In at a1)); (first | have a2 := in_u i8 | (have a2 := i8; unfold In at a2)); (first | have a3 := in_u j5_3 | (have a3 := j5_3; unfold In at a3)); (first | have a4 := in_u i24 | (have a4 := i24; unfold In at a4)); (first | have a5 := in_u i122 | (have a5 := i122; unfold In at a5)))); have a6 := t_add e122 i8 (in_c 1 rfl) rfl; (first | have a7 := oa2 ((in_c 1 rfl)) i117 | ((first | have a7 := in_u ((in_c 1 rfl)) | (have a7 := (in_c 1 rfl); unfold In at a7)); (first | have a8 := in_u i117 | (have a8 := i117; unfold In at a8)))); have a9 := t_add e89 j5_3 (in_c (-1) rfl) rfl; (first | have a10 := oa2 ((in_c (-1) rfl)) i111 | ((first | have a10 := in_u ((in_c (-1) rfl)) | (have a10 := (in_c (-1) rfl); unfold In at a10)); (first | have a11 := in_u i111 | (have a11 := i111; unfold In at a11)))); have a12 := t_sub e110 i89 (in_c 1 rfl) rfl; (first | have a13 := in_u i118x1 | (have a13 := i118x1; unfold In at a13)); have a14 := t_sub e103 i24 (in_c 1000100 rfl) rfl; (first | have a15 := oa2 ((in_c 1000100 rfl)) i121 | ((first | have a15 := in_u ((in_c 1000100 rfl)) | (have a15 := (in_c 1000100 rfl); unfold In at a15)); (first | have a16 := in_u i121 | (have a16 := i121; unfold In at a16)))); have a17 := t_sub e98 i89 (in_c 1 rfl) rfl; omega
                      have n5a : CS (sL sc5 105 z98.toNatClampNeg z118x60x24) x1 z122 z89 := by first | exact hk2 _ _ (by (first | have a0 := oa6 i8a h1 i8 j5_3 i24 i122 | ((first | have a0 := in_u i8a | (have a0 := i8a; unfold In at a0)); (first | have a1 := in_u h1 | (have a1 := h1; unfold In at a1)); (first | have a2 := in_u i8 | (have a2 := i8; unfold In at a2)); (first | have a3 := in_u j5_3 | (have a3 := j5_3; unfold In at a3)); (first | have a4 := in_u i24 | (have a4 := i24; unfold In at a4)); (first | have a5 := in_u i122 | (have a5 := i122; unfold In at a5)))); have a6 := t_add e122 i8 (in_c 1 rfl) rfl; (first | have a7 := oa2 ((in_c 1 rfl)) i117 | ((first | have a7 := in_u ((in_c 1 rfl)) | (have a7 := (in_c 1 rfl); unfold In at a7)); (first | have a8 := in_u i117 | (have a8 := i117; unfold In at a8)))); have a9 := t_add e89 j5_3 (in_c (-1) rfl) rfl; (first | have a10 := oa2 ((in_c (-1) rfl)) i111 | ((first | have a10 := in_u ((in_c (-1) rfl)) | (have a10 := (in_c (-1) rfl); unfold In at a10)); (first | have a11 := in_u i111 | (have a11 := i111; unfold In at a11)))); have a12 := t_sub e110 i89 (in_c 1 rfl) rfl; (first | have a13 := in_u i118x1 | (have a13 := i118x1; unfold In at a13)); have a14 := t_sub e103 i24 (in_c 1000100 rfl) rfl; (first | have a15 := oa2 ((in_c 1000100 rfl)) i121 | ((first | have a15 := in_u ((in_c 1000100 rfl)) | (have a15 := (in_c 1000100 rfl); unfold In at a15)); (first | have a16 := in_u i121 | (have a16 := i121; unfold In at a16)))); have a17 := t_sub e98 i89 (in_c 1 rfl) rfl; omega) (by (first | have a0 := oa6 i8a h1 i8 j5_3 i24 i122 | ((first | have a0 := in_u i8a | (have a0 := i8a; unfold In at a0)); (first | have a1 := in_u h1 | (have a1 := h1; unfold In at a1)); (first | have a2 := in_u i8 | (have a2 := i8; unfold In at a2)); (first | have a3 := in_u j5_3 | (have a3 := j5_3; unfold In at a3)); (first | have a4 := in_u i24 | (have a4 := i24; unfold In at a4)); (first | have a5 := in_u i122 | (have a5 := i122; unfold In at a5)))); have a6 := t_add e122 i8 (in_c 1 rfl) rfl; (first | have a7 := oa2 ((in_c 1 rfl)) i117 | ((first | have a7 := in_u ((in_c 1 rfl)) | (have a7 := (in_c 1 rfl); unfold In at a7)); (first | have a8 := in_u i117 | (have a8 := i117; unfold In at a8)))); have a9 := t_add e89 j5_3 (in_c (-1) rfl) rfl; (first | have a10 := oa2 ((in_c (-1) rfl)) i111 | ((first | have a10 := in_u ((in_c (-1) rfl)) | (have a10 := (in_c (-1) rfl); unfold In at a10)); (first | have a11 := in_u i111 | (have a11 := i111; unfold In at a11)))); have a12 := t_sub e110 i89 (in_c 1 rfl) rfl; (first | have a13 := in_u i118x1 | (have a13 := i118x1; unfold In at a13)); have a14 := t_sub e103 i24 (in_c 1000100 rfl) rfl; (first | have a15 := oa2 ((in_c 1000100 rfl)) i121 | ((first | have a15 := in_u ((in_c 1000100 rfl)) | (have a15 := (in_c 1000100 rfl); unfold In at a15)); (first | have a16 := in_u i121 | (have a16 := i121; unfold In at a16)))); have a17 := t_sub e98 i89 (in_c 1 rfl) rfl; omega) | exact cs_0 rfl h1.1
                      exact gg_w (by first | exact Nat.le_add_right _ _ | exact gw2 | exact gw3 | exact gwe rfl | exact gwf rfl | exact gwg rfl | exact gwh rfl | omega) (gg_f (gf_cons rfl (gf_cons rfl (gf_cons rfl (gf_cons rfl (gf_cons rfl gf_nil))))) (ih5 (sL sc5 105 z98.toNatClampNeg z118x60x24) z89 z122 hI121 (fr_sL rfl hFc5) (in_w 0 120 i117 rfl) (in_w 0 120 i122 rfl) n5 n5a (m_up mm5 (t_add e122 i8 (in_c 1 rfl) rfl) (in_w 1 1 (in_c 1 rfl) rfl))))
                  · skip
                    have i118x60x14x3 := z_lt (-1) (-1) c118x60x14x3 i118x60x14x2 rfl
                    have c118x60x14x3a := lc_lt e118x60x14x2 c118x60x14x3
                    have i118x60x14x3a := lr_lt1 (-9223372036854775808) (-1) c118x60x14x3a (l_rng z111) (l_c 0 rfl) rfl
                    refine g_lload_n 7 (gd rfl) rfl rfl ?_
                    refine g_lneg 8 (gd rfl) rfl (fun z118x60x14x7 e118x60x14x7 => ?_)
                    refine g_goto 12 (gd rfl) rfl ?_
                    refine g_lreturn (gd rfl) rfl (hp118x60x14 _ _ ?_)
                    show GG _ _ _ _ _ _ _ _ [.long z118x60x14x7, .long (Int64.ofInt 1000000000000), .long z118x60x7x7] _ _ _
                    refine g_ldiv 18 (gd rfl) rfl (lnz (lneg_nz e118x60x14x7 (nz_l c118x60x3a))) (fun z118x60x17 e118x60x17 => ?_)
                    refine g_lcmp 19 (gd rfl) rfl (fun z118x60x18 e118x60x18 => ?_)
                    have i118x60x18 := lc_in e118x60x18
                    refine g_if_gt 22 26 (gd rfl) rfl rfl (fun c118x60x19 => ?_) (fun c118x60x19 => ?_)
                    · skip
                      have i118x60x19 := z_gt 1 1 c118x60x19 i118x60x18 rfl
                      have c118x60x19a := lc_gt e118x60x18 c118x60x19
                      have i118x60x19a := lr_lt1 (-9223372036854775808) 9223372036854775806 c118x60x19a (l_rng z118x60x17) (l_rng z118x60x7x7) rfl
                      have i118x60x19b := lr_lt2 (-9223372036854775807) 9223372036854775807 c118x60x19a (l_rng z118x60x17) (l_rng z118x60x7x7) rfl
                      refine g_lload_n 27 (gd rfl) rfl rfl ?_
                      refine g_lconst 0 28 (gd rfl) rfl rfl ?_
                      refine g_lcmp 29 (gd rfl) rfl (fun z118x60x28 e118x60x28 => ?_)
                      have i118x60x28 := lc_in e118x60x28
                      refine g_if_le 32 36 (gd rfl) rfl rfl (fun c118x60x29 => ?_) (fun c118x60x29 => ?_)
                      · skip
                        have i118x60x29 := z_le (-1) 0 c118x60x29 i118x60x28 rfl
                        have c118x60x29a := lc_le e118x60x28 c118x60x29
                        refine g_iconst 0 37 (gd rfl) rfl rfl ?_
                        refine g_lload_n 38 (gd rfl) rfl rfl ?_
                        refine g_lconst 0 39 (gd rfl) rfl rfl ?_
                        refine g_lcmp 40 (gd rfl) rfl (fun z118x60x39 e118x60x39 => ?_)
                        have i118x60x39 := lc_in e118x60x39
                        refine g_if_le 43 47 (gd rfl) rfl rfl (fun c118x60x40 => ?_) (fun c118x60x40 => ?_)
                        · skip
                          have i118x60x40 := z_le (-1) 0 c118x60x40 i118x60x39 rfl
                          have c118x60x40a := lc_le e118x60x39 c118x60x40
                          refine g_iconst 0 48 (gd rfl) rfl rfl ?_
                          refine g_cmp_ne 51 57 (gd rfl) rfl rfl (fun c118x60x48 => ?_) (fun c118x60x48 => ?_)
                          · skip
                            exact n_ne c118x60x48 (in_c 0 rfl) (in_c 0 rfl) rfl
                          · skip
                            refine g_ldc2_w 1000000000000 54 (gd rfl) rfl rfl ?_
                            refine g_goto 60 (gd rfl) rfl ?_
                            refine g_lreturn (gd rfl) rfl (hp118x60 _ _ ?_)
                            show GG _ _ _ _ _ _ _ _ [.long (Int64.ofInt 1000000000000)] _ _ _
                            refine g_lreturn (gd rfl) rfl (hp118 _ _ ?_)
                            show GG _ _ _ _ _ _ _ _ [.long (Int64.ofInt 1000000000000), .int z98, .ref (A 105)] _ _ _
                            have i121 : In z98 0 119 := by (first | have a0 := oa6 i8a h1 i8 j5_3 i24 i117 | ((first | have a0 := in_u i8a | (have a0 := i8a; unfold In at a0)); (first | have a1 := in_u h1 | (have a1 := h1; unfold In at a1)); (first | have a2 := in_u i8 | (have a2 := i8; unfold In at a2)); (first | have a3 := in_u j5_3 | (have a3 := j5_3; unfold In at a3)); (first | have a4 := in_u i24 | (have a4 := i24; unfold In at a4)); (first | have a5 := in_u i117 | (have a5 := i117; unfold In at a5)))); have a6 := t_add e89 j5_3 (in_c (-1) rfl) rfl; (first | have a7 := oa2 ((in_c (-1) rfl)) i111 | ((first | have a7 := in_u ((in_c (-1) rfl)) | (have a7 := (in_c (-1) rfl); unfold In at a7)); (first | have a8 := in_u i111 | (have a8 := i111; unfold In at a8)))); have a9 := t_sub e110 i89 (in_c 1 rfl) rfl; (first | have a10 := oa2 ((in_c 1 rfl)) i118x1 | ((first | have a10 := in_u ((in_c 1 rfl)) | (have a10 := (in_c 1 rfl); unfold In at a10)); (first | have a11 := in_u i118x1 | (have a11 := i118x1; unfold In at a11)))); have a12 := t_sub e103 i24 (in_c 1000100 rfl) rfl; (first | have a13 := oa2 ((in_c 1000100 rfl)) i98 | ((first | have a13 := in_u ((in_c 1000100 rfl)) | (have a13 := (in_c 1000100 rfl); unfold In at a13)); (first | have a14 := in_u i98 | (have a14 := i98; unfold In at a14)))); have a15 := t_sub e98 i89 (in_c 1 rfl) rfl; exact ⟨by omega, by omega⟩
                            refine g_lastore 122 (gd rfl) rfl (n := 120) rfl (in_ix i121 rfl) ?_
                            have hI121 := inv_sL (q := 105) (j := z98.toNatClampNeg) (x := (Int64.ofInt 1000000000000)) hIc5 rfl (l_rng (Int64.ofInt 1000000000000))
                            refine g_iinc 125 (gd rfl) rfl rfl (Nat.le_of_ble_eq_true rfl) (fun z122 e122 => ?_)
                            have i122 := in_add 1 120 e122 i8 (in_c 1 rfl) rfl rfl
                            refine g_goto 5 (gd rfl) rfl ?_
                            have n5 : (z89).toInt ≤ (z122).toInt := by (first | have a0 := oa6 i8a h1 i8 j5_3 i24 i122 | ((first | have a0 := in_u i8a | (have a0 := i8a; unfold In at a0)); (first | have a1 := in_u h1 | (have a1 := h1; unfold In at a1)); (first | have a2 := in_u i8 | (have a2 := i8; unfold In at a2)); (first | have a3 := in_u j5_3 | (have a3 := j5_3; unfold In at a3)); (first | have a4 := in_u i24 | (have a4 := i24; unfold In at a4)); (first | have a5 := in_u i122 | (have a5 := i122; unfold In at a5)))); have a6 := t_add e122 i8 (in_c 1 rfl) rfl; (first | have a7 := oa2 ((in_c 1 rfl)) i117 | ((first | have a7 := in_u ((in_c 1 rfl)) | (have a7 := (in_c 1 rfl); unfold In at a7)); (first | have a8 := in_u i117 | (have a8 := i117; unfold In at a8)))); have a9 := t_add e89 j5_3 (in_c (-1) rfl) rfl; (first | have a10 := oa2 ((in_c (-1) rfl)) i111 | ((first | have a10 := in_u ((in_c (-1) rfl)) | (have a10 := (in_c (-1) rfl); unfold In at a10)); (first | have a11 := in_u i111 | (have a11 := i111; unfold In at a11)))); have a12 := t_sub e110 i89 (in_c 1 rfl) rfl; (first | have a13 := in_u i118x1 | (have a13 := i118x1; unfold In at a13)); have a14 := t_sub e103 i24 (in_c 1000100 rfl) rfl; (first | have a15 := oa2 ((in_c 1000100 rfl)) i121 | ((first | have a15 := in_u ((in_c 1000100 rfl)) | (have a15 := (in_c 1000100 rfl); unfold In at a15)); (first | have a16 := in_u i121 | (have a16 := i121; unfold In at a16)))); have a17 := t_sub e98 i89 (in_c 1 rfl) rfl; omega
                            have n5a : CS (sL sc5 105 z98.toNatClampNeg (Int64.ofInt 1000000000000)) x1 z122 z89 := by first | exact hk2 _ _ (by (first | have a0 := oa6 i8a h1 i8 j5_3 i24 i122 | ((first | have a0 := in_u i8a | (have a0 := i8a; unfold In at a0)); (first | have a1 := in_u h1 | (have a1 := h1; unfold In at a1)); (first | have a2 := in_u i8 | (have a2 := i8; unfold In at a2)); (first | have a3 := in_u j5_3 | (have a3 := j5_3; unfold In at a3)); (first | have a4 := in_u i24 | (have a4 := i24; unfold In at a4)); (first | have a5 := in_u i122 | (have a5 := i122; unfold In at a5)))); have a6 := t_add e122 i8 (in_c 1 rfl) rfl; (first | have a7 := oa2 ((in_c 1 rfl)) i117 | ((first | have a7 := in_u ((in_c 1 rfl)) | (have a7 := (in_c 1 rfl); unfold In at a7)); (first | have a8 := in_u i117 | (have a8 := i117; unfold In at a8)))); have a9 := t_add e89 j5_3 (in_c (-1) rfl) rfl; (first | have a10 := oa2 ((in_c (-1) rfl)) i111 | ((first | have a10 := in_u ((in_c (-1) rfl)) | (have a10 := (in_c (-1) rfl); unfold In at a10)); (first | have a11 := in_u i111 | (have a11 := i111; unfold In at a11)))); have a12 := t_sub e110 i89 (in_c 1 rfl) rfl; (first | have a13 := in_u i118x1 | (have a13 := i118x1; unfold In at a13)); have a14 := t_sub e103 i24 (in_c 1000100 rfl) rfl; (first | have a15 := oa2 ((in_c 1000100 rfl)) i121 | ((first | have a15 := in_u ((in_c 1000100 rfl)) | (have a15 := (in_c 1000100 rfl); unfold In at a15)); (first | have a16 := in_u i121 | (have a16 := i121; unfold In at a16)))); have a17 := t_sub e98 i89 (in_c 1 rfl) rfl; omega) (by (first | have a0 := oa6 i8a h1 i8 j5_3 i24 i122 | ((first | have a0 := in_u i8a | (have a0 := i8a; unfold In at a0)); (first | have a1 := in_u h1 | (have a1 := h1; unfold In at a1)); (first | have a2 := in_u i8 | (have a2 := i8; unfold In at a2)); (first | have a3 := in_u j5_3 | (have a3 := j5_3; unfold In at a3)); (first | have a4 := in_u i24 | (have a4 := i24; unfold In at a4)); (first | have a5 := in_u i122 | (have a5 := i122; unfold In at a5)))); have a6 := t_add e122 i8 (in_c 1 rfl) rfl; (first | have a7 := oa2 ((in_c 1 rfl)) i117 | ((first | have a7 := in_u ((in_c 1 rfl)) | (have a7 := (in_c 1 rfl); unfold In at a7)); (first | have a8 := in_u i117 | (have a8 := i117; unfold In at a8)))); have a9 := t_add e89 j5_3 (in_c (-1) rfl) rfl; (first | have a10 := oa2 ((in_c (-1) rfl)) i111 | ((first | have a10 := in_u ((in_c (-1) rfl)) | (have a10 := (in_c (-1) rfl); unfold In at a10)); (first | have a11 := in_u i111 | (have a11 := i111; unfold In at a11)))); have a12 := t_sub e110 i89 (in_c 1 rfl) rfl; (first | have a13 := in_u i118x1 | (have a13 := i118x1; unfold In at a13)); have a14 := t_sub e103 i24 (in_c 1000100 rfl) rfl; (first | have a15 := oa2 ((in_c 1000100 rfl)) i121 | ((first | have a15 := in_u ((in_c 1000100 rfl)) | (have a15 := (in_c 1000100 rfl); unfold In at a15)); (first | have a16 := in_u i121 | (have a16 := i121; unfold In at a16)))); have a17 := t_sub e98 i89 (in_c 1 rfl) rfl; omega) | exact cs_0 rfl h1.1
                            exact gg_w (by first | exact Nat.le_add_right _ _ | exact gw2 | exact gw3 | exact gwe rfl | exact gwf rfl | exact gwg rfl | exact gwh rfl | omega) (gg_f (gf_cons rfl (gf_cons rfl (gf_cons rfl (gf_cons rfl (gf_cons rfl gf_nil))))) (ih5 (sL sc5 105 z98.toNatClampNeg (Int64.ofInt 1000000000000)) z89 z122 hI121 (fr_sL rfl hFc5) (in_w 0 120 i117 rfl) (in_w 0 120 i122 rfl) n5 n5a (m_up mm5 (t_add e122 i8 (in_c 1 rfl) rfl) (in_w 1 1 (in_c 1 rfl) rfl))))
                        · skip
                          have i118x60x40 := z_gt 1 1 c118x60x40 i118x60x39 rfl
                          have c118x60x40a := lc_gt e118x60x39 c118x60x40
                          exact ln_lt c118x60x40a (l_c 0 rfl) i118x60x7x3a rfl
                      · skip
                        have i118x60x29 := z_gt 1 1 c118x60x29 i118x60x28 rfl
                        have c118x60x29a := lc_gt e118x60x28 c118x60x29
                        exact ln_lt c118x60x29a (l_c 0 rfl) i118x60x14x3a rfl
                    · skip
                      have i118x60x19 := z_le (-1) 0 c118x60x19 i118x60x18 rfl
                      have c118x60x19a := lc_le e118x60x18 c118x60x19
                      refine g_lload_n 23 (gd rfl) rfl rfl ?_
                      refine g_lload_n 24 (gd rfl) rfl rfl ?_
                      refine g_lmul 25 (gd rfl) rfl (fun z118x60x24 e118x60x24 => ?_)
                      refine g_lreturn (gd rfl) rfl (hp118x60 _ _ ?_)
                      show GG _ _ _ _ _ _ _ _ [.long z118x60x24] _ _ _
                      refine g_lreturn (gd rfl) rfl (hp118 _ _ ?_)
                      show GG _ _ _ _ _ _ _ _ [.long z118x60x24, .int z98, .ref (A 105)] _ _ _
                      have i121 : In z98 0 119 := by (first | have a0 := oa6 i8a h1 i8 j5_3 i24 i117 | ((first | have a0 := in_u i8a | (have a0 := i8a; unfold In at a0)); (first | have a1 := in_u h1 | (have a1 := h1; unfold In at a1)); (first | have a2 := in_u i8 | (have a2 := i8; unfold In at a2)); (first | have a3 := in_u j5_3 | (have a3 := j5_3; unfold In at a3)); (first | have a4 := in_u i24 | (have a4 := i24; unfold In at a4)); (first | have a5 := in_u i117 | (have a5 := i117; unfold In at a5)))); have a6 := t_add e89 j5_3 (in_c (-1) rfl) rfl; (first | have a7 := oa2 ((in_c (-1) rfl)) i111 | ((first | have a7 := in_u ((in_c (-1) rfl)) | (have a7 := (in_c (-1) rfl); unfold In at a7)); (first | have a8 := in_u i111 | (have a8 := i111; unfold In at a8)))); have a9 := t_sub e110 i89 (in_c 1 rfl) rfl; (first | have a10 := oa2 ((in_c 1 rfl)) i118x1 | ((first | have a10 := in_u ((in_c 1 rfl)) | (have a10 := (in_c 1 rfl); unfold In at a10)); (first | have a11 := in_u i118x1 | (have a11 := i118x1; unfold In at a11)))); have a12 := t_sub e103 i24 (in_c 1000100 rfl) rfl; (first | have a13 := oa2 ((in_c 1000100 rfl)) i98 | ((first | have a13 := in_u ((in_c 1000100 rfl)) | (have a13 := (in_c 1000100 rfl); unfold In at a13)); (first | have a14 := in_u i98 | (have a14 := i98; unfold In at a14)))); have a15 := t_sub e98 i89 (in_c 1 rfl) rfl; exact ⟨by omega, by omega⟩
                      refine g_lastore 122 (gd rfl) rfl (n := 120) rfl (in_ix i121 rfl) ?_
                      have hI121 := inv_sL (q := 105) (j := z98.toNatClampNeg) (x := z118x60x24) hIc5 rfl (l_rng z118x60x24)
                      refine g_iinc 125 (gd rfl) rfl rfl (Nat.le_of_ble_eq_true rfl) (fun z122 e122 => ?_)
                      have i122 := in_add 1 120 e122 i8 (in_c 1 rfl) rfl rfl
                      refine g_goto 5 (gd rfl) rfl ?_
                      have n5 : (z89).toInt ≤ (z122).toInt := by (first | have a0 := oa6 i8a h1 i8 j5_3 i24 i122 | ((first | have a0 := in_u i8a | (have a0 := i8a; unfold In at a0)); (first | have a1 := in_u h1 | (have a1 := h1; unfold In at a1)); (first | have a2 := in_u i8 | (have a2 := i8; unfold In at a2)); (first | have a3 := in_u j5_3 | (have a3 := j5_3; unfold In at a3)); (first | have a4 := in_u i24 | (have a4 := i24; unfold In at a4)); (first | have a5 := in_u i122 | (have a5 := i122; unfold In at a5)))); have a6 := t_add e122 i8 (in_c 1 rfl) rfl; (first | have a7 := oa2 ((in_c 1 rfl)) i117 | ((first | have a7 := in_u ((in_c 1 rfl)) | (have a7 := (in_c 1 rfl); unfold In at a7)); (first | have a8 := in_u i117 | (have a8 := i117; unfold In at a8)))); have a9 := t_add e89 j5_3 (in_c (-1) rfl) rfl; (first | have a10 := oa2 ((in_c (-1) rfl)) i111 | ((first | have a10 := in_u ((in_c (-1) rfl)) | (have a10 := (in_c (-1) rfl); unfold In at a10)); (first | have a11 := in_u i111 | (have a11 := i111; unfold In at a11)))); have a12 := t_sub e110 i89 (in_c 1 rfl) rfl; (first | have a13 := in_u i118x1 | (have a13 := i118x1; unfold In at a13)); have a14 := t_sub e103 i24 (in_c 1000100 rfl) rfl; (first | have a15 := oa2 ((in_c 1000100 rfl)) i121 | ((first | have a15 := in_u ((in_c 1000100 rfl)) | (have a15 := (in_c 1000100 rfl); unfold In at a15)); (first | have a16 := in_u i121 | (have a16 := i121; unfold In at a16)))); have a17 := t_sub e98 i89 (in_c 1 rfl) rfl; omega
                      have n5a : CS (sL sc5 105 z98.toNatClampNeg z118x60x24) x1 z122 z89 := by first | exact hk2 _ _ (by (first | have a0 := oa6 i8a h1 i8 j5_3 i24 i122 | ((first | have a0 := in_u i8a | (have a0 := i8a; unfold In at a0)); (first | have a1 := in_u h1 | (have a1 := h1; unfold In at a1)); (first | have a2 := in_u i8 | (have a2 := i8; unfold In at a2)); (first | have a3 := in_u j5_3 | (have a3 := j5_3; unfold In at a3)); (first | have a4 := in_u i24 | (have a4 := i24; unfold In at a4)); (first | have a5 := in_u i122 | (have a5 := i122; unfold In at a5)))); have a6 := t_add e122 i8 (in_c 1 rfl) rfl; (first | have a7 := oa2 ((in_c 1 rfl)) i117 | ((first | have a7 := in_u ((in_c 1 rfl)) | (have a7 := (in_c 1 rfl); unfold In at a7)); (first | have a8 := in_u i117 | (have a8 := i117; unfold In at a8)))); have a9 := t_add e89 j5_3 (in_c (-1) rfl) rfl; (first | have a10 := oa2 ((in_c (-1) rfl)) i111 | ((first | have a10 := in_u ((in_c (-1) rfl)) | (have a10 := (in_c (-1) rfl); unfold In at a10)); (first | have a11 := in_u i111 | (have a11 := i111; unfold In at a11)))); have a12 := t_sub e110 i89 (in_c 1 rfl) rfl; (first | have a13 := in_u i118x1 | (have a13 := i118x1; unfold In at a13)); have a14 := t_sub e103 i24 (in_c 1000100 rfl) rfl; (first | have a15 := oa2 ((in_c 1000100 rfl)) i121 | ((first | have a15 := in_u ((in_c 1000100 rfl)) | (have a15 := (in_c 1000100 rfl); unfold In at a15)); (first | have a16 := in_u i121 | (have a16 := i121; unfold In at a16)))); have a17 := t_sub e98 i89 (in_c 1 rfl) rfl; omega) (by (first | have a0 := oa6 i8a h1 i8 j5_3 i24 i122 | ((first | have a0 := in_u i8a | (have a0 := i8a; unfold In at a0)); (first | have a1 := in_u h1 | (have a1 := h1; unfold In at a1)); (first | have a2 := in_u i8 | (have a2 := i8; unfold In at a2)); (first | have a3 := in_u j5_3 | (have a3 := j5_3; unfold In at a3)); (first | have a4 := in_u i24 | (have a4 := i24; unfold In at a4)); (first | have a5 := in_u i122 | (have a5 := i122; unfold In at a5)))); have a6 := t_add e122 i8 (in_c 1 rfl) rfl; (first | have a7 := oa2 ((in_c 1 rfl)) i117 | ((first | have a7 := in_u ((in_c 1 rfl)) | (have a7 := (in_c 1 rfl); unfold In at a7)); (first | have a8 := in_u i117 | (have a8 := i117; unfold In at a8)))); have a9 := t_add e89 j5_3 (in_c (-1) rfl) rfl; (first | have a10 := oa2 ((in_c (-1) rfl)) i111 | ((first | have a10 := in_u ((in_c (-1) rfl)) | (have a10 := (in_c (-1) rfl); unfold In at a10)); (first | have a11 := in_u i111 | (have a11 := i111; unfold In at a11)))); have a12 := t_sub e110 i89 (in_c 1 rfl) rfl; (first | have a13 := in_u i118x1 | (have a13 := i118x1; unfold In at a13)); have a14 := t_sub e103 i24 (in_c 1000100 rfl) rfl; (first | have a15 := oa2 ((in_c 1000100 rfl)) i121 | ((first | have a15 := in_u ((in_c 1000100 rfl)) | (have a15 := (in_c 1000100 rfl); unfold In at a15)); (first | have a16 := in_u i121 | (have a16 := i121; unfold In at a16)))); have a17 := t_sub e98 i89 (in_c 1 rfl) rfl; omega) | exact cs_0 rfl h1.1
                      exact gg_w (by first | exact Nat.le_add_right _ _ | exact gw2 | exact gw3 | exact gwe rfl | exact gwf rfl | exact gwg rfl | exact gwh rfl | omega) (gg_f (gf_cons rfl (gf_cons rfl (gf_cons rfl (gf_cons rfl (gf_cons rfl gf_nil))))) (ih5 (sL sc5 105 z98.toNatClampNeg z118x60x24) z89 z122 hI121 (fr_sL rfl hFc5) (in_w 0 120 i117 rfl) (in_w 0 120 i122 rfl) n5 n5a (m_up mm5 (t_add e122 i8 (in_c 1 rfl) rfl) (in_w 1 1 (in_c 1 rfl) rfl))))
            · skip
              have i118x1 := sw_eq c118x1
              refine g_lload_n 45 (gd rfl) rfl rfl ?_
              refine g_lload_n 46 (gd rfl) rfl rfl ?_
              refine g_ladd 47 (gd rfl) rfl (fun z118x46 e118x46 => ?_)
              refine g_calls (As := [.long z118x46]) (r := []) 50 (gd rfl) rfl rfl rfl rfl rfl (Nat.le_of_ble_eq_true rfl) (mc := 0) (ms := 0) (Nat.zero_le _) (Nat.zero_le _) (P := fun v u => _) ?_ (fun v u h => h)
              intro po118x47 xx118x47 hp118x47 hx118x47
              refine g_enter2 (k := 69) (N := 300) (by first | exact dq1 hd rfl | exact dq0 hd rfl | exact dq2 hd rfl | exact dq3 hd rfl | omega) rfl (Nat.le_of_ble_eq_true rfl) ?_
              refine g_ldc2_w (-1000000000000) 3 (gd rfl) rfl rfl ?_
              refine g_ldc2_w 1000000000000 6 (gd rfl) rfl rfl ?_
              refine g_lload_n 7 (gd rfl) rfl rfl ?_
              refine g_calls (As := [.long (Int64.ofInt 1000000000000), .long z118x46]) (r := [.long (Int64.ofInt (-1000000000000))]) 10 (gd rfl) rfl rfl rfl rfl rfl (Nat.le_of_ble_eq_true rfl) (mc := 0) (ms := 0) (Nat.zero_le _) (Nat.zero_le _) (P := fun v u => _) ?_ (fun v u h => h)
              intro po118x47x7 xx118x47x7 hp118x47x7 hx118x47x7
              refine g_enter2 (k := 425) (N := 300) (by first | exact dq1 hd rfl | exact dq0 hd rfl | exact dq2 hd rfl | exact dq3 hd rfl | omega) rfl (Nat.le_of_ble_eq_true rfl) ?_
              refine g_lload_n 1 (gd rfl) rfl rfl ?_
              refine g_lload_n 2 (gd rfl) rfl rfl ?_
              refine g_lcmp 3 (gd rfl) rfl (fun z118x47x7x2 e118x47x7x2 => ?_)
              have i118x47x7x2 := lc_in e118x47x7x2
              refine g_if_gt 6 10 (gd rfl) rfl rfl (fun c118x47x7x3 => ?_) (fun c118x47x7x3 => ?_)
              · skip
                have i118x47x7x3 := z_gt 1 1 c118x47x7x3 i118x47x7x2 rfl
                have c118x47x7x3a := lc_gt e118x47x7x2 c118x47x7x3
                have i118x47x7x3a := lr_lt1 (-9223372036854775808) 999999999999 c118x47x7x3a (l_rng z118x46) (l_c 1000000000000 rfl) rfl
                refine g_lload_n 11 (gd rfl) rfl rfl ?_
                refine g_lreturn (gd rfl) rfl (hp118x47x7 _ _ ?_)
                show GG _ _ _ _ _ _ _ _ [.long z118x46, .long (Int64.ofInt (-1000000000000))] _ _ _
                refine g_calls (As := [.long (Int64.ofInt (-1000000000000)), .long z118x46]) (r := []) 13 (gd rfl) rfl rfl rfl rfl rfl (Nat.le_of_ble_eq_true rfl) (mc := 0) (ms := 0) (Nat.zero_le _) (Nat.zero_le _) (P := fun v u => _) ?_ (fun v u h => h)
                intro po118x47x10 xx118x47x10 hp118x47x10 hx118x47x10
                refine g_enter2 (k := 423) (N := 300) (by first | exact dq1 hd rfl | exact dq0 hd rfl | exact dq2 hd rfl | exact dq3 hd rfl | omega) rfl (Nat.le_of_ble_eq_true rfl) ?_
                refine g_lload_n 1 (gd rfl) rfl rfl ?_
                refine g_lload_n 2 (gd rfl) rfl rfl ?_
                refine g_lcmp 3 (gd rfl) rfl (fun z118x47x10x2 e118x47x10x2 => ?_)
                have i118x47x10x2 := lc_in e118x47x10x2
                refine g_if_lt 6 10 (gd rfl) rfl rfl (fun c118x47x10x3 => ?_) (fun c118x47x10x3 => ?_)
                · skip
                  have i118x47x10x3 := z_lt (-1) (-1) c118x47x10x3 i118x47x10x2 rfl
                  have c118x47x10x3a := lc_lt e118x47x10x2 c118x47x10x3
                  have i118x47x10x3a := lr_lt2 (-999999999999) 999999999999 c118x47x10x3a (l_c (-1000000000000) rfl) i118x47x7x3a rfl
                  refine g_lload_n 11 (gd rfl) rfl rfl ?_
                  refine g_lreturn (gd rfl) rfl (hp118x47x10 _ _ ?_)
                  show GG _ _ _ _ _ _ _ _ [.long z118x46] _ _ _
                  refine g_lreturn (gd rfl) rfl (hp118x47 _ _ ?_)
                  show GG _ _ _ _ _ _ _ _ [.long z118x46] _ _ _
                  refine g_lreturn (gd rfl) rfl (hp118 _ _ ?_)
                  show GG _ _ _ _ _ _ _ _ [.long z118x46, .int z98, .ref (A 105)] _ _ _
                  have i121 : In z98 0 119 := by (first | have a0 := oa6 i8a h1 i8 j5_3 i24 i117 | ((first | have a0 := in_u i8a | (have a0 := i8a; unfold In at a0)); (first | have a1 := in_u h1 | (have a1 := h1; unfold In at a1)); (first | have a2 := in_u i8 | (have a2 := i8; unfold In at a2)); (first | have a3 := in_u j5_3 | (have a3 := j5_3; unfold In at a3)); (first | have a4 := in_u i24 | (have a4 := i24; unfold In at a4)); (first | have a5 := in_u i117 | (have a5 := i117; unfold In at a5)))); have a6 := t_add e89 j5_3 (in_c (-1) rfl) rfl; (first | have a7 := oa2 ((in_c (-1) rfl)) i111 | ((first | have a7 := in_u ((in_c (-1) rfl)) | (have a7 := (in_c (-1) rfl); unfold In at a7)); (first | have a8 := in_u i111 | (have a8 := i111; unfold In at a8)))); have a9 := t_sub e110 i89 (in_c 1 rfl) rfl; (first | have a10 := oa2 ((in_c 1 rfl)) i118x1 | ((first | have a10 := in_u ((in_c 1 rfl)) | (have a10 := (in_c 1 rfl); unfold In at a10)); (first | have a11 := in_u i118x1 | (have a11 := i118x1; unfold In at a11)))); have a12 := t_sub e103 i24 (in_c 1000100 rfl) rfl; (first | have a13 := oa2 ((in_c 1000100 rfl)) i98 | ((first | have a13 := in_u ((in_c 1000100 rfl)) | (have a13 := (in_c 1000100 rfl); unfold In at a13)); (first | have a14 := in_u i98 | (have a14 := i98; unfold In at a14)))); have a15 := t_sub e98 i89 (in_c 1 rfl) rfl; exact ⟨by omega, by omega⟩
                  refine g_lastore 122 (gd rfl) rfl (n := 120) rfl (in_ix i121 rfl) ?_
                  have hI121 := inv_sL (q := 105) (j := z98.toNatClampNeg) (x := z118x46) hIc5 rfl (l_rng z118x46)
                  refine g_iinc 125 (gd rfl) rfl rfl (Nat.le_of_ble_eq_true rfl) (fun z122 e122 => ?_)
                  have i122 := in_add 1 120 e122 i8 (in_c 1 rfl) rfl rfl
                  refine g_goto 5 (gd rfl) rfl ?_
                  have n5 : (z89).toInt ≤ (z122).toInt := by (first | have a0 := oa6 i8a h1 i8 j5_3 i24 i122 | ((first | have a0 := in_u i8a | (have a0 := i8a; unfold In at a0)); (first | have a1 := in_u h1 | (have a1 := h1; unfold In at a1)); (first | have a2 := in_u i8 | (have a2 := i8; unfold In at a2)); (first | have a3 := in_u j5_3 | (have a3 := j5_3; unfold In at a3)); (first | have a4 := in_u i24 | (have a4 := i24; unfold In at a4)); (first | have a5 := in_u i122 | (have a5 := i122; unfold In at a5)))); have a6 := t_add e122 i8 (in_c 1 rfl) rfl; (first | have a7 := oa2 ((in_c 1 rfl)) i117 | ((first | have a7 := in_u ((in_c 1 rfl)) | (have a7 := (in_c 1 rfl); unfold In at a7)); (first | have a8 := in_u i117 | (have a8 := i117; unfold In at a8)))); have a9 := t_add e89 j5_3 (in_c (-1) rfl) rfl; (first | have a10 := oa2 ((in_c (-1) rfl)) i111 | ((first | have a10 := in_u ((in_c (-1) rfl)) | (have a10 := (in_c (-1) rfl); unfold In at a10)); (first | have a11 := in_u i111 | (have a11 := i111; unfold In at a11)))); have a12 := t_sub e110 i89 (in_c 1 rfl) rfl; (first | have a13 := in_u i118x1 | (have a13 := i118x1; unfold In at a13)); have a14 := t_sub e103 i24 (in_c 1000100 rfl) rfl; (first | have a15 := oa2 ((in_c 1000100 rfl)) i121 | ((first | have a15 := in_u ((in_c 1000100 rfl)) | (have a15 := (in_c 1000100 rfl); unfold In at a15)); (first | have a16 := in_u i121 | (have a16 := i121; unfold In at a16)))); have a17 := t_sub e98 i89 (in_c 1 rfl) rfl; omega
                  have n5a : CS (sL sc5 105 z98.toNatClampNeg z118x46) x1 z122 z89 := by first | exact hk2 _ _ (by (first | have a0 := oa6 i8a h1 i8 j5_3 i24 i122 | ((first | have a0 := in_u i8a | (have a0 := i8a; unfold In at a0)); (first | have a1 := in_u h1 | (have a1 := h1; unfold In at a1)); (first | have a2 := in_u i8 | (have a2 := i8; unfold In at a2)); (first | have a3 := in_u j5_3 | (have a3 := j5_3; unfold In at a3)); (first | have a4 := in_u i24 | (have a4 := i24; unfold In at a4)); (first | have a5 := in_u i122 | (have a5 := i122; unfold In at a5)))); have a6 := t_add e122 i8 (in_c 1 rfl) rfl; (first | have a7 := oa2 ((in_c 1 rfl)) i117 | ((first | have a7 := in_u ((in_c 1 rfl)) | (have a7 := (in_c 1 rfl); unfold In at a7)); (first | have a8 := in_u i117 | (have a8 := i117; unfold In at a8)))); have a9 := t_add e89 j5_3 (in_c (-1) rfl) rfl; (first | have a10 := oa2 ((in_c (-1) rfl)) i111 | ((first | have a10 := in_u ((in_c (-1) rfl)) | (have a10 := (in_c (-1) rfl); unfold In at a10)); (first | have a11 := in_u i111 | (have a11 := i111; unfold In at a11)))); have a12 := t_sub e110 i89 (in_c 1 rfl) rfl; (first | have a13 := in_u i118x1 | (have a13 := i118x1; unfold In at a13)); have a14 := t_sub e103 i24 (in_c 1000100 rfl) rfl; (first | have a15 := oa2 ((in_c 1000100 rfl)) i121 | ((first | have a15 := in_u ((in_c 1000100 rfl)) | (have a15 := (in_c 1000100 rfl); unfold In at a15)); (first | have a16 := in_u i121 | (have a16 := i121; unfold In at a16)))); have a17 := t_sub e98 i89 (in_c 1 rfl) rfl; omega) (by (first | have a0 := oa6 i8a h1 i8 j5_3 i24 i122 | ((first | have a0 := in_u i8a | (have a0 := i8a; unfold In at a0)); (first | have a1 := in_u h1 | (have a1 := h1; unfold In at a1)); (first | have a2 := in_u i8 | (have a2 := i8; unfold In at a2)); (first | have a3 := in_u j5_3 | (have a3 := j5_3; unfold In at a3)); (first | have a4 := in_u i24 | (have a4 := i24; unfold In at a4)); (first | have a5 := in_u i122 | (have a5 := i122; unfold In at a5)))); have a6 := t_add e122 i8 (in_c 1 rfl) rfl; (first | have a7 := oa2 ((in_c 1 rfl)) i117 | ((first | have a7 := in_u ((in_c 1 rfl)) | (have a7 := (in_c 1 rfl); unfold In at a7)); (first | have a8 := in_u i117 | (have a8 := i117; unfold In at a8)))); have a9 := t_add e89 j5_3 (in_c (-1) rfl) rfl; (first | have a10 := oa2 ((in_c (-1) rfl)) i111 | ((first | have a10 := in_u ((in_c (-1) rfl)) | (have a10 := (in_c (-1) rfl); unfold In at a10)); (first | have a11 := in_u i111 | (have a11 := i111; unfold In at a11)))); have a12 := t_sub e110 i89 (in_c 1 rfl) rfl; (first | have a13 := in_u i118x1 | (have a13 := i118x1; unfold In at a13)); have a14 := t_sub e103 i24 (in_c 1000100 rfl) rfl; (first | have a15 := oa2 ((in_c 1000100 rfl)) i121 | ((first | have a15 := in_u ((in_c 1000100 rfl)) | (have a15 := (in_c 1000100 rfl); unfold In at a15)); (first | have a16 := in_u i121 | (have a16 := i121; unfold In at a16)))); have a17 := t_sub e98 i89 (in_c 1 rfl) rfl; omega) | exact cs_0 rfl h1.1
                  exact gg_w (by first | exact Nat.le_add_right _ _ | exact gw2 | exact gw3 | exact gwe rfl | exact gwf rfl | exact gwg rfl | exact gwh rfl | omega) (gg_f (gf_cons rfl (gf_cons rfl (gf_cons rfl (gf_cons rfl (gf_cons rfl gf_nil))))) (ih5 (sL sc5 105 z98.toNatClampNeg z118x46) z89 z122 hI121 (fr_sL rfl hFc5) (in_w 0 120 i117 rfl) (in_w 0 120 i122 rfl) n5 n5a (m_up mm5 (t_add e122 i8 (in_c 1 rfl) rfl) (in_w 1 1 (in_c 1 rfl) rfl))))
                · skip
                  have i118x47x10x3 := z_ge 0 1 c118x47x10x3 i118x47x10x2 rfl
                  have c118x47x10x3a := lc_ge e118x47x10x2 c118x47x10x3
                  have i118x47x10x3a := lr_le1 (-9223372036854775808) (-1000000000000) c118x47x10x3a i118x47x7x3a (l_c (-1000000000000) rfl) rfl
                  refine g_lload_n 7 (gd rfl) rfl rfl ?_
                  refine g_goto 11 (gd rfl) rfl ?_
                  refine g_lreturn (gd rfl) rfl (hp118x47x10 _ _ ?_)
                  show GG _ _ _ _ _ _ _ _ [.long (Int64.ofInt (-1000000000000))] _ _ _
                  refine g_lreturn (gd rfl) rfl (hp118x47 _ _ ?_)
                  show GG _ _ _ _ _ _ _ _ [.long (Int64.ofInt (-1000000000000))] _ _ _
                  refine g_lreturn (gd rfl) rfl (hp118 _ _ ?_)
                  show GG _ _ _ _ _ _ _ _ [.long (Int64.ofInt (-1000000000000)), .int z98, .ref (A 105)] _ _ _
                  have i121 : In z98 0 119 := by (first | have a0 := oa6 i8a h1 i8 j5_3 i24 i117 | ((first | have a0 := in_u i8a | (have a0 := i8a; unfold In at a0)); (first | have a1 := in_u h1 | (have a1 := h1; unfold In at a1)); (first | have a2 := in_u i8 | (have a2 := i8; unfold In at a2)); (first | have a3 := in_u j5_3 | (have a3 := j5_3; unfold In at a3)); (first | have a4 := in_u i24 | (have a4 := i24; unfold In at a4)); (first | have a5 := in_u i117 | (have a5 := i117; unfold In at a5)))); have a6 := t_add e89 j5_3 (in_c (-1) rfl) rfl; (first | have a7 := oa2 ((in_c (-1) rfl)) i111 | ((first | have a7 := in_u ((in_c (-1) rfl)) | (have a7 := (in_c (-1) rfl); unfold In at a7)); (first | have a8 := in_u i111 | (have a8 := i111; unfold In at a8)))); have a9 := t_sub e110 i89 (in_c 1 rfl) rfl; (first | have a10 := oa2 ((in_c 1 rfl)) i118x1 | ((first | have a10 := in_u ((in_c 1 rfl)) | (have a10 := (in_c 1 rfl); unfold In at a10)); (first | have a11 := in_u i118x1 | (have a11 := i118x1; unfold In at a11)))); have a12 := t_sub e103 i24 (in_c 1000100 rfl) rfl; (first | have a13 := oa2 ((in_c 1000100 rfl)) i98 | ((first | have a13 := in_u ((in_c 1000100 rfl)) | (have a13 := (in_c 1000100 rfl); unfold In at a13)); (first | have a14 := in_u i98 | (have a14 := i98; unfold In at a14)))); have a15 := t_sub e98 i89 (in_c 1 rfl) rfl; exact ⟨by omega, by omega⟩
                  refine g_lastore 122 (gd rfl) rfl (n := 120) rfl (in_ix i121 rfl) ?_
                  have hI121 := inv_sL (q := 105) (j := z98.toNatClampNeg) (x := (Int64.ofInt (-1000000000000))) hIc5 rfl (l_rng (Int64.ofInt (-1000000000000)))
                  refine g_iinc 125 (gd rfl) rfl rfl (Nat.le_of_ble_eq_true rfl) (fun z122 e122 => ?_)
                  have i122 := in_add 1 120 e122 i8 (in_c 1 rfl) rfl rfl
                  refine g_goto 5 (gd rfl) rfl ?_
                  have n5 : (z89).toInt ≤ (z122).toInt := by (first | have a0 := oa6 i8a h1 i8 j5_3 i24 i122 | ((first | have a0 := in_u i8a | (have a0 := i8a; unfold In at a0)); (first | have a1 := in_u h1 | (have a1 := h1; unfold In at a1)); (first | have a2 := in_u i8 | (have a2 := i8; unfold In at a2)); (first | have a3 := in_u j5_3 | (have a3 := j5_3; unfold In at a3)); (first | have a4 := in_u i24 | (have a4 := i24; unfold In at a4)); (first | have a5 := in_u i122 | (have a5 := i122; unfold In at a5)))); have a6 := t_add e122 i8 (in_c 1 rfl) rfl; (first | have a7 := oa2 ((in_c 1 rfl)) i117 | ((first | have a7 := in_u ((in_c 1 rfl)) | (have a7 := (in_c 1 rfl); unfold In at a7)); (first | have a8 := in_u i117 | (have a8 := i117; unfold In at a8)))); have a9 := t_add e89 j5_3 (in_c (-1) rfl) rfl; (first | have a10 := oa2 ((in_c (-1) rfl)) i111 | ((first | have a10 := in_u ((in_c (-1) rfl)) | (have a10 := (in_c (-1) rfl); unfold In at a10)); (first | have a11 := in_u i111 | (have a11 := i111; unfold In at a11)))); have a12 := t_sub e110 i89 (in_c 1 rfl) rfl; (first | have a13 := in_u i118x1 | (have a13 := i118x1; unfold In at a13)); have a14 := t_sub e103 i24 (in_c 1000100 rfl) rfl; (first | have a15 := oa2 ((in_c 1000100 rfl)) i121 | ((first | have a15 := in_u ((in_c 1000100 rfl)) | (have a15 := (in_c 1000100 rfl); unfold In at a15)); (first | have a16 := in_u i121 | (have a16 := i121; unfold In at a16)))); have a17 := t_sub e98 i89 (in_c 1 rfl) rfl; omega
                  have n5a : CS (sL sc5 105 z98.toNatClampNeg (Int64.ofInt (-1000000000000))) x1 z122 z89 := by first | exact hk2 _ _ (by (first | have a0 := oa6 i8a h1 i8 j5_3 i24 i122 | ((first | have a0 := in_u i8a | (have a0 := i8a; unfold In at a0)); (first | have a1 := in_u h1 | (have a1 := h1; unfold In at a1)); (first | have a2 := in_u i8 | (have a2 := i8; unfold In at a2)); (first | have a3 := in_u j5_3 | (have a3 := j5_3; unfold In at a3)); (first | have a4 := in_u i24 | (have a4 := i24; unfold In at a4)); (first | have a5 := in_u i122 | (have a5 := i122; unfold In at a5)))); have a6 := t_add e122 i8 (in_c 1 rfl) rfl; (first | have a7 := oa2 ((in_c 1 rfl)) i117 | ((first | have a7 := in_u ((in_c 1 rfl)) | (have a7 := (in_c 1 rfl); unfold In at a7)); (first | have a8 := in_u i117 | (have a8 := i117; unfold In at a8)))); have a9 := t_add e89 j5_3 (in_c (-1) rfl) rfl; (first | have a10 := oa2 ((in_c (-1) rfl)) i111 | ((first | have a10 := in_u ((in_c (-1) rfl)) | (have a10 := (in_c (-1) rfl); unfold In at a10)); (first | have a11 := in_u i111 | (have a11 := i111; unfold In at a11)))); have a12 := t_sub e110 i89 (in_c 1 rfl) rfl; (first | have a13 := in_u i118x1 | (have a13 := i118x1; unfold In at a13)); have a14 := t_sub e103 i24 (in_c 1000100 rfl) rfl; (first | have a15 := oa2 ((in_c 1000100 rfl)) i121 | ((first | have a15 := in_u ((in_c 1000100 rfl)) | (have a15 := (in_c 1000100 rfl); unfold In at a15)); (first | have a16 := in_u i121 | (have a16 := i121; unfold In at a16)))); have a17 := t_sub e98 i89 (in_c 1 rfl) rfl; omega) (by (first | have a0 := oa6 i8a h1 i8 j5_3 i24 i122 | ((first | have a0 := in_u i8a | (have a0 := i8a; unfold In at a0)); (first | have a1 := in_u h1 | (have a1 := h1; unfold In at a1)); (first | have a2 := in_u i8 | (have a2 := i8; unfold In at a2)); (first | have a3 := in_u j5_3 | (have a3 := j5_3; unfold In at a3)); (first | have a4 := in_u i24 | (have a4 := i24; unfold In at a4)); (first | have a5 := in_u i122 | (have a5 := i122; unfold In at a5)))); have a6 := t_add e122 i8 (in_c 1 rfl) rfl; (first | have a7 := oa2 ((in_c 1 rfl)) i117 | ((first | have a7 := in_u ((in_c 1 rfl)) | (have a7 := (in_c 1 rfl); unfold In at a7)); (first | have a8 := in_u i117 | (have a8 := i117; unfold In at a8)))); have a9 := t_add e89 j5_3 (in_c (-1) rfl) rfl; (first | have a10 := oa2 ((in_c (-1) rfl)) i111 | ((first | have a10 := in_u ((in_c (-1) rfl)) | (have a10 := (in_c (-1) rfl); unfold In at a10)); (first | have a11 := in_u i111 | (have a11 := i111; unfold In at a11)))); have a12 := t_sub e110 i89 (in_c 1 rfl) rfl; (first | have a13 := in_u i118x1 | (have a13 := i118x1; unfold In at a13)); have a14 := t_sub e103 i24 (in_c 1000100 rfl) rfl; (first | have a15 := oa2 ((in_c 1000100 rfl)) i121 | ((first | have a15 := in_u ((in_c 1000100 rfl)) | (have a15 := (in_c 1000100 rfl); unfold In at a15)); (first | have a16 := in_u i121 | (have a16 := i121; unfold In at a16)))); have a17 := t_sub e98 i89 (in_c 1 rfl) rfl; omega) | exact cs_0 rfl h1.1
                  exact gg_w (by first | exact Nat.le_add_right _ _ | exact gw2 | exact gw3 | exact gwe rfl | exact gwf rfl | exact gwg rfl | exact gwh rfl | omega) (gg_f (gf_cons rfl (gf_cons rfl (gf_cons rfl (gf_cons rfl (gf_cons rfl gf_nil))))) (ih5 (sL sc5 105 z98.toNatClampNeg (Int64.ofInt (-1000000000000))) z89 z122 hI121 (fr_sL rfl hFc5) (in_w 0 120 i117 rfl) (in_w 0 120 i122 rfl) n5 n5a (m_up mm5 (t_add e122 i8 (in_c 1 rfl) rfl) (in_w 1 1 (in_c 1 rfl) rfl))))
              · skip
                have i118x47x7x3 := z_le (-1) 0 c118x47x7x3 i118x47x7x2 rfl
                have c118x47x7x3a := lc_le e118x47x7x2 c118x47x7x3
                have i118x47x7x3a := lr_le2 1000000000000 9223372036854775807 c118x47x7x3a (l_c 1000000000000 rfl) (l_rng z118x46) rfl
                refine g_lload_n 7 (gd rfl) rfl rfl ?_
                refine g_goto 11 (gd rfl) rfl ?_
                refine g_lreturn (gd rfl) rfl (hp118x47x7 _ _ ?_)
                show GG _ _ _ _ _ _ _ _ [.long (Int64.ofInt 1000000000000), .long (Int64.ofInt (-1000000000000))] _ _ _
                refine g_calls (As := [.long (Int64.ofInt (-1000000000000)), .long (Int64.ofInt 1000000000000)]) (r := []) 13 (gd rfl) rfl rfl rfl rfl rfl (Nat.le_of_ble_eq_true rfl) (mc := 0) (ms := 0) (Nat.zero_le _) (Nat.zero_le _) (P := fun v u => _) ?_ (fun v u h => h)
                intro po118x47x10 xx118x47x10 hp118x47x10 hx118x47x10
                refine g_enter2 (k := 423) (N := 300) (by first | exact dq1 hd rfl | exact dq0 hd rfl | exact dq2 hd rfl | exact dq3 hd rfl | omega) rfl (Nat.le_of_ble_eq_true rfl) ?_
                refine g_lload_n 1 (gd rfl) rfl rfl ?_
                refine g_lload_n 2 (gd rfl) rfl rfl ?_
                refine g_lcmp 3 (gd rfl) rfl (fun z118x47x10x2 e118x47x10x2 => ?_)
                have i118x47x10x2 := lc_in e118x47x10x2
                refine g_if_lt 6 10 (gd rfl) rfl rfl (fun c118x47x10x3 => ?_) (fun c118x47x10x3 => ?_)
                · skip
                  have i118x47x10x3 := z_lt (-1) (-1) c118x47x10x3 i118x47x10x2 rfl
                  have c118x47x10x3a := lc_lt e118x47x10x2 c118x47x10x3
                  refine g_lload_n 11 (gd rfl) rfl rfl ?_
                  refine g_lreturn (gd rfl) rfl (hp118x47x10 _ _ ?_)
                  show GG _ _ _ _ _ _ _ _ [.long (Int64.ofInt 1000000000000)] _ _ _
                  refine g_lreturn (gd rfl) rfl (hp118x47 _ _ ?_)
                  show GG _ _ _ _ _ _ _ _ [.long (Int64.ofInt 1000000000000)] _ _ _
                  refine g_lreturn (gd rfl) rfl (hp118 _ _ ?_)
                  show GG _ _ _ _ _ _ _ _ [.long (Int64.ofInt 1000000000000), .int z98, .ref (A 105)] _ _ _
                  have i121 : In z98 0 119 := by (first | have a0 := oa6 i8a h1 i8 j5_3 i24 i117 | ((first | have a0 := in_u i8a | (have a0 := i8a; unfold In at a0)); (first | have a1 := in_u h1 | (have a1 := h1; unfold In at a1)); (first | have a2 := in_u i8 | (have a2 := i8; unfold In at a2)); (first | have a3 := in_u j5_3 | (have a3 := j5_3; unfold In at a3)); (first | have a4 := in_u i24 | (have a4 := i24; unfold In at a4)); (first | have a5 := in_u i117 | (have a5 := i117; unfold In at a5)))); have a6 := t_add e89 j5_3 (in_c (-1) rfl) rfl; (first | have a7 := oa2 ((in_c (-1) rfl)) i111 | ((first | have a7 := in_u ((in_c (-1) rfl)) | (have a7 := (in_c (-1) rfl); unfold In at a7)); (first | have a8 := in_u i111 | (have a8 := i111; unfold In at a8)))); have a9 := t_sub e110 i89 (in_c 1 rfl) rfl; (first | have a10 := oa2 ((in_c 1 rfl)) i118x1 | ((first | have a10 := in_u ((in_c 1 rfl)) | (have a10 := (in_c 1 rfl); unfold In at a10)); (first | have a11 := in_u i118x1 | (have a11 := i118x1; unfold In at a11)))); have a12 := t_sub e103 i24 (in_c 1000100 rfl) rfl; (first | have a13 := oa2 ((in_c 1000100 rfl)) i98 | ((first | have a13 := in_u ((in_c 1000100 rfl)) | (have a13 := (in_c 1000100 rfl); unfold In at a13)); (first | have a14 := in_u i98 | (have a14 := i98; unfold In at a14)))); have a15 := t_sub e98 i89 (in_c 1 rfl) rfl; exact ⟨by omega, by omega⟩
                  refine g_lastore 122 (gd rfl) rfl (n := 120) rfl (in_ix i121 rfl) ?_
                  have hI121 := inv_sL (q := 105) (j := z98.toNatClampNeg) (x := (Int64.ofInt 1000000000000)) hIc5 rfl (l_rng (Int64.ofInt 1000000000000))
                  refine g_iinc 125 (gd rfl) rfl rfl (Nat.le_of_ble_eq_true rfl) (fun z122 e122 => ?_)
                  have i122 := in_add 1 120 e122 i8 (in_c 1 rfl) rfl rfl
                  refine g_goto 5 (gd rfl) rfl ?_
                  have n5 : (z89).toInt ≤ (z122).toInt := by (first | have a0 := oa6 i8a h1 i8 j5_3 i24 i122 | ((first | have a0 := in_u i8a | (have a0 := i8a; unfold In at a0)); (first | have a1 := in_u h1 | (have a1 := h1; unfold In at a1)); (first | have a2 := in_u i8 | (have a2 := i8; unfold In at a2)); (first | have a3 := in_u j5_3 | (have a3 := j5_3; unfold In at a3)); (first | have a4 := in_u i24 | (have a4 := i24; unfold In at a4)); (first | have a5 := in_u i122 | (have a5 := i122; unfold In at a5)))); have a6 := t_add e122 i8 (in_c 1 rfl) rfl; (first | have a7 := oa2 ((in_c 1 rfl)) i117 | ((first | have a7 := in_u ((in_c 1 rfl)) | (have a7 := (in_c 1 rfl); unfold In at a7)); (first | have a8 := in_u i117 | (have a8 := i117; unfold In at a8)))); have a9 := t_add e89 j5_3 (in_c (-1) rfl) rfl; (first | have a10 := oa2 ((in_c (-1) rfl)) i111 | ((first | have a10 := in_u ((in_c (-1) rfl)) | (have a10 := (in_c (-1) rfl); unfold In at a10)); (first | have a11 := in_u i111 | (have a11 := i111; unfold In at a11)))); have a12 := t_sub e110 i89 (in_c 1 rfl) rfl; (first | have a13 := in_u i118x1 | (have a13 := i118x1; unfold In at a13)); have a14 := t_sub e103 i24 (in_c 1000100 rfl) rfl; (first | have a15 := oa2 ((in_c 1000100 rfl)) i121 | ((first | have a15 := in_u ((in_c 1000100 rfl)) | (have a15 := (in_c 1000100 rfl); unfold In at a15)); (first | have a16 := in_u i121 | (have a16 := i121; unfold In at a16)))); have a17 := t_sub e98 i89 (in_c 1 rfl) rfl; omega
                  have n5a : CS (sL sc5 105 z98.toNatClampNeg (Int64.ofInt 1000000000000)) x1 z122 z89 := by first | exact hk2 _ _ (by (first | have a0 := oa6 i8a h1 i8 j5_3 i24 i122 | ((first | have a0 := in_u i8a | (have a0 := i8a; unfold In at a0)); (first | have a1 := in_u h1 | (have a1 := h1; unfold In at a1)); (first | have a2 := in_u i8 | (have a2 := i8; unfold In at a2)); (first | have a3 := in_u j5_3 | (have a3 := j5_3; unfold In at a3)); (first | have a4 := in_u i24 | (have a4 := i24; unfold In at a4)); (first | have a5 := in_u i122 | (have a5 := i122; unfold In at a5)))); have a6 := t_add e122 i8 (in_c 1 rfl) rfl; (first | have a7 := oa2 ((in_c 1 rfl)) i117 | ((first | have a7 := in_u ((in_c 1 rfl)) | (have a7 := (in_c 1 rfl); unfold In at a7)); (first | have a8 := in_u i117 | (have a8 := i117; unfold In at a8)))); have a9 := t_add e89 j5_3 (in_c (-1) rfl) rfl; (first | have a10 := oa2 ((in_c (-1) rfl)) i111 | ((first | have a10 := in_u ((in_c (-1) rfl)) | (have a10 := (in_c (-1) rfl); unfold In at a10)); (first | have a11 := in_u i111 | (have a11 := i111; unfold In at a11)))); have a12 := t_sub e110 i89 (in_c 1 rfl) rfl; (first | have a13 := in_u i118x1 | (have a13 := i118x1; unfold In at a13)); have a14 := t_sub e103 i24 (in_c 1000100 rfl) rfl; (first | have a15 := oa2 ((in_c 1000100 rfl)) i121 | ((first | have a15 := in_u ((in_c 1000100 rfl)) | (have a15 := (in_c 1000100 rfl); unfold In at a15)); (first | have a16 := in_u i121 | (have a16 := i121; unfold In at a16)))); have a17 := t_sub e98 i89 (in_c 1 rfl) rfl; omega) (by (first | have a0 := oa6 i8a h1 i8 j5_3 i24 i122 | ((first | have a0 := in_u i8a | (have a0 := i8a; unfold In at a0)); (first | have a1 := in_u h1 | (have a1 := h1; unfold In at a1)); (first | have a2 := in_u i8 | (have a2 := i8; unfold In at a2)); (first | have a3 := in_u j5_3 | (have a3 := j5_3; unfold In at a3)); (first | have a4 := in_u i24 | (have a4 := i24; unfold In at a4)); (first | have a5 := in_u i122 | (have a5 := i122; unfold In at a5)))); have a6 := t_add e122 i8 (in_c 1 rfl) rfl; (first | have a7 := oa2 ((in_c 1 rfl)) i117 | ((first | have a7 := in_u ((in_c 1 rfl)) | (have a7 := (in_c 1 rfl); unfold In at a7)); (first | have a8 := in_u i117 | (have a8 := i117; unfold In at a8)))); have a9 := t_add e89 j5_3 (in_c (-1) rfl) rfl; (first | have a10 := oa2 ((in_c (-1) rfl)) i111 | ((first | have a10 := in_u ((in_c (-1) rfl)) | (have a10 := (in_c (-1) rfl); unfold In at a10)); (first | have a11 := in_u i111 | (have a11 := i111; unfold In at a11)))); have a12 := t_sub e110 i89 (in_c 1 rfl) rfl; (first | have a13 := in_u i118x1 | (have a13 := i118x1; unfold In at a13)); have a14 := t_sub e103 i24 (in_c 1000100 rfl) rfl; (first | have a15 := oa2 ((in_c 1000100 rfl)) i121 | ((first | have a15 := in_u ((in_c 1000100 rfl)) | (have a15 := (in_c 1000100 rfl); unfold In at a15)); (first | have a16 := in_u i121 | (have a16 := i121; unfold In at a16)))); have a17 := t_sub e98 i89 (in_c 1 rfl) rfl; omega) | exact cs_0 rfl h1.1
                  exact gg_w (by first | exact Nat.le_add_right _ _ | exact gw2 | exact gw3 | exact gwe rfl | exact gwf rfl | exact gwg rfl | exact gwh rfl | omega) (gg_f (gf_cons rfl (gf_cons rfl (gf_cons rfl (gf_cons rfl (gf_cons rfl gf_nil))))) (ih5 (sL sc5 105 z98.toNatClampNeg (Int64.ofInt 1000000000000)) z89 z122 hI121 (fr_sL rfl hFc5) (in_w 0 120 i117 rfl) (in_w 0 120 i122 rfl) n5 n5a (m_up mm5 (t_add e122 i8 (in_c 1 rfl) rfl) (in_w 1 1 (in_c 1 rfl) rfl))))
                · skip
                  have i118x47x10x3 := z_ge 0 1 c118x47x10x3 i118x47x10x2 rfl
                  have c118x47x10x3a := lc_ge e118x47x10x2 c118x47x10x3
                  exact ln_le c118x47x10x3a (l_c 1000000000000 rfl) (l_c (-1000000000000) rfl) rfl
            · skip
              have i118x1 := sw_eq c118x1
              refine g_lload_n 52 (gd rfl) rfl rfl ?_
              refine g_lload_n 53 (gd rfl) rfl rfl ?_
              refine g_lsub 54 (gd rfl) rfl (fun z118x53 e118x53 => ?_)
              refine g_calls (As := [.long z118x53]) (r := []) 57 (gd rfl) rfl rfl rfl rfl rfl (Nat.le_of_ble_eq_true rfl) (mc := 0) (ms := 0) (Nat.zero_le _) (Nat.zero_le _) (P := fun v u => _) ?_ (fun v u h => h)
              intro po118x54 xx118x54 hp118x54 hx118x54
              refine g_enter2 (k := 69) (N := 300) (by first | exact dq1 hd rfl | exact dq0 hd rfl | exact dq2 hd rfl | exact dq3 hd rfl | omega) rfl (Nat.le_of_ble_eq_true rfl) ?_
              refine g_ldc2_w (-1000000000000) 3 (gd rfl) rfl rfl ?_
              refine g_ldc2_w 1000000000000 6 (gd rfl) rfl rfl ?_
              refine g_lload_n 7 (gd rfl) rfl rfl ?_
              refine g_calls (As := [.long (Int64.ofInt 1000000000000), .long z118x53]) (r := [.long (Int64.ofInt (-1000000000000))]) 10 (gd rfl) rfl rfl rfl rfl rfl (Nat.le_of_ble_eq_true rfl) (mc := 0) (ms := 0) (Nat.zero_le _) (Nat.zero_le _) (P := fun v u => _) ?_ (fun v u h => h)
              intro po118x54x7 xx118x54x7 hp118x54x7 hx118x54x7
              refine g_enter2 (k := 425) (N := 300) (by first | exact dq1 hd rfl | exact dq0 hd rfl | exact dq2 hd rfl | exact dq3 hd rfl | omega) rfl (Nat.le_of_ble_eq_true rfl) ?_
              refine g_lload_n 1 (gd rfl) rfl rfl ?_
              refine g_lload_n 2 (gd rfl) rfl rfl ?_
              refine g_lcmp 3 (gd rfl) rfl (fun z118x54x7x2 e118x54x7x2 => ?_)
              have i118x54x7x2 := lc_in e118x54x7x2
              refine g_if_gt 6 10 (gd rfl) rfl rfl (fun c118x54x7x3 => ?_) (fun c118x54x7x3 => ?_)
              · skip
                have i118x54x7x3 := z_gt 1 1 c118x54x7x3 i118x54x7x2 rfl
                have c118x54x7x3a := lc_gt e118x54x7x2 c118x54x7x3
                have i118x54x7x3a := lr_lt1 (-9223372036854775808) 999999999999 c118x54x7x3a (l_rng z118x53) (l_c 1000000000000 rfl) rfl
                refine g_lload_n 11 (gd rfl) rfl rfl ?_
                refine g_lreturn (gd rfl) rfl (hp118x54x7 _ _ ?_)
                show GG _ _ _ _ _ _ _ _ [.long z118x53, .long (Int64.ofInt (-1000000000000))] _ _ _
                refine g_calls (As := [.long (Int64.ofInt (-1000000000000)), .long z118x53]) (r := []) 13 (gd rfl) rfl rfl rfl rfl rfl (Nat.le_of_ble_eq_true rfl) (mc := 0) (ms := 0) (Nat.zero_le _) (Nat.zero_le _) (P := fun v u => _) ?_ (fun v u h => h)
                intro po118x54x10 xx118x54x10 hp118x54x10 hx118x54x10
                refine g_enter2 (k := 423) (N := 300) (by first | exact dq1 hd rfl | exact dq0 hd rfl | exact dq2 hd rfl | exact dq3 hd rfl | omega) rfl (Nat.le_of_ble_eq_true rfl) ?_
                refine g_lload_n 1 (gd rfl) rfl rfl ?_
                refine g_lload_n 2 (gd rfl) rfl rfl ?_
                refine g_lcmp 3 (gd rfl) rfl (fun z118x54x10x2 e118x54x10x2 => ?_)
                have i118x54x10x2 := lc_in e118x54x10x2
                refine g_if_lt 6 10 (gd rfl) rfl rfl (fun c118x54x10x3 => ?_) (fun c118x54x10x3 => ?_)
                · skip
                  have i118x54x10x3 := z_lt (-1) (-1) c118x54x10x3 i118x54x10x2 rfl
                  have c118x54x10x3a := lc_lt e118x54x10x2 c118x54x10x3
                  have i118x54x10x3a := lr_lt2 (-999999999999) 999999999999 c118x54x10x3a (l_c (-1000000000000) rfl) i118x54x7x3a rfl
                  refine g_lload_n 11 (gd rfl) rfl rfl ?_
                  refine g_lreturn (gd rfl) rfl (hp118x54x10 _ _ ?_)
                  show GG _ _ _ _ _ _ _ _ [.long z118x53] _ _ _
                  refine g_lreturn (gd rfl) rfl (hp118x54 _ _ ?_)
                  show GG _ _ _ _ _ _ _ _ [.long z118x53] _ _ _
                  refine g_lreturn (gd rfl) rfl (hp118 _ _ ?_)
                  show GG _ _ _ _ _ _ _ _ [.long z118x53, .int z98, .ref (A 105)] _ _ _
                  have i121 : In z98 0 119 := by (first | have a0 := oa6 i8a h1 i8 j5_3 i24 i117 | ((first | have a0 := in_u i8a | (have a0 := i8a; unfold In at a0)); (first | have a1 := in_u h1 | (have a1 := h1; unfold In at a1)); (first | have a2 := in_u i8 | (have a2 := i8; unfold In at a2)); (first | have a3 := in_u j5_3 | (have a3 := j5_3; unfold In at a3)); (first | have a4 := in_u i24 | (have a4 := i24; unfold In at a4)); (first | have a5 := in_u i117 | (have a5 := i117; unfold In at a5)))); have a6 := t_add e89 j5_3 (in_c (-1) rfl) rfl; (first | have a7 := oa2 ((in_c (-1) rfl)) i111 | ((first | have a7 := in_u ((in_c (-1) rfl)) | (have a7 := (in_c (-1) rfl); unfold In at a7)); (first | have a8 := in_u i111 | (have a8 := i111; unfold In at a8)))); have a9 := t_sub e110 i89 (in_c 1 rfl) rfl; (first | have a10 := oa2 ((in_c 1 rfl)) i118x1 | ((first | have a10 := in_u ((in_c 1 rfl)) | (have a10 := (in_c 1 rfl); unfold In at a10)); (first | have a11 := in_u i118x1 | (have a11 := i118x1; unfold In at a11)))); have a12 := t_sub e103 i24 (in_c 1000100 rfl) rfl; (first | have a13 := oa2 ((in_c 1000100 rfl)) i98 | ((first | have a13 := in_u ((in_c 1000100 rfl)) | (have a13 := (in_c 1000100 rfl); unfold In at a13)); (first | have a14 := in_u i98 | (have a14 := i98; unfold In at a14)))); have a15 := t_sub e98 i89 (in_c 1 rfl) rfl; exact ⟨by omega, by omega⟩
                  refine g_lastore 122 (gd rfl) rfl (n := 120) rfl (in_ix i121 rfl) ?_
                  have hI121 := inv_sL (q := 105) (j := z98.toNatClampNeg) (x := z118x53) hIc5 rfl (l_rng z118x53)
                  refine g_iinc 125 (gd rfl) rfl rfl (Nat.le_of_ble_eq_true rfl) (fun z122 e122 => ?_)
                  have i122 := in_add 1 120 e122 i8 (in_c 1 rfl) rfl rfl
                  refine g_goto 5 (gd rfl) rfl ?_
                  have n5 : (z89).toInt ≤ (z122).toInt := by (first | have a0 := oa6 i8a h1 i8 j5_3 i24 i122 | ((first | have a0 := in_u i8a | (have a0 := i8a; unfold In at a0)); (first | have a1 := in_u h1 | (have a1 := h1; unfold In at a1)); (first | have a2 := in_u i8 | (have a2 := i8; unfold In at a2)); (first | have a3 := in_u j5_3 | (have a3 := j5_3; unfold In at a3)); (first | have a4 := in_u i24 | (have a4 := i24; unfold In at a4)); (first | have a5 := in_u i122 | (have a5 := i122; unfold In at a5)))); have a6 := t_add e122 i8 (in_c 1 rfl) rfl; (first | have a7 := oa2 ((in_c 1 rfl)) i117 | ((first | have a7 := in_u ((in_c 1 rfl)) | (have a7 := (in_c 1 rfl); unfold In at a7)); (first | have a8 := in_u i117 | (have a8 := i117; unfold In at a8)))); have a9 := t_add e89 j5_3 (in_c (-1) rfl) rfl; (first | have a10 := oa2 ((in_c (-1) rfl)) i111 | ((first | have a10 := in_u ((in_c (-1) rfl)) | (have a10 := (in_c (-1) rfl); unfold In at a10)); (first | have a11 := in_u i111 | (have a11 := i111; unfold In at a11)))); have a12 := t_sub e110 i89 (in_c 1 rfl) rfl; (first | have a13 := in_u i118x1 | (have a13 := i118x1; unfold In at a13)); have a14 := t_sub e103 i24 (in_c 1000100 rfl) rfl; (first | have a15 := oa2 ((in_c 1000100 rfl)) i121 | ((first | have a15 := in_u ((in_c 1000100 rfl)) | (have a15 := (in_c 1000100 rfl); unfold In at a15)); (first | have a16 := in_u i121 | (have a16 := i121; unfold In at a16)))); have a17 := t_sub e98 i89 (in_c 1 rfl) rfl; omega
                  have n5a : CS (sL sc5 105 z98.toNatClampNeg z118x53) x1 z122 z89 := by first | exact hk2 _ _ (by (first | have a0 := oa6 i8a h1 i8 j5_3 i24 i122 | ((first | have a0 := in_u i8a | (have a0 := i8a; unfold In at a0)); (first | have a1 := in_u h1 | (have a1 := h1; unfold In at a1)); (first | have a2 := in_u i8 | (have a2 := i8; unfold In at a2)); (first | have a3 := in_u j5_3 | (have a3 := j5_3; unfold In at a3)); (first | have a4 := in_u i24 | (have a4 := i24; unfold In at a4)); (first | have a5 := in_u i122 | (have a5 := i122; unfold In at a5)))); have a6 := t_add e122 i8 (in_c 1 rfl) rfl; (first | have a7 := oa2 ((in_c 1 rfl)) i117 | ((first | have a7 := in_u ((in_c 1 rfl)) | (have a7 := (in_c 1 rfl); unfold In at a7)); (first | have a8 := in_u i117 | (have a8 := i117; unfold In at a8)))); have a9 := t_add e89 j5_3 (in_c (-1) rfl) rfl; (first | have a10 := oa2 ((in_c (-1) rfl)) i111 | ((first | have a10 := in_u ((in_c (-1) rfl)) | (have a10 := (in_c (-1) rfl); unfold In at a10)); (first | have a11 := in_u i111 | (have a11 := i111; unfold In at a11)))); have a12 := t_sub e110 i89 (in_c 1 rfl) rfl; (first | have a13 := in_u i118x1 | (have a13 := i118x1; unfold In at a13)); have a14 := t_sub e103 i24 (in_c 1000100 rfl) rfl; (first | have a15 := oa2 ((in_c 1000100 rfl)) i121 | ((first | have a15 := in_u ((in_c 1000100 rfl)) | (have a15 := (in_c 1000100 rfl); unfold In at a15)); (first | have a16 := in_u i121 | (have a16 := i121; unfold In at a16)))); have a17 := t_sub e98 i89 (in_c 1 rfl) rfl; omega) (by (first | have a0 := oa6 i8a h1 i8 j5_3 i24 i122 | ((first | have a0 := in_u i8a | (have a0 := i8a; unfold In at a0)); (first | have a1 := in_u h1 | (have a1 := h1; unfold In at a1)); (first | have a2 := in_u i8 | (have a2 := i8; unfold In at a2)); (first | have a3 := in_u j5_3 | (have a3 := j5_3; unfold In at a3)); (first | have a4 := in_u i24 | (have a4 := i24; unfold In at a4)); (first | have a5 := in_u i122 | (have a5 := i122; unfold In at a5)))); have a6 := t_add e122 i8 (in_c 1 rfl) rfl; (first | have a7 := oa2 ((in_c 1 rfl)) i117 | ((first | have a7 := in_u ((in_c 1 rfl)) | (have a7 := (in_c 1 rfl); unfold In at a7)); (first | have a8 := in_u i117 | (have a8 := i117; unfold In at a8)))); have a9 := t_add e89 j5_3 (in_c (-1) rfl) rfl; (first | have a10 := oa2 ((in_c (-1) rfl)) i111 | ((first | have a10 := in_u ((in_c (-1) rfl)) | (have a10 := (in_c (-1) rfl); unfold In at a10)); (first | have a11 := in_u i111 | (have a11 := i111; unfold In at a11)))); have a12 := t_sub e110 i89 (in_c 1 rfl) rfl; (first | have a13 := in_u i118x1 | (have a13 := i118x1; unfold In at a13)); have a14 := t_sub e103 i24 (in_c 1000100 rfl) rfl; (first | have a15 := oa2 ((in_c 1000100 rfl)) i121 | ((first | have a15 := in_u ((in_c 1000100 rfl)) | (have a15 := (in_c 1000100 rfl); unfold In at a15)); (first | have a16 := in_u i121 | (have a16 := i121; unfold In at a16)))); have a17 := t_sub e98 i89 (in_c 1 rfl) rfl; omega) | exact cs_0 rfl h1.1
                  exact gg_w (by first | exact Nat.le_add_right _ _ | exact gw2 | exact gw3 | exact gwe rfl | exact gwf rfl | exact gwg rfl | exact gwh rfl | omega) (gg_f (gf_cons rfl (gf_cons rfl (gf_cons rfl (gf_cons rfl (gf_cons rfl gf_nil))))) (ih5 (sL sc5 105 z98.toNatClampNeg z118x53) z89 z122 hI121 (fr_sL rfl hFc5) (in_w 0 120 i117 rfl) (in_w 0 120 i122 rfl) n5 n5a (m_up mm5 (t_add e122 i8 (in_c 1 rfl) rfl) (in_w 1 1 (in_c 1 rfl) rfl))))
                · skip
                  have i118x54x10x3 := z_ge 0 1 c118x54x10x3 i118x54x10x2 rfl
                  have c118x54x10x3a := lc_ge e118x54x10x2 c118x54x10x3
                  have i118x54x10x3a := lr_le1 (-9223372036854775808) (-1000000000000) c118x54x10x3a i118x54x7x3a (l_c (-1000000000000) rfl) rfl
                  refine g_lload_n 7 (gd rfl) rfl rfl ?_
                  refine g_goto 11 (gd rfl) rfl ?_
                  refine g_lreturn (gd rfl) rfl (hp118x54x10 _ _ ?_)
                  show GG _ _ _ _ _ _ _ _ [.long (Int64.ofInt (-1000000000000))] _ _ _
                  refine g_lreturn (gd rfl) rfl (hp118x54 _ _ ?_)
                  show GG _ _ _ _ _ _ _ _ [.long (Int64.ofInt (-1000000000000))] _ _ _
                  refine g_lreturn (gd rfl) rfl (hp118 _ _ ?_)
                  show GG _ _ _ _ _ _ _ _ [.long (Int64.ofInt (-1000000000000)), .int z98, .ref (A 105)] _ _ _
                  have i121 : In z98 0 119 := by (first | have a0 := oa6 i8a h1 i8 j5_3 i24 i117 | ((first | have a0 := in_u i8a | (have a0 := i8a; unfold In at a0)); (first | have a1 := in_u h1 | (have a1 := h1; unfold In at a1)); (first | have a2 := in_u i8 | (have a2 := i8; unfold In at a2)); (first | have a3 := in_u j5_3 | (have a3 := j5_3; unfold In at a3)); (first | have a4 := in_u i24 | (have a4 := i24; unfold In at a4)); (first | have a5 := in_u i117 | (have a5 := i117; unfold In at a5)))); have a6 := t_add e89 j5_3 (in_c (-1) rfl) rfl; (first | have a7 := oa2 ((in_c (-1) rfl)) i111 | ((first | have a7 := in_u ((in_c (-1) rfl)) | (have a7 := (in_c (-1) rfl); unfold In at a7)); (first | have a8 := in_u i111 | (have a8 := i111; unfold In at a8)))); have a9 := t_sub e110 i89 (in_c 1 rfl) rfl; (first | have a10 := oa2 ((in_c 1 rfl)) i118x1 | ((first | have a10 := in_u ((in_c 1 rfl)) | (have a10 := (in_c 1 rfl); unfold In at a10)); (first | have a11 := in_u i118x1 | (have a11 := i118x1; unfold In at a11)))); have a12 := t_sub e103 i24 (in_c 1000100 rfl) rfl; (first | have a13 := oa2 ((in_c 1000100 rfl)) i98 | ((first | have a13 := in_u ((in_c 1000100 rfl)) | (have a13 := (in_c 1000100 rfl); unfold In at a13)); (first | have a14 := in_u i98 | (have a14 := i98; unfold In at a14)))); have a15 := t_sub e98 i89 (in_c 1 rfl) rfl; exact ⟨by omega, by omega⟩
                  refine g_lastore 122 (gd rfl) rfl (n := 120) rfl (in_ix i121 rfl) ?_
                  have hI121 := inv_sL (q := 105) (j := z98.toNatClampNeg) (x := (Int64.ofInt (-1000000000000))) hIc5 rfl (l_rng (Int64.ofInt (-1000000000000)))
                  refine g_iinc 125 (gd rfl) rfl rfl (Nat.le_of_ble_eq_true rfl) (fun z122 e122 => ?_)
                  have i122 := in_add 1 120 e122 i8 (in_c 1 rfl) rfl rfl
                  refine g_goto 5 (gd rfl) rfl ?_
                  have n5 : (z89).toInt ≤ (z122).toInt := by (first | have a0 := oa6 i8a h1 i8 j5_3 i24 i122 | ((first | have a0 := in_u i8a | (have a0 := i8a; unfold In at a0)); (first | have a1 := in_u h1 | (have a1 := h1; unfold In at a1)); (first | have a2 := in_u i8 | (have a2 := i8; unfold In at a2)); (first | have a3 := in_u j5_3 | (have a3 := j5_3; unfold In at a3)); (first | have a4 := in_u i24 | (have a4 := i24; unfold In at a4)); (first | have a5 := in_u i122 | (have a5 := i122; unfold In at a5)))); have a6 := t_add e122 i8 (in_c 1 rfl) rfl; (first | have a7 := oa2 ((in_c 1 rfl)) i117 | ((first | have a7 := in_u ((in_c 1 rfl)) | (have a7 := (in_c 1 rfl); unfold In at a7)); (first | have a8 := in_u i117 | (have a8 := i117; unfold In at a8)))); have a9 := t_add e89 j5_3 (in_c (-1) rfl) rfl; (first | have a10 := oa2 ((in_c (-1) rfl)) i111 | ((first | have a10 := in_u ((in_c (-1) rfl)) | (have a10 := (in_c (-1) rfl); unfold In at a10)); (first | have a11 := in_u i111 | (have a11 := i111; unfold In at a11)))); have a12 := t_sub e110 i89 (in_c 1 rfl) rfl; (first | have a13 := in_u i118x1 | (have a13 := i118x1; unfold In at a13)); have a14 := t_sub e103 i24 (in_c 1000100 rfl) rfl; (first | have a15 := oa2 ((in_c 1000100 rfl)) i121 | ((first | have a15 := in_u ((in_c 1000100 rfl)) | (have a15 := (in_c 1000100 rfl); unfold In at a15)); (first | have a16 := in_u i121 | (have a16 := i121; unfold In at a16)))); have a17 := t_sub e98 i89 (in_c 1 rfl) rfl; omega
                  have n5a : CS (sL sc5 105 z98.toNatClampNeg (Int64.ofInt (-1000000000000))) x1 z122 z89 := by first | exact hk2 _ _ (by (first | have a0 := oa6 i8a h1 i8 j5_3 i24 i122 | ((first | have a0 := in_u i8a | (have a0 := i8a; unfold In at a0)); (first | have a1 := in_u h1 | (have a1 := h1; unfold In at a1)); (first | have a2 := in_u i8 | (have a2 := i8; unfold In at a2)); (first | have a3 := in_u j5_3 | (have a3 := j5_3; unfold In at a3)); (first | have a4 := in_u i24 | (have a4 := i24; unfold In at a4)); (first | have a5 := in_u i122 | (have a5 := i122; unfold In at a5)))); have a6 := t_add e122 i8 (in_c 1 rfl) rfl; (first | have a7 := oa2 ((in_c 1 rfl)) i117 | ((first | have a7 := in_u ((in_c 1 rfl)) | (have a7 := (in_c 1 rfl); unfold In at a7)); (first | have a8 := in_u i117 | (have a8 := i117; unfold In at a8)))); have a9 := t_add e89 j5_3 (in_c (-1) rfl) rfl; (first | have a10 := oa2 ((in_c (-1) rfl)) i111 | ((first | have a10 := in_u ((in_c (-1) rfl)) | (have a10 := (in_c (-1) rfl); unfold In at a10)); (first | have a11 := in_u i111 | (have a11 := i111; unfold In at a11)))); have a12 := t_sub e110 i89 (in_c 1 rfl) rfl; (first | have a13 := in_u i118x1 | (have a13 := i118x1; unfold In at a13)); have a14 := t_sub e103 i24 (in_c 1000100 rfl) rfl; (first | have a15 := oa2 ((in_c 1000100 rfl)) i121 | ((first | have a15 := in_u ((in_c 1000100 rfl)) | (have a15 := (in_c 1000100 rfl); unfold In at a15)); (first | have a16 := in_u i121 | (have a16 := i121; unfold In at a16)))); have a17 := t_sub e98 i89 (in_c 1 rfl) rfl; omega) (by (first | have a0 := oa6 i8a h1 i8 j5_3 i24 i122 | ((first | have a0 := in_u i8a | (have a0 := i8a; unfold In at a0)); (first | have a1 := in_u h1 | (have a1 := h1; unfold In at a1)); (first | have a2 := in_u i8 | (have a2 := i8; unfold In at a2)); (first | have a3 := in_u j5_3 | (have a3 := j5_3; unfold In at a3)); (first | have a4 := in_u i24 | (have a4 := i24; unfold In at a4)); (first | have a5 := in_u i122 | (have a5 := i122; unfold In at a5)))); have a6 := t_add e122 i8 (in_c 1 rfl) rfl; (first | have a7 := oa2 ((in_c 1 rfl)) i117 | ((first | have a7 := in_u ((in_c 1 rfl)) | (have a7 := (in_c 1 rfl); unfold In at a7)); (first | have a8 := in_u i117 | (have a8 := i117; unfold In at a8)))); have a9 := t_add e89 j5_3 (in_c (-1) rfl) rfl; (first | have a10 := oa2 ((in_c (-1) rfl)) i111 | ((first | have a10 := in_u ((in_c (-1) rfl)) | (have a10 := (in_c (-1) rfl); unfold In at a10)); (first | have a11 := in_u i111 | (have a11 := i111; unfold In at a11)))); have a12 := t_sub e110 i89 (in_c 1 rfl) rfl; (first | have a13 := in_u i118x1 | (have a13 := i118x1; unfold In at a13)); have a14 := t_sub e103 i24 (in_c 1000100 rfl) rfl; (first | have a15 := oa2 ((in_c 1000100 rfl)) i121 | ((first | have a15 := in_u ((in_c 1000100 rfl)) | (have a15 := (in_c 1000100 rfl); unfold In at a15)); (first | have a16 := in_u i121 | (have a16 := i121; unfold In at a16)))); have a17 := t_sub e98 i89 (in_c 1 rfl) rfl; omega) | exact cs_0 rfl h1.1
                  exact gg_w (by first | exact Nat.le_add_right _ _ | exact gw2 | exact gw3 | exact gwe rfl | exact gwf rfl | exact gwg rfl | exact gwh rfl | omega) (gg_f (gf_cons rfl (gf_cons rfl (gf_cons rfl (gf_cons rfl (gf_cons rfl gf_nil))))) (ih5 (sL sc5 105 z98.toNatClampNeg (Int64.ofInt (-1000000000000))) z89 z122 hI121 (fr_sL rfl hFc5) (in_w 0 120 i117 rfl) (in_w 0 120 i122 rfl) n5 n5a (m_up mm5 (t_add e122 i8 (in_c 1 rfl) rfl) (in_w 1 1 (in_c 1 rfl) rfl))))
              · skip
                have i118x54x7x3 := z_le (-1) 0 c118x54x7x3 i118x54x7x2 rfl
                have c118x54x7x3a := lc_le e118x54x7x2 c118x54x7x3
                have i118x54x7x3a := lr_le2 1000000000000 9223372036854775807 c118x54x7x3a (l_c 1000000000000 rfl) (l_rng z118x53) rfl
                refine g_lload_n 7 (gd rfl) rfl rfl ?_
                refine g_goto 11 (gd rfl) rfl ?_
                refine g_lreturn (gd rfl) rfl (hp118x54x7 _ _ ?_)
                show GG _ _ _ _ _ _ _ _ [.long (Int64.ofInt 1000000000000), .long (Int64.ofInt (-1000000000000))] _ _ _
                refine g_calls (As := [.long (Int64.ofInt (-1000000000000)), .long (Int64.ofInt 1000000000000)]) (r := []) 13 (gd rfl) rfl rfl rfl rfl rfl (Nat.le_of_ble_eq_true rfl) (mc := 0) (ms := 0) (Nat.zero_le _) (Nat.zero_le _) (P := fun v u => _) ?_ (fun v u h => h)
                intro po118x54x10 xx118x54x10 hp118x54x10 hx118x54x10
                refine g_enter2 (k := 423) (N := 300) (by first | exact dq1 hd rfl | exact dq0 hd rfl | exact dq2 hd rfl | exact dq3 hd rfl | omega) rfl (Nat.le_of_ble_eq_true rfl) ?_
                refine g_lload_n 1 (gd rfl) rfl rfl ?_
                refine g_lload_n 2 (gd rfl) rfl rfl ?_
                refine g_lcmp 3 (gd rfl) rfl (fun z118x54x10x2 e118x54x10x2 => ?_)
                have i118x54x10x2 := lc_in e118x54x10x2
                refine g_if_lt 6 10 (gd rfl) rfl rfl (fun c118x54x10x3 => ?_) (fun c118x54x10x3 => ?_)
                · skip
                  have i118x54x10x3 := z_lt (-1) (-1) c118x54x10x3 i118x54x10x2 rfl
                  have c118x54x10x3a := lc_lt e118x54x10x2 c118x54x10x3
                  refine g_lload_n 11 (gd rfl) rfl rfl ?_
                  refine g_lreturn (gd rfl) rfl (hp118x54x10 _ _ ?_)
                  show GG _ _ _ _ _ _ _ _ [.long (Int64.ofInt 1000000000000)] _ _ _
                  refine g_lreturn (gd rfl) rfl (hp118x54 _ _ ?_)
                  show GG _ _ _ _ _ _ _ _ [.long (Int64.ofInt 1000000000000)] _ _ _
                  refine g_lreturn (gd rfl) rfl (hp118 _ _ ?_)
                  show GG _ _ _ _ _ _ _ _ [.long (Int64.ofInt 1000000000000), .int z98, .ref (A 105)] _ _ _
                  have i121 : In z98 0 119 := by (first | have a0 := oa6 i8a h1 i8 j5_3 i24 i117 | ((first | have a0 := in_u i8a | (have a0 := i8a; unfold In at a0)); (first | have a1 := in_u h1 | (have a1 := h1; unfold In at a1)); (first | have a2 := in_u i8 | (have a2 := i8; unfold In at a2)); (first | have a3 := in_u j5_3 | (have a3 := j5_3; unfold In at a3)); (first | have a4 := in_u i24 | (have a4 := i24; unfold In at a4)); (first | have a5 := in_u i117 | (have a5 := i117; unfold In at a5)))); have a6 := t_add e89 j5_3 (in_c (-1) rfl) rfl; (first | have a7 := oa2 ((in_c (-1) rfl)) i111 | ((first | have a7 := in_u ((in_c (-1) rfl)) | (have a7 := (in_c (-1) rfl); unfold In at a7)); (first | have a8 := in_u i111 | (have a8 := i111; unfold In at a8)))); have a9 := t_sub e110 i89 (in_c 1 rfl) rfl; (first | have a10 := oa2 ((in_c 1 rfl)) i118x1 | ((first | have a10 := in_u ((in_c 1 rfl)) | (have a10 := (in_c 1 rfl); unfold In at a10)); (first | have a11 := in_u i118x1 | (have a11 := i118x1; unfold In at a11)))); have a12 := t_sub e103 i24 (in_c 1000100 rfl) rfl; (first | have a13 := oa2 ((in_c 1000100 rfl)) i98 | ((first | have a13 := in_u ((in_c 1000100 rfl)) | (have a13 := (in_c 1000100 rfl); unfold In at a13)); (first | have a14 := in_u i98 | (have a14 := i98; unfold In at a14)))); have a15 := t_sub e98 i89 (in_c 1 rfl) rfl; exact ⟨by omega, by omega⟩
                  refine g_lastore 122 (gd rfl) rfl (n := 120) rfl (in_ix i121 rfl) ?_
                  have hI121 := inv_sL (q := 105) (j := z98.toNatClampNeg) (x := (Int64.ofInt 1000000000000)) hIc5 rfl (l_rng (Int64.ofInt 1000000000000))
                  refine g_iinc 125 (gd rfl) rfl rfl (Nat.le_of_ble_eq_true rfl) (fun z122 e122 => ?_)
                  have i122 := in_add 1 120 e122 i8 (in_c 1 rfl) rfl rfl
                  refine g_goto 5 (gd rfl) rfl ?_
                  have n5 : (z89).toInt ≤ (z122).toInt := by (first | have a0 := oa6 i8a h1 i8 j5_3 i24 i122 | ((first | have a0 := in_u i8a | (have a0 := i8a; unfold In at a0)); (first | have a1 := in_u h1 | (have a1 := h1; unfold In at a1)); (first | have a2 := in_u i8 | (have a2 := i8; unfold In at a2)); (first | have a3 := in_u j5_3 | (have a3 := j5_3; unfold In at a3)); (first | have a4 := in_u i24 | (have a4 := i24; unfold In at a4)); (first | have a5 := in_u i122 | (have a5 := i122; unfold In at a5)))); have a6 := t_add e122 i8 (in_c 1 rfl) rfl; (first | have a7 := oa2 ((in_c 1 rfl)) i117 | ((first | have a7 := in_u ((in_c 1 rfl)) | (have a7 := (in_c 1 rfl); unfold In at a7)); (first | have a8 := in_u i117 | (have a8 := i117; unfold In at a8)))); have a9 := t_add e89 j5_3 (in_c (-1) rfl) rfl; (first | have a10 := oa2 ((in_c (-1) rfl)) i111 | ((first | have a10 := in_u ((in_c (-1) rfl)) | (have a10 := (in_c (-1) rfl); unfold In at a10)); (first | have a11 := in_u i111 | (have a11 := i111; unfold In at a11)))); have a12 := t_sub e110 i89 (in_c 1 rfl) rfl; (first | have a13 := in_u i118x1 | (have a13 := i118x1; unfold In at a13)); have a14 := t_sub e103 i24 (in_c 1000100 rfl) rfl; (first | have a15 := oa2 ((in_c 1000100 rfl)) i121 | ((first | have a15 := in_u ((in_c 1000100 rfl)) | (have a15 := (in_c 1000100 rfl); unfold In at a15)); (first | have a16 := in_u i121 | (have a16 := i121; unfold In at a16)))); have a17 := t_sub e98 i89 (in_c 1 rfl) rfl; omega
                  have n5a : CS (sL sc5 105 z98.toNatClampNeg (Int64.ofInt 1000000000000)) x1 z122 z89 := by first | exact hk2 _ _ (by (first | have a0 := oa6 i8a h1 i8 j5_3 i24 i122 | ((first | have a0 := in_u i8a | (have a0 := i8a; unfold In at a0)); (first | have a1 := in_u h1 | (have a1 := h1; unfold In at a1)); (first | have a2 := in_u i8 | (have a2 := i8; unfold In at a2)); (first | have a3 := in_u j5_3 | (have a3 := j5_3; unfold In at a3)); (first | have a4 := in_u i24 | (have a4 := i24; unfold In at a4)); (first | have a5 := in_u i122 | (have a5 := i122; unfold In at a5)))); have a6 := t_add e122 i8 (in_c 1 rfl) rfl; (first | have a7 := oa2 ((in_c 1 rfl)) i117 | ((first | have a7 := in_u ((in_c 1 rfl)) | (have a7 := (in_c 1 rfl); unfold In at a7)); (first | have a8 := in_u i117 | (have a8 := i117; unfold In at a8)))); have a9 := t_add e89 j5_3 (in_c (-1) rfl) rfl; (first | have a10 := oa2 ((in_c (-1) rfl)) i111 | ((first | have a10 := in_u ((in_c (-1) rfl)) | (have a10 := (in_c (-1) rfl); unfold In at a10)); (first | have a11 := in_u i111 | (have a11 := i111; unfold In at a11)))); have a12 := t_sub e110 i89 (in_c 1 rfl) rfl; (first | have a13 := in_u i118x1 | (have a13 := i118x1; unfold In at a13)); have a14 := t_sub e103 i24 (in_c 1000100 rfl) rfl; (first | have a15 := oa2 ((in_c 1000100 rfl)) i121 | ((first | have a15 := in_u ((in_c 1000100 rfl)) | (have a15 := (in_c 1000100 rfl); unfold In at a15)); (first | have a16 := in_u i121 | (have a16 := i121; unfold In at a16)))); have a17 := t_sub e98 i89 (in_c 1 rfl) rfl; omega) (by (first | have a0 := oa6 i8a h1 i8 j5_3 i24 i122 | ((first | have a0 := in_u i8a | (have a0 := i8a; unfold In at a0)); (first | have a1 := in_u h1 | (have a1 := h1; unfold In at a1)); (first | have a2 := in_u i8 | (have a2 := i8; unfold In at a2)); (first | have a3 := in_u j5_3 | (have a3 := j5_3; unfold In at a3)); (first | have a4 := in_u i24 | (have a4 := i24; unfold In at a4)); (first | have a5 := in_u i122 | (have a5 := i122; unfold In at a5)))); have a6 := t_add e122 i8 (in_c 1 rfl) rfl; (first | have a7 := oa2 ((in_c 1 rfl)) i117 | ((first | have a7 := in_u ((in_c 1 rfl)) | (have a7 := (in_c 1 rfl); unfold In at a7)); (first | have a8 := in_u i117 | (have a8 := i117; unfold In at a8)))); have a9 := t_add e89 j5_3 (in_c (-1) rfl) rfl; (first | have a10 := oa2 ((in_c (-1) rfl)) i111 | ((first | have a10 := in_u ((in_c (-1) rfl)) | (have a10 := (in_c (-1) rfl); unfold In at a10)); (first | have a11 := in_u i111 | (have a11 := i111; unfold In at a11)))); have a12 := t_sub e110 i89 (in_c 1 rfl) rfl; (first | have a13 := in_u i118x1 | (have a13 := i118x1; unfold In at a13)); have a14 := t_sub e103 i24 (in_c 1000100 rfl) rfl; (first | have a15 := oa2 ((in_c 1000100 rfl)) i121 | ((first | have a15 := in_u ((in_c 1000100 rfl)) | (have a15 := (in_c 1000100 rfl); unfold In at a15)); (first | have a16 := in_u i121 | (have a16 := i121; unfold In at a16)))); have a17 := t_sub e98 i89 (in_c 1 rfl) rfl; omega) | exact cs_0 rfl h1.1
                  exact gg_w (by first | exact Nat.le_add_right _ _ | exact gw2 | exact gw3 | exact gwe rfl | exact gwf rfl | exact gwg rfl | exact gwh rfl | omega) (gg_f (gf_cons rfl (gf_cons rfl (gf_cons rfl (gf_cons rfl (gf_cons rfl gf_nil))))) (ih5 (sL sc5 105 z98.toNatClampNeg (Int64.ofInt 1000000000000)) z89 z122 hI121 (fr_sL rfl hFc5) (in_w 0 120 i117 rfl) (in_w 0 120 i122 rfl) n5 n5a (m_up mm5 (t_add e122 i8 (in_c 1 rfl) rfl) (in_w 1 1 (in_c 1 rfl) rfl))))
                · skip
                  have i118x54x10x3 := z_ge 0 1 c118x54x10x3 i118x54x10x2 rfl
                  have c118x54x10x3a := lc_ge e118x54x10x2 c118x54x10x3
                  exact ln_le c118x54x10x3a (l_c 1000000000000 rfl) (l_c (-1000000000000) rfl) rfl
            · skip
              have i118x1 := sw_eq c118x1
              refine g_lload_n 65 (gd rfl) rfl rfl ?_
              refine g_lload_n 66 (gd rfl) rfl rfl ?_
              refine g_lcmp 67 (gd rfl) rfl (fun z118x66 e118x66 => ?_)
              have i118x66 := lc_in e118x66
              refine g_if_ge 70 74 (gd rfl) rfl rfl (fun c118x67 => ?_) (fun c118x67 => ?_)
              · skip
                have i118x67 := z_ge 0 1 c118x67 i118x66 rfl
                have c118x67a := lc_ge e118x66 c118x67
                refine g_lconst 0 75 (gd rfl) rfl rfl ?_
                refine g_lreturn (gd rfl) rfl (hp118 _ _ ?_)
                show GG _ _ _ _ _ _ _ _ [.long (Int64.ofInt 0), .int z98, .ref (A 105)] _ _ _
                have i121 : In z98 0 119 := by (first | have a0 := oa6 i8a h1 i8 j5_3 i24 i117 | ((first | have a0 := in_u i8a | (have a0 := i8a; unfold In at a0)); (first | have a1 := in_u h1 | (have a1 := h1; unfold In at a1)); (first | have a2 := in_u i8 | (have a2 := i8; unfold In at a2)); (first | have a3 := in_u j5_3 | (have a3 := j5_3; unfold In at a3)); (first | have a4 := in_u i24 | (have a4 := i24; unfold In at a4)); (first | have a5 := in_u i117 | (have a5 := i117; unfold In at a5)))); have a6 := t_add e89 j5_3 (in_c (-1) rfl) rfl; (first | have a7 := oa2 ((in_c (-1) rfl)) i111 | ((first | have a7 := in_u ((in_c (-1) rfl)) | (have a7 := (in_c (-1) rfl); unfold In at a7)); (first | have a8 := in_u i111 | (have a8 := i111; unfold In at a8)))); have a9 := t_sub e110 i89 (in_c 1 rfl) rfl; (first | have a10 := oa2 ((in_c 1 rfl)) i118x1 | ((first | have a10 := in_u ((in_c 1 rfl)) | (have a10 := (in_c 1 rfl); unfold In at a10)); (first | have a11 := in_u i118x1 | (have a11 := i118x1; unfold In at a11)))); have a12 := t_sub e103 i24 (in_c 1000100 rfl) rfl; (first | have a13 := oa2 ((in_c 1000100 rfl)) i98 | ((first | have a13 := in_u ((in_c 1000100 rfl)) | (have a13 := (in_c 1000100 rfl); unfold In at a13)); (first | have a14 := in_u i98 | (have a14 := i98; unfold In at a14)))); have a15 := t_sub e98 i89 (in_c 1 rfl) rfl; exact ⟨by omega, by omega⟩
                refine g_lastore 122 (gd rfl) rfl (n := 120) rfl (in_ix i121 rfl) ?_
                have hI121 := inv_sL (q := 105) (j := z98.toNatClampNeg) (x := (Int64.ofInt 0)) hIc5 rfl (l_rng (Int64.ofInt 0))
                refine g_iinc 125 (gd rfl) rfl rfl (Nat.le_of_ble_eq_true rfl) (fun z122 e122 => ?_)
                have i122 := in_add 1 120 e122 i8 (in_c 1 rfl) rfl rfl
                refine g_goto 5 (gd rfl) rfl ?_
                have n5 : (z89).toInt ≤ (z122).toInt := by (first | have a0 := oa6 i8a h1 i8 j5_3 i24 i122 | ((first | have a0 := in_u i8a | (have a0 := i8a; unfold In at a0)); (first | have a1 := in_u h1 | (have a1 := h1; unfold In at a1)); (first | have a2 := in_u i8 | (have a2 := i8; unfold In at a2)); (first | have a3 := in_u j5_3 | (have a3 := j5_3; unfold In at a3)); (first | have a4 := in_u i24 | (have a4 := i24; unfold In at a4)); (first | have a5 := in_u i122 | (have a5 := i122; unfold In at a5)))); have a6 := t_add e122 i8 (in_c 1 rfl) rfl; (first | have a7 := oa2 ((in_c 1 rfl)) i117 | ((first | have a7 := in_u ((in_c 1 rfl)) | (have a7 := (in_c 1 rfl); unfold In at a7)); (first | have a8 := in_u i117 | (have a8 := i117; unfold In at a8)))); have a9 := t_add e89 j5_3 (in_c (-1) rfl) rfl; (first | have a10 := oa2 ((in_c (-1) rfl)) i111 | ((first | have a10 := in_u ((in_c (-1) rfl)) | (have a10 := (in_c (-1) rfl); unfold In at a10)); (first | have a11 := in_u i111 | (have a11 := i111; unfold In at a11)))); have a12 := t_sub e110 i89 (in_c 1 rfl) rfl; (first | have a13 := in_u i118x1 | (have a13 := i118x1; unfold In at a13)); have a14 := t_sub e103 i24 (in_c 1000100 rfl) rfl; (first | have a15 := oa2 ((in_c 1000100 rfl)) i121 | ((first | have a15 := in_u ((in_c 1000100 rfl)) | (have a15 := (in_c 1000100 rfl); unfold In at a15)); (first | have a16 := in_u i121 | (have a16 := i121; unfold In at a16)))); have a17 := t_sub e98 i89 (in_c 1 rfl) rfl; omega
                have n5a : CS (sL sc5 105 z98.toNatClampNeg (Int64.ofInt 0)) x1 z122 z89 := by first | exact hk2 _ _ (by (first | have a0 := oa6 i8a h1 i8 j5_3 i24 i122 | ((first | have a0 := in_u i8a | (have a0 := i8a; unfold In at a0)); (first | have a1 := in_u h1 | (have a1 := h1; unfold In at a1)); (first | have a2 := in_u i8 | (have a2 := i8; unfold In at a2)); (first | have a3 := in_u j5_3 | (have a3 := j5_3; unfold In at a3)); (first | have a4 := in_u i24 | (have a4 := i24; unfold In at a4)); (first | have a5 := in_u i122 | (have a5 := i122; unfold In at a5)))); have a6 := t_add e122 i8 (in_c 1 rfl) rfl; (first | have a7 := oa2 ((in_c 1 rfl)) i117 | ((first | have a7 := in_u ((in_c 1 rfl)) | (have a7 := (in_c 1 rfl); unfold In at a7)); (first | have a8 := in_u i117 | (have a8 := i117; unfold In at a8)))); have a9 := t_add e89 j5_3 (in_c (-1) rfl) rfl; (first | have a10 := oa2 ((in_c (-1) rfl)) i111 | ((first | have a10 := in_u ((in_c (-1) rfl)) | (have a10 := (in_c (-1) rfl); unfold In at a10)); (first | have a11 := in_u i111 | (have a11 := i111; unfold In at a11)))); have a12 := t_sub e110 i89 (in_c 1 rfl) rfl; (first | have a13 := in_u i118x1 | (have a13 := i118x1; unfold In at a13)); have a14 := t_sub e103 i24 (in_c 1000100 rfl) rfl; (first | have a15 := oa2 ((in_c 1000100 rfl)) i121 | ((first | have a15 := in_u ((in_c 1000100 rfl)) | (have a15 := (in_c 1000100 rfl); unfold In at a15)); (first | have a16 := in_u i121 | (have a16 := i121; unfold In at a16)))); have a17 := t_sub e98 i89 (in_c 1 rfl) rfl; omega) (by (first | have a0 := oa6 i8a h1 i8 j5_3 i24 i122 | ((first | have a0 := in_u i8a | (have a0 := i8a; unfold In at a0)); (first | have a1 := in_u h1 | (have a1 := h1; unfold In at a1)); (first | have a2 := in_u i8 | (have a2 := i8; unfold In at a2)); (first | have a3 := in_u j5_3 | (have a3 := j5_3; unfold In at a3)); (first | have a4 := in_u i24 | (have a4 := i24; unfold In at a4)); (first | have a5 := in_u i122 | (have a5 := i122; unfold In at a5)))); have a6 := t_add e122 i8 (in_c 1 rfl) rfl; (first | have a7 := oa2 ((in_c 1 rfl)) i117 | ((first | have a7 := in_u ((in_c 1 rfl)) | (have a7 := (in_c 1 rfl); unfold In at a7)); (first | have a8 := in_u i117 | (have a8 := i117; unfold In at a8)))); have a9 := t_add e89 j5_3 (in_c (-1) rfl) rfl; (first | have a10 := oa2 ((in_c (-1) rfl)) i111 | ((first | have a10 := in_u ((in_c (-1) rfl)) | (have a10 := (in_c (-1) rfl); unfold In at a10)); (first | have a11 := in_u i111 | (have a11 := i111; unfold In at a11)))); have a12 := t_sub e110 i89 (in_c 1 rfl) rfl; (first | have a13 := in_u i118x1 | (have a13 := i118x1; unfold In at a13)); have a14 := t_sub e103 i24 (in_c 1000100 rfl) rfl; (first | have a15 := oa2 ((in_c 1000100 rfl)) i121 | ((first | have a15 := in_u ((in_c 1000100 rfl)) | (have a15 := (in_c 1000100 rfl); unfold In at a15)); (first | have a16 := in_u i121 | (have a16 := i121; unfold In at a16)))); have a17 := t_sub e98 i89 (in_c 1 rfl) rfl; omega) | exact cs_0 rfl h1.1
                exact gg_w (by first | exact Nat.le_add_right _ _ | exact gw2 | exact gw3 | exact gwe rfl | exact gwf rfl | exact gwg rfl | exact gwh rfl | omega) (gg_f (gf_cons rfl (gf_cons rfl (gf_cons rfl (gf_cons rfl (gf_cons rfl gf_nil))))) (ih5 (sL sc5 105 z98.toNatClampNeg (Int64.ofInt 0)) z89 z122 hI121 (fr_sL rfl hFc5) (in_w 0 120 i117 rfl) (in_w 0 120 i122 rfl) n5 n5a (m_up mm5 (t_add e122 i8 (in_c 1 rfl) rfl) (in_w 1 1 (in_c 1 rfl) rfl))))
              · skip
                have i118x67 := z_lt (-1) (-1) c118x67 i118x66 rfl
                have c118x67a := lc_lt e118x66 c118x67
                have i118x67a := lr_lt1 (-9223372036854775808) 9223372036854775806 c118x67a (l_rng z111) (l_rng z117) rfl
                have i118x67b := lr_lt2 (-9223372036854775807) 9223372036854775807 c118x67a (l_rng z111) (l_rng z117) rfl
                refine g_lconst 1 71 (gd rfl) rfl rfl ?_
                refine g_goto 75 (gd rfl) rfl ?_
                refine g_lreturn (gd rfl) rfl (hp118 _ _ ?_)
                show GG _ _ _ _ _ _ _ _ [.long (Int64.ofInt 1), .int z98, .ref (A 105)] _ _ _
                have i121 : In z98 0 119 := by (first | have a0 := oa6 i8a h1 i8 j5_3 i24 i117 | ((first | have a0 := in_u i8a | (have a0 := i8a; unfold In at a0)); (first | have a1 := in_u h1 | (have a1 := h1; unfold In at a1)); (first | have a2 := in_u i8 | (have a2 := i8; unfold In at a2)); (first | have a3 := in_u j5_3 | (have a3 := j5_3; unfold In at a3)); (first | have a4 := in_u i24 | (have a4 := i24; unfold In at a4)); (first | have a5 := in_u i117 | (have a5 := i117; unfold In at a5)))); have a6 := t_add e89 j5_3 (in_c (-1) rfl) rfl; (first | have a7 := oa2 ((in_c (-1) rfl)) i111 | ((first | have a7 := in_u ((in_c (-1) rfl)) | (have a7 := (in_c (-1) rfl); unfold In at a7)); (first | have a8 := in_u i111 | (have a8 := i111; unfold In at a8)))); have a9 := t_sub e110 i89 (in_c 1 rfl) rfl; (first | have a10 := oa2 ((in_c 1 rfl)) i118x1 | ((first | have a10 := in_u ((in_c 1 rfl)) | (have a10 := (in_c 1 rfl); unfold In at a10)); (first | have a11 := in_u i118x1 | (have a11 := i118x1; unfold In at a11)))); have a12 := t_sub e103 i24 (in_c 1000100 rfl) rfl; (first | have a13 := oa2 ((in_c 1000100 rfl)) i98 | ((first | have a13 := in_u ((in_c 1000100 rfl)) | (have a13 := (in_c 1000100 rfl); unfold In at a13)); (first | have a14 := in_u i98 | (have a14 := i98; unfold In at a14)))); have a15 := t_sub e98 i89 (in_c 1 rfl) rfl; exact ⟨by omega, by omega⟩
                refine g_lastore 122 (gd rfl) rfl (n := 120) rfl (in_ix i121 rfl) ?_
                have hI121 := inv_sL (q := 105) (j := z98.toNatClampNeg) (x := (Int64.ofInt 1)) hIc5 rfl (l_rng (Int64.ofInt 1))
                refine g_iinc 125 (gd rfl) rfl rfl (Nat.le_of_ble_eq_true rfl) (fun z122 e122 => ?_)
                have i122 := in_add 1 120 e122 i8 (in_c 1 rfl) rfl rfl
                refine g_goto 5 (gd rfl) rfl ?_
                have n5 : (z89).toInt ≤ (z122).toInt := by (first | have a0 := oa6 i8a h1 i8 j5_3 i24 i122 | ((first | have a0 := in_u i8a | (have a0 := i8a; unfold In at a0)); (first | have a1 := in_u h1 | (have a1 := h1; unfold In at a1)); (first | have a2 := in_u i8 | (have a2 := i8; unfold In at a2)); (first | have a3 := in_u j5_3 | (have a3 := j5_3; unfold In at a3)); (first | have a4 := in_u i24 | (have a4 := i24; unfold In at a4)); (first | have a5 := in_u i122 | (have a5 := i122; unfold In at a5)))); have a6 := t_add e122 i8 (in_c 1 rfl) rfl; (first | have a7 := oa2 ((in_c 1 rfl)) i117 | ((first | have a7 := in_u ((in_c 1 rfl)) | (have a7 := (in_c 1 rfl); unfold In at a7)); (first | have a8 := in_u i117 | (have a8 := i117; unfold In at a8)))); have a9 := t_add e89 j5_3 (in_c (-1) rfl) rfl; (first | have a10 := oa2 ((in_c (-1) rfl)) i111 | ((first | have a10 := in_u ((in_c (-1) rfl)) | (have a10 := (in_c (-1) rfl); unfold In at a10)); (first | have a11 := in_u i111 | (have a11 := i111; unfold In at a11)))); have a12 := t_sub e110 i89 (in_c 1 rfl) rfl; (first | have a13 := in_u i118x1 | (have a13 := i118x1; unfold In at a13)); have a14 := t_sub e103 i24 (in_c 1000100 rfl) rfl; (first | have a15 := oa2 ((in_c 1000100 rfl)) i121 | ((first | have a15 := in_u ((in_c 1000100 rfl)) | (have a15 := (in_c 1000100 rfl); unfold In at a15)); (first | have a16 := in_u i121 | (have a16 := i121; unfold In at a16)))); have a17 := t_sub e98 i89 (in_c 1 rfl) rfl; omega
                have n5a : CS (sL sc5 105 z98.toNatClampNeg (Int64.ofInt 1)) x1 z122 z89 := by first | exact hk2 _ _ (by (first | have a0 := oa6 i8a h1 i8 j5_3 i24 i122 | ((first | have a0 := in_u i8a | (have a0 := i8a; unfold In at a0)); (first | have a1 := in_u h1 | (have a1 := h1; unfold In at a1)); (first | have a2 := in_u i8 | (have a2 := i8; unfold In at a2)); (first | have a3 := in_u j5_3 | (have a3 := j5_3; unfold In at a3)); (first | have a4 := in_u i24 | (have a4 := i24; unfold In at a4)); (first | have a5 := in_u i122 | (have a5 := i122; unfold In at a5)))); have a6 := t_add e122 i8 (in_c 1 rfl) rfl; (first | have a7 := oa2 ((in_c 1 rfl)) i117 | ((first | have a7 := in_u ((in_c 1 rfl)) | (have a7 := (in_c 1 rfl); unfold In at a7)); (first | have a8 := in_u i117 | (have a8 := i117; unfold In at a8)))); have a9 := t_add e89 j5_3 (in_c (-1) rfl) rfl; (first | have a10 := oa2 ((in_c (-1) rfl)) i111 | ((first | have a10 := in_u ((in_c (-1) rfl)) | (have a10 := (in_c (-1) rfl); unfold In at a10)); (first | have a11 := in_u i111 | (have a11 := i111; unfold In at a11)))); have a12 := t_sub e110 i89 (in_c 1 rfl) rfl; (first | have a13 := in_u i118x1 | (have a13 := i118x1; unfold In at a13)); have a14 := t_sub e103 i24 (in_c 1000100 rfl) rfl; (first | have a15 := oa2 ((in_c 1000100 rfl)) i121 | ((first | have a15 := in_u ((in_c 1000100 rfl)) | (have a15 := (in_c 1000100 rfl); unfold In at a15)); (first | have a16 := in_u i121 | (have a16 := i121; unfold In at a16)))); have a17 := t_sub e98 i89 (in_c 1 rfl) rfl; omega) (by (first | have a0 := oa6 i8a h1 i8 j5_3 i24 i122 | ((first | have a0 := in_u i8a | (have a0 := i8a; unfold In at a0)); (first | have a1 := in_u h1 | (have a1 := h1; unfold In at a1)); (first | have a2 := in_u i8 | (have a2 := i8; unfold In at a2)); (first | have a3 := in_u j5_3 | (have a3 := j5_3; unfold In at a3)); (first | have a4 := in_u i24 | (have a4 := i24; unfold In at a4)); (first | have a5 := in_u i122 | (have a5 := i122; unfold In at a5)))); have a6 := t_add e122 i8 (in_c 1 rfl) rfl; (first | have a7 := oa2 ((in_c 1 rfl)) i117 | ((first | have a7 := in_u ((in_c 1 rfl)) | (have a7 := (in_c 1 rfl); unfold In at a7)); (first | have a8 := in_u i117 | (have a8 := i117; unfold In at a8)))); have a9 := t_add e89 j5_3 (in_c (-1) rfl) rfl; (first | have a10 := oa2 ((in_c (-1) rfl)) i111 | ((first | have a10 := in_u ((in_c (-1) rfl)) | (have a10 := (in_c (-1) rfl); unfold In at a10)); (first | have a11 := in_u i111 | (have a11 := i111; unfold In at a11)))); have a12 := t_sub e110 i89 (in_c 1 rfl) rfl; (first | have a13 := in_u i118x1 | (have a13 := i118x1; unfold In at a13)); have a14 := t_sub e103 i24 (in_c 1000100 rfl) rfl; (first | have a15 := oa2 ((in_c 1000100 rfl)) i121 | ((first | have a15 := in_u ((in_c 1000100 rfl)) | (have a15 := (in_c 1000100 rfl); unfold In at a15)); (first | have a16 := in_u i121 | (have a16 := i121; unfold In at a16)))); have a17 := t_sub e98 i89 (in_c 1 rfl) rfl; omega) | exact cs_0 rfl h1.1
                exact gg_w (by first | exact Nat.le_add_right _ _ | exact gw2 | exact gw3 | exact gwe rfl | exact gwf rfl | exact gwg rfl | exact gwh rfl | omega) (gg_f (gf_cons rfl (gf_cons rfl (gf_cons rfl (gf_cons rfl (gf_cons rfl gf_nil))))) (ih5 (sL sc5 105 z98.toNatClampNeg (Int64.ofInt 1)) z89 z122 hI121 (fr_sL rfl hFc5) (in_w 0 120 i117 rfl) (in_w 0 120 i122 rfl) n5 n5a (m_up mm5 (t_add e122 i8 (in_c 1 rfl) rfl) (in_w 1 1 (in_c 1 rfl) rfl))))
            · skip
              refine g_lload_n 77 (gd rfl) rfl rfl ?_
              refine g_lload_n 78 (gd rfl) rfl rfl ?_
              refine g_lcmp 79 (gd rfl) rfl (fun z118x78 e118x78 => ?_)
              have i118x78 := lc_in e118x78
              refine g_if_ne 82 86 (gd rfl) rfl rfl (fun c118x79 => ?_) (fun c118x79 => ?_)
              · skip
                have c118x79a := lc_ne e118x78 c118x79
                refine g_lconst 0 87 (gd rfl) rfl rfl ?_
                refine g_lreturn (gd rfl) rfl (hp118 _ _ ?_)
                show GG _ _ _ _ _ _ _ _ [.long (Int64.ofInt 0), .int z98, .ref (A 105)] _ _ _
                have i121 : In z98 0 119 := by (first | have a0 := oa6 i8a h1 i8 j5_3 i24 i117 | ((first | have a0 := in_u i8a | (have a0 := i8a; unfold In at a0)); (first | have a1 := in_u h1 | (have a1 := h1; unfold In at a1)); (first | have a2 := in_u i8 | (have a2 := i8; unfold In at a2)); (first | have a3 := in_u j5_3 | (have a3 := j5_3; unfold In at a3)); (first | have a4 := in_u i24 | (have a4 := i24; unfold In at a4)); (first | have a5 := in_u i117 | (have a5 := i117; unfold In at a5)))); have a6 := t_add e89 j5_3 (in_c (-1) rfl) rfl; (first | have a7 := oa2 ((in_c (-1) rfl)) i111 | ((first | have a7 := in_u ((in_c (-1) rfl)) | (have a7 := (in_c (-1) rfl); unfold In at a7)); (first | have a8 := in_u i111 | (have a8 := i111; unfold In at a8)))); have a9 := t_sub e110 i89 (in_c 1 rfl) rfl; (first | have a10 := oa2 ((in_c 1 rfl)) i103 | ((first | have a10 := in_u ((in_c 1 rfl)) | (have a10 := (in_c 1 rfl); unfold In at a10)); (first | have a11 := in_u i103 | (have a11 := i103; unfold In at a11)))); have a12 := t_sub e103 i24 (in_c 1000100 rfl) rfl; (first | have a13 := oa2 ((in_c 1000100 rfl)) i98 | ((first | have a13 := in_u ((in_c 1000100 rfl)) | (have a13 := (in_c 1000100 rfl); unfold In at a13)); (first | have a14 := in_u i98 | (have a14 := i98; unfold In at a14)))); have a15 := t_sub e98 i89 (in_c 1 rfl) rfl; exact ⟨by omega, by omega⟩
                refine g_lastore 122 (gd rfl) rfl (n := 120) rfl (in_ix i121 rfl) ?_
                have hI121 := inv_sL (q := 105) (j := z98.toNatClampNeg) (x := (Int64.ofInt 0)) hIc5 rfl (l_rng (Int64.ofInt 0))
                refine g_iinc 125 (gd rfl) rfl rfl (Nat.le_of_ble_eq_true rfl) (fun z122 e122 => ?_)
                have i122 := in_add 1 120 e122 i8 (in_c 1 rfl) rfl rfl
                refine g_goto 5 (gd rfl) rfl ?_
                have n5 : (z89).toInt ≤ (z122).toInt := by (first | have a0 := oa6 i8a h1 i8 j5_3 i24 i122 | ((first | have a0 := in_u i8a | (have a0 := i8a; unfold In at a0)); (first | have a1 := in_u h1 | (have a1 := h1; unfold In at a1)); (first | have a2 := in_u i8 | (have a2 := i8; unfold In at a2)); (first | have a3 := in_u j5_3 | (have a3 := j5_3; unfold In at a3)); (first | have a4 := in_u i24 | (have a4 := i24; unfold In at a4)); (first | have a5 := in_u i122 | (have a5 := i122; unfold In at a5)))); have a6 := t_add e122 i8 (in_c 1 rfl) rfl; (first | have a7 := oa2 ((in_c 1 rfl)) i117 | ((first | have a7 := in_u ((in_c 1 rfl)) | (have a7 := (in_c 1 rfl); unfold In at a7)); (first | have a8 := in_u i117 | (have a8 := i117; unfold In at a8)))); have a9 := t_add e89 j5_3 (in_c (-1) rfl) rfl; (first | have a10 := oa2 ((in_c (-1) rfl)) i111 | ((first | have a10 := in_u ((in_c (-1) rfl)) | (have a10 := (in_c (-1) rfl); unfold In at a10)); (first | have a11 := in_u i111 | (have a11 := i111; unfold In at a11)))); have a12 := t_sub e110 i89 (in_c 1 rfl) rfl; (first | have a13 := in_u i103 | (have a13 := i103; unfold In at a13)); have a14 := t_sub e103 i24 (in_c 1000100 rfl) rfl; (first | have a15 := oa2 ((in_c 1000100 rfl)) i121 | ((first | have a15 := in_u ((in_c 1000100 rfl)) | (have a15 := (in_c 1000100 rfl); unfold In at a15)); (first | have a16 := in_u i121 | (have a16 := i121; unfold In at a16)))); have a17 := t_sub e98 i89 (in_c 1 rfl) rfl; omega
                have n5a : CS (sL sc5 105 z98.toNatClampNeg (Int64.ofInt 0)) x1 z122 z89 := by first | exact hk2 _ _ (by (first | have a0 := oa6 i8a h1 i8 j5_3 i24 i122 | ((first | have a0 := in_u i8a | (have a0 := i8a; unfold In at a0)); (first | have a1 := in_u h1 | (have a1 := h1; unfold In at a1)); (first | have a2 := in_u i8 | (have a2 := i8; unfold In at a2)); (first | have a3 := in_u j5_3 | (have a3 := j5_3; unfold In at a3)); (first | have a4 := in_u i24 | (have a4 := i24; unfold In at a4)); (first | have a5 := in_u i122 | (have a5 := i122; unfold In at a5)))); have a6 := t_add e122 i8 (in_c 1 rfl) rfl; (first | have a7 := oa2 ((in_c 1 rfl)) i117 | ((first | have a7 := in_u ((in_c 1 rfl)) | (have a7 := (in_c 1 rfl); unfold In at a7)); (first | have a8 := in_u i117 | (have a8 := i117; unfold In at a8)))); have a9 := t_add e89 j5_3 (in_c (-1) rfl) rfl; (first | have a10 := oa2 ((in_c (-1) rfl)) i111 | ((first | have a10 := in_u ((in_c (-1) rfl)) | (have a10 := (in_c (-1) rfl); unfold In at a10)); (first | have a11 := in_u i111 | (have a11 := i111; unfold In at a11)))); have a12 := t_sub e110 i89 (in_c 1 rfl) rfl; (first | have a13 := in_u i103 | (have a13 := i103; unfold In at a13)); have a14 := t_sub e103 i24 (in_c 1000100 rfl) rfl; (first | have a15 := oa2 ((in_c 1000100 rfl)) i121 | ((first | have a15 := in_u ((in_c 1000100 rfl)) | (have a15 := (in_c 1000100 rfl); unfold In at a15)); (first | have a16 := in_u i121 | (have a16 := i121; unfold In at a16)))); have a17 := t_sub e98 i89 (in_c 1 rfl) rfl; omega) (by (first | have a0 := oa6 i8a h1 i8 j5_3 i24 i122 | ((first | have a0 := in_u i8a | (have a0 := i8a; unfold In at a0)); (first | have a1 := in_u h1 | (have a1 := h1; unfold In at a1)); (first | have a2 := in_u i8 | (have a2 := i8; unfold In at a2)); (first | have a3 := in_u j5_3 | (have a3 := j5_3; unfold In at a3)); (first | have a4 := in_u i24 | (have a4 := i24; unfold In at a4)); (first | have a5 := in_u i122 | (have a5 := i122; unfold In at a5)))); have a6 := t_add e122 i8 (in_c 1 rfl) rfl; (first | have a7 := oa2 ((in_c 1 rfl)) i117 | ((first | have a7 := in_u ((in_c 1 rfl)) | (have a7 := (in_c 1 rfl); unfold In at a7)); (first | have a8 := in_u i117 | (have a8 := i117; unfold In at a8)))); have a9 := t_add e89 j5_3 (in_c (-1) rfl) rfl; (first | have a10 := oa2 ((in_c (-1) rfl)) i111 | ((first | have a10 := in_u ((in_c (-1) rfl)) | (have a10 := (in_c (-1) rfl); unfold In at a10)); (first | have a11 := in_u i111 | (have a11 := i111; unfold In at a11)))); have a12 := t_sub e110 i89 (in_c 1 rfl) rfl; (first | have a13 := in_u i103 | (have a13 := i103; unfold In at a13)); have a14 := t_sub e103 i24 (in_c 1000100 rfl) rfl; (first | have a15 := oa2 ((in_c 1000100 rfl)) i121 | ((first | have a15 := in_u ((in_c 1000100 rfl)) | (have a15 := (in_c 1000100 rfl); unfold In at a15)); (first | have a16 := in_u i121 | (have a16 := i121; unfold In at a16)))); have a17 := t_sub e98 i89 (in_c 1 rfl) rfl; omega) | exact cs_0 rfl h1.1
                exact gg_w (by first | exact Nat.le_add_right _ _ | exact gw2 | exact gw3 | exact gwe rfl | exact gwf rfl | exact gwg rfl | exact gwh rfl | omega) (gg_f (gf_cons rfl (gf_cons rfl (gf_cons rfl (gf_cons rfl (gf_cons rfl gf_nil))))) (ih5 (sL sc5 105 z98.toNatClampNeg (Int64.ofInt 0)) z89 z122 hI121 (fr_sL rfl hFc5) (in_w 0 120 i117 rfl) (in_w 0 120 i122 rfl) n5 n5a (m_up mm5 (t_add e122 i8 (in_c 1 rfl) rfl) (in_w 1 1 (in_c 1 rfl) rfl))))
              · skip
                have i118x79 := z_eq 0 0 c118x79 i118x78 rfl
                have c118x79a := lc_eq e118x78 c118x79
                refine g_lconst 1 83 (gd rfl) rfl rfl ?_
                refine g_goto 87 (gd rfl) rfl ?_
                refine g_lreturn (gd rfl) rfl (hp118 _ _ ?_)
                show GG _ _ _ _ _ _ _ _ [.long (Int64.ofInt 1), .int z98, .ref (A 105)] _ _ _
                have i121 : In z98 0 119 := by (first | have a0 := oa6 i8a h1 i8 j5_3 i24 i117 | ((first | have a0 := in_u i8a | (have a0 := i8a; unfold In at a0)); (first | have a1 := in_u h1 | (have a1 := h1; unfold In at a1)); (first | have a2 := in_u i8 | (have a2 := i8; unfold In at a2)); (first | have a3 := in_u j5_3 | (have a3 := j5_3; unfold In at a3)); (first | have a4 := in_u i24 | (have a4 := i24; unfold In at a4)); (first | have a5 := in_u i117 | (have a5 := i117; unfold In at a5)))); have a6 := t_add e89 j5_3 (in_c (-1) rfl) rfl; (first | have a7 := oa2 ((in_c (-1) rfl)) i111 | ((first | have a7 := in_u ((in_c (-1) rfl)) | (have a7 := (in_c (-1) rfl); unfold In at a7)); (first | have a8 := in_u i111 | (have a8 := i111; unfold In at a8)))); have a9 := t_sub e110 i89 (in_c 1 rfl) rfl; (first | have a10 := oa2 ((in_c 1 rfl)) i103 | ((first | have a10 := in_u ((in_c 1 rfl)) | (have a10 := (in_c 1 rfl); unfold In at a10)); (first | have a11 := in_u i103 | (have a11 := i103; unfold In at a11)))); have a12 := t_sub e103 i24 (in_c 1000100 rfl) rfl; (first | have a13 := oa2 ((in_c 1000100 rfl)) i98 | ((first | have a13 := in_u ((in_c 1000100 rfl)) | (have a13 := (in_c 1000100 rfl); unfold In at a13)); (first | have a14 := in_u i98 | (have a14 := i98; unfold In at a14)))); have a15 := t_sub e98 i89 (in_c 1 rfl) rfl; exact ⟨by omega, by omega⟩
                refine g_lastore 122 (gd rfl) rfl (n := 120) rfl (in_ix i121 rfl) ?_
                have hI121 := inv_sL (q := 105) (j := z98.toNatClampNeg) (x := (Int64.ofInt 1)) hIc5 rfl (l_rng (Int64.ofInt 1))
                refine g_iinc 125 (gd rfl) rfl rfl (Nat.le_of_ble_eq_true rfl) (fun z122 e122 => ?_)
                have i122 := in_add 1 120 e122 i8 (in_c 1 rfl) rfl rfl
                refine g_goto 5 (gd rfl) rfl ?_
                have n5 : (z89).toInt ≤ (z122).toInt := by (first | have a0 := oa6 i8a h1 i8 j5_3 i24 i122 | ((first | have a0 := in_u i8a | (have a0 := i8a; unfold In at a0)); (first | have a1 := in_u h1 | (have a1 := h1; unfold In at a1)); (first | have a2 := in_u i8 | (have a2 := i8; unfold In at a2)); (first | have a3 := in_u j5_3 | (have a3 := j5_3; unfold In at a3)); (first | have a4 := in_u i24 | (have a4 := i24; unfold In at a4)); (first | have a5 := in_u i122 | (have a5 := i122; unfold In at a5)))); have a6 := t_add e122 i8 (in_c 1 rfl) rfl; (first | have a7 := oa2 ((in_c 1 rfl)) i117 | ((first | have a7 := in_u ((in_c 1 rfl)) | (have a7 := (in_c 1 rfl); unfold In at a7)); (first | have a8 := in_u i117 | (have a8 := i117; unfold In at a8)))); have a9 := t_add e89 j5_3 (in_c (-1) rfl) rfl; (first | have a10 := oa2 ((in_c (-1) rfl)) i111 | ((first | have a10 := in_u ((in_c (-1) rfl)) | (have a10 := (in_c (-1) rfl); unfold In at a10)); (first | have a11 := in_u i111 | (have a11 := i111; unfold In at a11)))); have a12 := t_sub e110 i89 (in_c 1 rfl) rfl; (first | have a13 := in_u i103 | (have a13 := i103; unfold In at a13)); have a14 := t_sub e103 i24 (in_c 1000100 rfl) rfl; (first | have a15 := oa2 ((in_c 1000100 rfl)) i121 | ((first | have a15 := in_u ((in_c 1000100 rfl)) | (have a15 := (in_c 1000100 rfl); unfold In at a15)); (first | have a16 := in_u i121 | (have a16 := i121; unfold In at a16)))); have a17 := t_sub e98 i89 (in_c 1 rfl) rfl; omega
                have n5a : CS (sL sc5 105 z98.toNatClampNeg (Int64.ofInt 1)) x1 z122 z89 := by first | exact hk2 _ _ (by (first | have a0 := oa6 i8a h1 i8 j5_3 i24 i122 | ((first | have a0 := in_u i8a | (have a0 := i8a; unfold In at a0)); (first | have a1 := in_u h1 | (have a1 := h1; unfold In at a1)); (first | have a2 := in_u i8 | (have a2 := i8; unfold In at a2)); (first | have a3 := in_u j5_3 | (have a3 := j5_3; unfold In at a3)); (first | have a4 := in_u i24 | (have a4 := i24; unfold In at a4)); (first | have a5 := in_u i122 | (have a5 := i122; unfold In at a5)))); have a6 := t_add e122 i8 (in_c 1 rfl) rfl; (first | have a7 := oa2 ((in_c 1 rfl)) i117 | ((first | have a7 := in_u ((in_c 1 rfl)) | (have a7 := (in_c 1 rfl); unfold In at a7)); (first | have a8 := in_u i117 | (have a8 := i117; unfold In at a8)))); have a9 := t_add e89 j5_3 (in_c (-1) rfl) rfl; (first | have a10 := oa2 ((in_c (-1) rfl)) i111 | ((first | have a10 := in_u ((in_c (-1) rfl)) | (have a10 := (in_c (-1) rfl); unfold In at a10)); (first | have a11 := in_u i111 | (have a11 := i111; unfold In at a11)))); have a12 := t_sub e110 i89 (in_c 1 rfl) rfl; (first | have a13 := in_u i103 | (have a13 := i103; unfold In at a13)); have a14 := t_sub e103 i24 (in_c 1000100 rfl) rfl; (first | have a15 := oa2 ((in_c 1000100 rfl)) i121 | ((first | have a15 := in_u ((in_c 1000100 rfl)) | (have a15 := (in_c 1000100 rfl); unfold In at a15)); (first | have a16 := in_u i121 | (have a16 := i121; unfold In at a16)))); have a17 := t_sub e98 i89 (in_c 1 rfl) rfl; omega) (by (first | have a0 := oa6 i8a h1 i8 j5_3 i24 i122 | ((first | have a0 := in_u i8a | (have a0 := i8a; unfold In at a0)); (first | have a1 := in_u h1 | (have a1 := h1; unfold In at a1)); (first | have a2 := in_u i8 | (have a2 := i8; unfold In at a2)); (first | have a3 := in_u j5_3 | (have a3 := j5_3; unfold In at a3)); (first | have a4 := in_u i24 | (have a4 := i24; unfold In at a4)); (first | have a5 := in_u i122 | (have a5 := i122; unfold In at a5)))); have a6 := t_add e122 i8 (in_c 1 rfl) rfl; (first | have a7 := oa2 ((in_c 1 rfl)) i117 | ((first | have a7 := in_u ((in_c 1 rfl)) | (have a7 := (in_c 1 rfl); unfold In at a7)); (first | have a8 := in_u i117 | (have a8 := i117; unfold In at a8)))); have a9 := t_add e89 j5_3 (in_c (-1) rfl) rfl; (first | have a10 := oa2 ((in_c (-1) rfl)) i111 | ((first | have a10 := in_u ((in_c (-1) rfl)) | (have a10 := (in_c (-1) rfl); unfold In at a10)); (first | have a11 := in_u i111 | (have a11 := i111; unfold In at a11)))); have a12 := t_sub e110 i89 (in_c 1 rfl) rfl; (first | have a13 := in_u i103 | (have a13 := i103; unfold In at a13)); have a14 := t_sub e103 i24 (in_c 1000100 rfl) rfl; (first | have a15 := oa2 ((in_c 1000100 rfl)) i121 | ((first | have a15 := in_u ((in_c 1000100 rfl)) | (have a15 := (in_c 1000100 rfl); unfold In at a15)); (first | have a16 := in_u i121 | (have a16 := i121; unfold In at a16)))); have a17 := t_sub e98 i89 (in_c 1 rfl) rfl; omega) | exact cs_0 rfl h1.1
                exact gg_w (by first | exact Nat.le_add_right _ _ | exact gw2 | exact gw3 | exact gwe rfl | exact gwf rfl | exact gwg rfl | exact gwh rfl | omega) (gg_f (gf_cons rfl (gf_cons rfl (gf_cons rfl (gf_cons rfl (gf_cons rfl gf_nil))))) (ih5 (sL sc5 105 z98.toNatClampNeg (Int64.ofInt 1)) z89 z122 hI121 (fr_sL rfl hFc5) (in_w 0 120 i117 rfl) (in_w 0 120 i122 rfl) n5 n5a (m_up mm5 (t_add e122 i8 (in_c 1 rfl) rfl) (in_w 1 1 (in_c 1 rfl) rfl))))
          · skip
            have i66 := r_eq1 1000226 1000226 c66 i24 (in_c 1000226 rfl) rfl
            have hk3 := hc_2 hk1 c66
            refine g_aload_n 70 (gd rfl) rfl rfl ?_
            refine g_getA (q2 := 105) 73 (gd rfl) rfl rfl rfl rfl ?_
            refine g_iload_n 74 (gd rfl) rfl rfl ?_
            refine g_iconst 1 75 (gd rfl) rfl rfl ?_
            refine g_isub 76 (gd rfl) rfl (fun z75 e75 => ?_)
            have i75 := in_sub (-1) 119 e75 j5_3 (in_c 1 rfl) rfl rfl
            refine g_aload_n 77 (gd rfl) rfl rfl ?_
            refine g_getA (q2 := 105) 80 (gd rfl) rfl rfl rfl rfl ?_
            refine g_iload_n 81 (gd rfl) rfl rfl ?_
            refine g_iconst 1 82 (gd rfl) rfl rfl ?_
            refine g_isub 83 (gd rfl) rfl (fun z82 e82 => ?_)
            have i82 := in_sub (-1) 119 e82 j5_3 (in_c 1 rfl) rfl rfl
            have i83 : In z82 0 119 := by (first | have a0 := oa6 i8a h1 i8 j5_3 i66 i82 | ((first | have a0 := in_u i8a | (have a0 := i8a; unfold In at a0)); (first | have a1 := in_u h1 | (have a1 := h1; unfold In at a1)); (first | have a2 := in_u i8 | (have a2 := i8; unfold In at a2)); (first | have a3 := in_u j5_3 | (have a3 := j5_3; unfold In at a3)); (first | have a4 := in_u i66 | (have a4 := i66; unfold In at a4)); (first | have a5 := in_u i82 | (have a5 := i82; unfold In at a5)))); have a6 := t_sub e82 j5_3 (in_c 1 rfl) rfl; (first | have a7 := oa2 ((in_c 1 rfl)) i75 | ((first | have a7 := in_u ((in_c 1 rfl)) | (have a7 := (in_c 1 rfl); unfold In at a7)); (first | have a8 := in_u i75 | (have a8 := i75; unfold In at a8)))); have a9 := t_sub e75 j5_3 (in_c 1 rfl) rfl; exact ⟨by omega, by omega⟩
            refine g_laload 84 (gd rfl) rfl (n := 120) rfl (in_ix i83 rfl) (fun z83 e83 => ?_)
            refine g_lneg 85 (gd rfl) rfl (fun z84 e84 => ?_)
            have i85 : In z75 0 119 := by (first | have a0 := oa6 i8a h1 i8 j5_3 i66 i83 | ((first | have a0 := in_u i8a | (have a0 := i8a; unfold In at a0)); (first | have a1 := in_u h1 | (have a1 := h1; unfold In at a1)); (first | have a2 := in_u i8 | (have a2 := i8; unfold In at a2)); (first | have a3 := in_u j5_3 | (have a3 := j5_3; unfold In at a3)); (first | have a4 := in_u i66 | (have a4 := i66; unfold In at a4)); (first | have a5 := in_u i83 | (have a5 := i83; unfold In at a5)))); have a6 := t_sub e82 j5_3 (in_c 1 rfl) rfl; (first | have a7 := oa2 ((in_c 1 rfl)) i75 | ((first | have a7 := in_u ((in_c 1 rfl)) | (have a7 := (in_c 1 rfl); unfold In at a7)); (first | have a8 := in_u i75 | (have a8 := i75; unfold In at a8)))); have a9 := t_sub e75 j5_3 (in_c 1 rfl) rfl; exact ⟨by omega, by omega⟩
            refine g_lastore 86 (gd rfl) rfl (n := 120) rfl (in_ix i85 rfl) ?_
            have hI85 := inv_sL (q := 105) (j := z75.toNatClampNeg) (x := z84) hIc5 rfl (l_rng z84)
            refine g_goto 122 (gd rfl) rfl ?_
            refine g_iinc 125 (gd rfl) rfl rfl (Nat.le_of_ble_eq_true rfl) (fun z122 e122 => ?_)
            have i122 := in_add 1 120 e122 i8 (in_c 1 rfl) rfl rfl
            refine g_goto 5 (gd rfl) rfl ?_
            have n5 : (y5_3).toInt ≤ (z122).toInt := by (first | have a0 := oa6 i8a h1 i8 j5_3 i66 i122 | ((first | have a0 := in_u i8a | (have a0 := i8a; unfold In at a0)); (first | have a1 := in_u h1 | (have a1 := h1; unfold In at a1)); (first | have a2 := in_u i8 | (have a2 := i8; unfold In at a2)); (first | have a3 := in_u j5_3 | (have a3 := j5_3; unfold In at a3)); (first | have a4 := in_u i66 | (have a4 := i66; unfold In at a4)); (first | have a5 := in_u i122 | (have a5 := i122; unfold In at a5)))); have a6 := t_add e122 i8 (in_c 1 rfl) rfl; (first | have a7 := oa2 ((in_c 1 rfl)) i83 | ((first | have a7 := in_u ((in_c 1 rfl)) | (have a7 := (in_c 1 rfl); unfold In at a7)); (first | have a8 := in_u i83 | (have a8 := i83; unfold In at a8)))); have a9 := t_sub e82 j5_3 (in_c 1 rfl) rfl; (first | have a10 := in_u i85 | (have a10 := i85; unfold In at a10)); have a11 := t_sub e75 j5_3 (in_c 1 rfl) rfl; omega
            have n5a : CS (sL sc5 105 z75.toNatClampNeg z84) x1 z122 y5_3 := by first | exact hk2 _ _ (by (first | have a0 := oa6 i8a h1 i8 j5_3 i66 i122 | ((first | have a0 := in_u i8a | (have a0 := i8a; unfold In at a0)); (first | have a1 := in_u h1 | (have a1 := h1; unfold In at a1)); (first | have a2 := in_u i8 | (have a2 := i8; unfold In at a2)); (first | have a3 := in_u j5_3 | (have a3 := j5_3; unfold In at a3)); (first | have a4 := in_u i66 | (have a4 := i66; unfold In at a4)); (first | have a5 := in_u i122 | (have a5 := i122; unfold In at a5)))); have a6 := t_add e122 i8 (in_c 1 rfl) rfl; (first | have a7 := oa2 ((in_c 1 rfl)) i83 | ((first | have a7 := in_u ((in_c 1 rfl)) | (have a7 := (in_c 1 rfl); unfold In at a7)); (first | have a8 := in_u i83 | (have a8 := i83; unfold In at a8)))); have a9 := t_sub e82 j5_3 (in_c 1 rfl) rfl; (first | have a10 := in_u i85 | (have a10 := i85; unfold In at a10)); have a11 := t_sub e75 j5_3 (in_c 1 rfl) rfl; omega) (by (first | have a0 := oa6 i8a h1 i8 j5_3 i66 i122 | ((first | have a0 := in_u i8a | (have a0 := i8a; unfold In at a0)); (first | have a1 := in_u h1 | (have a1 := h1; unfold In at a1)); (first | have a2 := in_u i8 | (have a2 := i8; unfold In at a2)); (first | have a3 := in_u j5_3 | (have a3 := j5_3; unfold In at a3)); (first | have a4 := in_u i66 | (have a4 := i66; unfold In at a4)); (first | have a5 := in_u i122 | (have a5 := i122; unfold In at a5)))); have a6 := t_add e122 i8 (in_c 1 rfl) rfl; (first | have a7 := oa2 ((in_c 1 rfl)) i83 | ((first | have a7 := in_u ((in_c 1 rfl)) | (have a7 := (in_c 1 rfl); unfold In at a7)); (first | have a8 := in_u i83 | (have a8 := i83; unfold In at a8)))); have a9 := t_sub e82 j5_3 (in_c 1 rfl) rfl; (first | have a10 := in_u i85 | (have a10 := i85; unfold In at a10)); have a11 := t_sub e75 j5_3 (in_c 1 rfl) rfl; omega) | exact cs_0 rfl h1.1
            exact gg_w (by first | exact Nat.le_add_right _ _ | exact gw2 | exact gw3 | exact gwe rfl | exact gwf rfl | exact gwg rfl | exact gwh rfl | omega) (gg_f (gf_cons rfl (gf_cons rfl (gf_cons rfl (gf_cons rfl (gf_cons rfl gf_nil))))) (ih5 (sL sc5 105 z75.toNatClampNeg z84) y5_3 z122 hI85 (fr_sL rfl hFc5) (in_w 0 120 j5_3 rfl) (in_w 0 120 i122 rfl) n5 n5a (m_up mm5 (t_add e122 i8 (in_c 1 rfl) rfl) (in_w 1 1 (in_c 1 rfl) rfl))))
        · skip
          have i24 := r_lt1 (-2147483648) 1000099 c24 (i_rng z17) (in_c 1000100 rfl) rfl
          have hk3 := hc_0 hk1 c24
          refine g_aload_n 28 (gd rfl) rfl rfl ?_
          refine g_getA (q2 := 105) 31 (gd rfl) rfl rfl rfl rfl ?_
          refine g_iload_n 32 (gd rfl) rfl rfl ?_
          refine g_iload 34 (gd rfl) rfl rfl ?_
          refine g_ldc 1000000 36 (gd rfl) rfl rfl ?_
          refine g_cmp_ge 39 45 (gd rfl) rfl rfl (fun c36 => ?_) (fun c36 => ?_)
          · skip
            have i36 := r_le2 1000000 1000099 c36 (in_c 1000000 rfl) i24 rfl
            refine g_aload_n 46 (gd rfl) rfl rfl ?_
            refine g_getA (q2 := 106) 49 (gd rfl) rfl rfl rfl rfl ?_
            refine g_iload 51 (gd rfl) rfl rfl ?_
            refine g_ldc 1000000 53 (gd rfl) rfl rfl ?_
            refine g_isub 54 (gd rfl) rfl (fun z53 e53 => ?_)
            have i53 := in_sub 0 99 e53 i36 (in_c 1000000 rfl) rfl rfl
            have i54 : In z53 0 8 := by have h3 := hk3.2 (by (first | have a0 := oa6 i8a h1 i8 j5_3 i36 i53 | ((first | have a0 := in_u i8a | (have a0 := i8a; unfold In at a0)); (first | have a1 := in_u h1 | (have a1 := h1; unfold In at a1)); (first | have a2 := in_u i8 | (have a2 := i8; unfold In at a2)); (first | have a3 := in_u j5_3 | (have a3 := j5_3; unfold In at a3)); (first | have a4 := in_u i36 | (have a4 := i36; unfold In at a4)); (first | have a5 := in_u i53 | (have a5 := i53; unfold In at a5)))); have a6 := t_sub e53 i36 (in_c 1000000 rfl) rfl; (first | have a7 := in_u ((in_c 1000000 rfl)) | (have a7 := (in_c 1000000 rfl); unfold In at a7)); omega); exact ⟨by (first | have a0 := oa6 i8a h1 i8 j5_3 i36 i53 | ((first | have a0 := in_u i8a | (have a0 := i8a; unfold In at a0)); (first | have a1 := in_u h1 | (have a1 := h1; unfold In at a1)); (first | have a2 := in_u i8 | (have a2 := i8; unfold In at a2)); (first | have a3 := in_u j5_3 | (have a3 := j5_3; unfold In at a3)); (first | have a4 := in_u i36 | (have a4 := i36; unfold In at a4)); (first | have a5 := in_u i53 | (have a5 := i53; unfold In at a5)))); have a6 := t_sub e53 i36 (in_c 1000000 rfl) rfl; (first | have a7 := in_u ((in_c 1000000 rfl)) | (have a7 := (in_c 1000000 rfl); unfold In at a7)); omega, by (first | have a0 := oa6 i8a h1 i8 j5_3 i36 i53 | ((first | have a0 := in_u i8a | (have a0 := i8a; unfold In at a0)); (first | have a1 := in_u h1 | (have a1 := h1; unfold In at a1)); (first | have a2 := in_u i8 | (have a2 := i8; unfold In at a2)); (first | have a3 := in_u j5_3 | (have a3 := j5_3; unfold In at a3)); (first | have a4 := in_u i36 | (have a4 := i36; unfold In at a4)); (first | have a5 := in_u i53 | (have a5 := i53; unfold In at a5)))); have a6 := t_sub e53 i36 (in_c 1000000 rfl) rfl; (first | have a7 := in_u ((in_c 1000000 rfl)) | (have a7 := (in_c 1000000 rfl); unfold In at a7)); omega⟩
            refine g_laload 55 (gd rfl) rfl (n := 9) rfl (in_ix i54 rfl) (fun z54 e54 => ?_)
            have i55 : In y5_3 0 119 := by (first | have a0 := oa6 i8a h1 i8 j5_3 i36 i54 | ((first | have a0 := in_u i8a | (have a0 := i8a; unfold In at a0)); (first | have a1 := in_u h1 | (have a1 := h1; unfold In at a1)); (first | have a2 := in_u i8 | (have a2 := i8; unfold In at a2)); (first | have a3 := in_u j5_3 | (have a3 := j5_3; unfold In at a3)); (first | have a4 := in_u i36 | (have a4 := i36; unfold In at a4)); (first | have a5 := in_u i54 | (have a5 := i54; unfold In at a5)))); have a6 := t_sub e53 i36 (in_c 1000000 rfl) rfl; (first | have a7 := in_u ((in_c 1000000 rfl)) | (have a7 := (in_c 1000000 rfl); unfold In at a7)); exact ⟨by omega, by omega⟩
            refine g_lastore 56 (gd rfl) rfl (n := 120) rfl (in_ix i55 rfl) ?_
            have hI55 := inv_sL (q := 105) (j := y5_3.toNatClampNeg) (x := z54) hIc5 rfl (l_rng z54)
            refine g_iinc 59 (gd rfl) rfl rfl (Nat.le_of_ble_eq_true rfl) (fun z56 e56 => ?_)
            have i56 := in_add 1 120 e56 i55 (in_c 1 rfl) rfl rfl
            refine g_goto 122 (gd rfl) rfl ?_
            refine g_iinc 125 (gd rfl) rfl rfl (Nat.le_of_ble_eq_true rfl) (fun z122 e122 => ?_)
            have i122 := in_add 1 120 e122 i8 (in_c 1 rfl) rfl rfl
            refine g_goto 5 (gd rfl) rfl ?_
            have n5 : (z56).toInt ≤ (z122).toInt := by (first | have a0 := oa6 i8a h1 i8 i55 i36 i122 | ((first | have a0 := in_u i8a | (have a0 := i8a; unfold In at a0)); (first | have a1 := in_u h1 | (have a1 := h1; unfold In at a1)); (first | have a2 := in_u i8 | (have a2 := i8; unfold In at a2)); (first | have a3 := in_u i55 | (have a3 := i55; unfold In at a3)); (first | have a4 := in_u i36 | (have a4 := i36; unfold In at a4)); (first | have a5 := in_u i122 | (have a5 := i122; unfold In at a5)))); have a6 := t_add e122 i8 (in_c 1 rfl) rfl; (first | have a7 := oa2 ((in_c 1 rfl)) i56 | ((first | have a7 := in_u ((in_c 1 rfl)) | (have a7 := (in_c 1 rfl); unfold In at a7)); (first | have a8 := in_u i56 | (have a8 := i56; unfold In at a8)))); have a9 := t_add e56 i55 (in_c 1 rfl) rfl; (first | have a10 := in_u i54 | (have a10 := i54; unfold In at a10)); have a11 := t_sub e53 i36 (in_c 1000000 rfl) rfl; (first | have a12 := in_u ((in_c 1000000 rfl)) | (have a12 := (in_c 1000000 rfl); unfold In at a12)); omega
            have n5a : CS (sL sc5 105 y5_3.toNatClampNeg z54) x1 z122 z56 := by first | exact hk2 _ _ (by (first | have a0 := oa6 i8a h1 i8 i55 i36 i122 | ((first | have a0 := in_u i8a | (have a0 := i8a; unfold In at a0)); (first | have a1 := in_u h1 | (have a1 := h1; unfold In at a1)); (first | have a2 := in_u i8 | (have a2 := i8; unfold In at a2)); (first | have a3 := in_u i55 | (have a3 := i55; unfold In at a3)); (first | have a4 := in_u i36 | (have a4 := i36; unfold In at a4)); (first | have a5 := in_u i122 | (have a5 := i122; unfold In at a5)))); have a6 := t_add e122 i8 (in_c 1 rfl) rfl; (first | have a7 := oa2 ((in_c 1 rfl)) i56 | ((first | have a7 := in_u ((in_c 1 rfl)) | (have a7 := (in_c 1 rfl); unfold In at a7)); (first | have a8 := in_u i56 | (have a8 := i56; unfold In at a8)))); have a9 := t_add e56 i55 (in_c 1 rfl) rfl; (first | have a10 := in_u i54 | (have a10 := i54; unfold In at a10)); have a11 := t_sub e53 i36 (in_c 1000000 rfl) rfl; (first | have a12 := in_u ((in_c 1000000 rfl)) | (have a12 := (in_c 1000000 rfl); unfold In at a12)); omega) (by (first | have a0 := oa6 i8a h1 i8 i55 i36 i122 | ((first | have a0 := in_u i8a | (have a0 := i8a; unfold In at a0)); (first | have a1 := in_u h1 | (have a1 := h1; unfold In at a1)); (first | have a2 := in_u i8 | (have a2 := i8; unfold In at a2)); (first | have a3 := in_u i55 | (have a3 := i55; unfold In at a3)); (first | have a4 := in_u i36 | (have a4 := i36; unfold In at a4)); (first | have a5 := in_u i122 | (have a5 := i122; unfold In at a5)))); have a6 := t_add e122 i8 (in_c 1 rfl) rfl; (first | have a7 := oa2 ((in_c 1 rfl)) i56 | ((first | have a7 := in_u ((in_c 1 rfl)) | (have a7 := (in_c 1 rfl); unfold In at a7)); (first | have a8 := in_u i56 | (have a8 := i56; unfold In at a8)))); have a9 := t_add e56 i55 (in_c 1 rfl) rfl; (first | have a10 := in_u i54 | (have a10 := i54; unfold In at a10)); have a11 := t_sub e53 i36 (in_c 1000000 rfl) rfl; (first | have a12 := in_u ((in_c 1000000 rfl)) | (have a12 := (in_c 1000000 rfl); unfold In at a12)); omega) | exact cs_0 rfl h1.1
            exact gg_w (by first | exact Nat.le_add_right _ _ | exact gw2 | exact gw3 | exact gwe rfl | exact gwf rfl | exact gwg rfl | exact gwh rfl | omega) (gg_f (gf_cons rfl (gf_cons rfl (gf_cons rfl (gf_cons rfl (gf_cons rfl gf_nil))))) (ih5 (sL sc5 105 y5_3.toNatClampNeg z54) z56 z122 hI55 (fr_sL rfl hFc5) (in_w 0 120 i56 rfl) (in_w 0 120 i122 rfl) n5 n5a (m_up mm5 (t_add e122 i8 (in_c 1 rfl) rfl) (in_w 1 1 (in_c 1 rfl) rfl))))
          · skip
            have i36 := r_lt1 (-2147483648) 999999 c36 i24 (in_c 1000000 rfl) rfl
            refine g_iload 41 (gd rfl) rfl rfl ?_
            refine g_i2l 42 (gd rfl) rfl (fun z41 e41 => ?_)
            have i41 := l_i e41 i36
            refine g_goto 55 (gd rfl) rfl ?_
            have i55 : In y5_3 0 119 := by (first | have a0 := oa5 i8a h1 i8 j5_3 i36 | ((first | have a0 := in_u i8a | (have a0 := i8a; unfold In at a0)); (first | have a1 := in_u h1 | (have a1 := h1; unfold In at a1)); (first | have a2 := in_u i8 | (have a2 := i8; unfold In at a2)); (first | have a3 := in_u j5_3 | (have a3 := j5_3; unfold In at a3)); (first | have a4 := in_u i36 | (have a4 := i36; unfold In at a4)))); have a5 := tx_i2l e41; exact ⟨by omega, by omega⟩
            refine g_lastore 56 (gd rfl) rfl (n := 120) rfl (in_ix i55 rfl) ?_
            have hI55 := inv_sL (q := 105) (j := y5_3.toNatClampNeg) (x := z41) hIc5 rfl (l_rng z41)
            refine g_iinc 59 (gd rfl) rfl rfl (Nat.le_of_ble_eq_true rfl) (fun z56 e56 => ?_)
            have i56 := in_add 1 120 e56 i55 (in_c 1 rfl) rfl rfl
            refine g_goto 122 (gd rfl) rfl ?_
            refine g_iinc 125 (gd rfl) rfl rfl (Nat.le_of_ble_eq_true rfl) (fun z122 e122 => ?_)
            have i122 := in_add 1 120 e122 i8 (in_c 1 rfl) rfl rfl
            refine g_goto 5 (gd rfl) rfl ?_
            have n5 : (z56).toInt ≤ (z122).toInt := by (first | have a0 := oa6 i8a h1 i8 i55 i36 i122 | ((first | have a0 := in_u i8a | (have a0 := i8a; unfold In at a0)); (first | have a1 := in_u h1 | (have a1 := h1; unfold In at a1)); (first | have a2 := in_u i8 | (have a2 := i8; unfold In at a2)); (first | have a3 := in_u i55 | (have a3 := i55; unfold In at a3)); (first | have a4 := in_u i36 | (have a4 := i36; unfold In at a4)); (first | have a5 := in_u i122 | (have a5 := i122; unfold In at a5)))); have a6 := t_add e122 i8 (in_c 1 rfl) rfl; (first | have a7 := oa2 ((in_c 1 rfl)) i56 | ((first | have a7 := in_u ((in_c 1 rfl)) | (have a7 := (in_c 1 rfl); unfold In at a7)); (first | have a8 := in_u i56 | (have a8 := i56; unfold In at a8)))); have a9 := t_add e56 i55 (in_c 1 rfl) rfl; have a10 := tx_i2l e41; omega
            have n5a : CS (sL sc5 105 y5_3.toNatClampNeg z41) x1 z122 z56 := by first | exact hk2 _ _ (by (first | have a0 := oa6 i8a h1 i8 i55 i36 i122 | ((first | have a0 := in_u i8a | (have a0 := i8a; unfold In at a0)); (first | have a1 := in_u h1 | (have a1 := h1; unfold In at a1)); (first | have a2 := in_u i8 | (have a2 := i8; unfold In at a2)); (first | have a3 := in_u i55 | (have a3 := i55; unfold In at a3)); (first | have a4 := in_u i36 | (have a4 := i36; unfold In at a4)); (first | have a5 := in_u i122 | (have a5 := i122; unfold In at a5)))); have a6 := t_add e122 i8 (in_c 1 rfl) rfl; (first | have a7 := oa2 ((in_c 1 rfl)) i56 | ((first | have a7 := in_u ((in_c 1 rfl)) | (have a7 := (in_c 1 rfl); unfold In at a7)); (first | have a8 := in_u i56 | (have a8 := i56; unfold In at a8)))); have a9 := t_add e56 i55 (in_c 1 rfl) rfl; have a10 := tx_i2l e41; omega) (by (first | have a0 := oa6 i8a h1 i8 i55 i36 i122 | ((first | have a0 := in_u i8a | (have a0 := i8a; unfold In at a0)); (first | have a1 := in_u h1 | (have a1 := h1; unfold In at a1)); (first | have a2 := in_u i8 | (have a2 := i8; unfold In at a2)); (first | have a3 := in_u i55 | (have a3 := i55; unfold In at a3)); (first | have a4 := in_u i36 | (have a4 := i36; unfold In at a4)); (first | have a5 := in_u i122 | (have a5 := i122; unfold In at a5)))); have a6 := t_add e122 i8 (in_c 1 rfl) rfl; (first | have a7 := oa2 ((in_c 1 rfl)) i56 | ((first | have a7 := in_u ((in_c 1 rfl)) | (have a7 := (in_c 1 rfl); unfold In at a7)); (first | have a8 := in_u i56 | (have a8 := i56; unfold In at a8)))); have a9 := t_add e56 i55 (in_c 1 rfl) rfl; have a10 := tx_i2l e41; omega) | exact cs_0 rfl h1.1
            exact gg_w (by first | exact Nat.le_add_right _ _ | exact gw2 | exact gw3 | exact gwe rfl | exact gwf rfl | exact gwg rfl | exact gwh rfl | omega) (gg_f (gf_cons rfl (gf_cons rfl (gf_cons rfl (gf_cons rfl (gf_cons rfl gf_nil))))) (ih5 (sL sc5 105 y5_3.toNatClampNeg z41) z56 z122 hI55 (fr_sL rfl hFc5) (in_w 0 120 i56 rfl) (in_w 0 120 i122 rfl) n5 n5a (m_up mm5 (t_add e122 i8 (in_c 1 rfl) rfl) (in_w 1 1 (in_c 1 rfl) rfl))))
  refine g_enter2 (k := 66) (N := 109801) (by first | exact dq1 hd rfl | exact dq0 hd rfl | exact dq2 hd rfl | exact dq3 hd rfl | omega) rfl (Nat.le_of_ble_eq_true rfl) ?_
  refine g_iconst 0 1 (gd rfl) rfl rfl ?_
  refine g_istore_n 2 (gd rfl) rfl (Nat.le_of_ble_eq_true rfl) ?_
  refine g_iload_n 3 (gd rfl) rfl rfl ?_
  refine g_istore 5 (gd rfl) rfl (Nat.le_of_ble_eq_true rfl) ?_
  have n5 : ((Int32.ofInt 0)).toInt ≤ (x1).toInt := by (first | have a0 := oa3 h2 h1 ((in_c 0 rfl)) | ((first | have a0 := in_u h2 | (have a0 := h2; unfold In at a0)); (first | have a1 := in_u h1 | (have a1 := h1; unfold In at a1)); (first | have a2 := in_u ((in_c 0 rfl)) | (have a2 := (in_c 0 rfl); unfold In at a2)))); omega
  have n5a : CS s x1 x1 (Int32.ofInt 0) := by first | exact hk2 _ _ (by (first | have a0 := oa3 h2 h1 ((in_c 0 rfl)) | ((first | have a0 := in_u h2 | (have a0 := h2; unfold In at a0)); (first | have a1 := in_u h1 | (have a1 := h1; unfold In at a1)); (first | have a2 := in_u ((in_c 0 rfl)) | (have a2 := (in_c 0 rfl); unfold In at a2)))); omega) (by (first | have a0 := oa3 h2 h1 ((in_c 0 rfl)) | ((first | have a0 := in_u h2 | (have a0 := h2; unfold In at a0)); (first | have a1 := in_u h1 | (have a1 := h1; unfold In at a1)); (first | have a2 := in_u ((in_c 0 rfl)) | (have a2 := (in_c 0 rfl); unfold In at a2)))); omega) | exact cs_0 rfl h1.1
  exact gg_w (by first | exact Nat.le_of_ble_eq_true rfl | omega) (gg_f (gf_cons rfl (gf_cons rfl (gf_cons rfl (gf_cons rfl (gf_cons rfl gf_nil))))) (ct5 121 s (Int32.ofInt 0) x1 hI fr_rf (in_w 0 120 (in_c 0 rfl) rfl) (in_w 0 120 h1 rfl) n5 n5a (m_in 121 (in_w 0 120 h1 rfl) rfl)))

/-- GraphHouse$Engine.lettersOf -/
theorem k_71_2 {Z : AmZ} {A : Nat → Nat} {s : GS} {ex : va_W} {d : Nat} {X : AmX} {x1 : Int32} (hd : 4 ≤ d) (hI : Inv s) (h1 : In x1 1 4) : GC Z d 71 [.ref (A 2), .int x1] (WW Z A s ++ ex) 0 0 (fun v u => ∃ z : Int32, v = some (.int z) ∧ u = WW Z A s ++ ex ∧ In z 0 2016) X := by
  intro post xp hP hX
  obtain ⟨u_2_1, e_2_1⟩ : ∃ w, w = s.2.2.1 2 1 := ⟨_, rfl⟩
  have ro_2_1 := inv_F hI 0 32 rfl e_2_1
  have ct11 : ∀ (k11 : Nat) (y11_2 : Int32) (y11_3 : Int32), (In y11_2 0 2016) → (In y11_3 0 32) → (0 ≤ (y11_2).toInt) → ((y11_2).toInt ≤ 63 * (y11_3).toInt) → 32 - (y11_3).toInt < (k11 : Int) → GG Z (d - 1) 71 post (gx xp) (1 + k11 * 3865470569101) 11 (fun j => xlook j [(0, .ref (A 2)), (1, .int x1), (2, .int y11_2), (3, .int y11_3)]) [] (WW Z A s ++ ex) 0 0 := by
    intro k11
    induction k11 with
    | zero => intro y11_2 y11_3 j11_2 j11_3 n11_0 n11_1 mm11; exact m_no mm11 j11_3 rfl
    | succ k11 ih11 =>
      intro y11_2 y11_3 j11_2 j11_3 n11_0 n11_1 mm11
      refine gg_w (M := 1 + k11 * 3865470569101 + 3865470569101) gws ?_
      have ct30 : ∀ (k30 : Nat) (y30_4 : Int32) (y30_5 : Int32), (In y11_3 0 31) → ((y30_5.toBitVec.toNat : Nat) : Int) < (k30 : Int) → GG Z (d - 1) 71 post (gx xp) (1 + k11 * 3865470569101 + 1 + k30 * 900) 30 (fun j => xlook j [(0, .ref (A 2)), (1, .int x1), (2, .int y11_2), (3, .int y11_3), (4, .int y30_4), (5, .int y30_5)]) [] (WW Z A s ++ ex) 0 0 := by
        intro k30
        induction k30 with
        | zero => intro y30_4 y30_5 j30_3 mm30; exact absurd mm30 (Int.not_lt.mpr (Int.natCast_nonneg _))
        | succ k30 ih30 =>
          intro y30_4 y30_5 j30_3 mm30
          refine gg_w (M := 1 + k11 * 3865470569101 + 1 + k30 * 900 + 900) gws ?_
          refine g_iload 32 (gd rfl) rfl rfl ?_
          refine g_if_eq 35 61 (gd rfl) rfl rfl (fun c32 => ?_) (fun c32 => ?_)
          · skip
            have i32 := z_eq 0 0 c32 (i_rng y30_5) rfl
            refine g_iload_n 62 (gd rfl) rfl rfl ?_
            refine g_iload 64 (gd rfl) rfl rfl ?_
            refine g_iconst 1 65 (gd rfl) rfl rfl ?_
            refine g_iload_n 66 (gd rfl) rfl rfl ?_
            refine g_iload_n 67 (gd rfl) rfl rfl ?_
            refine g_irem 68 (gd rfl) rfl (dv_nz h1 rfl) (fun z67 e67 => ?_)
            have i67 := in_remv 3 e67 j30_3 h1 rfl
            refine g_ishl 69 (gd rfl) rfl (fun z68 e68 => ?_)
            refine g_iconst (-1) 70 (gd rfl) rfl rfl ?_
            refine g_ixor 71 (gd rfl) rfl (fun z70 e70 => ?_)
            refine g_iand 72 (gd rfl) rfl (fun z71 e71 => ?_)
            refine g_calls (As := [.int z71]) (r := [.int y11_2]) 75 (gd rfl) rfl rfl rfl rfl rfl (Nat.le_of_ble_eq_true rfl) (Nat.zero_le _) (Nat.zero_le _) (k_414b (by first | exact dq1 hd rfl | exact dq0 hd rfl | exact dq2 hd rfl | exact dq3 hd rfl | omega) hI ) (fun v u h => ?_)
            obtain ⟨z72, rfl, rfl, i72⟩ := h
            show GG _ _ _ _ _ _ _ _ [.int z72, .int y11_2] _ _ _
            refine g_iadd 76 (gd rfl) rfl (fun z75 e75 => ?_)
            have i75 := in_add 0 2048 e75 j11_2 i72 rfl rfl
            refine g_istore_n 77 (gd rfl) rfl (Nat.le_of_ble_eq_true rfl) ?_
            refine g_iinc 80 (gd rfl) rfl rfl (Nat.le_of_ble_eq_true rfl) (fun z77 e77 => ?_)
            have i77 := in_add 1 32 e77 j30_3 (in_c 1 rfl) rfl rfl
            refine g_goto 11 (gd rfl) rfl ?_
            have i11 : In z75 0 2016 := by exact ⟨by (first | have a0 := oa6 i32 j30_3 j11_2 h1 ro_2_1 i77 | ((first | have a0 := in_u i32 | (have a0 := i32; unfold In at a0)); (first | have a1 := in_u j30_3 | (have a1 := j30_3; unfold In at a1)); (first | have a2 := in_u j11_2 | (have a2 := j11_2; unfold In at a2)); (first | have a3 := in_u h1 | (have a3 := h1; unfold In at a3)); (first | have a4 := in_u ro_2_1 | (have a4 := ro_2_1; unfold In at a4)); (first | have a5 := in_u i77 | (have a5 := i77; unfold In at a5)))); have a6 := t_add e77 j30_3 (in_c 1 rfl) rfl; (first | have a7 := oa2 ((in_c 1 rfl)) i75 | ((first | have a7 := in_u ((in_c 1 rfl)) | (have a7 := (in_c 1 rfl); unfold In at a7)); (first | have a8 := in_u i75 | (have a8 := i75; unfold In at a8)))); have a9 := t_add e75 j11_2 i72 rfl; (first | have a10 := in_u i72 | (have a10 := i72; unfold In at a10)); omega, by (first | have a0 := oa6 i32 j30_3 j11_2 h1 ro_2_1 i77 | ((first | have a0 := in_u i32 | (have a0 := i32; unfold In at a0)); (first | have a1 := in_u j30_3 | (have a1 := j30_3; unfold In at a1)); (first | have a2 := in_u j11_2 | (have a2 := j11_2; unfold In at a2)); (first | have a3 := in_u h1 | (have a3 := h1; unfold In at a3)); (first | have a4 := in_u ro_2_1 | (have a4 := ro_2_1; unfold In at a4)); (first | have a5 := in_u i77 | (have a5 := i77; unfold In at a5)))); have a6 := t_add e77 j30_3 (in_c 1 rfl) rfl; (first | have a7 := oa2 ((in_c 1 rfl)) i75 | ((first | have a7 := in_u ((in_c 1 rfl)) | (have a7 := (in_c 1 rfl); unfold In at a7)); (first | have a8 := in_u i75 | (have a8 := i75; unfold In at a8)))); have a9 := t_add e75 j11_2 i72 rfl; (first | have a10 := in_u i72 | (have a10 := i72; unfold In at a10)); omega⟩
            have n11 : 0 ≤ (z75).toInt := by (first | have a0 := oa6 i32 j30_3 j11_2 h1 ro_2_1 i77 | ((first | have a0 := in_u i32 | (have a0 := i32; unfold In at a0)); (first | have a1 := in_u j30_3 | (have a1 := j30_3; unfold In at a1)); (first | have a2 := in_u j11_2 | (have a2 := j11_2; unfold In at a2)); (first | have a3 := in_u h1 | (have a3 := h1; unfold In at a3)); (first | have a4 := in_u ro_2_1 | (have a4 := ro_2_1; unfold In at a4)); (first | have a5 := in_u i77 | (have a5 := i77; unfold In at a5)))); have a6 := t_add e77 j30_3 (in_c 1 rfl) rfl; (first | have a7 := oa2 ((in_c 1 rfl)) i11 | ((first | have a7 := in_u ((in_c 1 rfl)) | (have a7 := (in_c 1 rfl); unfold In at a7)); (first | have a8 := in_u i11 | (have a8 := i11; unfold In at a8)))); have a9 := t_add e75 j11_2 i72 rfl; (first | have a10 := in_u i72 | (have a10 := i72; unfold In at a10)); omega
            have n11a : (z75).toInt ≤ 63 * (z77).toInt := by (first | have a0 := oa6 i32 j30_3 j11_2 h1 ro_2_1 i77 | ((first | have a0 := in_u i32 | (have a0 := i32; unfold In at a0)); (first | have a1 := in_u j30_3 | (have a1 := j30_3; unfold In at a1)); (first | have a2 := in_u j11_2 | (have a2 := j11_2; unfold In at a2)); (first | have a3 := in_u h1 | (have a3 := h1; unfold In at a3)); (first | have a4 := in_u ro_2_1 | (have a4 := ro_2_1; unfold In at a4)); (first | have a5 := in_u i77 | (have a5 := i77; unfold In at a5)))); have a6 := t_add e77 j30_3 (in_c 1 rfl) rfl; (first | have a7 := oa2 ((in_c 1 rfl)) i11 | ((first | have a7 := in_u ((in_c 1 rfl)) | (have a7 := (in_c 1 rfl); unfold In at a7)); (first | have a8 := in_u i11 | (have a8 := i11; unfold In at a8)))); have a9 := t_add e75 j11_2 i72 rfl; (first | have a10 := in_u i72 | (have a10 := i72; unfold In at a10)); omega
            exact gg_w (by first | exact Nat.le_add_right _ _ | exact gw2 | exact gw3 | exact gwe rfl | exact gwf rfl | exact gwg rfl | exact gwh rfl | omega) (gg_f (gf_cons rfl (gf_cons rfl (gf_cons rfl (gf_cons rfl gf_nil)))) (ih11  z75 z77  i11 (in_w 0 32 i77 rfl) n11 n11a (m_up mm11 (t_add e77 j30_3 (in_c 1 rfl) rfl) (in_w 1 1 (in_c 1 rfl) rfl))))
          · skip
            refine g_iload 37 (gd rfl) rfl rfl ?_
            refine g_iconst 1 38 (gd rfl) rfl rfl ?_
            refine g_iload 40 (gd rfl) rfl rfl ?_
            refine g_calls (As := [.int y30_5]) (r := [.int (Int32.ofInt 1), .int y30_4]) 43 (gd rfl) rfl rfl rfl rfl rfl (Nat.le_of_ble_eq_true rfl) (Nat.zero_le _) (Nat.zero_le _) (k_264n (by first | exact dq1 hd rfl | exact dq0 hd rfl | exact dq2 hd rfl | exact dq3 hd rfl | omega) c32) (fun v u h => ?_)
            obtain ⟨z40, rfl, rfl, i40, hb40, hl40⟩ := h
            show GG _ _ _ _ _ _ _ _ [.int z40, .int (Int32.ofInt 1), .int y30_4] _ _ _
            refine g_iload_n 44 (gd rfl) rfl rfl ?_
            refine g_irem 45 (gd rfl) rfl (dv_nz h1 rfl) (fun z44 e44 => ?_)
            have i44 := in_remv 3 e44 i40 h1 rfl
            refine g_ishl 46 (gd rfl) rfl (fun z45 e45 => ?_)
            refine g_ior 47 (gd rfl) rfl (fun z46 e46 => ?_)
            refine g_istore 49 (gd rfl) rfl (Nat.le_of_ble_eq_true rfl) ?_
            refine g_iload 51 (gd rfl) rfl rfl ?_
            refine g_iload 53 (gd rfl) rfl rfl ?_
            refine g_iconst 1 54 (gd rfl) rfl rfl ?_
            refine g_isub 55 (gd rfl) rfl (fun z54 e54 => ?_)
            refine g_iand 56 (gd rfl) rfl (fun z55 e55 => ?_)
            refine g_istore 58 (gd rfl) rfl (Nat.le_of_ble_eq_true rfl) ?_
            refine g_goto 30 (gd rfl) rfl ?_
            exact gg_w (by first | exact Nat.le_add_right _ _ | exact gw2 | exact gw3 | exact gwe rfl | exact gwf rfl | exact gwg rfl | exact gwh rfl | omega) (gg_f (gf_cons rfl (gf_cons rfl (gf_cons rfl (gf_cons rfl (gf_cons rfl (gf_cons rfl gf_nil)))))) (ih30  z46 z55  (in_w 0 31 j30_3 rfl) (mb e55 e54 c32 mm30)))
      refine g_iload_n 12 (gd rfl) rfl rfl ?_
      refine g_aload_n 13 (gd rfl) rfl rfl ?_
      refine g_getI 16 (gd rfl) rfl rfl rfl (fun z13 e13 => ?_)
      have q13 : u_2_1 = z13 := (e_2_1).trans e13.symm
      subst q13
      refine g_cmp_ge 19 83 (gd rfl) rfl rfl (fun c16 => ?_) (fun c16 => ?_)
      · skip
        refine g_iload_n 84 (gd rfl) rfl rfl ?_
        exact g_ireturn (gd rfl) rfl rfl (hP _ _ ⟨y11_2, rfl, rfl, in_w 0 2016 j11_2 rfl⟩)
      · skip
        have i16 := r_lt1 0 31 c16 j11_3 ro_2_1 rfl
        have i16a := r_lt2 1 32 c16 j11_3 ro_2_1 rfl
        refine g_iconst 0 20 (gd rfl) rfl rfl ?_
        refine g_istore 22 (gd rfl) rfl (Nat.le_of_ble_eq_true rfl) ?_
        refine g_aload_n 23 (gd rfl) rfl rfl ?_
        refine g_getA (q2 := 10) 26 (gd rfl) rfl rfl rfl rfl ?_
        refine g_iload_n 27 (gd rfl) rfl rfl ?_
        refine g_iaload 28 (gd rfl) rfl (n := 32) rfl (in_ix i16 rfl) (fun z27 e27 => ?_)
        refine g_istore 30 (gd rfl) rfl (Nat.le_of_ble_eq_true rfl) ?_
        exact gg_w (by first | exact Nat.le_add_right _ _ | exact gw2 | exact gw3 | exact gwe rfl | exact gwf rfl | exact gwg rfl | exact gwh rfl | omega) (gg_f (gf_cons rfl (gf_cons rfl (gf_cons rfl (gf_cons rfl (gf_cons rfl (gf_cons rfl gf_nil)))))) (ct30 4294967296  (Int32.ofInt 0) z27  (in_w 0 31 i16 rfl) (mb_in _)))
  refine g_enter2 (k := 71) (N := 127560528781234) (by first | exact dq1 hd rfl | exact dq0 hd rfl | exact dq2 hd rfl | exact dq3 hd rfl | omega) rfl (Nat.le_of_ble_eq_true rfl) ?_
  refine g_iload_n 1 (gd rfl) rfl rfl ?_
  refine g_iconst 1 2 (gd rfl) rfl rfl ?_
  refine g_cmp_ge 5 7 (gd rfl) rfl rfl (fun c2 => ?_) (fun c2 => ?_)
  · skip
    refine g_iconst 0 8 (gd rfl) rfl rfl ?_
    refine g_istore_n 9 (gd rfl) rfl (Nat.le_of_ble_eq_true rfl) ?_
    refine g_iconst 0 10 (gd rfl) rfl rfl ?_
    refine g_istore_n 11 (gd rfl) rfl (Nat.le_of_ble_eq_true rfl) ?_
    have n11 : 0 ≤ ((Int32.ofInt 0)).toInt := by (first | have a0 := oa3 ro_2_1 h1 ((in_c 0 rfl)) | ((first | have a0 := in_u ro_2_1 | (have a0 := ro_2_1; unfold In at a0)); (first | have a1 := in_u h1 | (have a1 := h1; unfold In at a1)); (first | have a2 := in_u ((in_c 0 rfl)) | (have a2 := (in_c 0 rfl); unfold In at a2)))); omega
    have n11a : ((Int32.ofInt 0)).toInt ≤ 63 * ((Int32.ofInt 0)).toInt := by (first | have a0 := oa3 ro_2_1 h1 ((in_c 0 rfl)) | ((first | have a0 := in_u ro_2_1 | (have a0 := ro_2_1; unfold In at a0)); (first | have a1 := in_u h1 | (have a1 := h1; unfold In at a1)); (first | have a2 := in_u ((in_c 0 rfl)) | (have a2 := (in_c 0 rfl); unfold In at a2)))); omega
    exact gg_w (by first | exact Nat.le_of_ble_eq_true rfl | omega) (gg_f (gf_cons rfl (gf_cons rfl (gf_cons rfl (gf_cons rfl gf_nil)))) (ct11 33  (Int32.ofInt 0) (Int32.ofInt 0)  (in_w 0 2016 (in_c 0 rfl) rfl) (in_w 0 32 (in_c 0 rfl) rfl) n11 n11a (m_in 33 (in_w 0 32 (in_c 0 rfl) rfl) rfl)))
  · skip
    exact n_lt c2 h1 (in_c 1 rfl) rfl

/-- GraphHouse$Engine.lettersOf -/
theorem k_71_32 {Z : AmZ} {A : Nat → Nat} {s : GS} {ex : va_W} {d : Nat} {X : AmX} {x1 : Int32} (hd : 4 ≤ d) (hI : Inv s) (h1 : In x1 1 4) : GC Z d 71 [.ref (A 32), .int x1] (WW Z A s ++ ex) 0 0 (fun v u => ∃ z : Int32, v = some (.int z) ∧ u = WW Z A s ++ ex ∧ In z 0 2016) X := by
  intro post xp hP hX
  obtain ⟨u_32_1, e_32_1⟩ : ∃ w, w = s.2.2.1 32 1 := ⟨_, rfl⟩
  have ro_32_1 := inv_F hI 0 32 rfl e_32_1
  have ct11 : ∀ (k11 : Nat) (y11_2 : Int32) (y11_3 : Int32), (In y11_2 0 2016) → (In y11_3 0 32) → (0 ≤ (y11_2).toInt) → ((y11_2).toInt ≤ 63 * (y11_3).toInt) → 32 - (y11_3).toInt < (k11 : Int) → GG Z (d - 1) 71 post (gx xp) (1 + k11 * 3865470569101) 11 (fun j => xlook j [(0, .ref (A 32)), (1, .int x1), (2, .int y11_2), (3, .int y11_3)]) [] (WW Z A s ++ ex) 0 0 := by
    intro k11
    induction k11 with
    | zero => intro y11_2 y11_3 j11_2 j11_3 n11_0 n11_1 mm11; exact m_no mm11 j11_3 rfl
    | succ k11 ih11 =>
      intro y11_2 y11_3 j11_2 j11_3 n11_0 n11_1 mm11
      refine gg_w (M := 1 + k11 * 3865470569101 + 3865470569101) gws ?_
      have ct30 : ∀ (k30 : Nat) (y30_4 : Int32) (y30_5 : Int32), (In y11_3 0 31) → ((y30_5.toBitVec.toNat : Nat) : Int) < (k30 : Int) → GG Z (d - 1) 71 post (gx xp) (1 + k11 * 3865470569101 + 1 + k30 * 900) 30 (fun j => xlook j [(0, .ref (A 32)), (1, .int x1), (2, .int y11_2), (3, .int y11_3), (4, .int y30_4), (5, .int y30_5)]) [] (WW Z A s ++ ex) 0 0 := by
        intro k30
        induction k30 with
        | zero => intro y30_4 y30_5 j30_3 mm30; exact absurd mm30 (Int.not_lt.mpr (Int.natCast_nonneg _))
        | succ k30 ih30 =>
          intro y30_4 y30_5 j30_3 mm30
          refine gg_w (M := 1 + k11 * 3865470569101 + 1 + k30 * 900 + 900) gws ?_
          refine g_iload 32 (gd rfl) rfl rfl ?_
          refine g_if_eq 35 61 (gd rfl) rfl rfl (fun c32 => ?_) (fun c32 => ?_)
          · skip
            have i32 := z_eq 0 0 c32 (i_rng y30_5) rfl
            refine g_iload_n 62 (gd rfl) rfl rfl ?_
            refine g_iload 64 (gd rfl) rfl rfl ?_
            refine g_iconst 1 65 (gd rfl) rfl rfl ?_
            refine g_iload_n 66 (gd rfl) rfl rfl ?_
            refine g_iload_n 67 (gd rfl) rfl rfl ?_
            refine g_irem 68 (gd rfl) rfl (dv_nz h1 rfl) (fun z67 e67 => ?_)
            have i67 := in_remv 3 e67 j30_3 h1 rfl
            refine g_ishl 69 (gd rfl) rfl (fun z68 e68 => ?_)
            refine g_iconst (-1) 70 (gd rfl) rfl rfl ?_
            refine g_ixor 71 (gd rfl) rfl (fun z70 e70 => ?_)
            refine g_iand 72 (gd rfl) rfl (fun z71 e71 => ?_)
            refine g_calls (As := [.int z71]) (r := [.int y11_2]) 75 (gd rfl) rfl rfl rfl rfl rfl (Nat.le_of_ble_eq_true rfl) (Nat.zero_le _) (Nat.zero_le _) (k_414b (by first | exact dq1 hd rfl | exact dq0 hd rfl | exact dq2 hd rfl | exact dq3 hd rfl | omega) hI ) (fun v u h => ?_)
            obtain ⟨z72, rfl, rfl, i72⟩ := h
            show GG _ _ _ _ _ _ _ _ [.int z72, .int y11_2] _ _ _
            refine g_iadd 76 (gd rfl) rfl (fun z75 e75 => ?_)
            have i75 := in_add 0 2048 e75 j11_2 i72 rfl rfl
            refine g_istore_n 77 (gd rfl) rfl (Nat.le_of_ble_eq_true rfl) ?_
            refine g_iinc 80 (gd rfl) rfl rfl (Nat.le_of_ble_eq_true rfl) (fun z77 e77 => ?_)
            have i77 := in_add 1 32 e77 j30_3 (in_c 1 rfl) rfl rfl
            refine g_goto 11 (gd rfl) rfl ?_
            have i11 : In z75 0 2016 := by exact ⟨by (first | have a0 := oa6 i32 j30_3 j11_2 h1 ro_32_1 i77 | ((first | have a0 := in_u i32 | (have a0 := i32; unfold In at a0)); (first | have a1 := in_u j30_3 | (have a1 := j30_3; unfold In at a1)); (first | have a2 := in_u j11_2 | (have a2 := j11_2; unfold In at a2)); (first | have a3 := in_u h1 | (have a3 := h1; unfold In at a3)); (first | have a4 := in_u ro_32_1 | (have a4 := ro_32_1; unfold In at a4)); (first | have a5 := in_u i77 | (have a5 := i77; unfold In at a5)))); have a6 := t_add e77 j30_3 (in_c 1 rfl) rfl; (first | have a7 := oa2 ((in_c 1 rfl)) i75 | ((first | have a7 := in_u ((in_c 1 rfl)) | (have a7 := (in_c 1 rfl); unfold In at a7)); (first | have a8 := in_u i75 | (have a8 := i75; unfold In at a8)))); have a9 := t_add e75 j11_2 i72 rfl; (first | have a10 := in_u i72 | (have a10 := i72; unfold In at a10)); omega, by (first | have a0 := oa6 i32 j30_3 j11_2 h1 ro_32_1 i77 | ((first | have a0 := in_u i32 | (have a0 := i32; unfold In at a0)); (first | have a1 := in_u j30_3 | (have a1 := j30_3; unfold In at a1)); (first | have a2 := in_u j11_2 | (have a2 := j11_2; unfold In at a2)); (first | have a3 := in_u h1 | (have a3 := h1; unfold In at a3)); (first | have a4 := in_u ro_32_1 | (have a4 := ro_32_1; unfold In at a4)); (first | have a5 := in_u i77 | (have a5 := i77; unfold In at a5)))); have a6 := t_add e77 j30_3 (in_c 1 rfl) rfl; (first | have a7 := oa2 ((in_c 1 rfl)) i75 | ((first | have a7 := in_u ((in_c 1 rfl)) | (have a7 := (in_c 1 rfl); unfold In at a7)); (first | have a8 := in_u i75 | (have a8 := i75; unfold In at a8)))); have a9 := t_add e75 j11_2 i72 rfl; (first | have a10 := in_u i72 | (have a10 := i72; unfold In at a10)); omega⟩
            have n11 : 0 ≤ (z75).toInt := by (first | have a0 := oa6 i32 j30_3 j11_2 h1 ro_32_1 i77 | ((first | have a0 := in_u i32 | (have a0 := i32; unfold In at a0)); (first | have a1 := in_u j30_3 | (have a1 := j30_3; unfold In at a1)); (first | have a2 := in_u j11_2 | (have a2 := j11_2; unfold In at a2)); (first | have a3 := in_u h1 | (have a3 := h1; unfold In at a3)); (first | have a4 := in_u ro_32_1 | (have a4 := ro_32_1; unfold In at a4)); (first | have a5 := in_u i77 | (have a5 := i77; unfold In at a5)))); have a6 := t_add e77 j30_3 (in_c 1 rfl) rfl; (first | have a7 := oa2 ((in_c 1 rfl)) i11 | ((first | have a7 := in_u ((in_c 1 rfl)) | (have a7 := (in_c 1 rfl); unfold In at a7)); (first | have a8 := in_u i11 | (have a8 := i11; unfold In at a8)))); have a9 := t_add e75 j11_2 i72 rfl; (first | have a10 := in_u i72 | (have a10 := i72; unfold In at a10)); omega
            have n11a : (z75).toInt ≤ 63 * (z77).toInt := by (first | have a0 := oa6 i32 j30_3 j11_2 h1 ro_32_1 i77 | ((first | have a0 := in_u i32 | (have a0 := i32; unfold In at a0)); (first | have a1 := in_u j30_3 | (have a1 := j30_3; unfold In at a1)); (first | have a2 := in_u j11_2 | (have a2 := j11_2; unfold In at a2)); (first | have a3 := in_u h1 | (have a3 := h1; unfold In at a3)); (first | have a4 := in_u ro_32_1 | (have a4 := ro_32_1; unfold In at a4)); (first | have a5 := in_u i77 | (have a5 := i77; unfold In at a5)))); have a6 := t_add e77 j30_3 (in_c 1 rfl) rfl; (first | have a7 := oa2 ((in_c 1 rfl)) i11 | ((first | have a7 := in_u ((in_c 1 rfl)) | (have a7 := (in_c 1 rfl); unfold In at a7)); (first | have a8 := in_u i11 | (have a8 := i11; unfold In at a8)))); have a9 := t_add e75 j11_2 i72 rfl; (first | have a10 := in_u i72 | (have a10 := i72; unfold In at a10)); omega
            exact gg_w (by first | exact Nat.le_add_right _ _ | exact gw2 | exact gw3 | exact gwe rfl | exact gwf rfl | exact gwg rfl | exact gwh rfl | omega) (gg_f (gf_cons rfl (gf_cons rfl (gf_cons rfl (gf_cons rfl gf_nil)))) (ih11  z75 z77  i11 (in_w 0 32 i77 rfl) n11 n11a (m_up mm11 (t_add e77 j30_3 (in_c 1 rfl) rfl) (in_w 1 1 (in_c 1 rfl) rfl))))
          · skip
            refine g_iload 37 (gd rfl) rfl rfl ?_
            refine g_iconst 1 38 (gd rfl) rfl rfl ?_
            refine g_iload 40 (gd rfl) rfl rfl ?_
            refine g_calls (As := [.int y30_5]) (r := [.int (Int32.ofInt 1), .int y30_4]) 43 (gd rfl) rfl rfl rfl rfl rfl (Nat.le_of_ble_eq_true rfl) (Nat.zero_le _) (Nat.zero_le _) (k_264n (by first | exact dq1 hd rfl | exact dq0 hd rfl | exact dq2 hd rfl | exact dq3 hd rfl | omega) c32) (fun v u h => ?_)
            obtain ⟨z40, rfl, rfl, i40, hb40, hl40⟩ := h
            show GG _ _ _ _ _ _ _ _ [.int z40, .int (Int32.ofInt 1), .int y30_4] _ _ _
            refine g_iload_n 44 (gd rfl) rfl rfl ?_
            refine g_irem 45 (gd rfl) rfl (dv_nz h1 rfl) (fun z44 e44 => ?_)
            have i44 := in_remv 3 e44 i40 h1 rfl
            refine g_ishl 46 (gd rfl) rfl (fun z45 e45 => ?_)
            refine g_ior 47 (gd rfl) rfl (fun z46 e46 => ?_)
            refine g_istore 49 (gd rfl) rfl (Nat.le_of_ble_eq_true rfl) ?_
            refine g_iload 51 (gd rfl) rfl rfl ?_
            refine g_iload 53 (gd rfl) rfl rfl ?_
            refine g_iconst 1 54 (gd rfl) rfl rfl ?_
            refine g_isub 55 (gd rfl) rfl (fun z54 e54 => ?_)
            refine g_iand 56 (gd rfl) rfl (fun z55 e55 => ?_)
            refine g_istore 58 (gd rfl) rfl (Nat.le_of_ble_eq_true rfl) ?_
            refine g_goto 30 (gd rfl) rfl ?_
            exact gg_w (by first | exact Nat.le_add_right _ _ | exact gw2 | exact gw3 | exact gwe rfl | exact gwf rfl | exact gwg rfl | exact gwh rfl | omega) (gg_f (gf_cons rfl (gf_cons rfl (gf_cons rfl (gf_cons rfl (gf_cons rfl (gf_cons rfl gf_nil)))))) (ih30  z46 z55  (in_w 0 31 j30_3 rfl) (mb e55 e54 c32 mm30)))
      refine g_iload_n 12 (gd rfl) rfl rfl ?_
      refine g_aload_n 13 (gd rfl) rfl rfl ?_
      refine g_getI 16 (gd rfl) rfl rfl rfl (fun z13 e13 => ?_)
      have q13 : u_32_1 = z13 := (e_32_1).trans e13.symm
      subst q13
      refine g_cmp_ge 19 83 (gd rfl) rfl rfl (fun c16 => ?_) (fun c16 => ?_)
      · skip
        refine g_iload_n 84 (gd rfl) rfl rfl ?_
        exact g_ireturn (gd rfl) rfl rfl (hP _ _ ⟨y11_2, rfl, rfl, in_w 0 2016 j11_2 rfl⟩)
      · skip
        have i16 := r_lt1 0 31 c16 j11_3 ro_32_1 rfl
        have i16a := r_lt2 1 32 c16 j11_3 ro_32_1 rfl
        refine g_iconst 0 20 (gd rfl) rfl rfl ?_
        refine g_istore 22 (gd rfl) rfl (Nat.le_of_ble_eq_true rfl) ?_
        refine g_aload_n 23 (gd rfl) rfl rfl ?_
        refine g_getA (q2 := 40) 26 (gd rfl) rfl rfl rfl rfl ?_
        refine g_iload_n 27 (gd rfl) rfl rfl ?_
        refine g_iaload 28 (gd rfl) rfl (n := 32) rfl (in_ix i16 rfl) (fun z27 e27 => ?_)
        refine g_istore 30 (gd rfl) rfl (Nat.le_of_ble_eq_true rfl) ?_
        exact gg_w (by first | exact Nat.le_add_right _ _ | exact gw2 | exact gw3 | exact gwe rfl | exact gwf rfl | exact gwg rfl | exact gwh rfl | omega) (gg_f (gf_cons rfl (gf_cons rfl (gf_cons rfl (gf_cons rfl (gf_cons rfl (gf_cons rfl gf_nil)))))) (ct30 4294967296  (Int32.ofInt 0) z27  (in_w 0 31 i16 rfl) (mb_in _)))
  refine g_enter2 (k := 71) (N := 127560528781234) (by first | exact dq1 hd rfl | exact dq0 hd rfl | exact dq2 hd rfl | exact dq3 hd rfl | omega) rfl (Nat.le_of_ble_eq_true rfl) ?_
  refine g_iload_n 1 (gd rfl) rfl rfl ?_
  refine g_iconst 1 2 (gd rfl) rfl rfl ?_
  refine g_cmp_ge 5 7 (gd rfl) rfl rfl (fun c2 => ?_) (fun c2 => ?_)
  · skip
    refine g_iconst 0 8 (gd rfl) rfl rfl ?_
    refine g_istore_n 9 (gd rfl) rfl (Nat.le_of_ble_eq_true rfl) ?_
    refine g_iconst 0 10 (gd rfl) rfl rfl ?_
    refine g_istore_n 11 (gd rfl) rfl (Nat.le_of_ble_eq_true rfl) ?_
    have n11 : 0 ≤ ((Int32.ofInt 0)).toInt := by (first | have a0 := oa3 ro_32_1 h1 ((in_c 0 rfl)) | ((first | have a0 := in_u ro_32_1 | (have a0 := ro_32_1; unfold In at a0)); (first | have a1 := in_u h1 | (have a1 := h1; unfold In at a1)); (first | have a2 := in_u ((in_c 0 rfl)) | (have a2 := (in_c 0 rfl); unfold In at a2)))); omega
    have n11a : ((Int32.ofInt 0)).toInt ≤ 63 * ((Int32.ofInt 0)).toInt := by (first | have a0 := oa3 ro_32_1 h1 ((in_c 0 rfl)) | ((first | have a0 := in_u ro_32_1 | (have a0 := ro_32_1; unfold In at a0)); (first | have a1 := in_u h1 | (have a1 := h1; unfold In at a1)); (first | have a2 := in_u ((in_c 0 rfl)) | (have a2 := (in_c 0 rfl); unfold In at a2)))); omega
    exact gg_w (by first | exact Nat.le_of_ble_eq_true rfl | omega) (gg_f (gf_cons rfl (gf_cons rfl (gf_cons rfl (gf_cons rfl gf_nil)))) (ct11 33  (Int32.ofInt 0) (Int32.ofInt 0)  (in_w 0 2016 (in_c 0 rfl) rfl) (in_w 0 32 (in_c 0 rfl) rfl) n11 n11a (m_in 33 (in_w 0 32 (in_c 0 rfl) rfl) rfl)))
  · skip
    exact n_lt c2 h1 (in_c 1 rfl) rfl

def fm_72_102 : FM := ([], [], [(102, 10), (102, 11)], [])
/-- GraphHouse$Engine.sendAll -/
theorem k_72_102 {Z : AmZ} {A : Nat → Nat} {s : GS} {ex : va_W} {d : Nat} {X : AmX} {x1 : Int32} {x2 : Int32} {x3 : Int64} (hd : 3 ≤ d) (hI : Inv s) (h1 : In x1 0 2100) (h2 : In x2 0 90) : GC Z d 72 [.ref (A 102), .int x1, .int x2, .long x3] (WW Z A s ++ ex) 0 0 (fun v u => ∃ t : GS, Inv t ∧ Fr fm_72_102 s t ∧ ∃ z : Int32, v = some (.int z) ∧ u = WW Z A t ++ ex ∧ In z 0 2100) X := by
  intro post xp hP hX
  have ct6 : ∀ (k6 : Nat) (sc6 : GS) (y6_5 : Int32) (y6_6 : Int32), Inv sc6 → Fr fm_72_102 s sc6 → (In y6_5 0 2100) → (In y6_6 0 2100) → ((y6_5).toInt ≤ (y6_6).toInt + 0) → 2100 - (y6_6).toInt < (k6 : Int) → GG Z (d - 1) 72 post (gx xp) (1 + k6 * 900) 6 (fun j => xlook j [(0, .ref (A 102)), (1, .int x1), (2, .int x2), (3, .long x3), (5, .int y6_5), (6, .int y6_6)]) [] (WW Z A sc6 ++ ex) 0 0 := by
    intro k6
    induction k6 with
    | zero => intro sc6 y6_5 y6_6 hIc6 hFc6 j6_5 j6_6 l6_5 mm6; exact m_no mm6 j6_6 rfl
    | succ k6 ih6 =>
      intro sc6 y6_5 y6_6 hIc6 hFc6 j6_5 j6_6 l6_5 mm6
      refine gg_w (M := 1 + k6 * 900 + 900) gws ?_
      refine g_iload 8 (gd rfl) rfl rfl ?_
      refine g_iload_n 9 (gd rfl) rfl rfl ?_
      refine g_cmp_ge 12 51 (gd rfl) rfl rfl (fun c9 => ?_) (fun c9 => ?_)
      · skip
        refine g_aload_n 52 (gd rfl) rfl rfl ?_
        refine g_dup 53 (gd rfl) rfl rfl ?_
        refine g_getI 56 (gd rfl) rfl rfl rfl (fun z53 e53 => ?_)
        refine g_iload 58 (gd rfl) rfl rfl ?_
        refine g_iadd 59 (gd rfl) rfl (fun z58 e58 => ?_)
        refine g_putI 62 (gd rfl) rfl rfl rfl rfl ?_
        have hI59 := inv_sF (q := 102) (j := 11) hIc6 rfl (in_w (-2147483648) 2147483647 (i_rng z58) rfl)
        refine g_iload 64 (gd rfl) rfl rfl ?_
        exact g_ireturn (gd rfl) rfl rfl (hP _ _ ⟨(sF sc6 102 11 z58), hI59, (fr_sF rfl hFc6), y6_5, rfl, rfl, in_w 0 2100 j6_5 rfl⟩)
      · skip
        have i9 := r_lt1 0 2099 c9 j6_6 h1 rfl
        have i9a := r_lt2 1 2100 c9 j6_6 h1 rfl
        refine g_aload_n 13 (gd rfl) rfl rfl ?_
        refine g_dup 14 (gd rfl) rfl rfl ?_
        refine g_getI 17 (gd rfl) rfl rfl rfl (fun z14 e14 => ?_)
        refine g_iconst 1 18 (gd rfl) rfl rfl ?_
        refine g_iadd 19 (gd rfl) rfl (fun z18 e18 => ?_)
        refine g_putI 22 (gd rfl) rfl rfl rfl rfl ?_
        have hI19 := inv_sF (q := 102) (j := 10) hIc6 rfl (in_w (-2147483648) 2147483647 (i_rng z18) rfl)
        refine g_lload_n 23 (gd rfl) rfl rfl ?_
        refine g_ldc2_w (-7046029254386353131) 26 (gd rfl) rfl rfl ?_
        refine g_aload_n 27 (gd rfl) rfl rfl ?_
        refine g_getI 30 (gd rfl) rfl rfl rfl (fun z27 e27 => ?_)
        have q27 : z18 = z27 := (sF_get).trans e27.symm
        subst q27
        refine g_i2l 31 (gd rfl) rfl (fun z30 e30 => ?_)
        have i30 := l_i e30 (i_rng z18)
        refine g_lmul 32 (gd rfl) rfl (fun z31 e31 => ?_)
        refine g_ladd 33 (gd rfl) rfl (fun z32 e32 => ?_)
        refine g_calls (As := [.long z32]) (r := []) 36 (gd rfl) rfl rfl rfl rfl rfl (Nat.le_of_ble_eq_true rfl) (mc := 0) (ms := 0) (Nat.zero_le _) (Nat.zero_le _) (P := fun v u => _) ?_ (fun v u h => h)
        intro po33 xx33 hp33 hx33
        refine g_enter2 (k := 73) (N := 300) (by first | exact dq1 hd rfl | exact dq0 hd rfl | exact dq2 hd rfl | exact dq3 hd rfl | omega) rfl (Nat.le_of_ble_eq_true rfl) ?_
        refine g_lload_n 1 (gd rfl) rfl rfl ?_
        refine g_lstore_n 2 (gd rfl) rfl (Nat.le_of_ble_eq_true rfl) ?_
        refine g_lload_n 3 (gd rfl) rfl rfl ?_
        refine g_lload_n 4 (gd rfl) rfl rfl ?_
        refine g_bipush 30 6 (gd rfl) rfl rfl ?_
        refine g_lushr 7 (gd rfl) rfl (fun z33x6 e33x6 => ?_)
        refine g_lxor 8 (gd rfl) rfl (fun z33x7 e33x7 => ?_)
        refine g_ldc2_w (-4658895280553007687) 11 (gd rfl) rfl rfl ?_
        refine g_lmul 12 (gd rfl) rfl (fun z33x11 e33x11 => ?_)
        refine g_lstore_n 13 (gd rfl) rfl (Nat.le_of_ble_eq_true rfl) ?_
        refine g_lload_n 14 (gd rfl) rfl rfl ?_
        refine g_lload_n 15 (gd rfl) rfl rfl ?_
        refine g_bipush 27 17 (gd rfl) rfl rfl ?_
        refine g_lushr 18 (gd rfl) rfl (fun z33x17 e33x17 => ?_)
        refine g_lxor 19 (gd rfl) rfl (fun z33x18 e33x18 => ?_)
        refine g_ldc2_w (-7723592293110705685) 22 (gd rfl) rfl rfl ?_
        refine g_lmul 23 (gd rfl) rfl (fun z33x22 e33x22 => ?_)
        refine g_lstore_n 24 (gd rfl) rfl (Nat.le_of_ble_eq_true rfl) ?_
        refine g_lload_n 25 (gd rfl) rfl rfl ?_
        refine g_lload_n 26 (gd rfl) rfl rfl ?_
        refine g_bipush 31 28 (gd rfl) rfl rfl ?_
        refine g_lushr 29 (gd rfl) rfl (fun z33x28 e33x28 => ?_)
        refine g_lxor 30 (gd rfl) rfl (fun z33x29 e33x29 => ?_)
        refine g_lstore_n 31 (gd rfl) rfl (Nat.le_of_ble_eq_true rfl) ?_
        refine g_lload_n 32 (gd rfl) rfl rfl ?_
        refine g_bipush 33 34 (gd rfl) rfl rfl ?_
        refine g_lushr 35 (gd rfl) rfl (fun z33x34 e33x34 => ?_)
        refine g_ldc2_w 100 38 (gd rfl) rfl rfl ?_
        refine g_lrem 39 (gd rfl) rfl (by decide) (fun z33x38 e33x38 => ?_)
        have i33x38 := l_rem (-99) 99 e33x38 rfl
        refine g_lreturn (gd rfl) rfl (hp33 _ _ ?_)
        show GG _ _ _ _ _ _ _ _ [.long z33x38] _ _ _
        refine g_iload_n 37 (gd rfl) rfl rfl ?_
        refine g_i2l 38 (gd rfl) rfl (fun z37 e37 => ?_)
        have i37 := l_i e37 h2
        refine g_lcmp 39 (gd rfl) rfl (fun z38 e38 => ?_)
        have i38 := lc_in e38
        refine g_if_ge 42 45 (gd rfl) rfl rfl (fun c39 => ?_) (fun c39 => ?_)
        · skip
          have i39 := z_ge 0 1 c39 i38 rfl
          have c39a := lc_ge e38 c39
          have i39a := lr_le2 0 99 c39a i37 i33x38 rfl
          refine g_iinc 48 (gd rfl) rfl rfl (Nat.le_of_ble_eq_true rfl) (fun z45 e45 => ?_)
          have i45 := in_add 1 2100 e45 i9 (in_c 1 rfl) rfl rfl
          refine g_goto 6 (gd rfl) rfl ?_
          have l6 := rl_0 l6_5 (t_add e45 i9 (in_c 1 rfl) rfl) (in_w 0 1 (in_c 1 rfl) rfl)
          exact gg_w (by first | exact Nat.le_add_right _ _ | exact gw2 | exact gw3 | exact gwe rfl | exact gwf rfl | exact gwg rfl | exact gwh rfl | omega) (gg_f (gf_cons rfl (gf_cons rfl (gf_cons rfl (gf_cons rfl (gf_cons rfl (gf_cons rfl gf_nil)))))) (ih6 (sF sc6 102 10 z18) y6_5 z45 hI19 (fr_sF rfl hFc6) (rl_w 0 2100 l6 j6_5 (in_w 0 2100 i45 rfl) rfl) (in_w 0 2100 i45 rfl) l6 (m_up mm6 (t_add e45 i9 (in_c 1 rfl) rfl) (in_w 1 1 (in_c 1 rfl) rfl))))
        · skip
          have i39 := z_lt (-1) (-1) c39 i38 rfl
          have c39a := lc_lt e38 c39
          have i39a := lr_lt1 (-99) 89 c39a i33x38 i37 rfl
          refine g_iinc 45 (gd rfl) rfl rfl (Nat.le_of_ble_eq_true rfl) (fun z42 e42 => ?_)
          have i42 := in_add 1 2101 e42 j6_5 (in_c 1 rfl) rfl rfl
          refine g_iinc 48 (gd rfl) rfl rfl (Nat.le_of_ble_eq_true rfl) (fun z45 e45 => ?_)
          have i45 := in_add 1 2100 e45 i9 (in_c 1 rfl) rfl rfl
          refine g_goto 6 (gd rfl) rfl ?_
          have l6 := rl_1 l6_5 (t_add e42 j6_5 (in_c 1 rfl) rfl) (in_c 1 rfl) (t_add e45 i9 (in_c 1 rfl) rfl) (in_c 1 rfl) rfl
          exact gg_w (by first | exact Nat.le_add_right _ _ | exact gw2 | exact gw3 | exact gwe rfl | exact gwf rfl | exact gwg rfl | exact gwh rfl | omega) (gg_f (gf_cons rfl (gf_cons rfl (gf_cons rfl (gf_cons rfl (gf_cons rfl (gf_cons rfl gf_nil)))))) (ih6 (sF sc6 102 10 z18) z42 z45 hI19 (fr_sF rfl hFc6) (rl_w 0 2100 l6 i42 (in_w 0 2100 i45 rfl) rfl) (in_w 0 2100 i45 rfl) l6 (m_up mm6 (t_add e45 i9 (in_c 1 rfl) rfl) (in_w 1 1 (in_c 1 rfl) rfl))))
  refine g_enter2 (k := 72) (N := 1891801) (by first | exact dq1 hd rfl | exact dq0 hd rfl | exact dq2 hd rfl | exact dq3 hd rfl | omega) rfl (Nat.le_of_ble_eq_true rfl) ?_
  refine g_iconst 0 1 (gd rfl) rfl rfl ?_
  refine g_istore 3 (gd rfl) rfl (Nat.le_of_ble_eq_true rfl) ?_
  refine g_iconst 0 4 (gd rfl) rfl rfl ?_
  refine g_istore 6 (gd rfl) rfl (Nat.le_of_ble_eq_true rfl) ?_
  have l6 := rl_in 0 (in_c 0 rfl) (in_c 0 rfl) rfl
  exact gg_w (by first | exact Nat.le_of_ble_eq_true rfl | omega) (gg_f (gf_cons rfl (gf_cons rfl (gf_cons rfl (gf_cons rfl (gf_cons rfl (gf_cons rfl gf_nil)))))) (ct6 2101 s (Int32.ofInt 0) (Int32.ofInt 0) hI fr_rf (rl_w 0 2100 l6 (in_c 0 rfl) (in_w 0 2100 (in_c 0 rfl) rfl) rfl) (in_w 0 2100 (in_c 0 rfl) rfl) l6 (m_in 2101 (in_w 0 2100 (in_c 0 rfl) rfl) rfl)))

def fm_76_65_2 : FM := ([66, 67], [], [], [])
/-- GraphHouse$Flows.openAll -/
theorem k_76_65_2 {Z : AmZ} {A : Nat → Nat} {s : GS} {ex : va_W} {d : Nat} {X : AmX}  (hd : 3 ≤ d) (hI : Inv s)  : GC Z d 76 [.ref (A 65), .ref (A 2)] (WW Z A s ++ ex) 0 0 (fun v u => ∃ t : GS, Inv t ∧ Fr fm_76_65_2 s t ∧ v = none ∧ u = WW Z A t ++ ex) X := by
  intro post xp hP hX
  obtain ⟨u_2_3, e_2_3⟩ : ∃ w, w = s.2.2.1 2 3 := ⟨_, rfl⟩
  have ro_2_3 := inv_F hI 0 160 rfl e_2_3
  have ct18 : ∀ (k18 : Nat) (sc18 : GS) (y18_2 : Int32), Inv sc18 → Fr fm_76_65_2 s sc18 → (In y18_2 0 160) → 160 - (y18_2).toInt < (k18 : Int) → GG Z (d - 1) 76 post (gx xp) (1 + k18 * 900) 18 (fun j => xlook j [(0, .ref (A 65)), (1, .ref (A 2)), (2, .int y18_2)]) [] (WW Z A sc18 ++ ex) 0 0 := by
    intro k18
    induction k18 with
    | zero => intro sc18 y18_2 hIc18 hFc18 j18_2 mm18; exact m_no mm18 j18_2 rfl
    | succ k18 ih18 =>
      intro sc18 y18_2 hIc18 hFc18 j18_2 mm18
      refine gg_w (M := 1 + k18 * 900 + 900) gws ?_
      refine g_iload_n 19 (gd rfl) rfl rfl ?_
      refine g_aload_n 20 (gd rfl) rfl rfl ?_
      refine g_getI 23 (gd rfl) rfl rfl rfl (fun z20 e20 => ?_)
      have q20 : u_2_3 = z20 := (fr_F e_2_3 hFc18 rfl).trans e20.symm
      subst q20
      refine g_cmp_ge 26 101 (gd rfl) rfl rfl (fun c23 => ?_) (fun c23 => ?_)
      · skip
        exact g_return (gd rfl) rfl (hP _ _ ⟨sc18, hIc18, hFc18, rfl, rfl⟩)
      · skip
        have i23 := r_lt1 0 159 c23 j18_2 ro_2_3 rfl
        have i23a := r_lt2 1 160 c23 j18_2 ro_2_3 rfl
        refine g_aload_n 27 (gd rfl) rfl rfl ?_
        refine g_iload_n 28 (gd rfl) rfl rfl ?_
        refine g_callv (X := _) (As := [.int y18_2]) (r := []) (b := A 2) (q := 2) 31 (gd rfl) rfl rfl rfl rfl rfl (ww_o rfl) (Nat.le_of_ble_eq_true rfl) (mc := 0) (ms := 0) (Nat.zero_le _) (Nat.zero_le _) (P := fun v u => _) ?_ (fun e u h => h) (fun v u h => h)
        intro po28 xx28 hp28 hx28
        refine g_enter2 (k := 97) (N := 300) (by first | exact dq1 hd rfl | exact dq0 hd rfl | exact dq2 hd rfl | exact dq3 hd rfl | omega) rfl (Nat.le_of_ble_eq_true rfl) ?_
        refine g_aload_n 1 (gd rfl) rfl rfl ?_
        refine g_getA (q2 := 4) 4 (gd rfl) rfl rfl rfl rfl ?_
        refine g_iload_n 5 (gd rfl) rfl rfl ?_
        refine g_iaload 6 (gd rfl) rfl (n := 160) rfl (in_ix i23 rfl) (fun z28x5 e28x5 => ?_)
        have i28x5 := inv_I hIc18 (n := 160) (t := 0) (-1) 31 rfl (in_ix i23 rfl) rfl e28x5
        refine g_iconst (-1) 7 (gd rfl) rfl rfl ?_
        refine g_cmp_eq 10 29 (gd rfl) rfl rfl (fun c28x7 => ?_) (fun c28x7 => ?_)
        · skip
          have i28x7 := r_eq1 (-1) (-1) c28x7 i28x5 (in_c (-1) rfl) rfl
          refine g_iconst 0 30 (gd rfl) rfl rfl ?_
          refine g_ireturn (gd rfl) rfl (nb01 (in_w 0 1 (in_c 0 rfl) rfl)) (hp28 _ _ ?_)
          show GG _ _ _ _ _ _ _ _ [.int (Int32.ofInt 0)] _ _ _
          refine g_if_eq 34 95 (gd rfl) rfl rfl (fun c31 => ?_) (fun c31 => ?_)
          · skip
            refine g_iinc 98 (gd rfl) rfl rfl (Nat.le_of_ble_eq_true rfl) (fun z95 e95 => ?_)
            have i95 := in_add 1 160 e95 i23 (in_c 1 rfl) rfl rfl
            refine g_goto 18 (gd rfl) rfl ?_
            exact gg_w (by first | exact Nat.le_add_right _ _ | exact gw2 | exact gw3 | exact gwe rfl | exact gwf rfl | exact gwg rfl | exact gwh rfl | omega) (gg_f (gf_cons rfl (gf_cons rfl (gf_cons rfl gf_nil))) (ih18 sc18 z95 hIc18 hFc18 (in_w 0 160 i95 rfl) (m_up mm18 (t_add e95 i23 (in_c 1 rfl) rfl) (in_w 1 1 (in_c 1 rfl) rfl))))
          · skip
            exact zn_ne c31 (in_c 0 rfl) rfl
        · skip
          have i28x7 := r_ne1 0 31 c28x7 i28x5 (in_c (-1) rfl) rfl
          refine g_aload_n 11 (gd rfl) rfl rfl ?_
          refine g_getA (q2 := 4) 14 (gd rfl) rfl rfl rfl rfl ?_
          refine g_iload_n 15 (gd rfl) rfl rfl ?_
          refine g_iaload 16 (gd rfl) rfl (n := 160) rfl (in_ix i23 rfl) (fun z28x15 e28x15 => ?_)
          have q28x15 : z28x5 = z28x15 := (e28x5).trans e28x15.symm
          subst q28x15
          refine g_aload_n 17 (gd rfl) rfl rfl ?_
          refine g_getA (q2 := 5) 20 (gd rfl) rfl rfl rfl rfl ?_
          refine g_iload_n 21 (gd rfl) rfl rfl ?_
          refine g_iaload 22 (gd rfl) rfl (n := 160) rfl (in_ix i23 rfl) (fun z28x21 e28x21 => ?_)
          have i28x21 := inv_I hIc18 (n := 160) (t := 0) 0 31 rfl (in_ix i23 rfl) rfl e28x21
          refine g_cmp_eq 25 29 (gd rfl) rfl rfl (fun c28x22 => ?_) (fun c28x22 => ?_)
          · skip
            refine g_iconst 0 30 (gd rfl) rfl rfl ?_
            refine g_ireturn (gd rfl) rfl (nb01 (in_w 0 1 (in_c 0 rfl) rfl)) (hp28 _ _ ?_)
            show GG _ _ _ _ _ _ _ _ [.int (Int32.ofInt 0)] _ _ _
            refine g_if_eq 34 95 (gd rfl) rfl rfl (fun c31 => ?_) (fun c31 => ?_)
            · skip
              refine g_iinc 98 (gd rfl) rfl rfl (Nat.le_of_ble_eq_true rfl) (fun z95 e95 => ?_)
              have i95 := in_add 1 160 e95 i23 (in_c 1 rfl) rfl rfl
              refine g_goto 18 (gd rfl) rfl ?_
              exact gg_w (by first | exact Nat.le_add_right _ _ | exact gw2 | exact gw3 | exact gwe rfl | exact gwf rfl | exact gwg rfl | exact gwh rfl | omega) (gg_f (gf_cons rfl (gf_cons rfl (gf_cons rfl gf_nil))) (ih18 sc18 z95 hIc18 hFc18 (in_w 0 160 i95 rfl) (m_up mm18 (t_add e95 i23 (in_c 1 rfl) rfl) (in_w 1 1 (in_c 1 rfl) rfl))))
            · skip
              exact zn_ne c31 (in_c 0 rfl) rfl
          · skip
            refine g_iconst 1 26 (gd rfl) rfl rfl ?_
            refine g_goto 30 (gd rfl) rfl ?_
            refine g_ireturn (gd rfl) rfl (nb01 (in_w 0 1 (in_c 1 rfl) rfl)) (hp28 _ _ ?_)
            show GG _ _ _ _ _ _ _ _ [.int (Int32.ofInt 1)] _ _ _
            refine g_if_eq 34 95 (gd rfl) rfl rfl (fun c31 => ?_) (fun c31 => ?_)
            · skip
              exact zn_eq c31 (in_c 1 rfl) rfl
            · skip
              refine g_aload_n 35 (gd rfl) rfl rfl ?_
              refine g_getA (q2 := 7) 38 (gd rfl) rfl rfl rfl rfl ?_
              refine g_iload_n 39 (gd rfl) rfl rfl ?_
              refine g_iaload 40 (gd rfl) rfl (n := 160) rfl (in_ix i23 rfl) (fun z39 e39 => ?_)
              have i39 := inv_I hIc18 (n := 160) (t := 0) 0 1000000 rfl (in_ix i23 rfl) rfl e39
              refine g_if_le 43 95 (gd rfl) rfl rfl (fun c40 => ?_) (fun c40 => ?_)
              · skip
                have i40 := z_le 0 0 c40 i39 rfl
                refine g_iinc 98 (gd rfl) rfl rfl (Nat.le_of_ble_eq_true rfl) (fun z95 e95 => ?_)
                have i95 := in_add 1 160 e95 i23 (in_c 1 rfl) rfl rfl
                refine g_goto 18 (gd rfl) rfl ?_
                exact gg_w (by first | exact Nat.le_add_right _ _ | exact gw2 | exact gw3 | exact gwe rfl | exact gwf rfl | exact gwg rfl | exact gwh rfl | omega) (gg_f (gf_cons rfl (gf_cons rfl (gf_cons rfl gf_nil))) (ih18 sc18 z95 hIc18 hFc18 (in_w 0 160 i95 rfl) (m_up mm18 (t_add e95 i23 (in_c 1 rfl) rfl) (in_w 1 1 (in_c 1 rfl) rfl))))
              · skip
                have i40 := z_gt 1 1000000 c40 i39 rfl
                refine g_aload_n 44 (gd rfl) rfl rfl ?_
                refine g_getA (q2 := 66) 47 (gd rfl) rfl rfl rfl rfl ?_
                refine g_aload_n 48 (gd rfl) rfl rfl ?_
                refine g_getA (q2 := 4) 51 (gd rfl) rfl rfl rfl rfl ?_
                refine g_iload_n 52 (gd rfl) rfl rfl ?_
                refine g_iaload 53 (gd rfl) rfl (n := 160) rfl (in_ix i23 rfl) (fun z52 e52 => ?_)
                have q52 : z28x5 = z52 := (e28x5).trans e52.symm
                subst q52
                refine g_bipush 32 55 (gd rfl) rfl rfl ?_
                refine g_imul 56 (gd rfl) rfl (fun z55 e55 => ?_)
                have i55 := in_mulc 32 0 992 (Or.inr e55) i28x7 rfl rfl
                refine g_aload_n 57 (gd rfl) rfl rfl ?_
                refine g_getA (q2 := 5) 60 (gd rfl) rfl rfl rfl rfl ?_
                refine g_iload_n 61 (gd rfl) rfl rfl ?_
                refine g_iaload 62 (gd rfl) rfl (n := 160) rfl (in_ix i23 rfl) (fun z61 e61 => ?_)
                have q61 : z28x21 = z61 := (e28x21).trans e61.symm
                subst q61
                refine g_iadd 63 (gd rfl) rfl (fun z62 e62 => ?_)
                have i62 := in_add 0 1023 e62 i55 i28x21 rfl rfl
                refine g_dup2 64 (gd rfl) rfl rfl rfl ?_
                refine g_iaload 65 (gd rfl) rfl (n := 1024) rfl (in_ix i62 rfl) (fun z64 e64 => ?_)
                refine g_aload_n 66 (gd rfl) rfl rfl ?_
                refine g_getA (q2 := 7) 69 (gd rfl) rfl rfl rfl rfl ?_
                refine g_iload_n 70 (gd rfl) rfl rfl ?_
                refine g_iaload 71 (gd rfl) rfl (n := 160) rfl (in_ix i23 rfl) (fun z70 e70 => ?_)
                have q70 : z39 = z70 := (e39).trans e70.symm
                subst q70
                refine g_iadd 72 (gd rfl) rfl (fun z71 e71 => ?_)
                refine g_iastore 73 (gd rfl) rfl (n := 1024) rfl (in_ix i62 rfl) ?_
                have hI72 := inv_sI (q := 66) (j := z62.toNatClampNeg) hIc18 rfl (in_w (-2147483648) 2147483647 (i_rng z71) rfl)
                refine g_aload_n 74 (gd rfl) rfl rfl ?_
                refine g_getA (q2 := 67) 77 (gd rfl) rfl rfl rfl rfl ?_
                refine g_aload_n 78 (gd rfl) rfl rfl ?_
                refine g_getA (q2 := 4) 81 (gd rfl) rfl rfl rfl rfl ?_
                refine g_iload_n 82 (gd rfl) rfl rfl ?_
                refine g_iaload 83 (gd rfl) rfl (n := 160) rfl (in_ix i23 rfl) (fun z82 e82 => ?_)
                have q82 : z28x5 = z82 := (sI_ne rfl (e28x5)).trans e82.symm
                subst q82
                refine g_dup2 84 (gd rfl) rfl rfl rfl ?_
                refine g_iaload 85 (gd rfl) rfl (n := 32) rfl (in_ix i28x7 rfl) (fun z84 e84 => ?_)
                refine g_iconst 1 86 (gd rfl) rfl rfl ?_
                refine g_aload_n 87 (gd rfl) rfl rfl ?_
                refine g_getA (q2 := 5) 90 (gd rfl) rfl rfl rfl rfl ?_
                refine g_iload_n 91 (gd rfl) rfl rfl ?_
                refine g_iaload 92 (gd rfl) rfl (n := 160) rfl (in_ix i23 rfl) (fun z91 e91 => ?_)
                have q91 : z28x21 = z91 := (sI_ne rfl (e28x21)).trans e91.symm
                subst q91
                refine g_ishl 93 (gd rfl) rfl (fun z92 e92 => ?_)
                refine g_ior 94 (gd rfl) rfl (fun z93 e93 => ?_)
                refine g_iastore 95 (gd rfl) rfl (n := 32) rfl (in_ix i28x7 rfl) ?_
                have hI94 := inv_sI (q := 67) (j := z28x5.toNatClampNeg) hI72 rfl (in_w (-2147483648) 2147483647 (i_rng z93) rfl)
                refine g_iinc 98 (gd rfl) rfl rfl (Nat.le_of_ble_eq_true rfl) (fun z95 e95 => ?_)
                have i95 := in_add 1 160 e95 i23 (in_c 1 rfl) rfl rfl
                refine g_goto 18 (gd rfl) rfl ?_
                exact gg_w (by first | exact Nat.le_add_right _ _ | exact gw2 | exact gw3 | exact gwe rfl | exact gwf rfl | exact gwg rfl | exact gwh rfl | omega) (gg_f (gf_cons rfl (gf_cons rfl (gf_cons rfl gf_nil))) (ih18 (sI (sI sc18 66 z62.toNatClampNeg z71) 67 z28x5.toNatClampNeg z93) z95 hI94 (fr_sI rfl (fr_sI rfl hFc18)) (in_w 0 160 i95 rfl) (m_up mm18 (t_add e95 i23 (in_c 1 rfl) rfl) (in_w 1 1 (in_c 1 rfl) rfl))))
  refine g_enter2 (k := 76) (N := 145801) (by first | exact dq1 hd rfl | exact dq0 hd rfl | exact dq2 hd rfl | exact dq3 hd rfl | omega) rfl (Nat.le_of_ble_eq_true rfl) ?_
  refine g_aload_n 1 (gd rfl) rfl rfl ?_
  refine g_getA (q2 := 66) 4 (gd rfl) rfl rfl rfl rfl ?_
  refine g_iconst 0 5 (gd rfl) rfl rfl ?_
  refine g_calls (As := [.ref (A 66), .int (Int32.ofInt 0)]) (r := []) 8 (gd rfl) rfl rfl rfl rfl rfl (Nat.le_of_ble_eq_true rfl) (Nat.zero_le _) (Nat.zero_le _) (k_fillI 66 (by first | exact dq1 hd rfl | exact dq0 hd rfl | exact dq2 hd rfl | exact dq3 hd rfl | omega) hI (in_c 0 rfl) (n := 1024) rfl rfl rfl rfl) (fun v u h => ?_)
  obtain ⟨s5, hI5, hF5, rfl, rfl, fl5⟩ := h
  show GG _ _ _ _ _ _ _ _ [] _ _ _
  refine g_aload_n 9 (gd rfl) rfl rfl ?_
  refine g_getA (q2 := 67) 12 (gd rfl) rfl rfl rfl rfl ?_
  refine g_iconst 0 13 (gd rfl) rfl rfl ?_
  refine g_calls (As := [.ref (A 67), .int (Int32.ofInt 0)]) (r := []) 16 (gd rfl) rfl rfl rfl rfl rfl (Nat.le_of_ble_eq_true rfl) (Nat.zero_le _) (Nat.zero_le _) (k_fillI 67 (by first | exact dq1 hd rfl | exact dq0 hd rfl | exact dq2 hd rfl | exact dq3 hd rfl | omega) hI5 (in_c 0 rfl) (n := 32) rfl rfl rfl rfl) (fun v u h => ?_)
  obtain ⟨s13, hI13, hF13, rfl, rfl, fl13⟩ := h
  show GG _ _ _ _ _ _ _ _ [] _ _ _
  refine g_iconst 0 17 (gd rfl) rfl rfl ?_
  refine g_istore_n 18 (gd rfl) rfl (Nat.le_of_ble_eq_true rfl) ?_
  exact gg_w (by first | exact Nat.le_of_ble_eq_true rfl | omega) (gg_f (gf_cons rfl (gf_cons rfl (gf_cons rfl gf_nil))) (ct18 161 s13 (Int32.ofInt 0) hI13 (fr_tr rfl (fr_tr rfl fr_rf hF5) hF13) (in_w 0 160 (in_c 0 rfl) rfl) (m_in 161 (in_w 0 160 (in_c 0 rfl) rfl) rfl)))

def fm_76_65_32 : FM := ([66, 67], [], [], [])
/-- GraphHouse$Flows.openAll -/
theorem k_76_65_32 {Z : AmZ} {A : Nat → Nat} {s : GS} {ex : va_W} {d : Nat} {X : AmX}  (hd : 3 ≤ d) (hI : Inv s)  : GC Z d 76 [.ref (A 65), .ref (A 32)] (WW Z A s ++ ex) 0 0 (fun v u => ∃ t : GS, Inv t ∧ Fr fm_76_65_32 s t ∧ v = none ∧ u = WW Z A t ++ ex) X := by
  intro post xp hP hX
  obtain ⟨u_32_3, e_32_3⟩ : ∃ w, w = s.2.2.1 32 3 := ⟨_, rfl⟩
  have ro_32_3 := inv_F hI 0 160 rfl e_32_3
  have ct18 : ∀ (k18 : Nat) (sc18 : GS) (y18_2 : Int32), Inv sc18 → Fr fm_76_65_32 s sc18 → (In y18_2 0 160) → 160 - (y18_2).toInt < (k18 : Int) → GG Z (d - 1) 76 post (gx xp) (1 + k18 * 900) 18 (fun j => xlook j [(0, .ref (A 65)), (1, .ref (A 32)), (2, .int y18_2)]) [] (WW Z A sc18 ++ ex) 0 0 := by
    intro k18
    induction k18 with
    | zero => intro sc18 y18_2 hIc18 hFc18 j18_2 mm18; exact m_no mm18 j18_2 rfl
    | succ k18 ih18 =>
      intro sc18 y18_2 hIc18 hFc18 j18_2 mm18
      refine gg_w (M := 1 + k18 * 900 + 900) gws ?_
      refine g_iload_n 19 (gd rfl) rfl rfl ?_
      refine g_aload_n 20 (gd rfl) rfl rfl ?_
      refine g_getI 23 (gd rfl) rfl rfl rfl (fun z20 e20 => ?_)
      have q20 : u_32_3 = z20 := (fr_F e_32_3 hFc18 rfl).trans e20.symm
      subst q20
      refine g_cmp_ge 26 101 (gd rfl) rfl rfl (fun c23 => ?_) (fun c23 => ?_)
      · skip
        exact g_return (gd rfl) rfl (hP _ _ ⟨sc18, hIc18, hFc18, rfl, rfl⟩)
      · skip
        have i23 := r_lt1 0 159 c23 j18_2 ro_32_3 rfl
        have i23a := r_lt2 1 160 c23 j18_2 ro_32_3 rfl
        refine g_aload_n 27 (gd rfl) rfl rfl ?_
        refine g_iload_n 28 (gd rfl) rfl rfl ?_
        refine g_callv (X := _) (As := [.int y18_2]) (r := []) (b := A 32) (q := 32) 31 (gd rfl) rfl rfl rfl rfl rfl (ww_o rfl) (Nat.le_of_ble_eq_true rfl) (mc := 0) (ms := 0) (Nat.zero_le _) (Nat.zero_le _) (P := fun v u => _) ?_ (fun e u h => h) (fun v u h => h)
        intro po28 xx28 hp28 hx28
        refine g_enter2 (k := 97) (N := 300) (by first | exact dq1 hd rfl | exact dq0 hd rfl | exact dq2 hd rfl | exact dq3 hd rfl | omega) rfl (Nat.le_of_ble_eq_true rfl) ?_
        refine g_aload_n 1 (gd rfl) rfl rfl ?_
        refine g_getA (q2 := 34) 4 (gd rfl) rfl rfl rfl rfl ?_
        refine g_iload_n 5 (gd rfl) rfl rfl ?_
        refine g_iaload 6 (gd rfl) rfl (n := 160) rfl (in_ix i23 rfl) (fun z28x5 e28x5 => ?_)
        have i28x5 := inv_I hIc18 (n := 160) (t := 0) (-1) 31 rfl (in_ix i23 rfl) rfl e28x5
        refine g_iconst (-1) 7 (gd rfl) rfl rfl ?_
        refine g_cmp_eq 10 29 (gd rfl) rfl rfl (fun c28x7 => ?_) (fun c28x7 => ?_)
        · skip
          have i28x7 := r_eq1 (-1) (-1) c28x7 i28x5 (in_c (-1) rfl) rfl
          refine g_iconst 0 30 (gd rfl) rfl rfl ?_
          refine g_ireturn (gd rfl) rfl (nb01 (in_w 0 1 (in_c 0 rfl) rfl)) (hp28 _ _ ?_)
          show GG _ _ _ _ _ _ _ _ [.int (Int32.ofInt 0)] _ _ _
          refine g_if_eq 34 95 (gd rfl) rfl rfl (fun c31 => ?_) (fun c31 => ?_)
          · skip
            refine g_iinc 98 (gd rfl) rfl rfl (Nat.le_of_ble_eq_true rfl) (fun z95 e95 => ?_)
            have i95 := in_add 1 160 e95 i23 (in_c 1 rfl) rfl rfl
            refine g_goto 18 (gd rfl) rfl ?_
            exact gg_w (by first | exact Nat.le_add_right _ _ | exact gw2 | exact gw3 | exact gwe rfl | exact gwf rfl | exact gwg rfl | exact gwh rfl | omega) (gg_f (gf_cons rfl (gf_cons rfl (gf_cons rfl gf_nil))) (ih18 sc18 z95 hIc18 hFc18 (in_w 0 160 i95 rfl) (m_up mm18 (t_add e95 i23 (in_c 1 rfl) rfl) (in_w 1 1 (in_c 1 rfl) rfl))))
          · skip
            exact zn_ne c31 (in_c 0 rfl) rfl
        · skip
          have i28x7 := r_ne1 0 31 c28x7 i28x5 (in_c (-1) rfl) rfl
          refine g_aload_n 11 (gd rfl) rfl rfl ?_
          refine g_getA (q2 := 34) 14 (gd rfl) rfl rfl rfl rfl ?_
          refine g_iload_n 15 (gd rfl) rfl rfl ?_
          refine g_iaload 16 (gd rfl) rfl (n := 160) rfl (in_ix i23 rfl) (fun z28x15 e28x15 => ?_)
          have q28x15 : z28x5 = z28x15 := (e28x5).trans e28x15.symm
          subst q28x15
          refine g_aload_n 17 (gd rfl) rfl rfl ?_
          refine g_getA (q2 := 35) 20 (gd rfl) rfl rfl rfl rfl ?_
          refine g_iload_n 21 (gd rfl) rfl rfl ?_
          refine g_iaload 22 (gd rfl) rfl (n := 160) rfl (in_ix i23 rfl) (fun z28x21 e28x21 => ?_)
          have i28x21 := inv_I hIc18 (n := 160) (t := 0) 0 31 rfl (in_ix i23 rfl) rfl e28x21
          refine g_cmp_eq 25 29 (gd rfl) rfl rfl (fun c28x22 => ?_) (fun c28x22 => ?_)
          · skip
            refine g_iconst 0 30 (gd rfl) rfl rfl ?_
            refine g_ireturn (gd rfl) rfl (nb01 (in_w 0 1 (in_c 0 rfl) rfl)) (hp28 _ _ ?_)
            show GG _ _ _ _ _ _ _ _ [.int (Int32.ofInt 0)] _ _ _
            refine g_if_eq 34 95 (gd rfl) rfl rfl (fun c31 => ?_) (fun c31 => ?_)
            · skip
              refine g_iinc 98 (gd rfl) rfl rfl (Nat.le_of_ble_eq_true rfl) (fun z95 e95 => ?_)
              have i95 := in_add 1 160 e95 i23 (in_c 1 rfl) rfl rfl
              refine g_goto 18 (gd rfl) rfl ?_
              exact gg_w (by first | exact Nat.le_add_right _ _ | exact gw2 | exact gw3 | exact gwe rfl | exact gwf rfl | exact gwg rfl | exact gwh rfl | omega) (gg_f (gf_cons rfl (gf_cons rfl (gf_cons rfl gf_nil))) (ih18 sc18 z95 hIc18 hFc18 (in_w 0 160 i95 rfl) (m_up mm18 (t_add e95 i23 (in_c 1 rfl) rfl) (in_w 1 1 (in_c 1 rfl) rfl))))
            · skip
              exact zn_ne c31 (in_c 0 rfl) rfl
          · skip
            refine g_iconst 1 26 (gd rfl) rfl rfl ?_
            refine g_goto 30 (gd rfl) rfl ?_
            refine g_ireturn (gd rfl) rfl (nb01 (in_w 0 1 (in_c 1 rfl) rfl)) (hp28 _ _ ?_)
            show GG _ _ _ _ _ _ _ _ [.int (Int32.ofInt 1)] _ _ _
            refine g_if_eq 34 95 (gd rfl) rfl rfl (fun c31 => ?_) (fun c31 => ?_)
            · skip
              exact zn_eq c31 (in_c 1 rfl) rfl
            · skip
              refine g_aload_n 35 (gd rfl) rfl rfl ?_
              refine g_getA (q2 := 37) 38 (gd rfl) rfl rfl rfl rfl ?_
              refine g_iload_n 39 (gd rfl) rfl rfl ?_
              refine g_iaload 40 (gd rfl) rfl (n := 160) rfl (in_ix i23 rfl) (fun z39 e39 => ?_)
              have i39 := inv_I hIc18 (n := 160) (t := 0) 0 1000000 rfl (in_ix i23 rfl) rfl e39
              refine g_if_le 43 95 (gd rfl) rfl rfl (fun c40 => ?_) (fun c40 => ?_)
              · skip
                have i40 := z_le 0 0 c40 i39 rfl
                refine g_iinc 98 (gd rfl) rfl rfl (Nat.le_of_ble_eq_true rfl) (fun z95 e95 => ?_)
                have i95 := in_add 1 160 e95 i23 (in_c 1 rfl) rfl rfl
                refine g_goto 18 (gd rfl) rfl ?_
                exact gg_w (by first | exact Nat.le_add_right _ _ | exact gw2 | exact gw3 | exact gwe rfl | exact gwf rfl | exact gwg rfl | exact gwh rfl | omega) (gg_f (gf_cons rfl (gf_cons rfl (gf_cons rfl gf_nil))) (ih18 sc18 z95 hIc18 hFc18 (in_w 0 160 i95 rfl) (m_up mm18 (t_add e95 i23 (in_c 1 rfl) rfl) (in_w 1 1 (in_c 1 rfl) rfl))))
              · skip
                have i40 := z_gt 1 1000000 c40 i39 rfl
                refine g_aload_n 44 (gd rfl) rfl rfl ?_
                refine g_getA (q2 := 66) 47 (gd rfl) rfl rfl rfl rfl ?_
                refine g_aload_n 48 (gd rfl) rfl rfl ?_
                refine g_getA (q2 := 34) 51 (gd rfl) rfl rfl rfl rfl ?_
                refine g_iload_n 52 (gd rfl) rfl rfl ?_
                refine g_iaload 53 (gd rfl) rfl (n := 160) rfl (in_ix i23 rfl) (fun z52 e52 => ?_)
                have q52 : z28x5 = z52 := (e28x5).trans e52.symm
                subst q52
                refine g_bipush 32 55 (gd rfl) rfl rfl ?_
                refine g_imul 56 (gd rfl) rfl (fun z55 e55 => ?_)
                have i55 := in_mulc 32 0 992 (Or.inr e55) i28x7 rfl rfl
                refine g_aload_n 57 (gd rfl) rfl rfl ?_
                refine g_getA (q2 := 35) 60 (gd rfl) rfl rfl rfl rfl ?_
                refine g_iload_n 61 (gd rfl) rfl rfl ?_
                refine g_iaload 62 (gd rfl) rfl (n := 160) rfl (in_ix i23 rfl) (fun z61 e61 => ?_)
                have q61 : z28x21 = z61 := (e28x21).trans e61.symm
                subst q61
                refine g_iadd 63 (gd rfl) rfl (fun z62 e62 => ?_)
                have i62 := in_add 0 1023 e62 i55 i28x21 rfl rfl
                refine g_dup2 64 (gd rfl) rfl rfl rfl ?_
                refine g_iaload 65 (gd rfl) rfl (n := 1024) rfl (in_ix i62 rfl) (fun z64 e64 => ?_)
                refine g_aload_n 66 (gd rfl) rfl rfl ?_
                refine g_getA (q2 := 37) 69 (gd rfl) rfl rfl rfl rfl ?_
                refine g_iload_n 70 (gd rfl) rfl rfl ?_
                refine g_iaload 71 (gd rfl) rfl (n := 160) rfl (in_ix i23 rfl) (fun z70 e70 => ?_)
                have q70 : z39 = z70 := (e39).trans e70.symm
                subst q70
                refine g_iadd 72 (gd rfl) rfl (fun z71 e71 => ?_)
                refine g_iastore 73 (gd rfl) rfl (n := 1024) rfl (in_ix i62 rfl) ?_
                have hI72 := inv_sI (q := 66) (j := z62.toNatClampNeg) hIc18 rfl (in_w (-2147483648) 2147483647 (i_rng z71) rfl)
                refine g_aload_n 74 (gd rfl) rfl rfl ?_
                refine g_getA (q2 := 67) 77 (gd rfl) rfl rfl rfl rfl ?_
                refine g_aload_n 78 (gd rfl) rfl rfl ?_
                refine g_getA (q2 := 34) 81 (gd rfl) rfl rfl rfl rfl ?_
                refine g_iload_n 82 (gd rfl) rfl rfl ?_
                refine g_iaload 83 (gd rfl) rfl (n := 160) rfl (in_ix i23 rfl) (fun z82 e82 => ?_)
                have q82 : z28x5 = z82 := (sI_ne rfl (e28x5)).trans e82.symm
                subst q82
                refine g_dup2 84 (gd rfl) rfl rfl rfl ?_
                refine g_iaload 85 (gd rfl) rfl (n := 32) rfl (in_ix i28x7 rfl) (fun z84 e84 => ?_)
                refine g_iconst 1 86 (gd rfl) rfl rfl ?_
                refine g_aload_n 87 (gd rfl) rfl rfl ?_
                refine g_getA (q2 := 35) 90 (gd rfl) rfl rfl rfl rfl ?_
                refine g_iload_n 91 (gd rfl) rfl rfl ?_
                refine g_iaload 92 (gd rfl) rfl (n := 160) rfl (in_ix i23 rfl) (fun z91 e91 => ?_)
                have q91 : z28x21 = z91 := (sI_ne rfl (e28x21)).trans e91.symm
                subst q91
                refine g_ishl 93 (gd rfl) rfl (fun z92 e92 => ?_)
                refine g_ior 94 (gd rfl) rfl (fun z93 e93 => ?_)
                refine g_iastore 95 (gd rfl) rfl (n := 32) rfl (in_ix i28x7 rfl) ?_
                have hI94 := inv_sI (q := 67) (j := z28x5.toNatClampNeg) hI72 rfl (in_w (-2147483648) 2147483647 (i_rng z93) rfl)
                refine g_iinc 98 (gd rfl) rfl rfl (Nat.le_of_ble_eq_true rfl) (fun z95 e95 => ?_)
                have i95 := in_add 1 160 e95 i23 (in_c 1 rfl) rfl rfl
                refine g_goto 18 (gd rfl) rfl ?_
                exact gg_w (by first | exact Nat.le_add_right _ _ | exact gw2 | exact gw3 | exact gwe rfl | exact gwf rfl | exact gwg rfl | exact gwh rfl | omega) (gg_f (gf_cons rfl (gf_cons rfl (gf_cons rfl gf_nil))) (ih18 (sI (sI sc18 66 z62.toNatClampNeg z71) 67 z28x5.toNatClampNeg z93) z95 hI94 (fr_sI rfl (fr_sI rfl hFc18)) (in_w 0 160 i95 rfl) (m_up mm18 (t_add e95 i23 (in_c 1 rfl) rfl) (in_w 1 1 (in_c 1 rfl) rfl))))
  refine g_enter2 (k := 76) (N := 145801) (by first | exact dq1 hd rfl | exact dq0 hd rfl | exact dq2 hd rfl | exact dq3 hd rfl | omega) rfl (Nat.le_of_ble_eq_true rfl) ?_
  refine g_aload_n 1 (gd rfl) rfl rfl ?_
  refine g_getA (q2 := 66) 4 (gd rfl) rfl rfl rfl rfl ?_
  refine g_iconst 0 5 (gd rfl) rfl rfl ?_
  refine g_calls (As := [.ref (A 66), .int (Int32.ofInt 0)]) (r := []) 8 (gd rfl) rfl rfl rfl rfl rfl (Nat.le_of_ble_eq_true rfl) (Nat.zero_le _) (Nat.zero_le _) (k_fillI 66 (by first | exact dq1 hd rfl | exact dq0 hd rfl | exact dq2 hd rfl | exact dq3 hd rfl | omega) hI (in_c 0 rfl) (n := 1024) rfl rfl rfl rfl) (fun v u h => ?_)
  obtain ⟨s5, hI5, hF5, rfl, rfl, fl5⟩ := h
  show GG _ _ _ _ _ _ _ _ [] _ _ _
  refine g_aload_n 9 (gd rfl) rfl rfl ?_
  refine g_getA (q2 := 67) 12 (gd rfl) rfl rfl rfl rfl ?_
  refine g_iconst 0 13 (gd rfl) rfl rfl ?_
  refine g_calls (As := [.ref (A 67), .int (Int32.ofInt 0)]) (r := []) 16 (gd rfl) rfl rfl rfl rfl rfl (Nat.le_of_ble_eq_true rfl) (Nat.zero_le _) (Nat.zero_le _) (k_fillI 67 (by first | exact dq1 hd rfl | exact dq0 hd rfl | exact dq2 hd rfl | exact dq3 hd rfl | omega) hI5 (in_c 0 rfl) (n := 32) rfl rfl rfl rfl) (fun v u h => ?_)
  obtain ⟨s13, hI13, hF13, rfl, rfl, fl13⟩ := h
  show GG _ _ _ _ _ _ _ _ [] _ _ _
  refine g_iconst 0 17 (gd rfl) rfl rfl ?_
  refine g_istore_n 18 (gd rfl) rfl (Nat.le_of_ble_eq_true rfl) ?_
  exact gg_w (by first | exact Nat.le_of_ble_eq_true rfl | omega) (gg_f (gf_cons rfl (gf_cons rfl (gf_cons rfl gf_nil))) (ct18 161 s13 (Int32.ofInt 0) hI13 (fr_tr rfl (fr_tr rfl fr_rf hF5) hF13) (in_w 0 160 (in_c 0 rfl) rfl) (m_in 161 (in_w 0 160 (in_c 0 rfl) rfl) rfl)))

def fm_77_65 : FM := ([68], [], [(65, 4)], [])
/-- GraphHouse$Flows.reach -/
theorem k_77_65 {Z : AmZ} {A : Nat → Nat} {s : GS} {ex : va_W} {d : Nat} {X : AmX} {x1 : Int32} {x2 : Int32} (hd : 4 ≤ d) (hI : Inv s) (h1 : In x1 0 31) (h2 : In x2 0 31) : GC Z d 77 [.ref (A 65), .int x1, .int x2] (WW Z A s ++ ex) 0 0 (fun v u => ∃ t : GS, Inv t ∧ Fr fm_77_65 s t ∧ ∃ z : Int32, v = some (.int z) ∧ u = WW Z A t ++ ex ∧ In z 0 1 ∧ (RV (t.1 68) (t.2.2.1 65 4) x1) ∧ ((z).toInt ≠ 0 → bt (t.2.2.1 65 4) (x2).toNatClampNeg = true)) X := by
  intro post xp hP hX
  have ct10 : ∀ (k10 : Nat) (sc10 : GS) (y10_3 : Int32) (y10_4 : Int32) (y10_5 : Int32), Inv sc10 → Fr fm_77_65 s sc10 → (In y10_5 0 32) → (RV (sc10.1 68) y10_3 x1) → (∀ j, bt y10_4 j = true → bt y10_3 j = true) → 32 - (y10_5).toInt < (k10 : Int) → GG Z (d - 1) 77 post (gx xp) (1 + k10 * 16602069681804773691798) 10 (fun j => xlook j [(0, .ref (A 65)), (1, .int x1), (2, .int x2), (3, .int y10_3), (4, .int y10_4), (5, .int y10_5)]) [] (WW Z A sc10 ++ ex) 0 0 := by
    intro k10
    induction k10 with
    | zero => intro sc10 y10_3 y10_4 y10_5 hIc10 hFc10 j10_5 g10_0 g10_1 mm10; exact m_no mm10 j10_5 rfl
    | succ k10 ih10 =>
      intro sc10 y10_3 y10_4 y10_5 hIc10 hFc10 j10_5 g10_0 g10_1 mm10
      refine gg_w (M := 1 + k10 * 16602069681804773691798 + 16602069681804773691798) gws ?_
      have ct37 : ∀ (k37 : Nat) (sc37 : GS) (y37_3 : Int32) (y37_6 : Int32) (y37_7 : Int32), Inv sc37 → Fr fm_77_65 s sc37 → (In y10_5 0 31) → ((y10_4).toInt ≠ 0) → (RV (sc37.1 68) y37_3 x1) → (∀ j, bt y37_7 j = true → bt y37_3 j = true) → (∀ j, bt y37_6 j = true → bt y37_3 j = true) → ((y37_7.toBitVec.toNat : Nat) : Int) < (k37 : Int) → GG Z (d - 1) 77 post (gx xp) (1 + k10 * 16602069681804773691798 + 1 + k37 * 3865470569101) 37 (fun j => xlook j [(0, .ref (A 65)), (1, .int x1), (2, .int x2), (3, .int y37_3), (4, .int y10_4), (5, .int y10_5), (6, .int y37_6), (7, .int y37_7)]) [] (WW Z A sc37 ++ ex) 0 0 := by
        intro k37
        induction k37 with
        | zero => intro sc37 y37_3 y37_6 y37_7 hIc37 hFc37 j37_5 nz37_4 g37_0 g37_1 g37_2 mm37; exact absurd mm37 (Int.not_lt.mpr (Int.natCast_nonneg _))
        | succ k37 ih37 =>
          intro sc37 y37_3 y37_6 y37_7 hIc37 hFc37 j37_5 nz37_4 g37_0 g37_1 g37_2 mm37
          refine gg_w (M := 1 + k10 * 16602069681804773691798 + 1 + k37 * 3865470569101 + 3865470569101) gws ?_
          have ct66 : ∀ (k66 : Nat) (sc66 : GS) (y66_8 : Int32) (y66_9 : Int32) (y66_10 : Int32), Inv sc66 → Fr fm_77_65 s sc66 → (In y66_8 0 31) → ((y10_4).toInt ≠ 0) → ((y37_7).toInt ≠ 0) → (RV (sc66.1 68) y37_3 x1) → (∀ j, bt y66_9 j = true → bt y66_10 j = true ∨ sc66.1 68 j = y66_8) → (bt y37_3 (y66_8).toNatClampNeg = true) → (∀ j, bt y66_10 j = true → bt y66_9 j = true) → (∀ j, bt y66_9 j = true → bt y37_3 j = false) → (∀ j, bt y37_7 j = true → bt y37_3 j = true) → (∀ j, bt y37_6 j = true → bt y37_3 j = true) → ((y66_10.toBitVec.toNat : Nat) : Int) < (k66 : Int) → GG Z (d - 1) 77 post (gx xp) (1 + k10 * 16602069681804773691798 + 1 + k37 * 3865470569101 + 1 + k66 * 900) 66 (fun j => xlook j [(0, .ref (A 65)), (1, .int x1), (2, .int x2), (3, .int y37_3), (4, .int y10_4), (5, .int y10_5), (6, .int y37_6), (7, .int y37_7), (8, .int y66_8), (9, .int y66_9), (10, .int y66_10)]) [] (WW Z A sc66 ++ ex) 0 0 := by
            intro k66
            induction k66 with
            | zero => intro sc66 y66_8 y66_9 y66_10 hIc66 hFc66 j66_8 nz66_4 nz66_7 g66_0 g66_1 g66_2 g66_3 g66_4 g66_5 g66_6 mm66; exact absurd mm66 (Int.not_lt.mpr (Int.natCast_nonneg _))
            | succ k66 ih66 =>
              intro sc66 y66_8 y66_9 y66_10 hIc66 hFc66 j66_8 nz66_4 nz66_7 g66_0 g66_1 g66_2 g66_3 g66_4 g66_5 g66_6 mm66
              refine gg_w (M := 1 + k10 * 16602069681804773691798 + 1 + k37 * 3865470569101 + 1 + k66 * 900 + 900) gws ?_
              refine g_iload 68 (gd rfl) rfl rfl ?_
              refine g_if_eq 71 95 (gd rfl) rfl rfl (fun c68 => ?_) (fun c68 => ?_)
              · skip
                have i68 := z_eq 0 0 c68 (i_rng y66_10) rfl
                refine g_iload_n 96 (gd rfl) rfl rfl ?_
                refine g_iload 98 (gd rfl) rfl rfl ?_
                refine g_ior 99 (gd rfl) rfl (fun z98 e98 => ?_)
                refine g_istore_n 100 (gd rfl) rfl (Nat.le_of_ble_eq_true rfl) ?_
                refine g_iload 102 (gd rfl) rfl rfl ?_
                refine g_iload 104 (gd rfl) rfl rfl ?_
                refine g_ior 105 (gd rfl) rfl (fun z104 e104 => ?_)
                refine g_istore 107 (gd rfl) rfl (Nat.le_of_ble_eq_true rfl) ?_
                refine g_iload 109 (gd rfl) rfl rfl ?_
                refine g_iload 111 (gd rfl) rfl rfl ?_
                refine g_iconst 1 112 (gd rfl) rfl rfl ?_
                refine g_isub 113 (gd rfl) rfl (fun z112 e112 => ?_)
                refine g_iand 114 (gd rfl) rfl (fun z113 e113 => ?_)
                refine g_istore 116 (gd rfl) rfl (Nat.le_of_ble_eq_true rfl) ?_
                refine g_goto 37 (gd rfl) rfl ?_
                have n37 : RV (sc66.1 68) z98 x1 := by first | exact g10_0 | exact rv_or g66_0 (fun j hj => (g66_1 j hj).resolve_left (by have hz : y66_10 = Int32.ofInt 0 := Int32.toInt_inj.mp (show y66_10.toInt = (Int32.ofInt 0).toInt from c68); rw [hz]; intro w; have hw : bt (Int32.ofInt 0) j = false := bt_z; rw [hw] at w; cases w)) j66_8 g66_2 e98
                have n37a : ∀ j, bt z113 j = true → bt z98 j = true := by first | exact g10_1 | exact fun j h => bt_orl e98 (g66_5 j (bt_and1 e113 h))
                have n37b : ∀ j, bt z104 j = true → bt z98 j = true := by first | exact (fun j h => absurd h (by have hw : bt (Int32.ofInt 0) j = false := bt_z; rw [hw]; decide)) | exact fun j h => by (rw [bt_or e104, Bool.or_eq_true] at h; rcases h with h | h; exact bt_orl e98 (g66_6 j h); exact bt_orr e98 h)
                exact gg_w (by first | exact Nat.le_add_right _ _ | exact gw2 | exact gw3 | exact gwe rfl | exact gwf rfl | exact gwg rfl | exact gwh rfl | omega) (gg_f (gf_cons rfl (gf_cons rfl (gf_cons rfl (gf_cons rfl (gf_cons rfl (gf_cons rfl (gf_cons rfl (gf_cons rfl gf_nil)))))))) (ih37 sc66 z98 z104 z113 hIc66 hFc66 (in_w 0 31 j37_5 rfl) nz66_4 n37 n37a n37b (mb e113 e112 nz66_7 mm37)))
              · skip
                refine g_aload_n 72 (gd rfl) rfl rfl ?_
                refine g_getA (q2 := 68) 75 (gd rfl) rfl rfl rfl rfl ?_
                refine g_iload 77 (gd rfl) rfl rfl ?_
                refine g_calls (As := [.int y66_10]) (r := [.ref (A 68)]) 80 (gd rfl) rfl rfl rfl rfl rfl (Nat.le_of_ble_eq_true rfl) (Nat.zero_le _) (Nat.zero_le _) (k_264n (by first | exact dq1 hd rfl | exact dq0 hd rfl | exact dq2 hd rfl | exact dq3 hd rfl | omega) c68) (fun v u h => ?_)
                obtain ⟨z77, rfl, rfl, i77, hb77, hl77⟩ := h
                show GG _ _ _ _ _ _ _ _ [.int z77, .ref (A 68)] _ _ _
                refine g_iload 82 (gd rfl) rfl rfl ?_
                refine g_iastore 83 (gd rfl) rfl (n := 32) rfl (in_ix i77 rfl) ?_
                have hI82 := inv_sI (q := 68) (j := z77.toNatClampNeg) hIc66 rfl (in_w (-1) 319 j66_8 rfl)
                refine g_iload 85 (gd rfl) rfl rfl ?_
                refine g_iload 87 (gd rfl) rfl rfl ?_
                refine g_iconst 1 88 (gd rfl) rfl rfl ?_
                refine g_isub 89 (gd rfl) rfl (fun z88 e88 => ?_)
                refine g_iand 90 (gd rfl) rfl (fun z89 e89 => ?_)
                refine g_istore 92 (gd rfl) rfl (Nat.le_of_ble_eq_true rfl) ?_
                refine g_goto 66 (gd rfl) rfl ?_
                have n66 : RV ((sI sc66 68 z77.toNatClampNeg y66_8).1 68) y37_3 x1 := by first | exact g37_0 | (rw [sI_q]; exact rv_upd g66_0 (g66_4 _ (g66_3 _ hb77)))
                have n66a : ∀ j, bt y66_9 j = true → bt z89 j = true ∨ (sI sc66 68 z77.toNatClampNeg y66_8).1 68 j = y66_8 := by first | exact fun j h => Or.inl h | (intro j hj; rw [sI_q, lowB_clr hl77 e88 e89]; unfold upd; by_cases c : j = z77.toNatClampNeg; exact Or.inr (if_pos c); (rw [if_neg c]; rcases g66_1 j hj with h | h; exact Or.inl (by simp [h, c]); exact Or.inr h))
                have n66b : bt y37_3 (y66_8).toNatClampNeg = true := by first | exact g66_2 | exact g37_1 _ hb44
                have n66c : ∀ j, bt z89 j = true → bt y66_9 j = true := by first | exact fun j h => h | exact fun j h => g66_3 j (bt_and1 e89 h)
                have n66d : ∀ j, bt y66_9 j = true → bt y37_3 j = false := by first | exact g66_4 | exact fun j h => bt_andn e58 e59 h
                have n66e : ∀ j, bt y37_7 j = true → bt y37_3 j = true := by first | exact g66_5 | exact g37_1
                have n66f : ∀ j, bt y37_6 j = true → bt y37_3 j = true := by first | exact g66_6 | exact g37_2
                exact gg_w (by first | exact Nat.le_add_right _ _ | exact gw2 | exact gw3 | exact gwe rfl | exact gwf rfl | exact gwg rfl | exact gwh rfl | omega) (gg_f (gf_cons rfl (gf_cons rfl (gf_cons rfl (gf_cons rfl (gf_cons rfl (gf_cons rfl (gf_cons rfl (gf_cons rfl (gf_cons rfl (gf_cons rfl (gf_cons rfl gf_nil))))))))))) (ih66 (sI sc66 68 z77.toNatClampNeg y66_8) y66_8 y66_9 z89 hI82 (fr_sI rfl hFc66) (in_w 0 31 j66_8 rfl) nz66_4 nz66_7 n66 n66a n66b n66c n66d n66e n66f (mb e89 e88 c68 mm66)))
          refine g_iload 39 (gd rfl) rfl rfl ?_
          refine g_if_eq 42 119 (gd rfl) rfl rfl (fun c39 => ?_) (fun c39 => ?_)
          · skip
            have i39 := z_eq 0 0 c39 (i_rng y37_7) rfl
            refine g_iload 121 (gd rfl) rfl rfl ?_
            refine g_istore 123 (gd rfl) rfl (Nat.le_of_ble_eq_true rfl) ?_
            refine g_iinc 126 (gd rfl) rfl rfl (Nat.le_of_ble_eq_true rfl) (fun z123 e123 => ?_)
            have i123 := in_add 1 32 e123 j37_5 (in_c 1 rfl) rfl rfl
            refine g_goto 10 (gd rfl) rfl ?_
            have n10 : RV (sc37.1 68) y37_3 x1 := by first | exact g37_0 | exact rv_1 e2 h1
            have n10a : ∀ j, bt y37_6 j = true → bt y37_3 j = true := by first | exact fun j h => h | exact g37_2
            exact gg_w (by first | exact Nat.le_add_right _ _ | exact gw2 | exact gw3 | exact gwe rfl | exact gwf rfl | exact gwg rfl | exact gwh rfl | omega) (gg_f (gf_cons rfl (gf_cons rfl (gf_cons rfl (gf_cons rfl (gf_cons rfl (gf_cons rfl gf_nil)))))) (ih10 sc37 y37_3 y37_6 z123 hIc37 hFc37 (in_w 0 32 i123 rfl) n10 n10a (m_up mm10 (t_add e123 j37_5 (in_c 1 rfl) rfl) (in_w 1 1 (in_c 1 rfl) rfl))))
          · skip
            refine g_iload 44 (gd rfl) rfl rfl ?_
            refine g_calls (As := [.int y37_7]) (r := []) 47 (gd rfl) rfl rfl rfl rfl rfl (Nat.le_of_ble_eq_true rfl) (Nat.zero_le _) (Nat.zero_le _) (k_264n (by first | exact dq1 hd rfl | exact dq0 hd rfl | exact dq2 hd rfl | exact dq3 hd rfl | omega) c39) (fun v u h => ?_)
            obtain ⟨z44, rfl, rfl, i44, hb44, hl44⟩ := h
            show GG _ _ _ _ _ _ _ _ [.int z44] _ _ _
            refine g_istore 49 (gd rfl) rfl (Nat.le_of_ble_eq_true rfl) ?_
            refine g_aload_n 50 (gd rfl) rfl rfl ?_
            refine g_getA (q2 := 67) 53 (gd rfl) rfl rfl rfl rfl ?_
            refine g_iload 55 (gd rfl) rfl rfl ?_
            refine g_iaload 56 (gd rfl) rfl (n := 32) rfl (in_ix i44 rfl) (fun z55 e55 => ?_)
            refine g_iload_n 57 (gd rfl) rfl rfl ?_
            refine g_iconst (-1) 58 (gd rfl) rfl rfl ?_
            refine g_ixor 59 (gd rfl) rfl (fun z58 e58 => ?_)
            refine g_iand 60 (gd rfl) rfl (fun z59 e59 => ?_)
            refine g_istore 62 (gd rfl) rfl (Nat.le_of_ble_eq_true rfl) ?_
            refine g_iload 64 (gd rfl) rfl rfl ?_
            refine g_istore 66 (gd rfl) rfl (Nat.le_of_ble_eq_true rfl) ?_
            have n66 : RV (sc37.1 68) y37_3 x1 := by first | exact g37_0 | (rw [sI_q]; exact rv_upd g66_0 (g66_4 _ (g66_3 _ hb77)))
            have n66a : ∀ j, bt z59 j = true → bt z59 j = true ∨ sc37.1 68 j = z44 := by first | exact fun j h => Or.inl h | (intro j hj; rw [sI_q, lowB_clr hl77 e88 e89]; unfold upd; by_cases c : j = z77.toNatClampNeg; exact Or.inr (if_pos c); (rw [if_neg c]; rcases g66_1 j hj with h | h; exact Or.inl (by simp [h, c]); exact Or.inr h))
            have n66b : bt y37_3 (z44).toNatClampNeg = true := by first | exact g66_2 | exact g37_1 _ hb44
            have n66c : ∀ j, bt z59 j = true → bt z59 j = true := by first | exact fun j h => h | exact fun j h => g66_3 j (bt_and1 e89 h)
            have n66d : ∀ j, bt z59 j = true → bt y37_3 j = false := by first | exact g66_4 | exact fun j h => bt_andn e58 e59 h
            have n66e : ∀ j, bt y37_7 j = true → bt y37_3 j = true := by first | exact g66_5 | exact g37_1
            have n66f : ∀ j, bt y37_6 j = true → bt y37_3 j = true := by first | exact g66_6 | exact g37_2
            exact gg_w (by first | exact Nat.le_add_right _ _ | exact gw2 | exact gw3 | exact gwe rfl | exact gwf rfl | exact gwg rfl | exact gwh rfl | omega) (gg_f (gf_cons rfl (gf_cons rfl (gf_cons rfl (gf_cons rfl (gf_cons rfl (gf_cons rfl (gf_cons rfl (gf_cons rfl (gf_cons rfl (gf_cons rfl (gf_cons rfl gf_nil))))))))))) (ct66 4294967296 sc37 z44 z59 z59 hIc37 hFc37 (in_w 0 31 i44 rfl) nz37_4 c39 n66 n66a n66b n66c n66d n66e n66f (mb_in _)))
      refine g_iload 12 (gd rfl) rfl rfl ?_
      refine g_bipush 32 14 (gd rfl) rfl rfl ?_
      refine g_cmp_ge 17 129 (gd rfl) rfl rfl (fun c14 => ?_) (fun c14 => ?_)
      · skip
        have i14 := r_le2 32 32 c14 (in_c 32 rfl) j10_5 rfl
        refine g_aload_n 130 (gd rfl) rfl rfl ?_
        refine g_iload_n 131 (gd rfl) rfl rfl ?_
        refine g_putI 134 (gd rfl) rfl rfl rfl rfl ?_
        have hI131 := inv_sF (q := 65) (j := 4) hIc10 rfl (in_w (-2147483648) 2147483647 (i_rng y10_3) rfl)
        refine g_iload_n 135 (gd rfl) rfl rfl ?_
        refine g_iload_n 136 (gd rfl) rfl rfl ?_
        refine g_ishr 137 (gd rfl) rfl (fun z136 e136 => ?_)
        refine g_iconst 1 138 (gd rfl) rfl rfl ?_
        refine g_iand 139 (gd rfl) rfl (fun z138 e138 => ?_)
        have i138 := in_and2 e138 (in_c 1 rfl) rfl
        refine g_if_eq 142 146 (gd rfl) rfl rfl (fun c139 => ?_) (fun c139 => ?_)
        · skip
          have i139 := z_eq 0 0 c139 i138 rfl
          refine g_iconst 0 147 (gd rfl) rfl rfl ?_
          have n147 : RV ((sF sc10 65 4 y10_3).1 68) ((sF sc10 65 4 y10_3).2.2.1 65 4) x1 := by rw [← (show y10_3 = (sF sc10 65 4 y10_3).2.2.1 65 4 from sF_get)]; exact g10_0
          have n147a : ((Int32.ofInt 0)).toInt ≠ 0 → bt ((sF sc10 65 4 y10_3).2.2.1 65 4) (x2).toNatClampNeg = true := by first | (intro h; exact absurd rfl h) | (intro _; rw [← (show y10_3 = (sF sc10 65 4 y10_3).2.2.1 65 4 from sF_get)]; have hq := bt_ask e136 e138 h2; cases hb : bt y10_3 (x2).toNatClampNeg with | true => rfl | false => (rw [hb] at hq; exact absurd hq c139))
          exact g_ireturn (gd rfl) rfl (nb01 (in_w 0 1 (in_c 0 rfl) rfl)) (hP _ _ ⟨(sF sc10 65 4 y10_3), hI131, (fr_sF rfl hFc10), (Int32.ofInt 0), rfl, rfl, in_w 0 1 (in_c 0 rfl) rfl, n147, n147a⟩)
        · skip
          have i139 := z_ne 1 1 c139 i138 rfl
          refine g_iconst 1 143 (gd rfl) rfl rfl ?_
          refine g_goto 147 (gd rfl) rfl ?_
          have n147 : RV ((sF sc10 65 4 y10_3).1 68) ((sF sc10 65 4 y10_3).2.2.1 65 4) x1 := by rw [← (show y10_3 = (sF sc10 65 4 y10_3).2.2.1 65 4 from sF_get)]; exact g10_0
          have n147a : ((Int32.ofInt 1)).toInt ≠ 0 → bt ((sF sc10 65 4 y10_3).2.2.1 65 4) (x2).toNatClampNeg = true := by first | (intro h; exact absurd rfl h) | (intro _; rw [← (show y10_3 = (sF sc10 65 4 y10_3).2.2.1 65 4 from sF_get)]; have hq := bt_ask e136 e138 h2; cases hb : bt y10_3 (x2).toNatClampNeg with | true => rfl | false => (rw [hb] at hq; exact absurd hq c139))
          exact g_ireturn (gd rfl) rfl (nb01 (in_w 0 1 (in_c 1 rfl) rfl)) (hP _ _ ⟨(sF sc10 65 4 y10_3), hI131, (fr_sF rfl hFc10), (Int32.ofInt 1), rfl, rfl, in_w 0 1 (in_c 1 rfl) rfl, n147, n147a⟩)
      · skip
        have i14 := r_lt1 0 31 c14 j10_5 (in_c 32 rfl) rfl
        refine g_iload 19 (gd rfl) rfl rfl ?_
        refine g_if_eq 22 129 (gd rfl) rfl rfl (fun c19 => ?_) (fun c19 => ?_)
        · skip
          have i19 := z_eq 0 0 c19 (i_rng y10_4) rfl
          refine g_aload_n 130 (gd rfl) rfl rfl ?_
          refine g_iload_n 131 (gd rfl) rfl rfl ?_
          refine g_putI 134 (gd rfl) rfl rfl rfl rfl ?_
          have hI131 := inv_sF (q := 65) (j := 4) hIc10 rfl (in_w (-2147483648) 2147483647 (i_rng y10_3) rfl)
          refine g_iload_n 135 (gd rfl) rfl rfl ?_
          refine g_iload_n 136 (gd rfl) rfl rfl ?_
          refine g_ishr 137 (gd rfl) rfl (fun z136 e136 => ?_)
          refine g_iconst 1 138 (gd rfl) rfl rfl ?_
          refine g_iand 139 (gd rfl) rfl (fun z138 e138 => ?_)
          have i138 := in_and2 e138 (in_c 1 rfl) rfl
          refine g_if_eq 142 146 (gd rfl) rfl rfl (fun c139 => ?_) (fun c139 => ?_)
          · skip
            have i139 := z_eq 0 0 c139 i138 rfl
            refine g_iconst 0 147 (gd rfl) rfl rfl ?_
            have n147 : RV ((sF sc10 65 4 y10_3).1 68) ((sF sc10 65 4 y10_3).2.2.1 65 4) x1 := by rw [← (show y10_3 = (sF sc10 65 4 y10_3).2.2.1 65 4 from sF_get)]; exact g10_0
            have n147a : ((Int32.ofInt 0)).toInt ≠ 0 → bt ((sF sc10 65 4 y10_3).2.2.1 65 4) (x2).toNatClampNeg = true := by first | (intro h; exact absurd rfl h) | (intro _; rw [← (show y10_3 = (sF sc10 65 4 y10_3).2.2.1 65 4 from sF_get)]; have hq := bt_ask e136 e138 h2; cases hb : bt y10_3 (x2).toNatClampNeg with | true => rfl | false => (rw [hb] at hq; exact absurd hq c139))
            exact g_ireturn (gd rfl) rfl (nb01 (in_w 0 1 (in_c 0 rfl) rfl)) (hP _ _ ⟨(sF sc10 65 4 y10_3), hI131, (fr_sF rfl hFc10), (Int32.ofInt 0), rfl, rfl, in_w 0 1 (in_c 0 rfl) rfl, n147, n147a⟩)
          · skip
            have i139 := z_ne 1 1 c139 i138 rfl
            refine g_iconst 1 143 (gd rfl) rfl rfl ?_
            refine g_goto 147 (gd rfl) rfl ?_
            have n147 : RV ((sF sc10 65 4 y10_3).1 68) ((sF sc10 65 4 y10_3).2.2.1 65 4) x1 := by rw [← (show y10_3 = (sF sc10 65 4 y10_3).2.2.1 65 4 from sF_get)]; exact g10_0
            have n147a : ((Int32.ofInt 1)).toInt ≠ 0 → bt ((sF sc10 65 4 y10_3).2.2.1 65 4) (x2).toNatClampNeg = true := by first | (intro h; exact absurd rfl h) | (intro _; rw [← (show y10_3 = (sF sc10 65 4 y10_3).2.2.1 65 4 from sF_get)]; have hq := bt_ask e136 e138 h2; cases hb : bt y10_3 (x2).toNatClampNeg with | true => rfl | false => (rw [hb] at hq; exact absurd hq c139))
            exact g_ireturn (gd rfl) rfl (nb01 (in_w 0 1 (in_c 1 rfl) rfl)) (hP _ _ ⟨(sF sc10 65 4 y10_3), hI131, (fr_sF rfl hFc10), (Int32.ofInt 1), rfl, rfl, in_w 0 1 (in_c 1 rfl) rfl, n147, n147a⟩)
        · skip
          refine g_iload_n 23 (gd rfl) rfl rfl ?_
          refine g_iload_n 24 (gd rfl) rfl rfl ?_
          refine g_ishr 25 (gd rfl) rfl (fun z24 e24 => ?_)
          refine g_iconst 1 26 (gd rfl) rfl rfl ?_
          refine g_iand 27 (gd rfl) rfl (fun z26 e26 => ?_)
          have i26 := in_and2 e26 (in_c 1 rfl) rfl
          refine g_if_ne 30 129 (gd rfl) rfl rfl (fun c27 => ?_) (fun c27 => ?_)
          · skip
            have i27 := z_ne 1 1 c27 i26 rfl
            refine g_aload_n 130 (gd rfl) rfl rfl ?_
            refine g_iload_n 131 (gd rfl) rfl rfl ?_
            refine g_putI 134 (gd rfl) rfl rfl rfl rfl ?_
            have hI131 := inv_sF (q := 65) (j := 4) hIc10 rfl (in_w (-2147483648) 2147483647 (i_rng y10_3) rfl)
            refine g_iload_n 135 (gd rfl) rfl rfl ?_
            refine g_iload_n 136 (gd rfl) rfl rfl ?_
            refine g_ishr 137 (gd rfl) rfl (fun z136 e136 => ?_)
            refine g_iconst 1 138 (gd rfl) rfl rfl ?_
            refine g_iand 139 (gd rfl) rfl (fun z138 e138 => ?_)
            have i138 := in_and2 e138 (in_c 1 rfl) rfl
            refine g_if_eq 142 146 (gd rfl) rfl rfl (fun c139 => ?_) (fun c139 => ?_)
            · skip
              have i139 := z_eq 0 0 c139 i138 rfl
              refine g_iconst 0 147 (gd rfl) rfl rfl ?_
              have n147 : RV ((sF sc10 65 4 y10_3).1 68) ((sF sc10 65 4 y10_3).2.2.1 65 4) x1 := by rw [← (show y10_3 = (sF sc10 65 4 y10_3).2.2.1 65 4 from sF_get)]; exact g10_0
              have n147a : ((Int32.ofInt 0)).toInt ≠ 0 → bt ((sF sc10 65 4 y10_3).2.2.1 65 4) (x2).toNatClampNeg = true := by first | (intro h; exact absurd rfl h) | (intro _; rw [← (show y10_3 = (sF sc10 65 4 y10_3).2.2.1 65 4 from sF_get)]; have hq := bt_ask e136 e138 h2; cases hb : bt y10_3 (x2).toNatClampNeg with | true => rfl | false => (rw [hb] at hq; exact absurd hq c139))
              exact g_ireturn (gd rfl) rfl (nb01 (in_w 0 1 (in_c 0 rfl) rfl)) (hP _ _ ⟨(sF sc10 65 4 y10_3), hI131, (fr_sF rfl hFc10), (Int32.ofInt 0), rfl, rfl, in_w 0 1 (in_c 0 rfl) rfl, n147, n147a⟩)
            · skip
              have i139 := z_ne 1 1 c139 i138 rfl
              refine g_iconst 1 143 (gd rfl) rfl rfl ?_
              refine g_goto 147 (gd rfl) rfl ?_
              have n147 : RV ((sF sc10 65 4 y10_3).1 68) ((sF sc10 65 4 y10_3).2.2.1 65 4) x1 := by rw [← (show y10_3 = (sF sc10 65 4 y10_3).2.2.1 65 4 from sF_get)]; exact g10_0
              have n147a : ((Int32.ofInt 1)).toInt ≠ 0 → bt ((sF sc10 65 4 y10_3).2.2.1 65 4) (x2).toNatClampNeg = true := by first | (intro h; exact absurd rfl h) | (intro _; rw [← (show y10_3 = (sF sc10 65 4 y10_3).2.2.1 65 4 from sF_get)]; have hq := bt_ask e136 e138 h2; cases hb : bt y10_3 (x2).toNatClampNeg with | true => rfl | false => (rw [hb] at hq; exact absurd hq c139))
              exact g_ireturn (gd rfl) rfl (nb01 (in_w 0 1 (in_c 1 rfl) rfl)) (hP _ _ ⟨(sF sc10 65 4 y10_3), hI131, (fr_sF rfl hFc10), (Int32.ofInt 1), rfl, rfl, in_w 0 1 (in_c 1 rfl) rfl, n147, n147a⟩)
          · skip
            have i27 := z_eq 0 0 c27 i26 rfl
            refine g_iconst 0 31 (gd rfl) rfl rfl ?_
            refine g_istore 33 (gd rfl) rfl (Nat.le_of_ble_eq_true rfl) ?_
            refine g_iload 35 (gd rfl) rfl rfl ?_
            refine g_istore 37 (gd rfl) rfl (Nat.le_of_ble_eq_true rfl) ?_
            have n37 : RV (sc10.1 68) y10_3 x1 := by first | exact g10_0 | exact rv_or g66_0 (fun j hj => (g66_1 j hj).resolve_left (by have hz : y66_10 = Int32.ofInt 0 := Int32.toInt_inj.mp (show y66_10.toInt = (Int32.ofInt 0).toInt from c68); rw [hz]; intro w; have hw : bt (Int32.ofInt 0) j = false := bt_z; rw [hw] at w; cases w)) ‹_› g66_2 e98
            have n37a : ∀ j, bt y10_4 j = true → bt y10_3 j = true := by first | exact g10_1 | exact fun j h => bt_orl e98 (g66_5 j (bt_and1 e113 h))
            have n37b : ∀ j, bt (Int32.ofInt 0) j = true → bt y10_3 j = true := by first | exact (fun j h => absurd h (by have hw : bt (Int32.ofInt 0) j = false := bt_z; rw [hw]; decide)) | exact fun j h => by (rw [bt_or e104, Bool.or_eq_true] at h; rcases h with h | h; exact bt_orl e98 (g66_6 j h); exact bt_orr e98 h)
            exact gg_w (by first | exact Nat.le_add_right _ _ | exact gw2 | exact gw3 | exact gwe rfl | exact gwf rfl | exact gwg rfl | exact gwh rfl | omega) (gg_f (gf_cons rfl (gf_cons rfl (gf_cons rfl (gf_cons rfl (gf_cons rfl (gf_cons rfl (gf_cons rfl (gf_cons rfl gf_nil)))))))) (ct37 4294967296 sc10 y10_3 (Int32.ofInt 0) y10_4 hIc10 hFc10 (in_w 0 31 i14 rfl) c19 n37 n37a n37b (mb_in _)))
  refine g_enter2 (k := 77) (N := 547868299499557531830235) (by first | exact dq1 hd rfl | exact dq0 hd rfl | exact dq2 hd rfl | exact dq3 hd rfl | omega) rfl (Nat.le_of_ble_eq_true rfl) ?_
  refine g_iconst 1 1 (gd rfl) rfl rfl ?_
  refine g_iload_n 2 (gd rfl) rfl rfl ?_
  refine g_ishl 3 (gd rfl) rfl (fun z2 e2 => ?_)
  refine g_istore_n 4 (gd rfl) rfl (Nat.le_of_ble_eq_true rfl) ?_
  refine g_iload_n 5 (gd rfl) rfl rfl ?_
  refine g_istore 7 (gd rfl) rfl (Nat.le_of_ble_eq_true rfl) ?_
  refine g_iconst 0 8 (gd rfl) rfl rfl ?_
  refine g_istore 10 (gd rfl) rfl (Nat.le_of_ble_eq_true rfl) ?_
  have n10 : RV (s.1 68) z2 x1 := by first | exact g37_0 | exact rv_1 e2 h1
  have n10a : ∀ j, bt z2 j = true → bt z2 j = true := by first | exact fun j h => h | exact g37_2
  exact gg_w (by first | exact Nat.le_of_ble_eq_true rfl | omega) (gg_f (gf_cons rfl (gf_cons rfl (gf_cons rfl (gf_cons rfl (gf_cons rfl (gf_cons rfl gf_nil)))))) (ct10 33 s z2 z2 (Int32.ofInt 0) hI fr_rf (in_w 0 32 (in_c 0 rfl) rfl) n10 n10a (m_in 33 (in_w 0 32 (in_c 0 rfl) rfl) rfl)))
end
section
/-! methods, by vc.py -/
def fm_78_65 : FM := ([66, 67], [], [], [])
/-- GraphHouse$Flows.push -/
theorem k_78_65 {Z : AmZ} {A : Nat → Nat} {s : GS} {ex : va_W} {d : Nat} {X : AmX} {x1 : Int32} {x2 : Int32} {u_65_4 : Int32} (hd : 3 ≤ d) (hI : Inv s) (h1 : In x1 0 31) (h2 : In x2 0 31) (e_65_4 : u_65_4 = s.2.2.1 65 4) (q_0 : RV (s.1 68) (s.2.2.1 65 4) x1) (q_1 : bt (s.2.2.1 65 4) (x2).toNatClampNeg = true) : GC Z d 78 [.ref (A 65), .int x1, .int x2] (WW Z A s ++ ex) 0 0 (fun v u => ∃ t : GS, Inv t ∧ Fr fm_78_65 s t ∧ ∃ z : Int32, v = some (.int z) ∧ u = WW Z A t ++ ex ∧ In z (-2147483648) 160000000) X := by
  intro post xp hP hX
  have ct66 : ∀ (k66 : Nat) (sc66 : GS) (y66_3 : Int32) (y66_4 : Int32) (y66_5 : Int32), Inv sc66 → Fr fm_78_65 s sc66 → (In y66_3 (-2147483648) 160000000) → (In y66_4 0 31) → (In y66_5 0 32) → (bt u_65_4 (y66_4).toNatClampNeg = true) → 32 - (y66_5).toInt < (k66 : Int) → GG Z (d - 1) 78 post (gx xp) (1 + k66 * 900) 66 (fun j => xlook j [(0, .ref (A 65)), (1, .int x1), (2, .int x2), (3, .int y66_3), (4, .int y66_4), (5, .int y66_5)]) [] (WW Z A sc66 ++ ex) 0 0 := by
    intro k66
    induction k66 with
    | zero => intro sc66 y66_3 y66_4 y66_5 hIc66 hFc66 j66_3 j66_4 j66_5 g66_0 mm66; exact m_no mm66 j66_5 rfl
    | succ k66 ih66 =>
      intro sc66 y66_3 y66_4 y66_5 hIc66 hFc66 j66_3 j66_4 j66_5 g66_0 mm66
      refine gg_w (M := 1 + k66 * 900 + 900) gws ?_
      refine g_iload 68 (gd rfl) rfl rfl ?_
      refine g_bipush 32 70 (gd rfl) rfl rfl ?_
      refine g_cmp_ge 73 178 (gd rfl) rfl rfl (fun c70 => ?_) (fun c70 => ?_)
      · skip
        have i70 := r_le2 32 32 c70 (in_c 32 rfl) j66_5 rfl
        refine g_iload_n 179 (gd rfl) rfl rfl ?_
        exact g_ireturn (gd rfl) rfl rfl (hP _ _ ⟨sc66, hIc66, hFc66, y66_3, rfl, rfl, in_w (-2147483648) 160000000 j66_3 rfl⟩)
      · skip
        have i70 := r_lt1 0 31 c70 j66_5 (in_c 32 rfl) rfl
        refine g_iload 75 (gd rfl) rfl rfl ?_
        refine g_iload_n 76 (gd rfl) rfl rfl ?_
        refine g_cmp_eq 79 178 (gd rfl) rfl rfl (fun c76 => ?_) (fun c76 => ?_)
        · skip
          refine g_iload_n 179 (gd rfl) rfl rfl ?_
          exact g_ireturn (gd rfl) rfl rfl (hP _ _ ⟨sc66, hIc66, hFc66, y66_3, rfl, rfl, in_w (-2147483648) 160000000 j66_3 rfl⟩)
        · skip
          refine g_aload_n 80 (gd rfl) rfl rfl ?_
          refine g_getA (q2 := 68) 83 (gd rfl) rfl rfl rfl rfl ?_
          refine g_iload 85 (gd rfl) rfl rfl ?_
          refine g_iaload 86 (gd rfl) rfl (n := 32) rfl (in_ix j66_4 rfl) (fun z85 e85 => ?_)
          have i85 := inv_I hIc66 (n := 32) (t := 0) (-1) 319 rfl (in_ix j66_4 rfl) rfl e85
          have hr86 : In z85 0 31 ∧ bt (s.2.2.1 65 4) (z85).toNatClampNeg = true := by have hf := (hFc66 : Fr fm_78_65 s sc66).1 68 rfl; have hr := q_0 (y66_4).toNatClampNeg (by rw [← e_65_4]; exact g66_0) (by intro w; apply c76; have hq := j66_4; unfold In at hq; have hw : (((y66_4).toInt.toNat : Nat) : Int) = (x1).toInt := w; omega); rw [← hf, ← e85] at hr; exact hr
          have i86 : In z85 0 31 := by exact hr86.1
          refine g_istore 88 (gd rfl) rfl (Nat.le_of_ble_eq_true rfl) ?_
          refine g_aload_n 89 (gd rfl) rfl rfl ?_
          refine g_getA (q2 := 66) 92 (gd rfl) rfl rfl rfl rfl ?_
          refine g_iload 94 (gd rfl) rfl rfl ?_
          refine g_bipush 32 96 (gd rfl) rfl rfl ?_
          refine g_imul 97 (gd rfl) rfl (fun z96 e96 => ?_)
          have i96 := in_mulc 32 0 992 (Or.inr e96) i86 rfl rfl
          refine g_iload 99 (gd rfl) rfl rfl ?_
          refine g_iadd 100 (gd rfl) rfl (fun z99 e99 => ?_)
          have i99 := in_add 0 1023 e99 i96 j66_4 rfl rfl
          refine g_dup2 101 (gd rfl) rfl rfl rfl ?_
          refine g_iaload 102 (gd rfl) rfl (n := 1024) rfl (in_ix i99 rfl) (fun z101 e101 => ?_)
          refine g_iload_n 103 (gd rfl) rfl rfl ?_
          refine g_isub 104 (gd rfl) rfl (fun z103 e103 => ?_)
          refine g_iastore 105 (gd rfl) rfl (n := 1024) rfl (in_ix i99 rfl) ?_
          have hI104 := inv_sI (q := 66) (j := z99.toNatClampNeg) hIc66 rfl (in_w (-2147483648) 2147483647 (i_rng z103) rfl)
          refine g_aload_n 106 (gd rfl) rfl rfl ?_
          refine g_getA (q2 := 66) 109 (gd rfl) rfl rfl rfl rfl ?_
          refine g_iload 111 (gd rfl) rfl rfl ?_
          refine g_bipush 32 113 (gd rfl) rfl rfl ?_
          refine g_imul 114 (gd rfl) rfl (fun z113 e113 => ?_)
          have i113 := in_mulc 32 0 992 (Or.inr e113) i86 rfl rfl
          refine g_iload 116 (gd rfl) rfl rfl ?_
          refine g_iadd 117 (gd rfl) rfl (fun z116 e116 => ?_)
          have i116 := in_add 0 1023 e116 i113 j66_4 rfl rfl
          refine g_iaload 118 (gd rfl) rfl (n := 1024) rfl (in_ix i116 rfl) (fun z117 e117 => ?_)
          refine g_if_ne 121 137 (gd rfl) rfl rfl (fun c118 => ?_) (fun c118 => ?_)
          · skip
            refine g_aload_n 138 (gd rfl) rfl rfl ?_
            refine g_getA (q2 := 66) 141 (gd rfl) rfl rfl rfl rfl ?_
            refine g_iload 143 (gd rfl) rfl rfl ?_
            refine g_bipush 32 145 (gd rfl) rfl rfl ?_
            refine g_imul 146 (gd rfl) rfl (fun z145 e145 => ?_)
            have i145 := in_mulc 32 0 992 (Or.inr e145) j66_4 rfl rfl
            refine g_iload 148 (gd rfl) rfl rfl ?_
            refine g_iadd 149 (gd rfl) rfl (fun z148 e148 => ?_)
            have i148 := in_add 0 1023 e148 i145 i86 rfl rfl
            refine g_dup2 150 (gd rfl) rfl rfl rfl ?_
            refine g_iaload 151 (gd rfl) rfl (n := 1024) rfl (in_ix i148 rfl) (fun z150 e150 => ?_)
            refine g_iload_n 152 (gd rfl) rfl rfl ?_
            refine g_iadd 153 (gd rfl) rfl (fun z152 e152 => ?_)
            refine g_iastore 154 (gd rfl) rfl (n := 1024) rfl (in_ix i148 rfl) ?_
            have hI153 := inv_sI (q := 66) (j := z148.toNatClampNeg) hI104 rfl (in_w (-2147483648) 2147483647 (i_rng z152) rfl)
            refine g_aload_n 155 (gd rfl) rfl rfl ?_
            refine g_getA (q2 := 67) 158 (gd rfl) rfl rfl rfl rfl ?_
            refine g_iload 160 (gd rfl) rfl rfl ?_
            refine g_dup2 161 (gd rfl) rfl rfl rfl ?_
            refine g_iaload 162 (gd rfl) rfl (n := 32) rfl (in_ix j66_4 rfl) (fun z161 e161 => ?_)
            refine g_iconst 1 163 (gd rfl) rfl rfl ?_
            refine g_iload 165 (gd rfl) rfl rfl ?_
            refine g_ishl 166 (gd rfl) rfl (fun z165 e165 => ?_)
            refine g_ior 167 (gd rfl) rfl (fun z166 e166 => ?_)
            refine g_iastore 168 (gd rfl) rfl (n := 32) rfl (in_ix j66_4 rfl) ?_
            have hI167 := inv_sI (q := 67) (j := y66_4.toNatClampNeg) hI153 rfl (in_w (-2147483648) 2147483647 (i_rng z166) rfl)
            refine g_iload 170 (gd rfl) rfl rfl ?_
            refine g_istore 172 (gd rfl) rfl (Nat.le_of_ble_eq_true rfl) ?_
            refine g_iinc 175 (gd rfl) rfl rfl (Nat.le_of_ble_eq_true rfl) (fun z172 e172 => ?_)
            have i172 := in_add 1 32 e172 i70 (in_c 1 rfl) rfl rfl
            refine g_goto 66 (gd rfl) rfl ?_
            have n66 : bt u_65_4 (z85).toNatClampNeg = true := by first | (rw [e_65_4]; exact q_1) | (rw [e_65_4]; exact hr86.2)
            exact gg_w (by first | exact Nat.le_add_right _ _ | exact gw2 | exact gw3 | exact gwe rfl | exact gwf rfl | exact gwg rfl | exact gwh rfl | omega) (gg_f (gf_cons rfl (gf_cons rfl (gf_cons rfl (gf_cons rfl (gf_cons rfl (gf_cons rfl gf_nil)))))) (ih66 (sI (sI (sI sc66 66 z99.toNatClampNeg z103) 66 z148.toNatClampNeg z152) 67 y66_4.toNatClampNeg z166) y66_3 z85 z172 hI167 (fr_sI rfl (fr_sI rfl (fr_sI rfl hFc66))) (in_w (-2147483648) 160000000 j66_3 rfl) (in_w 0 31 i86 rfl) (in_w 0 32 i172 rfl) n66 (m_up mm66 (t_add e172 i70 (in_c 1 rfl) rfl) (in_w 1 1 (in_c 1 rfl) rfl))))
          · skip
            have i118 := z_eq 0 0 c118 (i_rng z117) rfl
            refine g_aload_n 122 (gd rfl) rfl rfl ?_
            refine g_getA (q2 := 67) 125 (gd rfl) rfl rfl rfl rfl ?_
            refine g_iload 127 (gd rfl) rfl rfl ?_
            refine g_dup2 128 (gd rfl) rfl rfl rfl ?_
            refine g_iaload 129 (gd rfl) rfl (n := 32) rfl (in_ix i86 rfl) (fun z128 e128 => ?_)
            refine g_iconst 1 130 (gd rfl) rfl rfl ?_
            refine g_iload 132 (gd rfl) rfl rfl ?_
            refine g_ishl 133 (gd rfl) rfl (fun z132 e132 => ?_)
            refine g_iconst (-1) 134 (gd rfl) rfl rfl ?_
            refine g_ixor 135 (gd rfl) rfl (fun z134 e134 => ?_)
            refine g_iand 136 (gd rfl) rfl (fun z135 e135 => ?_)
            refine g_iastore 137 (gd rfl) rfl (n := 32) rfl (in_ix i86 rfl) ?_
            have hI136 := inv_sI (q := 67) (j := z85.toNatClampNeg) hI104 rfl (in_w (-2147483648) 2147483647 (i_rng z135) rfl)
            refine g_aload_n 138 (gd rfl) rfl rfl ?_
            refine g_getA (q2 := 66) 141 (gd rfl) rfl rfl rfl rfl ?_
            refine g_iload 143 (gd rfl) rfl rfl ?_
            refine g_bipush 32 145 (gd rfl) rfl rfl ?_
            refine g_imul 146 (gd rfl) rfl (fun z145 e145 => ?_)
            have i145 := in_mulc 32 0 992 (Or.inr e145) j66_4 rfl rfl
            refine g_iload 148 (gd rfl) rfl rfl ?_
            refine g_iadd 149 (gd rfl) rfl (fun z148 e148 => ?_)
            have i148 := in_add 0 1023 e148 i145 i86 rfl rfl
            refine g_dup2 150 (gd rfl) rfl rfl rfl ?_
            refine g_iaload 151 (gd rfl) rfl (n := 1024) rfl (in_ix i148 rfl) (fun z150 e150 => ?_)
            refine g_iload_n 152 (gd rfl) rfl rfl ?_
            refine g_iadd 153 (gd rfl) rfl (fun z152 e152 => ?_)
            refine g_iastore 154 (gd rfl) rfl (n := 1024) rfl (in_ix i148 rfl) ?_
            have hI153 := inv_sI (q := 66) (j := z148.toNatClampNeg) hI136 rfl (in_w (-2147483648) 2147483647 (i_rng z152) rfl)
            refine g_aload_n 155 (gd rfl) rfl rfl ?_
            refine g_getA (q2 := 67) 158 (gd rfl) rfl rfl rfl rfl ?_
            refine g_iload 160 (gd rfl) rfl rfl ?_
            refine g_dup2 161 (gd rfl) rfl rfl rfl ?_
            refine g_iaload 162 (gd rfl) rfl (n := 32) rfl (in_ix j66_4 rfl) (fun z161 e161 => ?_)
            refine g_iconst 1 163 (gd rfl) rfl rfl ?_
            refine g_iload 165 (gd rfl) rfl rfl ?_
            refine g_ishl 166 (gd rfl) rfl (fun z165 e165 => ?_)
            refine g_ior 167 (gd rfl) rfl (fun z166 e166 => ?_)
            refine g_iastore 168 (gd rfl) rfl (n := 32) rfl (in_ix j66_4 rfl) ?_
            have hI167 := inv_sI (q := 67) (j := y66_4.toNatClampNeg) hI153 rfl (in_w (-2147483648) 2147483647 (i_rng z166) rfl)
            refine g_iload 170 (gd rfl) rfl rfl ?_
            refine g_istore 172 (gd rfl) rfl (Nat.le_of_ble_eq_true rfl) ?_
            refine g_iinc 175 (gd rfl) rfl rfl (Nat.le_of_ble_eq_true rfl) (fun z172 e172 => ?_)
            have i172 := in_add 1 32 e172 i70 (in_c 1 rfl) rfl rfl
            refine g_goto 66 (gd rfl) rfl ?_
            have n66 : bt u_65_4 (z85).toNatClampNeg = true := by first | (rw [e_65_4]; exact q_1) | (rw [e_65_4]; exact hr86.2)
            exact gg_w (by first | exact Nat.le_add_right _ _ | exact gw2 | exact gw3 | exact gwe rfl | exact gwf rfl | exact gwg rfl | exact gwh rfl | omega) (gg_f (gf_cons rfl (gf_cons rfl (gf_cons rfl (gf_cons rfl (gf_cons rfl (gf_cons rfl gf_nil)))))) (ih66 (sI (sI (sI (sI sc66 66 z99.toNatClampNeg z103) 67 z85.toNatClampNeg z135) 66 z148.toNatClampNeg z152) 67 y66_4.toNatClampNeg z166) y66_3 z85 z172 hI167 (fr_sI rfl (fr_sI rfl (fr_sI rfl (fr_sI rfl hFc66)))) (in_w (-2147483648) 160000000 j66_3 rfl) (in_w 0 31 i86 rfl) (in_w 0 32 i172 rfl) n66 (m_up mm66 (t_add e172 i70 (in_c 1 rfl) rfl) (in_w 1 1 (in_c 1 rfl) rfl))))
  have ct9 : ∀ (k9 : Nat) (sc9 : GS) (y9_3 : Int32) (y9_4 : Int32) (y9_5 : Int32), Inv sc9 → Fr fm_78_65 s sc9 → (In y9_3 (-2147483648) 160000000) → (In y9_4 0 31) → (In y9_5 0 32) → (bt u_65_4 (y9_4).toNatClampNeg = true) → 32 - (y9_5).toInt < (k9 : Int) → GG Z (d - 1) 78 post (gx xp) (29702 + k9 * 900) 9 (fun j => xlook j [(0, .ref (A 65)), (1, .int x1), (2, .int x2), (3, .int y9_3), (4, .int y9_4), (5, .int y9_5)]) [] (WW Z A sc9 ++ ex) 0 0 := by
    intro k9
    induction k9 with
    | zero => intro sc9 y9_3 y9_4 y9_5 hIc9 hFc9 j9_3 j9_4 j9_5 g9_0 mm9; exact m_no mm9 j9_5 rfl
    | succ k9 ih9 =>
      intro sc9 y9_3 y9_4 y9_5 hIc9 hFc9 j9_3 j9_4 j9_5 g9_0 mm9
      refine gg_w (M := 29702 + k9 * 900 + 900) gws ?_
      refine g_iload 11 (gd rfl) rfl rfl ?_
      refine g_bipush 32 13 (gd rfl) rfl rfl ?_
      refine g_cmp_ge 16 60 (gd rfl) rfl rfl (fun c13 => ?_) (fun c13 => ?_)
      · skip
        have i13 := r_le2 32 32 c13 (in_c 32 rfl) j9_5 rfl
        refine g_iload_n 61 (gd rfl) rfl rfl ?_
        refine g_istore 63 (gd rfl) rfl (Nat.le_of_ble_eq_true rfl) ?_
        refine g_iconst 0 64 (gd rfl) rfl rfl ?_
        refine g_istore 66 (gd rfl) rfl (Nat.le_of_ble_eq_true rfl) ?_
        have n66 : bt u_65_4 (x2).toNatClampNeg = true := by first | (rw [e_65_4]; exact q_1) | (rw [e_65_4]; exact hr86.2)
        exact gg_w (by first | exact Nat.le_add_right _ _ | exact gw2 | exact gw3 | exact gwe rfl | exact gwf rfl | exact gwg rfl | exact gwh rfl | omega) (gg_f (gf_cons rfl (gf_cons rfl (gf_cons rfl (gf_cons rfl (gf_cons rfl (gf_cons rfl gf_nil)))))) (ct66 33 sc9 y9_3 x2 (Int32.ofInt 0) hIc9 hFc9 (in_w (-2147483648) 160000000 j9_3 rfl) (in_w 0 31 h2 rfl) (in_w 0 32 (in_c 0 rfl) rfl) n66 (m_in 33 (in_w 0 32 (in_c 0 rfl) rfl) rfl)))
      · skip
        have i13 := r_lt1 0 31 c13 j9_5 (in_c 32 rfl) rfl
        refine g_iload 18 (gd rfl) rfl rfl ?_
        refine g_iload_n 19 (gd rfl) rfl rfl ?_
        refine g_cmp_eq 22 60 (gd rfl) rfl rfl (fun c19 => ?_) (fun c19 => ?_)
        · skip
          refine g_iload_n 61 (gd rfl) rfl rfl ?_
          refine g_istore 63 (gd rfl) rfl (Nat.le_of_ble_eq_true rfl) ?_
          refine g_iconst 0 64 (gd rfl) rfl rfl ?_
          refine g_istore 66 (gd rfl) rfl (Nat.le_of_ble_eq_true rfl) ?_
          have n66 : bt u_65_4 (x2).toNatClampNeg = true := by first | (rw [e_65_4]; exact q_1) | (rw [e_65_4]; exact hr86.2)
          exact gg_w (by first | exact Nat.le_add_right _ _ | exact gw2 | exact gw3 | exact gwe rfl | exact gwf rfl | exact gwg rfl | exact gwh rfl | omega) (gg_f (gf_cons rfl (gf_cons rfl (gf_cons rfl (gf_cons rfl (gf_cons rfl (gf_cons rfl gf_nil)))))) (ct66 33 sc9 y9_3 x2 (Int32.ofInt 0) hIc9 hFc9 (in_w (-2147483648) 160000000 j9_3 rfl) (in_w 0 31 h2 rfl) (in_w 0 32 (in_c 0 rfl) rfl) n66 (m_in 33 (in_w 0 32 (in_c 0 rfl) rfl) rfl)))
        · skip
          refine g_iload_n 23 (gd rfl) rfl rfl ?_
          refine g_aload_n 24 (gd rfl) rfl rfl ?_
          refine g_getA (q2 := 66) 27 (gd rfl) rfl rfl rfl rfl ?_
          refine g_aload_n 28 (gd rfl) rfl rfl ?_
          refine g_getA (q2 := 68) 31 (gd rfl) rfl rfl rfl rfl ?_
          refine g_iload 33 (gd rfl) rfl rfl ?_
          refine g_iaload 34 (gd rfl) rfl (n := 32) rfl (in_ix j9_4 rfl) (fun z33 e33 => ?_)
          have i33 := inv_I hIc9 (n := 32) (t := 0) (-1) 319 rfl (in_ix j9_4 rfl) rfl e33
          have hr34 : In z33 0 31 ∧ bt (s.2.2.1 65 4) (z33).toNatClampNeg = true := by have hf := (hFc9 : Fr fm_78_65 s sc9).1 68 rfl; have hr := q_0 (y9_4).toNatClampNeg (by rw [← e_65_4]; exact g9_0) (by intro w; apply c19; have hq := j9_4; unfold In at hq; have hw : (((y9_4).toInt.toNat : Nat) : Int) = (x1).toInt := w; omega); rw [← hf, ← e33] at hr; exact hr
          have i34 : In z33 0 31 := by exact hr34.1
          refine g_bipush 32 36 (gd rfl) rfl rfl ?_
          refine g_imul 37 (gd rfl) rfl (fun z36 e36 => ?_)
          have i36 := in_mulc 32 0 992 (Or.inr e36) i34 rfl rfl
          refine g_iload 39 (gd rfl) rfl rfl ?_
          refine g_iadd 40 (gd rfl) rfl (fun z39 e39 => ?_)
          have i39 := in_add 0 1023 e39 i36 j9_4 rfl rfl
          refine g_iaload 41 (gd rfl) rfl (n := 1024) rfl (in_ix i39 rfl) (fun z40 e40 => ?_)
          refine g_calls (As := [.int y9_3, .int z40]) (r := []) 44 (gd rfl) rfl rfl rfl rfl rfl (Nat.le_of_ble_eq_true rfl) (mc := 0) (ms := 0) (Nat.zero_le _) (Nat.zero_le _) (P := fun v u => _) ?_ (fun v u h => h)
          intro po41 xx41 hp41 hx41
          refine g_enter2 (k := 424) (N := 300) (by first | exact dq1 hd rfl | exact dq0 hd rfl | exact dq2 hd rfl | exact dq3 hd rfl | omega) rfl (Nat.le_of_ble_eq_true rfl) ?_
          refine g_iload_n 1 (gd rfl) rfl rfl ?_
          refine g_iload_n 2 (gd rfl) rfl rfl ?_
          refine g_cmp_gt 5 9 (gd rfl) rfl rfl (fun c41x2 => ?_) (fun c41x2 => ?_)
          · skip
            have i41x2 := r_lt1 (-2147483648) 159999999 c41x2 (i_rng z40) j9_3 rfl
            have i41x2a := r_lt2 (-2147483647) 160000000 c41x2 (i_rng z40) j9_3 rfl
            refine g_iload_n 10 (gd rfl) rfl rfl ?_
            refine g_ireturn (gd rfl) rfl rfl (hp41 _ _ ?_)
            show GG _ _ _ _ _ _ _ _ [.int z40] _ _ _
            refine g_istore_n 45 (gd rfl) rfl (Nat.le_of_ble_eq_true rfl) ?_
            refine g_aload_n 46 (gd rfl) rfl rfl ?_
            refine g_getA (q2 := 68) 49 (gd rfl) rfl rfl rfl rfl ?_
            refine g_iload 51 (gd rfl) rfl rfl ?_
            refine g_iaload 52 (gd rfl) rfl (n := 32) rfl (in_ix j9_4 rfl) (fun z51 e51 => ?_)
            have q51 : z33 = z51 := (e33).trans e51.symm
            subst q51
            refine g_istore 54 (gd rfl) rfl (Nat.le_of_ble_eq_true rfl) ?_
            refine g_iinc 57 (gd rfl) rfl rfl (Nat.le_of_ble_eq_true rfl) (fun z54 e54 => ?_)
            have i54 := in_add 1 32 e54 i13 (in_c 1 rfl) rfl rfl
            refine g_goto 9 (gd rfl) rfl ?_
            have n9 : bt u_65_4 (z33).toNatClampNeg = true := by first | (rw [e_65_4]; exact q_1) | (rw [e_65_4]; exact hr34.2)
            exact gg_w (by first | exact Nat.le_add_right _ _ | exact gw2 | exact gw3 | exact gwe rfl | exact gwf rfl | exact gwg rfl | exact gwh rfl | omega) (gg_f (gf_cons rfl (gf_cons rfl (gf_cons rfl (gf_cons rfl (gf_cons rfl (gf_cons rfl gf_nil)))))) (ih9 sc9 z40 z33 z54 hIc9 hFc9 (in_w (-2147483648) 160000000 i41x2 rfl) (in_w 0 31 i34 rfl) (in_w 0 32 i54 rfl) n9 (m_up mm9 (t_add e54 i13 (in_c 1 rfl) rfl) (in_w 1 1 (in_c 1 rfl) rfl))))
          · skip
            refine g_iload_n 6 (gd rfl) rfl rfl ?_
            refine g_goto 10 (gd rfl) rfl ?_
            refine g_ireturn (gd rfl) rfl rfl (hp41 _ _ ?_)
            show GG _ _ _ _ _ _ _ _ [.int y9_3] _ _ _
            refine g_istore_n 45 (gd rfl) rfl (Nat.le_of_ble_eq_true rfl) ?_
            refine g_aload_n 46 (gd rfl) rfl rfl ?_
            refine g_getA (q2 := 68) 49 (gd rfl) rfl rfl rfl rfl ?_
            refine g_iload 51 (gd rfl) rfl rfl ?_
            refine g_iaload 52 (gd rfl) rfl (n := 32) rfl (in_ix j9_4 rfl) (fun z51 e51 => ?_)
            have q51 : z33 = z51 := (e33).trans e51.symm
            subst q51
            refine g_istore 54 (gd rfl) rfl (Nat.le_of_ble_eq_true rfl) ?_
            refine g_iinc 57 (gd rfl) rfl rfl (Nat.le_of_ble_eq_true rfl) (fun z54 e54 => ?_)
            have i54 := in_add 1 32 e54 i13 (in_c 1 rfl) rfl rfl
            refine g_goto 9 (gd rfl) rfl ?_
            have n9 : bt u_65_4 (z33).toNatClampNeg = true := by first | (rw [e_65_4]; exact q_1) | (rw [e_65_4]; exact hr34.2)
            exact gg_w (by first | exact Nat.le_add_right _ _ | exact gw2 | exact gw3 | exact gwe rfl | exact gwf rfl | exact gwg rfl | exact gwh rfl | omega) (gg_f (gf_cons rfl (gf_cons rfl (gf_cons rfl (gf_cons rfl (gf_cons rfl (gf_cons rfl gf_nil)))))) (ih9 sc9 y9_3 z33 z54 hIc9 hFc9 (in_w (-2147483648) 160000000 j9_3 rfl) (in_w 0 31 i34 rfl) (in_w 0 32 i54 rfl) n9 (m_up mm9 (t_add e54 i13 (in_c 1 rfl) rfl) (in_w 1 1 (in_c 1 rfl) rfl))))
  refine g_enter2 (k := 78) (N := 60302) (by first | exact dq1 hd rfl | exact dq0 hd rfl | exact dq2 hd rfl | exact dq3 hd rfl | omega) rfl (Nat.le_of_ble_eq_true rfl) ?_
  refine g_ldc 160000000 2 (gd rfl) rfl rfl ?_
  refine g_istore_n 3 (gd rfl) rfl (Nat.le_of_ble_eq_true rfl) ?_
  refine g_iload_n 4 (gd rfl) rfl rfl ?_
  refine g_istore 6 (gd rfl) rfl (Nat.le_of_ble_eq_true rfl) ?_
  refine g_iconst 0 7 (gd rfl) rfl rfl ?_
  refine g_istore 9 (gd rfl) rfl (Nat.le_of_ble_eq_true rfl) ?_
  have n9 : bt u_65_4 (x2).toNatClampNeg = true := by first | (rw [e_65_4]; exact q_1) | (rw [e_65_4]; exact hr34.2)
  exact gg_w (by first | exact Nat.le_of_ble_eq_true rfl | omega) (gg_f (gf_cons rfl (gf_cons rfl (gf_cons rfl (gf_cons rfl (gf_cons rfl (gf_cons rfl gf_nil)))))) (ct9 33 s (Int32.ofInt 160000000) x2 (Int32.ofInt 0) hI fr_rf (in_w (-2147483648) 160000000 (in_c 160000000 rfl) rfl) (in_w 0 31 h2 rfl) (in_w 0 32 (in_c 0 rfl) rfl) n9 (m_in 33 (in_w 0 32 (in_c 0 rfl) rfl) rfl)))

def fm_84_65 : FM := ([69, 70, 71, 72, 73], [], [(65, 8)], [])
/-- GraphHouse$Flows.lay -/
theorem k_84_65 {Z : AmZ} {A : Nat → Nat} {s : GS} {ex : va_W} {d : Nat} {X : AmX} {x1 : Int32} {x2 : Int32} {x3 : Int32} {x4 : Int32} (hd : 1 ≤ d) (hI : Inv s) (h1 : In x1 0 31) (h2 : In x2 0 31) (h3 : In x3 (-1000000) 1000000) (h4 : In x4 0 1000000) : GC Z d 84 [.ref (A 65), .int x1, .int x2, .int x3, .int x4] (WW Z A s ++ ex) 0 0 (fun v u => ∃ t : GS, Inv t ∧ Fr fm_84_65 s t ∧ v = none ∧ u = WW Z A t ++ ex) X := by
  intro post xp hP hX
  refine g_enter2 (k := 84) (N := 900) (by first | exact dq1 hd rfl | exact dq0 hd rfl | exact dq2 hd rfl | exact dq3 hd rfl | omega) rfl (Nat.le_of_ble_eq_true rfl) ?_
  refine g_aload_n 1 (gd rfl) rfl rfl ?_
  refine g_getI 4 (gd rfl) rfl rfl rfl (fun z1 e1 => ?_)
  have i1 := inv_F hI 0 160 rfl e1
  refine g_sipush 160 7 (gd rfl) rfl rfl ?_
  refine g_cmp_ge 10 71 (gd rfl) rfl rfl (fun c7 => ?_) (fun c7 => ?_)
  · skip
    have i7 := r_le2 160 160 c7 (in_c 160 rfl) i1 rfl
    exact g_return (gd rfl) rfl (hP _ _ ⟨s, hI, fr_rf, rfl, rfl⟩)
  · skip
    have i7 := r_lt1 0 159 c7 i1 (in_c 160 rfl) rfl
    refine g_aload_n 11 (gd rfl) rfl rfl ?_
    refine g_getA (q2 := 69) 14 (gd rfl) rfl rfl rfl rfl ?_
    refine g_aload_n 15 (gd rfl) rfl rfl ?_
    refine g_getI 18 (gd rfl) rfl rfl rfl (fun z15 e15 => ?_)
    have q15 : z1 = z15 := (e1).trans e15.symm
    subst q15
    refine g_iload_n 19 (gd rfl) rfl rfl ?_
    refine g_iastore 20 (gd rfl) rfl (n := 160) rfl (in_ix i7 rfl) ?_
    have hI19 := inv_sI (q := 69) (j := z1.toNatClampNeg) hI rfl (in_w 0 31 h1 rfl)
    refine g_aload_n 21 (gd rfl) rfl rfl ?_
    refine g_getA (q2 := 70) 24 (gd rfl) rfl rfl rfl rfl ?_
    refine g_aload_n 25 (gd rfl) rfl rfl ?_
    refine g_getI 28 (gd rfl) rfl rfl rfl (fun z25 e25 => ?_)
    have q25 : z1 = z25 := (sI_F (e1)).trans e25.symm
    subst q25
    refine g_iload_n 29 (gd rfl) rfl rfl ?_
    refine g_iastore 30 (gd rfl) rfl (n := 160) rfl (in_ix i7 rfl) ?_
    have hI29 := inv_sI (q := 70) (j := z1.toNatClampNeg) hI19 rfl (in_w 0 31 h2 rfl)
    refine g_aload_n 31 (gd rfl) rfl rfl ?_
    refine g_getA (q2 := 71) 34 (gd rfl) rfl rfl rfl rfl ?_
    refine g_aload_n 35 (gd rfl) rfl rfl ?_
    refine g_getI 38 (gd rfl) rfl rfl rfl (fun z35 e35 => ?_)
    have q35 : z1 = z35 := (sI_F (sI_F (e1))).trans e35.symm
    subst q35
    refine g_iload_n 39 (gd rfl) rfl rfl ?_
    refine g_iastore 40 (gd rfl) rfl (n := 160) rfl (in_ix i7 rfl) ?_
    have hI39 := inv_sI (q := 71) (j := z1.toNatClampNeg) hI29 rfl (in_w (-1000000) 1000000 h3 rfl)
    refine g_aload_n 41 (gd rfl) rfl rfl ?_
    refine g_getA (q2 := 72) 44 (gd rfl) rfl rfl rfl rfl ?_
    refine g_aload_n 45 (gd rfl) rfl rfl ?_
    refine g_getI 48 (gd rfl) rfl rfl rfl (fun z45 e45 => ?_)
    have q45 : z1 = z45 := (sI_F (sI_F (sI_F (e1)))).trans e45.symm
    subst q45
    refine g_iload 50 (gd rfl) rfl rfl ?_
    refine g_iastore 51 (gd rfl) rfl (n := 160) rfl (in_ix i7 rfl) ?_
    have hI50 := inv_sI (q := 72) (j := z1.toNatClampNeg) hI39 rfl (in_w 0 1000000 h4 rfl)
    refine g_aload_n 52 (gd rfl) rfl rfl ?_
    refine g_getA (q2 := 73) 55 (gd rfl) rfl rfl rfl rfl ?_
    refine g_aload_n 56 (gd rfl) rfl rfl ?_
    refine g_getI 59 (gd rfl) rfl rfl rfl (fun z56 e56 => ?_)
    have q56 : z1 = z56 := (sI_F (sI_F (sI_F (sI_F (e1))))).trans e56.symm
    subst q56
    refine g_iconst 0 60 (gd rfl) rfl rfl ?_
    refine g_iastore 61 (gd rfl) rfl (n := 160) rfl (in_ix i7 rfl) ?_
    have hI60 := inv_sI (q := 73) (j := z1.toNatClampNeg) hI50 rfl (in_w (-2147483648) 2147483647 (in_c 0 rfl) rfl)
    refine g_aload_n 62 (gd rfl) rfl rfl ?_
    refine g_dup 63 (gd rfl) rfl rfl ?_
    refine g_getI 66 (gd rfl) rfl rfl rfl (fun z63 e63 => ?_)
    have q63 : z1 = z63 := (sI_F (sI_F (sI_F (sI_F (sI_F (e1)))))).trans e63.symm
    subst q63
    refine g_iconst 1 67 (gd rfl) rfl rfl ?_
    refine g_iadd 68 (gd rfl) rfl (fun z67 e67 => ?_)
    have i67 := in_add 1 160 e67 i7 (in_c 1 rfl) rfl rfl
    refine g_putI 71 (gd rfl) rfl rfl rfl rfl ?_
    have hI68 := inv_sF (q := 65) (j := 8) hI60 rfl (in_w 0 160 i67 rfl)
    exact g_return (gd rfl) rfl (hP _ _ ⟨(sF (sI (sI (sI (sI (sI s 69 z1.toNatClampNeg x1) 70 z1.toNatClampNeg x2) 71 z1.toNatClampNeg x3) 72 z1.toNatClampNeg x4) 73 z1.toNatClampNeg (Int32.ofInt 0)) 65 8 z67), hI68, (fr_sF rfl (fr_sI rfl (fr_sI rfl (fr_sI rfl (fr_sI rfl (fr_sI rfl fr_rf)))))), rfl, rfl⟩)

def fm_87_65 : FM := ([68], [75], [], [])
/-- GraphHouse$Flows.relaxPipe -/
theorem k_87_65 {Z : AmZ} {A : Nat → Nat} {s : GS} {ex : va_W} {d : Nat} {X : AmX} {x1 : Int32} {x2 : Int32} (hd : 1 ≤ d) (hI : Inv s) (h1 : In x1 0 159) (h2 : In x2 1 1048576) : GC Z d 87 [.ref (A 65), .int x1, .int x2] (WW Z A s ++ ex) 0 0 (fun v u => ∃ t : GS, Inv t ∧ Fr fm_87_65 s t ∧ ∃ z : Int32, v = some (.int z) ∧ u = WW Z A t ++ ex ∧ In z 0 1) X := by
  intro post xp hP hX
  refine g_enter2 (k := 87) (N := 900) (by first | exact dq1 hd rfl | exact dq0 hd rfl | exact dq2 hd rfl | exact dq3 hd rfl | omega) rfl (Nat.le_of_ble_eq_true rfl) ?_
  refine g_aload_n 1 (gd rfl) rfl rfl ?_
  refine g_getA (q2 := 69) 4 (gd rfl) rfl rfl rfl rfl ?_
  refine g_iload_n 5 (gd rfl) rfl rfl ?_
  refine g_iaload 6 (gd rfl) rfl (n := 160) rfl (in_ix h1 rfl) (fun z5 e5 => ?_)
  have i5 := inv_I hI (n := 160) (t := 0) 0 31 rfl (in_ix h1 rfl) rfl e5
  refine g_istore_n 7 (gd rfl) rfl (Nat.le_of_ble_eq_true rfl) ?_
  refine g_aload_n 8 (gd rfl) rfl rfl ?_
  refine g_getA (q2 := 70) 11 (gd rfl) rfl rfl rfl rfl ?_
  refine g_iload_n 12 (gd rfl) rfl rfl ?_
  refine g_iaload 13 (gd rfl) rfl (n := 160) rfl (in_ix h1 rfl) (fun z12 e12 => ?_)
  have i12 := inv_I hI (n := 160) (t := 0) 0 31 rfl (in_ix h1 rfl) rfl e12
  refine g_istore 15 (gd rfl) rfl (Nat.le_of_ble_eq_true rfl) ?_
  refine g_aload_n 16 (gd rfl) rfl rfl ?_
  refine g_getA (q2 := 72) 19 (gd rfl) rfl rfl rfl rfl ?_
  refine g_iload_n 20 (gd rfl) rfl rfl ?_
  refine g_iaload 21 (gd rfl) rfl (n := 160) rfl (in_ix h1 rfl) (fun z20 e20 => ?_)
  have i20 := inv_I hI (n := 160) (t := 0) 0 1000000 rfl (in_ix h1 rfl) rfl e20
  refine g_aload_n 22 (gd rfl) rfl rfl ?_
  refine g_getA (q2 := 73) 25 (gd rfl) rfl rfl rfl rfl ?_
  refine g_iload_n 26 (gd rfl) rfl rfl ?_
  refine g_iaload 27 (gd rfl) rfl (n := 160) rfl (in_ix h1 rfl) (fun z26 e26 => ?_)
  refine g_isub 28 (gd rfl) rfl (fun z27 e27 => ?_)
  refine g_iload_n 29 (gd rfl) rfl rfl ?_
  refine g_cmp_lt 32 103 (gd rfl) rfl rfl (fun c29 => ?_) (fun c29 => ?_)
  · skip
    have i29 := r_lt1 (-2147483648) 1048575 c29 (i_rng z27) h2 rfl
    refine g_aload_n 104 (gd rfl) rfl rfl ?_
    refine g_getA (q2 := 73) 107 (gd rfl) rfl rfl rfl rfl ?_
    refine g_iload_n 108 (gd rfl) rfl rfl ?_
    refine g_iaload 109 (gd rfl) rfl (n := 160) rfl (in_ix h1 rfl) (fun z108 e108 => ?_)
    have q108 : z26 = z108 := (e26).trans e108.symm
    subst q108
    refine g_iload_n 110 (gd rfl) rfl rfl ?_
    refine g_cmp_lt 113 186 (gd rfl) rfl rfl (fun c110 => ?_) (fun c110 => ?_)
    · skip
      have i110 := r_lt1 (-2147483648) 1048575 c110 (i_rng z26) h2 rfl
      refine g_iconst 0 187 (gd rfl) rfl rfl ?_
      exact g_ireturn (gd rfl) rfl (nb01 (in_w 0 1 (in_c 0 rfl) rfl)) (hP _ _ ⟨s, hI, fr_rf, (Int32.ofInt 0), rfl, rfl, in_w 0 1 (in_c 0 rfl) rfl⟩)
    · skip
      have i110 := r_le2 1 2147483647 c110 h2 (i_rng z26) rfl
      refine g_aload_n 114 (gd rfl) rfl rfl ?_
      refine g_getA (q2 := 75) 117 (gd rfl) rfl rfl rfl rfl ?_
      refine g_iload 119 (gd rfl) rfl rfl ?_
      refine g_laload 120 (gd rfl) rfl (n := 32) rfl (in_ix i12 rfl) (fun z119 e119 => ?_)
      refine g_ldc2_w 9223372036854775807 123 (gd rfl) rfl rfl ?_
      refine g_lcmp 124 (gd rfl) rfl (fun z123 e123 => ?_)
      have i123 := lc_in e123
      refine g_if_eq 127 186 (gd rfl) rfl rfl (fun c124 => ?_) (fun c124 => ?_)
      · skip
        have i124 := z_eq 0 0 c124 i123 rfl
        have c124a := lc_eq e123 c124
        have i124a := lr_eq1 9223372036854775807 9223372036854775807 c124a (l_rng z119) (l_c 9223372036854775807 rfl) rfl
        refine g_iconst 0 187 (gd rfl) rfl rfl ?_
        exact g_ireturn (gd rfl) rfl (nb01 (in_w 0 1 (in_c 0 rfl) rfl)) (hP _ _ ⟨s, hI, fr_rf, (Int32.ofInt 0), rfl, rfl, in_w 0 1 (in_c 0 rfl) rfl⟩)
      · skip
        have c124a := lc_ne e123 c124
        have i124 := lr_ne1 (-9223372036854775808) 9223372036854775806 c124a (l_rng z119) (l_c 9223372036854775807 rfl) rfl
        refine g_aload_n 128 (gd rfl) rfl rfl ?_
        refine g_getA (q2 := 75) 131 (gd rfl) rfl rfl rfl rfl ?_
        refine g_iload 133 (gd rfl) rfl rfl ?_
        refine g_laload 134 (gd rfl) rfl (n := 32) rfl (in_ix i12 rfl) (fun z133 e133 => ?_)
        refine g_aload_n 135 (gd rfl) rfl rfl ?_
        refine g_getA (q2 := 71) 138 (gd rfl) rfl rfl rfl rfl ?_
        refine g_iload_n 139 (gd rfl) rfl rfl ?_
        refine g_iaload 140 (gd rfl) rfl (n := 160) rfl (in_ix h1 rfl) (fun z139 e139 => ?_)
        have i139 := inv_I hI (n := 160) (t := 0) (-1000000) 1000000 rfl (in_ix h1 rfl) rfl e139
        refine g_i2l 141 (gd rfl) rfl (fun z140 e140 => ?_)
        have i140 := l_i e140 i139
        refine g_lsub 142 (gd rfl) rfl (fun z141 e141 => ?_)
        refine g_aload_n 143 (gd rfl) rfl rfl ?_
        refine g_getA (q2 := 75) 146 (gd rfl) rfl rfl rfl rfl ?_
        refine g_iload_n 147 (gd rfl) rfl rfl ?_
        refine g_laload 148 (gd rfl) rfl (n := 32) rfl (in_ix i5 rfl) (fun z147 e147 => ?_)
        refine g_lcmp 149 (gd rfl) rfl (fun z148 e148 => ?_)
        have i148 := lc_in e148
        refine g_if_ge 152 186 (gd rfl) rfl rfl (fun c149 => ?_) (fun c149 => ?_)
        · skip
          have i149 := z_ge 0 1 c149 i148 rfl
          have c149a := lc_ge e148 c149
          refine g_iconst 0 187 (gd rfl) rfl rfl ?_
          exact g_ireturn (gd rfl) rfl (nb01 (in_w 0 1 (in_c 0 rfl) rfl)) (hP _ _ ⟨s, hI, fr_rf, (Int32.ofInt 0), rfl, rfl, in_w 0 1 (in_c 0 rfl) rfl⟩)
        · skip
          have i149 := z_lt (-1) (-1) c149 i148 rfl
          have c149a := lc_lt e148 c149
          have i149a := lr_lt1 (-9223372036854775808) 9223372036854775806 c149a (l_rng z141) (l_rng z147) rfl
          have i149b := lr_lt2 (-9223372036854775807) 9223372036854775807 c149a (l_rng z141) (l_rng z147) rfl
          refine g_aload_n 153 (gd rfl) rfl rfl ?_
          refine g_getA (q2 := 75) 156 (gd rfl) rfl rfl rfl rfl ?_
          refine g_iload_n 157 (gd rfl) rfl rfl ?_
          refine g_aload_n 158 (gd rfl) rfl rfl ?_
          refine g_getA (q2 := 75) 161 (gd rfl) rfl rfl rfl rfl ?_
          refine g_iload 163 (gd rfl) rfl rfl ?_
          refine g_laload 164 (gd rfl) rfl (n := 32) rfl (in_ix i12 rfl) (fun z163 e163 => ?_)
          refine g_aload_n 165 (gd rfl) rfl rfl ?_
          refine g_getA (q2 := 71) 168 (gd rfl) rfl rfl rfl rfl ?_
          refine g_iload_n 169 (gd rfl) rfl rfl ?_
          refine g_iaload 170 (gd rfl) rfl (n := 160) rfl (in_ix h1 rfl) (fun z169 e169 => ?_)
          have q169 : z139 = z169 := (e139).trans e169.symm
          subst q169
          refine g_i2l 171 (gd rfl) rfl (fun z170 e170 => ?_)
          have i170 := l_i e170 i139
          refine g_lsub 172 (gd rfl) rfl (fun z171 e171 => ?_)
          refine g_lastore 173 (gd rfl) rfl (n := 32) rfl (in_ix i5 rfl) ?_
          have hI172 := inv_sL (q := 75) (j := z5.toNatClampNeg) (x := z171) hI rfl (l_rng z171)
          refine g_aload_n 174 (gd rfl) rfl rfl ?_
          refine g_getA (q2 := 68) 177 (gd rfl) rfl rfl rfl rfl ?_
          refine g_iload_n 178 (gd rfl) rfl rfl ?_
          refine g_iconst 2 179 (gd rfl) rfl rfl ?_
          refine g_iload_n 180 (gd rfl) rfl rfl ?_
          refine g_imul 181 (gd rfl) rfl (fun z180 e180 => ?_)
          have i180 := in_mulc 2 0 318 (Or.inl e180) h1 rfl rfl
          refine g_iconst 1 182 (gd rfl) rfl rfl ?_
          refine g_iadd 183 (gd rfl) rfl (fun z182 e182 => ?_)
          have i182 := in_add 1 319 e182 i180 (in_c 1 rfl) rfl rfl
          refine g_iastore 184 (gd rfl) rfl (n := 32) rfl (in_ix i5 rfl) ?_
          have hI183 := inv_sI (q := 68) (j := z5.toNatClampNeg) hI172 rfl (in_w (-1) 319 i182 rfl)
          refine g_iconst 1 185 (gd rfl) rfl rfl ?_
          exact g_ireturn (gd rfl) rfl (nb01 (in_w 0 1 (in_c 1 rfl) rfl)) (hP _ _ ⟨(sI (sL s 75 z5.toNatClampNeg z171) 68 z5.toNatClampNeg z182), hI183, (fr_sI rfl (fr_sL rfl fr_rf)), (Int32.ofInt 1), rfl, rfl, in_w 0 1 (in_c 1 rfl) rfl⟩)
  · skip
    have i29 := r_le2 1 2147483647 c29 h2 (i_rng z27) rfl
    refine g_aload_n 33 (gd rfl) rfl rfl ?_
    refine g_getA (q2 := 75) 36 (gd rfl) rfl rfl rfl rfl ?_
    refine g_iload_n 37 (gd rfl) rfl rfl ?_
    refine g_laload 38 (gd rfl) rfl (n := 32) rfl (in_ix i5 rfl) (fun z37 e37 => ?_)
    refine g_ldc2_w 9223372036854775807 41 (gd rfl) rfl rfl ?_
    refine g_lcmp 42 (gd rfl) rfl (fun z41 e41 => ?_)
    have i41 := lc_in e41
    refine g_if_eq 45 103 (gd rfl) rfl rfl (fun c42 => ?_) (fun c42 => ?_)
    · skip
      have i42 := z_eq 0 0 c42 i41 rfl
      have c42a := lc_eq e41 c42
      have i42a := lr_eq1 9223372036854775807 9223372036854775807 c42a (l_rng z37) (l_c 9223372036854775807 rfl) rfl
      refine g_aload_n 104 (gd rfl) rfl rfl ?_
      refine g_getA (q2 := 73) 107 (gd rfl) rfl rfl rfl rfl ?_
      refine g_iload_n 108 (gd rfl) rfl rfl ?_
      refine g_iaload 109 (gd rfl) rfl (n := 160) rfl (in_ix h1 rfl) (fun z108 e108 => ?_)
      have q108 : z26 = z108 := (e26).trans e108.symm
      subst q108
      refine g_iload_n 110 (gd rfl) rfl rfl ?_
      refine g_cmp_lt 113 186 (gd rfl) rfl rfl (fun c110 => ?_) (fun c110 => ?_)
      · skip
        have i110 := r_lt1 (-2147483648) 1048575 c110 (i_rng z26) h2 rfl
        refine g_iconst 0 187 (gd rfl) rfl rfl ?_
        exact g_ireturn (gd rfl) rfl (nb01 (in_w 0 1 (in_c 0 rfl) rfl)) (hP _ _ ⟨s, hI, fr_rf, (Int32.ofInt 0), rfl, rfl, in_w 0 1 (in_c 0 rfl) rfl⟩)
      · skip
        have i110 := r_le2 1 2147483647 c110 h2 (i_rng z26) rfl
        refine g_aload_n 114 (gd rfl) rfl rfl ?_
        refine g_getA (q2 := 75) 117 (gd rfl) rfl rfl rfl rfl ?_
        refine g_iload 119 (gd rfl) rfl rfl ?_
        refine g_laload 120 (gd rfl) rfl (n := 32) rfl (in_ix i12 rfl) (fun z119 e119 => ?_)
        refine g_ldc2_w 9223372036854775807 123 (gd rfl) rfl rfl ?_
        refine g_lcmp 124 (gd rfl) rfl (fun z123 e123 => ?_)
        have i123 := lc_in e123
        refine g_if_eq 127 186 (gd rfl) rfl rfl (fun c124 => ?_) (fun c124 => ?_)
        · skip
          have i124 := z_eq 0 0 c124 i123 rfl
          have c124a := lc_eq e123 c124
          have i124a := lr_eq1 9223372036854775807 9223372036854775807 c124a (l_rng z119) (l_c 9223372036854775807 rfl) rfl
          refine g_iconst 0 187 (gd rfl) rfl rfl ?_
          exact g_ireturn (gd rfl) rfl (nb01 (in_w 0 1 (in_c 0 rfl) rfl)) (hP _ _ ⟨s, hI, fr_rf, (Int32.ofInt 0), rfl, rfl, in_w 0 1 (in_c 0 rfl) rfl⟩)
        · skip
          have c124a := lc_ne e123 c124
          have i124 := lr_ne1 (-9223372036854775808) 9223372036854775806 c124a (l_rng z119) (l_c 9223372036854775807 rfl) rfl
          refine g_aload_n 128 (gd rfl) rfl rfl ?_
          refine g_getA (q2 := 75) 131 (gd rfl) rfl rfl rfl rfl ?_
          refine g_iload 133 (gd rfl) rfl rfl ?_
          refine g_laload 134 (gd rfl) rfl (n := 32) rfl (in_ix i12 rfl) (fun z133 e133 => ?_)
          refine g_aload_n 135 (gd rfl) rfl rfl ?_
          refine g_getA (q2 := 71) 138 (gd rfl) rfl rfl rfl rfl ?_
          refine g_iload_n 139 (gd rfl) rfl rfl ?_
          refine g_iaload 140 (gd rfl) rfl (n := 160) rfl (in_ix h1 rfl) (fun z139 e139 => ?_)
          have i139 := inv_I hI (n := 160) (t := 0) (-1000000) 1000000 rfl (in_ix h1 rfl) rfl e139
          refine g_i2l 141 (gd rfl) rfl (fun z140 e140 => ?_)
          have i140 := l_i e140 i139
          refine g_lsub 142 (gd rfl) rfl (fun z141 e141 => ?_)
          refine g_aload_n 143 (gd rfl) rfl rfl ?_
          refine g_getA (q2 := 75) 146 (gd rfl) rfl rfl rfl rfl ?_
          refine g_iload_n 147 (gd rfl) rfl rfl ?_
          refine g_laload 148 (gd rfl) rfl (n := 32) rfl (in_ix i5 rfl) (fun z147 e147 => ?_)
          refine g_lcmp 149 (gd rfl) rfl (fun z148 e148 => ?_)
          have i148 := lc_in e148
          refine g_if_ge 152 186 (gd rfl) rfl rfl (fun c149 => ?_) (fun c149 => ?_)
          · skip
            have i149 := z_ge 0 1 c149 i148 rfl
            have c149a := lc_ge e148 c149
            refine g_iconst 0 187 (gd rfl) rfl rfl ?_
            exact g_ireturn (gd rfl) rfl (nb01 (in_w 0 1 (in_c 0 rfl) rfl)) (hP _ _ ⟨s, hI, fr_rf, (Int32.ofInt 0), rfl, rfl, in_w 0 1 (in_c 0 rfl) rfl⟩)
          · skip
            have i149 := z_lt (-1) (-1) c149 i148 rfl
            have c149a := lc_lt e148 c149
            have i149a := lr_lt1 (-9223372036854775808) 9223372036854775806 c149a (l_rng z141) (l_rng z147) rfl
            have i149b := lr_lt2 (-9223372036854775807) 9223372036854775807 c149a (l_rng z141) (l_rng z147) rfl
            refine g_aload_n 153 (gd rfl) rfl rfl ?_
            refine g_getA (q2 := 75) 156 (gd rfl) rfl rfl rfl rfl ?_
            refine g_iload_n 157 (gd rfl) rfl rfl ?_
            refine g_aload_n 158 (gd rfl) rfl rfl ?_
            refine g_getA (q2 := 75) 161 (gd rfl) rfl rfl rfl rfl ?_
            refine g_iload 163 (gd rfl) rfl rfl ?_
            refine g_laload 164 (gd rfl) rfl (n := 32) rfl (in_ix i12 rfl) (fun z163 e163 => ?_)
            refine g_aload_n 165 (gd rfl) rfl rfl ?_
            refine g_getA (q2 := 71) 168 (gd rfl) rfl rfl rfl rfl ?_
            refine g_iload_n 169 (gd rfl) rfl rfl ?_
            refine g_iaload 170 (gd rfl) rfl (n := 160) rfl (in_ix h1 rfl) (fun z169 e169 => ?_)
            have q169 : z139 = z169 := (e139).trans e169.symm
            subst q169
            refine g_i2l 171 (gd rfl) rfl (fun z170 e170 => ?_)
            have i170 := l_i e170 i139
            refine g_lsub 172 (gd rfl) rfl (fun z171 e171 => ?_)
            refine g_lastore 173 (gd rfl) rfl (n := 32) rfl (in_ix i5 rfl) ?_
            have hI172 := inv_sL (q := 75) (j := z5.toNatClampNeg) (x := z171) hI rfl (l_rng z171)
            refine g_aload_n 174 (gd rfl) rfl rfl ?_
            refine g_getA (q2 := 68) 177 (gd rfl) rfl rfl rfl rfl ?_
            refine g_iload_n 178 (gd rfl) rfl rfl ?_
            refine g_iconst 2 179 (gd rfl) rfl rfl ?_
            refine g_iload_n 180 (gd rfl) rfl rfl ?_
            refine g_imul 181 (gd rfl) rfl (fun z180 e180 => ?_)
            have i180 := in_mulc 2 0 318 (Or.inl e180) h1 rfl rfl
            refine g_iconst 1 182 (gd rfl) rfl rfl ?_
            refine g_iadd 183 (gd rfl) rfl (fun z182 e182 => ?_)
            have i182 := in_add 1 319 e182 i180 (in_c 1 rfl) rfl rfl
            refine g_iastore 184 (gd rfl) rfl (n := 32) rfl (in_ix i5 rfl) ?_
            have hI183 := inv_sI (q := 68) (j := z5.toNatClampNeg) hI172 rfl (in_w (-1) 319 i182 rfl)
            refine g_iconst 1 185 (gd rfl) rfl rfl ?_
            exact g_ireturn (gd rfl) rfl (nb01 (in_w 0 1 (in_c 1 rfl) rfl)) (hP _ _ ⟨(sI (sL s 75 z5.toNatClampNeg z171) 68 z5.toNatClampNeg z182), hI183, (fr_sI rfl (fr_sL rfl fr_rf)), (Int32.ofInt 1), rfl, rfl, in_w 0 1 (in_c 1 rfl) rfl⟩)
    · skip
      have c42a := lc_ne e41 c42
      have i42 := lr_ne1 (-9223372036854775808) 9223372036854775806 c42a (l_rng z37) (l_c 9223372036854775807 rfl) rfl
      refine g_aload_n 46 (gd rfl) rfl rfl ?_
      refine g_getA (q2 := 75) 49 (gd rfl) rfl rfl rfl rfl ?_
      refine g_iload_n 50 (gd rfl) rfl rfl ?_
      refine g_laload 51 (gd rfl) rfl (n := 32) rfl (in_ix i5 rfl) (fun z50 e50 => ?_)
      refine g_aload_n 52 (gd rfl) rfl rfl ?_
      refine g_getA (q2 := 71) 55 (gd rfl) rfl rfl rfl rfl ?_
      refine g_iload_n 56 (gd rfl) rfl rfl ?_
      refine g_iaload 57 (gd rfl) rfl (n := 160) rfl (in_ix h1 rfl) (fun z56 e56 => ?_)
      have i56 := inv_I hI (n := 160) (t := 0) (-1000000) 1000000 rfl (in_ix h1 rfl) rfl e56
      refine g_i2l 58 (gd rfl) rfl (fun z57 e57 => ?_)
      have i57 := l_i e57 i56
      refine g_ladd 59 (gd rfl) rfl (fun z58 e58 => ?_)
      refine g_aload_n 60 (gd rfl) rfl rfl ?_
      refine g_getA (q2 := 75) 63 (gd rfl) rfl rfl rfl rfl ?_
      refine g_iload 65 (gd rfl) rfl rfl ?_
      refine g_laload 66 (gd rfl) rfl (n := 32) rfl (in_ix i12 rfl) (fun z65 e65 => ?_)
      refine g_lcmp 67 (gd rfl) rfl (fun z66 e66 => ?_)
      have i66 := lc_in e66
      refine g_if_ge 70 103 (gd rfl) rfl rfl (fun c67 => ?_) (fun c67 => ?_)
      · skip
        have i67 := z_ge 0 1 c67 i66 rfl
        have c67a := lc_ge e66 c67
        refine g_aload_n 104 (gd rfl) rfl rfl ?_
        refine g_getA (q2 := 73) 107 (gd rfl) rfl rfl rfl rfl ?_
        refine g_iload_n 108 (gd rfl) rfl rfl ?_
        refine g_iaload 109 (gd rfl) rfl (n := 160) rfl (in_ix h1 rfl) (fun z108 e108 => ?_)
        have q108 : z26 = z108 := (e26).trans e108.symm
        subst q108
        refine g_iload_n 110 (gd rfl) rfl rfl ?_
        refine g_cmp_lt 113 186 (gd rfl) rfl rfl (fun c110 => ?_) (fun c110 => ?_)
        · skip
          have i110 := r_lt1 (-2147483648) 1048575 c110 (i_rng z26) h2 rfl
          refine g_iconst 0 187 (gd rfl) rfl rfl ?_
          exact g_ireturn (gd rfl) rfl (nb01 (in_w 0 1 (in_c 0 rfl) rfl)) (hP _ _ ⟨s, hI, fr_rf, (Int32.ofInt 0), rfl, rfl, in_w 0 1 (in_c 0 rfl) rfl⟩)
        · skip
          have i110 := r_le2 1 2147483647 c110 h2 (i_rng z26) rfl
          refine g_aload_n 114 (gd rfl) rfl rfl ?_
          refine g_getA (q2 := 75) 117 (gd rfl) rfl rfl rfl rfl ?_
          refine g_iload 119 (gd rfl) rfl rfl ?_
          refine g_laload 120 (gd rfl) rfl (n := 32) rfl (in_ix i12 rfl) (fun z119 e119 => ?_)
          refine g_ldc2_w 9223372036854775807 123 (gd rfl) rfl rfl ?_
          refine g_lcmp 124 (gd rfl) rfl (fun z123 e123 => ?_)
          have i123 := lc_in e123
          refine g_if_eq 127 186 (gd rfl) rfl rfl (fun c124 => ?_) (fun c124 => ?_)
          · skip
            have i124 := z_eq 0 0 c124 i123 rfl
            have c124a := lc_eq e123 c124
            have i124a := lr_eq1 9223372036854775807 9223372036854775807 c124a (l_rng z119) (l_c 9223372036854775807 rfl) rfl
            refine g_iconst 0 187 (gd rfl) rfl rfl ?_
            exact g_ireturn (gd rfl) rfl (nb01 (in_w 0 1 (in_c 0 rfl) rfl)) (hP _ _ ⟨s, hI, fr_rf, (Int32.ofInt 0), rfl, rfl, in_w 0 1 (in_c 0 rfl) rfl⟩)
          · skip
            have c124a := lc_ne e123 c124
            have i124 := lr_ne1 (-9223372036854775808) 9223372036854775806 c124a (l_rng z119) (l_c 9223372036854775807 rfl) rfl
            refine g_aload_n 128 (gd rfl) rfl rfl ?_
            refine g_getA (q2 := 75) 131 (gd rfl) rfl rfl rfl rfl ?_
            refine g_iload 133 (gd rfl) rfl rfl ?_
            refine g_laload 134 (gd rfl) rfl (n := 32) rfl (in_ix i12 rfl) (fun z133 e133 => ?_)
            refine g_aload_n 135 (gd rfl) rfl rfl ?_
            refine g_getA (q2 := 71) 138 (gd rfl) rfl rfl rfl rfl ?_
            refine g_iload_n 139 (gd rfl) rfl rfl ?_
            refine g_iaload 140 (gd rfl) rfl (n := 160) rfl (in_ix h1 rfl) (fun z139 e139 => ?_)
            have q139 : z56 = z139 := (e56).trans e139.symm
            subst q139
            refine g_i2l 141 (gd rfl) rfl (fun z140 e140 => ?_)
            have i140 := l_i e140 i56
            refine g_lsub 142 (gd rfl) rfl (fun z141 e141 => ?_)
            refine g_aload_n 143 (gd rfl) rfl rfl ?_
            refine g_getA (q2 := 75) 146 (gd rfl) rfl rfl rfl rfl ?_
            refine g_iload_n 147 (gd rfl) rfl rfl ?_
            refine g_laload 148 (gd rfl) rfl (n := 32) rfl (in_ix i5 rfl) (fun z147 e147 => ?_)
            refine g_lcmp 149 (gd rfl) rfl (fun z148 e148 => ?_)
            have i148 := lc_in e148
            refine g_if_ge 152 186 (gd rfl) rfl rfl (fun c149 => ?_) (fun c149 => ?_)
            · skip
              have i149 := z_ge 0 1 c149 i148 rfl
              have c149a := lc_ge e148 c149
              refine g_iconst 0 187 (gd rfl) rfl rfl ?_
              exact g_ireturn (gd rfl) rfl (nb01 (in_w 0 1 (in_c 0 rfl) rfl)) (hP _ _ ⟨s, hI, fr_rf, (Int32.ofInt 0), rfl, rfl, in_w 0 1 (in_c 0 rfl) rfl⟩)
            · skip
              have i149 := z_lt (-1) (-1) c149 i148 rfl
              have c149a := lc_lt e148 c149
              have i149a := lr_lt1 (-9223372036854775808) 9223372036854775806 c149a (l_rng z141) (l_rng z147) rfl
              have i149b := lr_lt2 (-9223372036854775807) 9223372036854775807 c149a (l_rng z141) (l_rng z147) rfl
              refine g_aload_n 153 (gd rfl) rfl rfl ?_
              refine g_getA (q2 := 75) 156 (gd rfl) rfl rfl rfl rfl ?_
              refine g_iload_n 157 (gd rfl) rfl rfl ?_
              refine g_aload_n 158 (gd rfl) rfl rfl ?_
              refine g_getA (q2 := 75) 161 (gd rfl) rfl rfl rfl rfl ?_
              refine g_iload 163 (gd rfl) rfl rfl ?_
              refine g_laload 164 (gd rfl) rfl (n := 32) rfl (in_ix i12 rfl) (fun z163 e163 => ?_)
              refine g_aload_n 165 (gd rfl) rfl rfl ?_
              refine g_getA (q2 := 71) 168 (gd rfl) rfl rfl rfl rfl ?_
              refine g_iload_n 169 (gd rfl) rfl rfl ?_
              refine g_iaload 170 (gd rfl) rfl (n := 160) rfl (in_ix h1 rfl) (fun z169 e169 => ?_)
              have q169 : z56 = z169 := (e56).trans e169.symm
              subst q169
              refine g_i2l 171 (gd rfl) rfl (fun z170 e170 => ?_)
              have i170 := l_i e170 i56
              refine g_lsub 172 (gd rfl) rfl (fun z171 e171 => ?_)
              refine g_lastore 173 (gd rfl) rfl (n := 32) rfl (in_ix i5 rfl) ?_
              have hI172 := inv_sL (q := 75) (j := z5.toNatClampNeg) (x := z171) hI rfl (l_rng z171)
              refine g_aload_n 174 (gd rfl) rfl rfl ?_
              refine g_getA (q2 := 68) 177 (gd rfl) rfl rfl rfl rfl ?_
              refine g_iload_n 178 (gd rfl) rfl rfl ?_
              refine g_iconst 2 179 (gd rfl) rfl rfl ?_
              refine g_iload_n 180 (gd rfl) rfl rfl ?_
              refine g_imul 181 (gd rfl) rfl (fun z180 e180 => ?_)
              have i180 := in_mulc 2 0 318 (Or.inl e180) h1 rfl rfl
              refine g_iconst 1 182 (gd rfl) rfl rfl ?_
              refine g_iadd 183 (gd rfl) rfl (fun z182 e182 => ?_)
              have i182 := in_add 1 319 e182 i180 (in_c 1 rfl) rfl rfl
              refine g_iastore 184 (gd rfl) rfl (n := 32) rfl (in_ix i5 rfl) ?_
              have hI183 := inv_sI (q := 68) (j := z5.toNatClampNeg) hI172 rfl (in_w (-1) 319 i182 rfl)
              refine g_iconst 1 185 (gd rfl) rfl rfl ?_
              exact g_ireturn (gd rfl) rfl (nb01 (in_w 0 1 (in_c 1 rfl) rfl)) (hP _ _ ⟨(sI (sL s 75 z5.toNatClampNeg z171) 68 z5.toNatClampNeg z182), hI183, (fr_sI rfl (fr_sL rfl fr_rf)), (Int32.ofInt 1), rfl, rfl, in_w 0 1 (in_c 1 rfl) rfl⟩)
      · skip
        have i67 := z_lt (-1) (-1) c67 i66 rfl
        have c67a := lc_lt e66 c67
        have i67a := lr_lt1 (-9223372036854775808) 9223372036854775806 c67a (l_rng z58) (l_rng z65) rfl
        have i67b := lr_lt2 (-9223372036854775807) 9223372036854775807 c67a (l_rng z58) (l_rng z65) rfl
        refine g_aload_n 71 (gd rfl) rfl rfl ?_
        refine g_getA (q2 := 75) 74 (gd rfl) rfl rfl rfl rfl ?_
        refine g_iload 76 (gd rfl) rfl rfl ?_
        refine g_aload_n 77 (gd rfl) rfl rfl ?_
        refine g_getA (q2 := 75) 80 (gd rfl) rfl rfl rfl rfl ?_
        refine g_iload_n 81 (gd rfl) rfl rfl ?_
        refine g_laload 82 (gd rfl) rfl (n := 32) rfl (in_ix i5 rfl) (fun z81 e81 => ?_)
        refine g_aload_n 83 (gd rfl) rfl rfl ?_
        refine g_getA (q2 := 71) 86 (gd rfl) rfl rfl rfl rfl ?_
        refine g_iload_n 87 (gd rfl) rfl rfl ?_
        refine g_iaload 88 (gd rfl) rfl (n := 160) rfl (in_ix h1 rfl) (fun z87 e87 => ?_)
        have q87 : z56 = z87 := (e56).trans e87.symm
        subst q87
        refine g_i2l 89 (gd rfl) rfl (fun z88 e88 => ?_)
        have i88 := l_i e88 i56
        refine g_ladd 90 (gd rfl) rfl (fun z89 e89 => ?_)
        refine g_lastore 91 (gd rfl) rfl (n := 32) rfl (in_ix i12 rfl) ?_
        have hI90 := inv_sL (q := 75) (j := z12.toNatClampNeg) (x := z89) hI rfl (l_rng z89)
        refine g_aload_n 92 (gd rfl) rfl rfl ?_
        refine g_getA (q2 := 68) 95 (gd rfl) rfl rfl rfl rfl ?_
        refine g_iload 97 (gd rfl) rfl rfl ?_
        refine g_iconst 2 98 (gd rfl) rfl rfl ?_
        refine g_iload_n 99 (gd rfl) rfl rfl ?_
        refine g_imul 100 (gd rfl) rfl (fun z99 e99 => ?_)
        have i99 := in_mulc 2 0 318 (Or.inl e99) h1 rfl rfl
        refine g_iastore 101 (gd rfl) rfl (n := 32) rfl (in_ix i12 rfl) ?_
        have hI100 := inv_sI (q := 68) (j := z12.toNatClampNeg) hI90 rfl (in_w (-1) 319 i99 rfl)
        refine g_iconst 1 102 (gd rfl) rfl rfl ?_
        exact g_ireturn (gd rfl) rfl (nb01 (in_w 0 1 (in_c 1 rfl) rfl)) (hP _ _ ⟨(sI (sL s 75 z12.toNatClampNeg z89) 68 z12.toNatClampNeg z99), hI100, (fr_sI rfl (fr_sL rfl fr_rf)), (Int32.ofInt 1), rfl, rfl, in_w 0 1 (in_c 1 rfl) rfl⟩)

def fm_88_65 : FM := ([73, 74], [], [], [])
/-- GraphHouse$Flows.carryTo -/
theorem k_88_65 {Z : AmZ} {A : Nat → Nat} {s : GS} {ex : va_W} {d : Nat} {X : AmX} {x1 : Int32} (hd : 3 ≤ d) (hI : Inv s) (h1 : In x1 0 31) : GC Z d 88 [.ref (A 65), .int x1] (WW Z A s ++ ex) 0 0 (fun v u => ∃ t : GS, Inv t ∧ Fr fm_88_65 s t ∧ ∃ z : Int64, v = some (.long z) ∧ u = WW Z A t ++ ex) X := by
  intro post xp hP hX
  have ct253 : ∀ (sc253 : GS) (y253_2 : Int32) (y253_3 : Int32) (y253_4 : Int32), Inv sc253 → Fr fm_88_65 s sc253 → (In y253_3 0 31) → (In y253_4 0 32) → GG Z (d - 1) 88 post (gx xp) (901) 253 (fun j => xlook j [(0, .ref (A 65)), (1, .int x1), (2, .int y253_2), (3, .int y253_3), (4, .int y253_4)]) [] (WW Z A sc253 ++ ex) 0 0 := by
    intro sc253 y253_2 y253_3 y253_4 hIc253 hFc253 j253_3 j253_4
    refine g_aload_n 254 (gd rfl) rfl rfl ?_
    refine g_getA (q2 := 75) 257 (gd rfl) rfl rfl rfl rfl ?_
    refine g_iload_n 258 (gd rfl) rfl rfl ?_
    refine g_laload 259 (gd rfl) rfl (n := 32) rfl (in_ix h1 rfl) (fun z258 e258 => ?_)
    refine g_iload_n 260 (gd rfl) rfl rfl ?_
    refine g_i2l 261 (gd rfl) rfl (fun z260 e260 => ?_)
    have i260 := l_i e260 (i_rng y253_2)
    refine g_lmul 262 (gd rfl) rfl (fun z261 e261 => ?_)
    exact g_lreturn (gd rfl) rfl (hP _ _ ⟨sc253, hIc253, hFc253, z261, rfl, rfl⟩)
  have ct158 : ∀ (k158 : Nat) (sc158 : GS) (y158_2 : Int32) (y158_3 : Int32) (y158_4 : Int32), Inv sc158 → Fr fm_88_65 s sc158 → (In y158_3 0 31) → (In y158_4 0 32) → 32 - (y158_4).toInt < (k158 : Int) → GG Z (d - 1) 88 post (gx xp) (902 + k158 * 900) 158 (fun j => xlook j [(0, .ref (A 65)), (1, .int x1), (2, .int y158_2), (3, .int y158_3), (4, .int y158_4)]) [] (WW Z A sc158 ++ ex) 0 0 := by
    intro k158
    induction k158 with
    | zero => intro sc158 y158_2 y158_3 y158_4 hIc158 hFc158 j158_3 j158_4 mm158; exact m_no mm158 j158_4 rfl
    | succ k158 ih158 =>
      intro sc158 y158_2 y158_3 y158_4 hIc158 hFc158 j158_3 j158_4 mm158
      refine gg_w (M := 902 + k158 * 900 + 900) gws ?_
      refine g_iload 160 (gd rfl) rfl rfl ?_
      refine g_bipush 32 162 (gd rfl) rfl rfl ?_
      refine g_cmp_ge 165 253 (gd rfl) rfl rfl (fun c162 => ?_) (fun c162 => ?_)
      · skip
        have i162 := r_le2 32 32 c162 (in_c 32 rfl) j158_4 rfl
        exact gg_w (by first | exact Nat.le_add_right _ _ | exact gw2 | exact gw3 | exact gwe rfl | exact gwf rfl | exact gwg rfl | exact gwh rfl | omega) (gg_f (gf_cons rfl (gf_cons rfl (gf_cons rfl (gf_cons rfl (gf_cons rfl gf_nil))))) (ct253 sc158 y158_2 y158_3 y158_4 hIc158 hFc158 (in_w 0 31 j158_3 rfl) (in_w 0 32 i162 rfl)))
      · skip
        have i162 := r_lt1 0 31 c162 j158_4 (in_c 32 rfl) rfl
        refine g_aload_n 166 (gd rfl) rfl rfl ?_
        refine g_getA (q2 := 68) 169 (gd rfl) rfl rfl rfl rfl ?_
        refine g_iload_n 170 (gd rfl) rfl rfl ?_
        refine g_iaload 171 (gd rfl) rfl (n := 32) rfl (in_ix j158_3 rfl) (fun z170 e170 => ?_)
        have i170 := inv_I hIc158 (n := 32) (t := 0) (-1) 319 rfl (in_ix j158_3 rfl) rfl e170
        refine g_iconst (-1) 172 (gd rfl) rfl rfl ?_
        refine g_cmp_eq 175 253 (gd rfl) rfl rfl (fun c172 => ?_) (fun c172 => ?_)
        · skip
          have i172 := r_eq1 (-1) (-1) c172 i170 (in_c (-1) rfl) rfl
          exact gg_w (by first | exact Nat.le_add_right _ _ | exact gw2 | exact gw3 | exact gwe rfl | exact gwf rfl | exact gwg rfl | exact gwh rfl | omega) (gg_f (gf_cons rfl (gf_cons rfl (gf_cons rfl (gf_cons rfl (gf_cons rfl gf_nil))))) (ct253 sc158 y158_2 y158_3 y158_4 hIc158 hFc158 (in_w 0 31 j158_3 rfl) (in_w 0 32 i162 rfl)))
        · skip
          have i172 := r_ne1 0 319 c172 i170 (in_c (-1) rfl) rfl
          refine g_aload_n 176 (gd rfl) rfl rfl ?_
          refine g_getA (q2 := 68) 179 (gd rfl) rfl rfl rfl rfl ?_
          refine g_iload_n 180 (gd rfl) rfl rfl ?_
          refine g_iaload 181 (gd rfl) rfl (n := 32) rfl (in_ix j158_3 rfl) (fun z180 e180 => ?_)
          have q180 : z170 = z180 := (e170).trans e180.symm
          subst q180
          refine g_iconst 1 182 (gd rfl) rfl rfl ?_
          refine g_ishr 183 (gd rfl) rfl (fun z182 e182 => ?_)
          have i182 := in_shrc 1 0 159 e182 i172 rfl rfl
          refine g_istore 185 (gd rfl) rfl (Nat.le_of_ble_eq_true rfl) ?_
          refine g_aload_n 186 (gd rfl) rfl rfl ?_
          refine g_getA (q2 := 68) 189 (gd rfl) rfl rfl rfl rfl ?_
          refine g_iload_n 190 (gd rfl) rfl rfl ?_
          refine g_iaload 191 (gd rfl) rfl (n := 32) rfl (in_ix j158_3 rfl) (fun z190 e190 => ?_)
          have q190 : z170 = z190 := (e170).trans e190.symm
          subst q190
          refine g_iconst 1 192 (gd rfl) rfl rfl ?_
          refine g_iand 193 (gd rfl) rfl (fun z192 e192 => ?_)
          have i192 := in_and2 e192 (in_c 1 rfl) rfl
          refine g_if_ne 196 200 (gd rfl) rfl rfl (fun c193 => ?_) (fun c193 => ?_)
          · skip
            have i193 := z_ne 1 1 c193 i192 rfl
            refine g_iconst 0 201 (gd rfl) rfl rfl ?_
            refine g_istore 203 (gd rfl) rfl (Nat.le_of_ble_eq_true rfl) ?_
            refine g_aload_n 204 (gd rfl) rfl rfl ?_
            refine g_getA (q2 := 73) 207 (gd rfl) rfl rfl rfl rfl ?_
            refine g_iload 209 (gd rfl) rfl rfl ?_
            refine g_dup2 210 (gd rfl) rfl rfl rfl ?_
            refine g_iaload 211 (gd rfl) rfl (n := 160) rfl (in_ix i182 rfl) (fun z210 e210 => ?_)
            refine g_iload 213 (gd rfl) rfl rfl ?_
            refine g_if_eq 216 220 (gd rfl) rfl rfl (fun c213 => ?_) (fun c213 => ?_)
            · skip
              refine g_iload_n 221 (gd rfl) rfl rfl ?_
              refine g_ineg 222 (gd rfl) rfl (fun z221 e221 => ?_)
              refine g_iadd 223 (gd rfl) rfl (fun z222 e222 => ?_)
              refine g_iastore 224 (gd rfl) rfl (n := 160) rfl (in_ix i182 rfl) ?_
              have hI223 := inv_sI (q := 73) (j := z182.toNatClampNeg) hIc158 rfl (in_w (-2147483648) 2147483647 (i_rng z222) rfl)
              refine g_iload 226 (gd rfl) rfl rfl ?_
              refine g_if_eq 229 239 (gd rfl) rfl rfl (fun c226 => ?_) (fun c226 => ?_)
              · skip
                refine g_aload_n 240 (gd rfl) rfl rfl ?_
                refine g_getA (q2 := 70) 243 (gd rfl) rfl rfl rfl rfl ?_
                refine g_iload 245 (gd rfl) rfl rfl ?_
                refine g_iaload 246 (gd rfl) rfl (n := 160) rfl (in_ix i182 rfl) (fun z245 e245 => ?_)
                have i245 := inv_I hI223 (n := 160) (t := 0) 0 31 rfl (in_ix i182 rfl) rfl e245
                refine g_istore_n 247 (gd rfl) rfl (Nat.le_of_ble_eq_true rfl) ?_
                refine g_iinc 250 (gd rfl) rfl rfl (Nat.le_of_ble_eq_true rfl) (fun z247 e247 => ?_)
                have i247 := in_add 1 32 e247 i162 (in_c 1 rfl) rfl rfl
                refine g_goto 158 (gd rfl) rfl ?_
                exact gg_w (by first | exact Nat.le_add_right _ _ | exact gw2 | exact gw3 | exact gwe rfl | exact gwf rfl | exact gwg rfl | exact gwh rfl | omega) (gg_f (gf_cons rfl (gf_cons rfl (gf_cons rfl (gf_cons rfl (gf_cons rfl gf_nil))))) (ih158 (sI sc158 73 z182.toNatClampNeg z222) y158_2 z245 z247 hI223 (fr_sI rfl hFc158) (in_w 0 31 i245 rfl) (in_w 0 32 i247 rfl) (m_up mm158 (t_add e247 i162 (in_c 1 rfl) rfl) (in_w 1 1 (in_c 1 rfl) rfl))))
              · skip
                exact zn_ne c226 (in_c 0 rfl) rfl
            · skip
              exact zn_ne c213 (in_c 0 rfl) rfl
          · skip
            have i193 := z_eq 0 0 c193 i192 rfl
            refine g_iconst 1 197 (gd rfl) rfl rfl ?_
            refine g_goto 201 (gd rfl) rfl ?_
            refine g_istore 203 (gd rfl) rfl (Nat.le_of_ble_eq_true rfl) ?_
            refine g_aload_n 204 (gd rfl) rfl rfl ?_
            refine g_getA (q2 := 73) 207 (gd rfl) rfl rfl rfl rfl ?_
            refine g_iload 209 (gd rfl) rfl rfl ?_
            refine g_dup2 210 (gd rfl) rfl rfl rfl ?_
            refine g_iaload 211 (gd rfl) rfl (n := 160) rfl (in_ix i182 rfl) (fun z210 e210 => ?_)
            refine g_iload 213 (gd rfl) rfl rfl ?_
            refine g_if_eq 216 220 (gd rfl) rfl rfl (fun c213 => ?_) (fun c213 => ?_)
            · skip
              exact zn_eq c213 (in_c 1 rfl) rfl
            · skip
              refine g_iload_n 217 (gd rfl) rfl rfl ?_
              refine g_goto 222 (gd rfl) rfl ?_
              refine g_iadd 223 (gd rfl) rfl (fun z222 e222 => ?_)
              refine g_iastore 224 (gd rfl) rfl (n := 160) rfl (in_ix i182 rfl) ?_
              have hI223 := inv_sI (q := 73) (j := z182.toNatClampNeg) hIc158 rfl (in_w (-2147483648) 2147483647 (i_rng z222) rfl)
              refine g_iload 226 (gd rfl) rfl rfl ?_
              refine g_if_eq 229 239 (gd rfl) rfl rfl (fun c226 => ?_) (fun c226 => ?_)
              · skip
                exact zn_eq c226 (in_c 1 rfl) rfl
              · skip
                refine g_aload_n 230 (gd rfl) rfl rfl ?_
                refine g_getA (q2 := 69) 233 (gd rfl) rfl rfl rfl rfl ?_
                refine g_iload 235 (gd rfl) rfl rfl ?_
                refine g_iaload 236 (gd rfl) rfl (n := 160) rfl (in_ix i182 rfl) (fun z235 e235 => ?_)
                have i235 := inv_I hI223 (n := 160) (t := 0) 0 31 rfl (in_ix i182 rfl) rfl e235
                refine g_goto 246 (gd rfl) rfl ?_
                refine g_istore_n 247 (gd rfl) rfl (Nat.le_of_ble_eq_true rfl) ?_
                refine g_iinc 250 (gd rfl) rfl rfl (Nat.le_of_ble_eq_true rfl) (fun z247 e247 => ?_)
                have i247 := in_add 1 32 e247 i162 (in_c 1 rfl) rfl rfl
                refine g_goto 158 (gd rfl) rfl ?_
                exact gg_w (by first | exact Nat.le_add_right _ _ | exact gw2 | exact gw3 | exact gwe rfl | exact gwf rfl | exact gwg rfl | exact gwh rfl | omega) (gg_f (gf_cons rfl (gf_cons rfl (gf_cons rfl (gf_cons rfl (gf_cons rfl gf_nil))))) (ih158 (sI sc158 73 z182.toNatClampNeg z222) y158_2 z235 z247 hI223 (fr_sI rfl hFc158) (in_w 0 31 i235 rfl) (in_w 0 32 i247 rfl) (m_up mm158 (t_add e247 i162 (in_c 1 rfl) rfl) (in_w 1 1 (in_c 1 rfl) rfl))))
  have ct122 : ∀ (sc122 : GS) (y122_2 : Int32) (y122_3 : Int32) (y122_4 : Int32), Inv sc122 → Fr fm_88_65 s sc122 → (In y122_3 0 31) → (In y122_4 0 32) → GG Z (d - 1) 88 post (gx xp) (31503) 122 (fun j => xlook j [(0, .ref (A 65)), (1, .int x1), (2, .int y122_2), (3, .int y122_3), (4, .int y122_4)]) [] (WW Z A sc122 ++ ex) 0 0 := by
    intro sc122 y122_2 y122_3 y122_4 hIc122 hFc122 j122_3 j122_4
    refine g_iload_n 123 (gd rfl) rfl rfl ?_
    refine g_aload_n 124 (gd rfl) rfl rfl ?_
    refine g_getA (q2 := 74) 127 (gd rfl) rfl rfl rfl rfl ?_
    refine g_iload_n 128 (gd rfl) rfl rfl ?_
    refine g_iaload 129 (gd rfl) rfl (n := 32) rfl (in_ix j122_3 rfl) (fun z128 e128 => ?_)
    refine g_calls (As := [.int y122_2, .int z128]) (r := []) 132 (gd rfl) rfl rfl rfl rfl rfl (Nat.le_of_ble_eq_true rfl) (mc := 0) (ms := 0) (Nat.zero_le _) (Nat.zero_le _) (P := fun v u => _) ?_ (fun v u h => h)
    intro po129 xx129 hp129 hx129
    refine g_enter2 (k := 424) (N := 300) (by first | exact dq1 hd rfl | exact dq0 hd rfl | exact dq2 hd rfl | exact dq3 hd rfl | omega) rfl (Nat.le_of_ble_eq_true rfl) ?_
    refine g_iload_n 1 (gd rfl) rfl rfl ?_
    refine g_iload_n 2 (gd rfl) rfl rfl ?_
    refine g_cmp_gt 5 9 (gd rfl) rfl rfl (fun c129x2 => ?_) (fun c129x2 => ?_)
    · skip
      have i129x2 := r_lt1 (-2147483648) 2147483646 c129x2 (i_rng z128) (i_rng y122_2) rfl
      have i129x2a := r_lt2 (-2147483647) 2147483647 c129x2 (i_rng z128) (i_rng y122_2) rfl
      refine g_iload_n 10 (gd rfl) rfl rfl ?_
      refine g_ireturn (gd rfl) rfl rfl (hp129 _ _ ?_)
      show GG _ _ _ _ _ _ _ _ [.int z128] _ _ _
      refine g_istore_n 133 (gd rfl) rfl (Nat.le_of_ble_eq_true rfl) ?_
      refine g_aload_n 134 (gd rfl) rfl rfl ?_
      refine g_getA (q2 := 74) 137 (gd rfl) rfl rfl rfl rfl ?_
      refine g_iload_n 138 (gd rfl) rfl rfl ?_
      refine g_dup2 139 (gd rfl) rfl rfl rfl ?_
      refine g_iaload 140 (gd rfl) rfl (n := 32) rfl (in_ix j122_3 rfl) (fun z139 e139 => ?_)
      have q139 : z128 = z139 := (e128).trans e139.symm
      subst q139
      refine g_iload_n 141 (gd rfl) rfl rfl ?_
      refine g_isub 142 (gd rfl) rfl (fun z141 e141 => ?_)
      refine g_iastore 143 (gd rfl) rfl (n := 32) rfl (in_ix j122_3 rfl) ?_
      have hI142 := inv_sI (q := 74) (j := y122_3.toNatClampNeg) hIc122 rfl (in_w (-2147483648) 2147483647 (i_rng z141) rfl)
      refine g_aload_n 144 (gd rfl) rfl rfl ?_
      refine g_getA (q2 := 74) 147 (gd rfl) rfl rfl rfl rfl ?_
      refine g_iload_n 148 (gd rfl) rfl rfl ?_
      refine g_dup2 149 (gd rfl) rfl rfl rfl ?_
      refine g_iaload 150 (gd rfl) rfl (n := 32) rfl (in_ix h1 rfl) (fun z149 e149 => ?_)
      refine g_iload_n 151 (gd rfl) rfl rfl ?_
      refine g_iadd 152 (gd rfl) rfl (fun z151 e151 => ?_)
      refine g_iastore 153 (gd rfl) rfl (n := 32) rfl (in_ix h1 rfl) ?_
      have hI152 := inv_sI (q := 74) (j := x1.toNatClampNeg) hI142 rfl (in_w (-2147483648) 2147483647 (i_rng z151) rfl)
      refine g_iload_n 154 (gd rfl) rfl rfl ?_
      refine g_istore_n 155 (gd rfl) rfl (Nat.le_of_ble_eq_true rfl) ?_
      refine g_iconst 0 156 (gd rfl) rfl rfl ?_
      refine g_istore 158 (gd rfl) rfl (Nat.le_of_ble_eq_true rfl) ?_
      exact gg_w (by first | exact Nat.le_of_ble_eq_true rfl | omega) (gg_f (gf_cons rfl (gf_cons rfl (gf_cons rfl (gf_cons rfl (gf_cons rfl gf_nil))))) (ct158 33 (sI (sI sc122 74 y122_3.toNatClampNeg z141) 74 x1.toNatClampNeg z151) z128 x1 (Int32.ofInt 0) hI152 (fr_sI rfl (fr_sI rfl hFc122)) (in_w 0 31 h1 rfl) (in_w 0 32 (in_c 0 rfl) rfl) (m_in 33 (in_w 0 32 (in_c 0 rfl) rfl) rfl)))
    · skip
      refine g_iload_n 6 (gd rfl) rfl rfl ?_
      refine g_goto 10 (gd rfl) rfl ?_
      refine g_ireturn (gd rfl) rfl rfl (hp129 _ _ ?_)
      show GG _ _ _ _ _ _ _ _ [.int y122_2] _ _ _
      refine g_istore_n 133 (gd rfl) rfl (Nat.le_of_ble_eq_true rfl) ?_
      refine g_aload_n 134 (gd rfl) rfl rfl ?_
      refine g_getA (q2 := 74) 137 (gd rfl) rfl rfl rfl rfl ?_
      refine g_iload_n 138 (gd rfl) rfl rfl ?_
      refine g_dup2 139 (gd rfl) rfl rfl rfl ?_
      refine g_iaload 140 (gd rfl) rfl (n := 32) rfl (in_ix j122_3 rfl) (fun z139 e139 => ?_)
      have q139 : z128 = z139 := (e128).trans e139.symm
      subst q139
      refine g_iload_n 141 (gd rfl) rfl rfl ?_
      refine g_isub 142 (gd rfl) rfl (fun z141 e141 => ?_)
      refine g_iastore 143 (gd rfl) rfl (n := 32) rfl (in_ix j122_3 rfl) ?_
      have hI142 := inv_sI (q := 74) (j := y122_3.toNatClampNeg) hIc122 rfl (in_w (-2147483648) 2147483647 (i_rng z141) rfl)
      refine g_aload_n 144 (gd rfl) rfl rfl ?_
      refine g_getA (q2 := 74) 147 (gd rfl) rfl rfl rfl rfl ?_
      refine g_iload_n 148 (gd rfl) rfl rfl ?_
      refine g_dup2 149 (gd rfl) rfl rfl rfl ?_
      refine g_iaload 150 (gd rfl) rfl (n := 32) rfl (in_ix h1 rfl) (fun z149 e149 => ?_)
      refine g_iload_n 151 (gd rfl) rfl rfl ?_
      refine g_iadd 152 (gd rfl) rfl (fun z151 e151 => ?_)
      refine g_iastore 153 (gd rfl) rfl (n := 32) rfl (in_ix h1 rfl) ?_
      have hI152 := inv_sI (q := 74) (j := x1.toNatClampNeg) hI142 rfl (in_w (-2147483648) 2147483647 (i_rng z151) rfl)
      refine g_iload_n 154 (gd rfl) rfl rfl ?_
      refine g_istore_n 155 (gd rfl) rfl (Nat.le_of_ble_eq_true rfl) ?_
      refine g_iconst 0 156 (gd rfl) rfl rfl ?_
      refine g_istore 158 (gd rfl) rfl (Nat.le_of_ble_eq_true rfl) ?_
      exact gg_w (by first | exact Nat.le_of_ble_eq_true rfl | omega) (gg_f (gf_cons rfl (gf_cons rfl (gf_cons rfl (gf_cons rfl (gf_cons rfl gf_nil))))) (ct158 33 (sI (sI sc122 74 y122_3.toNatClampNeg z141) 74 x1.toNatClampNeg z151) y122_2 x1 (Int32.ofInt 0) hI152 (fr_sI rfl (fr_sI rfl hFc122)) (in_w 0 31 h1 rfl) (in_w 0 32 (in_c 0 rfl) rfl) (m_in 33 (in_w 0 32 (in_c 0 rfl) rfl) rfl)))
  have ct13 : ∀ (k13 : Nat) (sc13 : GS) (y13_2 : Int32) (y13_3 : Int32) (y13_4 : Int32), Inv sc13 → Fr fm_88_65 s sc13 → (In y13_3 0 31) → (In y13_4 0 32) → 32 - (y13_4).toInt < (k13 : Int) → GG Z (d - 1) 88 post (gx xp) (31504 + k13 * 900) 13 (fun j => xlook j [(0, .ref (A 65)), (1, .int x1), (2, .int y13_2), (3, .int y13_3), (4, .int y13_4)]) [] (WW Z A sc13 ++ ex) 0 0 := by
    intro k13
    induction k13 with
    | zero => intro sc13 y13_2 y13_3 y13_4 hIc13 hFc13 j13_3 j13_4 mm13; exact m_no mm13 j13_4 rfl
    | succ k13 ih13 =>
      intro sc13 y13_2 y13_3 y13_4 hIc13 hFc13 j13_3 j13_4 mm13
      refine gg_w (M := 31504 + k13 * 900 + 900) gws ?_
      refine g_iload 15 (gd rfl) rfl rfl ?_
      refine g_bipush 32 17 (gd rfl) rfl rfl ?_
      refine g_cmp_ge 20 122 (gd rfl) rfl rfl (fun c17 => ?_) (fun c17 => ?_)
      · skip
        have i17 := r_le2 32 32 c17 (in_c 32 rfl) j13_4 rfl
        exact gg_w (by first | exact Nat.le_add_right _ _ | exact gw2 | exact gw3 | exact gwe rfl | exact gwf rfl | exact gwg rfl | exact gwh rfl | omega) (gg_f (gf_cons rfl (gf_cons rfl (gf_cons rfl (gf_cons rfl (gf_cons rfl gf_nil))))) (ct122 sc13 y13_2 y13_3 y13_4 hIc13 hFc13 (in_w 0 31 j13_3 rfl) (in_w 0 32 i17 rfl)))
      · skip
        have i17 := r_lt1 0 31 c17 j13_4 (in_c 32 rfl) rfl
        refine g_aload_n 21 (gd rfl) rfl rfl ?_
        refine g_getA (q2 := 68) 24 (gd rfl) rfl rfl rfl rfl ?_
        refine g_iload_n 25 (gd rfl) rfl rfl ?_
        refine g_iaload 26 (gd rfl) rfl (n := 32) rfl (in_ix j13_3 rfl) (fun z25 e25 => ?_)
        have i25 := inv_I hIc13 (n := 32) (t := 0) (-1) 319 rfl (in_ix j13_3 rfl) rfl e25
        refine g_iconst (-1) 27 (gd rfl) rfl rfl ?_
        refine g_cmp_eq 30 122 (gd rfl) rfl rfl (fun c27 => ?_) (fun c27 => ?_)
        · skip
          have i27 := r_eq1 (-1) (-1) c27 i25 (in_c (-1) rfl) rfl
          exact gg_w (by first | exact Nat.le_add_right _ _ | exact gw2 | exact gw3 | exact gwe rfl | exact gwf rfl | exact gwg rfl | exact gwh rfl | omega) (gg_f (gf_cons rfl (gf_cons rfl (gf_cons rfl (gf_cons rfl (gf_cons rfl gf_nil))))) (ct122 sc13 y13_2 y13_3 y13_4 hIc13 hFc13 (in_w 0 31 j13_3 rfl) (in_w 0 32 i17 rfl)))
        · skip
          have i27 := r_ne1 0 319 c27 i25 (in_c (-1) rfl) rfl
          refine g_aload_n 31 (gd rfl) rfl rfl ?_
          refine g_getA (q2 := 68) 34 (gd rfl) rfl rfl rfl rfl ?_
          refine g_iload_n 35 (gd rfl) rfl rfl ?_
          refine g_iaload 36 (gd rfl) rfl (n := 32) rfl (in_ix j13_3 rfl) (fun z35 e35 => ?_)
          have q35 : z25 = z35 := (e25).trans e35.symm
          subst q35
          refine g_iconst 1 37 (gd rfl) rfl rfl ?_
          refine g_ishr 38 (gd rfl) rfl (fun z37 e37 => ?_)
          have i37 := in_shrc 1 0 159 e37 i27 rfl rfl
          refine g_istore 40 (gd rfl) rfl (Nat.le_of_ble_eq_true rfl) ?_
          refine g_aload_n 41 (gd rfl) rfl rfl ?_
          refine g_getA (q2 := 68) 44 (gd rfl) rfl rfl rfl rfl ?_
          refine g_iload_n 45 (gd rfl) rfl rfl ?_
          refine g_iaload 46 (gd rfl) rfl (n := 32) rfl (in_ix j13_3 rfl) (fun z45 e45 => ?_)
          have q45 : z25 = z45 := (e25).trans e45.symm
          subst q45
          refine g_iconst 1 47 (gd rfl) rfl rfl ?_
          refine g_iand 48 (gd rfl) rfl (fun z47 e47 => ?_)
          have i47 := in_and2 e47 (in_c 1 rfl) rfl
          refine g_if_ne 51 55 (gd rfl) rfl rfl (fun c48 => ?_) (fun c48 => ?_)
          · skip
            have i48 := z_ne 1 1 c48 i47 rfl
            refine g_iconst 0 56 (gd rfl) rfl rfl ?_
            refine g_istore 58 (gd rfl) rfl (Nat.le_of_ble_eq_true rfl) ?_
            refine g_iload_n 59 (gd rfl) rfl rfl ?_
            refine g_iload 61 (gd rfl) rfl rfl ?_
            refine g_if_eq 64 82 (gd rfl) rfl rfl (fun c61 => ?_) (fun c61 => ?_)
            · skip
              refine g_aload_n 83 (gd rfl) rfl rfl ?_
              refine g_getA (q2 := 73) 86 (gd rfl) rfl rfl rfl rfl ?_
              refine g_iload 88 (gd rfl) rfl rfl ?_
              refine g_iaload 89 (gd rfl) rfl (n := 160) rfl (in_ix i37 rfl) (fun z88 e88 => ?_)
              refine g_calls (As := [.int y13_2, .int z88]) (r := []) 92 (gd rfl) rfl rfl rfl rfl rfl (Nat.le_of_ble_eq_true rfl) (mc := 0) (ms := 0) (Nat.zero_le _) (Nat.zero_le _) (P := fun v u => _) ?_ (fun v u h => h)
              intro po89 xx89 hp89 hx89
              refine g_enter2 (k := 424) (N := 300) (by first | exact dq1 hd rfl | exact dq0 hd rfl | exact dq2 hd rfl | exact dq3 hd rfl | omega) rfl (Nat.le_of_ble_eq_true rfl) ?_
              refine g_iload_n 1 (gd rfl) rfl rfl ?_
              refine g_iload_n 2 (gd rfl) rfl rfl ?_
              refine g_cmp_gt 5 9 (gd rfl) rfl rfl (fun c89x2 => ?_) (fun c89x2 => ?_)
              · skip
                have i89x2 := r_lt1 (-2147483648) 2147483646 c89x2 (i_rng z88) (i_rng y13_2) rfl
                have i89x2a := r_lt2 (-2147483647) 2147483647 c89x2 (i_rng z88) (i_rng y13_2) rfl
                refine g_iload_n 10 (gd rfl) rfl rfl ?_
                refine g_ireturn (gd rfl) rfl rfl (hp89 _ _ ?_)
                show GG _ _ _ _ _ _ _ _ [.int z88] _ _ _
                refine g_istore_n 93 (gd rfl) rfl (Nat.le_of_ble_eq_true rfl) ?_
                refine g_iload 95 (gd rfl) rfl rfl ?_
                refine g_if_eq 98 108 (gd rfl) rfl rfl (fun c95 => ?_) (fun c95 => ?_)
                · skip
                  refine g_aload_n 109 (gd rfl) rfl rfl ?_
                  refine g_getA (q2 := 70) 112 (gd rfl) rfl rfl rfl rfl ?_
                  refine g_iload 114 (gd rfl) rfl rfl ?_
                  refine g_iaload 115 (gd rfl) rfl (n := 160) rfl (in_ix i37 rfl) (fun z114 e114 => ?_)
                  have i114 := inv_I hIc13 (n := 160) (t := 0) 0 31 rfl (in_ix i37 rfl) rfl e114
                  refine g_istore_n 116 (gd rfl) rfl (Nat.le_of_ble_eq_true rfl) ?_
                  refine g_iinc 119 (gd rfl) rfl rfl (Nat.le_of_ble_eq_true rfl) (fun z116 e116 => ?_)
                  have i116 := in_add 1 32 e116 i17 (in_c 1 rfl) rfl rfl
                  refine g_goto 13 (gd rfl) rfl ?_
                  exact gg_w (by first | exact Nat.le_add_right _ _ | exact gw2 | exact gw3 | exact gwe rfl | exact gwf rfl | exact gwg rfl | exact gwh rfl | omega) (gg_f (gf_cons rfl (gf_cons rfl (gf_cons rfl (gf_cons rfl (gf_cons rfl gf_nil))))) (ih13 sc13 z88 z114 z116 hIc13 hFc13 (in_w 0 31 i114 rfl) (in_w 0 32 i116 rfl) (m_up mm13 (t_add e116 i17 (in_c 1 rfl) rfl) (in_w 1 1 (in_c 1 rfl) rfl))))
                · skip
                  exact zn_ne c95 (in_c 0 rfl) rfl
              · skip
                refine g_iload_n 6 (gd rfl) rfl rfl ?_
                refine g_goto 10 (gd rfl) rfl ?_
                refine g_ireturn (gd rfl) rfl rfl (hp89 _ _ ?_)
                show GG _ _ _ _ _ _ _ _ [.int y13_2] _ _ _
                refine g_istore_n 93 (gd rfl) rfl (Nat.le_of_ble_eq_true rfl) ?_
                refine g_iload 95 (gd rfl) rfl rfl ?_
                refine g_if_eq 98 108 (gd rfl) rfl rfl (fun c95 => ?_) (fun c95 => ?_)
                · skip
                  refine g_aload_n 109 (gd rfl) rfl rfl ?_
                  refine g_getA (q2 := 70) 112 (gd rfl) rfl rfl rfl rfl ?_
                  refine g_iload 114 (gd rfl) rfl rfl ?_
                  refine g_iaload 115 (gd rfl) rfl (n := 160) rfl (in_ix i37 rfl) (fun z114 e114 => ?_)
                  have i114 := inv_I hIc13 (n := 160) (t := 0) 0 31 rfl (in_ix i37 rfl) rfl e114
                  refine g_istore_n 116 (gd rfl) rfl (Nat.le_of_ble_eq_true rfl) ?_
                  refine g_iinc 119 (gd rfl) rfl rfl (Nat.le_of_ble_eq_true rfl) (fun z116 e116 => ?_)
                  have i116 := in_add 1 32 e116 i17 (in_c 1 rfl) rfl rfl
                  refine g_goto 13 (gd rfl) rfl ?_
                  exact gg_w (by first | exact Nat.le_add_right _ _ | exact gw2 | exact gw3 | exact gwe rfl | exact gwf rfl | exact gwg rfl | exact gwh rfl | omega) (gg_f (gf_cons rfl (gf_cons rfl (gf_cons rfl (gf_cons rfl (gf_cons rfl gf_nil))))) (ih13 sc13 y13_2 z114 z116 hIc13 hFc13 (in_w 0 31 i114 rfl) (in_w 0 32 i116 rfl) (m_up mm13 (t_add e116 i17 (in_c 1 rfl) rfl) (in_w 1 1 (in_c 1 rfl) rfl))))
                · skip
                  exact zn_ne c95 (in_c 0 rfl) rfl
            · skip
              exact zn_ne c61 (in_c 0 rfl) rfl
          · skip
            have i48 := z_eq 0 0 c48 i47 rfl
            refine g_iconst 1 52 (gd rfl) rfl rfl ?_
            refine g_goto 56 (gd rfl) rfl ?_
            refine g_istore 58 (gd rfl) rfl (Nat.le_of_ble_eq_true rfl) ?_
            refine g_iload_n 59 (gd rfl) rfl rfl ?_
            refine g_iload 61 (gd rfl) rfl rfl ?_
            refine g_if_eq 64 82 (gd rfl) rfl rfl (fun c61 => ?_) (fun c61 => ?_)
            · skip
              exact zn_eq c61 (in_c 1 rfl) rfl
            · skip
              refine g_aload_n 65 (gd rfl) rfl rfl ?_
              refine g_getA (q2 := 72) 68 (gd rfl) rfl rfl rfl rfl ?_
              refine g_iload 70 (gd rfl) rfl rfl ?_
              refine g_iaload 71 (gd rfl) rfl (n := 160) rfl (in_ix i37 rfl) (fun z70 e70 => ?_)
              have i70 := inv_I hIc13 (n := 160) (t := 0) 0 1000000 rfl (in_ix i37 rfl) rfl e70
              refine g_aload_n 72 (gd rfl) rfl rfl ?_
              refine g_getA (q2 := 73) 75 (gd rfl) rfl rfl rfl rfl ?_
              refine g_iload 77 (gd rfl) rfl rfl ?_
              refine g_iaload 78 (gd rfl) rfl (n := 160) rfl (in_ix i37 rfl) (fun z77 e77 => ?_)
              refine g_isub 79 (gd rfl) rfl (fun z78 e78 => ?_)
              refine g_goto 89 (gd rfl) rfl ?_
              refine g_calls (As := [.int y13_2, .int z78]) (r := []) 92 (gd rfl) rfl rfl rfl rfl rfl (Nat.le_of_ble_eq_true rfl) (mc := 0) (ms := 0) (Nat.zero_le _) (Nat.zero_le _) (P := fun v u => _) ?_ (fun v u h => h)
              intro po89 xx89 hp89 hx89
              refine g_enter2 (k := 424) (N := 300) (by first | exact dq1 hd rfl | exact dq0 hd rfl | exact dq2 hd rfl | exact dq3 hd rfl | omega) rfl (Nat.le_of_ble_eq_true rfl) ?_
              refine g_iload_n 1 (gd rfl) rfl rfl ?_
              refine g_iload_n 2 (gd rfl) rfl rfl ?_
              refine g_cmp_gt 5 9 (gd rfl) rfl rfl (fun c89x2 => ?_) (fun c89x2 => ?_)
              · skip
                have i89x2 := r_lt1 (-2147483648) 2147483646 c89x2 (i_rng z78) (i_rng y13_2) rfl
                have i89x2a := r_lt2 (-2147483647) 2147483647 c89x2 (i_rng z78) (i_rng y13_2) rfl
                refine g_iload_n 10 (gd rfl) rfl rfl ?_
                refine g_ireturn (gd rfl) rfl rfl (hp89 _ _ ?_)
                show GG _ _ _ _ _ _ _ _ [.int z78] _ _ _
                refine g_istore_n 93 (gd rfl) rfl (Nat.le_of_ble_eq_true rfl) ?_
                refine g_iload 95 (gd rfl) rfl rfl ?_
                refine g_if_eq 98 108 (gd rfl) rfl rfl (fun c95 => ?_) (fun c95 => ?_)
                · skip
                  exact zn_eq c95 (in_c 1 rfl) rfl
                · skip
                  refine g_aload_n 99 (gd rfl) rfl rfl ?_
                  refine g_getA (q2 := 69) 102 (gd rfl) rfl rfl rfl rfl ?_
                  refine g_iload 104 (gd rfl) rfl rfl ?_
                  refine g_iaload 105 (gd rfl) rfl (n := 160) rfl (in_ix i37 rfl) (fun z104 e104 => ?_)
                  have i104 := inv_I hIc13 (n := 160) (t := 0) 0 31 rfl (in_ix i37 rfl) rfl e104
                  refine g_goto 115 (gd rfl) rfl ?_
                  refine g_istore_n 116 (gd rfl) rfl (Nat.le_of_ble_eq_true rfl) ?_
                  refine g_iinc 119 (gd rfl) rfl rfl (Nat.le_of_ble_eq_true rfl) (fun z116 e116 => ?_)
                  have i116 := in_add 1 32 e116 i17 (in_c 1 rfl) rfl rfl
                  refine g_goto 13 (gd rfl) rfl ?_
                  exact gg_w (by first | exact Nat.le_add_right _ _ | exact gw2 | exact gw3 | exact gwe rfl | exact gwf rfl | exact gwg rfl | exact gwh rfl | omega) (gg_f (gf_cons rfl (gf_cons rfl (gf_cons rfl (gf_cons rfl (gf_cons rfl gf_nil))))) (ih13 sc13 z78 z104 z116 hIc13 hFc13 (in_w 0 31 i104 rfl) (in_w 0 32 i116 rfl) (m_up mm13 (t_add e116 i17 (in_c 1 rfl) rfl) (in_w 1 1 (in_c 1 rfl) rfl))))
              · skip
                refine g_iload_n 6 (gd rfl) rfl rfl ?_
                refine g_goto 10 (gd rfl) rfl ?_
                refine g_ireturn (gd rfl) rfl rfl (hp89 _ _ ?_)
                show GG _ _ _ _ _ _ _ _ [.int y13_2] _ _ _
                refine g_istore_n 93 (gd rfl) rfl (Nat.le_of_ble_eq_true rfl) ?_
                refine g_iload 95 (gd rfl) rfl rfl ?_
                refine g_if_eq 98 108 (gd rfl) rfl rfl (fun c95 => ?_) (fun c95 => ?_)
                · skip
                  exact zn_eq c95 (in_c 1 rfl) rfl
                · skip
                  refine g_aload_n 99 (gd rfl) rfl rfl ?_
                  refine g_getA (q2 := 69) 102 (gd rfl) rfl rfl rfl rfl ?_
                  refine g_iload 104 (gd rfl) rfl rfl ?_
                  refine g_iaload 105 (gd rfl) rfl (n := 160) rfl (in_ix i37 rfl) (fun z104 e104 => ?_)
                  have i104 := inv_I hIc13 (n := 160) (t := 0) 0 31 rfl (in_ix i37 rfl) rfl e104
                  refine g_goto 115 (gd rfl) rfl ?_
                  refine g_istore_n 116 (gd rfl) rfl (Nat.le_of_ble_eq_true rfl) ?_
                  refine g_iinc 119 (gd rfl) rfl rfl (Nat.le_of_ble_eq_true rfl) (fun z116 e116 => ?_)
                  have i116 := in_add 1 32 e116 i17 (in_c 1 rfl) rfl rfl
                  refine g_goto 13 (gd rfl) rfl ?_
                  exact gg_w (by first | exact Nat.le_add_right _ _ | exact gw2 | exact gw3 | exact gwe rfl | exact gwf rfl | exact gwg rfl | exact gwh rfl | omega) (gg_f (gf_cons rfl (gf_cons rfl (gf_cons rfl (gf_cons rfl (gf_cons rfl gf_nil))))) (ih13 sc13 y13_2 z104 z116 hIc13 hFc13 (in_w 0 31 i104 rfl) (in_w 0 32 i116 rfl) (m_up mm13 (t_add e116 i17 (in_c 1 rfl) rfl) (in_w 1 1 (in_c 1 rfl) rfl))))
  refine g_enter2 (k := 88) (N := 62104) (by first | exact dq1 hd rfl | exact dq0 hd rfl | exact dq2 hd rfl | exact dq3 hd rfl | omega) rfl (Nat.le_of_ble_eq_true rfl) ?_
  refine g_aload_n 1 (gd rfl) rfl rfl ?_
  refine g_getA (q2 := 74) 4 (gd rfl) rfl rfl rfl rfl ?_
  refine g_iload_n 5 (gd rfl) rfl rfl ?_
  refine g_iaload 6 (gd rfl) rfl (n := 32) rfl (in_ix h1 rfl) (fun z5 e5 => ?_)
  refine g_ineg 7 (gd rfl) rfl (fun z6 e6 => ?_)
  refine g_istore_n 8 (gd rfl) rfl (Nat.le_of_ble_eq_true rfl) ?_
  refine g_iload_n 9 (gd rfl) rfl rfl ?_
  refine g_istore_n 10 (gd rfl) rfl (Nat.le_of_ble_eq_true rfl) ?_
  refine g_iconst 0 11 (gd rfl) rfl rfl ?_
  refine g_istore 13 (gd rfl) rfl (Nat.le_of_ble_eq_true rfl) ?_
  exact gg_w (by first | exact Nat.le_of_ble_eq_true rfl | omega) (gg_f (gf_cons rfl (gf_cons rfl (gf_cons rfl (gf_cons rfl (gf_cons rfl gf_nil))))) (ct13 33 s z6 x1 (Int32.ofInt 0) hI fr_rf (in_w 0 31 h1 rfl) (in_w 0 32 (in_c 0 rfl) rfl) (m_in 33 (in_w 0 32 (in_c 0 rfl) rfl) rfl)))

def fm_92_32 : FM := ([34], [], [(32, 0), (32, 1), (32, 2), (32, 3), (32, 4)], [])
def fm_93_2_16 : FM := ([3, 4, 5, 6, 7, 8], [], [(2, 0), (2, 1), (2, 2), (2, 3), (2, 4)], [])
def fm_93_16_2 : FM := ([17, 18, 19, 20, 21, 22], [], [(16, 0), (16, 1), (16, 2), (16, 3), (16, 4)], [])
/-- GraphHouse$Graph.joints -/
theorem k_98_2 {Z : AmZ} {A : Nat → Nat} {s : GS} {ex : va_W} {d : Nat} {X : AmX}  (hd : 3 ≤ d) (hI : Inv s)  : GC Z d 98 [.ref (A 2)] (WW Z A s ++ ex) 0 0 (fun v u => ∃ z : Int32, v = some (.int z) ∧ u = WW Z A s ++ ex ∧ In z 0 160) X := by
  intro post xp hP hX
  obtain ⟨u_2_3, e_2_3⟩ : ∃ w, w = s.2.2.1 2 3 := ⟨_, rfl⟩
  have ro_2_3 := inv_F hI 0 160 rfl e_2_3
  have ct4 : ∀ (k4 : Nat) (y4_1 : Int32) (y4_2 : Int32), (In y4_1 0 160) → (In y4_2 0 160) → ((y4_1).toInt ≤ (y4_2).toInt + 0) → 160 - (y4_2).toInt < (k4 : Int) → GG Z (d - 1) 98 post (gx xp) (1 + k4 * 900) 4 (fun j => xlook j [(0, .ref (A 2)), (1, .int y4_1), (2, .int y4_2)]) [] (WW Z A s ++ ex) 0 0 := by
    intro k4
    induction k4 with
    | zero => intro y4_1 y4_2 j4_1 j4_2 l4_1 mm4; exact m_no mm4 j4_2 rfl
    | succ k4 ih4 =>
      intro y4_1 y4_2 j4_1 j4_2 l4_1 mm4
      refine gg_w (M := 1 + k4 * 900 + 900) gws ?_
      refine g_iload_n 5 (gd rfl) rfl rfl ?_
      refine g_aload_n 6 (gd rfl) rfl rfl ?_
      refine g_getI 9 (gd rfl) rfl rfl rfl (fun z6 e6 => ?_)
      have q6 : u_2_3 = z6 := (e_2_3).trans e6.symm
      subst q6
      refine g_cmp_ge 12 29 (gd rfl) rfl rfl (fun c9 => ?_) (fun c9 => ?_)
      · skip
        refine g_iload_n 30 (gd rfl) rfl rfl ?_
        exact g_ireturn (gd rfl) rfl rfl (hP _ _ ⟨y4_1, rfl, rfl, in_w 0 160 j4_1 rfl⟩)
      · skip
        have i9 := r_lt1 0 159 c9 j4_2 ro_2_3 rfl
        have i9a := r_lt2 1 160 c9 j4_2 ro_2_3 rfl
        refine g_aload_n 13 (gd rfl) rfl rfl ?_
        refine g_iload_n 14 (gd rfl) rfl rfl ?_
        refine g_callv (X := _) (As := [.int y4_2]) (r := []) (b := A 2) (q := 2) 17 (gd rfl) rfl rfl rfl rfl rfl (ww_o rfl) (Nat.le_of_ble_eq_true rfl) (mc := 0) (ms := 0) (Nat.zero_le _) (Nat.zero_le _) (P := fun v u => _) ?_ (fun e u h => h) (fun v u h => h)
        intro po14 xx14 hp14 hx14
        refine g_enter2 (k := 97) (N := 300) (by first | exact dq1 hd rfl | exact dq0 hd rfl | exact dq2 hd rfl | exact dq3 hd rfl | omega) rfl (Nat.le_of_ble_eq_true rfl) ?_
        refine g_aload_n 1 (gd rfl) rfl rfl ?_
        refine g_getA (q2 := 4) 4 (gd rfl) rfl rfl rfl rfl ?_
        refine g_iload_n 5 (gd rfl) rfl rfl ?_
        refine g_iaload 6 (gd rfl) rfl (n := 160) rfl (in_ix i9 rfl) (fun z14x5 e14x5 => ?_)
        have i14x5 := inv_I hI (n := 160) (t := 0) (-1) 31 rfl (in_ix i9 rfl) rfl e14x5
        refine g_iconst (-1) 7 (gd rfl) rfl rfl ?_
        refine g_cmp_eq 10 29 (gd rfl) rfl rfl (fun c14x7 => ?_) (fun c14x7 => ?_)
        · skip
          have i14x7 := r_eq1 (-1) (-1) c14x7 i14x5 (in_c (-1) rfl) rfl
          refine g_iconst 0 30 (gd rfl) rfl rfl ?_
          refine g_ireturn (gd rfl) rfl (nb01 (in_w 0 1 (in_c 0 rfl) rfl)) (hp14 _ _ ?_)
          show GG _ _ _ _ _ _ _ _ [.int (Int32.ofInt 0)] _ _ _
          refine g_if_eq 20 23 (gd rfl) rfl rfl (fun c17 => ?_) (fun c17 => ?_)
          · skip
            refine g_iinc 26 (gd rfl) rfl rfl (Nat.le_of_ble_eq_true rfl) (fun z23 e23 => ?_)
            have i23 := in_add 1 160 e23 i9 (in_c 1 rfl) rfl rfl
            refine g_goto 4 (gd rfl) rfl ?_
            have l4 := rl_0 l4_1 (t_add e23 i9 (in_c 1 rfl) rfl) (in_w 0 1 (in_c 1 rfl) rfl)
            exact gg_w (by first | exact Nat.le_add_right _ _ | exact gw2 | exact gw3 | exact gwe rfl | exact gwf rfl | exact gwg rfl | exact gwh rfl | omega) (gg_f (gf_cons rfl (gf_cons rfl (gf_cons rfl gf_nil))) (ih4  y4_1 z23  (rl_w 0 160 l4 j4_1 (in_w 0 160 i23 rfl) rfl) (in_w 0 160 i23 rfl) l4 (m_up mm4 (t_add e23 i9 (in_c 1 rfl) rfl) (in_w 1 1 (in_c 1 rfl) rfl))))
          · skip
            exact zn_ne c17 (in_c 0 rfl) rfl
        · skip
          have i14x7 := r_ne1 0 31 c14x7 i14x5 (in_c (-1) rfl) rfl
          refine g_aload_n 11 (gd rfl) rfl rfl ?_
          refine g_getA (q2 := 4) 14 (gd rfl) rfl rfl rfl rfl ?_
          refine g_iload_n 15 (gd rfl) rfl rfl ?_
          refine g_iaload 16 (gd rfl) rfl (n := 160) rfl (in_ix i9 rfl) (fun z14x15 e14x15 => ?_)
          have q14x15 : z14x5 = z14x15 := (e14x5).trans e14x15.symm
          subst q14x15
          refine g_aload_n 17 (gd rfl) rfl rfl ?_
          refine g_getA (q2 := 5) 20 (gd rfl) rfl rfl rfl rfl ?_
          refine g_iload_n 21 (gd rfl) rfl rfl ?_
          refine g_iaload 22 (gd rfl) rfl (n := 160) rfl (in_ix i9 rfl) (fun z14x21 e14x21 => ?_)
          have i14x21 := inv_I hI (n := 160) (t := 0) 0 31 rfl (in_ix i9 rfl) rfl e14x21
          refine g_cmp_eq 25 29 (gd rfl) rfl rfl (fun c14x22 => ?_) (fun c14x22 => ?_)
          · skip
            refine g_iconst 0 30 (gd rfl) rfl rfl ?_
            refine g_ireturn (gd rfl) rfl (nb01 (in_w 0 1 (in_c 0 rfl) rfl)) (hp14 _ _ ?_)
            show GG _ _ _ _ _ _ _ _ [.int (Int32.ofInt 0)] _ _ _
            refine g_if_eq 20 23 (gd rfl) rfl rfl (fun c17 => ?_) (fun c17 => ?_)
            · skip
              refine g_iinc 26 (gd rfl) rfl rfl (Nat.le_of_ble_eq_true rfl) (fun z23 e23 => ?_)
              have i23 := in_add 1 160 e23 i9 (in_c 1 rfl) rfl rfl
              refine g_goto 4 (gd rfl) rfl ?_
              have l4 := rl_0 l4_1 (t_add e23 i9 (in_c 1 rfl) rfl) (in_w 0 1 (in_c 1 rfl) rfl)
              exact gg_w (by first | exact Nat.le_add_right _ _ | exact gw2 | exact gw3 | exact gwe rfl | exact gwf rfl | exact gwg rfl | exact gwh rfl | omega) (gg_f (gf_cons rfl (gf_cons rfl (gf_cons rfl gf_nil))) (ih4  y4_1 z23  (rl_w 0 160 l4 j4_1 (in_w 0 160 i23 rfl) rfl) (in_w 0 160 i23 rfl) l4 (m_up mm4 (t_add e23 i9 (in_c 1 rfl) rfl) (in_w 1 1 (in_c 1 rfl) rfl))))
            · skip
              exact zn_ne c17 (in_c 0 rfl) rfl
          · skip
            refine g_iconst 1 26 (gd rfl) rfl rfl ?_
            refine g_goto 30 (gd rfl) rfl ?_
            refine g_ireturn (gd rfl) rfl (nb01 (in_w 0 1 (in_c 1 rfl) rfl)) (hp14 _ _ ?_)
            show GG _ _ _ _ _ _ _ _ [.int (Int32.ofInt 1)] _ _ _
            refine g_if_eq 20 23 (gd rfl) rfl rfl (fun c17 => ?_) (fun c17 => ?_)
            · skip
              exact zn_eq c17 (in_c 1 rfl) rfl
            · skip
              refine g_iinc 23 (gd rfl) rfl rfl (Nat.le_of_ble_eq_true rfl) (fun z20 e20 => ?_)
              have i20 := in_add 1 161 e20 j4_1 (in_c 1 rfl) rfl rfl
              refine g_iinc 26 (gd rfl) rfl rfl (Nat.le_of_ble_eq_true rfl) (fun z23 e23 => ?_)
              have i23 := in_add 1 160 e23 i9 (in_c 1 rfl) rfl rfl
              refine g_goto 4 (gd rfl) rfl ?_
              have l4 := rl_1 l4_1 (t_add e20 j4_1 (in_c 1 rfl) rfl) (in_c 1 rfl) (t_add e23 i9 (in_c 1 rfl) rfl) (in_c 1 rfl) rfl
              exact gg_w (by first | exact Nat.le_add_right _ _ | exact gw2 | exact gw3 | exact gwe rfl | exact gwf rfl | exact gwg rfl | exact gwh rfl | omega) (gg_f (gf_cons rfl (gf_cons rfl (gf_cons rfl gf_nil))) (ih4  z20 z23  (rl_w 0 160 l4 i20 (in_w 0 160 i23 rfl) rfl) (in_w 0 160 i23 rfl) l4 (m_up mm4 (t_add e23 i9 (in_c 1 rfl) rfl) (in_w 1 1 (in_c 1 rfl) rfl))))
  refine g_enter2 (k := 98) (N := 145801) (by first | exact dq1 hd rfl | exact dq0 hd rfl | exact dq2 hd rfl | exact dq3 hd rfl | omega) rfl (Nat.le_of_ble_eq_true rfl) ?_
  refine g_iconst 0 1 (gd rfl) rfl rfl ?_
  refine g_istore_n 2 (gd rfl) rfl (Nat.le_of_ble_eq_true rfl) ?_
  refine g_iconst 0 3 (gd rfl) rfl rfl ?_
  refine g_istore_n 4 (gd rfl) rfl (Nat.le_of_ble_eq_true rfl) ?_
  have l4 := rl_in 0 (in_c 0 rfl) (in_c 0 rfl) rfl
  exact gg_w (by first | exact Nat.le_of_ble_eq_true rfl | omega) (gg_f (gf_cons rfl (gf_cons rfl (gf_cons rfl gf_nil))) (ct4 161  (Int32.ofInt 0) (Int32.ofInt 0)  (rl_w 0 160 l4 (in_c 0 rfl) (in_w 0 160 (in_c 0 rfl) rfl) rfl) (in_w 0 160 (in_c 0 rfl) rfl) l4 (m_in 161 (in_w 0 160 (in_c 0 rfl) rfl) rfl)))

/-- GraphHouse$Graph.joints -/
theorem k_98_32 {Z : AmZ} {A : Nat → Nat} {s : GS} {ex : va_W} {d : Nat} {X : AmX}  (hd : 3 ≤ d) (hI : Inv s)  : GC Z d 98 [.ref (A 32)] (WW Z A s ++ ex) 0 0 (fun v u => ∃ z : Int32, v = some (.int z) ∧ u = WW Z A s ++ ex ∧ In z 0 160) X := by
  intro post xp hP hX
  obtain ⟨u_32_3, e_32_3⟩ : ∃ w, w = s.2.2.1 32 3 := ⟨_, rfl⟩
  have ro_32_3 := inv_F hI 0 160 rfl e_32_3
  have ct4 : ∀ (k4 : Nat) (y4_1 : Int32) (y4_2 : Int32), (In y4_1 0 160) → (In y4_2 0 160) → ((y4_1).toInt ≤ (y4_2).toInt + 0) → 160 - (y4_2).toInt < (k4 : Int) → GG Z (d - 1) 98 post (gx xp) (1 + k4 * 900) 4 (fun j => xlook j [(0, .ref (A 32)), (1, .int y4_1), (2, .int y4_2)]) [] (WW Z A s ++ ex) 0 0 := by
    intro k4
    induction k4 with
    | zero => intro y4_1 y4_2 j4_1 j4_2 l4_1 mm4; exact m_no mm4 j4_2 rfl
    | succ k4 ih4 =>
      intro y4_1 y4_2 j4_1 j4_2 l4_1 mm4
      refine gg_w (M := 1 + k4 * 900 + 900) gws ?_
      refine g_iload_n 5 (gd rfl) rfl rfl ?_
      refine g_aload_n 6 (gd rfl) rfl rfl ?_
      refine g_getI 9 (gd rfl) rfl rfl rfl (fun z6 e6 => ?_)
      have q6 : u_32_3 = z6 := (e_32_3).trans e6.symm
      subst q6
      refine g_cmp_ge 12 29 (gd rfl) rfl rfl (fun c9 => ?_) (fun c9 => ?_)
      · skip
        refine g_iload_n 30 (gd rfl) rfl rfl ?_
        exact g_ireturn (gd rfl) rfl rfl (hP _ _ ⟨y4_1, rfl, rfl, in_w 0 160 j4_1 rfl⟩)
      · skip
        have i9 := r_lt1 0 159 c9 j4_2 ro_32_3 rfl
        have i9a := r_lt2 1 160 c9 j4_2 ro_32_3 rfl
        refine g_aload_n 13 (gd rfl) rfl rfl ?_
        refine g_iload_n 14 (gd rfl) rfl rfl ?_
        refine g_callv (X := _) (As := [.int y4_2]) (r := []) (b := A 32) (q := 32) 17 (gd rfl) rfl rfl rfl rfl rfl (ww_o rfl) (Nat.le_of_ble_eq_true rfl) (mc := 0) (ms := 0) (Nat.zero_le _) (Nat.zero_le _) (P := fun v u => _) ?_ (fun e u h => h) (fun v u h => h)
        intro po14 xx14 hp14 hx14
        refine g_enter2 (k := 97) (N := 300) (by first | exact dq1 hd rfl | exact dq0 hd rfl | exact dq2 hd rfl | exact dq3 hd rfl | omega) rfl (Nat.le_of_ble_eq_true rfl) ?_
        refine g_aload_n 1 (gd rfl) rfl rfl ?_
        refine g_getA (q2 := 34) 4 (gd rfl) rfl rfl rfl rfl ?_
        refine g_iload_n 5 (gd rfl) rfl rfl ?_
        refine g_iaload 6 (gd rfl) rfl (n := 160) rfl (in_ix i9 rfl) (fun z14x5 e14x5 => ?_)
        have i14x5 := inv_I hI (n := 160) (t := 0) (-1) 31 rfl (in_ix i9 rfl) rfl e14x5
        refine g_iconst (-1) 7 (gd rfl) rfl rfl ?_
        refine g_cmp_eq 10 29 (gd rfl) rfl rfl (fun c14x7 => ?_) (fun c14x7 => ?_)
        · skip
          have i14x7 := r_eq1 (-1) (-1) c14x7 i14x5 (in_c (-1) rfl) rfl
          refine g_iconst 0 30 (gd rfl) rfl rfl ?_
          refine g_ireturn (gd rfl) rfl (nb01 (in_w 0 1 (in_c 0 rfl) rfl)) (hp14 _ _ ?_)
          show GG _ _ _ _ _ _ _ _ [.int (Int32.ofInt 0)] _ _ _
          refine g_if_eq 20 23 (gd rfl) rfl rfl (fun c17 => ?_) (fun c17 => ?_)
          · skip
            refine g_iinc 26 (gd rfl) rfl rfl (Nat.le_of_ble_eq_true rfl) (fun z23 e23 => ?_)
            have i23 := in_add 1 160 e23 i9 (in_c 1 rfl) rfl rfl
            refine g_goto 4 (gd rfl) rfl ?_
            have l4 := rl_0 l4_1 (t_add e23 i9 (in_c 1 rfl) rfl) (in_w 0 1 (in_c 1 rfl) rfl)
            exact gg_w (by first | exact Nat.le_add_right _ _ | exact gw2 | exact gw3 | exact gwe rfl | exact gwf rfl | exact gwg rfl | exact gwh rfl | omega) (gg_f (gf_cons rfl (gf_cons rfl (gf_cons rfl gf_nil))) (ih4  y4_1 z23  (rl_w 0 160 l4 j4_1 (in_w 0 160 i23 rfl) rfl) (in_w 0 160 i23 rfl) l4 (m_up mm4 (t_add e23 i9 (in_c 1 rfl) rfl) (in_w 1 1 (in_c 1 rfl) rfl))))
          · skip
            exact zn_ne c17 (in_c 0 rfl) rfl
        · skip
          have i14x7 := r_ne1 0 31 c14x7 i14x5 (in_c (-1) rfl) rfl
          refine g_aload_n 11 (gd rfl) rfl rfl ?_
          refine g_getA (q2 := 34) 14 (gd rfl) rfl rfl rfl rfl ?_
          refine g_iload_n 15 (gd rfl) rfl rfl ?_
          refine g_iaload 16 (gd rfl) rfl (n := 160) rfl (in_ix i9 rfl) (fun z14x15 e14x15 => ?_)
          have q14x15 : z14x5 = z14x15 := (e14x5).trans e14x15.symm
          subst q14x15
          refine g_aload_n 17 (gd rfl) rfl rfl ?_
          refine g_getA (q2 := 35) 20 (gd rfl) rfl rfl rfl rfl ?_
          refine g_iload_n 21 (gd rfl) rfl rfl ?_
          refine g_iaload 22 (gd rfl) rfl (n := 160) rfl (in_ix i9 rfl) (fun z14x21 e14x21 => ?_)
          have i14x21 := inv_I hI (n := 160) (t := 0) 0 31 rfl (in_ix i9 rfl) rfl e14x21
          refine g_cmp_eq 25 29 (gd rfl) rfl rfl (fun c14x22 => ?_) (fun c14x22 => ?_)
          · skip
            refine g_iconst 0 30 (gd rfl) rfl rfl ?_
            refine g_ireturn (gd rfl) rfl (nb01 (in_w 0 1 (in_c 0 rfl) rfl)) (hp14 _ _ ?_)
            show GG _ _ _ _ _ _ _ _ [.int (Int32.ofInt 0)] _ _ _
            refine g_if_eq 20 23 (gd rfl) rfl rfl (fun c17 => ?_) (fun c17 => ?_)
            · skip
              refine g_iinc 26 (gd rfl) rfl rfl (Nat.le_of_ble_eq_true rfl) (fun z23 e23 => ?_)
              have i23 := in_add 1 160 e23 i9 (in_c 1 rfl) rfl rfl
              refine g_goto 4 (gd rfl) rfl ?_
              have l4 := rl_0 l4_1 (t_add e23 i9 (in_c 1 rfl) rfl) (in_w 0 1 (in_c 1 rfl) rfl)
              exact gg_w (by first | exact Nat.le_add_right _ _ | exact gw2 | exact gw3 | exact gwe rfl | exact gwf rfl | exact gwg rfl | exact gwh rfl | omega) (gg_f (gf_cons rfl (gf_cons rfl (gf_cons rfl gf_nil))) (ih4  y4_1 z23  (rl_w 0 160 l4 j4_1 (in_w 0 160 i23 rfl) rfl) (in_w 0 160 i23 rfl) l4 (m_up mm4 (t_add e23 i9 (in_c 1 rfl) rfl) (in_w 1 1 (in_c 1 rfl) rfl))))
            · skip
              exact zn_ne c17 (in_c 0 rfl) rfl
          · skip
            refine g_iconst 1 26 (gd rfl) rfl rfl ?_
            refine g_goto 30 (gd rfl) rfl ?_
            refine g_ireturn (gd rfl) rfl (nb01 (in_w 0 1 (in_c 1 rfl) rfl)) (hp14 _ _ ?_)
            show GG _ _ _ _ _ _ _ _ [.int (Int32.ofInt 1)] _ _ _
            refine g_if_eq 20 23 (gd rfl) rfl rfl (fun c17 => ?_) (fun c17 => ?_)
            · skip
              exact zn_eq c17 (in_c 1 rfl) rfl
            · skip
              refine g_iinc 23 (gd rfl) rfl rfl (Nat.le_of_ble_eq_true rfl) (fun z20 e20 => ?_)
              have i20 := in_add 1 161 e20 j4_1 (in_c 1 rfl) rfl rfl
              refine g_iinc 26 (gd rfl) rfl rfl (Nat.le_of_ble_eq_true rfl) (fun z23 e23 => ?_)
              have i23 := in_add 1 160 e23 i9 (in_c 1 rfl) rfl rfl
              refine g_goto 4 (gd rfl) rfl ?_
              have l4 := rl_1 l4_1 (t_add e20 j4_1 (in_c 1 rfl) rfl) (in_c 1 rfl) (t_add e23 i9 (in_c 1 rfl) rfl) (in_c 1 rfl) rfl
              exact gg_w (by first | exact Nat.le_add_right _ _ | exact gw2 | exact gw3 | exact gwe rfl | exact gwf rfl | exact gwg rfl | exact gwh rfl | omega) (gg_f (gf_cons rfl (gf_cons rfl (gf_cons rfl gf_nil))) (ih4  z20 z23  (rl_w 0 160 l4 i20 (in_w 0 160 i23 rfl) rfl) (in_w 0 160 i23 rfl) l4 (m_up mm4 (t_add e23 i9 (in_c 1 rfl) rfl) (in_w 1 1 (in_c 1 rfl) rfl))))
  refine g_enter2 (k := 98) (N := 145801) (by first | exact dq1 hd rfl | exact dq0 hd rfl | exact dq2 hd rfl | exact dq3 hd rfl | omega) rfl (Nat.le_of_ble_eq_true rfl) ?_
  refine g_iconst 0 1 (gd rfl) rfl rfl ?_
  refine g_istore_n 2 (gd rfl) rfl (Nat.le_of_ble_eq_true rfl) ?_
  refine g_iconst 0 3 (gd rfl) rfl rfl ?_
  refine g_istore_n 4 (gd rfl) rfl (Nat.le_of_ble_eq_true rfl) ?_
  have l4 := rl_in 0 (in_c 0 rfl) (in_c 0 rfl) rfl
  exact gg_w (by first | exact Nat.le_of_ble_eq_true rfl | omega) (gg_f (gf_cons rfl (gf_cons rfl (gf_cons rfl gf_nil))) (ct4 161  (Int32.ofInt 0) (Int32.ofInt 0)  (rl_w 0 160 l4 (in_c 0 rfl) (in_w 0 160 (in_c 0 rfl) rfl) rfl) (in_w 0 160 (in_c 0 rfl) rfl) l4 (m_in 161 (in_w 0 160 (in_c 0 rfl) rfl) rfl)))

def fm_99_2_59 : FM := ([59], [], [], [])
/-- GraphHouse$Graph.countJoints -/
theorem k_99_2_59 {Z : AmZ} {A : Nat → Nat} {s : GS} {ex : va_W} {d : Nat} {X : AmX}  (hd : 3 ≤ d) (hI : Inv s)  : GC Z d 99 [.ref (A 2), .ref (A 59)] (WW Z A s ++ ex) 0 0 (fun v u => ∃ t : GS, Inv t ∧ Fr fm_99_2_59 s t ∧ v = none ∧ u = WW Z A t ++ ex) X := by
  intro post xp hP hX
  obtain ⟨u_2_3, e_2_3⟩ : ∃ w, w = s.2.2.1 2 3 := ⟨_, rfl⟩
  have ro_2_3 := inv_F hI 0 160 rfl e_2_3
  have ct7 : ∀ (k7 : Nat) (sc7 : GS) (y7_2 : Int32), Inv sc7 → Fr fm_99_2_59 s sc7 → (In y7_2 0 160) → 160 - (y7_2).toInt < (k7 : Int) → GG Z (d - 1) 99 post (gx xp) (1 + k7 * 900) 7 (fun j => xlook j [(0, .ref (A 2)), (1, .ref (A 59)), (2, .int y7_2)]) [] (WW Z A sc7 ++ ex) 0 0 := by
    intro k7
    induction k7 with
    | zero => intro sc7 y7_2 hIc7 hFc7 j7_2 mm7; exact m_no mm7 j7_2 rfl
    | succ k7 ih7 =>
      intro sc7 y7_2 hIc7 hFc7 j7_2 mm7
      refine gg_w (M := 1 + k7 * 900 + 900) gws ?_
      refine g_iload_n 8 (gd rfl) rfl rfl ?_
      refine g_aload_n 9 (gd rfl) rfl rfl ?_
      refine g_getI 12 (gd rfl) rfl rfl rfl (fun z9 e9 => ?_)
      have q9 : u_2_3 = z9 := (fr_F e_2_3 hFc7 rfl).trans e9.symm
      subst q9
      refine g_cmp_ge 15 53 (gd rfl) rfl rfl (fun c12 => ?_) (fun c12 => ?_)
      · skip
        exact g_return (gd rfl) rfl (hP _ _ ⟨sc7, hIc7, hFc7, rfl, rfl⟩)
      · skip
        have i12 := r_lt1 0 159 c12 j7_2 ro_2_3 rfl
        have i12a := r_lt2 1 160 c12 j7_2 ro_2_3 rfl
        refine g_aload_n 16 (gd rfl) rfl rfl ?_
        refine g_iload_n 17 (gd rfl) rfl rfl ?_
        refine g_callv (X := _) (As := [.int y7_2]) (r := []) (b := A 2) (q := 2) 20 (gd rfl) rfl rfl rfl rfl rfl (ww_o rfl) (Nat.le_of_ble_eq_true rfl) (mc := 0) (ms := 0) (Nat.zero_le _) (Nat.zero_le _) (P := fun v u => _) ?_ (fun e u h => h) (fun v u h => h)
        intro po17 xx17 hp17 hx17
        refine g_enter2 (k := 97) (N := 300) (by first | exact dq1 hd rfl | exact dq0 hd rfl | exact dq2 hd rfl | exact dq3 hd rfl | omega) rfl (Nat.le_of_ble_eq_true rfl) ?_
        refine g_aload_n 1 (gd rfl) rfl rfl ?_
        refine g_getA (q2 := 4) 4 (gd rfl) rfl rfl rfl rfl ?_
        refine g_iload_n 5 (gd rfl) rfl rfl ?_
        refine g_iaload 6 (gd rfl) rfl (n := 160) rfl (in_ix i12 rfl) (fun z17x5 e17x5 => ?_)
        have i17x5 := inv_I hIc7 (n := 160) (t := 0) (-1) 31 rfl (in_ix i12 rfl) rfl e17x5
        refine g_iconst (-1) 7 (gd rfl) rfl rfl ?_
        refine g_cmp_eq 10 29 (gd rfl) rfl rfl (fun c17x7 => ?_) (fun c17x7 => ?_)
        · skip
          have i17x7 := r_eq1 (-1) (-1) c17x7 i17x5 (in_c (-1) rfl) rfl
          refine g_iconst 0 30 (gd rfl) rfl rfl ?_
          refine g_ireturn (gd rfl) rfl (nb01 (in_w 0 1 (in_c 0 rfl) rfl)) (hp17 _ _ ?_)
          show GG _ _ _ _ _ _ _ _ [.int (Int32.ofInt 0)] _ _ _
          refine g_if_eq 23 47 (gd rfl) rfl rfl (fun c20 => ?_) (fun c20 => ?_)
          · skip
            refine g_iinc 50 (gd rfl) rfl rfl (Nat.le_of_ble_eq_true rfl) (fun z47 e47 => ?_)
            have i47 := in_add 1 160 e47 i12 (in_c 1 rfl) rfl rfl
            refine g_goto 7 (gd rfl) rfl ?_
            exact gg_w (by first | exact Nat.le_add_right _ _ | exact gw2 | exact gw3 | exact gwe rfl | exact gwf rfl | exact gwg rfl | exact gwh rfl | omega) (gg_f (gf_cons rfl (gf_cons rfl (gf_cons rfl gf_nil))) (ih7 sc7 z47 hIc7 hFc7 (in_w 0 160 i47 rfl) (m_up mm7 (t_add e47 i12 (in_c 1 rfl) rfl) (in_w 1 1 (in_c 1 rfl) rfl))))
          · skip
            exact zn_ne c20 (in_c 0 rfl) rfl
        · skip
          have i17x7 := r_ne1 0 31 c17x7 i17x5 (in_c (-1) rfl) rfl
          refine g_aload_n 11 (gd rfl) rfl rfl ?_
          refine g_getA (q2 := 4) 14 (gd rfl) rfl rfl rfl rfl ?_
          refine g_iload_n 15 (gd rfl) rfl rfl ?_
          refine g_iaload 16 (gd rfl) rfl (n := 160) rfl (in_ix i12 rfl) (fun z17x15 e17x15 => ?_)
          have q17x15 : z17x5 = z17x15 := (e17x5).trans e17x15.symm
          subst q17x15
          refine g_aload_n 17 (gd rfl) rfl rfl ?_
          refine g_getA (q2 := 5) 20 (gd rfl) rfl rfl rfl rfl ?_
          refine g_iload_n 21 (gd rfl) rfl rfl ?_
          refine g_iaload 22 (gd rfl) rfl (n := 160) rfl (in_ix i12 rfl) (fun z17x21 e17x21 => ?_)
          have i17x21 := inv_I hIc7 (n := 160) (t := 0) 0 31 rfl (in_ix i12 rfl) rfl e17x21
          refine g_cmp_eq 25 29 (gd rfl) rfl rfl (fun c17x22 => ?_) (fun c17x22 => ?_)
          · skip
            refine g_iconst 0 30 (gd rfl) rfl rfl ?_
            refine g_ireturn (gd rfl) rfl (nb01 (in_w 0 1 (in_c 0 rfl) rfl)) (hp17 _ _ ?_)
            show GG _ _ _ _ _ _ _ _ [.int (Int32.ofInt 0)] _ _ _
            refine g_if_eq 23 47 (gd rfl) rfl rfl (fun c20 => ?_) (fun c20 => ?_)
            · skip
              refine g_iinc 50 (gd rfl) rfl rfl (Nat.le_of_ble_eq_true rfl) (fun z47 e47 => ?_)
              have i47 := in_add 1 160 e47 i12 (in_c 1 rfl) rfl rfl
              refine g_goto 7 (gd rfl) rfl ?_
              exact gg_w (by first | exact Nat.le_add_right _ _ | exact gw2 | exact gw3 | exact gwe rfl | exact gwf rfl | exact gwg rfl | exact gwh rfl | omega) (gg_f (gf_cons rfl (gf_cons rfl (gf_cons rfl gf_nil))) (ih7 sc7 z47 hIc7 hFc7 (in_w 0 160 i47 rfl) (m_up mm7 (t_add e47 i12 (in_c 1 rfl) rfl) (in_w 1 1 (in_c 1 rfl) rfl))))
            · skip
              exact zn_ne c20 (in_c 0 rfl) rfl
          · skip
            refine g_iconst 1 26 (gd rfl) rfl rfl ?_
            refine g_goto 30 (gd rfl) rfl ?_
            refine g_ireturn (gd rfl) rfl (nb01 (in_w 0 1 (in_c 1 rfl) rfl)) (hp17 _ _ ?_)
            show GG _ _ _ _ _ _ _ _ [.int (Int32.ofInt 1)] _ _ _
            refine g_if_eq 23 47 (gd rfl) rfl rfl (fun c20 => ?_) (fun c20 => ?_)
            · skip
              exact zn_eq c20 (in_c 1 rfl) rfl
            · skip
              refine g_aload_n 24 (gd rfl) rfl rfl ?_
              refine g_aload_n 25 (gd rfl) rfl rfl ?_
              refine g_getA (q2 := 4) 28 (gd rfl) rfl rfl rfl rfl ?_
              refine g_iload_n 29 (gd rfl) rfl rfl ?_
              refine g_iaload 30 (gd rfl) rfl (n := 160) rfl (in_ix i12 rfl) (fun z29 e29 => ?_)
              have q29 : z17x5 = z29 := (e17x5).trans e29.symm
              subst q29
              refine g_dup2 31 (gd rfl) rfl rfl rfl ?_
              refine g_iaload 32 (gd rfl) rfl (n := 32) rfl (in_ix i17x7 rfl) (fun z31 e31 => ?_)
              refine g_iconst 1 33 (gd rfl) rfl rfl ?_
              refine g_iadd 34 (gd rfl) rfl (fun z33 e33 => ?_)
              refine g_iastore 35 (gd rfl) rfl (n := 32) rfl (in_ix i17x7 rfl) ?_
              have hI34 := inv_sI (q := 59) (j := z17x5.toNatClampNeg) hIc7 rfl (in_w (-2147483648) 2147483647 (i_rng z33) rfl)
              refine g_aload_n 36 (gd rfl) rfl rfl ?_
              refine g_aload_n 37 (gd rfl) rfl rfl ?_
              refine g_getA (q2 := 5) 40 (gd rfl) rfl rfl rfl rfl ?_
              refine g_iload_n 41 (gd rfl) rfl rfl ?_
              refine g_iaload 42 (gd rfl) rfl (n := 160) rfl (in_ix i12 rfl) (fun z41 e41 => ?_)
              have q41 : z17x21 = z41 := (sI_ne rfl (e17x21)).trans e41.symm
              subst q41
              refine g_dup2 43 (gd rfl) rfl rfl rfl ?_
              refine g_iaload 44 (gd rfl) rfl (n := 32) rfl (in_ix i17x21 rfl) (fun z43 e43 => ?_)
              refine g_iconst 1 45 (gd rfl) rfl rfl ?_
              refine g_iadd 46 (gd rfl) rfl (fun z45 e45 => ?_)
              refine g_iastore 47 (gd rfl) rfl (n := 32) rfl (in_ix i17x21 rfl) ?_
              have hI46 := inv_sI (q := 59) (j := z17x21.toNatClampNeg) hI34 rfl (in_w (-2147483648) 2147483647 (i_rng z45) rfl)
              refine g_iinc 50 (gd rfl) rfl rfl (Nat.le_of_ble_eq_true rfl) (fun z47 e47 => ?_)
              have i47 := in_add 1 160 e47 i12 (in_c 1 rfl) rfl rfl
              refine g_goto 7 (gd rfl) rfl ?_
              exact gg_w (by first | exact Nat.le_add_right _ _ | exact gw2 | exact gw3 | exact gwe rfl | exact gwf rfl | exact gwg rfl | exact gwh rfl | omega) (gg_f (gf_cons rfl (gf_cons rfl (gf_cons rfl gf_nil))) (ih7 (sI (sI sc7 59 z17x5.toNatClampNeg z33) 59 z17x21.toNatClampNeg z45) z47 hI46 (fr_sI rfl (fr_sI rfl hFc7)) (in_w 0 160 i47 rfl) (m_up mm7 (t_add e47 i12 (in_c 1 rfl) rfl) (in_w 1 1 (in_c 1 rfl) rfl))))
  refine g_enter2 (k := 99) (N := 145801) (by first | exact dq1 hd rfl | exact dq0 hd rfl | exact dq2 hd rfl | exact dq3 hd rfl | omega) rfl (Nat.le_of_ble_eq_true rfl) ?_
  refine g_aload_n 1 (gd rfl) rfl rfl ?_
  refine g_iconst 0 2 (gd rfl) rfl rfl ?_
  refine g_calls (As := [.ref (A 59), .int (Int32.ofInt 0)]) (r := []) 5 (gd rfl) rfl rfl rfl rfl rfl (Nat.le_of_ble_eq_true rfl) (Nat.zero_le _) (Nat.zero_le _) (k_fillI 59 (by first | exact dq1 hd rfl | exact dq0 hd rfl | exact dq2 hd rfl | exact dq3 hd rfl | omega) hI (in_c 0 rfl) (n := 32) rfl rfl rfl rfl) (fun v u h => ?_)
  obtain ⟨s2, hI2, hF2, rfl, rfl, fl2⟩ := h
  show GG _ _ _ _ _ _ _ _ [] _ _ _
  refine g_iconst 0 6 (gd rfl) rfl rfl ?_
  refine g_istore_n 7 (gd rfl) rfl (Nat.le_of_ble_eq_true rfl) ?_
  exact gg_w (by first | exact Nat.le_of_ble_eq_true rfl | omega) (gg_f (gf_cons rfl (gf_cons rfl (gf_cons rfl gf_nil))) (ct7 161 s2 (Int32.ofInt 0) hI2 (fr_tr rfl fr_rf hF2) (in_w 0 160 (in_c 0 rfl) rfl) (m_in 161 (in_w 0 160 (in_c 0 rfl) rfl) rfl)))

def fm_99_2_91 : FM := ([91], [], [], [])
/-- GraphHouse$Graph.countJoints -/
theorem k_99_2_91 {Z : AmZ} {A : Nat → Nat} {s : GS} {ex : va_W} {d : Nat} {X : AmX}  (hd : 3 ≤ d) (hI : Inv s)  : GC Z d 99 [.ref (A 2), .ref (A 91)] (WW Z A s ++ ex) 0 0 (fun v u => ∃ t : GS, Inv t ∧ Fr fm_99_2_91 s t ∧ v = none ∧ u = WW Z A t ++ ex) X := by
  intro post xp hP hX
  obtain ⟨u_2_3, e_2_3⟩ : ∃ w, w = s.2.2.1 2 3 := ⟨_, rfl⟩
  have ro_2_3 := inv_F hI 0 160 rfl e_2_3
  have ct7 : ∀ (k7 : Nat) (sc7 : GS) (y7_2 : Int32), Inv sc7 → Fr fm_99_2_91 s sc7 → (In y7_2 0 160) → 160 - (y7_2).toInt < (k7 : Int) → GG Z (d - 1) 99 post (gx xp) (1 + k7 * 900) 7 (fun j => xlook j [(0, .ref (A 2)), (1, .ref (A 91)), (2, .int y7_2)]) [] (WW Z A sc7 ++ ex) 0 0 := by
    intro k7
    induction k7 with
    | zero => intro sc7 y7_2 hIc7 hFc7 j7_2 mm7; exact m_no mm7 j7_2 rfl
    | succ k7 ih7 =>
      intro sc7 y7_2 hIc7 hFc7 j7_2 mm7
      refine gg_w (M := 1 + k7 * 900 + 900) gws ?_
      refine g_iload_n 8 (gd rfl) rfl rfl ?_
      refine g_aload_n 9 (gd rfl) rfl rfl ?_
      refine g_getI 12 (gd rfl) rfl rfl rfl (fun z9 e9 => ?_)
      have q9 : u_2_3 = z9 := (fr_F e_2_3 hFc7 rfl).trans e9.symm
      subst q9
      refine g_cmp_ge 15 53 (gd rfl) rfl rfl (fun c12 => ?_) (fun c12 => ?_)
      · skip
        exact g_return (gd rfl) rfl (hP _ _ ⟨sc7, hIc7, hFc7, rfl, rfl⟩)
      · skip
        have i12 := r_lt1 0 159 c12 j7_2 ro_2_3 rfl
        have i12a := r_lt2 1 160 c12 j7_2 ro_2_3 rfl
        refine g_aload_n 16 (gd rfl) rfl rfl ?_
        refine g_iload_n 17 (gd rfl) rfl rfl ?_
        refine g_callv (X := _) (As := [.int y7_2]) (r := []) (b := A 2) (q := 2) 20 (gd rfl) rfl rfl rfl rfl rfl (ww_o rfl) (Nat.le_of_ble_eq_true rfl) (mc := 0) (ms := 0) (Nat.zero_le _) (Nat.zero_le _) (P := fun v u => _) ?_ (fun e u h => h) (fun v u h => h)
        intro po17 xx17 hp17 hx17
        refine g_enter2 (k := 97) (N := 300) (by first | exact dq1 hd rfl | exact dq0 hd rfl | exact dq2 hd rfl | exact dq3 hd rfl | omega) rfl (Nat.le_of_ble_eq_true rfl) ?_
        refine g_aload_n 1 (gd rfl) rfl rfl ?_
        refine g_getA (q2 := 4) 4 (gd rfl) rfl rfl rfl rfl ?_
        refine g_iload_n 5 (gd rfl) rfl rfl ?_
        refine g_iaload 6 (gd rfl) rfl (n := 160) rfl (in_ix i12 rfl) (fun z17x5 e17x5 => ?_)
        have i17x5 := inv_I hIc7 (n := 160) (t := 0) (-1) 31 rfl (in_ix i12 rfl) rfl e17x5
        refine g_iconst (-1) 7 (gd rfl) rfl rfl ?_
        refine g_cmp_eq 10 29 (gd rfl) rfl rfl (fun c17x7 => ?_) (fun c17x7 => ?_)
        · skip
          have i17x7 := r_eq1 (-1) (-1) c17x7 i17x5 (in_c (-1) rfl) rfl
          refine g_iconst 0 30 (gd rfl) rfl rfl ?_
          refine g_ireturn (gd rfl) rfl (nb01 (in_w 0 1 (in_c 0 rfl) rfl)) (hp17 _ _ ?_)
          show GG _ _ _ _ _ _ _ _ [.int (Int32.ofInt 0)] _ _ _
          refine g_if_eq 23 47 (gd rfl) rfl rfl (fun c20 => ?_) (fun c20 => ?_)
          · skip
            refine g_iinc 50 (gd rfl) rfl rfl (Nat.le_of_ble_eq_true rfl) (fun z47 e47 => ?_)
            have i47 := in_add 1 160 e47 i12 (in_c 1 rfl) rfl rfl
            refine g_goto 7 (gd rfl) rfl ?_
            exact gg_w (by first | exact Nat.le_add_right _ _ | exact gw2 | exact gw3 | exact gwe rfl | exact gwf rfl | exact gwg rfl | exact gwh rfl | omega) (gg_f (gf_cons rfl (gf_cons rfl (gf_cons rfl gf_nil))) (ih7 sc7 z47 hIc7 hFc7 (in_w 0 160 i47 rfl) (m_up mm7 (t_add e47 i12 (in_c 1 rfl) rfl) (in_w 1 1 (in_c 1 rfl) rfl))))
          · skip
            exact zn_ne c20 (in_c 0 rfl) rfl
        · skip
          have i17x7 := r_ne1 0 31 c17x7 i17x5 (in_c (-1) rfl) rfl
          refine g_aload_n 11 (gd rfl) rfl rfl ?_
          refine g_getA (q2 := 4) 14 (gd rfl) rfl rfl rfl rfl ?_
          refine g_iload_n 15 (gd rfl) rfl rfl ?_
          refine g_iaload 16 (gd rfl) rfl (n := 160) rfl (in_ix i12 rfl) (fun z17x15 e17x15 => ?_)
          have q17x15 : z17x5 = z17x15 := (e17x5).trans e17x15.symm
          subst q17x15
          refine g_aload_n 17 (gd rfl) rfl rfl ?_
          refine g_getA (q2 := 5) 20 (gd rfl) rfl rfl rfl rfl ?_
          refine g_iload_n 21 (gd rfl) rfl rfl ?_
          refine g_iaload 22 (gd rfl) rfl (n := 160) rfl (in_ix i12 rfl) (fun z17x21 e17x21 => ?_)
          have i17x21 := inv_I hIc7 (n := 160) (t := 0) 0 31 rfl (in_ix i12 rfl) rfl e17x21
          refine g_cmp_eq 25 29 (gd rfl) rfl rfl (fun c17x22 => ?_) (fun c17x22 => ?_)
          · skip
            refine g_iconst 0 30 (gd rfl) rfl rfl ?_
            refine g_ireturn (gd rfl) rfl (nb01 (in_w 0 1 (in_c 0 rfl) rfl)) (hp17 _ _ ?_)
            show GG _ _ _ _ _ _ _ _ [.int (Int32.ofInt 0)] _ _ _
            refine g_if_eq 23 47 (gd rfl) rfl rfl (fun c20 => ?_) (fun c20 => ?_)
            · skip
              refine g_iinc 50 (gd rfl) rfl rfl (Nat.le_of_ble_eq_true rfl) (fun z47 e47 => ?_)
              have i47 := in_add 1 160 e47 i12 (in_c 1 rfl) rfl rfl
              refine g_goto 7 (gd rfl) rfl ?_
              exact gg_w (by first | exact Nat.le_add_right _ _ | exact gw2 | exact gw3 | exact gwe rfl | exact gwf rfl | exact gwg rfl | exact gwh rfl | omega) (gg_f (gf_cons rfl (gf_cons rfl (gf_cons rfl gf_nil))) (ih7 sc7 z47 hIc7 hFc7 (in_w 0 160 i47 rfl) (m_up mm7 (t_add e47 i12 (in_c 1 rfl) rfl) (in_w 1 1 (in_c 1 rfl) rfl))))
            · skip
              exact zn_ne c20 (in_c 0 rfl) rfl
          · skip
            refine g_iconst 1 26 (gd rfl) rfl rfl ?_
            refine g_goto 30 (gd rfl) rfl ?_
            refine g_ireturn (gd rfl) rfl (nb01 (in_w 0 1 (in_c 1 rfl) rfl)) (hp17 _ _ ?_)
            show GG _ _ _ _ _ _ _ _ [.int (Int32.ofInt 1)] _ _ _
            refine g_if_eq 23 47 (gd rfl) rfl rfl (fun c20 => ?_) (fun c20 => ?_)
            · skip
              exact zn_eq c20 (in_c 1 rfl) rfl
            · skip
              refine g_aload_n 24 (gd rfl) rfl rfl ?_
              refine g_aload_n 25 (gd rfl) rfl rfl ?_
              refine g_getA (q2 := 4) 28 (gd rfl) rfl rfl rfl rfl ?_
              refine g_iload_n 29 (gd rfl) rfl rfl ?_
              refine g_iaload 30 (gd rfl) rfl (n := 160) rfl (in_ix i12 rfl) (fun z29 e29 => ?_)
              have q29 : z17x5 = z29 := (e17x5).trans e29.symm
              subst q29
              refine g_dup2 31 (gd rfl) rfl rfl rfl ?_
              refine g_iaload 32 (gd rfl) rfl (n := 32) rfl (in_ix i17x7 rfl) (fun z31 e31 => ?_)
              refine g_iconst 1 33 (gd rfl) rfl rfl ?_
              refine g_iadd 34 (gd rfl) rfl (fun z33 e33 => ?_)
              refine g_iastore 35 (gd rfl) rfl (n := 32) rfl (in_ix i17x7 rfl) ?_
              have hI34 := inv_sI (q := 91) (j := z17x5.toNatClampNeg) hIc7 rfl (in_w (-2147483648) 2147483647 (i_rng z33) rfl)
              refine g_aload_n 36 (gd rfl) rfl rfl ?_
              refine g_aload_n 37 (gd rfl) rfl rfl ?_
              refine g_getA (q2 := 5) 40 (gd rfl) rfl rfl rfl rfl ?_
              refine g_iload_n 41 (gd rfl) rfl rfl ?_
              refine g_iaload 42 (gd rfl) rfl (n := 160) rfl (in_ix i12 rfl) (fun z41 e41 => ?_)
              have q41 : z17x21 = z41 := (sI_ne rfl (e17x21)).trans e41.symm
              subst q41
              refine g_dup2 43 (gd rfl) rfl rfl rfl ?_
              refine g_iaload 44 (gd rfl) rfl (n := 32) rfl (in_ix i17x21 rfl) (fun z43 e43 => ?_)
              refine g_iconst 1 45 (gd rfl) rfl rfl ?_
              refine g_iadd 46 (gd rfl) rfl (fun z45 e45 => ?_)
              refine g_iastore 47 (gd rfl) rfl (n := 32) rfl (in_ix i17x21 rfl) ?_
              have hI46 := inv_sI (q := 91) (j := z17x21.toNatClampNeg) hI34 rfl (in_w (-2147483648) 2147483647 (i_rng z45) rfl)
              refine g_iinc 50 (gd rfl) rfl rfl (Nat.le_of_ble_eq_true rfl) (fun z47 e47 => ?_)
              have i47 := in_add 1 160 e47 i12 (in_c 1 rfl) rfl rfl
              refine g_goto 7 (gd rfl) rfl ?_
              exact gg_w (by first | exact Nat.le_add_right _ _ | exact gw2 | exact gw3 | exact gwe rfl | exact gwf rfl | exact gwg rfl | exact gwh rfl | omega) (gg_f (gf_cons rfl (gf_cons rfl (gf_cons rfl gf_nil))) (ih7 (sI (sI sc7 91 z17x5.toNatClampNeg z33) 91 z17x21.toNatClampNeg z45) z47 hI46 (fr_sI rfl (fr_sI rfl hFc7)) (in_w 0 160 i47 rfl) (m_up mm7 (t_add e47 i12 (in_c 1 rfl) rfl) (in_w 1 1 (in_c 1 rfl) rfl))))
  refine g_enter2 (k := 99) (N := 145801) (by first | exact dq1 hd rfl | exact dq0 hd rfl | exact dq2 hd rfl | exact dq3 hd rfl | omega) rfl (Nat.le_of_ble_eq_true rfl) ?_
  refine g_aload_n 1 (gd rfl) rfl rfl ?_
  refine g_iconst 0 2 (gd rfl) rfl rfl ?_
  refine g_calls (As := [.ref (A 91), .int (Int32.ofInt 0)]) (r := []) 5 (gd rfl) rfl rfl rfl rfl rfl (Nat.le_of_ble_eq_true rfl) (Nat.zero_le _) (Nat.zero_le _) (k_fillI 91 (by first | exact dq1 hd rfl | exact dq0 hd rfl | exact dq2 hd rfl | exact dq3 hd rfl | omega) hI (in_c 0 rfl) (n := 32) rfl rfl rfl rfl) (fun v u h => ?_)
  obtain ⟨s2, hI2, hF2, rfl, rfl, fl2⟩ := h
  show GG _ _ _ _ _ _ _ _ [] _ _ _
  refine g_iconst 0 6 (gd rfl) rfl rfl ?_
  refine g_istore_n 7 (gd rfl) rfl (Nat.le_of_ble_eq_true rfl) ?_
  exact gg_w (by first | exact Nat.le_of_ble_eq_true rfl | omega) (gg_f (gf_cons rfl (gf_cons rfl (gf_cons rfl gf_nil))) (ct7 161 s2 (Int32.ofInt 0) hI2 (fr_tr rfl fr_rf hF2) (in_w 0 160 (in_c 0 rfl) rfl) (m_in 161 (in_w 0 160 (in_c 0 rfl) rfl) rfl)))

def fm_99_32_59 : FM := ([59], [], [], [])
/-- GraphHouse$Graph.countJoints -/
theorem k_99_32_59 {Z : AmZ} {A : Nat → Nat} {s : GS} {ex : va_W} {d : Nat} {X : AmX}  (hd : 3 ≤ d) (hI : Inv s)  : GC Z d 99 [.ref (A 32), .ref (A 59)] (WW Z A s ++ ex) 0 0 (fun v u => ∃ t : GS, Inv t ∧ Fr fm_99_32_59 s t ∧ v = none ∧ u = WW Z A t ++ ex) X := by
  intro post xp hP hX
  obtain ⟨u_32_3, e_32_3⟩ : ∃ w, w = s.2.2.1 32 3 := ⟨_, rfl⟩
  have ro_32_3 := inv_F hI 0 160 rfl e_32_3
  have ct7 : ∀ (k7 : Nat) (sc7 : GS) (y7_2 : Int32), Inv sc7 → Fr fm_99_32_59 s sc7 → (In y7_2 0 160) → 160 - (y7_2).toInt < (k7 : Int) → GG Z (d - 1) 99 post (gx xp) (1 + k7 * 900) 7 (fun j => xlook j [(0, .ref (A 32)), (1, .ref (A 59)), (2, .int y7_2)]) [] (WW Z A sc7 ++ ex) 0 0 := by
    intro k7
    induction k7 with
    | zero => intro sc7 y7_2 hIc7 hFc7 j7_2 mm7; exact m_no mm7 j7_2 rfl
    | succ k7 ih7 =>
      intro sc7 y7_2 hIc7 hFc7 j7_2 mm7
      refine gg_w (M := 1 + k7 * 900 + 900) gws ?_
      refine g_iload_n 8 (gd rfl) rfl rfl ?_
      refine g_aload_n 9 (gd rfl) rfl rfl ?_
      refine g_getI 12 (gd rfl) rfl rfl rfl (fun z9 e9 => ?_)
      have q9 : u_32_3 = z9 := (fr_F e_32_3 hFc7 rfl).trans e9.symm
      subst q9
      refine g_cmp_ge 15 53 (gd rfl) rfl rfl (fun c12 => ?_) (fun c12 => ?_)
      · skip
        exact g_return (gd rfl) rfl (hP _ _ ⟨sc7, hIc7, hFc7, rfl, rfl⟩)
      · skip
        have i12 := r_lt1 0 159 c12 j7_2 ro_32_3 rfl
        have i12a := r_lt2 1 160 c12 j7_2 ro_32_3 rfl
        refine g_aload_n 16 (gd rfl) rfl rfl ?_
        refine g_iload_n 17 (gd rfl) rfl rfl ?_
        refine g_callv (X := _) (As := [.int y7_2]) (r := []) (b := A 32) (q := 32) 20 (gd rfl) rfl rfl rfl rfl rfl (ww_o rfl) (Nat.le_of_ble_eq_true rfl) (mc := 0) (ms := 0) (Nat.zero_le _) (Nat.zero_le _) (P := fun v u => _) ?_ (fun e u h => h) (fun v u h => h)
        intro po17 xx17 hp17 hx17
        refine g_enter2 (k := 97) (N := 300) (by first | exact dq1 hd rfl | exact dq0 hd rfl | exact dq2 hd rfl | exact dq3 hd rfl | omega) rfl (Nat.le_of_ble_eq_true rfl) ?_
        refine g_aload_n 1 (gd rfl) rfl rfl ?_
        refine g_getA (q2 := 34) 4 (gd rfl) rfl rfl rfl rfl ?_
        refine g_iload_n 5 (gd rfl) rfl rfl ?_
        refine g_iaload 6 (gd rfl) rfl (n := 160) rfl (in_ix i12 rfl) (fun z17x5 e17x5 => ?_)
        have i17x5 := inv_I hIc7 (n := 160) (t := 0) (-1) 31 rfl (in_ix i12 rfl) rfl e17x5
        refine g_iconst (-1) 7 (gd rfl) rfl rfl ?_
        refine g_cmp_eq 10 29 (gd rfl) rfl rfl (fun c17x7 => ?_) (fun c17x7 => ?_)
        · skip
          have i17x7 := r_eq1 (-1) (-1) c17x7 i17x5 (in_c (-1) rfl) rfl
          refine g_iconst 0 30 (gd rfl) rfl rfl ?_
          refine g_ireturn (gd rfl) rfl (nb01 (in_w 0 1 (in_c 0 rfl) rfl)) (hp17 _ _ ?_)
          show GG _ _ _ _ _ _ _ _ [.int (Int32.ofInt 0)] _ _ _
          refine g_if_eq 23 47 (gd rfl) rfl rfl (fun c20 => ?_) (fun c20 => ?_)
          · skip
            refine g_iinc 50 (gd rfl) rfl rfl (Nat.le_of_ble_eq_true rfl) (fun z47 e47 => ?_)
            have i47 := in_add 1 160 e47 i12 (in_c 1 rfl) rfl rfl
            refine g_goto 7 (gd rfl) rfl ?_
            exact gg_w (by first | exact Nat.le_add_right _ _ | exact gw2 | exact gw3 | exact gwe rfl | exact gwf rfl | exact gwg rfl | exact gwh rfl | omega) (gg_f (gf_cons rfl (gf_cons rfl (gf_cons rfl gf_nil))) (ih7 sc7 z47 hIc7 hFc7 (in_w 0 160 i47 rfl) (m_up mm7 (t_add e47 i12 (in_c 1 rfl) rfl) (in_w 1 1 (in_c 1 rfl) rfl))))
          · skip
            exact zn_ne c20 (in_c 0 rfl) rfl
        · skip
          have i17x7 := r_ne1 0 31 c17x7 i17x5 (in_c (-1) rfl) rfl
          refine g_aload_n 11 (gd rfl) rfl rfl ?_
          refine g_getA (q2 := 34) 14 (gd rfl) rfl rfl rfl rfl ?_
          refine g_iload_n 15 (gd rfl) rfl rfl ?_
          refine g_iaload 16 (gd rfl) rfl (n := 160) rfl (in_ix i12 rfl) (fun z17x15 e17x15 => ?_)
          have q17x15 : z17x5 = z17x15 := (e17x5).trans e17x15.symm
          subst q17x15
          refine g_aload_n 17 (gd rfl) rfl rfl ?_
          refine g_getA (q2 := 35) 20 (gd rfl) rfl rfl rfl rfl ?_
          refine g_iload_n 21 (gd rfl) rfl rfl ?_
          refine g_iaload 22 (gd rfl) rfl (n := 160) rfl (in_ix i12 rfl) (fun z17x21 e17x21 => ?_)
          have i17x21 := inv_I hIc7 (n := 160) (t := 0) 0 31 rfl (in_ix i12 rfl) rfl e17x21
          refine g_cmp_eq 25 29 (gd rfl) rfl rfl (fun c17x22 => ?_) (fun c17x22 => ?_)
          · skip
            refine g_iconst 0 30 (gd rfl) rfl rfl ?_
            refine g_ireturn (gd rfl) rfl (nb01 (in_w 0 1 (in_c 0 rfl) rfl)) (hp17 _ _ ?_)
            show GG _ _ _ _ _ _ _ _ [.int (Int32.ofInt 0)] _ _ _
            refine g_if_eq 23 47 (gd rfl) rfl rfl (fun c20 => ?_) (fun c20 => ?_)
            · skip
              refine g_iinc 50 (gd rfl) rfl rfl (Nat.le_of_ble_eq_true rfl) (fun z47 e47 => ?_)
              have i47 := in_add 1 160 e47 i12 (in_c 1 rfl) rfl rfl
              refine g_goto 7 (gd rfl) rfl ?_
              exact gg_w (by first | exact Nat.le_add_right _ _ | exact gw2 | exact gw3 | exact gwe rfl | exact gwf rfl | exact gwg rfl | exact gwh rfl | omega) (gg_f (gf_cons rfl (gf_cons rfl (gf_cons rfl gf_nil))) (ih7 sc7 z47 hIc7 hFc7 (in_w 0 160 i47 rfl) (m_up mm7 (t_add e47 i12 (in_c 1 rfl) rfl) (in_w 1 1 (in_c 1 rfl) rfl))))
            · skip
              exact zn_ne c20 (in_c 0 rfl) rfl
          · skip
            refine g_iconst 1 26 (gd rfl) rfl rfl ?_
            refine g_goto 30 (gd rfl) rfl ?_
            refine g_ireturn (gd rfl) rfl (nb01 (in_w 0 1 (in_c 1 rfl) rfl)) (hp17 _ _ ?_)
            show GG _ _ _ _ _ _ _ _ [.int (Int32.ofInt 1)] _ _ _
            refine g_if_eq 23 47 (gd rfl) rfl rfl (fun c20 => ?_) (fun c20 => ?_)
            · skip
              exact zn_eq c20 (in_c 1 rfl) rfl
            · skip
              refine g_aload_n 24 (gd rfl) rfl rfl ?_
              refine g_aload_n 25 (gd rfl) rfl rfl ?_
              refine g_getA (q2 := 34) 28 (gd rfl) rfl rfl rfl rfl ?_
              refine g_iload_n 29 (gd rfl) rfl rfl ?_
              refine g_iaload 30 (gd rfl) rfl (n := 160) rfl (in_ix i12 rfl) (fun z29 e29 => ?_)
              have q29 : z17x5 = z29 := (e17x5).trans e29.symm
              subst q29
              refine g_dup2 31 (gd rfl) rfl rfl rfl ?_
              refine g_iaload 32 (gd rfl) rfl (n := 32) rfl (in_ix i17x7 rfl) (fun z31 e31 => ?_)
              refine g_iconst 1 33 (gd rfl) rfl rfl ?_
              refine g_iadd 34 (gd rfl) rfl (fun z33 e33 => ?_)
              refine g_iastore 35 (gd rfl) rfl (n := 32) rfl (in_ix i17x7 rfl) ?_
              have hI34 := inv_sI (q := 59) (j := z17x5.toNatClampNeg) hIc7 rfl (in_w (-2147483648) 2147483647 (i_rng z33) rfl)
              refine g_aload_n 36 (gd rfl) rfl rfl ?_
              refine g_aload_n 37 (gd rfl) rfl rfl ?_
              refine g_getA (q2 := 35) 40 (gd rfl) rfl rfl rfl rfl ?_
              refine g_iload_n 41 (gd rfl) rfl rfl ?_
              refine g_iaload 42 (gd rfl) rfl (n := 160) rfl (in_ix i12 rfl) (fun z41 e41 => ?_)
              have q41 : z17x21 = z41 := (sI_ne rfl (e17x21)).trans e41.symm
              subst q41
              refine g_dup2 43 (gd rfl) rfl rfl rfl ?_
              refine g_iaload 44 (gd rfl) rfl (n := 32) rfl (in_ix i17x21 rfl) (fun z43 e43 => ?_)
              refine g_iconst 1 45 (gd rfl) rfl rfl ?_
              refine g_iadd 46 (gd rfl) rfl (fun z45 e45 => ?_)
              refine g_iastore 47 (gd rfl) rfl (n := 32) rfl (in_ix i17x21 rfl) ?_
              have hI46 := inv_sI (q := 59) (j := z17x21.toNatClampNeg) hI34 rfl (in_w (-2147483648) 2147483647 (i_rng z45) rfl)
              refine g_iinc 50 (gd rfl) rfl rfl (Nat.le_of_ble_eq_true rfl) (fun z47 e47 => ?_)
              have i47 := in_add 1 160 e47 i12 (in_c 1 rfl) rfl rfl
              refine g_goto 7 (gd rfl) rfl ?_
              exact gg_w (by first | exact Nat.le_add_right _ _ | exact gw2 | exact gw3 | exact gwe rfl | exact gwf rfl | exact gwg rfl | exact gwh rfl | omega) (gg_f (gf_cons rfl (gf_cons rfl (gf_cons rfl gf_nil))) (ih7 (sI (sI sc7 59 z17x5.toNatClampNeg z33) 59 z17x21.toNatClampNeg z45) z47 hI46 (fr_sI rfl (fr_sI rfl hFc7)) (in_w 0 160 i47 rfl) (m_up mm7 (t_add e47 i12 (in_c 1 rfl) rfl) (in_w 1 1 (in_c 1 rfl) rfl))))
  refine g_enter2 (k := 99) (N := 145801) (by first | exact dq1 hd rfl | exact dq0 hd rfl | exact dq2 hd rfl | exact dq3 hd rfl | omega) rfl (Nat.le_of_ble_eq_true rfl) ?_
  refine g_aload_n 1 (gd rfl) rfl rfl ?_
  refine g_iconst 0 2 (gd rfl) rfl rfl ?_
  refine g_calls (As := [.ref (A 59), .int (Int32.ofInt 0)]) (r := []) 5 (gd rfl) rfl rfl rfl rfl rfl (Nat.le_of_ble_eq_true rfl) (Nat.zero_le _) (Nat.zero_le _) (k_fillI 59 (by first | exact dq1 hd rfl | exact dq0 hd rfl | exact dq2 hd rfl | exact dq3 hd rfl | omega) hI (in_c 0 rfl) (n := 32) rfl rfl rfl rfl) (fun v u h => ?_)
  obtain ⟨s2, hI2, hF2, rfl, rfl, fl2⟩ := h
  show GG _ _ _ _ _ _ _ _ [] _ _ _
  refine g_iconst 0 6 (gd rfl) rfl rfl ?_
  refine g_istore_n 7 (gd rfl) rfl (Nat.le_of_ble_eq_true rfl) ?_
  exact gg_w (by first | exact Nat.le_of_ble_eq_true rfl | omega) (gg_f (gf_cons rfl (gf_cons rfl (gf_cons rfl gf_nil))) (ct7 161 s2 (Int32.ofInt 0) hI2 (fr_tr rfl fr_rf hF2) (in_w 0 160 (in_c 0 rfl) rfl) (m_in 161 (in_w 0 160 (in_c 0 rfl) rfl) rfl)))

def fm_99_32_91 : FM := ([91], [], [], [])
/-- GraphHouse$Graph.countJoints -/
theorem k_99_32_91 {Z : AmZ} {A : Nat → Nat} {s : GS} {ex : va_W} {d : Nat} {X : AmX}  (hd : 3 ≤ d) (hI : Inv s)  : GC Z d 99 [.ref (A 32), .ref (A 91)] (WW Z A s ++ ex) 0 0 (fun v u => ∃ t : GS, Inv t ∧ Fr fm_99_32_91 s t ∧ v = none ∧ u = WW Z A t ++ ex) X := by
  intro post xp hP hX
  obtain ⟨u_32_3, e_32_3⟩ : ∃ w, w = s.2.2.1 32 3 := ⟨_, rfl⟩
  have ro_32_3 := inv_F hI 0 160 rfl e_32_3
  have ct7 : ∀ (k7 : Nat) (sc7 : GS) (y7_2 : Int32), Inv sc7 → Fr fm_99_32_91 s sc7 → (In y7_2 0 160) → 160 - (y7_2).toInt < (k7 : Int) → GG Z (d - 1) 99 post (gx xp) (1 + k7 * 900) 7 (fun j => xlook j [(0, .ref (A 32)), (1, .ref (A 91)), (2, .int y7_2)]) [] (WW Z A sc7 ++ ex) 0 0 := by
    intro k7
    induction k7 with
    | zero => intro sc7 y7_2 hIc7 hFc7 j7_2 mm7; exact m_no mm7 j7_2 rfl
    | succ k7 ih7 =>
      intro sc7 y7_2 hIc7 hFc7 j7_2 mm7
      refine gg_w (M := 1 + k7 * 900 + 900) gws ?_
      refine g_iload_n 8 (gd rfl) rfl rfl ?_
      refine g_aload_n 9 (gd rfl) rfl rfl ?_
      refine g_getI 12 (gd rfl) rfl rfl rfl (fun z9 e9 => ?_)
      have q9 : u_32_3 = z9 := (fr_F e_32_3 hFc7 rfl).trans e9.symm
      subst q9
      refine g_cmp_ge 15 53 (gd rfl) rfl rfl (fun c12 => ?_) (fun c12 => ?_)
      · skip
        exact g_return (gd rfl) rfl (hP _ _ ⟨sc7, hIc7, hFc7, rfl, rfl⟩)
      · skip
        have i12 := r_lt1 0 159 c12 j7_2 ro_32_3 rfl
        have i12a := r_lt2 1 160 c12 j7_2 ro_32_3 rfl
        refine g_aload_n 16 (gd rfl) rfl rfl ?_
        refine g_iload_n 17 (gd rfl) rfl rfl ?_
        refine g_callv (X := _) (As := [.int y7_2]) (r := []) (b := A 32) (q := 32) 20 (gd rfl) rfl rfl rfl rfl rfl (ww_o rfl) (Nat.le_of_ble_eq_true rfl) (mc := 0) (ms := 0) (Nat.zero_le _) (Nat.zero_le _) (P := fun v u => _) ?_ (fun e u h => h) (fun v u h => h)
        intro po17 xx17 hp17 hx17
        refine g_enter2 (k := 97) (N := 300) (by first | exact dq1 hd rfl | exact dq0 hd rfl | exact dq2 hd rfl | exact dq3 hd rfl | omega) rfl (Nat.le_of_ble_eq_true rfl) ?_
        refine g_aload_n 1 (gd rfl) rfl rfl ?_
        refine g_getA (q2 := 34) 4 (gd rfl) rfl rfl rfl rfl ?_
        refine g_iload_n 5 (gd rfl) rfl rfl ?_
        refine g_iaload 6 (gd rfl) rfl (n := 160) rfl (in_ix i12 rfl) (fun z17x5 e17x5 => ?_)
        have i17x5 := inv_I hIc7 (n := 160) (t := 0) (-1) 31 rfl (in_ix i12 rfl) rfl e17x5
        refine g_iconst (-1) 7 (gd rfl) rfl rfl ?_
        refine g_cmp_eq 10 29 (gd rfl) rfl rfl (fun c17x7 => ?_) (fun c17x7 => ?_)
        · skip
          have i17x7 := r_eq1 (-1) (-1) c17x7 i17x5 (in_c (-1) rfl) rfl
          refine g_iconst 0 30 (gd rfl) rfl rfl ?_
          refine g_ireturn (gd rfl) rfl (nb01 (in_w 0 1 (in_c 0 rfl) rfl)) (hp17 _ _ ?_)
          show GG _ _ _ _ _ _ _ _ [.int (Int32.ofInt 0)] _ _ _
          refine g_if_eq 23 47 (gd rfl) rfl rfl (fun c20 => ?_) (fun c20 => ?_)
          · skip
            refine g_iinc 50 (gd rfl) rfl rfl (Nat.le_of_ble_eq_true rfl) (fun z47 e47 => ?_)
            have i47 := in_add 1 160 e47 i12 (in_c 1 rfl) rfl rfl
            refine g_goto 7 (gd rfl) rfl ?_
            exact gg_w (by first | exact Nat.le_add_right _ _ | exact gw2 | exact gw3 | exact gwe rfl | exact gwf rfl | exact gwg rfl | exact gwh rfl | omega) (gg_f (gf_cons rfl (gf_cons rfl (gf_cons rfl gf_nil))) (ih7 sc7 z47 hIc7 hFc7 (in_w 0 160 i47 rfl) (m_up mm7 (t_add e47 i12 (in_c 1 rfl) rfl) (in_w 1 1 (in_c 1 rfl) rfl))))
          · skip
            exact zn_ne c20 (in_c 0 rfl) rfl
        · skip
          have i17x7 := r_ne1 0 31 c17x7 i17x5 (in_c (-1) rfl) rfl
          refine g_aload_n 11 (gd rfl) rfl rfl ?_
          refine g_getA (q2 := 34) 14 (gd rfl) rfl rfl rfl rfl ?_
          refine g_iload_n 15 (gd rfl) rfl rfl ?_
          refine g_iaload 16 (gd rfl) rfl (n := 160) rfl (in_ix i12 rfl) (fun z17x15 e17x15 => ?_)
          have q17x15 : z17x5 = z17x15 := (e17x5).trans e17x15.symm
          subst q17x15
          refine g_aload_n 17 (gd rfl) rfl rfl ?_
          refine g_getA (q2 := 35) 20 (gd rfl) rfl rfl rfl rfl ?_
          refine g_iload_n 21 (gd rfl) rfl rfl ?_
          refine g_iaload 22 (gd rfl) rfl (n := 160) rfl (in_ix i12 rfl) (fun z17x21 e17x21 => ?_)
          have i17x21 := inv_I hIc7 (n := 160) (t := 0) 0 31 rfl (in_ix i12 rfl) rfl e17x21
          refine g_cmp_eq 25 29 (gd rfl) rfl rfl (fun c17x22 => ?_) (fun c17x22 => ?_)
          · skip
            refine g_iconst 0 30 (gd rfl) rfl rfl ?_
            refine g_ireturn (gd rfl) rfl (nb01 (in_w 0 1 (in_c 0 rfl) rfl)) (hp17 _ _ ?_)
            show GG _ _ _ _ _ _ _ _ [.int (Int32.ofInt 0)] _ _ _
            refine g_if_eq 23 47 (gd rfl) rfl rfl (fun c20 => ?_) (fun c20 => ?_)
            · skip
              refine g_iinc 50 (gd rfl) rfl rfl (Nat.le_of_ble_eq_true rfl) (fun z47 e47 => ?_)
              have i47 := in_add 1 160 e47 i12 (in_c 1 rfl) rfl rfl
              refine g_goto 7 (gd rfl) rfl ?_
              exact gg_w (by first | exact Nat.le_add_right _ _ | exact gw2 | exact gw3 | exact gwe rfl | exact gwf rfl | exact gwg rfl | exact gwh rfl | omega) (gg_f (gf_cons rfl (gf_cons rfl (gf_cons rfl gf_nil))) (ih7 sc7 z47 hIc7 hFc7 (in_w 0 160 i47 rfl) (m_up mm7 (t_add e47 i12 (in_c 1 rfl) rfl) (in_w 1 1 (in_c 1 rfl) rfl))))
            · skip
              exact zn_ne c20 (in_c 0 rfl) rfl
          · skip
            refine g_iconst 1 26 (gd rfl) rfl rfl ?_
            refine g_goto 30 (gd rfl) rfl ?_
            refine g_ireturn (gd rfl) rfl (nb01 (in_w 0 1 (in_c 1 rfl) rfl)) (hp17 _ _ ?_)
            show GG _ _ _ _ _ _ _ _ [.int (Int32.ofInt 1)] _ _ _
            refine g_if_eq 23 47 (gd rfl) rfl rfl (fun c20 => ?_) (fun c20 => ?_)
            · skip
              exact zn_eq c20 (in_c 1 rfl) rfl
            · skip
              refine g_aload_n 24 (gd rfl) rfl rfl ?_
              refine g_aload_n 25 (gd rfl) rfl rfl ?_
              refine g_getA (q2 := 34) 28 (gd rfl) rfl rfl rfl rfl ?_
              refine g_iload_n 29 (gd rfl) rfl rfl ?_
              refine g_iaload 30 (gd rfl) rfl (n := 160) rfl (in_ix i12 rfl) (fun z29 e29 => ?_)
              have q29 : z17x5 = z29 := (e17x5).trans e29.symm
              subst q29
              refine g_dup2 31 (gd rfl) rfl rfl rfl ?_
              refine g_iaload 32 (gd rfl) rfl (n := 32) rfl (in_ix i17x7 rfl) (fun z31 e31 => ?_)
              refine g_iconst 1 33 (gd rfl) rfl rfl ?_
              refine g_iadd 34 (gd rfl) rfl (fun z33 e33 => ?_)
              refine g_iastore 35 (gd rfl) rfl (n := 32) rfl (in_ix i17x7 rfl) ?_
              have hI34 := inv_sI (q := 91) (j := z17x5.toNatClampNeg) hIc7 rfl (in_w (-2147483648) 2147483647 (i_rng z33) rfl)
              refine g_aload_n 36 (gd rfl) rfl rfl ?_
              refine g_aload_n 37 (gd rfl) rfl rfl ?_
              refine g_getA (q2 := 35) 40 (gd rfl) rfl rfl rfl rfl ?_
              refine g_iload_n 41 (gd rfl) rfl rfl ?_
              refine g_iaload 42 (gd rfl) rfl (n := 160) rfl (in_ix i12 rfl) (fun z41 e41 => ?_)
              have q41 : z17x21 = z41 := (sI_ne rfl (e17x21)).trans e41.symm
              subst q41
              refine g_dup2 43 (gd rfl) rfl rfl rfl ?_
              refine g_iaload 44 (gd rfl) rfl (n := 32) rfl (in_ix i17x21 rfl) (fun z43 e43 => ?_)
              refine g_iconst 1 45 (gd rfl) rfl rfl ?_
              refine g_iadd 46 (gd rfl) rfl (fun z45 e45 => ?_)
              refine g_iastore 47 (gd rfl) rfl (n := 32) rfl (in_ix i17x21 rfl) ?_
              have hI46 := inv_sI (q := 91) (j := z17x21.toNatClampNeg) hI34 rfl (in_w (-2147483648) 2147483647 (i_rng z45) rfl)
              refine g_iinc 50 (gd rfl) rfl rfl (Nat.le_of_ble_eq_true rfl) (fun z47 e47 => ?_)
              have i47 := in_add 1 160 e47 i12 (in_c 1 rfl) rfl rfl
              refine g_goto 7 (gd rfl) rfl ?_
              exact gg_w (by first | exact Nat.le_add_right _ _ | exact gw2 | exact gw3 | exact gwe rfl | exact gwf rfl | exact gwg rfl | exact gwh rfl | omega) (gg_f (gf_cons rfl (gf_cons rfl (gf_cons rfl gf_nil))) (ih7 (sI (sI sc7 91 z17x5.toNatClampNeg z33) 91 z17x21.toNatClampNeg z45) z47 hI46 (fr_sI rfl (fr_sI rfl hFc7)) (in_w 0 160 i47 rfl) (m_up mm7 (t_add e47 i12 (in_c 1 rfl) rfl) (in_w 1 1 (in_c 1 rfl) rfl))))
  refine g_enter2 (k := 99) (N := 145801) (by first | exact dq1 hd rfl | exact dq0 hd rfl | exact dq2 hd rfl | exact dq3 hd rfl | omega) rfl (Nat.le_of_ble_eq_true rfl) ?_
  refine g_aload_n 1 (gd rfl) rfl rfl ?_
  refine g_iconst 0 2 (gd rfl) rfl rfl ?_
  refine g_calls (As := [.ref (A 91), .int (Int32.ofInt 0)]) (r := []) 5 (gd rfl) rfl rfl rfl rfl rfl (Nat.le_of_ble_eq_true rfl) (Nat.zero_le _) (Nat.zero_le _) (k_fillI 91 (by first | exact dq1 hd rfl | exact dq0 hd rfl | exact dq2 hd rfl | exact dq3 hd rfl | omega) hI (in_c 0 rfl) (n := 32) rfl rfl rfl rfl) (fun v u h => ?_)
  obtain ⟨s2, hI2, hF2, rfl, rfl, fl2⟩ := h
  show GG _ _ _ _ _ _ _ _ [] _ _ _
  refine g_iconst 0 6 (gd rfl) rfl rfl ?_
  refine g_istore_n 7 (gd rfl) rfl (Nat.le_of_ble_eq_true rfl) ?_
  exact gg_w (by first | exact Nat.le_of_ble_eq_true rfl | omega) (gg_f (gf_cons rfl (gf_cons rfl (gf_cons rfl gf_nil))) (ct7 161 s2 (Int32.ofInt 0) hI2 (fr_tr rfl fr_rf hF2) (in_w 0 160 (in_c 0 rfl) rfl) (m_in 161 (in_w 0 160 (in_c 0 rfl) rfl) rfl)))

def fm_114_86_2 : FM := ([9, 10, 11, 12, 13, 14, 15, 89, 90, 91, 92], [], [(2, 4), (86, 5)], [])
/-- GraphHouse$Groups.begin -/
theorem k_114_86_2 {Z : AmZ} {A : Nat → Nat} {s : GS} {ex : va_W} {d : Nat} {X : AmX}  (hd : 4 ≤ d) (hI : Inv s)  : GC Z d 114 [.ref (A 86), .ref (A 2)] (WW Z A s ++ ex) 0 0 (fun v u => ∃ t : GS, Inv t ∧ Fr fm_114_86_2 s t ∧ ((t.2.2.1 2 4).toInt = (t.2.2.1 2 0).toInt) ∧ v = none ∧ u = WW Z A t ++ ex) X := by
  intro post xp hP hX
  obtain ⟨u_2_1, e_2_1⟩ : ∃ w, w = s.2.2.1 2 1 := ⟨_, rfl⟩
  have ro_2_1 := inv_F hI 0 32 rfl e_2_1
  have ct30 : ∀ (k30 : Nat) (sc30 : GS) (y30_2 : Int32) (w30_2_4 : Int32) (w30_2_0 : Int32), Inv sc30 → Fr fm_114_86_2 s sc30 → (In y30_2 0 32) → (w30_2_4 = sc30.2.2.1 2 4) → (w30_2_0 = sc30.2.2.1 2 0) → ((w30_2_4).toInt = (w30_2_0).toInt) → 32 - (y30_2).toInt < (k30 : Int) → GG Z (d - 1) 114 post (gx xp) (1 + k30 * 900) 30 (fun j => xlook j [(0, .ref (A 86)), (1, .ref (A 2)), (2, .int y30_2)]) [] (WW Z A sc30 ++ ex) 0 0 := by
    intro k30
    induction k30 with
    | zero => intro sc30 y30_2 w30_2_4 w30_2_0 hIc30 hFc30 j30_2 v30_2_4 v30_2_0 n30_0 mm30; exact m_no mm30 j30_2 rfl
    | succ k30 ih30 =>
      intro sc30 y30_2 w30_2_4 w30_2_0 hIc30 hFc30 j30_2 v30_2_4 v30_2_0 n30_0 mm30
      refine gg_w (M := 1 + k30 * 900 + 900) gws ?_
      refine g_iload_n 31 (gd rfl) rfl rfl ?_
      refine g_aload_n 32 (gd rfl) rfl rfl ?_
      refine g_getI 35 (gd rfl) rfl rfl rfl (fun z32 e32 => ?_)
      have q32 : u_2_1 = z32 := (fr_F e_2_1 hFc30 rfl).trans e32.symm
      subst q32
      refine g_cmp_ge 38 72 (gd rfl) rfl rfl (fun c35 => ?_) (fun c35 => ?_)
      · skip
        have n72 : (w30_2_4).toInt = (w30_2_0).toInt := by first | exact n30_0 | ((first | have a0 := oa4 ro_2_1 ((inv_F hIc30 0 4000 rfl v30_2_0)) ((inv_F hIc30 (-1) 4000 rfl v30_2_4)) j30_2 | ((first | have a0 := in_u ro_2_1 | (have a0 := ro_2_1; unfold In at a0)); (first | have a1 := in_u ((inv_F hIc30 0 4000 rfl v30_2_0)) | (have a1 := (inv_F hIc30 0 4000 rfl v30_2_0); unfold In at a1)); (first | have a2 := in_u ((inv_F hIc30 (-1) 4000 rfl v30_2_4)) | (have a2 := (inv_F hIc30 (-1) 4000 rfl v30_2_4); unfold In at a2)); (first | have a3 := in_u j30_2 | (have a3 := j30_2; unfold In at a3)))); omega)
        have n72a : (sc30.2.2.1 2 4).toInt = (sc30.2.2.1 2 0).toInt := by have b0 : w30_2_4 = sc30.2.2.1 2 4 := v30_2_4; have b1 : w30_2_0 = sc30.2.2.1 2 0 := v30_2_0; rw [← b0, ← b1]; exact n72
        exact g_return (gd rfl) rfl (hP _ _ ⟨sc30, hIc30, hFc30, n72a, rfl, rfl⟩)
      · skip
        have i35 := r_lt1 0 31 c35 j30_2 ro_2_1 rfl
        have i35a := r_lt2 1 32 c35 j30_2 ro_2_1 rfl
        refine g_aload_n 39 (gd rfl) rfl rfl ?_
        refine g_getA (q2 := 89) 42 (gd rfl) rfl rfl rfl rfl ?_
        refine g_iload_n 43 (gd rfl) rfl rfl ?_
        refine g_iload_n 44 (gd rfl) rfl rfl ?_
        refine g_iastore 45 (gd rfl) rfl (n := 32) rfl (in_ix i35 rfl) ?_
        have hI44 := inv_sI (q := 89) (j := y30_2.toNatClampNeg) hIc30 rfl (in_w 0 31 i35 rfl)
        refine g_aload_n 46 (gd rfl) rfl rfl ?_
        refine g_getA (q2 := 90) 49 (gd rfl) rfl rfl rfl rfl ?_
        refine g_iload_n 50 (gd rfl) rfl rfl ?_
        refine g_iconst 1 51 (gd rfl) rfl rfl ?_
        refine g_iload_n 52 (gd rfl) rfl rfl ?_
        refine g_ishl 53 (gd rfl) rfl (fun z52 e52 => ?_)
        refine g_iastore 54 (gd rfl) rfl (n := 32) rfl (in_ix i35 rfl) ?_
        have hI53 := inv_sI (q := 90) (j := y30_2.toNatClampNeg) hI44 rfl (in_w (-2147483648) 2147483647 (i_rng z52) rfl)
        refine g_aload_n 55 (gd rfl) rfl rfl ?_
        refine g_getA (q2 := 92) 58 (gd rfl) rfl rfl rfl rfl ?_
        refine g_iload_n 59 (gd rfl) rfl rfl ?_
        refine g_aload_n 60 (gd rfl) rfl rfl ?_
        refine g_getA (q2 := 91) 63 (gd rfl) rfl rfl rfl rfl ?_
        refine g_iload_n 64 (gd rfl) rfl rfl ?_
        refine g_iaload 65 (gd rfl) rfl (n := 32) rfl (in_ix i35 rfl) (fun z64 e64 => ?_)
        refine g_iastore 66 (gd rfl) rfl (n := 32) rfl (in_ix i35 rfl) ?_
        have hI65 := inv_sI (q := 92) (j := y30_2.toNatClampNeg) hI53 rfl (in_w (-2147483648) 2147483647 (i_rng z64) rfl)
        refine g_iinc 69 (gd rfl) rfl rfl (Nat.le_of_ble_eq_true rfl) (fun z66 e66 => ?_)
        have i66 := in_add 1 32 e66 i35 (in_c 1 rfl) rfl rfl
        refine g_goto 30 (gd rfl) rfl ?_
        have v30 : w30_2_4 = (sI (sI (sI sc30 89 y30_2.toNatClampNeg y30_2) 90 y30_2.toNatClampNeg z52) 92 y30_2.toNatClampNeg z64).2.2.1 2 4 := sI_F (sI_F (sI_F (v30_2_4)))
        have v30a : w30_2_0 = (sI (sI (sI sc30 89 y30_2.toNatClampNeg y30_2) 90 y30_2.toNatClampNeg z52) 92 y30_2.toNatClampNeg z64).2.2.1 2 0 := sI_F (sI_F (sI_F (v30_2_0)))
        have n30 : (w30_2_4).toInt = (w30_2_0).toInt := by first | exact n30_0 | ((first | have a0 := oa5 i35a ((inv_F hIc30 0 4000 rfl v30_2_0)) ((inv_F hIc30 (-1) 4000 rfl v30_2_4)) i35 i66 | ((first | have a0 := in_u i35a | (have a0 := i35a; unfold In at a0)); (first | have a1 := in_u ((inv_F hIc30 0 4000 rfl v30_2_0)) | (have a1 := (inv_F hIc30 0 4000 rfl v30_2_0); unfold In at a1)); (first | have a2 := in_u ((inv_F hIc30 (-1) 4000 rfl v30_2_4)) | (have a2 := (inv_F hIc30 (-1) 4000 rfl v30_2_4); unfold In at a2)); (first | have a3 := in_u i35 | (have a3 := i35; unfold In at a3)); (first | have a4 := in_u i66 | (have a4 := i66; unfold In at a4)))); have a5 := t_add e66 i35 (in_c 1 rfl) rfl; (first | have a6 := in_u ((in_c 1 rfl)) | (have a6 := (in_c 1 rfl); unfold In at a6)); omega)
        exact gg_w (by first | exact Nat.le_add_right _ _ | exact gw2 | exact gw3 | exact gwe rfl | exact gwf rfl | exact gwg rfl | exact gwh rfl | omega) (gg_f (gf_cons rfl (gf_cons rfl (gf_cons rfl gf_nil))) (ih30 (sI (sI (sI sc30 89 y30_2.toNatClampNeg y30_2) 90 y30_2.toNatClampNeg z52) 92 y30_2.toNatClampNeg z64) z66 w30_2_4 w30_2_0 hI65 (fr_sI rfl (fr_sI rfl (fr_sI rfl hFc30))) (in_w 0 32 i66 rfl) v30 v30a n30 (m_up mm30 (t_add e66 i35 (in_c 1 rfl) rfl) (in_w 1 1 (in_c 1 rfl) rfl))))
  refine g_enter2 (k := 114) (N := 30601) (by first | exact dq1 hd rfl | exact dq0 hd rfl | exact dq2 hd rfl | exact dq3 hd rfl | omega) rfl (Nat.le_of_ble_eq_true rfl) ?_
  refine g_aload_n 1 (gd rfl) rfl rfl ?_
  refine g_callv (X := _) (As := []) (r := []) (b := A 2) (q := 2) 4 (gd rfl) rfl rfl rfl rfl rfl (ww_o rfl) (Nat.le_of_ble_eq_true rfl) (Nat.zero_le _) (Nat.zero_le _) (k_106_2 (by first | exact dq1 hd rfl | exact dq0 hd rfl | exact dq2 hd rfl | exact dq3 hd rfl | omega) hI ) (fun e u h => h) (fun v u h => ?_)
  obtain ⟨s1, hI1, hF1, n1, rfl, rfl⟩ := h
  obtain ⟨z1a, e1⟩ : ∃ w, w = s1.2.2.1 2 4 := ⟨_, rfl⟩
  have i1a := inv_F hI1 (-1) 4000 rfl e1
  obtain ⟨z1b, e1a⟩ : ∃ w, w = s1.2.2.1 2 0 := ⟨_, rfl⟩
  have i1b := inv_F hI1 0 4000 rfl e1a
  rw [← (show z1a = s1.2.2.1 2 4 from e1)] at n1
  rw [← (show z1b = s1.2.2.1 2 0 from e1a)] at n1
  show GG _ _ _ _ _ _ _ _ [] _ _ _
  refine g_aload_n 5 (gd rfl) rfl rfl ?_
  refine g_aload_n 6 (gd rfl) rfl rfl ?_
  refine g_callv (X := _) (As := []) (r := [.ref (A 86)]) (b := A 2) (q := 2) 9 (gd rfl) rfl rfl rfl rfl rfl (ww_o rfl) (Nat.le_of_ble_eq_true rfl) (Nat.zero_le _) (Nat.zero_le _) (k_98_2 (by first | exact dq1 hd rfl | exact dq0 hd rfl | exact dq2 hd rfl | exact dq3 hd rfl | omega) hI1 ) (fun e u h => h) (fun v u h => ?_)
  obtain ⟨z6, rfl, rfl, i6⟩ := h
  show GG _ _ _ _ _ _ _ _ [.int z6, .ref (A 86)] _ _ _
  refine g_putI 12 (gd rfl) rfl rfl rfl rfl ?_
  have hI9 := inv_sF (q := 86) (j := 5) hI1 rfl (in_w 0 160 i6 rfl)
  refine g_aload_n 13 (gd rfl) rfl rfl ?_
  refine g_aload_n 14 (gd rfl) rfl rfl ?_
  refine g_getA (q2 := 91) 17 (gd rfl) rfl rfl rfl rfl ?_
  refine g_callv (X := _) (As := [.ref (A 91)]) (r := []) (b := A 2) (q := 2) 20 (gd rfl) rfl rfl rfl rfl rfl (ww_o rfl) (Nat.le_of_ble_eq_true rfl) (Nat.zero_le _) (Nat.zero_le _) (k_99_2_91 (by first | exact dq1 hd rfl | exact dq0 hd rfl | exact dq2 hd rfl | exact dq3 hd rfl | omega) hI9 ) (fun e u h => h) (fun v u h => ?_)
  obtain ⟨s17, hI17, hF17, rfl, rfl⟩ := h
  show GG _ _ _ _ _ _ _ _ [] _ _ _
  refine g_aload_n 21 (gd rfl) rfl rfl ?_
  refine g_getA (q2 := 90) 24 (gd rfl) rfl rfl rfl rfl ?_
  refine g_iconst 0 25 (gd rfl) rfl rfl ?_
  refine g_calls (As := [.ref (A 90), .int (Int32.ofInt 0)]) (r := []) 28 (gd rfl) rfl rfl rfl rfl rfl (Nat.le_of_ble_eq_true rfl) (Nat.zero_le _) (Nat.zero_le _) (k_fillI 90 (by first | exact dq1 hd rfl | exact dq0 hd rfl | exact dq2 hd rfl | exact dq3 hd rfl | omega) hI17 (in_c 0 rfl) (n := 32) rfl rfl rfl rfl) (fun v u h => ?_)
  obtain ⟨s25, hI25, hF25, rfl, rfl, fl25⟩ := h
  show GG _ _ _ _ _ _ _ _ [] _ _ _
  refine g_iconst 0 29 (gd rfl) rfl rfl ?_
  refine g_istore_n 30 (gd rfl) rfl (Nat.le_of_ble_eq_true rfl) ?_
  have v30 : z1a = s25.2.2.1 2 4 := fr_F (fr_F (s := (sF s1 86 5 z6)) (sF_ne rfl (e1)) hF17 rfl) hF25 rfl
  have v30a : z1b = s25.2.2.1 2 0 := fr_F (fr_F (s := (sF s1 86 5 z6)) (sF_ne rfl (e1a)) hF17 rfl) hF25 rfl
  have n30 : (z1a).toInt = (z1b).toInt := by (first | have a0 := oa5 ro_2_1 ((in_c 0 rfl)) i6 i1b i1a | ((first | have a0 := in_u ro_2_1 | (have a0 := ro_2_1; unfold In at a0)); (first | have a1 := in_u ((in_c 0 rfl)) | (have a1 := (in_c 0 rfl); unfold In at a1)); (first | have a2 := in_u i6 | (have a2 := i6; unfold In at a2)); (first | have a3 := in_u i1b | (have a3 := i1b; unfold In at a3)); (first | have a4 := in_u i1a | (have a4 := i1a; unfold In at a4)))); omega
  exact gg_w (by first | exact Nat.le_of_ble_eq_true rfl | omega) (gg_f (gf_cons rfl (gf_cons rfl (gf_cons rfl gf_nil))) (ct30 33 s25 (Int32.ofInt 0) z1a z1b hI25 (fr_tr rfl (fr_tr rfl (fr_sF rfl (fr_tr rfl fr_rf hF1)) hF17) hF25) (in_w 0 32 (in_c 0 rfl) rfl) v30 v30a n30 (m_in 33 (in_w 0 32 (in_c 0 rfl) rfl) rfl)))

def fm_114_86_32 : FM := ([39, 40, 41, 42, 43, 44, 45, 89, 90, 91, 92], [], [(32, 4), (86, 5)], [])
/-- GraphHouse$Groups.begin -/
theorem k_114_86_32 {Z : AmZ} {A : Nat → Nat} {s : GS} {ex : va_W} {d : Nat} {X : AmX}  (hd : 4 ≤ d) (hI : Inv s)  : GC Z d 114 [.ref (A 86), .ref (A 32)] (WW Z A s ++ ex) 0 0 (fun v u => ∃ t : GS, Inv t ∧ Fr fm_114_86_32 s t ∧ ((t.2.2.1 32 4).toInt = (t.2.2.1 32 0).toInt) ∧ v = none ∧ u = WW Z A t ++ ex) X := by
  intro post xp hP hX
  obtain ⟨u_32_1, e_32_1⟩ : ∃ w, w = s.2.2.1 32 1 := ⟨_, rfl⟩
  have ro_32_1 := inv_F hI 0 32 rfl e_32_1
  have ct30 : ∀ (k30 : Nat) (sc30 : GS) (y30_2 : Int32) (w30_32_4 : Int32) (w30_32_0 : Int32), Inv sc30 → Fr fm_114_86_32 s sc30 → (In y30_2 0 32) → (w30_32_4 = sc30.2.2.1 32 4) → (w30_32_0 = sc30.2.2.1 32 0) → ((w30_32_4).toInt = (w30_32_0).toInt) → 32 - (y30_2).toInt < (k30 : Int) → GG Z (d - 1) 114 post (gx xp) (1 + k30 * 900) 30 (fun j => xlook j [(0, .ref (A 86)), (1, .ref (A 32)), (2, .int y30_2)]) [] (WW Z A sc30 ++ ex) 0 0 := by
    intro k30
    induction k30 with
    | zero => intro sc30 y30_2 w30_32_4 w30_32_0 hIc30 hFc30 j30_2 v30_32_4 v30_32_0 n30_0 mm30; exact m_no mm30 j30_2 rfl
    | succ k30 ih30 =>
      intro sc30 y30_2 w30_32_4 w30_32_0 hIc30 hFc30 j30_2 v30_32_4 v30_32_0 n30_0 mm30
      refine gg_w (M := 1 + k30 * 900 + 900) gws ?_
      refine g_iload_n 31 (gd rfl) rfl rfl ?_
      refine g_aload_n 32 (gd rfl) rfl rfl ?_
      refine g_getI 35 (gd rfl) rfl rfl rfl (fun z32 e32 => ?_)
      have q32 : u_32_1 = z32 := (fr_F e_32_1 hFc30 rfl).trans e32.symm
      subst q32
      refine g_cmp_ge 38 72 (gd rfl) rfl rfl (fun c35 => ?_) (fun c35 => ?_)
      · skip
        have n72 : (w30_32_4).toInt = (w30_32_0).toInt := by first | exact n30_0 | ((first | have a0 := oa4 ro_32_1 ((inv_F hIc30 0 4000 rfl v30_32_0)) ((inv_F hIc30 (-1) 4000 rfl v30_32_4)) j30_2 | ((first | have a0 := in_u ro_32_1 | (have a0 := ro_32_1; unfold In at a0)); (first | have a1 := in_u ((inv_F hIc30 0 4000 rfl v30_32_0)) | (have a1 := (inv_F hIc30 0 4000 rfl v30_32_0); unfold In at a1)); (first | have a2 := in_u ((inv_F hIc30 (-1) 4000 rfl v30_32_4)) | (have a2 := (inv_F hIc30 (-1) 4000 rfl v30_32_4); unfold In at a2)); (first | have a3 := in_u j30_2 | (have a3 := j30_2; unfold In at a3)))); omega)
        have n72a : (sc30.2.2.1 32 4).toInt = (sc30.2.2.1 32 0).toInt := by have b0 : w30_32_4 = sc30.2.2.1 32 4 := v30_32_4; have b1 : w30_32_0 = sc30.2.2.1 32 0 := v30_32_0; rw [← b0, ← b1]; exact n72
        exact g_return (gd rfl) rfl (hP _ _ ⟨sc30, hIc30, hFc30, n72a, rfl, rfl⟩)
      · skip
        have i35 := r_lt1 0 31 c35 j30_2 ro_32_1 rfl
        have i35a := r_lt2 1 32 c35 j30_2 ro_32_1 rfl
        refine g_aload_n 39 (gd rfl) rfl rfl ?_
        refine g_getA (q2 := 89) 42 (gd rfl) rfl rfl rfl rfl ?_
        refine g_iload_n 43 (gd rfl) rfl rfl ?_
        refine g_iload_n 44 (gd rfl) rfl rfl ?_
        refine g_iastore 45 (gd rfl) rfl (n := 32) rfl (in_ix i35 rfl) ?_
        have hI44 := inv_sI (q := 89) (j := y30_2.toNatClampNeg) hIc30 rfl (in_w 0 31 i35 rfl)
        refine g_aload_n 46 (gd rfl) rfl rfl ?_
        refine g_getA (q2 := 90) 49 (gd rfl) rfl rfl rfl rfl ?_
        refine g_iload_n 50 (gd rfl) rfl rfl ?_
        refine g_iconst 1 51 (gd rfl) rfl rfl ?_
        refine g_iload_n 52 (gd rfl) rfl rfl ?_
        refine g_ishl 53 (gd rfl) rfl (fun z52 e52 => ?_)
        refine g_iastore 54 (gd rfl) rfl (n := 32) rfl (in_ix i35 rfl) ?_
        have hI53 := inv_sI (q := 90) (j := y30_2.toNatClampNeg) hI44 rfl (in_w (-2147483648) 2147483647 (i_rng z52) rfl)
        refine g_aload_n 55 (gd rfl) rfl rfl ?_
        refine g_getA (q2 := 92) 58 (gd rfl) rfl rfl rfl rfl ?_
        refine g_iload_n 59 (gd rfl) rfl rfl ?_
        refine g_aload_n 60 (gd rfl) rfl rfl ?_
        refine g_getA (q2 := 91) 63 (gd rfl) rfl rfl rfl rfl ?_
        refine g_iload_n 64 (gd rfl) rfl rfl ?_
        refine g_iaload 65 (gd rfl) rfl (n := 32) rfl (in_ix i35 rfl) (fun z64 e64 => ?_)
        refine g_iastore 66 (gd rfl) rfl (n := 32) rfl (in_ix i35 rfl) ?_
        have hI65 := inv_sI (q := 92) (j := y30_2.toNatClampNeg) hI53 rfl (in_w (-2147483648) 2147483647 (i_rng z64) rfl)
        refine g_iinc 69 (gd rfl) rfl rfl (Nat.le_of_ble_eq_true rfl) (fun z66 e66 => ?_)
        have i66 := in_add 1 32 e66 i35 (in_c 1 rfl) rfl rfl
        refine g_goto 30 (gd rfl) rfl ?_
        have v30 : w30_32_4 = (sI (sI (sI sc30 89 y30_2.toNatClampNeg y30_2) 90 y30_2.toNatClampNeg z52) 92 y30_2.toNatClampNeg z64).2.2.1 32 4 := sI_F (sI_F (sI_F (v30_32_4)))
        have v30a : w30_32_0 = (sI (sI (sI sc30 89 y30_2.toNatClampNeg y30_2) 90 y30_2.toNatClampNeg z52) 92 y30_2.toNatClampNeg z64).2.2.1 32 0 := sI_F (sI_F (sI_F (v30_32_0)))
        have n30 : (w30_32_4).toInt = (w30_32_0).toInt := by first | exact n30_0 | ((first | have a0 := oa5 i35a ((inv_F hIc30 0 4000 rfl v30_32_0)) ((inv_F hIc30 (-1) 4000 rfl v30_32_4)) i35 i66 | ((first | have a0 := in_u i35a | (have a0 := i35a; unfold In at a0)); (first | have a1 := in_u ((inv_F hIc30 0 4000 rfl v30_32_0)) | (have a1 := (inv_F hIc30 0 4000 rfl v30_32_0); unfold In at a1)); (first | have a2 := in_u ((inv_F hIc30 (-1) 4000 rfl v30_32_4)) | (have a2 := (inv_F hIc30 (-1) 4000 rfl v30_32_4); unfold In at a2)); (first | have a3 := in_u i35 | (have a3 := i35; unfold In at a3)); (first | have a4 := in_u i66 | (have a4 := i66; unfold In at a4)))); have a5 := t_add e66 i35 (in_c 1 rfl) rfl; (first | have a6 := in_u ((in_c 1 rfl)) | (have a6 := (in_c 1 rfl); unfold In at a6)); omega)
        exact gg_w (by first | exact Nat.le_add_right _ _ | exact gw2 | exact gw3 | exact gwe rfl | exact gwf rfl | exact gwg rfl | exact gwh rfl | omega) (gg_f (gf_cons rfl (gf_cons rfl (gf_cons rfl gf_nil))) (ih30 (sI (sI (sI sc30 89 y30_2.toNatClampNeg y30_2) 90 y30_2.toNatClampNeg z52) 92 y30_2.toNatClampNeg z64) z66 w30_32_4 w30_32_0 hI65 (fr_sI rfl (fr_sI rfl (fr_sI rfl hFc30))) (in_w 0 32 i66 rfl) v30 v30a n30 (m_up mm30 (t_add e66 i35 (in_c 1 rfl) rfl) (in_w 1 1 (in_c 1 rfl) rfl))))
  refine g_enter2 (k := 114) (N := 30601) (by first | exact dq1 hd rfl | exact dq0 hd rfl | exact dq2 hd rfl | exact dq3 hd rfl | omega) rfl (Nat.le_of_ble_eq_true rfl) ?_
  refine g_aload_n 1 (gd rfl) rfl rfl ?_
  refine g_callv (X := _) (As := []) (r := []) (b := A 32) (q := 32) 4 (gd rfl) rfl rfl rfl rfl rfl (ww_o rfl) (Nat.le_of_ble_eq_true rfl) (Nat.zero_le _) (Nat.zero_le _) (k_106_32 (by first | exact dq1 hd rfl | exact dq0 hd rfl | exact dq2 hd rfl | exact dq3 hd rfl | omega) hI ) (fun e u h => h) (fun v u h => ?_)
  obtain ⟨s1, hI1, hF1, n1, rfl, rfl⟩ := h
  obtain ⟨z1a, e1⟩ : ∃ w, w = s1.2.2.1 32 4 := ⟨_, rfl⟩
  have i1a := inv_F hI1 (-1) 4000 rfl e1
  obtain ⟨z1b, e1a⟩ : ∃ w, w = s1.2.2.1 32 0 := ⟨_, rfl⟩
  have i1b := inv_F hI1 0 4000 rfl e1a
  rw [← (show z1a = s1.2.2.1 32 4 from e1)] at n1
  rw [← (show z1b = s1.2.2.1 32 0 from e1a)] at n1
  show GG _ _ _ _ _ _ _ _ [] _ _ _
  refine g_aload_n 5 (gd rfl) rfl rfl ?_
  refine g_aload_n 6 (gd rfl) rfl rfl ?_
  refine g_callv (X := _) (As := []) (r := [.ref (A 86)]) (b := A 32) (q := 32) 9 (gd rfl) rfl rfl rfl rfl rfl (ww_o rfl) (Nat.le_of_ble_eq_true rfl) (Nat.zero_le _) (Nat.zero_le _) (k_98_32 (by first | exact dq1 hd rfl | exact dq0 hd rfl | exact dq2 hd rfl | exact dq3 hd rfl | omega) hI1 ) (fun e u h => h) (fun v u h => ?_)
  obtain ⟨z6, rfl, rfl, i6⟩ := h
  show GG _ _ _ _ _ _ _ _ [.int z6, .ref (A 86)] _ _ _
  refine g_putI 12 (gd rfl) rfl rfl rfl rfl ?_
  have hI9 := inv_sF (q := 86) (j := 5) hI1 rfl (in_w 0 160 i6 rfl)
  refine g_aload_n 13 (gd rfl) rfl rfl ?_
  refine g_aload_n 14 (gd rfl) rfl rfl ?_
  refine g_getA (q2 := 91) 17 (gd rfl) rfl rfl rfl rfl ?_
  refine g_callv (X := _) (As := [.ref (A 91)]) (r := []) (b := A 32) (q := 32) 20 (gd rfl) rfl rfl rfl rfl rfl (ww_o rfl) (Nat.le_of_ble_eq_true rfl) (Nat.zero_le _) (Nat.zero_le _) (k_99_32_91 (by first | exact dq1 hd rfl | exact dq0 hd rfl | exact dq2 hd rfl | exact dq3 hd rfl | omega) hI9 ) (fun e u h => h) (fun v u h => ?_)
  obtain ⟨s17, hI17, hF17, rfl, rfl⟩ := h
  show GG _ _ _ _ _ _ _ _ [] _ _ _
  refine g_aload_n 21 (gd rfl) rfl rfl ?_
  refine g_getA (q2 := 90) 24 (gd rfl) rfl rfl rfl rfl ?_
  refine g_iconst 0 25 (gd rfl) rfl rfl ?_
  refine g_calls (As := [.ref (A 90), .int (Int32.ofInt 0)]) (r := []) 28 (gd rfl) rfl rfl rfl rfl rfl (Nat.le_of_ble_eq_true rfl) (Nat.zero_le _) (Nat.zero_le _) (k_fillI 90 (by first | exact dq1 hd rfl | exact dq0 hd rfl | exact dq2 hd rfl | exact dq3 hd rfl | omega) hI17 (in_c 0 rfl) (n := 32) rfl rfl rfl rfl) (fun v u h => ?_)
  obtain ⟨s25, hI25, hF25, rfl, rfl, fl25⟩ := h
  show GG _ _ _ _ _ _ _ _ [] _ _ _
  refine g_iconst 0 29 (gd rfl) rfl rfl ?_
  refine g_istore_n 30 (gd rfl) rfl (Nat.le_of_ble_eq_true rfl) ?_
  have v30 : z1a = s25.2.2.1 32 4 := fr_F (fr_F (s := (sF s1 86 5 z6)) (sF_ne rfl (e1)) hF17 rfl) hF25 rfl
  have v30a : z1b = s25.2.2.1 32 0 := fr_F (fr_F (s := (sF s1 86 5 z6)) (sF_ne rfl (e1a)) hF17 rfl) hF25 rfl
  have n30 : (z1a).toInt = (z1b).toInt := by (first | have a0 := oa5 ro_32_1 ((in_c 0 rfl)) i6 i1b i1a | ((first | have a0 := in_u ro_32_1 | (have a0 := ro_32_1; unfold In at a0)); (first | have a1 := in_u ((in_c 0 rfl)) | (have a1 := (in_c 0 rfl); unfold In at a1)); (first | have a2 := in_u i6 | (have a2 := i6; unfold In at a2)); (first | have a3 := in_u i1b | (have a3 := i1b; unfold In at a3)); (first | have a4 := in_u i1a | (have a4 := i1a; unfold In at a4)))); omega
  exact gg_w (by first | exact Nat.le_of_ble_eq_true rfl | omega) (gg_f (gf_cons rfl (gf_cons rfl (gf_cons rfl gf_nil))) (ct30 33 s25 (Int32.ofInt 0) z1a z1b hI25 (fr_tr rfl (fr_tr rfl (fr_sF rfl (fr_tr rfl fr_rf hF1)) hF17) hF25) (in_w 0 32 (in_c 0 rfl) rfl) v30 v30a n30 (m_in 33 (in_w 0 32 (in_c 0 rfl) rfl) rfl)))

def fm_117_86_2 : FM := ([93], [], [], [])
/-- GraphHouse$Groups.countLinks -/
theorem k_117_86_2 {Z : AmZ} {A : Nat → Nat} {s : GS} {ex : va_W} {d : Nat} {X : AmX} {x2 : Int32} {u_2_4 : Int32} {u_2_0 : Int32} (hd : 2 ≤ d) (hI : Inv s) (h2 : In x2 0 31) (e_2_4 : u_2_4 = s.2.2.1 2 4) (e_2_0 : u_2_0 = s.2.2.1 2 0) (p_0 : (u_2_4).toInt = (u_2_0).toInt) : GC Z d 117 [.ref (A 86), .ref (A 2), .int x2] (WW Z A s ++ ex) 0 0 (fun v u => ∃ t : GS, Inv t ∧ Fr fm_117_86_2 s t ∧ v = none ∧ u = WW Z A t ++ ex) X := by
  intro post xp hP hX
  have ro_2_4 := inv_F hI (-1) 4000 rfl e_2_4
  have ro_2_0 := inv_F hI 0 4000 rfl e_2_0
  have ct115 : ∀ (k115 : Nat) (sc115 : GS) (y115_3 : Int32), Inv sc115 → Fr fm_117_86_2 s sc115 → (In y115_3 0 160) → 160 - (y115_3).toInt < (k115 : Int) → GG Z (d - 1) 117 post (gx xp) (1 + k115 * 900) 115 (fun j => xlook j [(0, .ref (A 86)), (1, .ref (A 2)), (2, .int x2), (3, .int y115_3)]) [] (WW Z A sc115 ++ ex) 0 0 := by
    intro k115
    induction k115 with
    | zero => intro sc115 y115_3 hIc115 hFc115 j115_3 mm115; exact m_no mm115 j115_3 rfl
    | succ k115 ih115 =>
      intro sc115 y115_3 hIc115 hFc115 j115_3 mm115
      refine gg_w (M := 1 + k115 * 900 + 900) gws ?_
      refine g_iload_n 116 (gd rfl) rfl rfl ?_
      refine g_aload_n 117 (gd rfl) rfl rfl ?_
      refine g_getA (q2 := 12) 120 (gd rfl) rfl rfl rfl rfl ?_
      refine g_iload_n 121 (gd rfl) rfl rfl ?_
      refine g_iconst 1 122 (gd rfl) rfl rfl ?_
      refine g_iadd 123 (gd rfl) rfl (fun z122 e122 => ?_)
      have i122 := in_add 1 32 e122 h2 (in_c 1 rfl) rfl rfl
      refine g_iaload 124 (gd rfl) rfl (n := 33) rfl (in_ix i122 rfl) (fun z123 e123 => ?_)
      have i123 := inv_I hIc115 (n := 33) (t := 0) 0 160 rfl (in_ix i122 rfl) rfl e123
      refine g_cmp_ge 127 163 (gd rfl) rfl rfl (fun c124 => ?_) (fun c124 => ?_)
      · skip
        exact g_return (gd rfl) rfl (hP _ _ ⟨sc115, hIc115, hFc115, rfl, rfl⟩)
      · skip
        have i124 := r_lt1 0 159 c124 j115_3 i123 rfl
        have i124a := r_lt2 1 160 c124 j115_3 i123 rfl
        refine g_aload_n 128 (gd rfl) rfl rfl ?_
        refine g_getA (q2 := 5) 131 (gd rfl) rfl rfl rfl rfl ?_
        refine g_aload_n 132 (gd rfl) rfl rfl ?_
        refine g_getA (q2 := 13) 135 (gd rfl) rfl rfl rfl rfl ?_
        refine g_iload_n 136 (gd rfl) rfl rfl ?_
        refine g_iaload 137 (gd rfl) rfl (n := 160) rfl (in_ix i124 rfl) (fun z136 e136 => ?_)
        have i136 := inv_I hIc115 (n := 160) (t := 0) 0 159 rfl (in_ix i124 rfl) rfl e136
        refine g_iaload 138 (gd rfl) rfl (n := 160) rfl (in_ix i136 rfl) (fun z137 e137 => ?_)
        have i137 := inv_I hIc115 (n := 160) (t := 0) 0 31 rfl (in_ix i136 rfl) rfl e137
        refine g_iload_n 139 (gd rfl) rfl rfl ?_
        refine g_cmp_ne 142 157 (gd rfl) rfl rfl (fun c139 => ?_) (fun c139 => ?_)
        · skip
          refine g_iinc 160 (gd rfl) rfl rfl (Nat.le_of_ble_eq_true rfl) (fun z157 e157 => ?_)
          have i157 := in_add 1 160 e157 i124 (in_c 1 rfl) rfl rfl
          refine g_goto 115 (gd rfl) rfl ?_
          exact gg_w (by first | exact Nat.le_add_right _ _ | exact gw2 | exact gw3 | exact gwe rfl | exact gwf rfl | exact gwg rfl | exact gwh rfl | omega) (gg_f (gf_cons rfl (gf_cons rfl (gf_cons rfl (gf_cons rfl gf_nil)))) (ih115 sc115 z157 hIc115 hFc115 (in_w 0 160 i157 rfl) (m_up mm115 (t_add e157 i124 (in_c 1 rfl) rfl) (in_w 1 1 (in_c 1 rfl) rfl))))
        · skip
          refine g_aload_n 143 (gd rfl) rfl rfl ?_
          refine g_getA (q2 := 93) 146 (gd rfl) rfl rfl rfl rfl ?_
          refine g_aload_n 147 (gd rfl) rfl rfl ?_
          refine g_getA (q2 := 89) 150 (gd rfl) rfl rfl rfl rfl ?_
          refine g_iload_n 151 (gd rfl) rfl rfl ?_
          refine g_iaload 152 (gd rfl) rfl (n := 32) rfl (in_ix h2 rfl) (fun z151 e151 => ?_)
          have i151 := inv_I hIc115 (n := 32) (t := 0) 0 31 rfl (in_ix h2 rfl) rfl e151
          refine g_dup2 153 (gd rfl) rfl rfl rfl ?_
          refine g_iaload 154 (gd rfl) rfl (n := 32) rfl (in_ix i151 rfl) (fun z153 e153 => ?_)
          refine g_iconst 2 155 (gd rfl) rfl rfl ?_
          refine g_isub 156 (gd rfl) rfl (fun z155 e155 => ?_)
          refine g_iastore 157 (gd rfl) rfl (n := 32) rfl (in_ix i151 rfl) ?_
          have hI156 := inv_sI (q := 93) (j := z151.toNatClampNeg) hIc115 rfl (in_w (-2147483648) 2147483647 (i_rng z155) rfl)
          refine g_iinc 160 (gd rfl) rfl rfl (Nat.le_of_ble_eq_true rfl) (fun z157 e157 => ?_)
          have i157 := in_add 1 160 e157 i124 (in_c 1 rfl) rfl rfl
          refine g_goto 115 (gd rfl) rfl ?_
          exact gg_w (by first | exact Nat.le_add_right _ _ | exact gw2 | exact gw3 | exact gwe rfl | exact gwf rfl | exact gwg rfl | exact gwh rfl | omega) (gg_f (gf_cons rfl (gf_cons rfl (gf_cons rfl (gf_cons rfl gf_nil)))) (ih115 (sI sc115 93 z151.toNatClampNeg z155) z157 hI156 (fr_sI rfl hFc115) (in_w 0 160 i157 rfl) (m_up mm115 (t_add e157 i124 (in_c 1 rfl) rfl) (in_w 1 1 (in_c 1 rfl) rfl))))
  have ct65 : ∀ (k65 : Nat) (sc65 : GS) (y65_3 : Int32), Inv sc65 → Fr fm_117_86_2 s sc65 → (In y65_3 0 160) → 160 - (y65_3).toInt < (k65 : Int) → GG Z (d - 1) 117 post (gx xp) (144902 + k65 * 900) 65 (fun j => xlook j [(0, .ref (A 86)), (1, .ref (A 2)), (2, .int x2), (3, .int y65_3)]) [] (WW Z A sc65 ++ ex) 0 0 := by
    intro k65
    induction k65 with
    | zero => intro sc65 y65_3 hIc65 hFc65 j65_3 mm65; exact m_no mm65 j65_3 rfl
    | succ k65 ih65 =>
      intro sc65 y65_3 hIc65 hFc65 j65_3 mm65
      refine gg_w (M := 144902 + k65 * 900 + 900) gws ?_
      refine g_iload_n 66 (gd rfl) rfl rfl ?_
      refine g_aload_n 67 (gd rfl) rfl rfl ?_
      refine g_getA (q2 := 14) 70 (gd rfl) rfl rfl rfl rfl ?_
      refine g_iload_n 71 (gd rfl) rfl rfl ?_
      refine g_iconst 1 72 (gd rfl) rfl rfl ?_
      refine g_iadd 73 (gd rfl) rfl (fun z72 e72 => ?_)
      have i72 := in_add 1 32 e72 h2 (in_c 1 rfl) rfl rfl
      refine g_iaload 74 (gd rfl) rfl (n := 33) rfl (in_ix i72 rfl) (fun z73 e73 => ?_)
      have i73 := inv_I hIc65 (n := 33) (t := 0) 0 160 rfl (in_ix i72 rfl) rfl e73
      refine g_cmp_ge 77 108 (gd rfl) rfl rfl (fun c74 => ?_) (fun c74 => ?_)
      · skip
        refine g_aload_n 109 (gd rfl) rfl rfl ?_
        refine g_getA (q2 := 12) 112 (gd rfl) rfl rfl rfl rfl ?_
        refine g_iload_n 113 (gd rfl) rfl rfl ?_
        refine g_iaload 114 (gd rfl) rfl (n := 33) rfl (in_ix h2 rfl) (fun z113 e113 => ?_)
        have i113 := inv_I hIc65 (n := 33) (t := 0) 0 160 rfl (in_ix h2 rfl) rfl e113
        refine g_istore_n 115 (gd rfl) rfl (Nat.le_of_ble_eq_true rfl) ?_
        exact gg_w (by first | exact Nat.le_add_right _ _ | exact gw2 | exact gw3 | exact gwe rfl | exact gwf rfl | exact gwg rfl | exact gwh rfl | omega) (gg_f (gf_cons rfl (gf_cons rfl (gf_cons rfl (gf_cons rfl gf_nil)))) (ct115 161 sc65 z113 hIc65 hFc65 (in_w 0 160 i113 rfl) (m_in 161 (in_w 0 160 i113 rfl) rfl)))
      · skip
        have i74 := r_lt1 0 159 c74 j65_3 i73 rfl
        have i74a := r_lt2 1 160 c74 j65_3 i73 rfl
        refine g_aload_n 78 (gd rfl) rfl rfl ?_
        refine g_getA (q2 := 93) 81 (gd rfl) rfl rfl rfl rfl ?_
        refine g_aload_n 82 (gd rfl) rfl rfl ?_
        refine g_getA (q2 := 89) 85 (gd rfl) rfl rfl rfl rfl ?_
        refine g_aload_n 86 (gd rfl) rfl rfl ?_
        refine g_getA (q2 := 4) 89 (gd rfl) rfl rfl rfl rfl ?_
        refine g_aload_n 90 (gd rfl) rfl rfl ?_
        refine g_getA (q2 := 15) 93 (gd rfl) rfl rfl rfl rfl ?_
        refine g_iload_n 94 (gd rfl) rfl rfl ?_
        refine g_iaload 95 (gd rfl) rfl (n := 160) rfl (in_ix i74 rfl) (fun z94 e94 => ?_)
        have i94 := inv_I hIc65 (n := 160) (t := 0) 0 159 rfl (in_ix i74 rfl) rfl e94
        refine g_iaload 96 (gd rfl) rfl (n := 160) rfl (in_ix i94 rfl) (fun z95 e95 => ?_)
        have i95 := inv_I hIc65 (n := 160) (t := 0) (-1) 31 rfl (in_ix i94 rfl) rfl e95
        have i96 : In z95 0 31 := by exact tg_b (b := 2) hIc65.2.1 rfl rfl rfl rfl rfl (by rw [← (show u_2_4 = sc65.2.2.1 2 4 from fr_F e_2_4 hFc65 rfl), ← (show u_2_0 = sc65.2.2.1 2 0 from fr_F e_2_0 hFc65 rfl)]; exact p_0) e73 i72 i74 c74 e94 e95 i95
        refine g_iaload 97 (gd rfl) rfl (n := 32) rfl (in_ix i96 rfl) (fun z96 e96 => ?_)
        have i96a := inv_I hIc65 (n := 32) (t := 0) 0 31 rfl (in_ix i96 rfl) rfl e96
        refine g_dup2 98 (gd rfl) rfl rfl rfl ?_
        refine g_iaload 99 (gd rfl) rfl (n := 32) rfl (in_ix i96a rfl) (fun z98 e98 => ?_)
        refine g_iconst 1 100 (gd rfl) rfl rfl ?_
        refine g_iadd 101 (gd rfl) rfl (fun z100 e100 => ?_)
        refine g_iastore 102 (gd rfl) rfl (n := 32) rfl (in_ix i96a rfl) ?_
        have hI101 := inv_sI (q := 93) (j := z96.toNatClampNeg) hIc65 rfl (in_w (-2147483648) 2147483647 (i_rng z100) rfl)
        refine g_iinc 105 (gd rfl) rfl rfl (Nat.le_of_ble_eq_true rfl) (fun z102 e102 => ?_)
        have i102 := in_add 1 160 e102 i74 (in_c 1 rfl) rfl rfl
        refine g_goto 65 (gd rfl) rfl ?_
        exact gg_w (by first | exact Nat.le_add_right _ _ | exact gw2 | exact gw3 | exact gwe rfl | exact gwf rfl | exact gwg rfl | exact gwh rfl | omega) (gg_f (gf_cons rfl (gf_cons rfl (gf_cons rfl (gf_cons rfl gf_nil)))) (ih65 (sI sc65 93 z96.toNatClampNeg z100) z102 hI101 (fr_sI rfl hFc65) (in_w 0 160 i102 rfl) (m_up mm65 (t_add e102 i74 (in_c 1 rfl) rfl) (in_w 1 1 (in_c 1 rfl) rfl))))
  have ct15 : ∀ (k15 : Nat) (sc15 : GS) (y15_3 : Int32), Inv sc15 → Fr fm_117_86_2 s sc15 → (In y15_3 0 160) → 160 - (y15_3).toInt < (k15 : Int) → GG Z (d - 1) 117 post (gx xp) (289803 + k15 * 900) 15 (fun j => xlook j [(0, .ref (A 86)), (1, .ref (A 2)), (2, .int x2), (3, .int y15_3)]) [] (WW Z A sc15 ++ ex) 0 0 := by
    intro k15
    induction k15 with
    | zero => intro sc15 y15_3 hIc15 hFc15 j15_3 mm15; exact m_no mm15 j15_3 rfl
    | succ k15 ih15 =>
      intro sc15 y15_3 hIc15 hFc15 j15_3 mm15
      refine gg_w (M := 289803 + k15 * 900 + 900) gws ?_
      refine g_iload_n 16 (gd rfl) rfl rfl ?_
      refine g_aload_n 17 (gd rfl) rfl rfl ?_
      refine g_getA (q2 := 12) 20 (gd rfl) rfl rfl rfl rfl ?_
      refine g_iload_n 21 (gd rfl) rfl rfl ?_
      refine g_iconst 1 22 (gd rfl) rfl rfl ?_
      refine g_iadd 23 (gd rfl) rfl (fun z22 e22 => ?_)
      have i22 := in_add 1 32 e22 h2 (in_c 1 rfl) rfl rfl
      refine g_iaload 24 (gd rfl) rfl (n := 33) rfl (in_ix i22 rfl) (fun z23 e23 => ?_)
      have i23 := inv_I hIc15 (n := 33) (t := 0) 0 160 rfl (in_ix i22 rfl) rfl e23
      refine g_cmp_ge 27 58 (gd rfl) rfl rfl (fun c24 => ?_) (fun c24 => ?_)
      · skip
        refine g_aload_n 59 (gd rfl) rfl rfl ?_
        refine g_getA (q2 := 14) 62 (gd rfl) rfl rfl rfl rfl ?_
        refine g_iload_n 63 (gd rfl) rfl rfl ?_
        refine g_iaload 64 (gd rfl) rfl (n := 33) rfl (in_ix h2 rfl) (fun z63 e63 => ?_)
        have i63 := inv_I hIc15 (n := 33) (t := 0) 0 160 rfl (in_ix h2 rfl) rfl e63
        refine g_istore_n 65 (gd rfl) rfl (Nat.le_of_ble_eq_true rfl) ?_
        exact gg_w (by first | exact Nat.le_add_right _ _ | exact gw2 | exact gw3 | exact gwe rfl | exact gwf rfl | exact gwg rfl | exact gwh rfl | omega) (gg_f (gf_cons rfl (gf_cons rfl (gf_cons rfl (gf_cons rfl gf_nil)))) (ct65 161 sc15 z63 hIc15 hFc15 (in_w 0 160 i63 rfl) (m_in 161 (in_w 0 160 i63 rfl) rfl)))
      · skip
        have i24 := r_lt1 0 159 c24 j15_3 i23 rfl
        have i24a := r_lt2 1 160 c24 j15_3 i23 rfl
        refine g_aload_n 28 (gd rfl) rfl rfl ?_
        refine g_getA (q2 := 93) 31 (gd rfl) rfl rfl rfl rfl ?_
        refine g_aload_n 32 (gd rfl) rfl rfl ?_
        refine g_getA (q2 := 89) 35 (gd rfl) rfl rfl rfl rfl ?_
        refine g_aload_n 36 (gd rfl) rfl rfl ?_
        refine g_getA (q2 := 5) 39 (gd rfl) rfl rfl rfl rfl ?_
        refine g_aload_n 40 (gd rfl) rfl rfl ?_
        refine g_getA (q2 := 13) 43 (gd rfl) rfl rfl rfl rfl ?_
        refine g_iload_n 44 (gd rfl) rfl rfl ?_
        refine g_iaload 45 (gd rfl) rfl (n := 160) rfl (in_ix i24 rfl) (fun z44 e44 => ?_)
        have i44 := inv_I hIc15 (n := 160) (t := 0) 0 159 rfl (in_ix i24 rfl) rfl e44
        refine g_iaload 46 (gd rfl) rfl (n := 160) rfl (in_ix i44 rfl) (fun z45 e45 => ?_)
        have i45 := inv_I hIc15 (n := 160) (t := 0) 0 31 rfl (in_ix i44 rfl) rfl e45
        refine g_iaload 47 (gd rfl) rfl (n := 32) rfl (in_ix i45 rfl) (fun z46 e46 => ?_)
        have i46 := inv_I hIc15 (n := 32) (t := 0) 0 31 rfl (in_ix i45 rfl) rfl e46
        refine g_dup2 48 (gd rfl) rfl rfl rfl ?_
        refine g_iaload 49 (gd rfl) rfl (n := 32) rfl (in_ix i46 rfl) (fun z48 e48 => ?_)
        refine g_iconst 1 50 (gd rfl) rfl rfl ?_
        refine g_iadd 51 (gd rfl) rfl (fun z50 e50 => ?_)
        refine g_iastore 52 (gd rfl) rfl (n := 32) rfl (in_ix i46 rfl) ?_
        have hI51 := inv_sI (q := 93) (j := z46.toNatClampNeg) hIc15 rfl (in_w (-2147483648) 2147483647 (i_rng z50) rfl)
        refine g_iinc 55 (gd rfl) rfl rfl (Nat.le_of_ble_eq_true rfl) (fun z52 e52 => ?_)
        have i52 := in_add 1 160 e52 i24 (in_c 1 rfl) rfl rfl
        refine g_goto 15 (gd rfl) rfl ?_
        exact gg_w (by first | exact Nat.le_add_right _ _ | exact gw2 | exact gw3 | exact gwe rfl | exact gwf rfl | exact gwg rfl | exact gwh rfl | omega) (gg_f (gf_cons rfl (gf_cons rfl (gf_cons rfl (gf_cons rfl gf_nil)))) (ih15 (sI sc15 93 z46.toNatClampNeg z50) z52 hI51 (fr_sI rfl hFc15) (in_w 0 160 i52 rfl) (m_up mm15 (t_add e52 i24 (in_c 1 rfl) rfl) (in_w 1 1 (in_c 1 rfl) rfl))))
  refine g_enter2 (k := 117) (N := 435603) (by first | exact dq1 hd rfl | exact dq0 hd rfl | exact dq2 hd rfl | exact dq3 hd rfl | omega) rfl (Nat.le_of_ble_eq_true rfl) ?_
  refine g_aload_n 1 (gd rfl) rfl rfl ?_
  refine g_getA (q2 := 93) 4 (gd rfl) rfl rfl rfl rfl ?_
  refine g_iconst 0 5 (gd rfl) rfl rfl ?_
  refine g_calls (As := [.ref (A 93), .int (Int32.ofInt 0)]) (r := []) 8 (gd rfl) rfl rfl rfl rfl rfl (Nat.le_of_ble_eq_true rfl) (Nat.zero_le _) (Nat.zero_le _) (k_fillI 93 (by first | exact dq1 hd rfl | exact dq0 hd rfl | exact dq2 hd rfl | exact dq3 hd rfl | omega) hI (in_c 0 rfl) (n := 32) rfl rfl rfl rfl) (fun v u h => ?_)
  obtain ⟨s5, hI5, hF5, rfl, rfl, fl5⟩ := h
  show GG _ _ _ _ _ _ _ _ [] _ _ _
  refine g_aload_n 9 (gd rfl) rfl rfl ?_
  refine g_getA (q2 := 12) 12 (gd rfl) rfl rfl rfl rfl ?_
  refine g_iload_n 13 (gd rfl) rfl rfl ?_
  refine g_iaload 14 (gd rfl) rfl (n := 33) rfl (in_ix h2 rfl) (fun z13 e13 => ?_)
  have i13 := inv_I hI5 (n := 33) (t := 0) 0 160 rfl (in_ix h2 rfl) rfl e13
  refine g_istore_n 15 (gd rfl) rfl (Nat.le_of_ble_eq_true rfl) ?_
  exact gg_w (by first | exact Nat.le_of_ble_eq_true rfl | omega) (gg_f (gf_cons rfl (gf_cons rfl (gf_cons rfl (gf_cons rfl gf_nil)))) (ct15 161 s5 z13 hI5 (fr_tr rfl fr_rf hF5) (in_w 0 160 i13 rfl) (m_in 161 (in_w 0 160 i13 rfl) rfl)))

def fm_117_86_32 : FM := ([93], [], [], [])
/-- GraphHouse$Groups.countLinks -/
theorem k_117_86_32 {Z : AmZ} {A : Nat → Nat} {s : GS} {ex : va_W} {d : Nat} {X : AmX} {x2 : Int32} {u_32_4 : Int32} {u_32_0 : Int32} (hd : 2 ≤ d) (hI : Inv s) (h2 : In x2 0 31) (e_32_4 : u_32_4 = s.2.2.1 32 4) (e_32_0 : u_32_0 = s.2.2.1 32 0) (p_0 : (u_32_4).toInt = (u_32_0).toInt) : GC Z d 117 [.ref (A 86), .ref (A 32), .int x2] (WW Z A s ++ ex) 0 0 (fun v u => ∃ t : GS, Inv t ∧ Fr fm_117_86_32 s t ∧ v = none ∧ u = WW Z A t ++ ex) X := by
  intro post xp hP hX
  have ro_32_4 := inv_F hI (-1) 4000 rfl e_32_4
  have ro_32_0 := inv_F hI 0 4000 rfl e_32_0
  have ct115 : ∀ (k115 : Nat) (sc115 : GS) (y115_3 : Int32), Inv sc115 → Fr fm_117_86_32 s sc115 → (In y115_3 0 160) → 160 - (y115_3).toInt < (k115 : Int) → GG Z (d - 1) 117 post (gx xp) (1 + k115 * 900) 115 (fun j => xlook j [(0, .ref (A 86)), (1, .ref (A 32)), (2, .int x2), (3, .int y115_3)]) [] (WW Z A sc115 ++ ex) 0 0 := by
    intro k115
    induction k115 with
    | zero => intro sc115 y115_3 hIc115 hFc115 j115_3 mm115; exact m_no mm115 j115_3 rfl
    | succ k115 ih115 =>
      intro sc115 y115_3 hIc115 hFc115 j115_3 mm115
      refine gg_w (M := 1 + k115 * 900 + 900) gws ?_
      refine g_iload_n 116 (gd rfl) rfl rfl ?_
      refine g_aload_n 117 (gd rfl) rfl rfl ?_
      refine g_getA (q2 := 42) 120 (gd rfl) rfl rfl rfl rfl ?_
      refine g_iload_n 121 (gd rfl) rfl rfl ?_
      refine g_iconst 1 122 (gd rfl) rfl rfl ?_
      refine g_iadd 123 (gd rfl) rfl (fun z122 e122 => ?_)
      have i122 := in_add 1 32 e122 h2 (in_c 1 rfl) rfl rfl
      refine g_iaload 124 (gd rfl) rfl (n := 33) rfl (in_ix i122 rfl) (fun z123 e123 => ?_)
      have i123 := inv_I hIc115 (n := 33) (t := 0) 0 160 rfl (in_ix i122 rfl) rfl e123
      refine g_cmp_ge 127 163 (gd rfl) rfl rfl (fun c124 => ?_) (fun c124 => ?_)
      · skip
        exact g_return (gd rfl) rfl (hP _ _ ⟨sc115, hIc115, hFc115, rfl, rfl⟩)
      · skip
        have i124 := r_lt1 0 159 c124 j115_3 i123 rfl
        have i124a := r_lt2 1 160 c124 j115_3 i123 rfl
        refine g_aload_n 128 (gd rfl) rfl rfl ?_
        refine g_getA (q2 := 35) 131 (gd rfl) rfl rfl rfl rfl ?_
        refine g_aload_n 132 (gd rfl) rfl rfl ?_
        refine g_getA (q2 := 43) 135 (gd rfl) rfl rfl rfl rfl ?_
        refine g_iload_n 136 (gd rfl) rfl rfl ?_
        refine g_iaload 137 (gd rfl) rfl (n := 160) rfl (in_ix i124 rfl) (fun z136 e136 => ?_)
        have i136 := inv_I hIc115 (n := 160) (t := 0) 0 159 rfl (in_ix i124 rfl) rfl e136
        refine g_iaload 138 (gd rfl) rfl (n := 160) rfl (in_ix i136 rfl) (fun z137 e137 => ?_)
        have i137 := inv_I hIc115 (n := 160) (t := 0) 0 31 rfl (in_ix i136 rfl) rfl e137
        refine g_iload_n 139 (gd rfl) rfl rfl ?_
        refine g_cmp_ne 142 157 (gd rfl) rfl rfl (fun c139 => ?_) (fun c139 => ?_)
        · skip
          refine g_iinc 160 (gd rfl) rfl rfl (Nat.le_of_ble_eq_true rfl) (fun z157 e157 => ?_)
          have i157 := in_add 1 160 e157 i124 (in_c 1 rfl) rfl rfl
          refine g_goto 115 (gd rfl) rfl ?_
          exact gg_w (by first | exact Nat.le_add_right _ _ | exact gw2 | exact gw3 | exact gwe rfl | exact gwf rfl | exact gwg rfl | exact gwh rfl | omega) (gg_f (gf_cons rfl (gf_cons rfl (gf_cons rfl (gf_cons rfl gf_nil)))) (ih115 sc115 z157 hIc115 hFc115 (in_w 0 160 i157 rfl) (m_up mm115 (t_add e157 i124 (in_c 1 rfl) rfl) (in_w 1 1 (in_c 1 rfl) rfl))))
        · skip
          refine g_aload_n 143 (gd rfl) rfl rfl ?_
          refine g_getA (q2 := 93) 146 (gd rfl) rfl rfl rfl rfl ?_
          refine g_aload_n 147 (gd rfl) rfl rfl ?_
          refine g_getA (q2 := 89) 150 (gd rfl) rfl rfl rfl rfl ?_
          refine g_iload_n 151 (gd rfl) rfl rfl ?_
          refine g_iaload 152 (gd rfl) rfl (n := 32) rfl (in_ix h2 rfl) (fun z151 e151 => ?_)
          have i151 := inv_I hIc115 (n := 32) (t := 0) 0 31 rfl (in_ix h2 rfl) rfl e151
          refine g_dup2 153 (gd rfl) rfl rfl rfl ?_
          refine g_iaload 154 (gd rfl) rfl (n := 32) rfl (in_ix i151 rfl) (fun z153 e153 => ?_)
          refine g_iconst 2 155 (gd rfl) rfl rfl ?_
          refine g_isub 156 (gd rfl) rfl (fun z155 e155 => ?_)
          refine g_iastore 157 (gd rfl) rfl (n := 32) rfl (in_ix i151 rfl) ?_
          have hI156 := inv_sI (q := 93) (j := z151.toNatClampNeg) hIc115 rfl (in_w (-2147483648) 2147483647 (i_rng z155) rfl)
          refine g_iinc 160 (gd rfl) rfl rfl (Nat.le_of_ble_eq_true rfl) (fun z157 e157 => ?_)
          have i157 := in_add 1 160 e157 i124 (in_c 1 rfl) rfl rfl
          refine g_goto 115 (gd rfl) rfl ?_
          exact gg_w (by first | exact Nat.le_add_right _ _ | exact gw2 | exact gw3 | exact gwe rfl | exact gwf rfl | exact gwg rfl | exact gwh rfl | omega) (gg_f (gf_cons rfl (gf_cons rfl (gf_cons rfl (gf_cons rfl gf_nil)))) (ih115 (sI sc115 93 z151.toNatClampNeg z155) z157 hI156 (fr_sI rfl hFc115) (in_w 0 160 i157 rfl) (m_up mm115 (t_add e157 i124 (in_c 1 rfl) rfl) (in_w 1 1 (in_c 1 rfl) rfl))))
  have ct65 : ∀ (k65 : Nat) (sc65 : GS) (y65_3 : Int32), Inv sc65 → Fr fm_117_86_32 s sc65 → (In y65_3 0 160) → 160 - (y65_3).toInt < (k65 : Int) → GG Z (d - 1) 117 post (gx xp) (144902 + k65 * 900) 65 (fun j => xlook j [(0, .ref (A 86)), (1, .ref (A 32)), (2, .int x2), (3, .int y65_3)]) [] (WW Z A sc65 ++ ex) 0 0 := by
    intro k65
    induction k65 with
    | zero => intro sc65 y65_3 hIc65 hFc65 j65_3 mm65; exact m_no mm65 j65_3 rfl
    | succ k65 ih65 =>
      intro sc65 y65_3 hIc65 hFc65 j65_3 mm65
      refine gg_w (M := 144902 + k65 * 900 + 900) gws ?_
      refine g_iload_n 66 (gd rfl) rfl rfl ?_
      refine g_aload_n 67 (gd rfl) rfl rfl ?_
      refine g_getA (q2 := 44) 70 (gd rfl) rfl rfl rfl rfl ?_
      refine g_iload_n 71 (gd rfl) rfl rfl ?_
      refine g_iconst 1 72 (gd rfl) rfl rfl ?_
      refine g_iadd 73 (gd rfl) rfl (fun z72 e72 => ?_)
      have i72 := in_add 1 32 e72 h2 (in_c 1 rfl) rfl rfl
      refine g_iaload 74 (gd rfl) rfl (n := 33) rfl (in_ix i72 rfl) (fun z73 e73 => ?_)
      have i73 := inv_I hIc65 (n := 33) (t := 0) 0 160 rfl (in_ix i72 rfl) rfl e73
      refine g_cmp_ge 77 108 (gd rfl) rfl rfl (fun c74 => ?_) (fun c74 => ?_)
      · skip
        refine g_aload_n 109 (gd rfl) rfl rfl ?_
        refine g_getA (q2 := 42) 112 (gd rfl) rfl rfl rfl rfl ?_
        refine g_iload_n 113 (gd rfl) rfl rfl ?_
        refine g_iaload 114 (gd rfl) rfl (n := 33) rfl (in_ix h2 rfl) (fun z113 e113 => ?_)
        have i113 := inv_I hIc65 (n := 33) (t := 0) 0 160 rfl (in_ix h2 rfl) rfl e113
        refine g_istore_n 115 (gd rfl) rfl (Nat.le_of_ble_eq_true rfl) ?_
        exact gg_w (by first | exact Nat.le_add_right _ _ | exact gw2 | exact gw3 | exact gwe rfl | exact gwf rfl | exact gwg rfl | exact gwh rfl | omega) (gg_f (gf_cons rfl (gf_cons rfl (gf_cons rfl (gf_cons rfl gf_nil)))) (ct115 161 sc65 z113 hIc65 hFc65 (in_w 0 160 i113 rfl) (m_in 161 (in_w 0 160 i113 rfl) rfl)))
      · skip
        have i74 := r_lt1 0 159 c74 j65_3 i73 rfl
        have i74a := r_lt2 1 160 c74 j65_3 i73 rfl
        refine g_aload_n 78 (gd rfl) rfl rfl ?_
        refine g_getA (q2 := 93) 81 (gd rfl) rfl rfl rfl rfl ?_
        refine g_aload_n 82 (gd rfl) rfl rfl ?_
        refine g_getA (q2 := 89) 85 (gd rfl) rfl rfl rfl rfl ?_
        refine g_aload_n 86 (gd rfl) rfl rfl ?_
        refine g_getA (q2 := 34) 89 (gd rfl) rfl rfl rfl rfl ?_
        refine g_aload_n 90 (gd rfl) rfl rfl ?_
        refine g_getA (q2 := 45) 93 (gd rfl) rfl rfl rfl rfl ?_
        refine g_iload_n 94 (gd rfl) rfl rfl ?_
        refine g_iaload 95 (gd rfl) rfl (n := 160) rfl (in_ix i74 rfl) (fun z94 e94 => ?_)
        have i94 := inv_I hIc65 (n := 160) (t := 0) 0 159 rfl (in_ix i74 rfl) rfl e94
        refine g_iaload 96 (gd rfl) rfl (n := 160) rfl (in_ix i94 rfl) (fun z95 e95 => ?_)
        have i95 := inv_I hIc65 (n := 160) (t := 0) (-1) 31 rfl (in_ix i94 rfl) rfl e95
        have i96 : In z95 0 31 := by exact tg_b (b := 32) hIc65.2.2.1 rfl rfl rfl rfl rfl (by rw [← (show u_32_4 = sc65.2.2.1 32 4 from fr_F e_32_4 hFc65 rfl), ← (show u_32_0 = sc65.2.2.1 32 0 from fr_F e_32_0 hFc65 rfl)]; exact p_0) e73 i72 i74 c74 e94 e95 i95
        refine g_iaload 97 (gd rfl) rfl (n := 32) rfl (in_ix i96 rfl) (fun z96 e96 => ?_)
        have i96a := inv_I hIc65 (n := 32) (t := 0) 0 31 rfl (in_ix i96 rfl) rfl e96
        refine g_dup2 98 (gd rfl) rfl rfl rfl ?_
        refine g_iaload 99 (gd rfl) rfl (n := 32) rfl (in_ix i96a rfl) (fun z98 e98 => ?_)
        refine g_iconst 1 100 (gd rfl) rfl rfl ?_
        refine g_iadd 101 (gd rfl) rfl (fun z100 e100 => ?_)
        refine g_iastore 102 (gd rfl) rfl (n := 32) rfl (in_ix i96a rfl) ?_
        have hI101 := inv_sI (q := 93) (j := z96.toNatClampNeg) hIc65 rfl (in_w (-2147483648) 2147483647 (i_rng z100) rfl)
        refine g_iinc 105 (gd rfl) rfl rfl (Nat.le_of_ble_eq_true rfl) (fun z102 e102 => ?_)
        have i102 := in_add 1 160 e102 i74 (in_c 1 rfl) rfl rfl
        refine g_goto 65 (gd rfl) rfl ?_
        exact gg_w (by first | exact Nat.le_add_right _ _ | exact gw2 | exact gw3 | exact gwe rfl | exact gwf rfl | exact gwg rfl | exact gwh rfl | omega) (gg_f (gf_cons rfl (gf_cons rfl (gf_cons rfl (gf_cons rfl gf_nil)))) (ih65 (sI sc65 93 z96.toNatClampNeg z100) z102 hI101 (fr_sI rfl hFc65) (in_w 0 160 i102 rfl) (m_up mm65 (t_add e102 i74 (in_c 1 rfl) rfl) (in_w 1 1 (in_c 1 rfl) rfl))))
  have ct15 : ∀ (k15 : Nat) (sc15 : GS) (y15_3 : Int32), Inv sc15 → Fr fm_117_86_32 s sc15 → (In y15_3 0 160) → 160 - (y15_3).toInt < (k15 : Int) → GG Z (d - 1) 117 post (gx xp) (289803 + k15 * 900) 15 (fun j => xlook j [(0, .ref (A 86)), (1, .ref (A 32)), (2, .int x2), (3, .int y15_3)]) [] (WW Z A sc15 ++ ex) 0 0 := by
    intro k15
    induction k15 with
    | zero => intro sc15 y15_3 hIc15 hFc15 j15_3 mm15; exact m_no mm15 j15_3 rfl
    | succ k15 ih15 =>
      intro sc15 y15_3 hIc15 hFc15 j15_3 mm15
      refine gg_w (M := 289803 + k15 * 900 + 900) gws ?_
      refine g_iload_n 16 (gd rfl) rfl rfl ?_
      refine g_aload_n 17 (gd rfl) rfl rfl ?_
      refine g_getA (q2 := 42) 20 (gd rfl) rfl rfl rfl rfl ?_
      refine g_iload_n 21 (gd rfl) rfl rfl ?_
      refine g_iconst 1 22 (gd rfl) rfl rfl ?_
      refine g_iadd 23 (gd rfl) rfl (fun z22 e22 => ?_)
      have i22 := in_add 1 32 e22 h2 (in_c 1 rfl) rfl rfl
      refine g_iaload 24 (gd rfl) rfl (n := 33) rfl (in_ix i22 rfl) (fun z23 e23 => ?_)
      have i23 := inv_I hIc15 (n := 33) (t := 0) 0 160 rfl (in_ix i22 rfl) rfl e23
      refine g_cmp_ge 27 58 (gd rfl) rfl rfl (fun c24 => ?_) (fun c24 => ?_)
      · skip
        refine g_aload_n 59 (gd rfl) rfl rfl ?_
        refine g_getA (q2 := 44) 62 (gd rfl) rfl rfl rfl rfl ?_
        refine g_iload_n 63 (gd rfl) rfl rfl ?_
        refine g_iaload 64 (gd rfl) rfl (n := 33) rfl (in_ix h2 rfl) (fun z63 e63 => ?_)
        have i63 := inv_I hIc15 (n := 33) (t := 0) 0 160 rfl (in_ix h2 rfl) rfl e63
        refine g_istore_n 65 (gd rfl) rfl (Nat.le_of_ble_eq_true rfl) ?_
        exact gg_w (by first | exact Nat.le_add_right _ _ | exact gw2 | exact gw3 | exact gwe rfl | exact gwf rfl | exact gwg rfl | exact gwh rfl | omega) (gg_f (gf_cons rfl (gf_cons rfl (gf_cons rfl (gf_cons rfl gf_nil)))) (ct65 161 sc15 z63 hIc15 hFc15 (in_w 0 160 i63 rfl) (m_in 161 (in_w 0 160 i63 rfl) rfl)))
      · skip
        have i24 := r_lt1 0 159 c24 j15_3 i23 rfl
        have i24a := r_lt2 1 160 c24 j15_3 i23 rfl
        refine g_aload_n 28 (gd rfl) rfl rfl ?_
        refine g_getA (q2 := 93) 31 (gd rfl) rfl rfl rfl rfl ?_
        refine g_aload_n 32 (gd rfl) rfl rfl ?_
        refine g_getA (q2 := 89) 35 (gd rfl) rfl rfl rfl rfl ?_
        refine g_aload_n 36 (gd rfl) rfl rfl ?_
        refine g_getA (q2 := 35) 39 (gd rfl) rfl rfl rfl rfl ?_
        refine g_aload_n 40 (gd rfl) rfl rfl ?_
        refine g_getA (q2 := 43) 43 (gd rfl) rfl rfl rfl rfl ?_
        refine g_iload_n 44 (gd rfl) rfl rfl ?_
        refine g_iaload 45 (gd rfl) rfl (n := 160) rfl (in_ix i24 rfl) (fun z44 e44 => ?_)
        have i44 := inv_I hIc15 (n := 160) (t := 0) 0 159 rfl (in_ix i24 rfl) rfl e44
        refine g_iaload 46 (gd rfl) rfl (n := 160) rfl (in_ix i44 rfl) (fun z45 e45 => ?_)
        have i45 := inv_I hIc15 (n := 160) (t := 0) 0 31 rfl (in_ix i44 rfl) rfl e45
        refine g_iaload 47 (gd rfl) rfl (n := 32) rfl (in_ix i45 rfl) (fun z46 e46 => ?_)
        have i46 := inv_I hIc15 (n := 32) (t := 0) 0 31 rfl (in_ix i45 rfl) rfl e46
        refine g_dup2 48 (gd rfl) rfl rfl rfl ?_
        refine g_iaload 49 (gd rfl) rfl (n := 32) rfl (in_ix i46 rfl) (fun z48 e48 => ?_)
        refine g_iconst 1 50 (gd rfl) rfl rfl ?_
        refine g_iadd 51 (gd rfl) rfl (fun z50 e50 => ?_)
        refine g_iastore 52 (gd rfl) rfl (n := 32) rfl (in_ix i46 rfl) ?_
        have hI51 := inv_sI (q := 93) (j := z46.toNatClampNeg) hIc15 rfl (in_w (-2147483648) 2147483647 (i_rng z50) rfl)
        refine g_iinc 55 (gd rfl) rfl rfl (Nat.le_of_ble_eq_true rfl) (fun z52 e52 => ?_)
        have i52 := in_add 1 160 e52 i24 (in_c 1 rfl) rfl rfl
        refine g_goto 15 (gd rfl) rfl ?_
        exact gg_w (by first | exact Nat.le_add_right _ _ | exact gw2 | exact gw3 | exact gwe rfl | exact gwf rfl | exact gwg rfl | exact gwh rfl | omega) (gg_f (gf_cons rfl (gf_cons rfl (gf_cons rfl (gf_cons rfl gf_nil)))) (ih15 (sI sc15 93 z46.toNatClampNeg z50) z52 hI51 (fr_sI rfl hFc15) (in_w 0 160 i52 rfl) (m_up mm15 (t_add e52 i24 (in_c 1 rfl) rfl) (in_w 1 1 (in_c 1 rfl) rfl))))
  refine g_enter2 (k := 117) (N := 435603) (by first | exact dq1 hd rfl | exact dq0 hd rfl | exact dq2 hd rfl | exact dq3 hd rfl | omega) rfl (Nat.le_of_ble_eq_true rfl) ?_
  refine g_aload_n 1 (gd rfl) rfl rfl ?_
  refine g_getA (q2 := 93) 4 (gd rfl) rfl rfl rfl rfl ?_
  refine g_iconst 0 5 (gd rfl) rfl rfl ?_
  refine g_calls (As := [.ref (A 93), .int (Int32.ofInt 0)]) (r := []) 8 (gd rfl) rfl rfl rfl rfl rfl (Nat.le_of_ble_eq_true rfl) (Nat.zero_le _) (Nat.zero_le _) (k_fillI 93 (by first | exact dq1 hd rfl | exact dq0 hd rfl | exact dq2 hd rfl | exact dq3 hd rfl | omega) hI (in_c 0 rfl) (n := 32) rfl rfl rfl rfl) (fun v u h => ?_)
  obtain ⟨s5, hI5, hF5, rfl, rfl, fl5⟩ := h
  show GG _ _ _ _ _ _ _ _ [] _ _ _
  refine g_aload_n 9 (gd rfl) rfl rfl ?_
  refine g_getA (q2 := 42) 12 (gd rfl) rfl rfl rfl rfl ?_
  refine g_iload_n 13 (gd rfl) rfl rfl ?_
  refine g_iaload 14 (gd rfl) rfl (n := 33) rfl (in_ix h2 rfl) (fun z13 e13 => ?_)
  have i13 := inv_I hI5 (n := 33) (t := 0) 0 160 rfl (in_ix h2 rfl) rfl e13
  refine g_istore_n 15 (gd rfl) rfl (Nat.le_of_ble_eq_true rfl) ?_
  exact gg_w (by first | exact Nat.le_of_ble_eq_true rfl | omega) (gg_f (gf_cons rfl (gf_cons rfl (gf_cons rfl (gf_cons rfl gf_nil)))) (ct15 161 s5 z13 hI5 (fr_tr rfl fr_rf hF5) (in_w 0 160 i13 rfl) (m_in 161 (in_w 0 160 i13 rfl) rfl)))

/-- GraphHouse$Groups.score -/
theorem k_118_86 {Z : AmZ} {A : Nat → Nat} {s : GS} {ex : va_W} {d : Nat} {X : AmX} {x1 : Int32} {x2 : Int32} (hd : 1 ≤ d) (hI : Inv s) (h1 : In x1 0 31) (h2 : In x2 0 31) : GC Z d 118 [.ref (A 86), .int x1, .int x2] (WW Z A s ++ ex) 0 0 (fun v u => ∃ z : Int64, v = some (.long z) ∧ u = WW Z A s ++ ex) X := by
  intro post xp hP hX
  obtain ⟨u_86_5, e_86_5⟩ : ∃ w, w = s.2.2.1 86 5 := ⟨_, rfl⟩
  have ro_86_5 := inv_F hI 0 160 rfl e_86_5
  refine g_enter2 (k := 118) (N := 900) (by first | exact dq1 hd rfl | exact dq0 hd rfl | exact dq2 hd rfl | exact dq3 hd rfl | omega) rfl (Nat.le_of_ble_eq_true rfl) ?_
  refine g_aload_n 1 (gd rfl) rfl rfl ?_
  refine g_getA (q2 := 89) 4 (gd rfl) rfl rfl rfl rfl ?_
  refine g_iload_n 5 (gd rfl) rfl rfl ?_
  refine g_iaload 6 (gd rfl) rfl (n := 32) rfl (in_ix h1 rfl) (fun z5 e5 => ?_)
  have i5 := inv_I hI (n := 32) (t := 0) 0 31 rfl (in_ix h1 rfl) rfl e5
  refine g_iload_n 7 (gd rfl) rfl rfl ?_
  refine g_cmp_ne 10 26 (gd rfl) rfl rfl (fun c7 => ?_) (fun c7 => ?_)
  · skip
    refine g_aload_n 27 (gd rfl) rfl rfl ?_
    refine g_getA (q2 := 92) 30 (gd rfl) rfl rfl rfl rfl ?_
    refine g_iload_n 31 (gd rfl) rfl rfl ?_
    refine g_iaload 32 (gd rfl) rfl (n := 32) rfl (in_ix h2 rfl) (fun z31 e31 => ?_)
    refine g_istore_n 33 (gd rfl) rfl (Nat.le_of_ble_eq_true rfl) ?_
    refine g_ldc2_w 2 36 (gd rfl) rfl rfl ?_
    refine g_aload_n 37 (gd rfl) rfl rfl ?_
    refine g_getI 40 (gd rfl) rfl rfl rfl (fun z37 e37 => ?_)
    have q37 : u_86_5 = z37 := (e_86_5).trans e37.symm
    subst q37
    refine g_i2l 41 (gd rfl) rfl (fun z40 e40 => ?_)
    have i40 := l_i e40 ro_86_5
    refine g_lmul 42 (gd rfl) rfl (fun z41 e41 => ?_)
    have i41 := l_mulc 2 0 320 (Or.inl e41) i40 rfl
    refine g_aload_n 43 (gd rfl) rfl rfl ?_
    refine g_getA (q2 := 93) 46 (gd rfl) rfl rfl rfl rfl ?_
    refine g_iload_n 47 (gd rfl) rfl rfl ?_
    refine g_iaload 48 (gd rfl) rfl (n := 32) rfl (in_ix h2 rfl) (fun z47 e47 => ?_)
    refine g_i2l 49 (gd rfl) rfl (fun z48 e48 => ?_)
    have i48 := l_i e48 (i_rng z47)
    refine g_lmul 50 (gd rfl) rfl (fun z49 e49 => ?_)
    refine g_aload_n 51 (gd rfl) rfl rfl ?_
    refine g_getA (q2 := 91) 54 (gd rfl) rfl rfl rfl rfl ?_
    refine g_iload_n 55 (gd rfl) rfl rfl ?_
    refine g_iaload 56 (gd rfl) rfl (n := 32) rfl (in_ix h1 rfl) (fun z55 e55 => ?_)
    refine g_i2l 57 (gd rfl) rfl (fun z56 e56 => ?_)
    have i56 := l_i e56 (i_rng z55)
    refine g_iload_n 58 (gd rfl) rfl rfl ?_
    refine g_i2l 59 (gd rfl) rfl (fun z58 e58 => ?_)
    have i58 := l_i e58 (i_rng z31)
    refine g_lmul 60 (gd rfl) rfl (fun z59 e59 => ?_)
    refine g_lsub 61 (gd rfl) rfl (fun z60 e60 => ?_)
    exact g_lreturn (gd rfl) rfl (hP _ _ ⟨z60, rfl, rfl⟩)
  · skip
    refine g_aload_n 11 (gd rfl) rfl rfl ?_
    refine g_getA (q2 := 92) 14 (gd rfl) rfl rfl rfl rfl ?_
    refine g_iload_n 15 (gd rfl) rfl rfl ?_
    refine g_iaload 16 (gd rfl) rfl (n := 32) rfl (in_ix h2 rfl) (fun z15 e15 => ?_)
    refine g_aload_n 17 (gd rfl) rfl rfl ?_
    refine g_getA (q2 := 91) 20 (gd rfl) rfl rfl rfl rfl ?_
    refine g_iload_n 21 (gd rfl) rfl rfl ?_
    refine g_iaload 22 (gd rfl) rfl (n := 32) rfl (in_ix h1 rfl) (fun z21 e21 => ?_)
    refine g_isub 23 (gd rfl) rfl (fun z22 e22 => ?_)
    refine g_goto 32 (gd rfl) rfl ?_
    refine g_istore_n 33 (gd rfl) rfl (Nat.le_of_ble_eq_true rfl) ?_
    refine g_ldc2_w 2 36 (gd rfl) rfl rfl ?_
    refine g_aload_n 37 (gd rfl) rfl rfl ?_
    refine g_getI 40 (gd rfl) rfl rfl rfl (fun z37 e37 => ?_)
    have q37 : u_86_5 = z37 := (e_86_5).trans e37.symm
    subst q37
    refine g_i2l 41 (gd rfl) rfl (fun z40 e40 => ?_)
    have i40 := l_i e40 ro_86_5
    refine g_lmul 42 (gd rfl) rfl (fun z41 e41 => ?_)
    have i41 := l_mulc 2 0 320 (Or.inl e41) i40 rfl
    refine g_aload_n 43 (gd rfl) rfl rfl ?_
    refine g_getA (q2 := 93) 46 (gd rfl) rfl rfl rfl rfl ?_
    refine g_iload_n 47 (gd rfl) rfl rfl ?_
    refine g_iaload 48 (gd rfl) rfl (n := 32) rfl (in_ix h2 rfl) (fun z47 e47 => ?_)
    refine g_i2l 49 (gd rfl) rfl (fun z48 e48 => ?_)
    have i48 := l_i e48 (i_rng z47)
    refine g_lmul 50 (gd rfl) rfl (fun z49 e49 => ?_)
    refine g_aload_n 51 (gd rfl) rfl rfl ?_
    refine g_getA (q2 := 91) 54 (gd rfl) rfl rfl rfl rfl ?_
    refine g_iload_n 55 (gd rfl) rfl rfl ?_
    refine g_iaload 56 (gd rfl) rfl (n := 32) rfl (in_ix h1 rfl) (fun z55 e55 => ?_)
    have q55 : z21 = z55 := (e21).trans e55.symm
    subst q55
    refine g_i2l 57 (gd rfl) rfl (fun z56 e56 => ?_)
    have i56 := l_i e56 (i_rng z21)
    refine g_iload_n 58 (gd rfl) rfl rfl ?_
    refine g_i2l 59 (gd rfl) rfl (fun z58 e58 => ?_)
    have i58 := l_i e58 (i_rng z22)
    refine g_lmul 60 (gd rfl) rfl (fun z59 e59 => ?_)
    refine g_lsub 61 (gd rfl) rfl (fun z60 e60 => ?_)
    exact g_lreturn (gd rfl) rfl (hP _ _ ⟨z60, rfl, rfl⟩)

/-- GraphHouse$Groups.freeGroup -/
theorem k_119_86 {Z : AmZ} {A : Nat → Nat} {s : GS} {ex : va_W} {d : Nat} {X : AmX}  (hd : 1 ≤ d) (hI : Inv s)  : GC Z d 119 [.ref (A 86)] (WW Z A s ++ ex) 0 0 (fun v u => ∃ z : Int32, v = some (.int z) ∧ u = WW Z A s ++ ex ∧ In z (-1) 31) X := by
  intro post xp hP hX
  have ct2 : ∀ (k2 : Nat) (y2_1 : Int32), (In y2_1 0 32) → 32 - (y2_1).toInt < (k2 : Int) → GG Z (d - 1) 119 post (gx xp) (1 + k2 * 900) 2 (fun j => xlook j [(0, .ref (A 86)), (1, .int y2_1)]) [] (WW Z A s ++ ex) 0 0 := by
    intro k2
    induction k2 with
    | zero => intro y2_1 j2_1 mm2; exact m_no mm2 j2_1 rfl
    | succ k2 ih2 =>
      intro y2_1 j2_1 mm2
      refine gg_w (M := 1 + k2 * 900 + 900) gws ?_
      refine g_iload_n 3 (gd rfl) rfl rfl ?_
      refine g_bipush 32 5 (gd rfl) rfl rfl ?_
      refine g_cmp_ge 8 25 (gd rfl) rfl rfl (fun c5 => ?_) (fun c5 => ?_)
      · skip
        have i5 := r_le2 32 32 c5 (in_c 32 rfl) j2_1 rfl
        refine g_iconst (-1) 26 (gd rfl) rfl rfl ?_
        exact g_ireturn (gd rfl) rfl rfl (hP _ _ ⟨(Int32.ofInt (-1)), rfl, rfl, in_w (-1) 31 (in_c (-1) rfl) rfl⟩)
      · skip
        have i5 := r_lt1 0 31 c5 j2_1 (in_c 32 rfl) rfl
        refine g_aload_n 9 (gd rfl) rfl rfl ?_
        refine g_getA (q2 := 90) 12 (gd rfl) rfl rfl rfl rfl ?_
        refine g_iload_n 13 (gd rfl) rfl rfl ?_
        refine g_iaload 14 (gd rfl) rfl (n := 32) rfl (in_ix i5 rfl) (fun z13 e13 => ?_)
        refine g_if_ne 17 19 (gd rfl) rfl rfl (fun c14 => ?_) (fun c14 => ?_)
        · skip
          refine g_iinc 22 (gd rfl) rfl rfl (Nat.le_of_ble_eq_true rfl) (fun z19 e19 => ?_)
          have i19 := in_add 1 32 e19 i5 (in_c 1 rfl) rfl rfl
          refine g_goto 2 (gd rfl) rfl ?_
          exact gg_w (by first | exact Nat.le_add_right _ _ | exact gw2 | exact gw3 | exact gwe rfl | exact gwf rfl | exact gwg rfl | exact gwh rfl | omega) (gg_f (gf_cons rfl (gf_cons rfl gf_nil)) (ih2  z19  (in_w 0 32 i19 rfl) (m_up mm2 (t_add e19 i5 (in_c 1 rfl) rfl) (in_w 1 1 (in_c 1 rfl) rfl))))
        · skip
          have i14 := z_eq 0 0 c14 (i_rng z13) rfl
          refine g_iload_n 18 (gd rfl) rfl rfl ?_
          exact g_ireturn (gd rfl) rfl rfl (hP _ _ ⟨y2_1, rfl, rfl, in_w (-1) 31 i5 rfl⟩)
  refine g_enter2 (k := 119) (N := 30601) (by first | exact dq1 hd rfl | exact dq0 hd rfl | exact dq2 hd rfl | exact dq3 hd rfl | omega) rfl (Nat.le_of_ble_eq_true rfl) ?_
  refine g_iconst 0 1 (gd rfl) rfl rfl ?_
  refine g_istore_n 2 (gd rfl) rfl (Nat.le_of_ble_eq_true rfl) ?_
  exact gg_w (by first | exact Nat.le_of_ble_eq_true rfl | omega) (gg_f (gf_cons rfl (gf_cons rfl gf_nil)) (ct2 33  (Int32.ofInt 0)  (in_w 0 32 (in_c 0 rfl) rfl) (m_in 33 (in_w 0 32 (in_c 0 rfl) rfl) rfl)))

def fm_120_86 : FM := ([89, 90, 92], [], [], [])
/-- GraphHouse$Groups.moveTo -/
theorem k_120_86 {Z : AmZ} {A : Nat → Nat} {s : GS} {ex : va_W} {d : Nat} {X : AmX} {x1 : Int32} {x2 : Int32} (hd : 1 ≤ d) (hI : Inv s) (h1 : In x1 0 31) (h2 : In x2 (-1) 31) : GC Z d 120 [.ref (A 86), .int x1, .int x2] (WW Z A s ++ ex) 0 0 (fun v u => ∃ t : GS, Inv t ∧ Fr fm_120_86 s t ∧ ∃ z : Int32, v = some (.int z) ∧ u = WW Z A t ++ ex ∧ In z 0 1) X := by
  intro post xp hP hX
  refine g_enter2 (k := 120) (N := 900) (by first | exact dq1 hd rfl | exact dq0 hd rfl | exact dq2 hd rfl | exact dq3 hd rfl | omega) rfl (Nat.le_of_ble_eq_true rfl) ?_
  refine g_iload_n 1 (gd rfl) rfl rfl ?_
  refine g_iconst (-1) 2 (gd rfl) rfl rfl ?_
  refine g_cmp_ne 5 7 (gd rfl) rfl rfl (fun c2 => ?_) (fun c2 => ?_)
  · skip
    have i2 := r_ne1 0 31 c2 h2 (in_c (-1) rfl) rfl
    refine g_aload_n 8 (gd rfl) rfl rfl ?_
    refine g_getA (q2 := 89) 11 (gd rfl) rfl rfl rfl rfl ?_
    refine g_iload_n 12 (gd rfl) rfl rfl ?_
    refine g_iaload 13 (gd rfl) rfl (n := 32) rfl (in_ix h1 rfl) (fun z12 e12 => ?_)
    have i12 := inv_I hI (n := 32) (t := 0) 0 31 rfl (in_ix h1 rfl) rfl e12
    refine g_istore_n 14 (gd rfl) rfl (Nat.le_of_ble_eq_true rfl) ?_
    refine g_aload_n 15 (gd rfl) rfl rfl ?_
    refine g_getA (q2 := 90) 18 (gd rfl) rfl rfl rfl rfl ?_
    refine g_iload_n 19 (gd rfl) rfl rfl ?_
    refine g_dup2 20 (gd rfl) rfl rfl rfl ?_
    refine g_iaload 21 (gd rfl) rfl (n := 32) rfl (in_ix i12 rfl) (fun z20 e20 => ?_)
    refine g_iconst 1 22 (gd rfl) rfl rfl ?_
    refine g_iload_n 23 (gd rfl) rfl rfl ?_
    refine g_ishl 24 (gd rfl) rfl (fun z23 e23 => ?_)
    refine g_iconst (-1) 25 (gd rfl) rfl rfl ?_
    refine g_ixor 26 (gd rfl) rfl (fun z25 e25 => ?_)
    refine g_iand 27 (gd rfl) rfl (fun z26 e26 => ?_)
    refine g_iastore 28 (gd rfl) rfl (n := 32) rfl (in_ix i12 rfl) ?_
    have hI27 := inv_sI (q := 90) (j := z12.toNatClampNeg) hI rfl (in_w (-2147483648) 2147483647 (i_rng z26) rfl)
    refine g_aload_n 29 (gd rfl) rfl rfl ?_
    refine g_getA (q2 := 92) 32 (gd rfl) rfl rfl rfl rfl ?_
    refine g_iload_n 33 (gd rfl) rfl rfl ?_
    refine g_dup2 34 (gd rfl) rfl rfl rfl ?_
    refine g_iaload 35 (gd rfl) rfl (n := 32) rfl (in_ix i12 rfl) (fun z34 e34 => ?_)
    refine g_aload_n 36 (gd rfl) rfl rfl ?_
    refine g_getA (q2 := 91) 39 (gd rfl) rfl rfl rfl rfl ?_
    refine g_iload_n 40 (gd rfl) rfl rfl ?_
    refine g_iaload 41 (gd rfl) rfl (n := 32) rfl (in_ix h1 rfl) (fun z40 e40 => ?_)
    refine g_isub 42 (gd rfl) rfl (fun z41 e41 => ?_)
    refine g_iastore 43 (gd rfl) rfl (n := 32) rfl (in_ix i12 rfl) ?_
    have hI42 := inv_sI (q := 92) (j := z12.toNatClampNeg) hI27 rfl (in_w (-2147483648) 2147483647 (i_rng z41) rfl)
    refine g_aload_n 44 (gd rfl) rfl rfl ?_
    refine g_getA (q2 := 92) 47 (gd rfl) rfl rfl rfl rfl ?_
    refine g_iload_n 48 (gd rfl) rfl rfl ?_
    refine g_aload_n 49 (gd rfl) rfl rfl ?_
    refine g_getA (q2 := 90) 52 (gd rfl) rfl rfl rfl rfl ?_
    refine g_iload_n 53 (gd rfl) rfl rfl ?_
    refine g_iaload 54 (gd rfl) rfl (n := 32) rfl (in_ix i2 rfl) (fun z53 e53 => ?_)
    refine g_if_ne 57 66 (gd rfl) rfl rfl (fun c54 => ?_) (fun c54 => ?_)
    · skip
      refine g_aload_n 67 (gd rfl) rfl rfl ?_
      refine g_getA (q2 := 92) 70 (gd rfl) rfl rfl rfl rfl ?_
      refine g_iload_n 71 (gd rfl) rfl rfl ?_
      refine g_iaload 72 (gd rfl) rfl (n := 32) rfl (in_ix i2 rfl) (fun z71 e71 => ?_)
      refine g_aload_n 73 (gd rfl) rfl rfl ?_
      refine g_getA (q2 := 91) 76 (gd rfl) rfl rfl rfl rfl ?_
      refine g_iload_n 77 (gd rfl) rfl rfl ?_
      refine g_iaload 78 (gd rfl) rfl (n := 32) rfl (in_ix h1 rfl) (fun z77 e77 => ?_)
      have q77 : z40 = z77 := (sI_ne rfl (e40)).trans e77.symm
      subst q77
      refine g_iadd 79 (gd rfl) rfl (fun z78 e78 => ?_)
      refine g_iastore 80 (gd rfl) rfl (n := 32) rfl (in_ix i2 rfl) ?_
      have hI79 := inv_sI (q := 92) (j := x2.toNatClampNeg) hI42 rfl (in_w (-2147483648) 2147483647 (i_rng z78) rfl)
      refine g_aload_n 81 (gd rfl) rfl rfl ?_
      refine g_getA (q2 := 90) 84 (gd rfl) rfl rfl rfl rfl ?_
      refine g_iload_n 85 (gd rfl) rfl rfl ?_
      refine g_dup2 86 (gd rfl) rfl rfl rfl ?_
      refine g_iaload 87 (gd rfl) rfl (n := 32) rfl (in_ix i2 rfl) (fun z86 e86 => ?_)
      have q86 : z53 = z86 := (sI_ne rfl (e53)).trans e86.symm
      subst q86
      refine g_iconst 1 88 (gd rfl) rfl rfl ?_
      refine g_iload_n 89 (gd rfl) rfl rfl ?_
      refine g_ishl 90 (gd rfl) rfl (fun z89 e89 => ?_)
      refine g_ior 91 (gd rfl) rfl (fun z90 e90 => ?_)
      refine g_iastore 92 (gd rfl) rfl (n := 32) rfl (in_ix i2 rfl) ?_
      have hI91 := inv_sI (q := 90) (j := x2.toNatClampNeg) hI79 rfl (in_w (-2147483648) 2147483647 (i_rng z90) rfl)
      refine g_aload_n 93 (gd rfl) rfl rfl ?_
      refine g_getA (q2 := 89) 96 (gd rfl) rfl rfl rfl rfl ?_
      refine g_iload_n 97 (gd rfl) rfl rfl ?_
      refine g_iload_n 98 (gd rfl) rfl rfl ?_
      refine g_iastore 99 (gd rfl) rfl (n := 32) rfl (in_ix h1 rfl) ?_
      have hI98 := inv_sI (q := 89) (j := x1.toNatClampNeg) hI91 rfl (in_w 0 31 i2 rfl)
      refine g_iconst 1 100 (gd rfl) rfl rfl ?_
      exact g_ireturn (gd rfl) rfl (nb01 (in_w 0 1 (in_c 1 rfl) rfl)) (hP _ _ ⟨(sI (sI (sI (sI (sI s 90 z12.toNatClampNeg z26) 92 z12.toNatClampNeg z41) 92 x2.toNatClampNeg z78) 90 x2.toNatClampNeg z90) 89 x1.toNatClampNeg x2), hI98, (fr_sI rfl (fr_sI rfl (fr_sI rfl (fr_sI rfl (fr_sI rfl fr_rf))))), (Int32.ofInt 1), rfl, rfl, in_w 0 1 (in_c 1 rfl) rfl⟩)
    · skip
      have i54 := z_eq 0 0 c54 (i_rng z53) rfl
      refine g_aload_n 58 (gd rfl) rfl rfl ?_
      refine g_getA (q2 := 91) 61 (gd rfl) rfl rfl rfl rfl ?_
      refine g_iload_n 62 (gd rfl) rfl rfl ?_
      refine g_iaload 63 (gd rfl) rfl (n := 32) rfl (in_ix h1 rfl) (fun z62 e62 => ?_)
      have q62 : z40 = z62 := (sI_ne rfl (e40)).trans e62.symm
      subst q62
      refine g_goto 79 (gd rfl) rfl ?_
      refine g_iastore 80 (gd rfl) rfl (n := 32) rfl (in_ix i2 rfl) ?_
      have hI79 := inv_sI (q := 92) (j := x2.toNatClampNeg) hI42 rfl (in_w (-2147483648) 2147483647 (i_rng z40) rfl)
      refine g_aload_n 81 (gd rfl) rfl rfl ?_
      refine g_getA (q2 := 90) 84 (gd rfl) rfl rfl rfl rfl ?_
      refine g_iload_n 85 (gd rfl) rfl rfl ?_
      refine g_dup2 86 (gd rfl) rfl rfl rfl ?_
      refine g_iaload 87 (gd rfl) rfl (n := 32) rfl (in_ix i2 rfl) (fun z86 e86 => ?_)
      have q86 : z53 = z86 := (sI_ne rfl (e53)).trans e86.symm
      subst q86
      refine g_iconst 1 88 (gd rfl) rfl rfl ?_
      refine g_iload_n 89 (gd rfl) rfl rfl ?_
      refine g_ishl 90 (gd rfl) rfl (fun z89 e89 => ?_)
      refine g_ior 91 (gd rfl) rfl (fun z90 e90 => ?_)
      refine g_iastore 92 (gd rfl) rfl (n := 32) rfl (in_ix i2 rfl) ?_
      have hI91 := inv_sI (q := 90) (j := x2.toNatClampNeg) hI79 rfl (in_w (-2147483648) 2147483647 (i_rng z90) rfl)
      refine g_aload_n 93 (gd rfl) rfl rfl ?_
      refine g_getA (q2 := 89) 96 (gd rfl) rfl rfl rfl rfl ?_
      refine g_iload_n 97 (gd rfl) rfl rfl ?_
      refine g_iload_n 98 (gd rfl) rfl rfl ?_
      refine g_iastore 99 (gd rfl) rfl (n := 32) rfl (in_ix h1 rfl) ?_
      have hI98 := inv_sI (q := 89) (j := x1.toNatClampNeg) hI91 rfl (in_w 0 31 i2 rfl)
      refine g_iconst 1 100 (gd rfl) rfl rfl ?_
      exact g_ireturn (gd rfl) rfl (nb01 (in_w 0 1 (in_c 1 rfl) rfl)) (hP _ _ ⟨(sI (sI (sI (sI (sI s 90 z12.toNatClampNeg z26) 92 z12.toNatClampNeg z41) 92 x2.toNatClampNeg z40) 90 x2.toNatClampNeg z90) 89 x1.toNatClampNeg x2), hI98, (fr_sI rfl (fr_sI rfl (fr_sI rfl (fr_sI rfl (fr_sI rfl fr_rf))))), (Int32.ofInt 1), rfl, rfl, in_w 0 1 (in_c 1 rfl) rfl⟩)
  · skip
    have i2 := r_eq1 (-1) (-1) c2 h2 (in_c (-1) rfl) rfl
    refine g_iconst 0 6 (gd rfl) rfl rfl ?_
    exact g_ireturn (gd rfl) rfl (nb01 (in_w 0 1 (in_c 0 rfl) rfl)) (hP _ _ ⟨s, hI, fr_rf, (Int32.ofInt 0), rfl, rfl, in_w 0 1 (in_c 0 rfl) rfl⟩)

/-- GraphHouse$Parts.firstFree -/
theorem k_146_2 {Z : AmZ} {A : Nat → Nat} {s : GS} {ex : va_W} {d : Nat} {X : AmX} {x1 : Int32} (hd : 4 ≤ d) (hI : Inv s)  : GC Z d 146 [.ref (A 2), .int x1] (WW Z A s ++ ex) 0 0 (fun v u => ∃ z : Int32, v = some (.int z) ∧ u = WW Z A s ++ ex ∧ In z (-1) 31) X := by
  intro post xp hP hX
  have ct2 : ∀ (k2 : Nat) (y2_2 : Int32), ((y2_2.toBitVec.toNat : Nat) : Int) < (k2 : Int) → GG Z (d - 1) 146 post (gx xp) (1 + k2 * 900) 2 (fun j => xlook j [(0, .ref (A 2)), (1, .int x1), (2, .int y2_2)]) [] (WW Z A s ++ ex) 0 0 := by
    intro k2
    induction k2 with
    | zero => intro y2_2  mm2; exact absurd mm2 (Int.not_lt.mpr (Int.natCast_nonneg _))
    | succ k2 ih2 =>
      intro y2_2  mm2
      refine gg_w (M := 1 + k2 * 900 + 900) gws ?_
      refine g_iload_n 3 (gd rfl) rfl rfl ?_
      refine g_if_eq 6 34 (gd rfl) rfl rfl (fun c3 => ?_) (fun c3 => ?_)
      · skip
        have i3 := z_eq 0 0 c3 (i_rng y2_2) rfl
        refine g_iconst (-1) 35 (gd rfl) rfl rfl ?_
        exact g_ireturn (gd rfl) rfl rfl (hP _ _ ⟨(Int32.ofInt (-1)), rfl, rfl, in_w (-1) 31 (in_c (-1) rfl) rfl⟩)
      · skip
        refine g_aload_n 7 (gd rfl) rfl rfl ?_
        refine g_getA (q2 := 11) 10 (gd rfl) rfl rfl rfl rfl ?_
        refine g_iload_n 11 (gd rfl) rfl rfl ?_
        refine g_calls (As := [.int y2_2]) (r := [.ref (A 11)]) 14 (gd rfl) rfl rfl rfl rfl rfl (Nat.le_of_ble_eq_true rfl) (Nat.zero_le _) (Nat.zero_le _) (k_264n (by first | exact dq1 hd rfl | exact dq0 hd rfl | exact dq2 hd rfl | exact dq3 hd rfl | omega) c3) (fun v u h => ?_)
        obtain ⟨z11, rfl, rfl, i11, hb11, hl11⟩ := h
        show GG _ _ _ _ _ _ _ _ [.int z11, .ref (A 11)] _ _ _
        refine g_iaload 15 (gd rfl) rfl (n := 32) rfl (in_ix i11 rfl) (fun z14 e14 => ?_)
        refine g_iload_n 16 (gd rfl) rfl rfl ?_
        refine g_iand 17 (gd rfl) rfl (fun z16 e16 => ?_)
        refine g_if_ne 20 25 (gd rfl) rfl rfl (fun c17 => ?_) (fun c17 => ?_)
        · skip
          refine g_iload_n 26 (gd rfl) rfl rfl ?_
          refine g_iload_n 27 (gd rfl) rfl rfl ?_
          refine g_iconst 1 28 (gd rfl) rfl rfl ?_
          refine g_isub 29 (gd rfl) rfl (fun z28 e28 => ?_)
          refine g_iand 30 (gd rfl) rfl (fun z29 e29 => ?_)
          refine g_istore_n 31 (gd rfl) rfl (Nat.le_of_ble_eq_true rfl) ?_
          refine g_goto 2 (gd rfl) rfl ?_
          exact gg_w (by first | exact Nat.le_add_right _ _ | exact gw2 | exact gw3 | exact gwe rfl | exact gwf rfl | exact gwg rfl | exact gwh rfl | omega) (gg_f (gf_cons rfl (gf_cons rfl (gf_cons rfl gf_nil))) (ih2  z29   (mb e29 e28 c3 mm2)))
        · skip
          have i17 := z_eq 0 0 c17 (i_rng z16) rfl
          refine g_iload_n 21 (gd rfl) rfl rfl ?_
          refine g_calls (As := [.int y2_2]) (r := []) 24 (gd rfl) rfl rfl rfl rfl rfl (Nat.le_of_ble_eq_true rfl) (Nat.zero_le _) (Nat.zero_le _) (k_264n (by first | exact dq1 hd rfl | exact dq0 hd rfl | exact dq2 hd rfl | exact dq3 hd rfl | omega) c3) (fun v u h => ?_)
          obtain ⟨z21, rfl, rfl, i21, hb21, hl21⟩ := h
          show GG _ _ _ _ _ _ _ _ [.int z21] _ _ _
          exact g_ireturn (gd rfl) rfl rfl (hP _ _ ⟨z21, rfl, rfl, in_w (-1) 31 i21 rfl⟩)
  refine g_enter2 (k := 146) (N := 3865470567301) (by first | exact dq1 hd rfl | exact dq0 hd rfl | exact dq2 hd rfl | exact dq3 hd rfl | omega) rfl (Nat.le_of_ble_eq_true rfl) ?_
  refine g_iload_n 1 (gd rfl) rfl rfl ?_
  refine g_istore_n 2 (gd rfl) rfl (Nat.le_of_ble_eq_true rfl) ?_
  exact gg_w (by first | exact Nat.le_of_ble_eq_true rfl | omega) (gg_f (gf_cons rfl (gf_cons rfl (gf_cons rfl gf_nil))) (ct2 4294967296  x1   (mb_in _)))

/-- GraphHouse$Parts.firstFree -/
theorem k_146_32 {Z : AmZ} {A : Nat → Nat} {s : GS} {ex : va_W} {d : Nat} {X : AmX} {x1 : Int32} (hd : 4 ≤ d) (hI : Inv s)  : GC Z d 146 [.ref (A 32), .int x1] (WW Z A s ++ ex) 0 0 (fun v u => ∃ z : Int32, v = some (.int z) ∧ u = WW Z A s ++ ex ∧ In z (-1) 31) X := by
  intro post xp hP hX
  have ct2 : ∀ (k2 : Nat) (y2_2 : Int32), ((y2_2.toBitVec.toNat : Nat) : Int) < (k2 : Int) → GG Z (d - 1) 146 post (gx xp) (1 + k2 * 900) 2 (fun j => xlook j [(0, .ref (A 32)), (1, .int x1), (2, .int y2_2)]) [] (WW Z A s ++ ex) 0 0 := by
    intro k2
    induction k2 with
    | zero => intro y2_2  mm2; exact absurd mm2 (Int.not_lt.mpr (Int.natCast_nonneg _))
    | succ k2 ih2 =>
      intro y2_2  mm2
      refine gg_w (M := 1 + k2 * 900 + 900) gws ?_
      refine g_iload_n 3 (gd rfl) rfl rfl ?_
      refine g_if_eq 6 34 (gd rfl) rfl rfl (fun c3 => ?_) (fun c3 => ?_)
      · skip
        have i3 := z_eq 0 0 c3 (i_rng y2_2) rfl
        refine g_iconst (-1) 35 (gd rfl) rfl rfl ?_
        exact g_ireturn (gd rfl) rfl rfl (hP _ _ ⟨(Int32.ofInt (-1)), rfl, rfl, in_w (-1) 31 (in_c (-1) rfl) rfl⟩)
      · skip
        refine g_aload_n 7 (gd rfl) rfl rfl ?_
        refine g_getA (q2 := 41) 10 (gd rfl) rfl rfl rfl rfl ?_
        refine g_iload_n 11 (gd rfl) rfl rfl ?_
        refine g_calls (As := [.int y2_2]) (r := [.ref (A 41)]) 14 (gd rfl) rfl rfl rfl rfl rfl (Nat.le_of_ble_eq_true rfl) (Nat.zero_le _) (Nat.zero_le _) (k_264n (by first | exact dq1 hd rfl | exact dq0 hd rfl | exact dq2 hd rfl | exact dq3 hd rfl | omega) c3) (fun v u h => ?_)
        obtain ⟨z11, rfl, rfl, i11, hb11, hl11⟩ := h
        show GG _ _ _ _ _ _ _ _ [.int z11, .ref (A 41)] _ _ _
        refine g_iaload 15 (gd rfl) rfl (n := 32) rfl (in_ix i11 rfl) (fun z14 e14 => ?_)
        refine g_iload_n 16 (gd rfl) rfl rfl ?_
        refine g_iand 17 (gd rfl) rfl (fun z16 e16 => ?_)
        refine g_if_ne 20 25 (gd rfl) rfl rfl (fun c17 => ?_) (fun c17 => ?_)
        · skip
          refine g_iload_n 26 (gd rfl) rfl rfl ?_
          refine g_iload_n 27 (gd rfl) rfl rfl ?_
          refine g_iconst 1 28 (gd rfl) rfl rfl ?_
          refine g_isub 29 (gd rfl) rfl (fun z28 e28 => ?_)
          refine g_iand 30 (gd rfl) rfl (fun z29 e29 => ?_)
          refine g_istore_n 31 (gd rfl) rfl (Nat.le_of_ble_eq_true rfl) ?_
          refine g_goto 2 (gd rfl) rfl ?_
          exact gg_w (by first | exact Nat.le_add_right _ _ | exact gw2 | exact gw3 | exact gwe rfl | exact gwf rfl | exact gwg rfl | exact gwh rfl | omega) (gg_f (gf_cons rfl (gf_cons rfl (gf_cons rfl gf_nil))) (ih2  z29   (mb e29 e28 c3 mm2)))
        · skip
          have i17 := z_eq 0 0 c17 (i_rng z16) rfl
          refine g_iload_n 21 (gd rfl) rfl rfl ?_
          refine g_calls (As := [.int y2_2]) (r := []) 24 (gd rfl) rfl rfl rfl rfl rfl (Nat.le_of_ble_eq_true rfl) (Nat.zero_le _) (Nat.zero_le _) (k_264n (by first | exact dq1 hd rfl | exact dq0 hd rfl | exact dq2 hd rfl | exact dq3 hd rfl | omega) c3) (fun v u h => ?_)
          obtain ⟨z21, rfl, rfl, i21, hb21, hl21⟩ := h
          show GG _ _ _ _ _ _ _ _ [.int z21] _ _ _
          exact g_ireturn (gd rfl) rfl rfl (hP _ _ ⟨z21, rfl, rfl, in_w (-1) 31 i21 rfl⟩)
  refine g_enter2 (k := 146) (N := 3865470567301) (by first | exact dq1 hd rfl | exact dq0 hd rfl | exact dq2 hd rfl | exact dq3 hd rfl | omega) rfl (Nat.le_of_ble_eq_true rfl) ?_
  refine g_iload_n 1 (gd rfl) rfl rfl ?_
  refine g_istore_n 2 (gd rfl) rfl (Nat.le_of_ble_eq_true rfl) ?_
  exact gg_w (by first | exact Nat.le_of_ble_eq_true rfl | omega) (gg_f (gf_cons rfl (gf_cons rfl (gf_cons rfl gf_nil))) (ct2 4294967296  x1   (mb_in _)))

/-- GraphHouse$Parts.loosest -/
theorem k_149_56 {Z : AmZ} {A : Nat → Nat} {s : GS} {ex : va_W} {d : Nat} {X : AmX} {x1 : Int32} (hd : 4 ≤ d) (hI : Inv s) (nza_1 : x1.toInt ≠ 0) : GC Z d 149 [.ref (A 56), .int x1] (WW Z A s ++ ex) 0 0 (fun v u => ∃ z : Int32, v = some (.int z) ∧ u = WW Z A s ++ ex ∧ In z 0 31 ∧ (bt x1 (z).toNatClampNeg = true)) X := by
  intro post xp hP hX
  have ct7 : ∀ (k7 : Nat) (y7_2 : Int32) (y7_3 : Int32), (In y7_2 0 31) → (bt x1 (y7_2).toNatClampNeg = true) → (∀ k, bt y7_3 k = true → bt x1 k = true) → ((y7_3.toBitVec.toNat : Nat) : Int) < (k7 : Int) → GG Z (d - 1) 149 post (gx xp) (1 + k7 * 900) 7 (fun j => xlook j [(0, .ref (A 56)), (1, .int x1), (2, .int y7_2), (3, .int y7_3)]) [] (WW Z A s ++ ex) 0 0 := by
    intro k7
    induction k7 with
    | zero => intro y7_2 y7_3 j7_2 g7_0 g7_1 mm7; exact absurd mm7 (Int.not_lt.mpr (Int.natCast_nonneg _))
    | succ k7 ih7 =>
      intro y7_2 y7_3 j7_2 g7_0 g7_1 mm7
      refine gg_w (M := 1 + k7 * 900 + 900) gws ?_
      refine g_iload_n 8 (gd rfl) rfl rfl ?_
      refine g_if_eq 11 43 (gd rfl) rfl rfl (fun c8 => ?_) (fun c8 => ?_)
      · skip
        have i8 := z_eq 0 0 c8 (i_rng y7_3) rfl
        refine g_iload_n 44 (gd rfl) rfl rfl ?_
        have n44 : bt x1 (y7_2).toNatClampNeg = true := by exact g7_0
        exact g_ireturn (gd rfl) rfl rfl (hP _ _ ⟨y7_2, rfl, rfl, in_w 0 31 j7_2 rfl, n44⟩)
      · skip
        refine g_aload_n 12 (gd rfl) rfl rfl ?_
        refine g_getA (q2 := 59) 15 (gd rfl) rfl rfl rfl rfl ?_
        refine g_iload_n 16 (gd rfl) rfl rfl ?_
        refine g_calls (As := [.int y7_3]) (r := [.ref (A 59)]) 19 (gd rfl) rfl rfl rfl rfl rfl (Nat.le_of_ble_eq_true rfl) (Nat.zero_le _) (Nat.zero_le _) (k_264n (by first | exact dq1 hd rfl | exact dq0 hd rfl | exact dq2 hd rfl | exact dq3 hd rfl | omega) c8) (fun v u h => ?_)
        obtain ⟨z16, rfl, rfl, i16, hb16, hl16⟩ := h
        show GG _ _ _ _ _ _ _ _ [.int z16, .ref (A 59)] _ _ _
        refine g_iaload 20 (gd rfl) rfl (n := 32) rfl (in_ix i16 rfl) (fun z19 e19 => ?_)
        refine g_aload_n 21 (gd rfl) rfl rfl ?_
        refine g_getA (q2 := 59) 24 (gd rfl) rfl rfl rfl rfl ?_
        refine g_iload_n 25 (gd rfl) rfl rfl ?_
        refine g_iaload 26 (gd rfl) rfl (n := 32) rfl (in_ix j7_2 rfl) (fun z25 e25 => ?_)
        refine g_cmp_ge 29 34 (gd rfl) rfl rfl (fun c26 => ?_) (fun c26 => ?_)
        · skip
          refine g_iload_n 35 (gd rfl) rfl rfl ?_
          refine g_iload_n 36 (gd rfl) rfl rfl ?_
          refine g_iconst 1 37 (gd rfl) rfl rfl ?_
          refine g_isub 38 (gd rfl) rfl (fun z37 e37 => ?_)
          refine g_iand 39 (gd rfl) rfl (fun z38 e38 => ?_)
          refine g_istore_n 40 (gd rfl) rfl (Nat.le_of_ble_eq_true rfl) ?_
          refine g_goto 7 (gd rfl) rfl ?_
          have n7 : bt x1 (y7_2).toNatClampNeg = true := by first | exact hb1 | exact g7_0 | exact g7_1 _ hb30
          have n7a : ∀ k, bt z38 k = true → bt x1 k = true := by first | exact fun k h => h | exact fun k h => g7_1 k (bt_and1 e38 h)
          exact gg_w (by first | exact Nat.le_add_right _ _ | exact gw2 | exact gw3 | exact gwe rfl | exact gwf rfl | exact gwg rfl | exact gwh rfl | omega) (gg_f (gf_cons rfl (gf_cons rfl (gf_cons rfl (gf_cons rfl gf_nil)))) (ih7  y7_2 z38  (in_w 0 31 j7_2 rfl) n7 n7a (mb e38 e37 c8 mm7)))
        · skip
          have i26 := r_lt1 (-2147483648) 2147483646 c26 (i_rng z19) (i_rng z25) rfl
          have i26a := r_lt2 (-2147483647) 2147483647 c26 (i_rng z19) (i_rng z25) rfl
          refine g_iload_n 30 (gd rfl) rfl rfl ?_
          refine g_calls (As := [.int y7_3]) (r := []) 33 (gd rfl) rfl rfl rfl rfl rfl (Nat.le_of_ble_eq_true rfl) (Nat.zero_le _) (Nat.zero_le _) (k_264n (by first | exact dq1 hd rfl | exact dq0 hd rfl | exact dq2 hd rfl | exact dq3 hd rfl | omega) c8) (fun v u h => ?_)
          obtain ⟨z30, rfl, rfl, i30, hb30, hl30⟩ := h
          show GG _ _ _ _ _ _ _ _ [.int z30] _ _ _
          refine g_istore_n 34 (gd rfl) rfl (Nat.le_of_ble_eq_true rfl) ?_
          refine g_iload_n 35 (gd rfl) rfl rfl ?_
          refine g_iload_n 36 (gd rfl) rfl rfl ?_
          refine g_iconst 1 37 (gd rfl) rfl rfl ?_
          refine g_isub 38 (gd rfl) rfl (fun z37 e37 => ?_)
          refine g_iand 39 (gd rfl) rfl (fun z38 e38 => ?_)
          refine g_istore_n 40 (gd rfl) rfl (Nat.le_of_ble_eq_true rfl) ?_
          refine g_goto 7 (gd rfl) rfl ?_
          have n7 : bt x1 (z30).toNatClampNeg = true := by first | exact hb1 | exact g7_0 | exact g7_1 _ hb30
          have n7a : ∀ k, bt z38 k = true → bt x1 k = true := by first | exact fun k h => h | exact fun k h => g7_1 k (bt_and1 e38 h)
          exact gg_w (by first | exact Nat.le_add_right _ _ | exact gw2 | exact gw3 | exact gwe rfl | exact gwf rfl | exact gwg rfl | exact gwh rfl | omega) (gg_f (gf_cons rfl (gf_cons rfl (gf_cons rfl (gf_cons rfl gf_nil)))) (ih7  z30 z38  (in_w 0 31 i30 rfl) n7 n7a (mb e38 e37 c8 mm7)))
  refine g_enter2 (k := 149) (N := 3865470567301) (by first | exact dq1 hd rfl | exact dq0 hd rfl | exact dq2 hd rfl | exact dq3 hd rfl | omega) rfl (Nat.le_of_ble_eq_true rfl) ?_
  refine g_iload_n 1 (gd rfl) rfl rfl ?_
  refine g_calls (As := [.int x1]) (r := []) 4 (gd rfl) rfl rfl rfl rfl rfl (Nat.le_of_ble_eq_true rfl) (Nat.zero_le _) (Nat.zero_le _) (k_264n (by first | exact dq1 hd rfl | exact dq0 hd rfl | exact dq2 hd rfl | exact dq3 hd rfl | omega) nza_1) (fun v u h => ?_)
  obtain ⟨z1, rfl, rfl, i1, hb1, hl1⟩ := h
  show GG _ _ _ _ _ _ _ _ [.int z1] _ _ _
  refine g_istore_n 5 (gd rfl) rfl (Nat.le_of_ble_eq_true rfl) ?_
  refine g_iload_n 6 (gd rfl) rfl rfl ?_
  refine g_istore_n 7 (gd rfl) rfl (Nat.le_of_ble_eq_true rfl) ?_
  have n7 : bt x1 (z1).toNatClampNeg = true := by first | exact hb1 | exact g7_0 | exact g7_1 _ hb30
  have n7a : ∀ k, bt x1 k = true → bt x1 k = true := by first | exact fun k h => h | exact fun k h => g7_1 k (bt_and1 e38 h)
  exact gg_w (by first | exact Nat.le_of_ble_eq_true rfl | omega) (gg_f (gf_cons rfl (gf_cons rfl (gf_cons rfl (gf_cons rfl gf_nil)))) (ct7 4294967296  z1 x1  (in_w 0 31 i1 rfl) n7 n7a (mb_in _)))

def fm_150_56_2 : FM := ([59], [], [], [])
/-- GraphHouse$Parts.loosen -/
theorem k_150_56_2 {Z : AmZ} {A : Nat → Nat} {s : GS} {ex : va_W} {d : Nat} {X : AmX} {x2 : Int32} {u_2_4 : Int32} {u_2_0 : Int32} (hd : 1 ≤ d) (hI : Inv s) (h2 : In x2 0 31) (e_2_4 : u_2_4 = s.2.2.1 2 4) (e_2_0 : u_2_0 = s.2.2.1 2 0) (p_0 : (u_2_4).toInt = (u_2_0).toInt) : GC Z d 150 [.ref (A 56), .ref (A 2), .int x2] (WW Z A s ++ ex) 0 0 (fun v u => ∃ t : GS, Inv t ∧ Fr fm_150_56_2 s t ∧ v = none ∧ u = WW Z A t ++ ex) X := by
  intro post xp hP hX
  have ro_2_4 := inv_F hI (-1) 4000 rfl e_2_4
  have ro_2_0 := inv_F hI 0 4000 rfl e_2_0
  have ct52 : ∀ (k52 : Nat) (sc52 : GS) (y52_3 : Int32), Inv sc52 → Fr fm_150_56_2 s sc52 → (In y52_3 0 160) → 160 - (y52_3).toInt < (k52 : Int) → GG Z (d - 1) 150 post (gx xp) (1 + k52 * 900) 52 (fun j => xlook j [(0, .ref (A 56)), (1, .ref (A 2)), (2, .int x2), (3, .int y52_3)]) [] (WW Z A sc52 ++ ex) 0 0 := by
    intro k52
    induction k52 with
    | zero => intro sc52 y52_3 hIc52 hFc52 j52_3 mm52; exact m_no mm52 j52_3 rfl
    | succ k52 ih52 =>
      intro sc52 y52_3 hIc52 hFc52 j52_3 mm52
      refine gg_w (M := 1 + k52 * 900 + 900) gws ?_
      refine g_iload_n 53 (gd rfl) rfl rfl ?_
      refine g_aload_n 54 (gd rfl) rfl rfl ?_
      refine g_getA (q2 := 14) 57 (gd rfl) rfl rfl rfl rfl ?_
      refine g_iload_n 58 (gd rfl) rfl rfl ?_
      refine g_iconst 1 59 (gd rfl) rfl rfl ?_
      refine g_iadd 60 (gd rfl) rfl (fun z59 e59 => ?_)
      have i59 := in_add 1 32 e59 h2 (in_c 1 rfl) rfl rfl
      refine g_iaload 61 (gd rfl) rfl (n := 33) rfl (in_ix i59 rfl) (fun z60 e60 => ?_)
      have i60 := inv_I hIc52 (n := 33) (t := 0) 0 160 rfl (in_ix i59 rfl) rfl e60
      refine g_cmp_ge 64 90 (gd rfl) rfl rfl (fun c61 => ?_) (fun c61 => ?_)
      · skip
        exact g_return (gd rfl) rfl (hP _ _ ⟨sc52, hIc52, hFc52, rfl, rfl⟩)
      · skip
        have i61 := r_lt1 0 159 c61 j52_3 i60 rfl
        have i61a := r_lt2 1 160 c61 j52_3 i60 rfl
        refine g_aload_n 65 (gd rfl) rfl rfl ?_
        refine g_getA (q2 := 59) 68 (gd rfl) rfl rfl rfl rfl ?_
        refine g_aload_n 69 (gd rfl) rfl rfl ?_
        refine g_getA (q2 := 4) 72 (gd rfl) rfl rfl rfl rfl ?_
        refine g_aload_n 73 (gd rfl) rfl rfl ?_
        refine g_getA (q2 := 15) 76 (gd rfl) rfl rfl rfl rfl ?_
        refine g_iload_n 77 (gd rfl) rfl rfl ?_
        refine g_iaload 78 (gd rfl) rfl (n := 160) rfl (in_ix i61 rfl) (fun z77 e77 => ?_)
        have i77 := inv_I hIc52 (n := 160) (t := 0) 0 159 rfl (in_ix i61 rfl) rfl e77
        refine g_iaload 79 (gd rfl) rfl (n := 160) rfl (in_ix i77 rfl) (fun z78 e78 => ?_)
        have i78 := inv_I hIc52 (n := 160) (t := 0) (-1) 31 rfl (in_ix i77 rfl) rfl e78
        have i79 : In z78 0 31 := by exact tg_b (b := 2) hIc52.2.1 rfl rfl rfl rfl rfl (by rw [← (show u_2_4 = sc52.2.2.1 2 4 from fr_F e_2_4 hFc52 rfl), ← (show u_2_0 = sc52.2.2.1 2 0 from fr_F e_2_0 hFc52 rfl)]; exact p_0) e60 i59 i61 c61 e77 e78 i78
        refine g_dup2 80 (gd rfl) rfl rfl rfl ?_
        refine g_iaload 81 (gd rfl) rfl (n := 32) rfl (in_ix i79 rfl) (fun z80 e80 => ?_)
        refine g_iconst 1 82 (gd rfl) rfl rfl ?_
        refine g_isub 83 (gd rfl) rfl (fun z82 e82 => ?_)
        refine g_iastore 84 (gd rfl) rfl (n := 32) rfl (in_ix i79 rfl) ?_
        have hI83 := inv_sI (q := 59) (j := z78.toNatClampNeg) hIc52 rfl (in_w (-2147483648) 2147483647 (i_rng z82) rfl)
        refine g_iinc 87 (gd rfl) rfl rfl (Nat.le_of_ble_eq_true rfl) (fun z84 e84 => ?_)
        have i84 := in_add 1 160 e84 i61 (in_c 1 rfl) rfl rfl
        refine g_goto 52 (gd rfl) rfl ?_
        exact gg_w (by first | exact Nat.le_add_right _ _ | exact gw2 | exact gw3 | exact gwe rfl | exact gwf rfl | exact gwg rfl | exact gwh rfl | omega) (gg_f (gf_cons rfl (gf_cons rfl (gf_cons rfl (gf_cons rfl gf_nil)))) (ih52 (sI sc52 59 z78.toNatClampNeg z82) z84 hI83 (fr_sI rfl hFc52) (in_w 0 160 i84 rfl) (m_up mm52 (t_add e84 i61 (in_c 1 rfl) rfl) (in_w 1 1 (in_c 1 rfl) rfl))))
  have ct7 : ∀ (k7 : Nat) (sc7 : GS) (y7_3 : Int32), Inv sc7 → Fr fm_150_56_2 s sc7 → (In y7_3 0 160) → 160 - (y7_3).toInt < (k7 : Int) → GG Z (d - 1) 150 post (gx xp) (144902 + k7 * 900) 7 (fun j => xlook j [(0, .ref (A 56)), (1, .ref (A 2)), (2, .int x2), (3, .int y7_3)]) [] (WW Z A sc7 ++ ex) 0 0 := by
    intro k7
    induction k7 with
    | zero => intro sc7 y7_3 hIc7 hFc7 j7_3 mm7; exact m_no mm7 j7_3 rfl
    | succ k7 ih7 =>
      intro sc7 y7_3 hIc7 hFc7 j7_3 mm7
      refine gg_w (M := 144902 + k7 * 900 + 900) gws ?_
      refine g_iload_n 8 (gd rfl) rfl rfl ?_
      refine g_aload_n 9 (gd rfl) rfl rfl ?_
      refine g_getA (q2 := 12) 12 (gd rfl) rfl rfl rfl rfl ?_
      refine g_iload_n 13 (gd rfl) rfl rfl ?_
      refine g_iconst 1 14 (gd rfl) rfl rfl ?_
      refine g_iadd 15 (gd rfl) rfl (fun z14 e14 => ?_)
      have i14 := in_add 1 32 e14 h2 (in_c 1 rfl) rfl rfl
      refine g_iaload 16 (gd rfl) rfl (n := 33) rfl (in_ix i14 rfl) (fun z15 e15 => ?_)
      have i15 := inv_I hIc7 (n := 33) (t := 0) 0 160 rfl (in_ix i14 rfl) rfl e15
      refine g_cmp_ge 19 45 (gd rfl) rfl rfl (fun c16 => ?_) (fun c16 => ?_)
      · skip
        refine g_aload_n 46 (gd rfl) rfl rfl ?_
        refine g_getA (q2 := 14) 49 (gd rfl) rfl rfl rfl rfl ?_
        refine g_iload_n 50 (gd rfl) rfl rfl ?_
        refine g_iaload 51 (gd rfl) rfl (n := 33) rfl (in_ix h2 rfl) (fun z50 e50 => ?_)
        have i50 := inv_I hIc7 (n := 33) (t := 0) 0 160 rfl (in_ix h2 rfl) rfl e50
        refine g_istore_n 52 (gd rfl) rfl (Nat.le_of_ble_eq_true rfl) ?_
        exact gg_w (by first | exact Nat.le_add_right _ _ | exact gw2 | exact gw3 | exact gwe rfl | exact gwf rfl | exact gwg rfl | exact gwh rfl | omega) (gg_f (gf_cons rfl (gf_cons rfl (gf_cons rfl (gf_cons rfl gf_nil)))) (ct52 161 sc7 z50 hIc7 hFc7 (in_w 0 160 i50 rfl) (m_in 161 (in_w 0 160 i50 rfl) rfl)))
      · skip
        have i16 := r_lt1 0 159 c16 j7_3 i15 rfl
        have i16a := r_lt2 1 160 c16 j7_3 i15 rfl
        refine g_aload_n 20 (gd rfl) rfl rfl ?_
        refine g_getA (q2 := 59) 23 (gd rfl) rfl rfl rfl rfl ?_
        refine g_aload_n 24 (gd rfl) rfl rfl ?_
        refine g_getA (q2 := 5) 27 (gd rfl) rfl rfl rfl rfl ?_
        refine g_aload_n 28 (gd rfl) rfl rfl ?_
        refine g_getA (q2 := 13) 31 (gd rfl) rfl rfl rfl rfl ?_
        refine g_iload_n 32 (gd rfl) rfl rfl ?_
        refine g_iaload 33 (gd rfl) rfl (n := 160) rfl (in_ix i16 rfl) (fun z32 e32 => ?_)
        have i32 := inv_I hIc7 (n := 160) (t := 0) 0 159 rfl (in_ix i16 rfl) rfl e32
        refine g_iaload 34 (gd rfl) rfl (n := 160) rfl (in_ix i32 rfl) (fun z33 e33 => ?_)
        have i33 := inv_I hIc7 (n := 160) (t := 0) 0 31 rfl (in_ix i32 rfl) rfl e33
        refine g_dup2 35 (gd rfl) rfl rfl rfl ?_
        refine g_iaload 36 (gd rfl) rfl (n := 32) rfl (in_ix i33 rfl) (fun z35 e35 => ?_)
        refine g_iconst 1 37 (gd rfl) rfl rfl ?_
        refine g_isub 38 (gd rfl) rfl (fun z37 e37 => ?_)
        refine g_iastore 39 (gd rfl) rfl (n := 32) rfl (in_ix i33 rfl) ?_
        have hI38 := inv_sI (q := 59) (j := z33.toNatClampNeg) hIc7 rfl (in_w (-2147483648) 2147483647 (i_rng z37) rfl)
        refine g_iinc 42 (gd rfl) rfl rfl (Nat.le_of_ble_eq_true rfl) (fun z39 e39 => ?_)
        have i39 := in_add 1 160 e39 i16 (in_c 1 rfl) rfl rfl
        refine g_goto 7 (gd rfl) rfl ?_
        exact gg_w (by first | exact Nat.le_add_right _ _ | exact gw2 | exact gw3 | exact gwe rfl | exact gwf rfl | exact gwg rfl | exact gwh rfl | omega) (gg_f (gf_cons rfl (gf_cons rfl (gf_cons rfl (gf_cons rfl gf_nil)))) (ih7 (sI sc7 59 z33.toNatClampNeg z37) z39 hI38 (fr_sI rfl hFc7) (in_w 0 160 i39 rfl) (m_up mm7 (t_add e39 i16 (in_c 1 rfl) rfl) (in_w 1 1 (in_c 1 rfl) rfl))))
  refine g_enter2 (k := 150) (N := 290702) (by first | exact dq1 hd rfl | exact dq0 hd rfl | exact dq2 hd rfl | exact dq3 hd rfl | omega) rfl (Nat.le_of_ble_eq_true rfl) ?_
  refine g_aload_n 1 (gd rfl) rfl rfl ?_
  refine g_getA (q2 := 12) 4 (gd rfl) rfl rfl rfl rfl ?_
  refine g_iload_n 5 (gd rfl) rfl rfl ?_
  refine g_iaload 6 (gd rfl) rfl (n := 33) rfl (in_ix h2 rfl) (fun z5 e5 => ?_)
  have i5 := inv_I hI (n := 33) (t := 0) 0 160 rfl (in_ix h2 rfl) rfl e5
  refine g_istore_n 7 (gd rfl) rfl (Nat.le_of_ble_eq_true rfl) ?_
  exact gg_w (by first | exact Nat.le_of_ble_eq_true rfl | omega) (gg_f (gf_cons rfl (gf_cons rfl (gf_cons rfl (gf_cons rfl gf_nil)))) (ct7 161 s z5 hI fr_rf (in_w 0 160 i5 rfl) (m_in 161 (in_w 0 160 i5 rfl) rfl)))

def fm_150_56_32 : FM := ([59], [], [], [])
/-- GraphHouse$Parts.loosen -/
theorem k_150_56_32 {Z : AmZ} {A : Nat → Nat} {s : GS} {ex : va_W} {d : Nat} {X : AmX} {x2 : Int32} {u_32_4 : Int32} {u_32_0 : Int32} (hd : 1 ≤ d) (hI : Inv s) (h2 : In x2 0 31) (e_32_4 : u_32_4 = s.2.2.1 32 4) (e_32_0 : u_32_0 = s.2.2.1 32 0) (p_0 : (u_32_4).toInt = (u_32_0).toInt) : GC Z d 150 [.ref (A 56), .ref (A 32), .int x2] (WW Z A s ++ ex) 0 0 (fun v u => ∃ t : GS, Inv t ∧ Fr fm_150_56_32 s t ∧ v = none ∧ u = WW Z A t ++ ex) X := by
  intro post xp hP hX
  have ro_32_4 := inv_F hI (-1) 4000 rfl e_32_4
  have ro_32_0 := inv_F hI 0 4000 rfl e_32_0
  have ct52 : ∀ (k52 : Nat) (sc52 : GS) (y52_3 : Int32), Inv sc52 → Fr fm_150_56_32 s sc52 → (In y52_3 0 160) → 160 - (y52_3).toInt < (k52 : Int) → GG Z (d - 1) 150 post (gx xp) (1 + k52 * 900) 52 (fun j => xlook j [(0, .ref (A 56)), (1, .ref (A 32)), (2, .int x2), (3, .int y52_3)]) [] (WW Z A sc52 ++ ex) 0 0 := by
    intro k52
    induction k52 with
    | zero => intro sc52 y52_3 hIc52 hFc52 j52_3 mm52; exact m_no mm52 j52_3 rfl
    | succ k52 ih52 =>
      intro sc52 y52_3 hIc52 hFc52 j52_3 mm52
      refine gg_w (M := 1 + k52 * 900 + 900) gws ?_
      refine g_iload_n 53 (gd rfl) rfl rfl ?_
      refine g_aload_n 54 (gd rfl) rfl rfl ?_
      refine g_getA (q2 := 44) 57 (gd rfl) rfl rfl rfl rfl ?_
      refine g_iload_n 58 (gd rfl) rfl rfl ?_
      refine g_iconst 1 59 (gd rfl) rfl rfl ?_
      refine g_iadd 60 (gd rfl) rfl (fun z59 e59 => ?_)
      have i59 := in_add 1 32 e59 h2 (in_c 1 rfl) rfl rfl
      refine g_iaload 61 (gd rfl) rfl (n := 33) rfl (in_ix i59 rfl) (fun z60 e60 => ?_)
      have i60 := inv_I hIc52 (n := 33) (t := 0) 0 160 rfl (in_ix i59 rfl) rfl e60
      refine g_cmp_ge 64 90 (gd rfl) rfl rfl (fun c61 => ?_) (fun c61 => ?_)
      · skip
        exact g_return (gd rfl) rfl (hP _ _ ⟨sc52, hIc52, hFc52, rfl, rfl⟩)
      · skip
        have i61 := r_lt1 0 159 c61 j52_3 i60 rfl
        have i61a := r_lt2 1 160 c61 j52_3 i60 rfl
        refine g_aload_n 65 (gd rfl) rfl rfl ?_
        refine g_getA (q2 := 59) 68 (gd rfl) rfl rfl rfl rfl ?_
        refine g_aload_n 69 (gd rfl) rfl rfl ?_
        refine g_getA (q2 := 34) 72 (gd rfl) rfl rfl rfl rfl ?_
        refine g_aload_n 73 (gd rfl) rfl rfl ?_
        refine g_getA (q2 := 45) 76 (gd rfl) rfl rfl rfl rfl ?_
        refine g_iload_n 77 (gd rfl) rfl rfl ?_
        refine g_iaload 78 (gd rfl) rfl (n := 160) rfl (in_ix i61 rfl) (fun z77 e77 => ?_)
        have i77 := inv_I hIc52 (n := 160) (t := 0) 0 159 rfl (in_ix i61 rfl) rfl e77
        refine g_iaload 79 (gd rfl) rfl (n := 160) rfl (in_ix i77 rfl) (fun z78 e78 => ?_)
        have i78 := inv_I hIc52 (n := 160) (t := 0) (-1) 31 rfl (in_ix i77 rfl) rfl e78
        have i79 : In z78 0 31 := by exact tg_b (b := 32) hIc52.2.2.1 rfl rfl rfl rfl rfl (by rw [← (show u_32_4 = sc52.2.2.1 32 4 from fr_F e_32_4 hFc52 rfl), ← (show u_32_0 = sc52.2.2.1 32 0 from fr_F e_32_0 hFc52 rfl)]; exact p_0) e60 i59 i61 c61 e77 e78 i78
        refine g_dup2 80 (gd rfl) rfl rfl rfl ?_
        refine g_iaload 81 (gd rfl) rfl (n := 32) rfl (in_ix i79 rfl) (fun z80 e80 => ?_)
        refine g_iconst 1 82 (gd rfl) rfl rfl ?_
        refine g_isub 83 (gd rfl) rfl (fun z82 e82 => ?_)
        refine g_iastore 84 (gd rfl) rfl (n := 32) rfl (in_ix i79 rfl) ?_
        have hI83 := inv_sI (q := 59) (j := z78.toNatClampNeg) hIc52 rfl (in_w (-2147483648) 2147483647 (i_rng z82) rfl)
        refine g_iinc 87 (gd rfl) rfl rfl (Nat.le_of_ble_eq_true rfl) (fun z84 e84 => ?_)
        have i84 := in_add 1 160 e84 i61 (in_c 1 rfl) rfl rfl
        refine g_goto 52 (gd rfl) rfl ?_
        exact gg_w (by first | exact Nat.le_add_right _ _ | exact gw2 | exact gw3 | exact gwe rfl | exact gwf rfl | exact gwg rfl | exact gwh rfl | omega) (gg_f (gf_cons rfl (gf_cons rfl (gf_cons rfl (gf_cons rfl gf_nil)))) (ih52 (sI sc52 59 z78.toNatClampNeg z82) z84 hI83 (fr_sI rfl hFc52) (in_w 0 160 i84 rfl) (m_up mm52 (t_add e84 i61 (in_c 1 rfl) rfl) (in_w 1 1 (in_c 1 rfl) rfl))))
  have ct7 : ∀ (k7 : Nat) (sc7 : GS) (y7_3 : Int32), Inv sc7 → Fr fm_150_56_32 s sc7 → (In y7_3 0 160) → 160 - (y7_3).toInt < (k7 : Int) → GG Z (d - 1) 150 post (gx xp) (144902 + k7 * 900) 7 (fun j => xlook j [(0, .ref (A 56)), (1, .ref (A 32)), (2, .int x2), (3, .int y7_3)]) [] (WW Z A sc7 ++ ex) 0 0 := by
    intro k7
    induction k7 with
    | zero => intro sc7 y7_3 hIc7 hFc7 j7_3 mm7; exact m_no mm7 j7_3 rfl
    | succ k7 ih7 =>
      intro sc7 y7_3 hIc7 hFc7 j7_3 mm7
      refine gg_w (M := 144902 + k7 * 900 + 900) gws ?_
      refine g_iload_n 8 (gd rfl) rfl rfl ?_
      refine g_aload_n 9 (gd rfl) rfl rfl ?_
      refine g_getA (q2 := 42) 12 (gd rfl) rfl rfl rfl rfl ?_
      refine g_iload_n 13 (gd rfl) rfl rfl ?_
      refine g_iconst 1 14 (gd rfl) rfl rfl ?_
      refine g_iadd 15 (gd rfl) rfl (fun z14 e14 => ?_)
      have i14 := in_add 1 32 e14 h2 (in_c 1 rfl) rfl rfl
      refine g_iaload 16 (gd rfl) rfl (n := 33) rfl (in_ix i14 rfl) (fun z15 e15 => ?_)
      have i15 := inv_I hIc7 (n := 33) (t := 0) 0 160 rfl (in_ix i14 rfl) rfl e15
      refine g_cmp_ge 19 45 (gd rfl) rfl rfl (fun c16 => ?_) (fun c16 => ?_)
      · skip
        refine g_aload_n 46 (gd rfl) rfl rfl ?_
        refine g_getA (q2 := 44) 49 (gd rfl) rfl rfl rfl rfl ?_
        refine g_iload_n 50 (gd rfl) rfl rfl ?_
        refine g_iaload 51 (gd rfl) rfl (n := 33) rfl (in_ix h2 rfl) (fun z50 e50 => ?_)
        have i50 := inv_I hIc7 (n := 33) (t := 0) 0 160 rfl (in_ix h2 rfl) rfl e50
        refine g_istore_n 52 (gd rfl) rfl (Nat.le_of_ble_eq_true rfl) ?_
        exact gg_w (by first | exact Nat.le_add_right _ _ | exact gw2 | exact gw3 | exact gwe rfl | exact gwf rfl | exact gwg rfl | exact gwh rfl | omega) (gg_f (gf_cons rfl (gf_cons rfl (gf_cons rfl (gf_cons rfl gf_nil)))) (ct52 161 sc7 z50 hIc7 hFc7 (in_w 0 160 i50 rfl) (m_in 161 (in_w 0 160 i50 rfl) rfl)))
      · skip
        have i16 := r_lt1 0 159 c16 j7_3 i15 rfl
        have i16a := r_lt2 1 160 c16 j7_3 i15 rfl
        refine g_aload_n 20 (gd rfl) rfl rfl ?_
        refine g_getA (q2 := 59) 23 (gd rfl) rfl rfl rfl rfl ?_
        refine g_aload_n 24 (gd rfl) rfl rfl ?_
        refine g_getA (q2 := 35) 27 (gd rfl) rfl rfl rfl rfl ?_
        refine g_aload_n 28 (gd rfl) rfl rfl ?_
        refine g_getA (q2 := 43) 31 (gd rfl) rfl rfl rfl rfl ?_
        refine g_iload_n 32 (gd rfl) rfl rfl ?_
        refine g_iaload 33 (gd rfl) rfl (n := 160) rfl (in_ix i16 rfl) (fun z32 e32 => ?_)
        have i32 := inv_I hIc7 (n := 160) (t := 0) 0 159 rfl (in_ix i16 rfl) rfl e32
        refine g_iaload 34 (gd rfl) rfl (n := 160) rfl (in_ix i32 rfl) (fun z33 e33 => ?_)
        have i33 := inv_I hIc7 (n := 160) (t := 0) 0 31 rfl (in_ix i32 rfl) rfl e33
        refine g_dup2 35 (gd rfl) rfl rfl rfl ?_
        refine g_iaload 36 (gd rfl) rfl (n := 32) rfl (in_ix i33 rfl) (fun z35 e35 => ?_)
        refine g_iconst 1 37 (gd rfl) rfl rfl ?_
        refine g_isub 38 (gd rfl) rfl (fun z37 e37 => ?_)
        refine g_iastore 39 (gd rfl) rfl (n := 32) rfl (in_ix i33 rfl) ?_
        have hI38 := inv_sI (q := 59) (j := z33.toNatClampNeg) hIc7 rfl (in_w (-2147483648) 2147483647 (i_rng z37) rfl)
        refine g_iinc 42 (gd rfl) rfl rfl (Nat.le_of_ble_eq_true rfl) (fun z39 e39 => ?_)
        have i39 := in_add 1 160 e39 i16 (in_c 1 rfl) rfl rfl
        refine g_goto 7 (gd rfl) rfl ?_
        exact gg_w (by first | exact Nat.le_add_right _ _ | exact gw2 | exact gw3 | exact gwe rfl | exact gwf rfl | exact gwg rfl | exact gwh rfl | omega) (gg_f (gf_cons rfl (gf_cons rfl (gf_cons rfl (gf_cons rfl gf_nil)))) (ih7 (sI sc7 59 z33.toNatClampNeg z37) z39 hI38 (fr_sI rfl hFc7) (in_w 0 160 i39 rfl) (m_up mm7 (t_add e39 i16 (in_c 1 rfl) rfl) (in_w 1 1 (in_c 1 rfl) rfl))))
  refine g_enter2 (k := 150) (N := 290702) (by first | exact dq1 hd rfl | exact dq0 hd rfl | exact dq2 hd rfl | exact dq3 hd rfl | omega) rfl (Nat.le_of_ble_eq_true rfl) ?_
  refine g_aload_n 1 (gd rfl) rfl rfl ?_
  refine g_getA (q2 := 42) 4 (gd rfl) rfl rfl rfl rfl ?_
  refine g_iload_n 5 (gd rfl) rfl rfl ?_
  refine g_iaload 6 (gd rfl) rfl (n := 33) rfl (in_ix h2 rfl) (fun z5 e5 => ?_)
  have i5 := inv_I hI (n := 33) (t := 0) 0 160 rfl (in_ix h2 rfl) rfl e5
  refine g_istore_n 7 (gd rfl) rfl (Nat.le_of_ble_eq_true rfl) ?_
  exact gg_w (by first | exact Nat.le_of_ble_eq_true rfl | omega) (gg_f (gf_cons rfl (gf_cons rfl (gf_cons rfl (gf_cons rfl gf_nil)))) (ct7 161 s z5 hI fr_rf (in_w 0 160 i5 rfl) (m_in 161 (in_w 0 160 i5 rfl) rfl)))

def fm_151_56_2 : FM := ([9, 10, 11, 12, 13, 14, 15], [], [(2, 4)], [])
/-- GraphHouse$Parts.triangles -/
theorem k_151_56_2 {Z : AmZ} {A : Nat → Nat} {s : GS} {ex : va_W} {d : Nat} {X : AmX}  (hd : 4 ≤ d) (hI : Inv s)  : GC Z d 151 [.ref (A 56), .ref (A 2)] (WW Z A s ++ ex) 0 0 (fun v u => ∃ t : GS, Inv t ∧ Fr fm_151_56_2 s t ∧ ∃ z : Int64, v = some (.long z) ∧ u = WW Z A t ++ ex) X := by
  intro post xp hP hX
  obtain ⟨u_2_1, e_2_1⟩ : ∃ w, w = s.2.2.1 2 1 := ⟨_, rfl⟩
  have ro_2_1 := inv_F hI 0 32 rfl e_2_1
  have ct9 : ∀ (k9 : Nat) (sc9 : GS) (y9_2 : Int64) (y9_4 : Int32), Inv sc9 → Fr fm_151_56_2 s sc9 → (In y9_4 0 32) → 32 - (y9_4).toInt < (k9 : Int) → GG Z (d - 1) 151 post (gx xp) (1 + k9 * 3865470569101) 9 (fun j => xlook j [(0, .ref (A 56)), (1, .ref (A 2)), (2, .long y9_2), (4, .int y9_4)]) [] (WW Z A sc9 ++ ex) 0 0 := by
    intro k9
    induction k9 with
    | zero => intro sc9 y9_2 y9_4 hIc9 hFc9 j9_4 mm9; exact m_no mm9 j9_4 rfl
    | succ k9 ih9 =>
      intro sc9 y9_2 y9_4 hIc9 hFc9 j9_4 mm9
      refine gg_w (M := 1 + k9 * 3865470569101 + 3865470569101) gws ?_
      have ct27 : ∀ (k27 : Nat) (sc27 : GS) (y27_2 : Int64) (y27_5 : Int32), Inv sc27 → Fr fm_151_56_2 s sc27 → (In y9_4 0 31) → ((y27_5.toBitVec.toNat : Nat) : Int) < (k27 : Int) → GG Z (d - 1) 151 post (gx xp) (1 + k9 * 3865470569101 + 1 + k27 * 900) 27 (fun j => xlook j [(0, .ref (A 56)), (1, .ref (A 2)), (2, .long y27_2), (4, .int y9_4), (5, .int y27_5)]) [] (WW Z A sc27 ++ ex) 0 0 := by
        intro k27
        induction k27 with
        | zero => intro sc27 y27_2 y27_5 hIc27 hFc27 j27_4 mm27; exact absurd mm27 (Int.not_lt.mpr (Int.natCast_nonneg _))
        | succ k27 ih27 =>
          intro sc27 y27_2 y27_5 hIc27 hFc27 j27_4 mm27
          refine gg_w (M := 1 + k9 * 3865470569101 + 1 + k27 * 900 + 900) gws ?_
          refine g_iload 29 (gd rfl) rfl rfl ?_
          refine g_if_eq 32 69 (gd rfl) rfl rfl (fun c29 => ?_) (fun c29 => ?_)
          · skip
            have i29 := z_eq 0 0 c29 (i_rng y27_5) rfl
            refine g_iinc 72 (gd rfl) rfl rfl (Nat.le_of_ble_eq_true rfl) (fun z69 e69 => ?_)
            have i69 := in_add 1 32 e69 j27_4 (in_c 1 rfl) rfl rfl
            refine g_goto 9 (gd rfl) rfl ?_
            exact gg_w (by first | exact Nat.le_add_right _ _ | exact gw2 | exact gw3 | exact gwe rfl | exact gwf rfl | exact gwg rfl | exact gwh rfl | omega) (gg_f (gf_cons rfl (gf_cons rfl (gf_cons rfl (gf_cons rfl gf_nil)))) (ih9 sc27 y27_2 z69 hIc27 hFc27 (in_w 0 32 i69 rfl) (m_up mm9 (t_add e69 j27_4 (in_c 1 rfl) rfl) (in_w 1 1 (in_c 1 rfl) rfl))))
          · skip
            refine g_lload_n 33 (gd rfl) rfl rfl ?_
            refine g_aload_n 34 (gd rfl) rfl rfl ?_
            refine g_getA (q2 := 9) 37 (gd rfl) rfl rfl rfl rfl ?_
            refine g_iload 39 (gd rfl) rfl rfl ?_
            refine g_iaload 40 (gd rfl) rfl (n := 32) rfl (in_ix j27_4 rfl) (fun z39 e39 => ?_)
            refine g_aload_n 41 (gd rfl) rfl rfl ?_
            refine g_getA (q2 := 9) 44 (gd rfl) rfl rfl rfl rfl ?_
            refine g_iload 46 (gd rfl) rfl rfl ?_
            refine g_calls (As := [.int y27_5]) (r := [.ref (A 9), .int z39, .long y27_2]) 49 (gd rfl) rfl rfl rfl rfl rfl (Nat.le_of_ble_eq_true rfl) (Nat.zero_le _) (Nat.zero_le _) (k_264n (by first | exact dq1 hd rfl | exact dq0 hd rfl | exact dq2 hd rfl | exact dq3 hd rfl | omega) c29) (fun v u h => ?_)
            obtain ⟨z46, rfl, rfl, i46, hb46, hl46⟩ := h
            show GG _ _ _ _ _ _ _ _ [.int z46, .ref (A 9), .int z39, .long y27_2] _ _ _
            refine g_iaload 50 (gd rfl) rfl (n := 32) rfl (in_ix i46 rfl) (fun z49 e49 => ?_)
            refine g_iand 51 (gd rfl) rfl (fun z50 e50 => ?_)
            refine g_calls (As := [.int z50]) (r := [.long y27_2]) 54 (gd rfl) rfl rfl rfl rfl rfl (Nat.le_of_ble_eq_true rfl) (Nat.zero_le _) (Nat.zero_le _) (k_414b (by first | exact dq1 hd rfl | exact dq0 hd rfl | exact dq2 hd rfl | exact dq3 hd rfl | omega) hIc27 ) (fun v u h => ?_)
            obtain ⟨z51, rfl, rfl, i51⟩ := h
            show GG _ _ _ _ _ _ _ _ [.int z51, .long y27_2] _ _ _
            refine g_i2l 55 (gd rfl) rfl (fun z54 e54 => ?_)
            have i54 := l_i e54 i51
            refine g_ladd 56 (gd rfl) rfl (fun z55 e55 => ?_)
            refine g_lstore_n 57 (gd rfl) rfl (Nat.le_of_ble_eq_true rfl) ?_
            refine g_iload 59 (gd rfl) rfl rfl ?_
            refine g_iload 61 (gd rfl) rfl rfl ?_
            refine g_iconst 1 62 (gd rfl) rfl rfl ?_
            refine g_isub 63 (gd rfl) rfl (fun z62 e62 => ?_)
            refine g_iand 64 (gd rfl) rfl (fun z63 e63 => ?_)
            refine g_istore 66 (gd rfl) rfl (Nat.le_of_ble_eq_true rfl) ?_
            refine g_goto 27 (gd rfl) rfl ?_
            exact gg_w (by first | exact Nat.le_add_right _ _ | exact gw2 | exact gw3 | exact gwe rfl | exact gwf rfl | exact gwg rfl | exact gwh rfl | omega) (gg_f (gf_cons rfl (gf_cons rfl (gf_cons rfl (gf_cons rfl (gf_cons rfl gf_nil))))) (ih27 sc27 z55 z63 hIc27 hFc27 (in_w 0 31 j27_4 rfl) (mb e63 e62 c29 mm27)))
      refine g_iload 11 (gd rfl) rfl rfl ?_
      refine g_aload_n 12 (gd rfl) rfl rfl ?_
      refine g_getI 15 (gd rfl) rfl rfl rfl (fun z12 e12 => ?_)
      have q12 : u_2_1 = z12 := (fr_F e_2_1 hFc9 rfl).trans e12.symm
      subst q12
      refine g_cmp_ge 18 75 (gd rfl) rfl rfl (fun c15 => ?_) (fun c15 => ?_)
      · skip
        refine g_lload_n 76 (gd rfl) rfl rfl ?_
        refine g_ldc2_w 6 79 (gd rfl) rfl rfl ?_
        refine g_ldiv 80 (gd rfl) rfl (by decide) (fun z79 e79 => ?_)
        exact g_lreturn (gd rfl) rfl (hP _ _ ⟨sc9, hIc9, hFc9, z79, rfl, rfl⟩)
      · skip
        have i15 := r_lt1 0 31 c15 j9_4 ro_2_1 rfl
        have i15a := r_lt2 1 32 c15 j9_4 ro_2_1 rfl
        refine g_aload_n 19 (gd rfl) rfl rfl ?_
        refine g_getA (q2 := 9) 22 (gd rfl) rfl rfl rfl rfl ?_
        refine g_iload 24 (gd rfl) rfl rfl ?_
        refine g_iaload 25 (gd rfl) rfl (n := 32) rfl (in_ix i15 rfl) (fun z24 e24 => ?_)
        refine g_istore 27 (gd rfl) rfl (Nat.le_of_ble_eq_true rfl) ?_
        exact gg_w (by first | exact Nat.le_add_right _ _ | exact gw2 | exact gw3 | exact gwe rfl | exact gwf rfl | exact gwg rfl | exact gwh rfl | omega) (gg_f (gf_cons rfl (gf_cons rfl (gf_cons rfl (gf_cons rfl (gf_cons rfl gf_nil))))) (ct27 4294967296 sc9 y9_2 z24 hIc9 hFc9 (in_w 0 31 i15 rfl) (mb_in _)))
  refine g_enter2 (k := 151) (N := 127560528781234) (by first | exact dq1 hd rfl | exact dq0 hd rfl | exact dq2 hd rfl | exact dq3 hd rfl | omega) rfl (Nat.le_of_ble_eq_true rfl) ?_
  refine g_aload_n 1 (gd rfl) rfl rfl ?_
  refine g_callv (X := _) (As := []) (r := []) (b := A 2) (q := 2) 4 (gd rfl) rfl rfl rfl rfl rfl (ww_o rfl) (Nat.le_of_ble_eq_true rfl) (Nat.zero_le _) (Nat.zero_le _) (k_106_2 (by first | exact dq1 hd rfl | exact dq0 hd rfl | exact dq2 hd rfl | exact dq3 hd rfl | omega) hI ) (fun e u h => h) (fun v u h => ?_)
  obtain ⟨s1, hI1, hF1, n1, rfl, rfl⟩ := h
  obtain ⟨z1a, e1⟩ : ∃ w, w = s1.2.2.1 2 4 := ⟨_, rfl⟩
  have i1a := inv_F hI1 (-1) 4000 rfl e1
  obtain ⟨z1b, e1a⟩ : ∃ w, w = s1.2.2.1 2 0 := ⟨_, rfl⟩
  have i1b := inv_F hI1 0 4000 rfl e1a
  rw [← (show z1a = s1.2.2.1 2 4 from e1)] at n1
  rw [← (show z1b = s1.2.2.1 2 0 from e1a)] at n1
  show GG _ _ _ _ _ _ _ _ [] _ _ _
  refine g_lconst 0 5 (gd rfl) rfl rfl ?_
  refine g_lstore_n 6 (gd rfl) rfl (Nat.le_of_ble_eq_true rfl) ?_
  refine g_iconst 0 7 (gd rfl) rfl rfl ?_
  refine g_istore 9 (gd rfl) rfl (Nat.le_of_ble_eq_true rfl) ?_
  exact gg_w (by first | exact Nat.le_of_ble_eq_true rfl | omega) (gg_f (gf_cons rfl (gf_cons rfl (gf_cons rfl (gf_cons rfl gf_nil)))) (ct9 33 s1 (Int64.ofInt 0) (Int32.ofInt 0) hI1 (fr_tr rfl fr_rf hF1) (in_w 0 32 (in_c 0 rfl) rfl) (m_in 33 (in_w 0 32 (in_c 0 rfl) rfl) rfl)))

def fm_151_56_32 : FM := ([39, 40, 41, 42, 43, 44, 45], [], [(32, 4)], [])
/-- GraphHouse$Parts.triangles -/
theorem k_151_56_32 {Z : AmZ} {A : Nat → Nat} {s : GS} {ex : va_W} {d : Nat} {X : AmX}  (hd : 4 ≤ d) (hI : Inv s)  : GC Z d 151 [.ref (A 56), .ref (A 32)] (WW Z A s ++ ex) 0 0 (fun v u => ∃ t : GS, Inv t ∧ Fr fm_151_56_32 s t ∧ ∃ z : Int64, v = some (.long z) ∧ u = WW Z A t ++ ex) X := by
  intro post xp hP hX
  obtain ⟨u_32_1, e_32_1⟩ : ∃ w, w = s.2.2.1 32 1 := ⟨_, rfl⟩
  have ro_32_1 := inv_F hI 0 32 rfl e_32_1
  have ct9 : ∀ (k9 : Nat) (sc9 : GS) (y9_2 : Int64) (y9_4 : Int32), Inv sc9 → Fr fm_151_56_32 s sc9 → (In y9_4 0 32) → 32 - (y9_4).toInt < (k9 : Int) → GG Z (d - 1) 151 post (gx xp) (1 + k9 * 3865470569101) 9 (fun j => xlook j [(0, .ref (A 56)), (1, .ref (A 32)), (2, .long y9_2), (4, .int y9_4)]) [] (WW Z A sc9 ++ ex) 0 0 := by
    intro k9
    induction k9 with
    | zero => intro sc9 y9_2 y9_4 hIc9 hFc9 j9_4 mm9; exact m_no mm9 j9_4 rfl
    | succ k9 ih9 =>
      intro sc9 y9_2 y9_4 hIc9 hFc9 j9_4 mm9
      refine gg_w (M := 1 + k9 * 3865470569101 + 3865470569101) gws ?_
      have ct27 : ∀ (k27 : Nat) (sc27 : GS) (y27_2 : Int64) (y27_5 : Int32), Inv sc27 → Fr fm_151_56_32 s sc27 → (In y9_4 0 31) → ((y27_5.toBitVec.toNat : Nat) : Int) < (k27 : Int) → GG Z (d - 1) 151 post (gx xp) (1 + k9 * 3865470569101 + 1 + k27 * 900) 27 (fun j => xlook j [(0, .ref (A 56)), (1, .ref (A 32)), (2, .long y27_2), (4, .int y9_4), (5, .int y27_5)]) [] (WW Z A sc27 ++ ex) 0 0 := by
        intro k27
        induction k27 with
        | zero => intro sc27 y27_2 y27_5 hIc27 hFc27 j27_4 mm27; exact absurd mm27 (Int.not_lt.mpr (Int.natCast_nonneg _))
        | succ k27 ih27 =>
          intro sc27 y27_2 y27_5 hIc27 hFc27 j27_4 mm27
          refine gg_w (M := 1 + k9 * 3865470569101 + 1 + k27 * 900 + 900) gws ?_
          refine g_iload 29 (gd rfl) rfl rfl ?_
          refine g_if_eq 32 69 (gd rfl) rfl rfl (fun c29 => ?_) (fun c29 => ?_)
          · skip
            have i29 := z_eq 0 0 c29 (i_rng y27_5) rfl
            refine g_iinc 72 (gd rfl) rfl rfl (Nat.le_of_ble_eq_true rfl) (fun z69 e69 => ?_)
            have i69 := in_add 1 32 e69 j27_4 (in_c 1 rfl) rfl rfl
            refine g_goto 9 (gd rfl) rfl ?_
            exact gg_w (by first | exact Nat.le_add_right _ _ | exact gw2 | exact gw3 | exact gwe rfl | exact gwf rfl | exact gwg rfl | exact gwh rfl | omega) (gg_f (gf_cons rfl (gf_cons rfl (gf_cons rfl (gf_cons rfl gf_nil)))) (ih9 sc27 y27_2 z69 hIc27 hFc27 (in_w 0 32 i69 rfl) (m_up mm9 (t_add e69 j27_4 (in_c 1 rfl) rfl) (in_w 1 1 (in_c 1 rfl) rfl))))
          · skip
            refine g_lload_n 33 (gd rfl) rfl rfl ?_
            refine g_aload_n 34 (gd rfl) rfl rfl ?_
            refine g_getA (q2 := 39) 37 (gd rfl) rfl rfl rfl rfl ?_
            refine g_iload 39 (gd rfl) rfl rfl ?_
            refine g_iaload 40 (gd rfl) rfl (n := 32) rfl (in_ix j27_4 rfl) (fun z39 e39 => ?_)
            refine g_aload_n 41 (gd rfl) rfl rfl ?_
            refine g_getA (q2 := 39) 44 (gd rfl) rfl rfl rfl rfl ?_
            refine g_iload 46 (gd rfl) rfl rfl ?_
            refine g_calls (As := [.int y27_5]) (r := [.ref (A 39), .int z39, .long y27_2]) 49 (gd rfl) rfl rfl rfl rfl rfl (Nat.le_of_ble_eq_true rfl) (Nat.zero_le _) (Nat.zero_le _) (k_264n (by first | exact dq1 hd rfl | exact dq0 hd rfl | exact dq2 hd rfl | exact dq3 hd rfl | omega) c29) (fun v u h => ?_)
            obtain ⟨z46, rfl, rfl, i46, hb46, hl46⟩ := h
            show GG _ _ _ _ _ _ _ _ [.int z46, .ref (A 39), .int z39, .long y27_2] _ _ _
            refine g_iaload 50 (gd rfl) rfl (n := 32) rfl (in_ix i46 rfl) (fun z49 e49 => ?_)
            refine g_iand 51 (gd rfl) rfl (fun z50 e50 => ?_)
            refine g_calls (As := [.int z50]) (r := [.long y27_2]) 54 (gd rfl) rfl rfl rfl rfl rfl (Nat.le_of_ble_eq_true rfl) (Nat.zero_le _) (Nat.zero_le _) (k_414b (by first | exact dq1 hd rfl | exact dq0 hd rfl | exact dq2 hd rfl | exact dq3 hd rfl | omega) hIc27 ) (fun v u h => ?_)
            obtain ⟨z51, rfl, rfl, i51⟩ := h
            show GG _ _ _ _ _ _ _ _ [.int z51, .long y27_2] _ _ _
            refine g_i2l 55 (gd rfl) rfl (fun z54 e54 => ?_)
            have i54 := l_i e54 i51
            refine g_ladd 56 (gd rfl) rfl (fun z55 e55 => ?_)
            refine g_lstore_n 57 (gd rfl) rfl (Nat.le_of_ble_eq_true rfl) ?_
            refine g_iload 59 (gd rfl) rfl rfl ?_
            refine g_iload 61 (gd rfl) rfl rfl ?_
            refine g_iconst 1 62 (gd rfl) rfl rfl ?_
            refine g_isub 63 (gd rfl) rfl (fun z62 e62 => ?_)
            refine g_iand 64 (gd rfl) rfl (fun z63 e63 => ?_)
            refine g_istore 66 (gd rfl) rfl (Nat.le_of_ble_eq_true rfl) ?_
            refine g_goto 27 (gd rfl) rfl ?_
            exact gg_w (by first | exact Nat.le_add_right _ _ | exact gw2 | exact gw3 | exact gwe rfl | exact gwf rfl | exact gwg rfl | exact gwh rfl | omega) (gg_f (gf_cons rfl (gf_cons rfl (gf_cons rfl (gf_cons rfl (gf_cons rfl gf_nil))))) (ih27 sc27 z55 z63 hIc27 hFc27 (in_w 0 31 j27_4 rfl) (mb e63 e62 c29 mm27)))
      refine g_iload 11 (gd rfl) rfl rfl ?_
      refine g_aload_n 12 (gd rfl) rfl rfl ?_
      refine g_getI 15 (gd rfl) rfl rfl rfl (fun z12 e12 => ?_)
      have q12 : u_32_1 = z12 := (fr_F e_32_1 hFc9 rfl).trans e12.symm
      subst q12
      refine g_cmp_ge 18 75 (gd rfl) rfl rfl (fun c15 => ?_) (fun c15 => ?_)
      · skip
        refine g_lload_n 76 (gd rfl) rfl rfl ?_
        refine g_ldc2_w 6 79 (gd rfl) rfl rfl ?_
        refine g_ldiv 80 (gd rfl) rfl (by decide) (fun z79 e79 => ?_)
        exact g_lreturn (gd rfl) rfl (hP _ _ ⟨sc9, hIc9, hFc9, z79, rfl, rfl⟩)
      · skip
        have i15 := r_lt1 0 31 c15 j9_4 ro_32_1 rfl
        have i15a := r_lt2 1 32 c15 j9_4 ro_32_1 rfl
        refine g_aload_n 19 (gd rfl) rfl rfl ?_
        refine g_getA (q2 := 39) 22 (gd rfl) rfl rfl rfl rfl ?_
        refine g_iload 24 (gd rfl) rfl rfl ?_
        refine g_iaload 25 (gd rfl) rfl (n := 32) rfl (in_ix i15 rfl) (fun z24 e24 => ?_)
        refine g_istore 27 (gd rfl) rfl (Nat.le_of_ble_eq_true rfl) ?_
        exact gg_w (by first | exact Nat.le_add_right _ _ | exact gw2 | exact gw3 | exact gwe rfl | exact gwf rfl | exact gwg rfl | exact gwh rfl | omega) (gg_f (gf_cons rfl (gf_cons rfl (gf_cons rfl (gf_cons rfl (gf_cons rfl gf_nil))))) (ct27 4294967296 sc9 y9_2 z24 hIc9 hFc9 (in_w 0 31 i15 rfl) (mb_in _)))
  refine g_enter2 (k := 151) (N := 127560528781234) (by first | exact dq1 hd rfl | exact dq0 hd rfl | exact dq2 hd rfl | exact dq3 hd rfl | omega) rfl (Nat.le_of_ble_eq_true rfl) ?_
  refine g_aload_n 1 (gd rfl) rfl rfl ?_
  refine g_callv (X := _) (As := []) (r := []) (b := A 32) (q := 32) 4 (gd rfl) rfl rfl rfl rfl rfl (ww_o rfl) (Nat.le_of_ble_eq_true rfl) (Nat.zero_le _) (Nat.zero_le _) (k_106_32 (by first | exact dq1 hd rfl | exact dq0 hd rfl | exact dq2 hd rfl | exact dq3 hd rfl | omega) hI ) (fun e u h => h) (fun v u h => ?_)
  obtain ⟨s1, hI1, hF1, n1, rfl, rfl⟩ := h
  obtain ⟨z1a, e1⟩ : ∃ w, w = s1.2.2.1 32 4 := ⟨_, rfl⟩
  have i1a := inv_F hI1 (-1) 4000 rfl e1
  obtain ⟨z1b, e1a⟩ : ∃ w, w = s1.2.2.1 32 0 := ⟨_, rfl⟩
  have i1b := inv_F hI1 0 4000 rfl e1a
  rw [← (show z1a = s1.2.2.1 32 4 from e1)] at n1
  rw [← (show z1b = s1.2.2.1 32 0 from e1a)] at n1
  show GG _ _ _ _ _ _ _ _ [] _ _ _
  refine g_lconst 0 5 (gd rfl) rfl rfl ?_
  refine g_lstore_n 6 (gd rfl) rfl (Nat.le_of_ble_eq_true rfl) ?_
  refine g_iconst 0 7 (gd rfl) rfl rfl ?_
  refine g_istore 9 (gd rfl) rfl (Nat.le_of_ble_eq_true rfl) ?_
  exact gg_w (by first | exact Nat.le_of_ble_eq_true rfl | omega) (gg_f (gf_cons rfl (gf_cons rfl (gf_cons rfl (gf_cons rfl gf_nil)))) (ct9 33 s1 (Int64.ofInt 0) (Int32.ofInt 0) hI1 (fr_tr rfl fr_rf hF1) (in_w 0 32 (in_c 0 rfl) rfl) (m_in 33 (in_w 0 32 (in_c 0 rfl) rfl) rfl)))
end
section
/-! methods, by vc.py -/
def fm_152_56_2 : FM := ([9, 10, 11, 12, 13, 14, 15], [], [(2, 4)], [])
/-- GraphHouse$Parts.squares -/
theorem k_152_56_2 {Z : AmZ} {A : Nat → Nat} {s : GS} {ex : va_W} {d : Nat} {X : AmX}  (hd : 4 ≤ d) (hI : Inv s)  : GC Z d 152 [.ref (A 56), .ref (A 2)] (WW Z A s ++ ex) 0 0 (fun v u => ∃ t : GS, Inv t ∧ Fr fm_152_56_2 s t ∧ ∃ z : Int64, v = some (.long z) ∧ u = WW Z A t ++ ex) X := by
  intro post xp hP hX
  obtain ⟨u_2_1, e_2_1⟩ : ∃ w, w = s.2.2.1 2 1 := ⟨_, rfl⟩
  have ro_2_1 := inv_F hI 0 32 rfl e_2_1
  have ct9 : ∀ (k9 : Nat) (sc9 : GS) (y9_2 : Int64) (y9_4 : Int32), Inv sc9 → Fr fm_152_56_2 s sc9 → (In y9_4 0 32) → 32 - (y9_4).toInt < (k9 : Int) → GG Z (d - 1) 152 post (gx xp) (1 + k9 * 31501) 9 (fun j => xlook j [(0, .ref (A 56)), (1, .ref (A 2)), (2, .long y9_2), (4, .int y9_4)]) [] (WW Z A sc9 ++ ex) 0 0 := by
    intro k9
    induction k9 with
    | zero => intro sc9 y9_2 y9_4 hIc9 hFc9 j9_4 mm9; exact m_no mm9 j9_4 rfl
    | succ k9 ih9 =>
      intro sc9 y9_2 y9_4 hIc9 hFc9 j9_4 mm9
      refine gg_w (M := 1 + k9 * 31501 + 31501) gws ?_
      have ct24 : ∀ (k24 : Nat) (sc24 : GS) (y24_2 : Int64) (y24_5 : Int32), Inv sc24 → Fr fm_152_56_2 s sc24 → (In y9_4 0 31) → (In y24_5 1 32) → 32 - (y24_5).toInt < (k24 : Int) → GG Z (d - 1) 152 post (gx xp) (1 + k9 * 31501 + 1 + k24 * 900) 24 (fun j => xlook j [(0, .ref (A 56)), (1, .ref (A 2)), (2, .long y24_2), (4, .int y9_4), (5, .int y24_5)]) [] (WW Z A sc24 ++ ex) 0 0 := by
        intro k24
        induction k24 with
        | zero => intro sc24 y24_2 y24_5 hIc24 hFc24 j24_4 j24_5 mm24; exact m_no mm24 j24_5 rfl
        | succ k24 ih24 =>
          intro sc24 y24_2 y24_5 hIc24 hFc24 j24_4 j24_5 mm24
          refine gg_w (M := 1 + k9 * 31501 + 1 + k24 * 900 + 900) gws ?_
          refine g_iload 26 (gd rfl) rfl rfl ?_
          refine g_aload_n 27 (gd rfl) rfl rfl ?_
          refine g_getI 30 (gd rfl) rfl rfl rfl (fun z27 e27 => ?_)
          have q27 : u_2_1 = z27 := (fr_F e_2_1 hFc24 rfl).trans e27.symm
          subst q27
          refine g_cmp_ge 33 72 (gd rfl) rfl rfl (fun c30 => ?_) (fun c30 => ?_)
          · skip
            refine g_iinc 75 (gd rfl) rfl rfl (Nat.le_of_ble_eq_true rfl) (fun z72 e72 => ?_)
            have i72 := in_add 1 32 e72 j24_4 (in_c 1 rfl) rfl rfl
            refine g_goto 9 (gd rfl) rfl ?_
            exact gg_w (by first | exact Nat.le_add_right _ _ | exact gw2 | exact gw3 | exact gwe rfl | exact gwf rfl | exact gwg rfl | exact gwh rfl | omega) (gg_f (gf_cons rfl (gf_cons rfl (gf_cons rfl (gf_cons rfl gf_nil)))) (ih9 sc24 y24_2 z72 hIc24 hFc24 (in_w 0 32 i72 rfl) (m_up mm9 (t_add e72 j24_4 (in_c 1 rfl) rfl) (in_w 1 1 (in_c 1 rfl) rfl))))
          · skip
            have i30 := r_lt1 1 31 c30 j24_5 ro_2_1 rfl
            have i30a := r_lt2 2 32 c30 j24_5 ro_2_1 rfl
            refine g_aload_n 34 (gd rfl) rfl rfl ?_
            refine g_getA (q2 := 9) 37 (gd rfl) rfl rfl rfl rfl ?_
            refine g_iload 39 (gd rfl) rfl rfl ?_
            refine g_iaload 40 (gd rfl) rfl (n := 32) rfl (in_ix j24_4 rfl) (fun z39 e39 => ?_)
            refine g_aload_n 41 (gd rfl) rfl rfl ?_
            refine g_getA (q2 := 9) 44 (gd rfl) rfl rfl rfl rfl ?_
            refine g_iload 46 (gd rfl) rfl rfl ?_
            refine g_iaload 47 (gd rfl) rfl (n := 32) rfl (in_ix i30 rfl) (fun z46 e46 => ?_)
            refine g_iand 48 (gd rfl) rfl (fun z47 e47 => ?_)
            refine g_calls (As := [.int z47]) (r := []) 51 (gd rfl) rfl rfl rfl rfl rfl (Nat.le_of_ble_eq_true rfl) (Nat.zero_le _) (Nat.zero_le _) (k_414b (by first | exact dq1 hd rfl | exact dq0 hd rfl | exact dq2 hd rfl | exact dq3 hd rfl | omega) hIc24 ) (fun v u h => ?_)
            obtain ⟨z48, rfl, rfl, i48⟩ := h
            show GG _ _ _ _ _ _ _ _ [.int z48] _ _ _
            refine g_istore 53 (gd rfl) rfl (Nat.le_of_ble_eq_true rfl) ?_
            refine g_lload_n 54 (gd rfl) rfl rfl ?_
            refine g_iload 56 (gd rfl) rfl rfl ?_
            refine g_iload 58 (gd rfl) rfl rfl ?_
            refine g_iconst 1 59 (gd rfl) rfl rfl ?_
            refine g_isub 60 (gd rfl) rfl (fun z59 e59 => ?_)
            have i59 := in_sub (-1) 31 e59 i48 (in_c 1 rfl) rfl rfl
            refine g_imul 61 (gd rfl) rfl (fun z60 e60 => ?_)
            refine g_iconst 2 62 (gd rfl) rfl rfl ?_
            refine g_idiv 63 (gd rfl) rfl (by decide) (fun z62 e62 => ?_)
            refine g_i2l 64 (gd rfl) rfl (fun z63 e63 => ?_)
            have i63 := l_i e63 (i_rng z62)
            refine g_ladd 65 (gd rfl) rfl (fun z64 e64 => ?_)
            refine g_lstore_n 66 (gd rfl) rfl (Nat.le_of_ble_eq_true rfl) ?_
            refine g_iinc 69 (gd rfl) rfl rfl (Nat.le_of_ble_eq_true rfl) (fun z66 e66 => ?_)
            have i66 := in_add 2 32 e66 i30 (in_c 1 rfl) rfl rfl
            refine g_goto 24 (gd rfl) rfl ?_
            exact gg_w (by first | exact Nat.le_add_right _ _ | exact gw2 | exact gw3 | exact gwe rfl | exact gwf rfl | exact gwg rfl | exact gwh rfl | omega) (gg_f (gf_cons rfl (gf_cons rfl (gf_cons rfl (gf_cons rfl (gf_cons rfl gf_nil))))) (ih24 sc24 z64 z66 hIc24 hFc24 (in_w 0 31 j24_4 rfl) (in_w 1 32 i66 rfl) (m_up mm24 (t_add e66 i30 (in_c 1 rfl) rfl) (in_w 1 1 (in_c 1 rfl) rfl))))
      refine g_iload 11 (gd rfl) rfl rfl ?_
      refine g_aload_n 12 (gd rfl) rfl rfl ?_
      refine g_getI 15 (gd rfl) rfl rfl rfl (fun z12 e12 => ?_)
      have q12 : u_2_1 = z12 := (fr_F e_2_1 hFc9 rfl).trans e12.symm
      subst q12
      refine g_cmp_ge 18 78 (gd rfl) rfl rfl (fun c15 => ?_) (fun c15 => ?_)
      · skip
        refine g_lload_n 79 (gd rfl) rfl rfl ?_
        refine g_ldc2_w 2 82 (gd rfl) rfl rfl ?_
        refine g_ldiv 83 (gd rfl) rfl (by decide) (fun z82 e82 => ?_)
        exact g_lreturn (gd rfl) rfl (hP _ _ ⟨sc9, hIc9, hFc9, z82, rfl, rfl⟩)
      · skip
        have i15 := r_lt1 0 31 c15 j9_4 ro_2_1 rfl
        have i15a := r_lt2 1 32 c15 j9_4 ro_2_1 rfl
        refine g_iload 20 (gd rfl) rfl rfl ?_
        refine g_iconst 1 21 (gd rfl) rfl rfl ?_
        refine g_iadd 22 (gd rfl) rfl (fun z21 e21 => ?_)
        have i21 := in_add 1 32 e21 i15 (in_c 1 rfl) rfl rfl
        refine g_istore 24 (gd rfl) rfl (Nat.le_of_ble_eq_true rfl) ?_
        exact gg_w (by first | exact Nat.le_add_right _ _ | exact gw2 | exact gw3 | exact gwe rfl | exact gwf rfl | exact gwg rfl | exact gwh rfl | omega) (gg_f (gf_cons rfl (gf_cons rfl (gf_cons rfl (gf_cons rfl (gf_cons rfl gf_nil))))) (ct24 32 sc9 y9_2 z21 hIc9 hFc9 (in_w 0 31 i15 rfl) (in_w 1 32 i21 rfl) (m_in 32 (in_w 1 32 i21 rfl) rfl)))
  refine g_enter2 (k := 152) (N := 1040434) (by first | exact dq1 hd rfl | exact dq0 hd rfl | exact dq2 hd rfl | exact dq3 hd rfl | omega) rfl (Nat.le_of_ble_eq_true rfl) ?_
  refine g_aload_n 1 (gd rfl) rfl rfl ?_
  refine g_callv (X := _) (As := []) (r := []) (b := A 2) (q := 2) 4 (gd rfl) rfl rfl rfl rfl rfl (ww_o rfl) (Nat.le_of_ble_eq_true rfl) (Nat.zero_le _) (Nat.zero_le _) (k_106_2 (by first | exact dq1 hd rfl | exact dq0 hd rfl | exact dq2 hd rfl | exact dq3 hd rfl | omega) hI ) (fun e u h => h) (fun v u h => ?_)
  obtain ⟨s1, hI1, hF1, n1, rfl, rfl⟩ := h
  obtain ⟨z1a, e1⟩ : ∃ w, w = s1.2.2.1 2 4 := ⟨_, rfl⟩
  have i1a := inv_F hI1 (-1) 4000 rfl e1
  obtain ⟨z1b, e1a⟩ : ∃ w, w = s1.2.2.1 2 0 := ⟨_, rfl⟩
  have i1b := inv_F hI1 0 4000 rfl e1a
  rw [← (show z1a = s1.2.2.1 2 4 from e1)] at n1
  rw [← (show z1b = s1.2.2.1 2 0 from e1a)] at n1
  show GG _ _ _ _ _ _ _ _ [] _ _ _
  refine g_lconst 0 5 (gd rfl) rfl rfl ?_
  refine g_lstore_n 6 (gd rfl) rfl (Nat.le_of_ble_eq_true rfl) ?_
  refine g_iconst 0 7 (gd rfl) rfl rfl ?_
  refine g_istore 9 (gd rfl) rfl (Nat.le_of_ble_eq_true rfl) ?_
  exact gg_w (by first | exact Nat.le_of_ble_eq_true rfl | omega) (gg_f (gf_cons rfl (gf_cons rfl (gf_cons rfl (gf_cons rfl gf_nil)))) (ct9 33 s1 (Int64.ofInt 0) (Int32.ofInt 0) hI1 (fr_tr rfl fr_rf hF1) (in_w 0 32 (in_c 0 rfl) rfl) (m_in 33 (in_w 0 32 (in_c 0 rfl) rfl) rfl)))

def fm_152_56_32 : FM := ([39, 40, 41, 42, 43, 44, 45], [], [(32, 4)], [])
/-- GraphHouse$Parts.squares -/
theorem k_152_56_32 {Z : AmZ} {A : Nat → Nat} {s : GS} {ex : va_W} {d : Nat} {X : AmX}  (hd : 4 ≤ d) (hI : Inv s)  : GC Z d 152 [.ref (A 56), .ref (A 32)] (WW Z A s ++ ex) 0 0 (fun v u => ∃ t : GS, Inv t ∧ Fr fm_152_56_32 s t ∧ ∃ z : Int64, v = some (.long z) ∧ u = WW Z A t ++ ex) X := by
  intro post xp hP hX
  obtain ⟨u_32_1, e_32_1⟩ : ∃ w, w = s.2.2.1 32 1 := ⟨_, rfl⟩
  have ro_32_1 := inv_F hI 0 32 rfl e_32_1
  have ct9 : ∀ (k9 : Nat) (sc9 : GS) (y9_2 : Int64) (y9_4 : Int32), Inv sc9 → Fr fm_152_56_32 s sc9 → (In y9_4 0 32) → 32 - (y9_4).toInt < (k9 : Int) → GG Z (d - 1) 152 post (gx xp) (1 + k9 * 31501) 9 (fun j => xlook j [(0, .ref (A 56)), (1, .ref (A 32)), (2, .long y9_2), (4, .int y9_4)]) [] (WW Z A sc9 ++ ex) 0 0 := by
    intro k9
    induction k9 with
    | zero => intro sc9 y9_2 y9_4 hIc9 hFc9 j9_4 mm9; exact m_no mm9 j9_4 rfl
    | succ k9 ih9 =>
      intro sc9 y9_2 y9_4 hIc9 hFc9 j9_4 mm9
      refine gg_w (M := 1 + k9 * 31501 + 31501) gws ?_
      have ct24 : ∀ (k24 : Nat) (sc24 : GS) (y24_2 : Int64) (y24_5 : Int32), Inv sc24 → Fr fm_152_56_32 s sc24 → (In y9_4 0 31) → (In y24_5 1 32) → 32 - (y24_5).toInt < (k24 : Int) → GG Z (d - 1) 152 post (gx xp) (1 + k9 * 31501 + 1 + k24 * 900) 24 (fun j => xlook j [(0, .ref (A 56)), (1, .ref (A 32)), (2, .long y24_2), (4, .int y9_4), (5, .int y24_5)]) [] (WW Z A sc24 ++ ex) 0 0 := by
        intro k24
        induction k24 with
        | zero => intro sc24 y24_2 y24_5 hIc24 hFc24 j24_4 j24_5 mm24; exact m_no mm24 j24_5 rfl
        | succ k24 ih24 =>
          intro sc24 y24_2 y24_5 hIc24 hFc24 j24_4 j24_5 mm24
          refine gg_w (M := 1 + k9 * 31501 + 1 + k24 * 900 + 900) gws ?_
          refine g_iload 26 (gd rfl) rfl rfl ?_
          refine g_aload_n 27 (gd rfl) rfl rfl ?_
          refine g_getI 30 (gd rfl) rfl rfl rfl (fun z27 e27 => ?_)
          have q27 : u_32_1 = z27 := (fr_F e_32_1 hFc24 rfl).trans e27.symm
          subst q27
          refine g_cmp_ge 33 72 (gd rfl) rfl rfl (fun c30 => ?_) (fun c30 => ?_)
          · skip
            refine g_iinc 75 (gd rfl) rfl rfl (Nat.le_of_ble_eq_true rfl) (fun z72 e72 => ?_)
            have i72 := in_add 1 32 e72 j24_4 (in_c 1 rfl) rfl rfl
            refine g_goto 9 (gd rfl) rfl ?_
            exact gg_w (by first | exact Nat.le_add_right _ _ | exact gw2 | exact gw3 | exact gwe rfl | exact gwf rfl | exact gwg rfl | exact gwh rfl | omega) (gg_f (gf_cons rfl (gf_cons rfl (gf_cons rfl (gf_cons rfl gf_nil)))) (ih9 sc24 y24_2 z72 hIc24 hFc24 (in_w 0 32 i72 rfl) (m_up mm9 (t_add e72 j24_4 (in_c 1 rfl) rfl) (in_w 1 1 (in_c 1 rfl) rfl))))
          · skip
            have i30 := r_lt1 1 31 c30 j24_5 ro_32_1 rfl
            have i30a := r_lt2 2 32 c30 j24_5 ro_32_1 rfl
            refine g_aload_n 34 (gd rfl) rfl rfl ?_
            refine g_getA (q2 := 39) 37 (gd rfl) rfl rfl rfl rfl ?_
            refine g_iload 39 (gd rfl) rfl rfl ?_
            refine g_iaload 40 (gd rfl) rfl (n := 32) rfl (in_ix j24_4 rfl) (fun z39 e39 => ?_)
            refine g_aload_n 41 (gd rfl) rfl rfl ?_
            refine g_getA (q2 := 39) 44 (gd rfl) rfl rfl rfl rfl ?_
            refine g_iload 46 (gd rfl) rfl rfl ?_
            refine g_iaload 47 (gd rfl) rfl (n := 32) rfl (in_ix i30 rfl) (fun z46 e46 => ?_)
            refine g_iand 48 (gd rfl) rfl (fun z47 e47 => ?_)
            refine g_calls (As := [.int z47]) (r := []) 51 (gd rfl) rfl rfl rfl rfl rfl (Nat.le_of_ble_eq_true rfl) (Nat.zero_le _) (Nat.zero_le _) (k_414b (by first | exact dq1 hd rfl | exact dq0 hd rfl | exact dq2 hd rfl | exact dq3 hd rfl | omega) hIc24 ) (fun v u h => ?_)
            obtain ⟨z48, rfl, rfl, i48⟩ := h
            show GG _ _ _ _ _ _ _ _ [.int z48] _ _ _
            refine g_istore 53 (gd rfl) rfl (Nat.le_of_ble_eq_true rfl) ?_
            refine g_lload_n 54 (gd rfl) rfl rfl ?_
            refine g_iload 56 (gd rfl) rfl rfl ?_
            refine g_iload 58 (gd rfl) rfl rfl ?_
            refine g_iconst 1 59 (gd rfl) rfl rfl ?_
            refine g_isub 60 (gd rfl) rfl (fun z59 e59 => ?_)
            have i59 := in_sub (-1) 31 e59 i48 (in_c 1 rfl) rfl rfl
            refine g_imul 61 (gd rfl) rfl (fun z60 e60 => ?_)
            refine g_iconst 2 62 (gd rfl) rfl rfl ?_
            refine g_idiv 63 (gd rfl) rfl (by decide) (fun z62 e62 => ?_)
            refine g_i2l 64 (gd rfl) rfl (fun z63 e63 => ?_)
            have i63 := l_i e63 (i_rng z62)
            refine g_ladd 65 (gd rfl) rfl (fun z64 e64 => ?_)
            refine g_lstore_n 66 (gd rfl) rfl (Nat.le_of_ble_eq_true rfl) ?_
            refine g_iinc 69 (gd rfl) rfl rfl (Nat.le_of_ble_eq_true rfl) (fun z66 e66 => ?_)
            have i66 := in_add 2 32 e66 i30 (in_c 1 rfl) rfl rfl
            refine g_goto 24 (gd rfl) rfl ?_
            exact gg_w (by first | exact Nat.le_add_right _ _ | exact gw2 | exact gw3 | exact gwe rfl | exact gwf rfl | exact gwg rfl | exact gwh rfl | omega) (gg_f (gf_cons rfl (gf_cons rfl (gf_cons rfl (gf_cons rfl (gf_cons rfl gf_nil))))) (ih24 sc24 z64 z66 hIc24 hFc24 (in_w 0 31 j24_4 rfl) (in_w 1 32 i66 rfl) (m_up mm24 (t_add e66 i30 (in_c 1 rfl) rfl) (in_w 1 1 (in_c 1 rfl) rfl))))
      refine g_iload 11 (gd rfl) rfl rfl ?_
      refine g_aload_n 12 (gd rfl) rfl rfl ?_
      refine g_getI 15 (gd rfl) rfl rfl rfl (fun z12 e12 => ?_)
      have q12 : u_32_1 = z12 := (fr_F e_32_1 hFc9 rfl).trans e12.symm
      subst q12
      refine g_cmp_ge 18 78 (gd rfl) rfl rfl (fun c15 => ?_) (fun c15 => ?_)
      · skip
        refine g_lload_n 79 (gd rfl) rfl rfl ?_
        refine g_ldc2_w 2 82 (gd rfl) rfl rfl ?_
        refine g_ldiv 83 (gd rfl) rfl (by decide) (fun z82 e82 => ?_)
        exact g_lreturn (gd rfl) rfl (hP _ _ ⟨sc9, hIc9, hFc9, z82, rfl, rfl⟩)
      · skip
        have i15 := r_lt1 0 31 c15 j9_4 ro_32_1 rfl
        have i15a := r_lt2 1 32 c15 j9_4 ro_32_1 rfl
        refine g_iload 20 (gd rfl) rfl rfl ?_
        refine g_iconst 1 21 (gd rfl) rfl rfl ?_
        refine g_iadd 22 (gd rfl) rfl (fun z21 e21 => ?_)
        have i21 := in_add 1 32 e21 i15 (in_c 1 rfl) rfl rfl
        refine g_istore 24 (gd rfl) rfl (Nat.le_of_ble_eq_true rfl) ?_
        exact gg_w (by first | exact Nat.le_add_right _ _ | exact gw2 | exact gw3 | exact gwe rfl | exact gwf rfl | exact gwg rfl | exact gwh rfl | omega) (gg_f (gf_cons rfl (gf_cons rfl (gf_cons rfl (gf_cons rfl (gf_cons rfl gf_nil))))) (ct24 32 sc9 y9_2 z21 hIc9 hFc9 (in_w 0 31 i15 rfl) (in_w 1 32 i21 rfl) (m_in 32 (in_w 1 32 i21 rfl) rfl)))
  refine g_enter2 (k := 152) (N := 1040434) (by first | exact dq1 hd rfl | exact dq0 hd rfl | exact dq2 hd rfl | exact dq3 hd rfl | omega) rfl (Nat.le_of_ble_eq_true rfl) ?_
  refine g_aload_n 1 (gd rfl) rfl rfl ?_
  refine g_callv (X := _) (As := []) (r := []) (b := A 32) (q := 32) 4 (gd rfl) rfl rfl rfl rfl rfl (ww_o rfl) (Nat.le_of_ble_eq_true rfl) (Nat.zero_le _) (Nat.zero_le _) (k_106_32 (by first | exact dq1 hd rfl | exact dq0 hd rfl | exact dq2 hd rfl | exact dq3 hd rfl | omega) hI ) (fun e u h => h) (fun v u h => ?_)
  obtain ⟨s1, hI1, hF1, n1, rfl, rfl⟩ := h
  obtain ⟨z1a, e1⟩ : ∃ w, w = s1.2.2.1 32 4 := ⟨_, rfl⟩
  have i1a := inv_F hI1 (-1) 4000 rfl e1
  obtain ⟨z1b, e1a⟩ : ∃ w, w = s1.2.2.1 32 0 := ⟨_, rfl⟩
  have i1b := inv_F hI1 0 4000 rfl e1a
  rw [← (show z1a = s1.2.2.1 32 4 from e1)] at n1
  rw [← (show z1b = s1.2.2.1 32 0 from e1a)] at n1
  show GG _ _ _ _ _ _ _ _ [] _ _ _
  refine g_lconst 0 5 (gd rfl) rfl rfl ?_
  refine g_lstore_n 6 (gd rfl) rfl (Nat.le_of_ble_eq_true rfl) ?_
  refine g_iconst 0 7 (gd rfl) rfl rfl ?_
  refine g_istore 9 (gd rfl) rfl (Nat.le_of_ble_eq_true rfl) ?_
  exact gg_w (by first | exact Nat.le_of_ble_eq_true rfl | omega) (gg_f (gf_cons rfl (gf_cons rfl (gf_cons rfl (gf_cons rfl gf_nil)))) (ct9 33 s1 (Int64.ofInt 0) (Int32.ofInt 0) hI1 (fr_tr rfl fr_rf hF1) (in_w 0 32 (in_c 0 rfl) rfl) (m_in 33 (in_w 0 32 (in_c 0 rfl) rfl) rfl)))

def fm_159_94 : FM := ([], [95], [], [])
/-- GraphHouse$Question.closeBars -/
theorem k_159_94 {Z : AmZ} {A : Nat → Nat} {s : GS} {ex : va_W} {d : Nat} {X : AmX} {x1 : Int64} {x2 : Int64} (hd : 4 ≤ d) (hI : Inv s) (q_0 : InL x1 0 1152921504606846975) (q_1 : InL x2 0 2305843009213693951) : GC Z d 159 [.ref (A 94), .long x1, .long x2] (WW Z A s ++ ex) 0 0 (fun v u => ∃ t : GS, Inv t ∧ Fr fm_159_94 s t ∧ v = none ∧ u = WW Z A t ++ ex) X := by
  intro post xp hP hX
  have ct3 : ∀ (k3 : Nat) (sc3 : GS) (y3_5 : Int64), Inv sc3 → Fr fm_159_94 s sc3 → (InL y3_5 0 1152921504606846975) → ((y3_5.toBitVec.toNat : Nat) : Int) < (k3 : Int) → GG Z (d - 1) 159 post (gx xp) (1 + k3 * 900) 3 (fun j => xlook j [(0, .ref (A 94)), (1, .long x1), (3, .long x2), (5, .long y3_5)]) [] (WW Z A sc3 ++ ex) 0 0 := by
    intro k3
    induction k3 with
    | zero => intro sc3 y3_5 hIc3 hFc3 g3_0 mm3; exact absurd mm3 (Int.not_lt.mpr (Int.natCast_nonneg _))
    | succ k3 ih3 =>
      intro sc3 y3_5 hIc3 hFc3 g3_0 mm3
      refine gg_w (M := 1 + k3 * 900 + 900) gws ?_
      have i3 : InL y3_5 0 1152921504606846975 := by exact g3_0
      have i3a : InL x2 0 2305843009213693951 := by exact q_1
      refine g_lload 5 (gd rfl) rfl rfl ?_
      refine g_lconst 0 6 (gd rfl) rfl rfl ?_
      refine g_lcmp 7 (gd rfl) rfl (fun z6 e6 => ?_)
      have i6 := lc_in e6
      refine g_if_eq 10 36 (gd rfl) rfl rfl (fun c7 => ?_) (fun c7 => ?_)
      · skip
        have i7 := z_eq 0 0 c7 i6 rfl
        have c7a := lc_eq e6 c7
        have i7a := lr_eq1 0 0 c7a i3 (l_c 0 rfl) rfl
        exact g_return (gd rfl) rfl (hP _ _ ⟨sc3, hIc3, hFc3, rfl, rfl⟩)
      · skip
        have c7a := lc_ne e6 c7
        have i7 := lr_ne1 1 1152921504606846975 c7a i3 (l_c 0 rfl) rfl
        refine g_aload_n 11 (gd rfl) rfl rfl ?_
        refine g_getA (q2 := 95) 14 (gd rfl) rfl rfl rfl rfl ?_
        refine g_lload 16 (gd rfl) rfl rfl ?_
        refine g_calls (As := [.long y3_5]) (r := [.ref (A 95)]) 19 (gd rfl) rfl rfl rfl rfl rfl (Nat.le_of_ble_eq_true rfl) (Nat.zero_le _) (Nat.zero_le _) (k_265n 60 (by first | exact dq1 hd rfl | exact dq0 hd rfl | exact dq2 hd rfl | exact dq3 hd rfl | omega) (nz_l c7a) (by decide) (lw 0 (2 ^ 60 - 1) i7 rfl)) (fun v u h => ?_)
        obtain ⟨z16, rfl, rfl, i16, hb16⟩ := h
        show GG _ _ _ _ _ _ _ _ [.int z16, .ref (A 95)] _ _ _
        refine g_dup2 20 (gd rfl) rfl rfl rfl ?_
        refine g_laload 21 (gd rfl) rfl (n := 61) rfl (in_ix i16 rfl) (fun z20 e20 => ?_)
        have i20 := inv_L hIc3 (n := 61) 0 2305843009213693951 rfl (in_ix i16 rfl) rfl e20
        refine g_lload_n 22 (gd rfl) rfl rfl ?_
        refine g_lor 23 (gd rfl) rfl (fun z22 e22 => ?_)
        have i22 := inl_or 61 e22 (lw 0 2305843009213693951 i20 rfl) (lw 0 2305843009213693951 i3a rfl) rfl
        refine g_lastore 24 (gd rfl) rfl (n := 61) rfl (in_ix i16 rfl) ?_
        have hI23 := inv_sL (q := 95) (j := z16.toNatClampNeg) (x := z22) hIc3 rfl (lw 0 2305843009213693951 i22 rfl)
        refine g_lload 26 (gd rfl) rfl rfl ?_
        refine g_lload 28 (gd rfl) rfl rfl ?_
        refine g_lconst 1 29 (gd rfl) rfl rfl ?_
        refine g_lsub 30 (gd rfl) rfl (fun z29 e29 => ?_)
        have i29 := l_sub 0 1152921504606846974 e29 i7 (l_c 1 rfl) rfl
        refine g_land 31 (gd rfl) rfl (fun z30 e30 => ?_)
        have i30 := inl_and2 e30 i29 rfl
        refine g_lstore 33 (gd rfl) rfl (Nat.le_of_ble_eq_true rfl) ?_
        refine g_goto 3 (gd rfl) rfl ?_
        have n3 : InL z30 0 1152921504606846975 := by first | exact q_0 | exact inl_and1 e30 g3_0 rfl
        exact gg_w (by first | exact Nat.le_add_right _ _ | exact gw2 | exact gw3 | exact gwe rfl | exact gwf rfl | exact gwg rfl | exact gwh rfl | omega) (gg_f (gf_cons rfl (gf_cons rfl (gf_cons rfl (gf_cons rfl gf_nil)))) (ih3 (sL sc3 95 z16.toNatClampNeg z22) z30 hI23 (fr_sL rfl hFc3) n3 (mbl e30 e29 (nz_l c7a) mm3)))
  refine g_enter2 (k := 159) (N := 16602069666338596455301) (by first | exact dq1 hd rfl | exact dq0 hd rfl | exact dq2 hd rfl | exact dq3 hd rfl | omega) rfl (Nat.le_of_ble_eq_true rfl) ?_
  have i0 : InL x1 0 1152921504606846975 := by exact q_0
  have i0a : InL x2 0 2305843009213693951 := by exact q_1
  refine g_lload_n 1 (gd rfl) rfl rfl ?_
  refine g_lstore 3 (gd rfl) rfl (Nat.le_of_ble_eq_true rfl) ?_
  have n3 : InL x1 0 1152921504606846975 := by first | exact q_0 | exact inl_and1 e30 g3_0 rfl
  exact gg_w (by first | exact Nat.le_of_ble_eq_true rfl | omega) (gg_f (gf_cons rfl (gf_cons rfl (gf_cons rfl (gf_cons rfl gf_nil)))) (ct3 18446744073709551616 s x1 hI fr_rf n3 (mb_inl _)))

def fm_160_94 : FM := ([], [95, 96, 98], [], [(94, 0)])
/-- GraphHouse$Question.layPlace -/
theorem k_160_94 {Z : AmZ} {A : Nat → Nat} {s : GS} {ex : va_W} {d : Nat} {X : AmX} {x1 : Int32} {x2 : Int32} {x3 : Int32} (hd : 3 ≤ d) (hI : Inv s) (h1 : In x1 0 65535) (h2 : In x2 0 59) (h3 : In x3 0 10) : GC Z d 160 [.ref (A 94), .int x1, .int x2, .int x3] (WW Z A s ++ ex) 0 0 (fun v u => ∃ t : GS, Inv t ∧ Fr fm_160_94 s t ∧ v = none ∧ u = WW Z A t ++ ex) X := by
  intro post xp hP hX
  have ct16 : ∀ (k16 : Nat) (sc16 : GS) (y16_4 : Int64) (y16_6 : Int32), Inv sc16 → Fr fm_160_94 s sc16 → (In x1 46 46) → (In y16_6 0 26) → 26 - (y16_6).toInt < (k16 : Int) → GG Z (d - 1) 160 post (gx xp) (1 + k16 * 900) 16 (fun j => xlook j [(0, .ref (A 94)), (1, .int x1), (2, .int x2), (3, .int x3), (4, .long y16_4), (6, .int y16_6)]) [] (WW Z A sc16 ++ ex) 0 0 := by
    intro k16
    induction k16 with
    | zero => intro sc16 y16_4 y16_6 hIc16 hFc16 j16_1 j16_6 mm16; exact m_no mm16 j16_6 rfl
    | succ k16 ih16 =>
      intro sc16 y16_4 y16_6 hIc16 hFc16 j16_1 j16_6 mm16
      refine gg_w (M := 1 + k16 * 900 + 900) gws ?_
      refine g_iload 18 (gd rfl) rfl rfl ?_
      refine g_bipush 26 20 (gd rfl) rfl rfl ?_
      refine g_cmp_ge 23 42 (gd rfl) rfl rfl (fun c20 => ?_) (fun c20 => ?_)
      · skip
        have i20 := r_le2 26 26 c20 (in_c 26 rfl) j16_6 rfl
        refine g_goto 136 (gd rfl) rfl ?_
        exact g_return (gd rfl) rfl (hP _ _ ⟨sc16, hIc16, hFc16, rfl, rfl⟩)
      · skip
        have i20 := r_lt1 0 25 c20 j16_6 (in_c 26 rfl) rfl
        refine g_aload_n 24 (gd rfl) rfl rfl ?_
        refine g_getA (q2 := 96) 27 (gd rfl) rfl rfl rfl rfl ?_
        refine g_iload 29 (gd rfl) rfl rfl ?_
        refine g_dup2 30 (gd rfl) rfl rfl rfl ?_
        refine g_laload 31 (gd rfl) rfl (n := 26) rfl (in_ix i20 rfl) (fun z30 e30 => ?_)
        have i30 := inv_L hIc16 (n := 26) 0 1152921504606846975 rfl (in_ix i20 rfl) rfl e30
        refine g_lconst 1 32 (gd rfl) rfl rfl ?_
        refine g_iload_n 33 (gd rfl) rfl rfl ?_
        refine g_lshl 34 (gd rfl) rfl (fun z33 e33 => ?_)
        have i33 := l_shl 59 e33 h2 rfl
        refine g_lor 35 (gd rfl) rfl (fun z34 e34 => ?_)
        have i34 := inl_or 60 e34 (lw 0 1152921504606846975 i30 rfl) (lw 0 1152921504606846975 i33 rfl) rfl
        refine g_lastore 36 (gd rfl) rfl (n := 26) rfl (in_ix i20 rfl) ?_
        have hI35 := inv_sL (q := 96) (j := y16_6.toNatClampNeg) (x := z34) hIc16 rfl (lw 0 1152921504606846975 i34 rfl)
        refine g_iinc 39 (gd rfl) rfl rfl (Nat.le_of_ble_eq_true rfl) (fun z36 e36 => ?_)
        have i36 := in_add 1 26 e36 i20 (in_c 1 rfl) rfl rfl
        refine g_goto 16 (gd rfl) rfl ?_
        exact gg_w (by first | exact Nat.le_add_right _ _ | exact gw2 | exact gw3 | exact gwe rfl | exact gwf rfl | exact gwg rfl | exact gwh rfl | omega) (gg_f (gf_cons rfl (gf_cons rfl (gf_cons rfl (gf_cons rfl (gf_cons rfl (gf_cons rfl gf_nil)))))) (ih16 (sL sc16 96 y16_6.toNatClampNeg z34) y16_4 z36 hI35 (fr_sL rfl hFc16) (in_w 46 46 j16_1 rfl) (in_w 0 26 i36 rfl) (m_up mm16 (t_add e36 i20 (in_c 1 rfl) rfl) (in_w 1 1 (in_c 1 rfl) rfl))))
  refine g_enter2 (k := 160) (N := 25201) (by first | exact dq1 hd rfl | exact dq0 hd rfl | exact dq2 hd rfl | exact dq3 hd rfl | omega) rfl (Nat.le_of_ble_eq_true rfl) ?_
  refine g_lconst 1 1 (gd rfl) rfl rfl ?_
  refine g_iload_n 2 (gd rfl) rfl rfl ?_
  refine g_iconst 1 3 (gd rfl) rfl rfl ?_
  refine g_iadd 4 (gd rfl) rfl (fun z3 e3 => ?_)
  have i3 := in_add 1 60 e3 h2 (in_c 1 rfl) rfl rfl
  refine g_lshl 5 (gd rfl) rfl (fun z4 e4 => ?_)
  have i4 := l_shl 60 e4 i3 rfl
  refine g_lstore 7 (gd rfl) rfl (Nat.le_of_ble_eq_true rfl) ?_
  refine g_iload_n 8 (gd rfl) rfl rfl ?_
  refine g_bipush 46 10 (gd rfl) rfl rfl ?_
  refine g_cmp_ne 13 45 (gd rfl) rfl rfl (fun c10 => ?_) (fun c10 => ?_)
  · skip
    refine g_iload_n 46 (gd rfl) rfl rfl ?_
    refine g_calls (As := [.int x1]) (r := []) 49 (gd rfl) rfl rfl rfl rfl rfl (Nat.le_of_ble_eq_true rfl) (mc := 0) (ms := 0) (Nat.zero_le _) (Nat.zero_le _) (P := fun v u => _) ?_ (fun v u h => h)
    intro po46 xx46 hp46 hx46
    refine g_enter2 (k := 157) (N := 300) (by first | exact dq1 hd rfl | exact dq0 hd rfl | exact dq2 hd rfl | exact dq3 hd rfl | omega) rfl (Nat.le_of_ble_eq_true rfl) ?_
    refine g_iload_n 1 (gd rfl) rfl rfl ?_
    refine g_bipush 46 3 (gd rfl) rfl rfl ?_
    refine g_cmp_eq 6 18 (gd rfl) rfl rfl (fun c46x3 => ?_) (fun c46x3 => ?_)
    · skip
      exact absurd c46x3 c10
    · skip
      refine g_iload_n 7 (gd rfl) rfl rfl ?_
      refine g_bipush 97 9 (gd rfl) rfl rfl ?_
      refine g_cmp_lt 12 22 (gd rfl) rfl rfl (fun c46x9 => ?_) (fun c46x9 => ?_)
      · skip
        have i46x9 := r_lt1 0 96 c46x9 h1 (in_c 97 rfl) rfl
        refine g_iconst 0 23 (gd rfl) rfl rfl ?_
        refine g_ireturn (gd rfl) rfl (nb01 (in_w 0 1 (in_c 0 rfl) rfl)) (hp46 _ _ ?_)
        show GG _ _ _ _ _ _ _ _ [.int (Int32.ofInt 0)] _ _ _
        refine g_if_eq 52 70 (gd rfl) rfl rfl (fun c49 => ?_) (fun c49 => ?_)
        · skip
          refine g_iload_n 71 (gd rfl) rfl rfl ?_
          refine g_bipush 124 73 (gd rfl) rfl rfl ?_
          refine g_cmp_eq 76 90 (gd rfl) rfl rfl (fun c73 => ?_) (fun c73 => ?_)
          · skip
            exact n_eq c73 i46x9 (in_c 124 rfl) rfl
          · skip
            refine g_aload_n 77 (gd rfl) rfl rfl ?_
            refine g_getA (q2 := 95) 80 (gd rfl) rfl rfl rfl rfl ?_
            refine g_iload_n 81 (gd rfl) rfl rfl ?_
            refine g_dup2 82 (gd rfl) rfl rfl rfl ?_
            refine g_laload 83 (gd rfl) rfl (n := 61) rfl (in_ix h2 rfl) (fun z82 e82 => ?_)
            have i82 := inv_L hI (n := 61) 0 2305843009213693951 rfl (in_ix h2 rfl) rfl e82
            refine g_lload 85 (gd rfl) rfl rfl ?_
            refine g_lor 86 (gd rfl) rfl (fun z85 e85 => ?_)
            have i85 := inl_or 61 e85 (lw 0 2305843009213693951 i82 rfl) (lw 0 2305843009213693951 i4 rfl) rfl
            refine g_lastore 87 (gd rfl) rfl (n := 61) rfl (in_ix h2 rfl) ?_
            have hI86 := inv_sL (q := 95) (j := x2.toNatClampNeg) (x := z85) hI rfl (lw 0 2305843009213693951 i85 rfl)
            refine g_goto 136 (gd rfl) rfl ?_
            exact g_return (gd rfl) rfl (hP _ _ ⟨(sL s 95 x2.toNatClampNeg z85), hI86, (fr_sL rfl fr_rf), rfl, rfl⟩)
        · skip
          exact zn_ne c49 (in_c 0 rfl) rfl
      · skip
        have i46x9 := r_le2 97 65535 c46x9 (in_c 97 rfl) h1 rfl
        refine g_iload_n 13 (gd rfl) rfl rfl ?_
        refine g_bipush 122 15 (gd rfl) rfl rfl ?_
        refine g_cmp_gt 18 22 (gd rfl) rfl rfl (fun c46x15 => ?_) (fun c46x15 => ?_)
        · skip
          have i46x15 := r_lt2 123 65535 c46x15 (in_c 122 rfl) i46x9 rfl
          refine g_iconst 0 23 (gd rfl) rfl rfl ?_
          refine g_ireturn (gd rfl) rfl (nb01 (in_w 0 1 (in_c 0 rfl) rfl)) (hp46 _ _ ?_)
          show GG _ _ _ _ _ _ _ _ [.int (Int32.ofInt 0)] _ _ _
          refine g_if_eq 52 70 (gd rfl) rfl rfl (fun c49 => ?_) (fun c49 => ?_)
          · skip
            refine g_iload_n 71 (gd rfl) rfl rfl ?_
            refine g_bipush 124 73 (gd rfl) rfl rfl ?_
            refine g_cmp_eq 76 90 (gd rfl) rfl rfl (fun c73 => ?_) (fun c73 => ?_)
            · skip
              have i73 := r_eq1 124 124 c73 i46x15 (in_c 124 rfl) rfl
              refine g_aload_n 91 (gd rfl) rfl rfl ?_
              refine g_getA (q2 := 98) 94 (gd rfl) rfl rfl rfl rfl ?_
              refine g_iload_n 95 (gd rfl) rfl rfl ?_
              refine g_dup2 96 (gd rfl) rfl rfl rfl ?_
              refine g_laload 97 (gd rfl) rfl (n := 11) rfl (in_ix h3 rfl) (fun z96 e96 => ?_)
              have i96 := inv_L hI (n := 11) 0 1152921504606846975 rfl (in_ix h3 rfl) rfl e96
              refine g_lconst 1 98 (gd rfl) rfl rfl ?_
              refine g_iload_n 99 (gd rfl) rfl rfl ?_
              refine g_lshl 100 (gd rfl) rfl (fun z99 e99 => ?_)
              have i99 := l_shl 59 e99 h2 rfl
              refine g_lor 101 (gd rfl) rfl (fun z100 e100 => ?_)
              have i100 := inl_or 60 e100 (lw 0 1152921504606846975 i96 rfl) (lw 0 1152921504606846975 i99 rfl) rfl
              refine g_lastore 102 (gd rfl) rfl (n := 11) rfl (in_ix h3 rfl) ?_
              have hI101 := inv_sL (q := 98) (j := x3.toNatClampNeg) (x := z100) hI rfl (lw 0 1152921504606846975 i100 rfl)
              refine g_iload_n 103 (gd rfl) rfl rfl ?_
              refine g_if_ne 106 120 (gd rfl) rfl rfl (fun c103 => ?_) (fun c103 => ?_)
              · skip
                have i103 := z_ne 1 10 c103 h3 rfl
                refine g_aload_n 121 (gd rfl) rfl rfl ?_
                refine g_getA (q2 := 95) 124 (gd rfl) rfl rfl rfl rfl ?_
                refine g_aload_n 125 (gd rfl) rfl rfl ?_
                refine g_getA (q2 := 97) 128 (gd rfl) rfl rfl rfl rfl ?_
                refine g_iload_n 129 (gd rfl) rfl rfl ?_
                refine g_iaload 130 (gd rfl) rfl (n := 11) rfl (in_ix i103 rfl) (fun z129 e129 => ?_)
                have i129 := inv_I hI101 (n := 11) (t := 0) 0 60 rfl (in_ix i103 rfl) rfl e129
                refine g_dup2 131 (gd rfl) rfl rfl rfl ?_
                refine g_laload 132 (gd rfl) rfl (n := 61) rfl (in_ix i129 rfl) (fun z131 e131 => ?_)
                have i131 := inv_L hI101 (n := 61) 0 2305843009213693951 rfl (in_ix i129 rfl) rfl e131
                refine g_lload 134 (gd rfl) rfl rfl ?_
                refine g_lor 135 (gd rfl) rfl (fun z134 e134 => ?_)
                have i134 := inl_or 61 e134 (lw 0 2305843009213693951 i131 rfl) (lw 0 2305843009213693951 i4 rfl) rfl
                refine g_lastore 136 (gd rfl) rfl (n := 61) rfl (in_ix i129 rfl) ?_
                have hI135 := inv_sL (q := 95) (j := z129.toNatClampNeg) (x := z134) hI101 rfl (lw 0 2305843009213693951 i134 rfl)
                exact g_return (gd rfl) rfl (hP _ _ ⟨(sL (sL s 98 x3.toNatClampNeg z100) 95 z129.toNatClampNeg z134), hI135, (fr_sL rfl (fr_sL rfl fr_rf)), rfl, rfl⟩)
              · skip
                have i103 := z_eq 0 0 c103 h3 rfl
                refine g_aload_n 107 (gd rfl) rfl rfl ?_
                refine g_dup 108 (gd rfl) rfl rfl ?_
                refine g_getL 111 (gd rfl) rfl rfl rfl (fun z108 e108 => ?_)
                have i108 := inv_G hI101 0 2305843009213693951 rfl e108
                refine g_lload 113 (gd rfl) rfl rfl ?_
                refine g_lor 114 (gd rfl) rfl (fun z113 e113 => ?_)
                have i113 := inl_or 61 e113 (lw 0 2305843009213693951 i108 rfl) (lw 0 2305843009213693951 i4 rfl) rfl
                refine g_putL 117 (gd rfl) rfl rfl rfl rfl ?_
                have hI114 := inv_sG (q := 94) (j := 0) (x := z113) hI101 rfl (lw 0 2305843009213693951 i113 rfl)
                refine g_goto 136 (gd rfl) rfl ?_
                exact g_return (gd rfl) rfl (hP _ _ ⟨(sG (sL s 98 x3.toNatClampNeg z100) 94 0 z113), hI114, (fr_sG rfl (fr_sL rfl fr_rf)), rfl, rfl⟩)
            · skip
              refine g_aload_n 77 (gd rfl) rfl rfl ?_
              refine g_getA (q2 := 95) 80 (gd rfl) rfl rfl rfl rfl ?_
              refine g_iload_n 81 (gd rfl) rfl rfl ?_
              refine g_dup2 82 (gd rfl) rfl rfl rfl ?_
              refine g_laload 83 (gd rfl) rfl (n := 61) rfl (in_ix h2 rfl) (fun z82 e82 => ?_)
              have i82 := inv_L hI (n := 61) 0 2305843009213693951 rfl (in_ix h2 rfl) rfl e82
              refine g_lload 85 (gd rfl) rfl rfl ?_
              refine g_lor 86 (gd rfl) rfl (fun z85 e85 => ?_)
              have i85 := inl_or 61 e85 (lw 0 2305843009213693951 i82 rfl) (lw 0 2305843009213693951 i4 rfl) rfl
              refine g_lastore 87 (gd rfl) rfl (n := 61) rfl (in_ix h2 rfl) ?_
              have hI86 := inv_sL (q := 95) (j := x2.toNatClampNeg) (x := z85) hI rfl (lw 0 2305843009213693951 i85 rfl)
              refine g_goto 136 (gd rfl) rfl ?_
              exact g_return (gd rfl) rfl (hP _ _ ⟨(sL s 95 x2.toNatClampNeg z85), hI86, (fr_sL rfl fr_rf), rfl, rfl⟩)
          · skip
            exact zn_ne c49 (in_c 0 rfl) rfl
        · skip
          have i46x15 := r_le1 97 122 c46x15 i46x9 (in_c 122 rfl) rfl
          refine g_iconst 1 19 (gd rfl) rfl rfl ?_
          refine g_goto 23 (gd rfl) rfl ?_
          refine g_ireturn (gd rfl) rfl (nb01 (in_w 0 1 (in_c 1 rfl) rfl)) (hp46 _ _ ?_)
          show GG _ _ _ _ _ _ _ _ [.int (Int32.ofInt 1)] _ _ _
          refine g_if_eq 52 70 (gd rfl) rfl rfl (fun c49 => ?_) (fun c49 => ?_)
          · skip
            exact zn_eq c49 (in_c 1 rfl) rfl
          · skip
            refine g_aload_n 53 (gd rfl) rfl rfl ?_
            refine g_getA (q2 := 96) 56 (gd rfl) rfl rfl rfl rfl ?_
            refine g_iload_n 57 (gd rfl) rfl rfl ?_
            refine g_bipush 97 59 (gd rfl) rfl rfl ?_
            refine g_isub 60 (gd rfl) rfl (fun z59 e59 => ?_)
            have i59 := in_sub 0 25 e59 i46x15 (in_c 97 rfl) rfl rfl
            refine g_dup2 61 (gd rfl) rfl rfl rfl ?_
            refine g_laload 62 (gd rfl) rfl (n := 26) rfl (in_ix i59 rfl) (fun z61 e61 => ?_)
            have i61 := inv_L hI (n := 26) 0 1152921504606846975 rfl (in_ix i59 rfl) rfl e61
            refine g_lconst 1 63 (gd rfl) rfl rfl ?_
            refine g_iload_n 64 (gd rfl) rfl rfl ?_
            refine g_lshl 65 (gd rfl) rfl (fun z64 e64 => ?_)
            have i64 := l_shl 59 e64 h2 rfl
            refine g_lor 66 (gd rfl) rfl (fun z65 e65 => ?_)
            have i65 := inl_or 60 e65 (lw 0 1152921504606846975 i61 rfl) (lw 0 1152921504606846975 i64 rfl) rfl
            refine g_lastore 67 (gd rfl) rfl (n := 26) rfl (in_ix i59 rfl) ?_
            have hI66 := inv_sL (q := 96) (j := z59.toNatClampNeg) (x := z65) hI rfl (lw 0 1152921504606846975 i65 rfl)
            refine g_goto 136 (gd rfl) rfl ?_
            exact g_return (gd rfl) rfl (hP _ _ ⟨(sL s 96 z59.toNatClampNeg z65), hI66, (fr_sL rfl fr_rf), rfl, rfl⟩)
  · skip
    have i10 := r_eq1 46 46 c10 h1 (in_c 46 rfl) rfl
    refine g_iconst 0 14 (gd rfl) rfl rfl ?_
    refine g_istore 16 (gd rfl) rfl (Nat.le_of_ble_eq_true rfl) ?_
    exact gg_w (by first | exact Nat.le_of_ble_eq_true rfl | omega) (gg_f (gf_cons rfl (gf_cons rfl (gf_cons rfl (gf_cons rfl (gf_cons rfl (gf_cons rfl gf_nil)))))) (ct16 27 s z4 (Int32.ofInt 0) hI fr_rf (in_w 46 46 i10 rfl) (in_w 0 26 (in_c 0 rfl) rfl) (m_in 27 (in_w 0 26 (in_c 0 rfl) rfl) rfl)))

def fm_162_94 : FM := ([], [95], [], [(94, 0)])
/-- GraphHouse$Question.close -/
theorem k_162_94 {Z : AmZ} {A : Nat → Nat} {s : GS} {ex : va_W} {d : Nat} {X : AmX} {x1 : Int32} (hd : 4 ≤ d) (hI : Inv s) (h1 : In x1 0 60) : GC Z d 162 [.ref (A 94), .int x1] (WW Z A s ++ ex) 0 0 (fun v u => ∃ t : GS, Inv t ∧ Fr fm_162_94 s t ∧ v = none ∧ u = WW Z A t ++ ex) X := by
  intro post xp hP hX
  have ct147 : ∀ (k147 : Nat) (sc147 : GS) (y147_2 : Int64) (y147_4 : Int64) (y147_6 : Int64), Inv sc147 → Fr fm_162_94 s sc147 → (InL y147_6 0 2305843009213693951) → (InL y147_4 0 2305843009213693951) → ((y147_6.toBitVec.toNat : Nat) : Int) < (k147 : Int) → GG Z (d - 1) 162 post (gx xp) (1 + k147 * 900) 147 (fun j => xlook j [(0, .ref (A 94)), (1, .int x1), (2, .long y147_2), (4, .long y147_4), (6, .long y147_6)]) [] (WW Z A sc147 ++ ex) 0 0 := by
    intro k147
    induction k147 with
    | zero => intro sc147 y147_2 y147_4 y147_6 hIc147 hFc147 g147_0 g147_1 mm147; exact absurd mm147 (Int.not_lt.mpr (Int.natCast_nonneg _))
    | succ k147 ih147 =>
      intro sc147 y147_2 y147_4 y147_6 hIc147 hFc147 g147_0 g147_1 mm147
      refine gg_w (M := 1 + k147 * 900 + 900) gws ?_
      have i147 : InL y147_6 0 2305843009213693951 := by exact g147_0
      have i147a : InL y147_4 0 2305843009213693951 := by exact g147_1
      refine g_lload 149 (gd rfl) rfl rfl ?_
      refine g_lconst 0 150 (gd rfl) rfl rfl ?_
      refine g_lcmp 151 (gd rfl) rfl (fun z150 e150 => ?_)
      have i150 := lc_in e150
      refine g_if_eq 154 181 (gd rfl) rfl rfl (fun c151 => ?_) (fun c151 => ?_)
      · skip
        have i151 := z_eq 0 0 c151 i150 rfl
        have c151a := lc_eq e150 c151
        have i151a := lr_eq1 0 0 c151a i147 (l_c 0 rfl) rfl
        refine g_aload_n 182 (gd rfl) rfl rfl ?_
        refine g_lload 184 (gd rfl) rfl rfl ?_
        refine g_putL 187 (gd rfl) rfl rfl rfl rfl ?_
        have hI184 := inv_sG (q := 94) (j := 0) (x := y147_4) hIc147 rfl (lw 0 2305843009213693951 i147a rfl)
        exact g_return (gd rfl) rfl (hP _ _ ⟨(sG sc147 94 0 y147_4), hI184, (fr_sG rfl hFc147), rfl, rfl⟩)
      · skip
        have c151a := lc_ne e150 c151
        have i151 := lr_ne1 1 2305843009213693951 c151a i147 (l_c 0 rfl) rfl
        refine g_lload 156 (gd rfl) rfl rfl ?_
        refine g_aload_n 157 (gd rfl) rfl rfl ?_
        refine g_getA (q2 := 95) 160 (gd rfl) rfl rfl rfl rfl ?_
        refine g_lload 162 (gd rfl) rfl rfl ?_
        refine g_calls (As := [.long y147_6]) (r := [.ref (A 95), .long y147_4]) 165 (gd rfl) rfl rfl rfl rfl rfl (Nat.le_of_ble_eq_true rfl) (Nat.zero_le _) (Nat.zero_le _) (k_265n 61 (by first | exact dq1 hd rfl | exact dq0 hd rfl | exact dq2 hd rfl | exact dq3 hd rfl | omega) (nz_l c151a) (by decide) (lw 0 (2 ^ 61 - 1) i151 rfl)) (fun v u h => ?_)
        obtain ⟨z162, rfl, rfl, i162, hb162⟩ := h
        show GG _ _ _ _ _ _ _ _ [.int z162, .ref (A 95), .long y147_4] _ _ _
        refine g_laload 166 (gd rfl) rfl (n := 61) rfl (in_ix i162 rfl) (fun z165 e165 => ?_)
        have i165 := inv_L hIc147 (n := 61) 0 2305843009213693951 rfl (in_ix i162 rfl) rfl e165
        refine g_lor 167 (gd rfl) rfl (fun z166 e166 => ?_)
        have i166 := inl_or 61 e166 (lw 0 2305843009213693951 i147a rfl) (lw 0 2305843009213693951 i165 rfl) rfl
        refine g_lstore 169 (gd rfl) rfl (Nat.le_of_ble_eq_true rfl) ?_
        refine g_lload 171 (gd rfl) rfl rfl ?_
        refine g_lload 173 (gd rfl) rfl rfl ?_
        refine g_lconst 1 174 (gd rfl) rfl rfl ?_
        refine g_lsub 175 (gd rfl) rfl (fun z174 e174 => ?_)
        have i174 := l_sub 0 2305843009213693950 e174 i151 (l_c 1 rfl) rfl
        refine g_land 176 (gd rfl) rfl (fun z175 e175 => ?_)
        have i175 := inl_and2 e175 i174 rfl
        refine g_lstore 178 (gd rfl) rfl (Nat.le_of_ble_eq_true rfl) ?_
        refine g_goto 147 (gd rfl) rfl ?_
        have n147 : InL z175 0 2305843009213693951 := by first | exact i142 | exact inl_and1 e175 g147_0 rfl
        have n147a : InL z166 0 2305843009213693951 := by first | exact lw 0 2305843009213693951 (l_c 0 rfl) rfl | exact inl_or 61 e166 g147_1 i165 rfl
        exact gg_w (by first | exact Nat.le_add_right _ _ | exact gw2 | exact gw3 | exact gwe rfl | exact gwf rfl | exact gwg rfl | exact gwh rfl | omega) (gg_f (gf_cons rfl (gf_cons rfl (gf_cons rfl (gf_cons rfl (gf_cons rfl gf_nil))))) (ih147 sc147 y147_2 z166 z175 hIc147 hFc147 n147 n147a (mbl e175 e174 (nz_l c151a) mm147)))
  have ct115 : ∀ (k115 : Nat) (sc115 : GS) (y115_2 : Int64) (y115_4 : Int32), Inv sc115 → Fr fm_162_94 s sc115 → (In y115_4 0 120) → 120 - (y115_4).toInt < (k115 : Int) → GG Z (d - 1) 162 post (gx xp) (16602069666338596454402 + k115 * 900) 115 (fun j => xlook j [(0, .ref (A 94)), (1, .int x1), (2, .long y115_2), (4, .int y115_4)]) [] (WW Z A sc115 ++ ex) 0 0 := by
    intro k115
    induction k115 with
    | zero => intro sc115 y115_2 y115_4 hIc115 hFc115 j115_4 mm115; exact m_no mm115 j115_4 rfl
    | succ k115 ih115 =>
      intro sc115 y115_2 y115_4 hIc115 hFc115 j115_4 mm115
      refine gg_w (M := 16602069666338596454402 + k115 * 900 + 900) gws ?_
      refine g_iload 117 (gd rfl) rfl rfl ?_
      refine g_iload_n 118 (gd rfl) rfl rfl ?_
      refine g_cmp_gt 121 138 (gd rfl) rfl rfl (fun c118 => ?_) (fun c118 => ?_)
      · skip
        have i118 := r_lt2 1 120 c118 h1 j115_4 rfl
        refine g_lconst 0 139 (gd rfl) rfl rfl ?_
        refine g_lstore 141 (gd rfl) rfl (Nat.le_of_ble_eq_true rfl) ?_
        refine g_aload_n 142 (gd rfl) rfl rfl ?_
        refine g_getL 145 (gd rfl) rfl rfl rfl (fun z142 e142 => ?_)
        have i142 := inv_G hIc115 0 2305843009213693951 rfl e142
        refine g_lstore 147 (gd rfl) rfl (Nat.le_of_ble_eq_true rfl) ?_
        have n147 : InL z142 0 2305843009213693951 := by first | exact i142 | exact inl_and1 e175 g147_0 rfl
        have n147a : InL (Int64.ofInt 0) 0 2305843009213693951 := by first | exact lw 0 2305843009213693951 (l_c 0 rfl) rfl | exact inl_or 61 e166 g147_1 i165 rfl
        exact gg_w (by first | exact Nat.le_add_right _ _ | exact gw2 | exact gw3 | exact gwe rfl | exact gwf rfl | exact gwg rfl | exact gwh rfl | omega) (gg_f (gf_cons rfl (gf_cons rfl (gf_cons rfl (gf_cons rfl (gf_cons rfl gf_nil))))) (ct147 18446744073709551616 sc115 y115_2 (Int64.ofInt 0) z142 hIc115 hFc115 n147 n147a (mb_inl _)))
      · skip
        have i118 := r_le1 0 60 c118 j115_4 h1 rfl
        refine g_aload_n 122 (gd rfl) rfl rfl ?_
        refine g_getA (q2 := 95) 125 (gd rfl) rfl rfl rfl rfl ?_
        refine g_iload 127 (gd rfl) rfl rfl ?_
        refine g_dup2 128 (gd rfl) rfl rfl rfl ?_
        refine g_laload 129 (gd rfl) rfl (n := 61) rfl (in_ix i118 rfl) (fun z128 e128 => ?_)
        have i128 := inv_L hIc115 (n := 61) 0 2305843009213693951 rfl (in_ix i118 rfl) rfl e128
        refine g_lload_n 130 (gd rfl) rfl rfl ?_
        refine g_land 131 (gd rfl) rfl (fun z130 e130 => ?_)
        have i130 := inl_and1 e130 i128 rfl
        refine g_lastore 132 (gd rfl) rfl (n := 61) rfl (in_ix i118 rfl) ?_
        have hI131 := inv_sL (q := 95) (j := y115_4.toNatClampNeg) (x := z130) hIc115 rfl (lw 0 2305843009213693951 i130 rfl)
        refine g_iinc 135 (gd rfl) rfl rfl (Nat.le_of_ble_eq_true rfl) (fun z132 e132 => ?_)
        have i132 := in_add 1 61 e132 i118 (in_c 1 rfl) rfl rfl
        refine g_goto 115 (gd rfl) rfl ?_
        exact gg_w (by first | exact Nat.le_add_right _ _ | exact gw2 | exact gw3 | exact gwe rfl | exact gwf rfl | exact gwg rfl | exact gwh rfl | omega) (gg_f (gf_cons rfl (gf_cons rfl (gf_cons rfl (gf_cons rfl gf_nil)))) (ih115 (sL sc115 95 y115_4.toNatClampNeg z130) y115_2 z132 hI131 (fr_sL rfl hFc115) (in_w 0 120 i132 rfl) (m_up mm115 (t_add e132 i118 (in_c 1 rfl) rfl) (in_w 1 1 (in_c 1 rfl) rfl))))
  have ct89 : ∀ (k89 : Nat) (sc89 : GS) (y89_2 : Int64) (y89_4 : Int32), Inv sc89 → Fr fm_162_94 s sc89 → (In y89_4 0 26) → (InL y89_2 0 2305843009213693951) → 26 - (y89_4).toInt < (k89 : Int) → GG Z (d - 1) 162 post (gx xp) (16602069666338596563303 + k89 * 900) 89 (fun j => xlook j [(0, .ref (A 94)), (1, .int x1), (2, .long y89_2), (4, .int y89_4)]) [] (WW Z A sc89 ++ ex) 0 0 := by
    intro k89
    induction k89 with
    | zero => intro sc89 y89_2 y89_4 hIc89 hFc89 j89_4 g89_0 mm89; exact m_no mm89 j89_4 rfl
    | succ k89 ih89 =>
      intro sc89 y89_2 y89_4 hIc89 hFc89 j89_4 g89_0 mm89
      refine gg_w (M := 16602069666338596563303 + k89 * 900 + 900) gws ?_
      have i89 : InL y89_2 0 2305843009213693951 := by exact g89_0
      refine g_iload 91 (gd rfl) rfl rfl ?_
      refine g_bipush 26 93 (gd rfl) rfl rfl ?_
      refine g_cmp_ge 96 112 (gd rfl) rfl rfl (fun c93 => ?_) (fun c93 => ?_)
      · skip
        have i93 := r_le2 26 26 c93 (in_c 26 rfl) j89_4 rfl
        refine g_iconst 0 113 (gd rfl) rfl rfl ?_
        refine g_istore 115 (gd rfl) rfl (Nat.le_of_ble_eq_true rfl) ?_
        exact gg_w (by first | exact Nat.le_add_right _ _ | exact gw2 | exact gw3 | exact gwe rfl | exact gwf rfl | exact gwg rfl | exact gwh rfl | omega) (gg_f (gf_cons rfl (gf_cons rfl (gf_cons rfl (gf_cons rfl gf_nil)))) (ct115 121 sc89 y89_2 (Int32.ofInt 0) hIc89 hFc89 (in_w 0 120 (in_c 0 rfl) rfl) (m_in 121 (in_w 0 120 (in_c 0 rfl) rfl) rfl)))
      · skip
        have i93 := r_lt1 0 25 c93 j89_4 (in_c 26 rfl) rfl
        refine g_lload_n 97 (gd rfl) rfl rfl ?_
        refine g_aload_n 98 (gd rfl) rfl rfl ?_
        refine g_getA (q2 := 96) 101 (gd rfl) rfl rfl rfl rfl ?_
        refine g_iload 103 (gd rfl) rfl rfl ?_
        refine g_laload 104 (gd rfl) rfl (n := 26) rfl (in_ix i93 rfl) (fun z103 e103 => ?_)
        have i103 := inv_L hIc89 (n := 26) 0 1152921504606846975 rfl (in_ix i93 rfl) rfl e103
        refine g_lor 105 (gd rfl) rfl (fun z104 e104 => ?_)
        have i104 := inl_or 61 e104 (lw 0 2305843009213693951 i89 rfl) (lw 0 2305843009213693951 i103 rfl) rfl
        refine g_lstore_n 106 (gd rfl) rfl (Nat.le_of_ble_eq_true rfl) ?_
        refine g_iinc 109 (gd rfl) rfl rfl (Nat.le_of_ble_eq_true rfl) (fun z106 e106 => ?_)
        have i106 := in_add 1 26 e106 i93 (in_c 1 rfl) rfl rfl
        refine g_goto 89 (gd rfl) rfl ?_
        have n89 : InL z104 0 2305843009213693951 := by first | exact i82 | exact inl_or 61 e104 g89_0 (lw 0 2305843009213693951 i103 rfl) rfl
        exact gg_w (by first | exact Nat.le_add_right _ _ | exact gw2 | exact gw3 | exact gwe rfl | exact gwf rfl | exact gwg rfl | exact gwh rfl | omega) (gg_f (gf_cons rfl (gf_cons rfl (gf_cons rfl (gf_cons rfl gf_nil)))) (ih89 sc89 z104 z106 hIc89 hFc89 (in_w 0 26 i106 rfl) n89 (m_up mm89 (t_add e106 i93 (in_c 1 rfl) rfl) (in_w 1 1 (in_c 1 rfl) rfl))))
  have ct27 : ∀ (k27 : Nat) (sc27 : GS) (y27_2 : Int32), Inv sc27 → Fr fm_162_94 s sc27 → (In y27_2 0 120) → 120 - (y27_2).toInt < (k27 : Int) → GG Z (d - 1) 162 post (gx xp) (16602069666338596587604 + k27 * 111601) 27 (fun j => xlook j [(0, .ref (A 94)), (1, .int x1), (2, .int y27_2)]) [] (WW Z A sc27 ++ ex) 0 0 := by
    intro k27
    induction k27 with
    | zero => intro sc27 y27_2 hIc27 hFc27 j27_2 mm27; exact m_no mm27 j27_2 rfl
    | succ k27 ih27 =>
      intro sc27 y27_2 hIc27 hFc27 j27_2 mm27
      refine gg_w (M := 16602069666338596587604 + k27 * 111601 + 111601) gws ?_
      have ct34 : ∀ (k34 : Nat) (sc34 : GS) (y34_3 : Int32), Inv sc34 → Fr fm_162_94 s sc34 → (In y27_2 0 60) → (In y34_3 0 120) → 120 - (y34_3).toInt < (k34 : Int) → GG Z (d - 1) 162 post (gx xp) (16602069666338596587604 + k27 * 111601 + 1 + k34 * 900) 34 (fun j => xlook j [(0, .ref (A 94)), (1, .int x1), (2, .int y27_2), (3, .int y34_3)]) [] (WW Z A sc34 ++ ex) 0 0 := by
        intro k34
        induction k34 with
        | zero => intro sc34 y34_3 hIc34 hFc34 j34_2 j34_3 mm34; exact m_no mm34 j34_3 rfl
        | succ k34 ih34 =>
          intro sc34 y34_3 hIc34 hFc34 j34_2 j34_3 mm34
          refine gg_w (M := 16602069666338596587604 + k27 * 111601 + 1 + k34 * 900 + 900) gws ?_
          refine g_iload_n 35 (gd rfl) rfl rfl ?_
          refine g_iload_n 36 (gd rfl) rfl rfl ?_
          refine g_cmp_gt 39 75 (gd rfl) rfl rfl (fun c36 => ?_) (fun c36 => ?_)
          · skip
            have i36 := r_lt2 1 120 c36 h1 j34_3 rfl
            refine g_iinc 78 (gd rfl) rfl rfl (Nat.le_of_ble_eq_true rfl) (fun z75 e75 => ?_)
            have i75 := in_add 1 61 e75 j34_2 (in_c 1 rfl) rfl rfl
            refine g_goto 27 (gd rfl) rfl ?_
            exact gg_w (by first | exact Nat.le_add_right _ _ | exact gw2 | exact gw3 | exact gwe rfl | exact gwf rfl | exact gwg rfl | exact gwh rfl | omega) (gg_f (gf_cons rfl (gf_cons rfl (gf_cons rfl gf_nil))) (ih27 sc34 z75 hIc34 hFc34 (in_w 0 120 i75 rfl) (m_up mm27 (t_add e75 j34_2 (in_c 1 rfl) rfl) (in_w 1 1 (in_c 1 rfl) rfl))))
          · skip
            have i36 := r_le1 0 60 c36 j34_3 h1 rfl
            refine g_aload_n 40 (gd rfl) rfl rfl ?_
            refine g_getA (q2 := 95) 43 (gd rfl) rfl rfl rfl rfl ?_
            refine g_iload_n 44 (gd rfl) rfl rfl ?_
            refine g_laload 45 (gd rfl) rfl (n := 61) rfl (in_ix i36 rfl) (fun z44 e44 => ?_)
            have i44 := inv_L hIc34 (n := 61) 0 2305843009213693951 rfl (in_ix i36 rfl) rfl e44
            refine g_iload_n 46 (gd rfl) rfl rfl ?_
            refine g_lshr 47 (gd rfl) rfl (fun z46 e46 => ?_)
            refine g_lconst 1 48 (gd rfl) rfl rfl ?_
            refine g_land 49 (gd rfl) rfl (fun z48 e48 => ?_)
            have i48 := inl_and2 e48 (l_c 1 rfl) rfl
            refine g_lconst 0 50 (gd rfl) rfl rfl ?_
            refine g_lcmp 51 (gd rfl) rfl (fun z50 e50 => ?_)
            have i50 := lc_in e50
            refine g_if_eq 54 69 (gd rfl) rfl rfl (fun c51 => ?_) (fun c51 => ?_)
            · skip
              have i51 := z_eq 0 0 c51 i50 rfl
              have c51a := lc_eq e50 c51
              have i51a := lr_eq1 0 0 c51a i48 (l_c 0 rfl) rfl
              refine g_iinc 72 (gd rfl) rfl rfl (Nat.le_of_ble_eq_true rfl) (fun z69 e69 => ?_)
              have i69 := in_add 1 61 e69 i36 (in_c 1 rfl) rfl rfl
              refine g_goto 34 (gd rfl) rfl ?_
              exact gg_w (by first | exact Nat.le_add_right _ _ | exact gw2 | exact gw3 | exact gwe rfl | exact gwf rfl | exact gwg rfl | exact gwh rfl | omega) (gg_f (gf_cons rfl (gf_cons rfl (gf_cons rfl (gf_cons rfl gf_nil)))) (ih34 sc34 z69 hIc34 hFc34 (in_w 0 60 j34_2 rfl) (in_w 0 120 i69 rfl) (m_up mm34 (t_add e69 i36 (in_c 1 rfl) rfl) (in_w 1 1 (in_c 1 rfl) rfl))))
            · skip
              have c51a := lc_ne e50 c51
              have i51 := lr_ne1 1 1 c51a i48 (l_c 0 rfl) rfl
              refine g_aload_n 55 (gd rfl) rfl rfl ?_
              refine g_getA (q2 := 95) 58 (gd rfl) rfl rfl rfl rfl ?_
              refine g_iload_n 59 (gd rfl) rfl rfl ?_
              refine g_dup2 60 (gd rfl) rfl rfl rfl ?_
              refine g_laload 61 (gd rfl) rfl (n := 61) rfl (in_ix i36 rfl) (fun z60 e60 => ?_)
              have i60 := inv_L hIc34 (n := 61) 0 2305843009213693951 rfl (in_ix i36 rfl) rfl e60
              refine g_aload_n 62 (gd rfl) rfl rfl ?_
              refine g_getA (q2 := 95) 65 (gd rfl) rfl rfl rfl rfl ?_
              refine g_iload_n 66 (gd rfl) rfl rfl ?_
              refine g_laload 67 (gd rfl) rfl (n := 61) rfl (in_ix j34_2 rfl) (fun z66 e66 => ?_)
              have i66 := inv_L hIc34 (n := 61) 0 2305843009213693951 rfl (in_ix j34_2 rfl) rfl e66
              refine g_lor 68 (gd rfl) rfl (fun z67 e67 => ?_)
              have i67 := inl_or 61 e67 (lw 0 2305843009213693951 i60 rfl) (lw 0 2305843009213693951 i66 rfl) rfl
              refine g_lastore 69 (gd rfl) rfl (n := 61) rfl (in_ix i36 rfl) ?_
              have hI68 := inv_sL (q := 95) (j := y34_3.toNatClampNeg) (x := z67) hIc34 rfl (lw 0 2305843009213693951 i67 rfl)
              refine g_iinc 72 (gd rfl) rfl rfl (Nat.le_of_ble_eq_true rfl) (fun z69 e69 => ?_)
              have i69 := in_add 1 61 e69 i36 (in_c 1 rfl) rfl rfl
              refine g_goto 34 (gd rfl) rfl ?_
              exact gg_w (by first | exact Nat.le_add_right _ _ | exact gw2 | exact gw3 | exact gwe rfl | exact gwf rfl | exact gwg rfl | exact gwh rfl | omega) (gg_f (gf_cons rfl (gf_cons rfl (gf_cons rfl (gf_cons rfl gf_nil)))) (ih34 (sL sc34 95 y34_3.toNatClampNeg z67) z69 hI68 (fr_sL rfl hFc34) (in_w 0 60 j34_2 rfl) (in_w 0 120 i69 rfl) (m_up mm34 (t_add e69 i36 (in_c 1 rfl) rfl) (in_w 1 1 (in_c 1 rfl) rfl))))
      refine g_iload_n 28 (gd rfl) rfl rfl ?_
      refine g_iload_n 29 (gd rfl) rfl rfl ?_
      refine g_cmp_gt 32 81 (gd rfl) rfl rfl (fun c29 => ?_) (fun c29 => ?_)
      · skip
        have i29 := r_lt2 1 120 c29 h1 j27_2 rfl
        refine g_aload_n 82 (gd rfl) rfl rfl ?_
        refine g_getL 85 (gd rfl) rfl rfl rfl (fun z82 e82 => ?_)
        have i82 := inv_G hIc27 0 2305843009213693951 rfl e82
        refine g_lstore_n 86 (gd rfl) rfl (Nat.le_of_ble_eq_true rfl) ?_
        refine g_iconst 0 87 (gd rfl) rfl rfl ?_
        refine g_istore 89 (gd rfl) rfl (Nat.le_of_ble_eq_true rfl) ?_
        have n89 : InL z82 0 2305843009213693951 := by first | exact i82 | exact inl_or 61 e104 g89_0 (lw 0 2305843009213693951 i103 rfl) rfl
        exact gg_w (by first | exact Nat.le_add_right _ _ | exact gw2 | exact gw3 | exact gwe rfl | exact gwf rfl | exact gwg rfl | exact gwh rfl | omega) (gg_f (gf_cons rfl (gf_cons rfl (gf_cons rfl (gf_cons rfl gf_nil)))) (ct89 27 sc27 z82 (Int32.ofInt 0) hIc27 hFc27 (in_w 0 26 (in_c 0 rfl) rfl) n89 (m_in 27 (in_w 0 26 (in_c 0 rfl) rfl) rfl)))
      · skip
        have i29 := r_le1 0 60 c29 j27_2 h1 rfl
        refine g_iconst 0 33 (gd rfl) rfl rfl ?_
        refine g_istore_n 34 (gd rfl) rfl (Nat.le_of_ble_eq_true rfl) ?_
        exact gg_w (by first | exact Nat.le_add_right _ _ | exact gw2 | exact gw3 | exact gwe rfl | exact gwf rfl | exact gwg rfl | exact gwh rfl | omega) (gg_f (gf_cons rfl (gf_cons rfl (gf_cons rfl (gf_cons rfl gf_nil)))) (ct34 121 sc27 (Int32.ofInt 0) hIc27 hFc27 (in_w 0 60 i29 rfl) (in_w 0 120 (in_c 0 rfl) rfl) (m_in 121 (in_w 0 120 (in_c 0 rfl) rfl) rfl)))
  have ct2 : ∀ (k2 : Nat) (sc2 : GS) (y2_2 : Int32), Inv sc2 → Fr fm_162_94 s sc2 → (In y2_2 0 120) → 120 - (y2_2).toInt < (k2 : Int) → GG Z (d - 1) 162 post (gx xp) (16602069666338610091326 + k2 * 900) 2 (fun j => xlook j [(0, .ref (A 94)), (1, .int x1), (2, .int y2_2)]) [] (WW Z A sc2 ++ ex) 0 0 := by
    intro k2
    induction k2 with
    | zero => intro sc2 y2_2 hIc2 hFc2 j2_2 mm2; exact m_no mm2 j2_2 rfl
    | succ k2 ih2 =>
      intro sc2 y2_2 hIc2 hFc2 j2_2 mm2
      refine gg_w (M := 16602069666338610091326 + k2 * 900 + 900) gws ?_
      refine g_iload_n 3 (gd rfl) rfl rfl ?_
      refine g_iload_n 4 (gd rfl) rfl rfl ?_
      refine g_cmp_gt 7 25 (gd rfl) rfl rfl (fun c4 => ?_) (fun c4 => ?_)
      · skip
        have i4 := r_lt2 1 120 c4 h1 j2_2 rfl
        refine g_iconst 0 26 (gd rfl) rfl rfl ?_
        refine g_istore_n 27 (gd rfl) rfl (Nat.le_of_ble_eq_true rfl) ?_
        exact gg_w (by first | exact Nat.le_add_right _ _ | exact gw2 | exact gw3 | exact gwe rfl | exact gwf rfl | exact gwg rfl | exact gwh rfl | omega) (gg_f (gf_cons rfl (gf_cons rfl (gf_cons rfl gf_nil))) (ct27 121 sc2 (Int32.ofInt 0) hIc2 hFc2 (in_w 0 120 (in_c 0 rfl) rfl) (m_in 121 (in_w 0 120 (in_c 0 rfl) rfl) rfl)))
      · skip
        have i4 := r_le1 0 60 c4 j2_2 h1 rfl
        refine g_aload_n 8 (gd rfl) rfl rfl ?_
        refine g_getA (q2 := 95) 11 (gd rfl) rfl rfl rfl rfl ?_
        refine g_iload_n 12 (gd rfl) rfl rfl ?_
        refine g_dup2 13 (gd rfl) rfl rfl rfl ?_
        refine g_laload 14 (gd rfl) rfl (n := 61) rfl (in_ix i4 rfl) (fun z13 e13 => ?_)
        have i13 := inv_L hIc2 (n := 61) 0 2305843009213693951 rfl (in_ix i4 rfl) rfl e13
        refine g_lconst 1 15 (gd rfl) rfl rfl ?_
        refine g_iload_n 16 (gd rfl) rfl rfl ?_
        refine g_lshl 17 (gd rfl) rfl (fun z16 e16 => ?_)
        have i16 := l_shl 60 e16 i4 rfl
        refine g_lor 18 (gd rfl) rfl (fun z17 e17 => ?_)
        have i17 := inl_or 61 e17 (lw 0 2305843009213693951 i13 rfl) (lw 0 2305843009213693951 i16 rfl) rfl
        refine g_lastore 19 (gd rfl) rfl (n := 61) rfl (in_ix i4 rfl) ?_
        have hI18 := inv_sL (q := 95) (j := y2_2.toNatClampNeg) (x := z17) hIc2 rfl (lw 0 2305843009213693951 i17 rfl)
        refine g_iinc 22 (gd rfl) rfl rfl (Nat.le_of_ble_eq_true rfl) (fun z19 e19 => ?_)
        have i19 := in_add 1 61 e19 i4 (in_c 1 rfl) rfl rfl
        refine g_goto 2 (gd rfl) rfl ?_
        exact gg_w (by first | exact Nat.le_add_right _ _ | exact gw2 | exact gw3 | exact gwe rfl | exact gwf rfl | exact gwg rfl | exact gwh rfl | omega) (gg_f (gf_cons rfl (gf_cons rfl (gf_cons rfl gf_nil))) (ih2 (sL sc2 95 y2_2.toNatClampNeg z17) z19 hI18 (fr_sL rfl hFc2) (in_w 0 120 i19 rfl) (m_up mm2 (t_add e19 i4 (in_c 1 rfl) rfl) (in_w 1 1 (in_c 1 rfl) rfl))))
  refine g_enter2 (k := 162) (N := 16602069666338610201126) (by first | exact dq1 hd rfl | exact dq0 hd rfl | exact dq2 hd rfl | exact dq3 hd rfl | omega) rfl (Nat.le_of_ble_eq_true rfl) ?_
  refine g_iconst 0 1 (gd rfl) rfl rfl ?_
  refine g_istore_n 2 (gd rfl) rfl (Nat.le_of_ble_eq_true rfl) ?_
  exact gg_w (by first | exact Nat.le_of_ble_eq_true rfl | omega) (gg_f (gf_cons rfl (gf_cons rfl (gf_cons rfl gf_nil))) (ct2 121 s (Int32.ofInt 0) hI fr_rf (in_w 0 120 (in_c 0 rfl) rfl) (m_in 121 (in_w 0 120 (in_c 0 rfl) rfl) rfl)))

/-- GraphHouse$Question.behind -/
theorem k_165_94 {Z : AmZ} {A : Nat → Nat} {s : GS} {ex : va_W} {d : Nat} {X : AmX} {x1 : Int64} (hd : 4 ≤ d) (hI : Inv s) (q_0 : InL x1 0 1152921504606846975) : GC Z d 165 [.ref (A 94), .long x1] (WW Z A s ++ ex) 0 0 (fun v u => ∃ z : Int64, v = some (.long z) ∧ u = WW Z A s ++ ex ∧ (InL z 0 2305843009213693951)) X := by
  intro post xp hP hX
  have ct5 : ∀ (k5 : Nat) (y5_3 : Int64) (y5_5 : Int64), (InL y5_5 0 1152921504606846975) → (InL y5_3 0 2305843009213693951) → ((y5_5.toBitVec.toNat : Nat) : Int) < (k5 : Int) → GG Z (d - 1) 165 post (gx xp) (1 + k5 * 900) 5 (fun j => xlook j [(0, .ref (A 94)), (1, .long x1), (3, .long y5_3), (5, .long y5_5)]) [] (WW Z A s ++ ex) 0 0 := by
    intro k5
    induction k5 with
    | zero => intro y5_3 y5_5 g5_0 g5_1 mm5; exact absurd mm5 (Int.not_lt.mpr (Int.natCast_nonneg _))
    | succ k5 ih5 =>
      intro y5_3 y5_5 g5_0 g5_1 mm5
      refine gg_w (M := 1 + k5 * 900 + 900) gws ?_
      have i5 : InL y5_5 0 1152921504606846975 := by exact g5_0
      have i5a : InL y5_3 0 2305843009213693951 := by exact g5_1
      refine g_lload 7 (gd rfl) rfl rfl ?_
      refine g_lconst 0 8 (gd rfl) rfl rfl ?_
      refine g_lcmp 9 (gd rfl) rfl (fun z8 e8 => ?_)
      have i8 := lc_in e8
      refine g_if_eq 12 39 (gd rfl) rfl rfl (fun c9 => ?_) (fun c9 => ?_)
      · skip
        have i9 := z_eq 0 0 c9 i8 rfl
        have c9a := lc_eq e8 c9
        have i9a := lr_eq1 0 0 c9a i5 (l_c 0 rfl) rfl
        refine g_lload_n 40 (gd rfl) rfl rfl ?_
        have n40 : InL y5_3 0 2305843009213693951 := by exact g5_1
        exact g_lreturn (gd rfl) rfl (hP _ _ ⟨y5_3, rfl, rfl, n40⟩)
      · skip
        have c9a := lc_ne e8 c9
        have i9 := lr_ne1 1 1152921504606846975 c9a i5 (l_c 0 rfl) rfl
        refine g_lload_n 13 (gd rfl) rfl rfl ?_
        refine g_aload_n 14 (gd rfl) rfl rfl ?_
        refine g_getA (q2 := 95) 17 (gd rfl) rfl rfl rfl rfl ?_
        refine g_lload 19 (gd rfl) rfl rfl ?_
        refine g_calls (As := [.long y5_5]) (r := [.ref (A 95), .long y5_3]) 22 (gd rfl) rfl rfl rfl rfl rfl (Nat.le_of_ble_eq_true rfl) (Nat.zero_le _) (Nat.zero_le _) (k_265n 60 (by first | exact dq1 hd rfl | exact dq0 hd rfl | exact dq2 hd rfl | exact dq3 hd rfl | omega) (nz_l c9a) (by decide) (lw 0 (2 ^ 60 - 1) i9 rfl)) (fun v u h => ?_)
        obtain ⟨z19, rfl, rfl, i19, hb19⟩ := h
        show GG _ _ _ _ _ _ _ _ [.int z19, .ref (A 95), .long y5_3] _ _ _
        refine g_iconst 1 23 (gd rfl) rfl rfl ?_
        refine g_iadd 24 (gd rfl) rfl (fun z23 e23 => ?_)
        have i23 := in_add 1 60 e23 i19 (in_c 1 rfl) rfl rfl
        refine g_laload 25 (gd rfl) rfl (n := 61) rfl (in_ix i23 rfl) (fun z24 e24 => ?_)
        have i24 := inv_L hI (n := 61) 0 2305843009213693951 rfl (in_ix i23 rfl) rfl e24
        refine g_lor 26 (gd rfl) rfl (fun z25 e25 => ?_)
        have i25 := inl_or 61 e25 (lw 0 2305843009213693951 i5a rfl) (lw 0 2305843009213693951 i24 rfl) rfl
        refine g_lstore_n 27 (gd rfl) rfl (Nat.le_of_ble_eq_true rfl) ?_
        refine g_lload 29 (gd rfl) rfl rfl ?_
        refine g_lload 31 (gd rfl) rfl rfl ?_
        refine g_lconst 1 32 (gd rfl) rfl rfl ?_
        refine g_lsub 33 (gd rfl) rfl (fun z32 e32 => ?_)
        have i32 := l_sub 0 1152921504606846974 e32 i9 (l_c 1 rfl) rfl
        refine g_land 34 (gd rfl) rfl (fun z33 e33 => ?_)
        have i33 := inl_and2 e33 i32 rfl
        refine g_lstore 36 (gd rfl) rfl (Nat.le_of_ble_eq_true rfl) ?_
        refine g_goto 5 (gd rfl) rfl ?_
        have n5 : InL z33 0 1152921504606846975 := by first | exact q_0 | exact inl_and1 e33 g5_0 rfl
        have n5a : InL z25 0 2305843009213693951 := by first | exact lw 0 2305843009213693951 (l_c 0 rfl) rfl | exact inl_or 61 e25 g5_1 i24 rfl
        exact gg_w (by first | exact Nat.le_add_right _ _ | exact gw2 | exact gw3 | exact gwe rfl | exact gwf rfl | exact gwg rfl | exact gwh rfl | omega) (gg_f (gf_cons rfl (gf_cons rfl (gf_cons rfl (gf_cons rfl gf_nil)))) (ih5  z25 z33  n5 n5a (mbl e33 e32 (nz_l c9a) mm5)))
  refine g_enter2 (k := 165) (N := 16602069666338596455301) (by first | exact dq1 hd rfl | exact dq0 hd rfl | exact dq2 hd rfl | exact dq3 hd rfl | omega) rfl (Nat.le_of_ble_eq_true rfl) ?_
  refine g_lconst 0 1 (gd rfl) rfl rfl ?_
  refine g_lstore_n 2 (gd rfl) rfl (Nat.le_of_ble_eq_true rfl) ?_
  refine g_lload_n 3 (gd rfl) rfl rfl ?_
  refine g_lstore 5 (gd rfl) rfl (Nat.le_of_ble_eq_true rfl) ?_
  have n5 : InL x1 0 1152921504606846975 := by first | exact q_0 | exact inl_and1 e33 g5_0 rfl
  have n5a : InL (Int64.ofInt 0) 0 2305843009213693951 := by first | exact lw 0 2305843009213693951 (l_c 0 rfl) rfl | exact inl_or 61 e25 g5_1 i24 rfl
  exact gg_w (by first | exact Nat.le_of_ble_eq_true rfl | omega) (gg_f (gf_cons rfl (gf_cons rfl (gf_cons rfl (gf_cons rfl gf_nil)))) (ct5 18446744073709551616  (Int64.ofInt 0) x1  n5 n5a (mb_inl _)))

def fm_168_46 : FM := ([], [], [(46, 6), (46, 7)], [])
/-- GraphHouse$Script.accuse -/
theorem k_168_46 {Z : AmZ} {A : Nat → Nat} {s : GS} {ex : va_W} {d : Nat} {X : AmX} {x1 : Int32} {x2 : Int32} (hd : 1 ≤ d) (hI : Inv s) (h1 : In x1 1 5) (h2 : In x2 0 1000) : GC Z d 168 [.ref (A 46), .int x1, .int x2] (WW Z A s ++ ex) 0 0 (fun v u => ∃ t : GS, Inv t ∧ Fr fm_168_46 s t ∧ ∃ z : Int32, v = some (.int z) ∧ u = WW Z A t ++ ex ∧ In z 0 0) X := by
  intro post xp hP hX
  refine g_enter2 (k := 168) (N := 900) (by first | exact dq1 hd rfl | exact dq0 hd rfl | exact dq2 hd rfl | exact dq3 hd rfl | omega) rfl (Nat.le_of_ble_eq_true rfl) ?_
  refine g_aload_n 1 (gd rfl) rfl rfl ?_
  refine g_iload_n 2 (gd rfl) rfl rfl ?_
  refine g_putI 5 (gd rfl) rfl rfl rfl rfl ?_
  have hI2 := inv_sF (q := 46) (j := 6) hI rfl (in_w (-1) 5 h1 rfl)
  refine g_aload_n 6 (gd rfl) rfl rfl ?_
  refine g_iload_n 7 (gd rfl) rfl rfl ?_
  refine g_putI 10 (gd rfl) rfl rfl rfl rfl ?_
  have hI7 := inv_sF (q := 46) (j := 7) hI2 rfl (in_w (-1) 1000 h2 rfl)
  refine g_iconst 0 11 (gd rfl) rfl rfl ?_
  exact g_ireturn (gd rfl) rfl (nb01 (in_w 0 1 (in_c 0 rfl) rfl)) (hP _ _ ⟨(sF (sF s 46 6 x1) 46 7 x2), hI7, (fr_sF rfl (fr_sF rfl fr_rf)), (Int32.ofInt 0), rfl, rfl, in_w 0 0 (in_c 0 rfl) rfl⟩)

def fm_169_46 : FM := ([], [], [(46, 6), (46, 7)], [])
/-- GraphHouse$Script.refuse -/
theorem k_169_46 {Z : AmZ} {A : Nat → Nat} {s : GS} {ex : va_W} {d : Nat} {X : AmX} {x1 : Int32} {x2 : Int32} (hd : 2 ≤ d) (hI : Inv s) (h1 : In x1 2 2) (h2 : In x2 3 4) : GC Z d 169 [.ref (A 46), .int x1, .int x2] (WW Z A s ++ ex) 0 0 (fun v u => ∃ t : GS, Inv t ∧ Fr fm_169_46 s t ∧ ∃ z : Int32, v = some (.int z) ∧ u = WW Z A t ++ ex ∧ In z 0 0) X := by
  intro post xp hP hX
  obtain ⟨u_46_3, e_46_3⟩ : ∃ w, w = s.2.2.1 46 3 := ⟨_, rfl⟩
  have ro_46_3 := inv_F hI 0 5 rfl e_46_3
  obtain ⟨u_46_4, e_46_4⟩ : ∃ w, w = s.2.2.1 46 4 := ⟨_, rfl⟩
  have ro_46_4 := inv_F hI 0 1000 rfl e_46_4
  refine g_enter2 (k := 169) (N := 900) (by first | exact dq1 hd rfl | exact dq0 hd rfl | exact dq2 hd rfl | exact dq3 hd rfl | omega) rfl (Nat.le_of_ble_eq_true rfl) ?_
  refine g_aload_n 1 (gd rfl) rfl rfl ?_
  refine g_getI 4 (gd rfl) rfl rfl rfl (fun z1 e1 => ?_)
  have q1 : u_46_3 = z1 := (e_46_3).trans e1.symm
  subst q1
  refine g_iconst 4 5 (gd rfl) rfl rfl ?_
  refine g_cmp_ne 8 18 (gd rfl) rfl rfl (fun c5 => ?_) (fun c5 => ?_)
  · skip
    refine g_aload_n 19 (gd rfl) rfl rfl ?_
    refine g_aload_n 20 (gd rfl) rfl rfl ?_
    refine g_getI 23 (gd rfl) rfl rfl rfl (fun z20 e20 => ?_)
    have q20 : u_46_3 = z20 := (e_46_3).trans e20.symm
    subst q20
    refine g_iconst 5 24 (gd rfl) rfl rfl ?_
    refine g_cmp_ne 27 31 (gd rfl) rfl rfl (fun c24 => ?_) (fun c24 => ?_)
    · skip
      have i24 := r_ne1 0 4 c24 ro_46_3 (in_c 5 rfl) rfl
      refine g_iload_n 32 (gd rfl) rfl rfl ?_
      refine g_aload_n 33 (gd rfl) rfl rfl ?_
      refine g_getI 36 (gd rfl) rfl rfl rfl (fun z33 e33 => ?_)
      have q33 : u_46_4 = z33 := (e_46_4).trans e33.symm
      subst q33
      refine g_callv (X := _) (As := [.int x1, .int u_46_4]) (r := []) (b := A 46) (q := 46) 39 (gd rfl) rfl rfl rfl rfl rfl (ww_o rfl) (Nat.le_of_ble_eq_true rfl) (Nat.zero_le _) (Nat.zero_le _) (k_168_46 (by first | exact dq1 hd rfl | exact dq0 hd rfl | exact dq2 hd rfl | exact dq3 hd rfl | omega) hI (in_w 1 5 h1 rfl) (in_w 0 1000 ro_46_4 rfl)) (fun e u h => h) (fun v u h => ?_)
      obtain ⟨s36, hI36, hF36, z36, rfl, rfl, i36⟩ := h
      show GG _ _ _ _ _ _ _ _ [.int z36] _ _ _
      exact g_ireturn (gd rfl) rfl (nb01 (in_w 0 1 i36 rfl)) (hP _ _ ⟨s36, hI36, (fr_tr rfl fr_rf hF36), z36, rfl, rfl, in_w 0 0 i36 rfl⟩)
    · skip
      have i24 := r_eq1 5 5 c24 ro_46_3 (in_c 5 rfl) rfl
      refine g_iload_n 28 (gd rfl) rfl rfl ?_
      refine g_goto 32 (gd rfl) rfl ?_
      refine g_aload_n 33 (gd rfl) rfl rfl ?_
      refine g_getI 36 (gd rfl) rfl rfl rfl (fun z33 e33 => ?_)
      have q33 : u_46_4 = z33 := (e_46_4).trans e33.symm
      subst q33
      refine g_callv (X := _) (As := [.int x2, .int u_46_4]) (r := []) (b := A 46) (q := 46) 39 (gd rfl) rfl rfl rfl rfl rfl (ww_o rfl) (Nat.le_of_ble_eq_true rfl) (Nat.zero_le _) (Nat.zero_le _) (k_168_46 (by first | exact dq1 hd rfl | exact dq0 hd rfl | exact dq2 hd rfl | exact dq3 hd rfl | omega) hI (in_w 1 5 h2 rfl) (in_w 0 1000 ro_46_4 rfl)) (fun e u h => h) (fun v u h => ?_)
      obtain ⟨s36, hI36, hF36, z36, rfl, rfl, i36⟩ := h
      show GG _ _ _ _ _ _ _ _ [.int z36] _ _ _
      exact g_ireturn (gd rfl) rfl (nb01 (in_w 0 1 i36 rfl)) (hP _ _ ⟨s36, hI36, (fr_tr rfl fr_rf hF36), z36, rfl, rfl, in_w 0 0 i36 rfl⟩)
  · skip
    have i5 := r_eq1 4 4 c5 ro_46_3 (in_c 4 rfl) rfl
    refine g_aload_n 9 (gd rfl) rfl rfl ?_
    refine g_iconst 1 10 (gd rfl) rfl rfl ?_
    refine g_aload_n 11 (gd rfl) rfl rfl ?_
    refine g_getI 14 (gd rfl) rfl rfl rfl (fun z11 e11 => ?_)
    have q11 : u_46_4 = z11 := (e_46_4).trans e11.symm
    subst q11
    refine g_callv (X := _) (As := [.int (Int32.ofInt 1), .int u_46_4]) (r := []) (b := A 46) (q := 46) 17 (gd rfl) rfl rfl rfl rfl rfl (ww_o rfl) (Nat.le_of_ble_eq_true rfl) (Nat.zero_le _) (Nat.zero_le _) (k_168_46 (by first | exact dq1 hd rfl | exact dq0 hd rfl | exact dq2 hd rfl | exact dq3 hd rfl | omega) hI (in_w 1 5 (in_c 1 rfl) rfl) (in_w 0 1000 ro_46_4 rfl)) (fun e u h => h) (fun v u h => ?_)
    obtain ⟨s14, hI14, hF14, z14, rfl, rfl, i14⟩ := h
    show GG _ _ _ _ _ _ _ _ [.int z14] _ _ _
    exact g_ireturn (gd rfl) rfl (nb01 (in_w 0 1 i14 rfl)) (hP _ _ ⟨s14, hI14, (fr_tr rfl fr_rf hF14), z14, rfl, rfl, in_w 0 0 i14 rfl⟩)

def fm_178_46 : FM := ([48], [], [(46, 9)], [])
/-- GraphHouse$Script.putNumber -/
theorem k_178_46 {Z : AmZ} {A : Nat → Nat} {s : GS} {ex : va_W} {d : Nat} {X : AmX} {x1 : Int32} (hd : 3 ≤ d) (hI : Inv s) (h1 : In x1 (-1000000) 1000000) : GC Z d 178 [.ref (A 46), .int x1] (WW Z A s ++ ex) 0 0 (fun v u => ∃ t : GS, Inv t ∧ Fr fm_178_46 s t ∧ v = none ∧ u = WW Z A t ++ ex) X := by
  intro post xp hP hX
  have ct52 : ∀ (k52 : Nat) (sc52 : GS) (y52_2 : Int32) (y52_3 : Int32) (y52_4 : Int32), Inv sc52 → Fr fm_178_46 s sc52 → (In y52_2 0 1000000) → (In y52_3 0 1000000) → (In y52_4 0 7) → (y52_3).toInt < (k52 : Int) → GG Z (d - 1) 178 post (gx xp) (1 + k52 * 900) 52 (fun j => xlook j [(0, .ref (A 46)), (1, .int x1), (2, .int y52_2), (3, .int y52_3), (4, .int y52_4)]) [] (WW Z A sc52 ++ ex) 0 0 := by
    intro k52
    induction k52 with
    | zero => intro sc52 y52_2 y52_3 y52_4 hIc52 hFc52 j52_2 j52_3 j52_4 mm52; exfalso; (first | have a0 := in_u h1 | (have a0 := h1; unfold In at a0)); have a1 := j52_4; unfold In at a1; have a2 := j52_3; unfold In at a2; have a3 := j52_2; unfold In at a3; omega
    | succ k52 ih52 =>
      intro sc52 y52_2 y52_3 y52_4 hIc52 hFc52 j52_2 j52_3 j52_4 mm52
      refine gg_w (M := 1 + k52 * 900 + 900) gws ?_
      refine g_iload_n 53 (gd rfl) rfl rfl ?_
      refine g_if_le 56 78 (gd rfl) rfl rfl (fun c53 => ?_) (fun c53 => ?_)
      · skip
        have i53 := z_le 0 0 c53 j52_3 rfl
        exact g_return (gd rfl) rfl (hP _ _ ⟨sc52, hIc52, hFc52, rfl, rfl⟩)
      · skip
        have i53 := z_gt 1 1000000 c53 j52_3 rfl
        refine g_aload_n 57 (gd rfl) rfl rfl ?_
        refine g_bipush 48 59 (gd rfl) rfl rfl ?_
        refine g_iload_n 60 (gd rfl) rfl rfl ?_
        refine g_iload_n 61 (gd rfl) rfl rfl ?_
        refine g_idiv 62 (gd rfl) rfl (dv_nz i53 rfl) (fun z61 e61 => ?_)
        have i61 := in_divv e61 j52_2 i53 rfl
        refine g_bipush 10 64 (gd rfl) rfl rfl ?_
        refine g_irem 65 (gd rfl) rfl (by decide) (fun z64 e64 => ?_)
        have i64 := in_rem 9 e64 i61 rfl rfl
        refine g_iadd 66 (gd rfl) rfl (fun z65 e65 => ?_)
        have i65 := in_add 48 57 e65 (in_c 48 rfl) i64 rfl rfl
        refine g_i2c 67 (gd rfl) rfl (fun z66 e66 => ?_)
        have i66 := in_i2c e66
        refine g_callv (X := _) (As := [.int z66]) (r := []) (b := A 46) (q := 46) 70 (gd rfl) rfl rfl rfl rfl rfl (ww_o rfl) (Nat.le_of_ble_eq_true rfl) (mc := 0) (ms := 0) (Nat.zero_le _) (Nat.zero_le _) (P := fun v u => _) ?_ (fun e u h => h) (fun v u h => h)
        intro po67 xx67 hp67 hx67
        refine g_enter2 (k := 177) (N := 300) (by first | exact dq1 hd rfl | exact dq0 hd rfl | exact dq2 hd rfl | exact dq3 hd rfl | omega) rfl (Nat.le_of_ble_eq_true rfl) ?_
        refine g_aload_n 1 (gd rfl) rfl rfl ?_
        refine g_getI 4 (gd rfl) rfl rfl rfl (fun z67x1 e67x1 => ?_)
        have i67x1 := inv_F hIc52 0 4608 rfl e67x1
        refine g_aload_n 5 (gd rfl) rfl rfl ?_
        refine g_getA (q2 := 48) 8 (gd rfl) rfl rfl rfl rfl ?_
        refine g_alen (n := 4608) (t := 2) 4608 9 (gd rfl) rfl rfl (Nat.le_of_ble_eq_true rfl) rfl ?_
        refine g_cmp_ge 12 32 (gd rfl) rfl rfl (fun c67x9 => ?_) (fun c67x9 => ?_)
        · skip
          have i67x9 := r_le2 4608 4608 c67x9 (in_c 4608 rfl) i67x1 rfl
          refine g_return (gd rfl) rfl (hp67 _ _ ?_)
          show GG _ _ _ _ _ _ _ _ [] _ _ _
          refine g_iload_n 71 (gd rfl) rfl rfl ?_
          refine g_bipush 10 73 (gd rfl) rfl rfl ?_
          refine g_idiv 74 (gd rfl) rfl (by decide) (fun z73 e73 => ?_)
          have i73 := in_div 0 100000 e73 i53 rfl rfl
          refine g_istore_n 75 (gd rfl) rfl (Nat.le_of_ble_eq_true rfl) ?_
          refine g_goto 52 (gd rfl) rfl ?_
          have m52 : (z73).toInt < ((k52 : Nat) : Int) := by (first | have a0 := oa5 h1 j52_4 i53 j52_2 i73 | ((first | have a0 := in_u h1 | (have a0 := h1; unfold In at a0)); (first | have a1 := in_u j52_4 | (have a1 := j52_4; unfold In at a1)); (first | have a2 := in_u i53 | (have a2 := i53; unfold In at a2)); (first | have a3 := in_u j52_2 | (have a3 := j52_2; unfold In at a3)); (first | have a4 := in_u i73 | (have a4 := i73; unfold In at a4)))); have a5 := t_div e73 i53 rfl; (first | have a6 := oa2 i67x9 i65 | ((first | have a6 := in_u i67x9 | (have a6 := i67x9; unfold In at a6)); (first | have a7 := in_u i65 | (have a7 := i65; unfold In at a7)))); have a8 := t_add e65 (in_c 48 rfl) i64 rfl; (first | have a9 := oa2 i64 ((in_c 48 rfl)) | ((first | have a9 := in_u i64 | (have a9 := i64; unfold In at a9)); (first | have a10 := in_u ((in_c 48 rfl)) | (have a10 := (in_c 48 rfl); unfold In at a10)))); omega
          exact gg_w (by first | exact Nat.le_add_right _ _ | exact gw2 | exact gw3 | exact gwe rfl | exact gwf rfl | exact gwg rfl | exact gwh rfl | omega) (gg_f (gf_cons rfl (gf_cons rfl (gf_cons rfl (gf_cons rfl (gf_cons rfl gf_nil))))) (ih52  sc52 y52_2 z73 y52_4 hIc52 hFc52 (in_w 0 1000000 j52_2 rfl) (in_w 0 1000000 i73 rfl) (in_w 0 7 j52_4 rfl) m52))
        · skip
          have i67x9 := r_lt1 0 4607 c67x9 i67x1 (in_c 4608 rfl) rfl
          refine g_aload_n 13 (gd rfl) rfl rfl ?_
          refine g_getA (q2 := 48) 16 (gd rfl) rfl rfl rfl rfl ?_
          refine g_aload_n 17 (gd rfl) rfl rfl ?_
          refine g_getI 20 (gd rfl) rfl rfl rfl (fun z67x17 e67x17 => ?_)
          have q67x17 : z67x1 = z67x17 := (e67x1).trans e67x17.symm
          subst q67x17
          refine g_iload_n 21 (gd rfl) rfl rfl ?_
          refine g_castore 22 (gd rfl) rfl (n := 4608) rfl (in_ix i67x9 rfl) ?_
          have hI67x21 := inv_sI (q := 48) (j := z67x1.toNatClampNeg) hIc52 rfl (in_w 0 65535 (nar_c z66) rfl)
          refine g_aload_n 23 (gd rfl) rfl rfl ?_
          refine g_dup 24 (gd rfl) rfl rfl ?_
          refine g_getI 27 (gd rfl) rfl rfl rfl (fun z67x24 e67x24 => ?_)
          have q67x24 : z67x1 = z67x24 := (sI_F (e67x1)).trans e67x24.symm
          subst q67x24
          refine g_iconst 1 28 (gd rfl) rfl rfl ?_
          refine g_iadd 29 (gd rfl) rfl (fun z67x28 e67x28 => ?_)
          have i67x28 := in_add 1 4608 e67x28 i67x9 (in_c 1 rfl) rfl rfl
          refine g_putI 32 (gd rfl) rfl rfl rfl rfl ?_
          have hI67x29 := inv_sF (q := 46) (j := 9) hI67x21 rfl (in_w 0 4608 i67x28 rfl)
          refine g_return (gd rfl) rfl (hp67 _ _ ?_)
          show GG _ _ _ _ _ _ _ _ [] _ _ _
          refine g_iload_n 71 (gd rfl) rfl rfl ?_
          refine g_bipush 10 73 (gd rfl) rfl rfl ?_
          refine g_idiv 74 (gd rfl) rfl (by decide) (fun z73 e73 => ?_)
          have i73 := in_div 0 100000 e73 i53 rfl rfl
          refine g_istore_n 75 (gd rfl) rfl (Nat.le_of_ble_eq_true rfl) ?_
          refine g_goto 52 (gd rfl) rfl ?_
          have m52 : (z73).toInt < ((k52 : Nat) : Int) := by (first | have a0 := oa5 h1 j52_4 i53 j52_2 i73 | ((first | have a0 := in_u h1 | (have a0 := h1; unfold In at a0)); (first | have a1 := in_u j52_4 | (have a1 := j52_4; unfold In at a1)); (first | have a2 := in_u i53 | (have a2 := i53; unfold In at a2)); (first | have a3 := in_u j52_2 | (have a3 := j52_2; unfold In at a3)); (first | have a4 := in_u i73 | (have a4 := i73; unfold In at a4)))); have a5 := t_div e73 i53 rfl; (first | have a6 := in_u i67x28 | (have a6 := i67x28; unfold In at a6)); have a7 := t_add e67x28 i67x9 (in_c 1 rfl) rfl; (first | have a8 := oa3 ((in_c 1 rfl)) i67x9 i65 | ((first | have a8 := in_u ((in_c 1 rfl)) | (have a8 := (in_c 1 rfl); unfold In at a8)); (first | have a9 := in_u i67x9 | (have a9 := i67x9; unfold In at a9)); (first | have a10 := in_u i65 | (have a10 := i65; unfold In at a10)))); have a11 := t_add e65 (in_c 48 rfl) i64 rfl; (first | have a12 := oa2 i64 ((in_c 48 rfl)) | ((first | have a12 := in_u i64 | (have a12 := i64; unfold In at a12)); (first | have a13 := in_u ((in_c 48 rfl)) | (have a13 := (in_c 48 rfl); unfold In at a13)))); omega
          exact gg_w (by first | exact Nat.le_add_right _ _ | exact gw2 | exact gw3 | exact gwe rfl | exact gwf rfl | exact gwg rfl | exact gwh rfl | omega) (gg_f (gf_cons rfl (gf_cons rfl (gf_cons rfl (gf_cons rfl (gf_cons rfl gf_nil))))) (ih52  (sF (sI sc52 48 z67x1.toNatClampNeg (vp_nar .char z66)) 46 9 z67x28) y52_2 z73 y52_4 hI67x29 (fr_sF rfl (fr_sI rfl hFc52)) (in_w 0 1000000 j52_2 rfl) (in_w 0 1000000 i73 rfl) (in_w 0 7 j52_4 rfl) m52))
  have ct26 : ∀ (k26 : Nat) (sc26 : GS) (y26_2 : Int32) (y26_3 : Int32) (y26_4 : Int32), Inv sc26 → Fr fm_178_46 s sc26 → (In y26_2 0 1000000) → (In y26_3 1 1000000) → (In y26_4 0 7) → 7 - (y26_4).toInt < (k26 : Int) → GG Z (d - 1) 178 post (gx xp) (900001802 + k26 * 900) 26 (fun j => xlook j [(0, .ref (A 46)), (1, .int x1), (2, .int y26_2), (3, .int y26_3), (4, .int y26_4)]) [] (WW Z A sc26 ++ ex) 0 0 := by
    intro k26
    induction k26 with
    | zero => intro sc26 y26_2 y26_3 y26_4 hIc26 hFc26 j26_2 j26_3 j26_4 mm26; exact m_no mm26 j26_4 rfl
    | succ k26 ih26 =>
      intro sc26 y26_2 y26_3 y26_4 hIc26 hFc26 j26_2 j26_3 j26_4 mm26
      refine gg_w (M := 900001802 + k26 * 900 + 900) gws ?_
      refine g_iload 28 (gd rfl) rfl rfl ?_
      refine g_bipush 7 30 (gd rfl) rfl rfl ?_
      refine g_cmp_ge 33 52 (gd rfl) rfl rfl (fun c30 => ?_) (fun c30 => ?_)
      · skip
        have i30 := r_le2 7 7 c30 (in_c 7 rfl) j26_4 rfl
        have m52 : (y26_3).toInt < ((1000002 : Nat) : Int) := by (first | have a0 := oa4 h1 i30 j26_3 j26_2 | ((first | have a0 := in_u h1 | (have a0 := h1; unfold In at a0)); (first | have a1 := in_u i30 | (have a1 := i30; unfold In at a1)); (first | have a2 := in_u j26_3 | (have a2 := j26_3; unfold In at a2)); (first | have a3 := in_u j26_2 | (have a3 := j26_2; unfold In at a3)))); omega
        exact gg_w (by first | exact Nat.le_add_right _ _ | exact gw2 | exact gw3 | exact gwe rfl | exact gwf rfl | exact gwg rfl | exact gwh rfl | omega) (gg_f (gf_cons rfl (gf_cons rfl (gf_cons rfl (gf_cons rfl (gf_cons rfl gf_nil))))) (ct52 1000002 sc26 y26_2 y26_3 y26_4 hIc26 hFc26 (in_w 0 1000000 j26_2 rfl) (in_w 0 1000000 j26_3 rfl) (in_w 0 7 i30 rfl) m52))
      · skip
        have i30 := r_lt1 0 6 c30 j26_4 (in_c 7 rfl) rfl
        refine g_iload_n 34 (gd rfl) rfl rfl ?_
        refine g_iload_n 35 (gd rfl) rfl rfl ?_
        refine g_idiv 36 (gd rfl) rfl (dv_nz j26_3 rfl) (fun z35 e35 => ?_)
        have i35 := in_divv e35 j26_2 j26_3 rfl
        refine g_bipush 10 38 (gd rfl) rfl rfl ?_
        refine g_cmp_lt 41 52 (gd rfl) rfl rfl (fun c38 => ?_) (fun c38 => ?_)
        · skip
          have i38 := r_lt1 0 9 c38 i35 (in_c 10 rfl) rfl
          have m52 : (y26_3).toInt < ((1000002 : Nat) : Int) := by (first | have a0 := oa4 h1 i30 j26_3 j26_2 | ((first | have a0 := in_u h1 | (have a0 := h1; unfold In at a0)); (first | have a1 := in_u i30 | (have a1 := i30; unfold In at a1)); (first | have a2 := in_u j26_3 | (have a2 := j26_3; unfold In at a2)); (first | have a3 := in_u j26_2 | (have a3 := j26_2; unfold In at a3)))); omega
          exact gg_w (by first | exact Nat.le_add_right _ _ | exact gw2 | exact gw3 | exact gwe rfl | exact gwf rfl | exact gwg rfl | exact gwh rfl | omega) (gg_f (gf_cons rfl (gf_cons rfl (gf_cons rfl (gf_cons rfl (gf_cons rfl gf_nil))))) (ct52 1000002 sc26 y26_2 y26_3 y26_4 hIc26 hFc26 (in_w 0 1000000 j26_2 rfl) (in_w 0 1000000 j26_3 rfl) (in_w 0 7 i30 rfl) m52))
        · skip
          have i38 := r_le2 10 1000000 c38 (in_c 10 rfl) i35 rfl
          refine g_iload_n 42 (gd rfl) rfl rfl ?_
          refine g_bipush 10 44 (gd rfl) rfl rfl ?_
          refine g_imul 45 (gd rfl) rfl (fun z44 e44 => ?_)
          have i44 := in_mulc 10 10 10000000 (Or.inr e44) j26_3 rfl rfl
          refine g_istore_n 46 (gd rfl) rfl (Nat.le_of_ble_eq_true rfl) ?_
          refine g_iinc 49 (gd rfl) rfl rfl (Nat.le_of_ble_eq_true rfl) (fun z46 e46 => ?_)
          have i46 := in_add 1 7 e46 i30 (in_c 1 rfl) rfl rfl
          refine g_goto 26 (gd rfl) rfl ?_
          have i26 : In z44 1 1000000 := by have h := t_divv e35 j26_2 j26_3 rfl; have h2 := (t_mulc 10 (Or.inr e44) j26_3 rfl).1; have h10 : (Int32.ofInt 10).toInt = 10 := rfl; rw [h, h10] at c38; have h3 := (Int.le_ediv_iff_mul_le (by have := j26_3.1; omega)).mp c38; have := j26_2.2; have := j26_3.1; exact ⟨by omega, by omega⟩
          exact gg_w (by first | exact Nat.le_add_right _ _ | exact gw2 | exact gw3 | exact gwe rfl | exact gwf rfl | exact gwg rfl | exact gwh rfl | omega) (gg_f (gf_cons rfl (gf_cons rfl (gf_cons rfl (gf_cons rfl (gf_cons rfl gf_nil))))) (ih26 sc26 y26_2 z44 z46 hIc26 hFc26 (in_w 0 1000000 j26_2 rfl) i26 (in_w 0 7 i46 rfl) (m_up mm26 (t_add e46 i30 (in_c 1 rfl) rfl) (in_w 1 1 (in_c 1 rfl) rfl))))
  refine g_enter2 (k := 178) (N := 900009902) (by first | exact dq1 hd rfl | exact dq0 hd rfl | exact dq2 hd rfl | exact dq3 hd rfl | omega) rfl (Nat.le_of_ble_eq_true rfl) ?_
  refine g_aload_n 1 (gd rfl) rfl rfl ?_
  refine g_bipush 32 3 (gd rfl) rfl rfl ?_
  refine g_callv (X := _) (As := [.int (Int32.ofInt 32)]) (r := []) (b := A 46) (q := 46) 6 (gd rfl) rfl rfl rfl rfl rfl (ww_o rfl) (Nat.le_of_ble_eq_true rfl) (mc := 0) (ms := 0) (Nat.zero_le _) (Nat.zero_le _) (P := fun v u => _) ?_ (fun e u h => h) (fun v u h => h)
  intro po3 xx3 hp3 hx3
  refine g_enter2 (k := 177) (N := 300) (by first | exact dq1 hd rfl | exact dq0 hd rfl | exact dq2 hd rfl | exact dq3 hd rfl | omega) rfl (Nat.le_of_ble_eq_true rfl) ?_
  refine g_aload_n 1 (gd rfl) rfl rfl ?_
  refine g_getI 4 (gd rfl) rfl rfl rfl (fun z3x1 e3x1 => ?_)
  have i3x1 := inv_F hI 0 4608 rfl e3x1
  refine g_aload_n 5 (gd rfl) rfl rfl ?_
  refine g_getA (q2 := 48) 8 (gd rfl) rfl rfl rfl rfl ?_
  refine g_alen (n := 4608) (t := 2) 4608 9 (gd rfl) rfl rfl (Nat.le_of_ble_eq_true rfl) rfl ?_
  refine g_cmp_ge 12 32 (gd rfl) rfl rfl (fun c3x9 => ?_) (fun c3x9 => ?_)
  · skip
    have i3x9 := r_le2 4608 4608 c3x9 (in_c 4608 rfl) i3x1 rfl
    refine g_return (gd rfl) rfl (hp3 _ _ ?_)
    show GG _ _ _ _ _ _ _ _ [] _ _ _
    refine g_iload_n 7 (gd rfl) rfl rfl ?_
    refine g_if_ge 10 16 (gd rfl) rfl rfl (fun c7 => ?_) (fun c7 => ?_)
    · skip
      have i7 := z_ge 0 1000000 c7 h1 rfl
      refine g_iload_n 17 (gd rfl) rfl rfl ?_
      refine g_calls (As := [.int x1]) (r := []) 20 (gd rfl) rfl rfl rfl rfl rfl (Nat.le_of_ble_eq_true rfl) (mc := 0) (ms := 0) (Nat.zero_le _) (Nat.zero_le _) (P := fun v u => _) ?_ (fun v u h => h)
      intro po17 xx17 hp17 hx17
      refine g_enter2 (k := 420) (N := 300) (by first | exact dq1 hd rfl | exact dq0 hd rfl | exact dq2 hd rfl | exact dq3 hd rfl | omega) rfl (Nat.le_of_ble_eq_true rfl) ?_
      refine g_iload_n 1 (gd rfl) rfl rfl ?_
      refine g_if_ge 4 9 (gd rfl) rfl rfl (fun c17x1 => ?_) (fun c17x1 => ?_)
      · skip
        refine g_iload_n 10 (gd rfl) rfl rfl ?_
        refine g_ireturn (gd rfl) rfl rfl (hp17 _ _ ?_)
        show GG _ _ _ _ _ _ _ _ [.int x1] _ _ _
        refine g_istore_n 21 (gd rfl) rfl (Nat.le_of_ble_eq_true rfl) ?_
        refine g_iconst 1 22 (gd rfl) rfl rfl ?_
        refine g_istore_n 23 (gd rfl) rfl (Nat.le_of_ble_eq_true rfl) ?_
        refine g_iconst 0 24 (gd rfl) rfl rfl ?_
        refine g_istore 26 (gd rfl) rfl (Nat.le_of_ble_eq_true rfl) ?_
        exact gg_w (by first | exact Nat.le_of_ble_eq_true rfl | omega) (gg_f (gf_cons rfl (gf_cons rfl (gf_cons rfl (gf_cons rfl (gf_cons rfl gf_nil))))) (ct26 8 s x1 (Int32.ofInt 1) (Int32.ofInt 0) hI fr_rf (in_w 0 1000000 i7 rfl) (in_w 1 1000000 (in_c 1 rfl) rfl) (in_w 0 7 (in_c 0 rfl) rfl) (m_in 8 (in_w 0 7 (in_c 0 rfl) rfl) rfl)))
      · skip
        exact zn_lt c17x1 i7 rfl
    · skip
      have i7 := z_lt (-1000000) (-1) c7 h1 rfl
      refine g_aload_n 11 (gd rfl) rfl rfl ?_
      refine g_bipush 45 13 (gd rfl) rfl rfl ?_
      refine g_callv (X := _) (As := [.int (Int32.ofInt 45)]) (r := []) (b := A 46) (q := 46) 16 (gd rfl) rfl rfl rfl rfl rfl (ww_o rfl) (Nat.le_of_ble_eq_true rfl) (mc := 0) (ms := 0) (Nat.zero_le _) (Nat.zero_le _) (P := fun v u => _) ?_ (fun e u h => h) (fun v u h => h)
      intro po13 xx13 hp13 hx13
      refine g_enter2 (k := 177) (N := 300) (by first | exact dq1 hd rfl | exact dq0 hd rfl | exact dq2 hd rfl | exact dq3 hd rfl | omega) rfl (Nat.le_of_ble_eq_true rfl) ?_
      refine g_aload_n 1 (gd rfl) rfl rfl ?_
      refine g_getI 4 (gd rfl) rfl rfl rfl (fun z13x1 e13x1 => ?_)
      have q13x1 : z3x1 = z13x1 := (e3x1).trans e13x1.symm
      subst q13x1
      refine g_aload_n 5 (gd rfl) rfl rfl ?_
      refine g_getA (q2 := 48) 8 (gd rfl) rfl rfl rfl rfl ?_
      refine g_alen (n := 4608) (t := 2) 4608 9 (gd rfl) rfl rfl (Nat.le_of_ble_eq_true rfl) rfl ?_
      refine g_cmp_ge 12 32 (gd rfl) rfl rfl (fun c13x9 => ?_) (fun c13x9 => ?_)
      · skip
        refine g_return (gd rfl) rfl (hp13 _ _ ?_)
        show GG _ _ _ _ _ _ _ _ [] _ _ _
        refine g_iload_n 17 (gd rfl) rfl rfl ?_
        refine g_calls (As := [.int x1]) (r := []) 20 (gd rfl) rfl rfl rfl rfl rfl (Nat.le_of_ble_eq_true rfl) (mc := 0) (ms := 0) (Nat.zero_le _) (Nat.zero_le _) (P := fun v u => _) ?_ (fun v u h => h)
        intro po17 xx17 hp17 hx17
        refine g_enter2 (k := 420) (N := 300) (by first | exact dq1 hd rfl | exact dq0 hd rfl | exact dq2 hd rfl | exact dq3 hd rfl | omega) rfl (Nat.le_of_ble_eq_true rfl) ?_
        refine g_iload_n 1 (gd rfl) rfl rfl ?_
        refine g_if_ge 4 9 (gd rfl) rfl rfl (fun c17x1 => ?_) (fun c17x1 => ?_)
        · skip
          exact zn_ge c17x1 i7 rfl
        · skip
          refine g_iload_n 5 (gd rfl) rfl rfl ?_
          refine g_ineg 6 (gd rfl) rfl (fun z17x5 e17x5 => ?_)
          have i17x5 := in_neg 1 1000000 e17x5 i7 rfl
          refine g_goto 10 (gd rfl) rfl ?_
          refine g_ireturn (gd rfl) rfl rfl (hp17 _ _ ?_)
          show GG _ _ _ _ _ _ _ _ [.int z17x5] _ _ _
          refine g_istore_n 21 (gd rfl) rfl (Nat.le_of_ble_eq_true rfl) ?_
          refine g_iconst 1 22 (gd rfl) rfl rfl ?_
          refine g_istore_n 23 (gd rfl) rfl (Nat.le_of_ble_eq_true rfl) ?_
          refine g_iconst 0 24 (gd rfl) rfl rfl ?_
          refine g_istore 26 (gd rfl) rfl (Nat.le_of_ble_eq_true rfl) ?_
          exact gg_w (by first | exact Nat.le_of_ble_eq_true rfl | omega) (gg_f (gf_cons rfl (gf_cons rfl (gf_cons rfl (gf_cons rfl (gf_cons rfl gf_nil))))) (ct26 8 s z17x5 (Int32.ofInt 1) (Int32.ofInt 0) hI fr_rf (in_w 0 1000000 i17x5 rfl) (in_w 1 1000000 (in_c 1 rfl) rfl) (in_w 0 7 (in_c 0 rfl) rfl) (m_in 8 (in_w 0 7 (in_c 0 rfl) rfl) rfl)))
      · skip
        exact n_lt c13x9 i3x9 (in_c 4608 rfl) rfl
  · skip
    have i3x9 := r_lt1 0 4607 c3x9 i3x1 (in_c 4608 rfl) rfl
    refine g_aload_n 13 (gd rfl) rfl rfl ?_
    refine g_getA (q2 := 48) 16 (gd rfl) rfl rfl rfl rfl ?_
    refine g_aload_n 17 (gd rfl) rfl rfl ?_
    refine g_getI 20 (gd rfl) rfl rfl rfl (fun z3x17 e3x17 => ?_)
    have q3x17 : z3x1 = z3x17 := (e3x1).trans e3x17.symm
    subst q3x17
    refine g_iload_n 21 (gd rfl) rfl rfl ?_
    refine g_castore 22 (gd rfl) rfl (n := 4608) rfl (in_ix i3x9 rfl) ?_
    have hI3x21 := inv_sI (q := 48) (j := z3x1.toNatClampNeg) hI rfl (in_w 0 65535 (nar_c (Int32.ofInt 32)) rfl)
    refine g_aload_n 23 (gd rfl) rfl rfl ?_
    refine g_dup 24 (gd rfl) rfl rfl ?_
    refine g_getI 27 (gd rfl) rfl rfl rfl (fun z3x24 e3x24 => ?_)
    have q3x24 : z3x1 = z3x24 := (sI_F (e3x1)).trans e3x24.symm
    subst q3x24
    refine g_iconst 1 28 (gd rfl) rfl rfl ?_
    refine g_iadd 29 (gd rfl) rfl (fun z3x28 e3x28 => ?_)
    have i3x28 := in_add 1 4608 e3x28 i3x9 (in_c 1 rfl) rfl rfl
    refine g_putI 32 (gd rfl) rfl rfl rfl rfl ?_
    have hI3x29 := inv_sF (q := 46) (j := 9) hI3x21 rfl (in_w 0 4608 i3x28 rfl)
    refine g_return (gd rfl) rfl (hp3 _ _ ?_)
    show GG _ _ _ _ _ _ _ _ [] _ _ _
    refine g_iload_n 7 (gd rfl) rfl rfl ?_
    refine g_if_ge 10 16 (gd rfl) rfl rfl (fun c7 => ?_) (fun c7 => ?_)
    · skip
      have i7 := z_ge 0 1000000 c7 h1 rfl
      refine g_iload_n 17 (gd rfl) rfl rfl ?_
      refine g_calls (As := [.int x1]) (r := []) 20 (gd rfl) rfl rfl rfl rfl rfl (Nat.le_of_ble_eq_true rfl) (mc := 0) (ms := 0) (Nat.zero_le _) (Nat.zero_le _) (P := fun v u => _) ?_ (fun v u h => h)
      intro po17 xx17 hp17 hx17
      refine g_enter2 (k := 420) (N := 300) (by first | exact dq1 hd rfl | exact dq0 hd rfl | exact dq2 hd rfl | exact dq3 hd rfl | omega) rfl (Nat.le_of_ble_eq_true rfl) ?_
      refine g_iload_n 1 (gd rfl) rfl rfl ?_
      refine g_if_ge 4 9 (gd rfl) rfl rfl (fun c17x1 => ?_) (fun c17x1 => ?_)
      · skip
        refine g_iload_n 10 (gd rfl) rfl rfl ?_
        refine g_ireturn (gd rfl) rfl rfl (hp17 _ _ ?_)
        show GG _ _ _ _ _ _ _ _ [.int x1] _ _ _
        refine g_istore_n 21 (gd rfl) rfl (Nat.le_of_ble_eq_true rfl) ?_
        refine g_iconst 1 22 (gd rfl) rfl rfl ?_
        refine g_istore_n 23 (gd rfl) rfl (Nat.le_of_ble_eq_true rfl) ?_
        refine g_iconst 0 24 (gd rfl) rfl rfl ?_
        refine g_istore 26 (gd rfl) rfl (Nat.le_of_ble_eq_true rfl) ?_
        exact gg_w (by first | exact Nat.le_of_ble_eq_true rfl | omega) (gg_f (gf_cons rfl (gf_cons rfl (gf_cons rfl (gf_cons rfl (gf_cons rfl gf_nil))))) (ct26 8 (sF (sI s 48 z3x1.toNatClampNeg (vp_nar .char (Int32.ofInt 32))) 46 9 z3x28) x1 (Int32.ofInt 1) (Int32.ofInt 0) hI3x29 (fr_sF rfl (fr_sI rfl fr_rf)) (in_w 0 1000000 i7 rfl) (in_w 1 1000000 (in_c 1 rfl) rfl) (in_w 0 7 (in_c 0 rfl) rfl) (m_in 8 (in_w 0 7 (in_c 0 rfl) rfl) rfl)))
      · skip
        exact zn_lt c17x1 i7 rfl
    · skip
      have i7 := z_lt (-1000000) (-1) c7 h1 rfl
      refine g_aload_n 11 (gd rfl) rfl rfl ?_
      refine g_bipush 45 13 (gd rfl) rfl rfl ?_
      refine g_callv (X := _) (As := [.int (Int32.ofInt 45)]) (r := []) (b := A 46) (q := 46) 16 (gd rfl) rfl rfl rfl rfl rfl (ww_o rfl) (Nat.le_of_ble_eq_true rfl) (mc := 0) (ms := 0) (Nat.zero_le _) (Nat.zero_le _) (P := fun v u => _) ?_ (fun e u h => h) (fun v u h => h)
      intro po13 xx13 hp13 hx13
      refine g_enter2 (k := 177) (N := 300) (by first | exact dq1 hd rfl | exact dq0 hd rfl | exact dq2 hd rfl | exact dq3 hd rfl | omega) rfl (Nat.le_of_ble_eq_true rfl) ?_
      refine g_aload_n 1 (gd rfl) rfl rfl ?_
      refine g_getI 4 (gd rfl) rfl rfl rfl (fun z13x1 e13x1 => ?_)
      have q13x1 : z3x28 = z13x1 := (sF_get).trans e13x1.symm
      subst q13x1
      refine g_aload_n 5 (gd rfl) rfl rfl ?_
      refine g_getA (q2 := 48) 8 (gd rfl) rfl rfl rfl rfl ?_
      refine g_alen (n := 4608) (t := 2) 4608 9 (gd rfl) rfl rfl (Nat.le_of_ble_eq_true rfl) rfl ?_
      refine g_cmp_ge 12 32 (gd rfl) rfl rfl (fun c13x9 => ?_) (fun c13x9 => ?_)
      · skip
        have i13x9 := r_le2 4608 4608 c13x9 (in_c 4608 rfl) i3x28 rfl
        refine g_return (gd rfl) rfl (hp13 _ _ ?_)
        show GG _ _ _ _ _ _ _ _ [] _ _ _
        refine g_iload_n 17 (gd rfl) rfl rfl ?_
        refine g_calls (As := [.int x1]) (r := []) 20 (gd rfl) rfl rfl rfl rfl rfl (Nat.le_of_ble_eq_true rfl) (mc := 0) (ms := 0) (Nat.zero_le _) (Nat.zero_le _) (P := fun v u => _) ?_ (fun v u h => h)
        intro po17 xx17 hp17 hx17
        refine g_enter2 (k := 420) (N := 300) (by first | exact dq1 hd rfl | exact dq0 hd rfl | exact dq2 hd rfl | exact dq3 hd rfl | omega) rfl (Nat.le_of_ble_eq_true rfl) ?_
        refine g_iload_n 1 (gd rfl) rfl rfl ?_
        refine g_if_ge 4 9 (gd rfl) rfl rfl (fun c17x1 => ?_) (fun c17x1 => ?_)
        · skip
          exact zn_ge c17x1 i7 rfl
        · skip
          refine g_iload_n 5 (gd rfl) rfl rfl ?_
          refine g_ineg 6 (gd rfl) rfl (fun z17x5 e17x5 => ?_)
          have i17x5 := in_neg 1 1000000 e17x5 i7 rfl
          refine g_goto 10 (gd rfl) rfl ?_
          refine g_ireturn (gd rfl) rfl rfl (hp17 _ _ ?_)
          show GG _ _ _ _ _ _ _ _ [.int z17x5] _ _ _
          refine g_istore_n 21 (gd rfl) rfl (Nat.le_of_ble_eq_true rfl) ?_
          refine g_iconst 1 22 (gd rfl) rfl rfl ?_
          refine g_istore_n 23 (gd rfl) rfl (Nat.le_of_ble_eq_true rfl) ?_
          refine g_iconst 0 24 (gd rfl) rfl rfl ?_
          refine g_istore 26 (gd rfl) rfl (Nat.le_of_ble_eq_true rfl) ?_
          exact gg_w (by first | exact Nat.le_of_ble_eq_true rfl | omega) (gg_f (gf_cons rfl (gf_cons rfl (gf_cons rfl (gf_cons rfl (gf_cons rfl gf_nil))))) (ct26 8 (sF (sI s 48 z3x1.toNatClampNeg (vp_nar .char (Int32.ofInt 32))) 46 9 z3x28) z17x5 (Int32.ofInt 1) (Int32.ofInt 0) hI3x29 (fr_sF rfl (fr_sI rfl fr_rf)) (in_w 0 1000000 i17x5 rfl) (in_w 1 1000000 (in_c 1 rfl) rfl) (in_w 0 7 (in_c 0 rfl) rfl) (m_in 8 (in_w 0 7 (in_c 0 rfl) rfl) rfl)))
      · skip
        have i13x9 := r_lt1 1 4607 c13x9 i3x28 (in_c 4608 rfl) rfl
        refine g_aload_n 13 (gd rfl) rfl rfl ?_
        refine g_getA (q2 := 48) 16 (gd rfl) rfl rfl rfl rfl ?_
        refine g_aload_n 17 (gd rfl) rfl rfl ?_
        refine g_getI 20 (gd rfl) rfl rfl rfl (fun z13x17 e13x17 => ?_)
        have q13x17 : z3x28 = z13x17 := (sF_get).trans e13x17.symm
        subst q13x17
        refine g_iload_n 21 (gd rfl) rfl rfl ?_
        refine g_castore 22 (gd rfl) rfl (n := 4608) rfl (in_ix i13x9 rfl) ?_
        have hI13x21 := inv_sI (q := 48) (j := z3x28.toNatClampNeg) hI3x29 rfl (in_w 0 65535 (nar_c (Int32.ofInt 45)) rfl)
        refine g_aload_n 23 (gd rfl) rfl rfl ?_
        refine g_dup 24 (gd rfl) rfl rfl ?_
        refine g_getI 27 (gd rfl) rfl rfl rfl (fun z13x24 e13x24 => ?_)
        have q13x24 : z3x28 = z13x24 := (sI_F (sF_get)).trans e13x24.symm
        subst q13x24
        refine g_iconst 1 28 (gd rfl) rfl rfl ?_
        refine g_iadd 29 (gd rfl) rfl (fun z13x28 e13x28 => ?_)
        have i13x28 := in_add 2 4608 e13x28 i13x9 (in_c 1 rfl) rfl rfl
        refine g_putI 32 (gd rfl) rfl rfl rfl rfl ?_
        have hI13x29 := inv_sF (q := 46) (j := 9) hI13x21 rfl (in_w 0 4608 i13x28 rfl)
        refine g_return (gd rfl) rfl (hp13 _ _ ?_)
        show GG _ _ _ _ _ _ _ _ [] _ _ _
        refine g_iload_n 17 (gd rfl) rfl rfl ?_
        refine g_calls (As := [.int x1]) (r := []) 20 (gd rfl) rfl rfl rfl rfl rfl (Nat.le_of_ble_eq_true rfl) (mc := 0) (ms := 0) (Nat.zero_le _) (Nat.zero_le _) (P := fun v u => _) ?_ (fun v u h => h)
        intro po17 xx17 hp17 hx17
        refine g_enter2 (k := 420) (N := 300) (by first | exact dq1 hd rfl | exact dq0 hd rfl | exact dq2 hd rfl | exact dq3 hd rfl | omega) rfl (Nat.le_of_ble_eq_true rfl) ?_
        refine g_iload_n 1 (gd rfl) rfl rfl ?_
        refine g_if_ge 4 9 (gd rfl) rfl rfl (fun c17x1 => ?_) (fun c17x1 => ?_)
        · skip
          exact zn_ge c17x1 i7 rfl
        · skip
          refine g_iload_n 5 (gd rfl) rfl rfl ?_
          refine g_ineg 6 (gd rfl) rfl (fun z17x5 e17x5 => ?_)
          have i17x5 := in_neg 1 1000000 e17x5 i7 rfl
          refine g_goto 10 (gd rfl) rfl ?_
          refine g_ireturn (gd rfl) rfl rfl (hp17 _ _ ?_)
          show GG _ _ _ _ _ _ _ _ [.int z17x5] _ _ _
          refine g_istore_n 21 (gd rfl) rfl (Nat.le_of_ble_eq_true rfl) ?_
          refine g_iconst 1 22 (gd rfl) rfl rfl ?_
          refine g_istore_n 23 (gd rfl) rfl (Nat.le_of_ble_eq_true rfl) ?_
          refine g_iconst 0 24 (gd rfl) rfl rfl ?_
          refine g_istore 26 (gd rfl) rfl (Nat.le_of_ble_eq_true rfl) ?_
          exact gg_w (by first | exact Nat.le_of_ble_eq_true rfl | omega) (gg_f (gf_cons rfl (gf_cons rfl (gf_cons rfl (gf_cons rfl (gf_cons rfl gf_nil))))) (ct26 8 (sF (sI (sF (sI s 48 z3x1.toNatClampNeg (vp_nar .char (Int32.ofInt 32))) 46 9 z3x28) 48 z3x28.toNatClampNeg (vp_nar .char (Int32.ofInt 45))) 46 9 z13x28) z17x5 (Int32.ofInt 1) (Int32.ofInt 0) hI13x29 (fr_sF rfl (fr_sI rfl (fr_sF rfl (fr_sI rfl fr_rf)))) (in_w 0 1000000 i17x5 rfl) (in_w 1 1000000 (in_c 1 rfl) rfl) (in_w 0 7 (in_c 0 rfl) rfl) (m_in 8 (in_w 0 7 (in_c 0 rfl) rfl) rfl)))

def fm_181_76_2 : FM := ([77, 78], [79], [(76, 0)], [])
/-- GraphHouse$Trees.copyArcs -/
theorem k_181_76_2 {Z : AmZ} {A : Nat → Nat} {s : GS} {ex : va_W} {d : Nat} {X : AmX}  (hd : 3 ≤ d) (hI : Inv s) (q_0 : KN (s.1 4) (s.1 5) (s.2.2.1 2 1)) : GC Z d 181 [.ref (A 76), .ref (A 2)] (WW Z A s ++ ex) 0 0 (fun v u => ∃ t : GS, Inv t ∧ Fr fm_181_76_2 s t ∧ v = none ∧ u = WW Z A t ++ ex ∧ (AE t (s.2.2.1 2 1).toInt)) X := by
  intro post xp hP hX
  obtain ⟨u_2_3, e_2_3⟩ : ∃ w, w = s.2.2.1 2 3 := ⟨_, rfl⟩
  have ro_2_3 := inv_F hI 0 160 rfl e_2_3
  have ct7 : ∀ (k7 : Nat) (sc7 : GS) (y7_2 : Int32) (w7_76_0 : Int32), Inv sc7 → Fr fm_181_76_2 s sc7 → (In y7_2 0 160) → (w7_76_0 = sc7.2.2.1 76 0) → ((w7_76_0).toInt ≤ (y7_2).toInt) → (AE sc7 (s.2.2.1 2 1).toInt) → 160 - (y7_2).toInt < (k7 : Int) → GG Z (d - 1) 181 post (gx xp) (1 + k7 * 900) 7 (fun j => xlook j [(0, .ref (A 76)), (1, .ref (A 2)), (2, .int y7_2)]) [] (WW Z A sc7 ++ ex) 0 0 := by
    intro k7
    induction k7 with
    | zero => intro sc7 y7_2 w7_76_0 hIc7 hFc7 j7_2 v7_76_0 n7_0 g7_0 mm7; exact m_no mm7 j7_2 rfl
    | succ k7 ih7 =>
      intro sc7 y7_2 w7_76_0 hIc7 hFc7 j7_2 v7_76_0 n7_0 g7_0 mm7
      refine gg_w (M := 1 + k7 * 900 + 900) gws ?_
      refine g_iload_n 8 (gd rfl) rfl rfl ?_
      refine g_aload_n 9 (gd rfl) rfl rfl ?_
      refine g_getI 12 (gd rfl) rfl rfl rfl (fun z9 e9 => ?_)
      have q9 : u_2_3 = z9 := (fr_F e_2_3 hFc7 rfl).trans e9.symm
      subst q9
      refine g_cmp_ge 15 85 (gd rfl) rfl rfl (fun c12 => ?_) (fun c12 => ?_)
      · skip
        have n85 : AE sc7 (s.2.2.1 2 1).toInt := by exact g7_0
        exact g_return (gd rfl) rfl (hP _ _ ⟨sc7, hIc7, hFc7, rfl, rfl, n85⟩)
      · skip
        have i12 := r_lt1 0 159 c12 j7_2 ro_2_3 rfl
        have i12a := r_lt2 1 160 c12 j7_2 ro_2_3 rfl
        refine g_aload_n 16 (gd rfl) rfl rfl ?_
        refine g_iload_n 17 (gd rfl) rfl rfl ?_
        refine g_callv (X := _) (As := [.int y7_2]) (r := []) (b := A 2) (q := 2) 20 (gd rfl) rfl rfl rfl rfl rfl (ww_o rfl) (Nat.le_of_ble_eq_true rfl) (mc := 0) (ms := 0) (Nat.zero_le _) (Nat.zero_le _) (P := fun v u => _) ?_ (fun e u h => h) (fun v u h => h)
        intro po17 xx17 hp17 hx17
        refine g_enter2 (k := 97) (N := 300) (by first | exact dq1 hd rfl | exact dq0 hd rfl | exact dq2 hd rfl | exact dq3 hd rfl | omega) rfl (Nat.le_of_ble_eq_true rfl) ?_
        refine g_aload_n 1 (gd rfl) rfl rfl ?_
        refine g_getA (q2 := 4) 4 (gd rfl) rfl rfl rfl rfl ?_
        refine g_iload_n 5 (gd rfl) rfl rfl ?_
        refine g_iaload 6 (gd rfl) rfl (n := 160) rfl (in_ix i12 rfl) (fun z17x5 e17x5 => ?_)
        have i17x5 := inv_I hIc7 (n := 160) (t := 0) (-1) 31 rfl (in_ix i12 rfl) rfl e17x5
        refine g_iconst (-1) 7 (gd rfl) rfl rfl ?_
        refine g_cmp_eq 10 29 (gd rfl) rfl rfl (fun c17x7 => ?_) (fun c17x7 => ?_)
        · skip
          have i17x7 := r_eq1 (-1) (-1) c17x7 i17x5 (in_c (-1) rfl) rfl
          refine g_iconst 0 30 (gd rfl) rfl rfl ?_
          refine g_ireturn (gd rfl) rfl (nb01 (in_w 0 1 (in_c 0 rfl) rfl)) (hp17 _ _ ?_)
          show GG _ _ _ _ _ _ _ _ [.int (Int32.ofInt 0)] _ _ _
          refine g_if_eq 23 79 (gd rfl) rfl rfl (fun c20 => ?_) (fun c20 => ?_)
          · skip
            refine g_iinc 82 (gd rfl) rfl rfl (Nat.le_of_ble_eq_true rfl) (fun z79 e79 => ?_)
            have i79 := in_add 1 160 e79 i12 (in_c 1 rfl) rfl rfl
            refine g_goto 7 (gd rfl) rfl ?_
            have n7 : (w7_76_0).toInt ≤ (z79).toInt := by (first | have a0 := oa4 i12a ((inv_F hIc7 0 160 rfl v7_76_0)) i12 i79 | ((first | have a0 := in_u i12a | (have a0 := i12a; unfold In at a0)); (first | have a1 := in_u ((inv_F hIc7 0 160 rfl v7_76_0)) | (have a1 := (inv_F hIc7 0 160 rfl v7_76_0); unfold In at a1)); (first | have a2 := in_u i12 | (have a2 := i12; unfold In at a2)); (first | have a3 := in_u i79 | (have a3 := i79; unfold In at a3)))); have a4 := t_add e79 i12 (in_c 1 rfl) rfl; (first | have a5 := in_u ((in_c 1 rfl)) | (have a5 := (in_c 1 rfl); unfold In at a5)); omega
            have n7a : AE sc7 (s.2.2.1 2 1).toInt := by exact g7_0
            exact gg_w (by first | exact Nat.le_add_right _ _ | exact gw2 | exact gw3 | exact gwe rfl | exact gwf rfl | exact gwg rfl | exact gwh rfl | omega) (gg_f (gf_cons rfl (gf_cons rfl (gf_cons rfl gf_nil))) (ih7 sc7 z79 w7_76_0 hIc7 hFc7 (in_w 0 160 i79 rfl) v7_76_0 n7 n7a (m_up mm7 (t_add e79 i12 (in_c 1 rfl) rfl) (in_w 1 1 (in_c 1 rfl) rfl))))
          · skip
            exact zn_ne c20 (in_c 0 rfl) rfl
        · skip
          have i17x7 := r_ne1 0 31 c17x7 i17x5 (in_c (-1) rfl) rfl
          refine g_aload_n 11 (gd rfl) rfl rfl ?_
          refine g_getA (q2 := 4) 14 (gd rfl) rfl rfl rfl rfl ?_
          refine g_iload_n 15 (gd rfl) rfl rfl ?_
          refine g_iaload 16 (gd rfl) rfl (n := 160) rfl (in_ix i12 rfl) (fun z17x15 e17x15 => ?_)
          have q17x15 : z17x5 = z17x15 := (e17x5).trans e17x15.symm
          subst q17x15
          refine g_aload_n 17 (gd rfl) rfl rfl ?_
          refine g_getA (q2 := 5) 20 (gd rfl) rfl rfl rfl rfl ?_
          refine g_iload_n 21 (gd rfl) rfl rfl ?_
          refine g_iaload 22 (gd rfl) rfl (n := 160) rfl (in_ix i12 rfl) (fun z17x21 e17x21 => ?_)
          have i17x21 := inv_I hIc7 (n := 160) (t := 0) 0 31 rfl (in_ix i12 rfl) rfl e17x21
          refine g_cmp_eq 25 29 (gd rfl) rfl rfl (fun c17x22 => ?_) (fun c17x22 => ?_)
          · skip
            refine g_iconst 0 30 (gd rfl) rfl rfl ?_
            refine g_ireturn (gd rfl) rfl (nb01 (in_w 0 1 (in_c 0 rfl) rfl)) (hp17 _ _ ?_)
            show GG _ _ _ _ _ _ _ _ [.int (Int32.ofInt 0)] _ _ _
            refine g_if_eq 23 79 (gd rfl) rfl rfl (fun c20 => ?_) (fun c20 => ?_)
            · skip
              refine g_iinc 82 (gd rfl) rfl rfl (Nat.le_of_ble_eq_true rfl) (fun z79 e79 => ?_)
              have i79 := in_add 1 160 e79 i12 (in_c 1 rfl) rfl rfl
              refine g_goto 7 (gd rfl) rfl ?_
              have n7 : (w7_76_0).toInt ≤ (z79).toInt := by (first | have a0 := oa4 i12a ((inv_F hIc7 0 160 rfl v7_76_0)) i12 i79 | ((first | have a0 := in_u i12a | (have a0 := i12a; unfold In at a0)); (first | have a1 := in_u ((inv_F hIc7 0 160 rfl v7_76_0)) | (have a1 := (inv_F hIc7 0 160 rfl v7_76_0); unfold In at a1)); (first | have a2 := in_u i12 | (have a2 := i12; unfold In at a2)); (first | have a3 := in_u i79 | (have a3 := i79; unfold In at a3)))); have a4 := t_add e79 i12 (in_c 1 rfl) rfl; (first | have a5 := in_u ((in_c 1 rfl)) | (have a5 := (in_c 1 rfl); unfold In at a5)); omega
              have n7a : AE sc7 (s.2.2.1 2 1).toInt := by exact g7_0
              exact gg_w (by first | exact Nat.le_add_right _ _ | exact gw2 | exact gw3 | exact gwe rfl | exact gwf rfl | exact gwg rfl | exact gwh rfl | omega) (gg_f (gf_cons rfl (gf_cons rfl (gf_cons rfl gf_nil))) (ih7 sc7 z79 w7_76_0 hIc7 hFc7 (in_w 0 160 i79 rfl) v7_76_0 n7 n7a (m_up mm7 (t_add e79 i12 (in_c 1 rfl) rfl) (in_w 1 1 (in_c 1 rfl) rfl))))
            · skip
              exact zn_ne c20 (in_c 0 rfl) rfl
          · skip
            refine g_iconst 1 26 (gd rfl) rfl rfl ?_
            refine g_goto 30 (gd rfl) rfl ?_
            refine g_ireturn (gd rfl) rfl (nb01 (in_w 0 1 (in_c 1 rfl) rfl)) (hp17 _ _ ?_)
            show GG _ _ _ _ _ _ _ _ [.int (Int32.ofInt 1)] _ _ _
            refine g_if_eq 23 79 (gd rfl) rfl rfl (fun c20 => ?_) (fun c20 => ?_)
            · skip
              exact zn_eq c20 (in_c 1 rfl) rfl
            · skip
              refine g_aload_n 24 (gd rfl) rfl rfl ?_
              refine g_getA (q2 := 77) 27 (gd rfl) rfl rfl rfl rfl ?_
              refine g_aload_n 28 (gd rfl) rfl rfl ?_
              refine g_getI 31 (gd rfl) rfl rfl rfl (fun z28 e28 => ?_)
              have q28 : w7_76_0 = z28 := (v7_76_0).trans e28.symm
              subst q28
              refine g_aload_n 32 (gd rfl) rfl rfl ?_
              refine g_getA (q2 := 4) 35 (gd rfl) rfl rfl rfl rfl ?_
              refine g_iload_n 36 (gd rfl) rfl rfl ?_
              refine g_iaload 37 (gd rfl) rfl (n := 160) rfl (in_ix i12 rfl) (fun z36 e36 => ?_)
              have q36 : z17x5 = z36 := (e17x5).trans e36.symm
              subst q36
              have i37 : In w7_76_0 0 159 := by (first | have a0 := oa3 i12a ((inv_F hIc7 0 160 rfl v7_76_0)) i12 | ((first | have a0 := in_u i12a | (have a0 := i12a; unfold In at a0)); (first | have a1 := in_u ((inv_F hIc7 0 160 rfl v7_76_0)) | (have a1 := (inv_F hIc7 0 160 rfl v7_76_0); unfold In at a1)); (first | have a2 := in_u i12 | (have a2 := i12; unfold In at a2)))); exact ⟨by omega, by omega⟩
              refine g_iastore 38 (gd rfl) rfl (n := 160) rfl (in_ix i37 rfl) ?_
              have hI37 := inv_sI (q := 77) (j := w7_76_0.toNatClampNeg) hIc7 rfl (in_w 0 31 i17x7 rfl)
              refine g_aload_n 39 (gd rfl) rfl rfl ?_
              refine g_getA (q2 := 78) 42 (gd rfl) rfl rfl rfl rfl ?_
              refine g_aload_n 43 (gd rfl) rfl rfl ?_
              refine g_getI 46 (gd rfl) rfl rfl rfl (fun z43 e43 => ?_)
              have q43 : w7_76_0 = z43 := (sI_F (v7_76_0)).trans e43.symm
              subst q43
              refine g_aload_n 47 (gd rfl) rfl rfl ?_
              refine g_getA (q2 := 5) 50 (gd rfl) rfl rfl rfl rfl ?_
              refine g_iload_n 51 (gd rfl) rfl rfl ?_
              refine g_iaload 52 (gd rfl) rfl (n := 160) rfl (in_ix i12 rfl) (fun z51 e51 => ?_)
              have q51 : z17x21 = z51 := (sI_ne rfl (e17x21)).trans e51.symm
              subst q51
              refine g_iastore 53 (gd rfl) rfl (n := 160) rfl (in_ix i37 rfl) ?_
              have hI52 := inv_sI (q := 78) (j := w7_76_0.toNatClampNeg) hI37 rfl (in_w 0 31 i17x21 rfl)
              refine g_aload_n 54 (gd rfl) rfl rfl ?_
              refine g_getA (q2 := 79) 57 (gd rfl) rfl rfl rfl rfl ?_
              refine g_aload_n 58 (gd rfl) rfl rfl ?_
              refine g_getI 61 (gd rfl) rfl rfl rfl (fun z58 e58 => ?_)
              have q58 : w7_76_0 = z58 := (sI_F (sI_F (v7_76_0))).trans e58.symm
              subst q58
              refine g_aload_n 62 (gd rfl) rfl rfl ?_
              refine g_getA (q2 := 6) 65 (gd rfl) rfl rfl rfl rfl ?_
              refine g_iload_n 66 (gd rfl) rfl rfl ?_
              refine g_iaload 67 (gd rfl) rfl (n := 160) rfl (in_ix i12 rfl) (fun z66 e66 => ?_)
              have i66 := inv_I hI52 (n := 160) (t := 0) (-1000000) 1000000 rfl (in_ix i12 rfl) rfl e66
              refine g_i2l 68 (gd rfl) rfl (fun z67 e67 => ?_)
              have i67 := l_i e67 i66
              refine g_lastore 69 (gd rfl) rfl (n := 160) rfl (in_ix i37 rfl) ?_
              have hI68 := inv_sL (q := 79) (j := w7_76_0.toNatClampNeg) (x := z67) hI52 rfl (l_rng z67)
              refine g_aload_n 70 (gd rfl) rfl rfl ?_
              refine g_dup 71 (gd rfl) rfl rfl ?_
              refine g_getI 74 (gd rfl) rfl rfl rfl (fun z71 e71 => ?_)
              have q71 : w7_76_0 = z71 := (sL_F (sI_F (sI_F (v7_76_0)))).trans e71.symm
              subst q71
              refine g_iconst 1 75 (gd rfl) rfl rfl ?_
              refine g_iadd 76 (gd rfl) rfl (fun z75 e75 => ?_)
              have i75 := in_add 1 160 e75 i37 (in_c 1 rfl) rfl rfl
              refine g_putI 79 (gd rfl) rfl rfl rfl rfl ?_
              have hI76 := inv_sF (q := 76) (j := 0) hI68 rfl (in_w 0 160 i75 rfl)
              refine g_iinc 82 (gd rfl) rfl rfl (Nat.le_of_ble_eq_true rfl) (fun z79 e79 => ?_)
              have i79 := in_add 1 160 e79 i12 (in_c 1 rfl) rfl rfl
              refine g_goto 7 (gd rfl) rfl ?_
              have v7 : z75 = (sF (sL (sI (sI sc7 77 w7_76_0.toNatClampNeg z17x5) 78 w7_76_0.toNatClampNeg z17x21) 79 w7_76_0.toNatClampNeg z67) 76 0 z75).2.2.1 76 0 := sF_get
              have n7 : (z75).toInt ≤ (z79).toInt := by (first | have a0 := oa4 i12a i37 i12 i79 | ((first | have a0 := in_u i12a | (have a0 := i12a; unfold In at a0)); (first | have a1 := in_u i37 | (have a1 := i37; unfold In at a1)); (first | have a2 := in_u i12 | (have a2 := i12; unfold In at a2)); (first | have a3 := in_u i79 | (have a3 := i79; unfold In at a3)))); have a4 := t_add e79 i12 (in_c 1 rfl) rfl; (first | have a5 := oa2 ((in_c 1 rfl)) i75 | ((first | have a5 := in_u ((in_c 1 rfl)) | (have a5 := (in_c 1 rfl); unfold In at a5)); (first | have a6 := in_u i75 | (have a6 := i75; unfold In at a6)))); have a7 := t_add e75 i37 (in_c 1 rfl) rfl; have a8 := tx_i2l e67; (first | have a9 := in_u i66 | (have a9 := i66; unfold In at a9)); omega
              have n7a : AE (sF (sL (sI (sI sc7 77 w7_76_0.toNatClampNeg z17x5) 78 w7_76_0.toNatClampNeg z17x21) 79 w7_76_0.toNatClampNeg z67) 76 0 z75) (s.2.2.1 2 1).toInt := by have hk := q_0 (y7_2).toNatClampNeg (by show (y7_2).toInt.toNat < 160; (first | have a0 := oa4 i12a i37 i12 i79 | ((first | have a0 := in_u i12a | (have a0 := i12a; unfold In at a0)); (first | have a1 := in_u i37 | (have a1 := i37; unfold In at a1)); (first | have a2 := in_u i12 | (have a2 := i12; unfold In at a2)); (first | have a3 := in_u i79 | (have a3 := i79; unfold In at a3)))); have a4 := t_add e79 i12 (in_c 1 rfl) rfl; (first | have a5 := oa2 ((in_c 1 rfl)) i75 | ((first | have a5 := in_u ((in_c 1 rfl)) | (have a5 := (in_c 1 rfl); unfold In at a5)); (first | have a6 := in_u i75 | (have a6 := i75; unfold In at a6)))); have a7 := t_add e75 i37 (in_c 1 rfl) rfl; have a8 := tx_i2l e67; (first | have a9 := in_u i66 | (have a9 := i66; unfold In at a9)); (first | exact zt_l (by decide) (by omega) | omega)); rw [← hFc7.1 4 rfl, ← hFc7.1 5 rfl, ← e17x5, ← e17x21] at hk; rcases hk with hk | hk; (exact absurd (hk.trans (by decide)) c17x7); exact ae_add g7_0 v7_76_0 (inv_F hIc7 0 160 rfl v7_76_0).1 (by show (sI (sI sc7 77 w7_76_0.toNatClampNeg z17x5) 78 w7_76_0.toNatClampNeg z17x21).1 77 = _; rw [sI_r rfl, sI_q]) (by show (sI (sI sc7 77 w7_76_0.toNatClampNeg z17x5) 78 w7_76_0.toNatClampNeg z17x21).1 78 = _; rw [sI_q, sI_r rfl]) (by rw [← (show z75 = (sF (sL (sI (sI sc7 77 w7_76_0.toNatClampNeg z17x5) 78 w7_76_0.toNatClampNeg z17x21) 79 w7_76_0.toNatClampNeg z67) 76 0 z75).2.2.1 76 0 from sF_get)]; (first | have a0 := oa4 i12a i37 i12 i79 | ((first | have a0 := in_u i12a | (have a0 := i12a; unfold In at a0)); (first | have a1 := in_u i37 | (have a1 := i37; unfold In at a1)); (first | have a2 := in_u i12 | (have a2 := i12; unfold In at a2)); (first | have a3 := in_u i79 | (have a3 := i79; unfold In at a3)))); have a4 := t_add e79 i12 (in_c 1 rfl) rfl; (first | have a5 := oa2 ((in_c 1 rfl)) i75 | ((first | have a5 := in_u ((in_c 1 rfl)) | (have a5 := (in_c 1 rfl); unfold In at a5)); (first | have a6 := in_u i75 | (have a6 := i75; unfold In at a6)))); have a7 := t_add e75 i37 (in_c 1 rfl) rfl; have a8 := tx_i2l e67; (first | have a9 := in_u i66 | (have a9 := i66; unfold In at a9)); omega) hk.1 hk.2
              exact gg_w (by first | exact Nat.le_add_right _ _ | exact gw2 | exact gw3 | exact gwe rfl | exact gwf rfl | exact gwg rfl | exact gwh rfl | omega) (gg_f (gf_cons rfl (gf_cons rfl (gf_cons rfl gf_nil))) (ih7 (sF (sL (sI (sI sc7 77 w7_76_0.toNatClampNeg z17x5) 78 w7_76_0.toNatClampNeg z17x21) 79 w7_76_0.toNatClampNeg z67) 76 0 z75) z79 z75 hI76 (fr_sF rfl (fr_sL rfl (fr_sI rfl (fr_sI rfl hFc7)))) (in_w 0 160 i79 rfl) v7 n7 n7a (m_up mm7 (t_add e79 i12 (in_c 1 rfl) rfl) (in_w 1 1 (in_c 1 rfl) rfl))))
  refine g_enter2 (k := 181) (N := 145801) (by first | exact dq1 hd rfl | exact dq0 hd rfl | exact dq2 hd rfl | exact dq3 hd rfl | omega) rfl (Nat.le_of_ble_eq_true rfl) ?_
  refine g_aload_n 1 (gd rfl) rfl rfl ?_
  refine g_iconst 0 2 (gd rfl) rfl rfl ?_
  refine g_putI 5 (gd rfl) rfl rfl rfl rfl ?_
  have hI2 := inv_sF (q := 76) (j := 0) hI rfl (in_w 0 160 (in_c 0 rfl) rfl)
  refine g_iconst 0 6 (gd rfl) rfl rfl ?_
  refine g_istore_n 7 (gd rfl) rfl (Nat.le_of_ble_eq_true rfl) ?_
  have v7 : (Int32.ofInt 0) = (sF s 76 0 (Int32.ofInt 0)).2.2.1 76 0 := sF_get
  have n7 : ((Int32.ofInt 0)).toInt ≤ ((Int32.ofInt 0)).toInt := by exact Int.le_refl _
  have n7a : AE (sF s 76 0 (Int32.ofInt 0)) (s.2.2.1 2 1).toInt := by exact ae_0 (by rw [← (show (Int32.ofInt 0) = (sF s 76 0 (Int32.ofInt 0)).2.2.1 76 0 from sF_get)]; decide)
  exact gg_w (by first | exact Nat.le_of_ble_eq_true rfl | omega) (gg_f (gf_cons rfl (gf_cons rfl (gf_cons rfl gf_nil))) (ct7 161 (sF s 76 0 (Int32.ofInt 0)) (Int32.ofInt 0) (Int32.ofInt 0) hI2 (fr_sF rfl fr_rf) (in_w 0 160 (in_c 0 rfl) rfl) v7 n7 n7a (m_in 161 (in_w 0 160 (in_c 0 rfl) rfl) rfl)))

def fm_181_76_32 : FM := ([77, 78], [79], [(76, 0)], [])
/-- GraphHouse$Trees.copyArcs -/
theorem k_181_76_32 {Z : AmZ} {A : Nat → Nat} {s : GS} {ex : va_W} {d : Nat} {X : AmX}  (hd : 3 ≤ d) (hI : Inv s) (q_0 : KN (s.1 34) (s.1 35) (s.2.2.1 32 1)) : GC Z d 181 [.ref (A 76), .ref (A 32)] (WW Z A s ++ ex) 0 0 (fun v u => ∃ t : GS, Inv t ∧ Fr fm_181_76_32 s t ∧ v = none ∧ u = WW Z A t ++ ex ∧ (AE t (s.2.2.1 32 1).toInt)) X := by
  intro post xp hP hX
  obtain ⟨u_32_3, e_32_3⟩ : ∃ w, w = s.2.2.1 32 3 := ⟨_, rfl⟩
  have ro_32_3 := inv_F hI 0 160 rfl e_32_3
  have ct7 : ∀ (k7 : Nat) (sc7 : GS) (y7_2 : Int32) (w7_76_0 : Int32), Inv sc7 → Fr fm_181_76_32 s sc7 → (In y7_2 0 160) → (w7_76_0 = sc7.2.2.1 76 0) → ((w7_76_0).toInt ≤ (y7_2).toInt) → (AE sc7 (s.2.2.1 32 1).toInt) → 160 - (y7_2).toInt < (k7 : Int) → GG Z (d - 1) 181 post (gx xp) (1 + k7 * 900) 7 (fun j => xlook j [(0, .ref (A 76)), (1, .ref (A 32)), (2, .int y7_2)]) [] (WW Z A sc7 ++ ex) 0 0 := by
    intro k7
    induction k7 with
    | zero => intro sc7 y7_2 w7_76_0 hIc7 hFc7 j7_2 v7_76_0 n7_0 g7_0 mm7; exact m_no mm7 j7_2 rfl
    | succ k7 ih7 =>
      intro sc7 y7_2 w7_76_0 hIc7 hFc7 j7_2 v7_76_0 n7_0 g7_0 mm7
      refine gg_w (M := 1 + k7 * 900 + 900) gws ?_
      refine g_iload_n 8 (gd rfl) rfl rfl ?_
      refine g_aload_n 9 (gd rfl) rfl rfl ?_
      refine g_getI 12 (gd rfl) rfl rfl rfl (fun z9 e9 => ?_)
      have q9 : u_32_3 = z9 := (fr_F e_32_3 hFc7 rfl).trans e9.symm
      subst q9
      refine g_cmp_ge 15 85 (gd rfl) rfl rfl (fun c12 => ?_) (fun c12 => ?_)
      · skip
        have n85 : AE sc7 (s.2.2.1 32 1).toInt := by exact g7_0
        exact g_return (gd rfl) rfl (hP _ _ ⟨sc7, hIc7, hFc7, rfl, rfl, n85⟩)
      · skip
        have i12 := r_lt1 0 159 c12 j7_2 ro_32_3 rfl
        have i12a := r_lt2 1 160 c12 j7_2 ro_32_3 rfl
        refine g_aload_n 16 (gd rfl) rfl rfl ?_
        refine g_iload_n 17 (gd rfl) rfl rfl ?_
        refine g_callv (X := _) (As := [.int y7_2]) (r := []) (b := A 32) (q := 32) 20 (gd rfl) rfl rfl rfl rfl rfl (ww_o rfl) (Nat.le_of_ble_eq_true rfl) (mc := 0) (ms := 0) (Nat.zero_le _) (Nat.zero_le _) (P := fun v u => _) ?_ (fun e u h => h) (fun v u h => h)
        intro po17 xx17 hp17 hx17
        refine g_enter2 (k := 97) (N := 300) (by first | exact dq1 hd rfl | exact dq0 hd rfl | exact dq2 hd rfl | exact dq3 hd rfl | omega) rfl (Nat.le_of_ble_eq_true rfl) ?_
        refine g_aload_n 1 (gd rfl) rfl rfl ?_
        refine g_getA (q2 := 34) 4 (gd rfl) rfl rfl rfl rfl ?_
        refine g_iload_n 5 (gd rfl) rfl rfl ?_
        refine g_iaload 6 (gd rfl) rfl (n := 160) rfl (in_ix i12 rfl) (fun z17x5 e17x5 => ?_)
        have i17x5 := inv_I hIc7 (n := 160) (t := 0) (-1) 31 rfl (in_ix i12 rfl) rfl e17x5
        refine g_iconst (-1) 7 (gd rfl) rfl rfl ?_
        refine g_cmp_eq 10 29 (gd rfl) rfl rfl (fun c17x7 => ?_) (fun c17x7 => ?_)
        · skip
          have i17x7 := r_eq1 (-1) (-1) c17x7 i17x5 (in_c (-1) rfl) rfl
          refine g_iconst 0 30 (gd rfl) rfl rfl ?_
          refine g_ireturn (gd rfl) rfl (nb01 (in_w 0 1 (in_c 0 rfl) rfl)) (hp17 _ _ ?_)
          show GG _ _ _ _ _ _ _ _ [.int (Int32.ofInt 0)] _ _ _
          refine g_if_eq 23 79 (gd rfl) rfl rfl (fun c20 => ?_) (fun c20 => ?_)
          · skip
            refine g_iinc 82 (gd rfl) rfl rfl (Nat.le_of_ble_eq_true rfl) (fun z79 e79 => ?_)
            have i79 := in_add 1 160 e79 i12 (in_c 1 rfl) rfl rfl
            refine g_goto 7 (gd rfl) rfl ?_
            have n7 : (w7_76_0).toInt ≤ (z79).toInt := by (first | have a0 := oa4 i12a ((inv_F hIc7 0 160 rfl v7_76_0)) i12 i79 | ((first | have a0 := in_u i12a | (have a0 := i12a; unfold In at a0)); (first | have a1 := in_u ((inv_F hIc7 0 160 rfl v7_76_0)) | (have a1 := (inv_F hIc7 0 160 rfl v7_76_0); unfold In at a1)); (first | have a2 := in_u i12 | (have a2 := i12; unfold In at a2)); (first | have a3 := in_u i79 | (have a3 := i79; unfold In at a3)))); have a4 := t_add e79 i12 (in_c 1 rfl) rfl; (first | have a5 := in_u ((in_c 1 rfl)) | (have a5 := (in_c 1 rfl); unfold In at a5)); omega
            have n7a : AE sc7 (s.2.2.1 32 1).toInt := by exact g7_0
            exact gg_w (by first | exact Nat.le_add_right _ _ | exact gw2 | exact gw3 | exact gwe rfl | exact gwf rfl | exact gwg rfl | exact gwh rfl | omega) (gg_f (gf_cons rfl (gf_cons rfl (gf_cons rfl gf_nil))) (ih7 sc7 z79 w7_76_0 hIc7 hFc7 (in_w 0 160 i79 rfl) v7_76_0 n7 n7a (m_up mm7 (t_add e79 i12 (in_c 1 rfl) rfl) (in_w 1 1 (in_c 1 rfl) rfl))))
          · skip
            exact zn_ne c20 (in_c 0 rfl) rfl
        · skip
          have i17x7 := r_ne1 0 31 c17x7 i17x5 (in_c (-1) rfl) rfl
          refine g_aload_n 11 (gd rfl) rfl rfl ?_
          refine g_getA (q2 := 34) 14 (gd rfl) rfl rfl rfl rfl ?_
          refine g_iload_n 15 (gd rfl) rfl rfl ?_
          refine g_iaload 16 (gd rfl) rfl (n := 160) rfl (in_ix i12 rfl) (fun z17x15 e17x15 => ?_)
          have q17x15 : z17x5 = z17x15 := (e17x5).trans e17x15.symm
          subst q17x15
          refine g_aload_n 17 (gd rfl) rfl rfl ?_
          refine g_getA (q2 := 35) 20 (gd rfl) rfl rfl rfl rfl ?_
          refine g_iload_n 21 (gd rfl) rfl rfl ?_
          refine g_iaload 22 (gd rfl) rfl (n := 160) rfl (in_ix i12 rfl) (fun z17x21 e17x21 => ?_)
          have i17x21 := inv_I hIc7 (n := 160) (t := 0) 0 31 rfl (in_ix i12 rfl) rfl e17x21
          refine g_cmp_eq 25 29 (gd rfl) rfl rfl (fun c17x22 => ?_) (fun c17x22 => ?_)
          · skip
            refine g_iconst 0 30 (gd rfl) rfl rfl ?_
            refine g_ireturn (gd rfl) rfl (nb01 (in_w 0 1 (in_c 0 rfl) rfl)) (hp17 _ _ ?_)
            show GG _ _ _ _ _ _ _ _ [.int (Int32.ofInt 0)] _ _ _
            refine g_if_eq 23 79 (gd rfl) rfl rfl (fun c20 => ?_) (fun c20 => ?_)
            · skip
              refine g_iinc 82 (gd rfl) rfl rfl (Nat.le_of_ble_eq_true rfl) (fun z79 e79 => ?_)
              have i79 := in_add 1 160 e79 i12 (in_c 1 rfl) rfl rfl
              refine g_goto 7 (gd rfl) rfl ?_
              have n7 : (w7_76_0).toInt ≤ (z79).toInt := by (first | have a0 := oa4 i12a ((inv_F hIc7 0 160 rfl v7_76_0)) i12 i79 | ((first | have a0 := in_u i12a | (have a0 := i12a; unfold In at a0)); (first | have a1 := in_u ((inv_F hIc7 0 160 rfl v7_76_0)) | (have a1 := (inv_F hIc7 0 160 rfl v7_76_0); unfold In at a1)); (first | have a2 := in_u i12 | (have a2 := i12; unfold In at a2)); (first | have a3 := in_u i79 | (have a3 := i79; unfold In at a3)))); have a4 := t_add e79 i12 (in_c 1 rfl) rfl; (first | have a5 := in_u ((in_c 1 rfl)) | (have a5 := (in_c 1 rfl); unfold In at a5)); omega
              have n7a : AE sc7 (s.2.2.1 32 1).toInt := by exact g7_0
              exact gg_w (by first | exact Nat.le_add_right _ _ | exact gw2 | exact gw3 | exact gwe rfl | exact gwf rfl | exact gwg rfl | exact gwh rfl | omega) (gg_f (gf_cons rfl (gf_cons rfl (gf_cons rfl gf_nil))) (ih7 sc7 z79 w7_76_0 hIc7 hFc7 (in_w 0 160 i79 rfl) v7_76_0 n7 n7a (m_up mm7 (t_add e79 i12 (in_c 1 rfl) rfl) (in_w 1 1 (in_c 1 rfl) rfl))))
            · skip
              exact zn_ne c20 (in_c 0 rfl) rfl
          · skip
            refine g_iconst 1 26 (gd rfl) rfl rfl ?_
            refine g_goto 30 (gd rfl) rfl ?_
            refine g_ireturn (gd rfl) rfl (nb01 (in_w 0 1 (in_c 1 rfl) rfl)) (hp17 _ _ ?_)
            show GG _ _ _ _ _ _ _ _ [.int (Int32.ofInt 1)] _ _ _
            refine g_if_eq 23 79 (gd rfl) rfl rfl (fun c20 => ?_) (fun c20 => ?_)
            · skip
              exact zn_eq c20 (in_c 1 rfl) rfl
            · skip
              refine g_aload_n 24 (gd rfl) rfl rfl ?_
              refine g_getA (q2 := 77) 27 (gd rfl) rfl rfl rfl rfl ?_
              refine g_aload_n 28 (gd rfl) rfl rfl ?_
              refine g_getI 31 (gd rfl) rfl rfl rfl (fun z28 e28 => ?_)
              have q28 : w7_76_0 = z28 := (v7_76_0).trans e28.symm
              subst q28
              refine g_aload_n 32 (gd rfl) rfl rfl ?_
              refine g_getA (q2 := 34) 35 (gd rfl) rfl rfl rfl rfl ?_
              refine g_iload_n 36 (gd rfl) rfl rfl ?_
              refine g_iaload 37 (gd rfl) rfl (n := 160) rfl (in_ix i12 rfl) (fun z36 e36 => ?_)
              have q36 : z17x5 = z36 := (e17x5).trans e36.symm
              subst q36
              have i37 : In w7_76_0 0 159 := by (first | have a0 := oa3 i12a ((inv_F hIc7 0 160 rfl v7_76_0)) i12 | ((first | have a0 := in_u i12a | (have a0 := i12a; unfold In at a0)); (first | have a1 := in_u ((inv_F hIc7 0 160 rfl v7_76_0)) | (have a1 := (inv_F hIc7 0 160 rfl v7_76_0); unfold In at a1)); (first | have a2 := in_u i12 | (have a2 := i12; unfold In at a2)))); exact ⟨by omega, by omega⟩
              refine g_iastore 38 (gd rfl) rfl (n := 160) rfl (in_ix i37 rfl) ?_
              have hI37 := inv_sI (q := 77) (j := w7_76_0.toNatClampNeg) hIc7 rfl (in_w 0 31 i17x7 rfl)
              refine g_aload_n 39 (gd rfl) rfl rfl ?_
              refine g_getA (q2 := 78) 42 (gd rfl) rfl rfl rfl rfl ?_
              refine g_aload_n 43 (gd rfl) rfl rfl ?_
              refine g_getI 46 (gd rfl) rfl rfl rfl (fun z43 e43 => ?_)
              have q43 : w7_76_0 = z43 := (sI_F (v7_76_0)).trans e43.symm
              subst q43
              refine g_aload_n 47 (gd rfl) rfl rfl ?_
              refine g_getA (q2 := 35) 50 (gd rfl) rfl rfl rfl rfl ?_
              refine g_iload_n 51 (gd rfl) rfl rfl ?_
              refine g_iaload 52 (gd rfl) rfl (n := 160) rfl (in_ix i12 rfl) (fun z51 e51 => ?_)
              have q51 : z17x21 = z51 := (sI_ne rfl (e17x21)).trans e51.symm
              subst q51
              refine g_iastore 53 (gd rfl) rfl (n := 160) rfl (in_ix i37 rfl) ?_
              have hI52 := inv_sI (q := 78) (j := w7_76_0.toNatClampNeg) hI37 rfl (in_w 0 31 i17x21 rfl)
              refine g_aload_n 54 (gd rfl) rfl rfl ?_
              refine g_getA (q2 := 79) 57 (gd rfl) rfl rfl rfl rfl ?_
              refine g_aload_n 58 (gd rfl) rfl rfl ?_
              refine g_getI 61 (gd rfl) rfl rfl rfl (fun z58 e58 => ?_)
              have q58 : w7_76_0 = z58 := (sI_F (sI_F (v7_76_0))).trans e58.symm
              subst q58
              refine g_aload_n 62 (gd rfl) rfl rfl ?_
              refine g_getA (q2 := 36) 65 (gd rfl) rfl rfl rfl rfl ?_
              refine g_iload_n 66 (gd rfl) rfl rfl ?_
              refine g_iaload 67 (gd rfl) rfl (n := 160) rfl (in_ix i12 rfl) (fun z66 e66 => ?_)
              have i66 := inv_I hI52 (n := 160) (t := 0) (-1000000) 1000000 rfl (in_ix i12 rfl) rfl e66
              refine g_i2l 68 (gd rfl) rfl (fun z67 e67 => ?_)
              have i67 := l_i e67 i66
              refine g_lastore 69 (gd rfl) rfl (n := 160) rfl (in_ix i37 rfl) ?_
              have hI68 := inv_sL (q := 79) (j := w7_76_0.toNatClampNeg) (x := z67) hI52 rfl (l_rng z67)
              refine g_aload_n 70 (gd rfl) rfl rfl ?_
              refine g_dup 71 (gd rfl) rfl rfl ?_
              refine g_getI 74 (gd rfl) rfl rfl rfl (fun z71 e71 => ?_)
              have q71 : w7_76_0 = z71 := (sL_F (sI_F (sI_F (v7_76_0)))).trans e71.symm
              subst q71
              refine g_iconst 1 75 (gd rfl) rfl rfl ?_
              refine g_iadd 76 (gd rfl) rfl (fun z75 e75 => ?_)
              have i75 := in_add 1 160 e75 i37 (in_c 1 rfl) rfl rfl
              refine g_putI 79 (gd rfl) rfl rfl rfl rfl ?_
              have hI76 := inv_sF (q := 76) (j := 0) hI68 rfl (in_w 0 160 i75 rfl)
              refine g_iinc 82 (gd rfl) rfl rfl (Nat.le_of_ble_eq_true rfl) (fun z79 e79 => ?_)
              have i79 := in_add 1 160 e79 i12 (in_c 1 rfl) rfl rfl
              refine g_goto 7 (gd rfl) rfl ?_
              have v7 : z75 = (sF (sL (sI (sI sc7 77 w7_76_0.toNatClampNeg z17x5) 78 w7_76_0.toNatClampNeg z17x21) 79 w7_76_0.toNatClampNeg z67) 76 0 z75).2.2.1 76 0 := sF_get
              have n7 : (z75).toInt ≤ (z79).toInt := by (first | have a0 := oa4 i12a i37 i12 i79 | ((first | have a0 := in_u i12a | (have a0 := i12a; unfold In at a0)); (first | have a1 := in_u i37 | (have a1 := i37; unfold In at a1)); (first | have a2 := in_u i12 | (have a2 := i12; unfold In at a2)); (first | have a3 := in_u i79 | (have a3 := i79; unfold In at a3)))); have a4 := t_add e79 i12 (in_c 1 rfl) rfl; (first | have a5 := oa2 ((in_c 1 rfl)) i75 | ((first | have a5 := in_u ((in_c 1 rfl)) | (have a5 := (in_c 1 rfl); unfold In at a5)); (first | have a6 := in_u i75 | (have a6 := i75; unfold In at a6)))); have a7 := t_add e75 i37 (in_c 1 rfl) rfl; have a8 := tx_i2l e67; (first | have a9 := in_u i66 | (have a9 := i66; unfold In at a9)); omega
              have n7a : AE (sF (sL (sI (sI sc7 77 w7_76_0.toNatClampNeg z17x5) 78 w7_76_0.toNatClampNeg z17x21) 79 w7_76_0.toNatClampNeg z67) 76 0 z75) (s.2.2.1 32 1).toInt := by have hk := q_0 (y7_2).toNatClampNeg (by show (y7_2).toInt.toNat < 160; (first | have a0 := oa4 i12a i37 i12 i79 | ((first | have a0 := in_u i12a | (have a0 := i12a; unfold In at a0)); (first | have a1 := in_u i37 | (have a1 := i37; unfold In at a1)); (first | have a2 := in_u i12 | (have a2 := i12; unfold In at a2)); (first | have a3 := in_u i79 | (have a3 := i79; unfold In at a3)))); have a4 := t_add e79 i12 (in_c 1 rfl) rfl; (first | have a5 := oa2 ((in_c 1 rfl)) i75 | ((first | have a5 := in_u ((in_c 1 rfl)) | (have a5 := (in_c 1 rfl); unfold In at a5)); (first | have a6 := in_u i75 | (have a6 := i75; unfold In at a6)))); have a7 := t_add e75 i37 (in_c 1 rfl) rfl; have a8 := tx_i2l e67; (first | have a9 := in_u i66 | (have a9 := i66; unfold In at a9)); (first | exact zt_l (by decide) (by omega) | omega)); rw [← hFc7.1 34 rfl, ← hFc7.1 35 rfl, ← e17x5, ← e17x21] at hk; rcases hk with hk | hk; (exact absurd (hk.trans (by decide)) c17x7); exact ae_add g7_0 v7_76_0 (inv_F hIc7 0 160 rfl v7_76_0).1 (by show (sI (sI sc7 77 w7_76_0.toNatClampNeg z17x5) 78 w7_76_0.toNatClampNeg z17x21).1 77 = _; rw [sI_r rfl, sI_q]) (by show (sI (sI sc7 77 w7_76_0.toNatClampNeg z17x5) 78 w7_76_0.toNatClampNeg z17x21).1 78 = _; rw [sI_q, sI_r rfl]) (by rw [← (show z75 = (sF (sL (sI (sI sc7 77 w7_76_0.toNatClampNeg z17x5) 78 w7_76_0.toNatClampNeg z17x21) 79 w7_76_0.toNatClampNeg z67) 76 0 z75).2.2.1 76 0 from sF_get)]; (first | have a0 := oa4 i12a i37 i12 i79 | ((first | have a0 := in_u i12a | (have a0 := i12a; unfold In at a0)); (first | have a1 := in_u i37 | (have a1 := i37; unfold In at a1)); (first | have a2 := in_u i12 | (have a2 := i12; unfold In at a2)); (first | have a3 := in_u i79 | (have a3 := i79; unfold In at a3)))); have a4 := t_add e79 i12 (in_c 1 rfl) rfl; (first | have a5 := oa2 ((in_c 1 rfl)) i75 | ((first | have a5 := in_u ((in_c 1 rfl)) | (have a5 := (in_c 1 rfl); unfold In at a5)); (first | have a6 := in_u i75 | (have a6 := i75; unfold In at a6)))); have a7 := t_add e75 i37 (in_c 1 rfl) rfl; have a8 := tx_i2l e67; (first | have a9 := in_u i66 | (have a9 := i66; unfold In at a9)); omega) hk.1 hk.2
              exact gg_w (by first | exact Nat.le_add_right _ _ | exact gw2 | exact gw3 | exact gwe rfl | exact gwf rfl | exact gwg rfl | exact gwh rfl | omega) (gg_f (gf_cons rfl (gf_cons rfl (gf_cons rfl gf_nil))) (ih7 (sF (sL (sI (sI sc7 77 w7_76_0.toNatClampNeg z17x5) 78 w7_76_0.toNatClampNeg z17x21) 79 w7_76_0.toNatClampNeg z67) 76 0 z75) z79 z75 hI76 (fr_sF rfl (fr_sL rfl (fr_sI rfl (fr_sI rfl hFc7)))) (in_w 0 160 i79 rfl) v7 n7 n7a (m_up mm7 (t_add e79 i12 (in_c 1 rfl) rfl) (in_w 1 1 (in_c 1 rfl) rfl))))
  refine g_enter2 (k := 181) (N := 145801) (by first | exact dq1 hd rfl | exact dq0 hd rfl | exact dq2 hd rfl | exact dq3 hd rfl | omega) rfl (Nat.le_of_ble_eq_true rfl) ?_
  refine g_aload_n 1 (gd rfl) rfl rfl ?_
  refine g_iconst 0 2 (gd rfl) rfl rfl ?_
  refine g_putI 5 (gd rfl) rfl rfl rfl rfl ?_
  have hI2 := inv_sF (q := 76) (j := 0) hI rfl (in_w 0 160 (in_c 0 rfl) rfl)
  refine g_iconst 0 6 (gd rfl) rfl rfl ?_
  refine g_istore_n 7 (gd rfl) rfl (Nat.le_of_ble_eq_true rfl) ?_
  have v7 : (Int32.ofInt 0) = (sF s 76 0 (Int32.ofInt 0)).2.2.1 76 0 := sF_get
  have n7 : ((Int32.ofInt 0)).toInt ≤ ((Int32.ofInt 0)).toInt := by exact Int.le_refl _
  have n7a : AE (sF s 76 0 (Int32.ofInt 0)) (s.2.2.1 32 1).toInt := by exact ae_0 (by rw [← (show (Int32.ofInt 0) = (sF s 76 0 (Int32.ofInt 0)).2.2.1 76 0 from sF_get)]; decide)
  exact gg_w (by first | exact Nat.le_of_ble_eq_true rfl | omega) (gg_f (gf_cons rfl (gf_cons rfl (gf_cons rfl gf_nil))) (ct7 161 (sF s 76 0 (Int32.ofInt 0)) (Int32.ofInt 0) (Int32.ofInt 0) hI2 (fr_sF rfl fr_rf) (in_w 0 160 (in_c 0 rfl) rfl) v7 n7 n7a (m_in 161 (in_w 0 160 (in_c 0 rfl) rfl) rfl)))

def fm_182_76 : FM := ([81], [80], [], [])
/-- GraphHouse$Trees.takeCheapest -/
theorem k_182_76 {Z : AmZ} {A : Nat → Nat} {s : GS} {ex : va_W} {d : Nat} {X : AmX} {x1 : Int32} {x2 : Int32} (hd : 2 ≤ d) (hI : Inv s) (h1 : In x1 0 32) (h2 : In x2 0 31) : GC Z d 182 [.ref (A 76), .int x1, .int x2] (WW Z A s ++ ex) 0 0 (fun v u => ∃ t : GS, Inv t ∧ Fr fm_182_76 s t ∧ ∃ z : Int32, v = some (.int z) ∧ u = WW Z A t ++ ex ∧ In z 0 1) X := by
  intro post xp hP hX
  obtain ⟨u_76_0, e_76_0⟩ : ∃ w, w = s.2.2.1 76 0 := ⟨_, rfl⟩
  have ro_76_0 := inv_F hI 0 160 rfl e_76_0
  have ct105 : ∀ (k105 : Nat) (sc105 : GS) (y105_3 : Int32), Inv sc105 → Fr fm_182_76 s sc105 → (In y105_3 0 32) → 32 - (y105_3).toInt < (k105 : Int) → GG Z (d - 1) 182 post (gx xp) (1 + k105 * 900) 105 (fun j => xlook j [(0, .ref (A 76)), (1, .int x1), (2, .int x2), (3, .int y105_3)]) [] (WW Z A sc105 ++ ex) 0 0 := by
    intro k105
    induction k105 with
    | zero => intro sc105 y105_3 hIc105 hFc105 j105_3 mm105; exact m_no mm105 j105_3 rfl
    | succ k105 ih105 =>
      intro sc105 y105_3 hIc105 hFc105 j105_3 mm105
      refine gg_w (M := 1 + k105 * 900 + 900) gws ?_
      refine g_iload_n 106 (gd rfl) rfl rfl ?_
      refine g_iload_n 107 (gd rfl) rfl rfl ?_
      refine g_cmp_ge 110 131 (gd rfl) rfl rfl (fun c107 => ?_) (fun c107 => ?_)
      · skip
        refine g_iconst 1 132 (gd rfl) rfl rfl ?_
        exact g_ireturn (gd rfl) rfl (nb01 (in_w 0 1 (in_c 1 rfl) rfl)) (hP _ _ ⟨sc105, hIc105, hFc105, (Int32.ofInt 1), rfl, rfl, in_w 0 1 (in_c 1 rfl) rfl⟩)
      · skip
        have i107 := r_lt1 0 31 c107 j105_3 h1 rfl
        have i107a := r_lt2 1 32 c107 j105_3 h1 rfl
        refine g_aload_n 111 (gd rfl) rfl rfl ?_
        refine g_getA (q2 := 80) 114 (gd rfl) rfl rfl rfl rfl ?_
        refine g_iload_n 115 (gd rfl) rfl rfl ?_
        refine g_laload 116 (gd rfl) rfl (n := 32) rfl (in_ix i107 rfl) (fun z115 e115 => ?_)
        refine g_ldc2_w 9223372036854775807 119 (gd rfl) rfl rfl ?_
        refine g_lcmp 120 (gd rfl) rfl (fun z119 e119 => ?_)
        have i119 := lc_in e119
        refine g_if_ne 123 125 (gd rfl) rfl rfl (fun c120 => ?_) (fun c120 => ?_)
        · skip
          have c120a := lc_ne e119 c120
          have i120 := lr_ne1 (-9223372036854775808) 9223372036854775806 c120a (l_rng z115) (l_c 9223372036854775807 rfl) rfl
          refine g_iinc 128 (gd rfl) rfl rfl (Nat.le_of_ble_eq_true rfl) (fun z125 e125 => ?_)
          have i125 := in_add 1 32 e125 i107 (in_c 1 rfl) rfl rfl
          refine g_goto 105 (gd rfl) rfl ?_
          exact gg_w (by first | exact Nat.le_add_right _ _ | exact gw2 | exact gw3 | exact gwe rfl | exact gwf rfl | exact gwg rfl | exact gwh rfl | omega) (gg_f (gf_cons rfl (gf_cons rfl (gf_cons rfl (gf_cons rfl gf_nil)))) (ih105 sc105 z125 hIc105 hFc105 (in_w 0 32 i125 rfl) (m_up mm105 (t_add e125 i107 (in_c 1 rfl) rfl) (in_w 1 1 (in_c 1 rfl) rfl))))
        · skip
          have i120 := z_eq 0 0 c120 i119 rfl
          have c120a := lc_eq e119 c120
          have i120a := lr_eq1 9223372036854775807 9223372036854775807 c120a (l_rng z115) (l_c 9223372036854775807 rfl) rfl
          refine g_iconst 0 124 (gd rfl) rfl rfl ?_
          exact g_ireturn (gd rfl) rfl (nb01 (in_w 0 1 (in_c 0 rfl) rfl)) (hP _ _ ⟨sc105, hIc105, hFc105, (Int32.ofInt 0), rfl, rfl, in_w 0 1 (in_c 0 rfl) rfl⟩)
  have ct12 : ∀ (k12 : Nat) (sc12 : GS) (y12_3 : Int32), Inv sc12 → Fr fm_182_76 s sc12 → (In y12_3 0 160) → 160 - (y12_3).toInt < (k12 : Int) → GG Z (d - 1) 182 post (gx xp) (29702 + k12 * 900) 12 (fun j => xlook j [(0, .ref (A 76)), (1, .int x1), (2, .int x2), (3, .int y12_3)]) [] (WW Z A sc12 ++ ex) 0 0 := by
    intro k12
    induction k12 with
    | zero => intro sc12 y12_3 hIc12 hFc12 j12_3 mm12; exact m_no mm12 j12_3 rfl
    | succ k12 ih12 =>
      intro sc12 y12_3 hIc12 hFc12 j12_3 mm12
      refine gg_w (M := 29702 + k12 * 900 + 900) gws ?_
      refine g_iload_n 13 (gd rfl) rfl rfl ?_
      refine g_aload_n 14 (gd rfl) rfl rfl ?_
      refine g_getI 17 (gd rfl) rfl rfl rfl (fun z14 e14 => ?_)
      have q14 : u_76_0 = z14 := (fr_F e_76_0 hFc12 rfl).trans e14.symm
      subst q14
      refine g_cmp_ge 20 96 (gd rfl) rfl rfl (fun c17 => ?_) (fun c17 => ?_)
      · skip
        refine g_aload_n 97 (gd rfl) rfl rfl ?_
        refine g_getA (q2 := 80) 100 (gd rfl) rfl rfl rfl rfl ?_
        refine g_iload_n 101 (gd rfl) rfl rfl ?_
        refine g_lconst 0 102 (gd rfl) rfl rfl ?_
        refine g_lastore 103 (gd rfl) rfl (n := 32) rfl (in_ix h2 rfl) ?_
        have hI102 := inv_sL (q := 80) (j := x2.toNatClampNeg) (x := (Int64.ofInt 0)) hIc12 rfl (l_rng (Int64.ofInt 0))
        refine g_iconst 0 104 (gd rfl) rfl rfl ?_
        refine g_istore_n 105 (gd rfl) rfl (Nat.le_of_ble_eq_true rfl) ?_
        exact gg_w (by first | exact Nat.le_add_right _ _ | exact gw2 | exact gw3 | exact gwe rfl | exact gwf rfl | exact gwg rfl | exact gwh rfl | omega) (gg_f (gf_cons rfl (gf_cons rfl (gf_cons rfl (gf_cons rfl gf_nil)))) (ct105 33 (sL sc12 80 x2.toNatClampNeg (Int64.ofInt 0)) (Int32.ofInt 0) hI102 (fr_sL rfl hFc12) (in_w 0 32 (in_c 0 rfl) rfl) (m_in 33 (in_w 0 32 (in_c 0 rfl) rfl) rfl)))
      · skip
        have i17 := r_lt1 0 159 c17 j12_3 ro_76_0 rfl
        have i17a := r_lt2 1 160 c17 j12_3 ro_76_0 rfl
        refine g_aload_n 21 (gd rfl) rfl rfl ?_
        refine g_getA (q2 := 77) 24 (gd rfl) rfl rfl rfl rfl ?_
        refine g_iload_n 25 (gd rfl) rfl rfl ?_
        refine g_iaload 26 (gd rfl) rfl (n := 160) rfl (in_ix i17 rfl) (fun z25 e25 => ?_)
        have i25 := inv_I hIc12 (n := 160) (t := 0) 0 31 rfl (in_ix i17 rfl) rfl e25
        refine g_aload_n 27 (gd rfl) rfl rfl ?_
        refine g_getA (q2 := 78) 30 (gd rfl) rfl rfl rfl rfl ?_
        refine g_iload_n 31 (gd rfl) rfl rfl ?_
        refine g_iaload 32 (gd rfl) rfl (n := 160) rfl (in_ix i17 rfl) (fun z31 e31 => ?_)
        have i31 := inv_I hIc12 (n := 160) (t := 0) 0 31 rfl (in_ix i17 rfl) rfl e31
        refine g_cmp_eq 35 90 (gd rfl) rfl rfl (fun c32 => ?_) (fun c32 => ?_)
        · skip
          refine g_iinc 93 (gd rfl) rfl rfl (Nat.le_of_ble_eq_true rfl) (fun z90 e90 => ?_)
          have i90 := in_add 1 160 e90 i17 (in_c 1 rfl) rfl rfl
          refine g_goto 12 (gd rfl) rfl ?_
          exact gg_w (by first | exact Nat.le_add_right _ _ | exact gw2 | exact gw3 | exact gwe rfl | exact gwf rfl | exact gwg rfl | exact gwh rfl | omega) (gg_f (gf_cons rfl (gf_cons rfl (gf_cons rfl (gf_cons rfl gf_nil)))) (ih12 sc12 z90 hIc12 hFc12 (in_w 0 160 i90 rfl) (m_up mm12 (t_add e90 i17 (in_c 1 rfl) rfl) (in_w 1 1 (in_c 1 rfl) rfl))))
        · skip
          refine g_aload_n 36 (gd rfl) rfl rfl ?_
          refine g_getA (q2 := 79) 39 (gd rfl) rfl rfl rfl rfl ?_
          refine g_iload_n 40 (gd rfl) rfl rfl ?_
          refine g_laload 41 (gd rfl) rfl (n := 160) rfl (in_ix i17 rfl) (fun z40 e40 => ?_)
          refine g_aload_n 42 (gd rfl) rfl rfl ?_
          refine g_getA (q2 := 80) 45 (gd rfl) rfl rfl rfl rfl ?_
          refine g_aload_n 46 (gd rfl) rfl rfl ?_
          refine g_getA (q2 := 78) 49 (gd rfl) rfl rfl rfl rfl ?_
          refine g_iload_n 50 (gd rfl) rfl rfl ?_
          refine g_iaload 51 (gd rfl) rfl (n := 160) rfl (in_ix i17 rfl) (fun z50 e50 => ?_)
          have q50 : z31 = z50 := (e31).trans e50.symm
          subst q50
          refine g_laload 52 (gd rfl) rfl (n := 32) rfl (in_ix i31 rfl) (fun z51 e51 => ?_)
          refine g_lcmp 53 (gd rfl) rfl (fun z52 e52 => ?_)
          have i52 := lc_in e52
          refine g_if_ge 56 90 (gd rfl) rfl rfl (fun c53 => ?_) (fun c53 => ?_)
          · skip
            have i53 := z_ge 0 1 c53 i52 rfl
            have c53a := lc_ge e52 c53
            refine g_iinc 93 (gd rfl) rfl rfl (Nat.le_of_ble_eq_true rfl) (fun z90 e90 => ?_)
            have i90 := in_add 1 160 e90 i17 (in_c 1 rfl) rfl rfl
            refine g_goto 12 (gd rfl) rfl ?_
            exact gg_w (by first | exact Nat.le_add_right _ _ | exact gw2 | exact gw3 | exact gwe rfl | exact gwf rfl | exact gwg rfl | exact gwh rfl | omega) (gg_f (gf_cons rfl (gf_cons rfl (gf_cons rfl (gf_cons rfl gf_nil)))) (ih12 sc12 z90 hIc12 hFc12 (in_w 0 160 i90 rfl) (m_up mm12 (t_add e90 i17 (in_c 1 rfl) rfl) (in_w 1 1 (in_c 1 rfl) rfl))))
          · skip
            have i53 := z_lt (-1) (-1) c53 i52 rfl
            have c53a := lc_lt e52 c53
            have i53a := lr_lt1 (-9223372036854775808) 9223372036854775806 c53a (l_rng z40) (l_rng z51) rfl
            have i53b := lr_lt2 (-9223372036854775807) 9223372036854775807 c53a (l_rng z40) (l_rng z51) rfl
            refine g_aload_n 57 (gd rfl) rfl rfl ?_
            refine g_getA (q2 := 80) 60 (gd rfl) rfl rfl rfl rfl ?_
            refine g_aload_n 61 (gd rfl) rfl rfl ?_
            refine g_getA (q2 := 78) 64 (gd rfl) rfl rfl rfl rfl ?_
            refine g_iload_n 65 (gd rfl) rfl rfl ?_
            refine g_iaload 66 (gd rfl) rfl (n := 160) rfl (in_ix i17 rfl) (fun z65 e65 => ?_)
            have q65 : z31 = z65 := (e31).trans e65.symm
            subst q65
            refine g_aload_n 67 (gd rfl) rfl rfl ?_
            refine g_getA (q2 := 79) 70 (gd rfl) rfl rfl rfl rfl ?_
            refine g_iload_n 71 (gd rfl) rfl rfl ?_
            refine g_laload 72 (gd rfl) rfl (n := 160) rfl (in_ix i17 rfl) (fun z71 e71 => ?_)
            refine g_lastore 73 (gd rfl) rfl (n := 32) rfl (in_ix i31 rfl) ?_
            have hI72 := inv_sL (q := 80) (j := z31.toNatClampNeg) (x := z71) hIc12 rfl (l_rng z71)
            refine g_aload_n 74 (gd rfl) rfl rfl ?_
            refine g_getA (q2 := 81) 77 (gd rfl) rfl rfl rfl rfl ?_
            refine g_aload_n 78 (gd rfl) rfl rfl ?_
            refine g_getA (q2 := 78) 81 (gd rfl) rfl rfl rfl rfl ?_
            refine g_iload_n 82 (gd rfl) rfl rfl ?_
            refine g_iaload 83 (gd rfl) rfl (n := 160) rfl (in_ix i17 rfl) (fun z82 e82 => ?_)
            have q82 : z31 = z82 := (sL_I (e31)).trans e82.symm
            subst q82
            refine g_aload_n 84 (gd rfl) rfl rfl ?_
            refine g_getA (q2 := 77) 87 (gd rfl) rfl rfl rfl rfl ?_
            refine g_iload_n 88 (gd rfl) rfl rfl ?_
            refine g_iaload 89 (gd rfl) rfl (n := 160) rfl (in_ix i17 rfl) (fun z88 e88 => ?_)
            have q88 : z25 = z88 := (sL_I (e25)).trans e88.symm
            subst q88
            refine g_iastore 90 (gd rfl) rfl (n := 32) rfl (in_ix i31 rfl) ?_
            have hI89 := inv_sI (q := 81) (j := z31.toNatClampNeg) hI72 rfl (in_w 0 31 i25 rfl)
            refine g_iinc 93 (gd rfl) rfl rfl (Nat.le_of_ble_eq_true rfl) (fun z90 e90 => ?_)
            have i90 := in_add 1 160 e90 i17 (in_c 1 rfl) rfl rfl
            refine g_goto 12 (gd rfl) rfl ?_
            exact gg_w (by first | exact Nat.le_add_right _ _ | exact gw2 | exact gw3 | exact gwe rfl | exact gwf rfl | exact gwg rfl | exact gwh rfl | omega) (gg_f (gf_cons rfl (gf_cons rfl (gf_cons rfl (gf_cons rfl gf_nil)))) (ih12 (sI (sL sc12 80 z31.toNatClampNeg z71) 81 z31.toNatClampNeg z25) z90 hI89 (fr_sI rfl (fr_sL rfl hFc12)) (in_w 0 160 i90 rfl) (m_up mm12 (t_add e90 i17 (in_c 1 rfl) rfl) (in_w 1 1 (in_c 1 rfl) rfl))))
  refine g_enter2 (k := 182) (N := 175502) (by first | exact dq1 hd rfl | exact dq0 hd rfl | exact dq2 hd rfl | exact dq3 hd rfl | omega) rfl (Nat.le_of_ble_eq_true rfl) ?_
  refine g_aload_n 1 (gd rfl) rfl rfl ?_
  refine g_getA (q2 := 80) 4 (gd rfl) rfl rfl rfl rfl ?_
  refine g_ldc2_w 9223372036854775807 7 (gd rfl) rfl rfl ?_
  refine g_calls (As := [.ref (A 80), .long (Int64.ofInt 9223372036854775807)]) (r := []) 10 (gd rfl) rfl rfl rfl rfl rfl (Nat.le_of_ble_eq_true rfl) (Nat.zero_le _) (Nat.zero_le _) (k_fillL 80 (by first | exact dq1 hd rfl | exact dq0 hd rfl | exact dq2 hd rfl | exact dq3 hd rfl | omega) hI (n := 32) rfl rfl rfl (l_rng (Int64.ofInt 9223372036854775807))) (fun v u h => ?_)
  obtain ⟨s7, hI7, hF7, rfl, rfl, fl7⟩ := h
  show GG _ _ _ _ _ _ _ _ [] _ _ _
  refine g_iconst 0 11 (gd rfl) rfl rfl ?_
  refine g_istore_n 12 (gd rfl) rfl (Nat.le_of_ble_eq_true rfl) ?_
  exact gg_w (by first | exact Nat.le_of_ble_eq_true rfl | omega) (gg_f (gf_cons rfl (gf_cons rfl (gf_cons rfl (gf_cons rfl gf_nil)))) (ct12 161 s7 (Int32.ofInt 0) hI7 (fr_tr rfl fr_rf hF7) (in_w 0 160 (in_c 0 rfl) rfl) (m_in 161 (in_w 0 160 (in_c 0 rfl) rfl) rfl)))

def fm_183_76 : FM := ([82, 83], [], [], [])
/-- GraphHouse$Trees.nameRings -/
theorem k_183_76 {Z : AmZ} {A : Nat → Nat} {s : GS} {ex : va_W} {d : Nat} {X : AmX} {x1 : Int32} {x2 : Int32} (hd : 2 ≤ d) (hI : Inv s) (h1 : In x1 0 32) (h2 : In x2 0 31) : GC Z d 183 [.ref (A 76), .int x1, .int x2] (WW Z A s ++ ex) 0 0 (fun v u => ∃ t : GS, Inv t ∧ Fr fm_183_76 s t ∧ ∃ z : Int32, v = some (.int z) ∧ u = WW Z A t ++ ex ∧ In z 0 32 ∧ ((z).toInt + (c1m (t.1 83) 32 : Int) ≤ 32) ∧ (∀ v : Nat, v < 32 → (t.1 83 v).toInt < (z).toInt)) X := by
  intro post xp hP hX
  have ct21 : ∀ (k21 : Nat) (sc21 : GS) (y21_3 : Int32) (y21_4 : Int32), Inv sc21 → Fr fm_183_76 s sc21 → (In y21_3 0 32) → (In y21_4 0 32) → ((y21_3).toInt + (c1m (sc21.1 83) 32 : Int) ≤ 32) → (∀ v : Nat, v < 32 → (sc21.1 83 v).toInt < (y21_3).toInt) → 32 - (y21_4).toInt < (k21 : Int) → GG Z (d - 1) 183 post (gx xp) (1 + k21 * 64802) 21 (fun j => xlook j [(0, .ref (A 76)), (1, .int x1), (2, .int x2), (3, .int y21_3), (4, .int y21_4)]) [] (WW Z A sc21 ++ ex) 0 0 := by
    intro k21
    induction k21 with
    | zero => intro sc21 y21_3 y21_4 hIc21 hFc21 j21_3 j21_4 g21_0 g21_1 mm21; exact m_no mm21 j21_4 rfl
    | succ k21 ih21 =>
      intro sc21 y21_3 y21_4 hIc21 hFc21 j21_3 j21_4 g21_0 g21_1 mm21
      refine gg_w (M := 1 + k21 * 64802 + 64802) gws ?_
      have ct113 : ∀ (k113 : Nat) (sc113 : GS) (y113_5 : Int32) (y113_6 : Int32), Inv sc113 → Fr fm_183_76 s sc113 → (In x1 1 32) → (In y21_4 0 31) → (In y113_5 0 31) → (In y113_6 0 32) → ((y21_3).toInt + (c1m (sc113.1 83) 32 : Int) + (if (y113_6).toInt = 0 then 0 else 1) ≤ 32) → (∀ v : Nat, v < 32 → (sc113.1 83 v).toInt ≤ (y21_3).toInt) → ((y113_6).toInt = 0 → (sc113.1 83 (y113_5).toNatClampNeg).toInt = -1) → 32 - (y113_6).toInt < (k113 : Int) → GG Z (d - 1) 183 post (gx xp) (1 + k21 * 64802 + 1 + k113 * 900) 113 (fun j => xlook j [(0, .ref (A 76)), (1, .int x1), (2, .int x2), (3, .int y21_3), (4, .int y21_4), (5, .int y113_5), (6, .int y113_6)]) [] (WW Z A sc113 ++ ex) 0 0 := by
        intro k113
        induction k113 with
        | zero => intro sc113 y113_5 y113_6 hIc113 hFc113 j113_1 j113_4 j113_5 j113_6 g113_0 g113_1 g113_2 mm113; exact m_no mm113 j113_6 rfl
        | succ k113 ih113 =>
          intro sc113 y113_5 y113_6 hIc113 hFc113 j113_1 j113_4 j113_5 j113_6 g113_0 g113_1 g113_2 mm113
          refine gg_w (M := 1 + k21 * 64802 + 1 + k113 * 900 + 900) gws ?_
          refine g_iload 115 (gd rfl) rfl rfl ?_
          refine g_iload_n 116 (gd rfl) rfl rfl ?_
          refine g_cmp_ge 119 153 (gd rfl) rfl rfl (fun c116 => ?_) (fun c116 => ?_)
          · skip
            have i116 := r_le2 1 32 c116 j113_1 j113_6 rfl
            have hi : (y113_6).toInt ≠ 0 := (by (first | have a0 := oa6 j113_4 j21_3 h2 j113_1 i116 j113_5 | ((first | have a0 := in_u j113_4 | (have a0 := j113_4; unfold In at a0)); (first | have a1 := in_u j21_3 | (have a1 := j21_3; unfold In at a1)); (first | have a2 := in_u h2 | (have a2 := h2; unfold In at a2)); (first | have a3 := in_u j113_1 | (have a3 := j113_1; unfold In at a3)); (first | have a4 := in_u i116 | (have a4 := i116; unfold In at a4)); (first | have a5 := in_u j113_5 | (have a5 := j113_5; unfold In at a5)))); omega)
            have hr9 : (y21_3).toInt + 1 + (c1m (sc113.1 83) 32 : Int) ≤ 32 := (by have h := g113_0; rw [if_neg hi] at h; omega)
            refine g_iinc 156 (gd rfl) rfl rfl (Nat.le_of_ble_eq_true rfl) (fun z153 e153 => ?_)
            have i153 := in_add 1 33 e153 j21_3 (in_c 1 rfl) rfl rfl
            refine g_iinc 159 (gd rfl) rfl rfl (Nat.le_of_ble_eq_true rfl) (fun z156 e156 => ?_)
            have i156 := in_add 1 32 e156 j113_4 (in_c 1 rfl) rfl rfl
            refine g_goto 21 (gd rfl) rfl ?_
            have i21 : In z153 0 32 := by exact ⟨by (first | have a0 := oa7 j113_4 j21_3 h2 j113_1 i116 j113_5 i156 | ((first | have a0 := in_u j113_4 | (have a0 := j113_4; unfold In at a0)); (first | have a1 := in_u j21_3 | (have a1 := j21_3; unfold In at a1)); (first | have a2 := in_u h2 | (have a2 := h2; unfold In at a2)); (first | have a3 := in_u j113_1 | (have a3 := j113_1; unfold In at a3)); (first | have a4 := in_u i116 | (have a4 := i116; unfold In at a4)); (first | have a5 := in_u j113_5 | (have a5 := j113_5; unfold In at a5)); (first | have a6 := in_u i156 | (have a6 := i156; unfold In at a6)))); have a7 := t_add e156 j113_4 (in_c 1 rfl) rfl; (first | have a8 := oa2 ((in_c 1 rfl)) i153 | ((first | have a8 := in_u ((in_c 1 rfl)) | (have a8 := (in_c 1 rfl); unfold In at a8)); (first | have a9 := in_u i153 | (have a9 := i153; unfold In at a9)))); have a10 := t_add e153 j21_3 (in_c 1 rfl) rfl; omega, by (first | have a0 := oa7 j113_4 j21_3 h2 j113_1 i116 j113_5 i156 | ((first | have a0 := in_u j113_4 | (have a0 := j113_4; unfold In at a0)); (first | have a1 := in_u j21_3 | (have a1 := j21_3; unfold In at a1)); (first | have a2 := in_u h2 | (have a2 := h2; unfold In at a2)); (first | have a3 := in_u j113_1 | (have a3 := j113_1; unfold In at a3)); (first | have a4 := in_u i116 | (have a4 := i116; unfold In at a4)); (first | have a5 := in_u j113_5 | (have a5 := j113_5; unfold In at a5)); (first | have a6 := in_u i156 | (have a6 := i156; unfold In at a6)))); have a7 := t_add e156 j113_4 (in_c 1 rfl) rfl; (first | have a8 := oa2 ((in_c 1 rfl)) i153 | ((first | have a8 := in_u ((in_c 1 rfl)) | (have a8 := (in_c 1 rfl); unfold In at a8)); (first | have a9 := in_u i153 | (have a9 := i153; unfold In at a9)))); have a10 := t_add e153 j21_3 (in_c 1 rfl) rfl; omega⟩
            have n21 : (z153).toInt + (c1m (sc113.1 83) 32 : Int) ≤ 32 := by (first | have a0 := oa7 j113_4 j21_3 h2 j113_1 i116 j113_5 i156 | ((first | have a0 := in_u j113_4 | (have a0 := j113_4; unfold In at a0)); (first | have a1 := in_u j21_3 | (have a1 := j21_3; unfold In at a1)); (first | have a2 := in_u h2 | (have a2 := h2; unfold In at a2)); (first | have a3 := in_u j113_1 | (have a3 := j113_1; unfold In at a3)); (first | have a4 := in_u i116 | (have a4 := i116; unfold In at a4)); (first | have a5 := in_u j113_5 | (have a5 := j113_5; unfold In at a5)); (first | have a6 := in_u i156 | (have a6 := i156; unfold In at a6)))); have a7 := t_add e156 j113_4 (in_c 1 rfl) rfl; (first | have a8 := oa2 ((in_c 1 rfl)) i21 | ((first | have a8 := in_u ((in_c 1 rfl)) | (have a8 := (in_c 1 rfl); unfold In at a8)); (first | have a9 := in_u i21 | (have a9 := i21; unfold In at a9)))); have a10 := t_add e153 j21_3 (in_c 1 rfl) rfl; omega
            have n21a : ∀ v : Nat, v < 32 → (sc113.1 83 v).toInt < (z153).toInt := by intro v hv; have h := g113_1 v hv; (first | have a0 := oa7 j113_4 j21_3 h2 j113_1 i116 j113_5 i156 | ((first | have a0 := in_u j113_4 | (have a0 := j113_4; unfold In at a0)); (first | have a1 := in_u j21_3 | (have a1 := j21_3; unfold In at a1)); (first | have a2 := in_u h2 | (have a2 := h2; unfold In at a2)); (first | have a3 := in_u j113_1 | (have a3 := j113_1; unfold In at a3)); (first | have a4 := in_u i116 | (have a4 := i116; unfold In at a4)); (first | have a5 := in_u j113_5 | (have a5 := j113_5; unfold In at a5)); (first | have a6 := in_u i156 | (have a6 := i156; unfold In at a6)))); have a7 := t_add e156 j113_4 (in_c 1 rfl) rfl; (first | have a8 := oa2 ((in_c 1 rfl)) i21 | ((first | have a8 := in_u ((in_c 1 rfl)) | (have a8 := (in_c 1 rfl); unfold In at a8)); (first | have a9 := in_u i21 | (have a9 := i21; unfold In at a9)))); have a10 := t_add e153 j21_3 (in_c 1 rfl) rfl; omega
            exact gg_w (by first | exact Nat.le_add_right _ _ | exact gw2 | exact gw3 | exact gwe rfl | exact gwf rfl | exact gwg rfl | exact gwh rfl | omega) (gg_f (gf_cons rfl (gf_cons rfl (gf_cons rfl (gf_cons rfl (gf_cons rfl gf_nil))))) (ih21 sc113 z153 z156 hIc113 hFc113 i21 (in_w 0 32 i156 rfl) n21 n21a (m_up mm21 (t_add e156 j113_4 (in_c 1 rfl) rfl) (in_w 1 1 (in_c 1 rfl) rfl))))
          · skip
            have i116 := r_lt1 0 31 c116 j113_6 j113_1 rfl
            refine g_aload_n 120 (gd rfl) rfl rfl ?_
            refine g_getA (q2 := 83) 123 (gd rfl) rfl rfl rfl rfl ?_
            refine g_iload 125 (gd rfl) rfl rfl ?_
            refine g_iaload 126 (gd rfl) rfl (n := 32) rfl (in_ix j113_5 rfl) (fun z125 e125 => ?_)
            have i125 := inv_I hIc113 (n := 32) (t := 0) (-1) 31 rfl (in_ix j113_5 rfl) rfl e125
            refine g_iconst (-1) 127 (gd rfl) rfl rfl ?_
            refine g_cmp_ne 130 153 (gd rfl) rfl rfl (fun c127 => ?_) (fun c127 => ?_)
            · skip
              have i127 := r_ne1 0 31 c127 i125 (in_c (-1) rfl) rfl
              have hi : (y113_6).toInt ≠ 0 := (fun h => c127 ((by rw [e125]; exact g113_2 h : (z125).toInt = -1).trans (by decide)))
              have hr9 : (y21_3).toInt + 1 + (c1m (sc113.1 83) 32 : Int) ≤ 32 := (by have h := g113_0; rw [if_neg hi] at h; omega)
              refine g_iinc 156 (gd rfl) rfl rfl (Nat.le_of_ble_eq_true rfl) (fun z153 e153 => ?_)
              have i153 := in_add 1 33 e153 j21_3 (in_c 1 rfl) rfl rfl
              refine g_iinc 159 (gd rfl) rfl rfl (Nat.le_of_ble_eq_true rfl) (fun z156 e156 => ?_)
              have i156 := in_add 1 32 e156 j113_4 (in_c 1 rfl) rfl rfl
              refine g_goto 21 (gd rfl) rfl ?_
              have i21 : In z153 0 32 := by exact ⟨by (first | have a0 := oa7 j113_4 j21_3 h2 j113_1 i116 j113_5 i156 | ((first | have a0 := in_u j113_4 | (have a0 := j113_4; unfold In at a0)); (first | have a1 := in_u j21_3 | (have a1 := j21_3; unfold In at a1)); (first | have a2 := in_u h2 | (have a2 := h2; unfold In at a2)); (first | have a3 := in_u j113_1 | (have a3 := j113_1; unfold In at a3)); (first | have a4 := in_u i116 | (have a4 := i116; unfold In at a4)); (first | have a5 := in_u j113_5 | (have a5 := j113_5; unfold In at a5)); (first | have a6 := in_u i156 | (have a6 := i156; unfold In at a6)))); have a7 := t_add e156 j113_4 (in_c 1 rfl) rfl; (first | have a8 := oa2 ((in_c 1 rfl)) i153 | ((first | have a8 := in_u ((in_c 1 rfl)) | (have a8 := (in_c 1 rfl); unfold In at a8)); (first | have a9 := in_u i153 | (have a9 := i153; unfold In at a9)))); have a10 := t_add e153 j21_3 (in_c 1 rfl) rfl; omega, by (first | have a0 := oa7 j113_4 j21_3 h2 j113_1 i116 j113_5 i156 | ((first | have a0 := in_u j113_4 | (have a0 := j113_4; unfold In at a0)); (first | have a1 := in_u j21_3 | (have a1 := j21_3; unfold In at a1)); (first | have a2 := in_u h2 | (have a2 := h2; unfold In at a2)); (first | have a3 := in_u j113_1 | (have a3 := j113_1; unfold In at a3)); (first | have a4 := in_u i116 | (have a4 := i116; unfold In at a4)); (first | have a5 := in_u j113_5 | (have a5 := j113_5; unfold In at a5)); (first | have a6 := in_u i156 | (have a6 := i156; unfold In at a6)))); have a7 := t_add e156 j113_4 (in_c 1 rfl) rfl; (first | have a8 := oa2 ((in_c 1 rfl)) i153 | ((first | have a8 := in_u ((in_c 1 rfl)) | (have a8 := (in_c 1 rfl); unfold In at a8)); (first | have a9 := in_u i153 | (have a9 := i153; unfold In at a9)))); have a10 := t_add e153 j21_3 (in_c 1 rfl) rfl; omega⟩
              have n21 : (z153).toInt + (c1m (sc113.1 83) 32 : Int) ≤ 32 := by (first | have a0 := oa7 j113_4 j21_3 h2 j113_1 i116 j113_5 i156 | ((first | have a0 := in_u j113_4 | (have a0 := j113_4; unfold In at a0)); (first | have a1 := in_u j21_3 | (have a1 := j21_3; unfold In at a1)); (first | have a2 := in_u h2 | (have a2 := h2; unfold In at a2)); (first | have a3 := in_u j113_1 | (have a3 := j113_1; unfold In at a3)); (first | have a4 := in_u i116 | (have a4 := i116; unfold In at a4)); (first | have a5 := in_u j113_5 | (have a5 := j113_5; unfold In at a5)); (first | have a6 := in_u i156 | (have a6 := i156; unfold In at a6)))); have a7 := t_add e156 j113_4 (in_c 1 rfl) rfl; (first | have a8 := oa2 ((in_c 1 rfl)) i21 | ((first | have a8 := in_u ((in_c 1 rfl)) | (have a8 := (in_c 1 rfl); unfold In at a8)); (first | have a9 := in_u i21 | (have a9 := i21; unfold In at a9)))); have a10 := t_add e153 j21_3 (in_c 1 rfl) rfl; omega
              have n21a : ∀ v : Nat, v < 32 → (sc113.1 83 v).toInt < (z153).toInt := by intro v hv; have h := g113_1 v hv; (first | have a0 := oa7 j113_4 j21_3 h2 j113_1 i116 j113_5 i156 | ((first | have a0 := in_u j113_4 | (have a0 := j113_4; unfold In at a0)); (first | have a1 := in_u j21_3 | (have a1 := j21_3; unfold In at a1)); (first | have a2 := in_u h2 | (have a2 := h2; unfold In at a2)); (first | have a3 := in_u j113_1 | (have a3 := j113_1; unfold In at a3)); (first | have a4 := in_u i116 | (have a4 := i116; unfold In at a4)); (first | have a5 := in_u j113_5 | (have a5 := j113_5; unfold In at a5)); (first | have a6 := in_u i156 | (have a6 := i156; unfold In at a6)))); have a7 := t_add e156 j113_4 (in_c 1 rfl) rfl; (first | have a8 := oa2 ((in_c 1 rfl)) i21 | ((first | have a8 := in_u ((in_c 1 rfl)) | (have a8 := (in_c 1 rfl); unfold In at a8)); (first | have a9 := in_u i21 | (have a9 := i21; unfold In at a9)))); have a10 := t_add e153 j21_3 (in_c 1 rfl) rfl; omega
              exact gg_w (by first | exact Nat.le_add_right _ _ | exact gw2 | exact gw3 | exact gwe rfl | exact gwf rfl | exact gwg rfl | exact gwh rfl | omega) (gg_f (gf_cons rfl (gf_cons rfl (gf_cons rfl (gf_cons rfl (gf_cons rfl gf_nil))))) (ih21 sc113 z153 z156 hIc113 hFc113 i21 (in_w 0 32 i156 rfl) n21 n21a (m_up mm21 (t_add e156 j113_4 (in_c 1 rfl) rfl) (in_w 1 1 (in_c 1 rfl) rfl))))
            · skip
              have i127 := r_eq1 (-1) (-1) c127 i125 (in_c (-1) rfl) rfl
              refine g_aload_n 131 (gd rfl) rfl rfl ?_
              refine g_getA (q2 := 83) 134 (gd rfl) rfl rfl rfl rfl ?_
              refine g_iload 136 (gd rfl) rfl rfl ?_
              refine g_iload_n 137 (gd rfl) rfl rfl ?_
              have i137 : In y21_3 0 31 := by have hq := c1m_pos (w := sc113.1 83) (n := 32) (by rw [← e125]; exact c127.trans (by decide)) (show (y113_5).toNatClampNeg < 32 from (by show (y113_5).toInt.toNat < 32; (first | have a0 := oa6 j113_4 j21_3 h2 j113_1 i116 j113_5 | ((first | have a0 := in_u j113_4 | (have a0 := j113_4; unfold In at a0)); (first | have a1 := in_u j21_3 | (have a1 := j21_3; unfold In at a1)); (first | have a2 := in_u h2 | (have a2 := h2; unfold In at a2)); (first | have a3 := in_u j113_1 | (have a3 := j113_1; unfold In at a3)); (first | have a4 := in_u i116 | (have a4 := i116; unfold In at a4)); (first | have a5 := in_u j113_5 | (have a5 := j113_5; unfold In at a5)))); (first | exact zt_l (by decide) (by omega) | omega))); have h := g113_0; split at h <;> exact ⟨by (first | have a0 := oa6 j113_4 j21_3 h2 j113_1 i116 j113_5 | ((first | have a0 := in_u j113_4 | (have a0 := j113_4; unfold In at a0)); (first | have a1 := in_u j21_3 | (have a1 := j21_3; unfold In at a1)); (first | have a2 := in_u h2 | (have a2 := h2; unfold In at a2)); (first | have a3 := in_u j113_1 | (have a3 := j113_1; unfold In at a3)); (first | have a4 := in_u i116 | (have a4 := i116; unfold In at a4)); (first | have a5 := in_u j113_5 | (have a5 := j113_5; unfold In at a5)))); omega, by (first | have a0 := oa6 j113_4 j21_3 h2 j113_1 i116 j113_5 | ((first | have a0 := in_u j113_4 | (have a0 := j113_4; unfold In at a0)); (first | have a1 := in_u j21_3 | (have a1 := j21_3; unfold In at a1)); (first | have a2 := in_u h2 | (have a2 := h2; unfold In at a2)); (first | have a3 := in_u j113_1 | (have a3 := j113_1; unfold In at a3)); (first | have a4 := in_u i116 | (have a4 := i116; unfold In at a4)); (first | have a5 := in_u j113_5 | (have a5 := j113_5; unfold In at a5)))); omega⟩
              refine g_iastore 138 (gd rfl) rfl (n := 32) rfl (in_ix j113_5 rfl) ?_
              have hI137 := inv_sI (q := 83) (j := y113_5.toNatClampNeg) hIc113 rfl (in_w (-1) 31 i137 rfl)
              refine g_aload_n 139 (gd rfl) rfl rfl ?_
              refine g_getA (q2 := 81) 142 (gd rfl) rfl rfl rfl rfl ?_
              refine g_iload 144 (gd rfl) rfl rfl ?_
              refine g_iaload 145 (gd rfl) rfl (n := 32) rfl (in_ix j113_5 rfl) (fun z144 e144 => ?_)
              have i144 := inv_I hI137 (n := 32) (t := 0) 0 31 rfl (in_ix j113_5 rfl) rfl e144
              refine g_istore 147 (gd rfl) rfl (Nat.le_of_ble_eq_true rfl) ?_
              refine g_iinc 150 (gd rfl) rfl rfl (Nat.le_of_ble_eq_true rfl) (fun z147 e147 => ?_)
              have i147 := in_add 1 32 e147 i116 (in_c 1 rfl) rfl rfl
              refine g_goto 113 (gd rfl) rfl ?_
              have n113 : (y21_3).toInt + (c1m ((sI sc113 83 y113_5.toNatClampNeg y21_3).1 83) 32 : Int) + (if (z147).toInt = 0 then 0 else 1) ≤ 32 := by rw [sI_q, if_neg (by (first | have a0 := oa2 j113_4 i137 | ((first | have a0 := in_u j113_4 | (have a0 := j113_4; unfold In at a0)); (first | have a1 := in_u i137 | (have a1 := i137; unfold In at a1)))); have a2 := h2; unfold In at a2; (first | have a3 := oa4 j113_1 i116 j113_5 i147 | ((first | have a3 := in_u j113_1 | (have a3 := j113_1; unfold In at a3)); (first | have a4 := in_u i116 | (have a4 := i116; unfold In at a4)); (first | have a5 := in_u j113_5 | (have a5 := j113_5; unfold In at a5)); (first | have a6 := in_u i147 | (have a6 := i147; unfold In at a6)))); have a7 := t_add e147 i116 (in_c 1 rfl) rfl; (first | have a8 := oa2 ((in_c 1 rfl)) i144 | ((first | have a8 := in_u ((in_c 1 rfl)) | (have a8 := (in_c 1 rfl); unfold In at a8)); (first | have a9 := in_u i144 | (have a9 := i144; unfold In at a9)))); omega)]; have h := g113_0; have h2 := c1m_up (w := sc113.1 83) (j := (y113_5).toNatClampNeg) (x := y21_3) (by rw [← e125]; exact c127.trans (by decide)) (by (first | have a0 := oa2 j113_4 i137 | ((first | have a0 := in_u j113_4 | (have a0 := j113_4; unfold In at a0)); (first | have a1 := in_u i137 | (have a1 := i137; unfold In at a1)))); have a2 := h2; unfold In at a2; (first | have a3 := oa4 j113_1 i116 j113_5 i147 | ((first | have a3 := in_u j113_1 | (have a3 := j113_1; unfold In at a3)); (first | have a4 := in_u i116 | (have a4 := i116; unfold In at a4)); (first | have a5 := in_u j113_5 | (have a5 := j113_5; unfold In at a5)); (first | have a6 := in_u i147 | (have a6 := i147; unfold In at a6)))); have a7 := t_add e147 i116 (in_c 1 rfl) rfl; (first | have a8 := oa2 ((in_c 1 rfl)) i144 | ((first | have a8 := in_u ((in_c 1 rfl)) | (have a8 := (in_c 1 rfl); unfold In at a8)); (first | have a9 := in_u i144 | (have a9 := i144; unfold In at a9)))); omega) (n := 32) (show (y113_5).toNatClampNeg < 32 from (by show (y113_5).toInt.toNat < 32; (first | have a0 := oa2 j113_4 i137 | ((first | have a0 := in_u j113_4 | (have a0 := j113_4; unfold In at a0)); (first | have a1 := in_u i137 | (have a1 := i137; unfold In at a1)))); have a2 := h2; unfold In at a2; (first | have a3 := oa4 j113_1 i116 j113_5 i147 | ((first | have a3 := in_u j113_1 | (have a3 := j113_1; unfold In at a3)); (first | have a4 := in_u i116 | (have a4 := i116; unfold In at a4)); (first | have a5 := in_u j113_5 | (have a5 := j113_5; unfold In at a5)); (first | have a6 := in_u i147 | (have a6 := i147; unfold In at a6)))); have a7 := t_add e147 i116 (in_c 1 rfl) rfl; (first | have a8 := oa2 ((in_c 1 rfl)) i144 | ((first | have a8 := in_u ((in_c 1 rfl)) | (have a8 := (in_c 1 rfl); unfold In at a8)); (first | have a9 := in_u i144 | (have a9 := i144; unfold In at a9)))); (first | exact zt_l (by decide) (by omega) | omega))); split at h <;> omega
              have n113a : ∀ v : Nat, v < 32 → ((sI sc113 83 y113_5.toNatClampNeg y21_3).1 83 v).toInt ≤ (y21_3).toInt := by intro v hv; rw [sI_q]; unfold upd; by_cases hq : v = (y113_5).toNatClampNeg; (rw [if_pos hq]; exact Int.le_refl _); (rw [if_neg hq]; exact g113_1 v hv)
              have n113b : (z147).toInt = 0 → ((sI sc113 83 y113_5.toNatClampNeg y21_3).1 83 (z144).toNatClampNeg).toInt = -1 := by intro h; exfalso; (first | have a0 := oa7 j113_4 i137 h2 j113_1 i116 j113_5 i147 | ((first | have a0 := in_u j113_4 | (have a0 := j113_4; unfold In at a0)); (first | have a1 := in_u i137 | (have a1 := i137; unfold In at a1)); (first | have a2 := in_u h2 | (have a2 := h2; unfold In at a2)); (first | have a3 := in_u j113_1 | (have a3 := j113_1; unfold In at a3)); (first | have a4 := in_u i116 | (have a4 := i116; unfold In at a4)); (first | have a5 := in_u j113_5 | (have a5 := j113_5; unfold In at a5)); (first | have a6 := in_u i147 | (have a6 := i147; unfold In at a6)))); have a7 := t_add e147 i116 (in_c 1 rfl) rfl; (first | have a8 := oa2 ((in_c 1 rfl)) i144 | ((first | have a8 := in_u ((in_c 1 rfl)) | (have a8 := (in_c 1 rfl); unfold In at a8)); (first | have a9 := in_u i144 | (have a9 := i144; unfold In at a9)))); omega
              exact gg_w (by first | exact Nat.le_add_right _ _ | exact gw2 | exact gw3 | exact gwe rfl | exact gwf rfl | exact gwg rfl | exact gwh rfl | omega) (gg_f (gf_cons rfl (gf_cons rfl (gf_cons rfl (gf_cons rfl (gf_cons rfl (gf_cons rfl (gf_cons rfl gf_nil))))))) (ih113 (sI sc113 83 y113_5.toNatClampNeg y21_3) z144 z147 hI137 (fr_sI rfl hFc113) (in_w 1 32 j113_1 rfl) (in_w 0 31 j113_4 rfl) (in_w 0 31 i144 rfl) (in_w 0 32 i147 rfl) n113 n113a n113b (m_up mm113 (t_add e147 i116 (in_c 1 rfl) rfl) (in_w 1 1 (in_c 1 rfl) rfl))))
      have ct34 : ∀ (k34 : Nat) (sc34 : GS) (y34_5 : Int32) (y34_6 : Int32), Inv sc34 → Fr fm_183_76 s sc34 → (In x1 1 32) → (In y21_4 0 31) → (In y34_5 0 31) → (In y34_6 0 33) → ((y21_3).toInt + (c1m (sc34.1 83) 32 : Int) ≤ 32) → (∀ v : Nat, v < 32 → (sc34.1 83 v).toInt < (y21_3).toInt) → 33 - (y34_6).toInt < (k34 : Int) → GG Z (d - 1) 183 post (gx xp) (1 + k21 * 64802 + 29702 + k34 * 900) 34 (fun j => xlook j [(0, .ref (A 76)), (1, .int x1), (2, .int x2), (3, .int y21_3), (4, .int y21_4), (5, .int y34_5), (6, .int y34_6)]) [] (WW Z A sc34 ++ ex) 0 0 := by
        intro k34
        induction k34 with
        | zero => intro sc34 y34_5 y34_6 hIc34 hFc34 j34_1 j34_4 j34_5 j34_6 g34_0 g34_1 mm34; exact m_no mm34 j34_6 rfl
        | succ k34 ih34 =>
          intro sc34 y34_5 y34_6 hIc34 hFc34 j34_1 j34_4 j34_5 j34_6 g34_0 g34_1 mm34
          refine gg_w (M := 1 + k21 * 64802 + 29702 + k34 * 900 + 900) gws ?_
          refine g_iload 36 (gd rfl) rfl rfl ?_
          refine g_iload_n 37 (gd rfl) rfl rfl ?_
          refine g_cmp_gt 40 81 (gd rfl) rfl rfl (fun c37 => ?_) (fun c37 => ?_)
          · skip
            have i37 := r_lt2 2 33 c37 j34_1 j34_6 rfl
            refine g_iload 83 (gd rfl) rfl rfl ?_
            refine g_iload_n 84 (gd rfl) rfl rfl ?_
            refine g_cmp_eq 87 156 (gd rfl) rfl rfl (fun c84 => ?_) (fun c84 => ?_)
            · skip
              refine g_iinc 159 (gd rfl) rfl rfl (Nat.le_of_ble_eq_true rfl) (fun z156 e156 => ?_)
              have i156 := in_add 1 32 e156 j34_4 (in_c 1 rfl) rfl rfl
              refine g_goto 21 (gd rfl) rfl ?_
              have n21 : (y21_3).toInt + (c1m (sc34.1 83) 32 : Int) ≤ 32 := by exact g34_0
              have n21a : ∀ v : Nat, v < 32 → (sc34.1 83 v).toInt < (y21_3).toInt := by exact g34_1
              exact gg_w (by first | exact Nat.le_add_right _ _ | exact gw2 | exact gw3 | exact gwe rfl | exact gwf rfl | exact gwg rfl | exact gwh rfl | omega) (gg_f (gf_cons rfl (gf_cons rfl (gf_cons rfl (gf_cons rfl (gf_cons rfl gf_nil))))) (ih21 sc34 y21_3 z156 hIc34 hFc34 (in_w 0 32 j21_3 rfl) (in_w 0 32 i156 rfl) n21 n21a (m_up mm21 (t_add e156 j34_4 (in_c 1 rfl) rfl) (in_w 1 1 (in_c 1 rfl) rfl))))
            · skip
              refine g_aload_n 88 (gd rfl) rfl rfl ?_
              refine g_getA (q2 := 82) 91 (gd rfl) rfl rfl rfl rfl ?_
              refine g_iload 93 (gd rfl) rfl rfl ?_
              refine g_iaload 94 (gd rfl) rfl (n := 32) rfl (in_ix j34_5 rfl) (fun z93 e93 => ?_)
              refine g_iload 96 (gd rfl) rfl rfl ?_
              refine g_cmp_ne 99 156 (gd rfl) rfl rfl (fun c96 => ?_) (fun c96 => ?_)
              · skip
                refine g_iinc 159 (gd rfl) rfl rfl (Nat.le_of_ble_eq_true rfl) (fun z156 e156 => ?_)
                have i156 := in_add 1 32 e156 j34_4 (in_c 1 rfl) rfl rfl
                refine g_goto 21 (gd rfl) rfl ?_
                have n21 : (y21_3).toInt + (c1m (sc34.1 83) 32 : Int) ≤ 32 := by exact g34_0
                have n21a : ∀ v : Nat, v < 32 → (sc34.1 83 v).toInt < (y21_3).toInt := by exact g34_1
                exact gg_w (by first | exact Nat.le_add_right _ _ | exact gw2 | exact gw3 | exact gwe rfl | exact gwf rfl | exact gwg rfl | exact gwh rfl | omega) (gg_f (gf_cons rfl (gf_cons rfl (gf_cons rfl (gf_cons rfl (gf_cons rfl gf_nil))))) (ih21 sc34 y21_3 z156 hIc34 hFc34 (in_w 0 32 j21_3 rfl) (in_w 0 32 i156 rfl) n21 n21a (m_up mm21 (t_add e156 j34_4 (in_c 1 rfl) rfl) (in_w 1 1 (in_c 1 rfl) rfl))))
              · skip
                have i96 := r_eq1 0 31 c96 (i_rng z93) j34_4 rfl
                refine g_aload_n 100 (gd rfl) rfl rfl ?_
                refine g_getA (q2 := 83) 103 (gd rfl) rfl rfl rfl rfl ?_
                refine g_iload 105 (gd rfl) rfl rfl ?_
                refine g_iaload 106 (gd rfl) rfl (n := 32) rfl (in_ix j34_5 rfl) (fun z105 e105 => ?_)
                have i105 := inv_I hIc34 (n := 32) (t := 0) (-1) 31 rfl (in_ix j34_5 rfl) rfl e105
                refine g_iconst (-1) 107 (gd rfl) rfl rfl ?_
                refine g_cmp_ne 110 156 (gd rfl) rfl rfl (fun c107 => ?_) (fun c107 => ?_)
                · skip
                  have i107 := r_ne1 0 31 c107 i105 (in_c (-1) rfl) rfl
                  refine g_iinc 159 (gd rfl) rfl rfl (Nat.le_of_ble_eq_true rfl) (fun z156 e156 => ?_)
                  have i156 := in_add 1 32 e156 j34_4 (in_c 1 rfl) rfl rfl
                  refine g_goto 21 (gd rfl) rfl ?_
                  have n21 : (y21_3).toInt + (c1m (sc34.1 83) 32 : Int) ≤ 32 := by exact g34_0
                  have n21a : ∀ v : Nat, v < 32 → (sc34.1 83 v).toInt < (y21_3).toInt := by exact g34_1
                  exact gg_w (by first | exact Nat.le_add_right _ _ | exact gw2 | exact gw3 | exact gwe rfl | exact gwf rfl | exact gwg rfl | exact gwh rfl | omega) (gg_f (gf_cons rfl (gf_cons rfl (gf_cons rfl (gf_cons rfl (gf_cons rfl gf_nil))))) (ih21 sc34 y21_3 z156 hIc34 hFc34 (in_w 0 32 j21_3 rfl) (in_w 0 32 i156 rfl) n21 n21a (m_up mm21 (t_add e156 j34_4 (in_c 1 rfl) rfl) (in_w 1 1 (in_c 1 rfl) rfl))))
                · skip
                  have i107 := r_eq1 (-1) (-1) c107 i105 (in_c (-1) rfl) rfl
                  refine g_iconst 0 111 (gd rfl) rfl rfl ?_
                  refine g_istore 113 (gd rfl) rfl (Nat.le_of_ble_eq_true rfl) ?_
                  have n113 : (y21_3).toInt + (c1m (sc34.1 83) 32 : Int) + (if ((Int32.ofInt 0)).toInt = 0 then 0 else 1) ≤ 32 := by rw [if_pos (show (Int32.ofInt 0).toInt = 0 from (by decide))]; have h := g34_0; omega
                  have n113a : ∀ v : Nat, v < 32 → (sc34.1 83 v).toInt ≤ (y21_3).toInt := by intro v hv; exact Int.le_of_lt (g34_1 v hv)
                  have n113b : ((Int32.ofInt 0)).toInt = 0 → (sc34.1 83 (y34_5).toNatClampNeg).toInt = -1 := by intro _; rw [← e105]; exact c107.trans (by decide)
                  exact gg_w (by first | exact Nat.le_add_right _ _ | exact gw2 | exact gw3 | exact gwe rfl | exact gwf rfl | exact gwg rfl | exact gwh rfl | omega) (gg_f (gf_cons rfl (gf_cons rfl (gf_cons rfl (gf_cons rfl (gf_cons rfl (gf_cons rfl (gf_cons rfl gf_nil))))))) (ct113 33 sc34 y34_5 (Int32.ofInt 0) hIc34 hFc34 (in_w 1 32 j34_1 rfl) (in_w 0 31 j34_4 rfl) (in_w 0 31 j34_5 rfl) (in_w 0 32 (in_c 0 rfl) rfl) n113 n113a n113b (m_in 33 (in_w 0 32 (in_c 0 rfl) rfl) rfl)))
          · skip
            have i37 := r_le1 0 32 c37 j34_6 j34_1 rfl
            refine g_iload 42 (gd rfl) rfl rfl ?_
            refine g_iload_n 43 (gd rfl) rfl rfl ?_
            refine g_cmp_eq 46 81 (gd rfl) rfl rfl (fun c43 => ?_) (fun c43 => ?_)
            · skip
              refine g_iload 83 (gd rfl) rfl rfl ?_
              refine g_iload_n 84 (gd rfl) rfl rfl ?_
              refine g_cmp_eq 87 156 (gd rfl) rfl rfl (fun c84 => ?_) (fun c84 => ?_)
              · skip
                refine g_iinc 159 (gd rfl) rfl rfl (Nat.le_of_ble_eq_true rfl) (fun z156 e156 => ?_)
                have i156 := in_add 1 32 e156 j34_4 (in_c 1 rfl) rfl rfl
                refine g_goto 21 (gd rfl) rfl ?_
                have n21 : (y21_3).toInt + (c1m (sc34.1 83) 32 : Int) ≤ 32 := by exact g34_0
                have n21a : ∀ v : Nat, v < 32 → (sc34.1 83 v).toInt < (y21_3).toInt := by exact g34_1
                exact gg_w (by first | exact Nat.le_add_right _ _ | exact gw2 | exact gw3 | exact gwe rfl | exact gwf rfl | exact gwg rfl | exact gwh rfl | omega) (gg_f (gf_cons rfl (gf_cons rfl (gf_cons rfl (gf_cons rfl (gf_cons rfl gf_nil))))) (ih21 sc34 y21_3 z156 hIc34 hFc34 (in_w 0 32 j21_3 rfl) (in_w 0 32 i156 rfl) n21 n21a (m_up mm21 (t_add e156 j34_4 (in_c 1 rfl) rfl) (in_w 1 1 (in_c 1 rfl) rfl))))
              · skip
                refine g_aload_n 88 (gd rfl) rfl rfl ?_
                refine g_getA (q2 := 82) 91 (gd rfl) rfl rfl rfl rfl ?_
                refine g_iload 93 (gd rfl) rfl rfl ?_
                refine g_iaload 94 (gd rfl) rfl (n := 32) rfl (in_ix j34_5 rfl) (fun z93 e93 => ?_)
                refine g_iload 96 (gd rfl) rfl rfl ?_
                refine g_cmp_ne 99 156 (gd rfl) rfl rfl (fun c96 => ?_) (fun c96 => ?_)
                · skip
                  refine g_iinc 159 (gd rfl) rfl rfl (Nat.le_of_ble_eq_true rfl) (fun z156 e156 => ?_)
                  have i156 := in_add 1 32 e156 j34_4 (in_c 1 rfl) rfl rfl
                  refine g_goto 21 (gd rfl) rfl ?_
                  have n21 : (y21_3).toInt + (c1m (sc34.1 83) 32 : Int) ≤ 32 := by exact g34_0
                  have n21a : ∀ v : Nat, v < 32 → (sc34.1 83 v).toInt < (y21_3).toInt := by exact g34_1
                  exact gg_w (by first | exact Nat.le_add_right _ _ | exact gw2 | exact gw3 | exact gwe rfl | exact gwf rfl | exact gwg rfl | exact gwh rfl | omega) (gg_f (gf_cons rfl (gf_cons rfl (gf_cons rfl (gf_cons rfl (gf_cons rfl gf_nil))))) (ih21 sc34 y21_3 z156 hIc34 hFc34 (in_w 0 32 j21_3 rfl) (in_w 0 32 i156 rfl) n21 n21a (m_up mm21 (t_add e156 j34_4 (in_c 1 rfl) rfl) (in_w 1 1 (in_c 1 rfl) rfl))))
                · skip
                  have i96 := r_eq1 0 31 c96 (i_rng z93) j34_4 rfl
                  refine g_aload_n 100 (gd rfl) rfl rfl ?_
                  refine g_getA (q2 := 83) 103 (gd rfl) rfl rfl rfl rfl ?_
                  refine g_iload 105 (gd rfl) rfl rfl ?_
                  refine g_iaload 106 (gd rfl) rfl (n := 32) rfl (in_ix j34_5 rfl) (fun z105 e105 => ?_)
                  have i105 := inv_I hIc34 (n := 32) (t := 0) (-1) 31 rfl (in_ix j34_5 rfl) rfl e105
                  refine g_iconst (-1) 107 (gd rfl) rfl rfl ?_
                  refine g_cmp_ne 110 156 (gd rfl) rfl rfl (fun c107 => ?_) (fun c107 => ?_)
                  · skip
                    have i107 := r_ne1 0 31 c107 i105 (in_c (-1) rfl) rfl
                    refine g_iinc 159 (gd rfl) rfl rfl (Nat.le_of_ble_eq_true rfl) (fun z156 e156 => ?_)
                    have i156 := in_add 1 32 e156 j34_4 (in_c 1 rfl) rfl rfl
                    refine g_goto 21 (gd rfl) rfl ?_
                    have n21 : (y21_3).toInt + (c1m (sc34.1 83) 32 : Int) ≤ 32 := by exact g34_0
                    have n21a : ∀ v : Nat, v < 32 → (sc34.1 83 v).toInt < (y21_3).toInt := by exact g34_1
                    exact gg_w (by first | exact Nat.le_add_right _ _ | exact gw2 | exact gw3 | exact gwe rfl | exact gwf rfl | exact gwg rfl | exact gwh rfl | omega) (gg_f (gf_cons rfl (gf_cons rfl (gf_cons rfl (gf_cons rfl (gf_cons rfl gf_nil))))) (ih21 sc34 y21_3 z156 hIc34 hFc34 (in_w 0 32 j21_3 rfl) (in_w 0 32 i156 rfl) n21 n21a (m_up mm21 (t_add e156 j34_4 (in_c 1 rfl) rfl) (in_w 1 1 (in_c 1 rfl) rfl))))
                  · skip
                    have i107 := r_eq1 (-1) (-1) c107 i105 (in_c (-1) rfl) rfl
                    refine g_iconst 0 111 (gd rfl) rfl rfl ?_
                    refine g_istore 113 (gd rfl) rfl (Nat.le_of_ble_eq_true rfl) ?_
                    have n113 : (y21_3).toInt + (c1m (sc34.1 83) 32 : Int) + (if ((Int32.ofInt 0)).toInt = 0 then 0 else 1) ≤ 32 := by rw [if_pos (show (Int32.ofInt 0).toInt = 0 from (by decide))]; have h := g34_0; omega
                    have n113a : ∀ v : Nat, v < 32 → (sc34.1 83 v).toInt ≤ (y21_3).toInt := by intro v hv; exact Int.le_of_lt (g34_1 v hv)
                    have n113b : ((Int32.ofInt 0)).toInt = 0 → (sc34.1 83 (y34_5).toNatClampNeg).toInt = -1 := by intro _; rw [← e105]; exact c107.trans (by decide)
                    exact gg_w (by first | exact Nat.le_add_right _ _ | exact gw2 | exact gw3 | exact gwe rfl | exact gwf rfl | exact gwg rfl | exact gwh rfl | omega) (gg_f (gf_cons rfl (gf_cons rfl (gf_cons rfl (gf_cons rfl (gf_cons rfl (gf_cons rfl (gf_cons rfl gf_nil))))))) (ct113 33 sc34 y34_5 (Int32.ofInt 0) hIc34 hFc34 (in_w 1 32 j34_1 rfl) (in_w 0 31 j34_4 rfl) (in_w 0 31 j34_5 rfl) (in_w 0 32 (in_c 0 rfl) rfl) n113 n113a n113b (m_in 33 (in_w 0 32 (in_c 0 rfl) rfl) rfl)))
            · skip
              refine g_aload_n 47 (gd rfl) rfl rfl ?_
              refine g_getA (q2 := 82) 50 (gd rfl) rfl rfl rfl rfl ?_
              refine g_iload 52 (gd rfl) rfl rfl ?_
              refine g_iaload 53 (gd rfl) rfl (n := 32) rfl (in_ix j34_5 rfl) (fun z52 e52 => ?_)
              refine g_iconst (-1) 54 (gd rfl) rfl rfl ?_
              refine g_cmp_ne 57 81 (gd rfl) rfl rfl (fun c54 => ?_) (fun c54 => ?_)
              · skip
                refine g_iload 83 (gd rfl) rfl rfl ?_
                refine g_iload_n 84 (gd rfl) rfl rfl ?_
                refine g_cmp_eq 87 156 (gd rfl) rfl rfl (fun c84 => ?_) (fun c84 => ?_)
                · skip
                  refine g_iinc 159 (gd rfl) rfl rfl (Nat.le_of_ble_eq_true rfl) (fun z156 e156 => ?_)
                  have i156 := in_add 1 32 e156 j34_4 (in_c 1 rfl) rfl rfl
                  refine g_goto 21 (gd rfl) rfl ?_
                  have n21 : (y21_3).toInt + (c1m (sc34.1 83) 32 : Int) ≤ 32 := by exact g34_0
                  have n21a : ∀ v : Nat, v < 32 → (sc34.1 83 v).toInt < (y21_3).toInt := by exact g34_1
                  exact gg_w (by first | exact Nat.le_add_right _ _ | exact gw2 | exact gw3 | exact gwe rfl | exact gwf rfl | exact gwg rfl | exact gwh rfl | omega) (gg_f (gf_cons rfl (gf_cons rfl (gf_cons rfl (gf_cons rfl (gf_cons rfl gf_nil))))) (ih21 sc34 y21_3 z156 hIc34 hFc34 (in_w 0 32 j21_3 rfl) (in_w 0 32 i156 rfl) n21 n21a (m_up mm21 (t_add e156 j34_4 (in_c 1 rfl) rfl) (in_w 1 1 (in_c 1 rfl) rfl))))
                · skip
                  refine g_aload_n 88 (gd rfl) rfl rfl ?_
                  refine g_getA (q2 := 82) 91 (gd rfl) rfl rfl rfl rfl ?_
                  refine g_iload 93 (gd rfl) rfl rfl ?_
                  refine g_iaload 94 (gd rfl) rfl (n := 32) rfl (in_ix j34_5 rfl) (fun z93 e93 => ?_)
                  have q93 : z52 = z93 := (e52).trans e93.symm
                  subst q93
                  refine g_iload 96 (gd rfl) rfl rfl ?_
                  refine g_cmp_ne 99 156 (gd rfl) rfl rfl (fun c96 => ?_) (fun c96 => ?_)
                  · skip
                    refine g_iinc 159 (gd rfl) rfl rfl (Nat.le_of_ble_eq_true rfl) (fun z156 e156 => ?_)
                    have i156 := in_add 1 32 e156 j34_4 (in_c 1 rfl) rfl rfl
                    refine g_goto 21 (gd rfl) rfl ?_
                    have n21 : (y21_3).toInt + (c1m (sc34.1 83) 32 : Int) ≤ 32 := by exact g34_0
                    have n21a : ∀ v : Nat, v < 32 → (sc34.1 83 v).toInt < (y21_3).toInt := by exact g34_1
                    exact gg_w (by first | exact Nat.le_add_right _ _ | exact gw2 | exact gw3 | exact gwe rfl | exact gwf rfl | exact gwg rfl | exact gwh rfl | omega) (gg_f (gf_cons rfl (gf_cons rfl (gf_cons rfl (gf_cons rfl (gf_cons rfl gf_nil))))) (ih21 sc34 y21_3 z156 hIc34 hFc34 (in_w 0 32 j21_3 rfl) (in_w 0 32 i156 rfl) n21 n21a (m_up mm21 (t_add e156 j34_4 (in_c 1 rfl) rfl) (in_w 1 1 (in_c 1 rfl) rfl))))
                  · skip
                    have i96 := r_eq1 0 31 c96 (i_rng z52) j34_4 rfl
                    refine g_aload_n 100 (gd rfl) rfl rfl ?_
                    refine g_getA (q2 := 83) 103 (gd rfl) rfl rfl rfl rfl ?_
                    refine g_iload 105 (gd rfl) rfl rfl ?_
                    refine g_iaload 106 (gd rfl) rfl (n := 32) rfl (in_ix j34_5 rfl) (fun z105 e105 => ?_)
                    have i105 := inv_I hIc34 (n := 32) (t := 0) (-1) 31 rfl (in_ix j34_5 rfl) rfl e105
                    refine g_iconst (-1) 107 (gd rfl) rfl rfl ?_
                    refine g_cmp_ne 110 156 (gd rfl) rfl rfl (fun c107 => ?_) (fun c107 => ?_)
                    · skip
                      have i107 := r_ne1 0 31 c107 i105 (in_c (-1) rfl) rfl
                      refine g_iinc 159 (gd rfl) rfl rfl (Nat.le_of_ble_eq_true rfl) (fun z156 e156 => ?_)
                      have i156 := in_add 1 32 e156 j34_4 (in_c 1 rfl) rfl rfl
                      refine g_goto 21 (gd rfl) rfl ?_
                      have n21 : (y21_3).toInt + (c1m (sc34.1 83) 32 : Int) ≤ 32 := by exact g34_0
                      have n21a : ∀ v : Nat, v < 32 → (sc34.1 83 v).toInt < (y21_3).toInt := by exact g34_1
                      exact gg_w (by first | exact Nat.le_add_right _ _ | exact gw2 | exact gw3 | exact gwe rfl | exact gwf rfl | exact gwg rfl | exact gwh rfl | omega) (gg_f (gf_cons rfl (gf_cons rfl (gf_cons rfl (gf_cons rfl (gf_cons rfl gf_nil))))) (ih21 sc34 y21_3 z156 hIc34 hFc34 (in_w 0 32 j21_3 rfl) (in_w 0 32 i156 rfl) n21 n21a (m_up mm21 (t_add e156 j34_4 (in_c 1 rfl) rfl) (in_w 1 1 (in_c 1 rfl) rfl))))
                    · skip
                      have i107 := r_eq1 (-1) (-1) c107 i105 (in_c (-1) rfl) rfl
                      refine g_iconst 0 111 (gd rfl) rfl rfl ?_
                      refine g_istore 113 (gd rfl) rfl (Nat.le_of_ble_eq_true rfl) ?_
                      have n113 : (y21_3).toInt + (c1m (sc34.1 83) 32 : Int) + (if ((Int32.ofInt 0)).toInt = 0 then 0 else 1) ≤ 32 := by rw [if_pos (show (Int32.ofInt 0).toInt = 0 from (by decide))]; have h := g34_0; omega
                      have n113a : ∀ v : Nat, v < 32 → (sc34.1 83 v).toInt ≤ (y21_3).toInt := by intro v hv; exact Int.le_of_lt (g34_1 v hv)
                      have n113b : ((Int32.ofInt 0)).toInt = 0 → (sc34.1 83 (y34_5).toNatClampNeg).toInt = -1 := by intro _; rw [← e105]; exact c107.trans (by decide)
                      exact gg_w (by first | exact Nat.le_add_right _ _ | exact gw2 | exact gw3 | exact gwe rfl | exact gwf rfl | exact gwg rfl | exact gwh rfl | omega) (gg_f (gf_cons rfl (gf_cons rfl (gf_cons rfl (gf_cons rfl (gf_cons rfl (gf_cons rfl (gf_cons rfl gf_nil))))))) (ct113 33 sc34 y34_5 (Int32.ofInt 0) hIc34 hFc34 (in_w 1 32 j34_1 rfl) (in_w 0 31 j34_4 rfl) (in_w 0 31 j34_5 rfl) (in_w 0 32 (in_c 0 rfl) rfl) n113 n113a n113b (m_in 33 (in_w 0 32 (in_c 0 rfl) rfl) rfl)))
              · skip
                have i54 := r_eq1 (-1) (-1) c54 (i_rng z52) (in_c (-1) rfl) rfl
                refine g_aload_n 58 (gd rfl) rfl rfl ?_
                refine g_getA (q2 := 82) 61 (gd rfl) rfl rfl rfl rfl ?_
                refine g_iload 63 (gd rfl) rfl rfl ?_
                refine g_iload 65 (gd rfl) rfl rfl ?_
                refine g_iastore 66 (gd rfl) rfl (n := 32) rfl (in_ix j34_5 rfl) ?_
                have hI65 := inv_sI (q := 82) (j := y34_5.toNatClampNeg) hIc34 rfl (in_w (-2147483648) 2147483647 j34_4 rfl)
                refine g_aload_n 67 (gd rfl) rfl rfl ?_
                refine g_getA (q2 := 81) 70 (gd rfl) rfl rfl rfl rfl ?_
                refine g_iload 72 (gd rfl) rfl rfl ?_
                refine g_iaload 73 (gd rfl) rfl (n := 32) rfl (in_ix j34_5 rfl) (fun z72 e72 => ?_)
                have i72 := inv_I hI65 (n := 32) (t := 0) 0 31 rfl (in_ix j34_5 rfl) rfl e72
                refine g_istore 75 (gd rfl) rfl (Nat.le_of_ble_eq_true rfl) ?_
                refine g_iinc 78 (gd rfl) rfl rfl (Nat.le_of_ble_eq_true rfl) (fun z75 e75 => ?_)
                have i75 := in_add 1 33 e75 i37 (in_c 1 rfl) rfl rfl
                refine g_goto 34 (gd rfl) rfl ?_
                have n34 : (y21_3).toInt + (c1m ((sI sc34 82 y34_5.toNatClampNeg y21_4).1 83) 32 : Int) ≤ 32 := by rw [sI_r rfl]; exact g34_0
                have n34a : ∀ v : Nat, v < 32 → ((sI sc34 82 y34_5.toNatClampNeg y21_4).1 83 v).toInt < (y21_3).toInt := by rw [sI_r rfl]; exact g34_1
                exact gg_w (by first | exact Nat.le_add_right _ _ | exact gw2 | exact gw3 | exact gwe rfl | exact gwf rfl | exact gwg rfl | exact gwh rfl | omega) (gg_f (gf_cons rfl (gf_cons rfl (gf_cons rfl (gf_cons rfl (gf_cons rfl (gf_cons rfl (gf_cons rfl gf_nil))))))) (ih34 (sI sc34 82 y34_5.toNatClampNeg y21_4) z72 z75 hI65 (fr_sI rfl hFc34) (in_w 1 32 j34_1 rfl) (in_w 0 31 j34_4 rfl) (in_w 0 31 i72 rfl) (in_w 0 33 i75 rfl) n34 n34a (m_up mm34 (t_add e75 i37 (in_c 1 rfl) rfl) (in_w 1 1 (in_c 1 rfl) rfl))))
      refine g_iload 23 (gd rfl) rfl rfl ?_
      refine g_iload_n 24 (gd rfl) rfl rfl ?_
      refine g_cmp_ge 27 162 (gd rfl) rfl rfl (fun c24 => ?_) (fun c24 => ?_)
      · skip
        refine g_iload_n 163 (gd rfl) rfl rfl ?_
        have n163 : (y21_3).toInt + (c1m (sc21.1 83) 32 : Int) ≤ 32 := by exact g21_0
        have n163a : ∀ v : Nat, v < 32 → (sc21.1 83 v).toInt < (y21_3).toInt := by exact g21_1
        exact g_ireturn (gd rfl) rfl rfl (hP _ _ ⟨sc21, hIc21, hFc21, y21_3, rfl, rfl, in_w 0 32 j21_3 rfl, n163, n163a⟩)
      · skip
        have i24 := r_lt1 0 31 c24 j21_4 h1 rfl
        have i24a := r_lt2 1 32 c24 j21_4 h1 rfl
        refine g_iload 29 (gd rfl) rfl rfl ?_
        refine g_istore 31 (gd rfl) rfl (Nat.le_of_ble_eq_true rfl) ?_
        refine g_iconst 0 32 (gd rfl) rfl rfl ?_
        refine g_istore 34 (gd rfl) rfl (Nat.le_of_ble_eq_true rfl) ?_
        have n34 : (y21_3).toInt + (c1m (sc21.1 83) 32 : Int) ≤ 32 := by exact g21_0
        have n34a : ∀ v : Nat, v < 32 → (sc21.1 83 v).toInt < (y21_3).toInt := by exact g21_1
        exact gg_w (by first | exact Nat.le_add_right _ _ | exact gw2 | exact gw3 | exact gwe rfl | exact gwf rfl | exact gwg rfl | exact gwh rfl | omega) (gg_f (gf_cons rfl (gf_cons rfl (gf_cons rfl (gf_cons rfl (gf_cons rfl (gf_cons rfl (gf_cons rfl gf_nil))))))) (ct34 34 sc21 y21_4 (Int32.ofInt 0) hIc21 hFc21 (in_w 1 32 i24a rfl) (in_w 0 31 i24 rfl) (in_w 0 31 i24 rfl) (in_w 0 33 (in_c 0 rfl) rfl) n34 n34a (m_in 34 (in_w 0 33 (in_c 0 rfl) rfl) rfl)))
  refine g_enter2 (k := 183) (N := 2139367) (by first | exact dq1 hd rfl | exact dq0 hd rfl | exact dq2 hd rfl | exact dq3 hd rfl | omega) rfl (Nat.le_of_ble_eq_true rfl) ?_
  refine g_iconst 0 1 (gd rfl) rfl rfl ?_
  refine g_istore_n 2 (gd rfl) rfl (Nat.le_of_ble_eq_true rfl) ?_
  refine g_aload_n 3 (gd rfl) rfl rfl ?_
  refine g_getA (q2 := 83) 6 (gd rfl) rfl rfl rfl rfl ?_
  refine g_iconst (-1) 7 (gd rfl) rfl rfl ?_
  refine g_calls (As := [.ref (A 83), .int (Int32.ofInt (-1))]) (r := []) 10 (gd rfl) rfl rfl rfl rfl rfl (Nat.le_of_ble_eq_true rfl) (Nat.zero_le _) (Nat.zero_le _) (k_fillI 83 (by first | exact dq1 hd rfl | exact dq0 hd rfl | exact dq2 hd rfl | exact dq3 hd rfl | omega) hI (in_c (-1) rfl) (n := 32) rfl rfl rfl rfl) (fun v u h => ?_)
  obtain ⟨s7, hI7, hF7, rfl, rfl, fl7⟩ := h
  show GG _ _ _ _ _ _ _ _ [] _ _ _
  refine g_aload_n 11 (gd rfl) rfl rfl ?_
  refine g_getA (q2 := 82) 14 (gd rfl) rfl rfl rfl rfl ?_
  refine g_iconst (-1) 15 (gd rfl) rfl rfl ?_
  refine g_calls (As := [.ref (A 82), .int (Int32.ofInt (-1))]) (r := []) 18 (gd rfl) rfl rfl rfl rfl rfl (Nat.le_of_ble_eq_true rfl) (Nat.zero_le _) (Nat.zero_le _) (k_fillI 82 (by first | exact dq1 hd rfl | exact dq0 hd rfl | exact dq2 hd rfl | exact dq3 hd rfl | omega) hI7 (in_c (-1) rfl) (n := 32) rfl rfl rfl rfl) (fun v u h => ?_)
  obtain ⟨s15, hI15, hF15, rfl, rfl, fl15⟩ := h
  show GG _ _ _ _ _ _ _ _ [] _ _ _
  refine g_iconst 0 19 (gd rfl) rfl rfl ?_
  refine g_istore 21 (gd rfl) rfl (Nat.le_of_ble_eq_true rfl) ?_
  have n21 : ((Int32.ofInt 0)).toInt + (c1m (s15.1 83) 32 : Int) ≤ 32 := by have hq := c1m_le (w := s15.1 83) 32; have c0 : (Int32.ofInt 0).toInt = 0 := (by decide); omega
  have n21a : ∀ v : Nat, v < 32 → (s15.1 83 v).toInt < ((Int32.ofInt 0)).toInt := by intro v hv; rw [hF15.1 83 rfl, fl7 v hv]; decide
  exact gg_w (by first | exact Nat.le_of_ble_eq_true rfl | omega) (gg_f (gf_cons rfl (gf_cons rfl (gf_cons rfl (gf_cons rfl (gf_cons rfl gf_nil))))) (ct21 33 s15 (Int32.ofInt 0) (Int32.ofInt 0) hI15 (fr_tr rfl (fr_tr rfl fr_rf hF7) hF15) (in_w 0 32 (in_c 0 rfl) rfl) (in_w 0 32 (in_c 0 rfl) rfl) n21 n21a (m_in 33 (in_w 0 32 (in_c 0 rfl) rfl) rfl)))

def fm_184_76 : FM := ([83], [], [], [])
/-- GraphHouse$Trees.nameOthers -/
theorem k_184_76 {Z : AmZ} {A : Nat → Nat} {s : GS} {ex : va_W} {d : Nat} {X : AmX} {x1 : Int32} {x2 : Int32} (hd : 1 ≤ d) (hI : Inv s) (h1 : In x1 0 32) (h2 : In x2 0 32) (q_0 : (x2).toInt + (c1m (s.1 83) 32 : Int) ≤ 32) (q_1 : ∀ v : Nat, v < 32 → (s.1 83 v).toInt < (x2).toInt) : GC Z d 184 [.ref (A 76), .int x1, .int x2] (WW Z A s ++ ex) 0 0 (fun v u => ∃ t : GS, Inv t ∧ Fr fm_184_76 s t ∧ ∃ z : Int32, v = some (.int z) ∧ u = WW Z A t ++ ex ∧ In z 0 32 ∧ (RN t (x1).toInt (z).toInt)) X := by
  intro post xp hP hX
  have ct5 : ∀ (k5 : Nat) (sc5 : GS) (y5_3 : Int32) (y5_4 : Int32), Inv sc5 → Fr fm_184_76 s sc5 → (In y5_3 0 32) → (In y5_4 0 32) → ((y5_3).toInt + (c1m (sc5.1 83) 32 : Int) ≤ 32) → (∀ v : Nat, v < 32 → (sc5.1 83 v).toInt < (y5_3).toInt) → (∀ i : Nat, (i : Int) < (y5_4).toInt → 0 ≤ (sc5.1 83 i).toInt) → 32 - (y5_4).toInt < (k5 : Int) → GG Z (d - 1) 184 post (gx xp) (1 + k5 * 900) 5 (fun j => xlook j [(0, .ref (A 76)), (1, .int x1), (2, .int x2), (3, .int y5_3), (4, .int y5_4)]) [] (WW Z A sc5 ++ ex) 0 0 := by
    intro k5
    induction k5 with
    | zero => intro sc5 y5_3 y5_4 hIc5 hFc5 j5_3 j5_4 g5_0 g5_1 g5_2 mm5; exact m_no mm5 j5_4 rfl
    | succ k5 ih5 =>
      intro sc5 y5_3 y5_4 hIc5 hFc5 j5_3 j5_4 g5_0 g5_1 g5_2 mm5
      refine gg_w (M := 1 + k5 * 900 + 900) gws ?_
      refine g_iload 7 (gd rfl) rfl rfl ?_
      refine g_iload_n 8 (gd rfl) rfl rfl ?_
      refine g_cmp_ge 11 39 (gd rfl) rfl rfl (fun c8 => ?_) (fun c8 => ?_)
      · skip
        refine g_iload_n 40 (gd rfl) rfl rfl ?_
        have n40 : RN sc5 (x1).toInt (y5_3).toInt := by exact fun v hv => ⟨g5_1 v hv, fun h => g5_2 v (by (first | have a0 := oa4 h2 h1 j5_4 j5_3 | ((first | have a0 := in_u h2 | (have a0 := h2; unfold In at a0)); (first | have a1 := in_u h1 | (have a1 := h1; unfold In at a1)); (first | have a2 := in_u j5_4 | (have a2 := j5_4; unfold In at a2)); (first | have a3 := in_u j5_3 | (have a3 := j5_3; unfold In at a3)))); omega)⟩
        exact g_ireturn (gd rfl) rfl rfl (hP _ _ ⟨sc5, hIc5, hFc5, y5_3, rfl, rfl, in_w 0 32 j5_3 rfl, n40⟩)
      · skip
        have i8 := r_lt1 0 31 c8 j5_4 h1 rfl
        have i8a := r_lt2 1 32 c8 j5_4 h1 rfl
        refine g_aload_n 12 (gd rfl) rfl rfl ?_
        refine g_getA (q2 := 83) 15 (gd rfl) rfl rfl rfl rfl ?_
        refine g_iload 17 (gd rfl) rfl rfl ?_
        refine g_iaload 18 (gd rfl) rfl (n := 32) rfl (in_ix i8 rfl) (fun z17 e17 => ?_)
        have i17 := inv_I hIc5 (n := 32) (t := 0) (-1) 31 rfl (in_ix i8 rfl) rfl e17
        refine g_iconst (-1) 19 (gd rfl) rfl rfl ?_
        refine g_cmp_ne 22 33 (gd rfl) rfl rfl (fun c19 => ?_) (fun c19 => ?_)
        · skip
          have i19 := r_ne1 0 31 c19 i17 (in_c (-1) rfl) rfl
          refine g_iinc 36 (gd rfl) rfl rfl (Nat.le_of_ble_eq_true rfl) (fun z33 e33 => ?_)
          have i33 := in_add 1 32 e33 i8 (in_c 1 rfl) rfl rfl
          refine g_goto 5 (gd rfl) rfl ?_
          have n5 : (y5_3).toInt + (c1m (sc5.1 83) 32 : Int) ≤ 32 := by exact g5_0
          have n5a : ∀ v : Nat, v < 32 → (sc5.1 83 v).toInt < (y5_3).toInt := by exact g5_1
          have n5b : ∀ i : Nat, (i : Int) < (z33).toInt → 0 ≤ (sc5.1 83 i).toInt := by intro i hi; by_cases hq : i = (y5_4).toNatClampNeg; (rw [hq, ← e17]; have c0 : (Int32.ofInt (-1)).toInt = -1 := (by decide); have h7 := i17; unfold In at h7; (first | have a0 := oa5 h2 i8a i8 j5_3 i33 | ((first | have a0 := in_u h2 | (have a0 := h2; unfold In at a0)); (first | have a1 := in_u i8a | (have a1 := i8a; unfold In at a1)); (first | have a2 := in_u i8 | (have a2 := i8; unfold In at a2)); (first | have a3 := in_u j5_3 | (have a3 := j5_3; unfold In at a3)); (first | have a4 := in_u i33 | (have a4 := i33; unfold In at a4)))); have a5 := t_add e33 i8 (in_c 1 rfl) rfl; (first | have a6 := in_u ((in_c 1 rfl)) | (have a6 := (in_c 1 rfl); unfold In at a6)); omega); (exact g5_2 i (by have e9 : (y5_4).toNatClampNeg = (y5_4).toInt.toNat := rfl; (first | have a0 := oa5 h2 i8a i8 j5_3 i33 | ((first | have a0 := in_u h2 | (have a0 := h2; unfold In at a0)); (first | have a1 := in_u i8a | (have a1 := i8a; unfold In at a1)); (first | have a2 := in_u i8 | (have a2 := i8; unfold In at a2)); (first | have a3 := in_u j5_3 | (have a3 := j5_3; unfold In at a3)); (first | have a4 := in_u i33 | (have a4 := i33; unfold In at a4)))); have a5 := t_add e33 i8 (in_c 1 rfl) rfl; (first | have a6 := in_u ((in_c 1 rfl)) | (have a6 := (in_c 1 rfl); unfold In at a6)); omega))
          exact gg_w (by first | exact Nat.le_add_right _ _ | exact gw2 | exact gw3 | exact gwe rfl | exact gwf rfl | exact gwg rfl | exact gwh rfl | omega) (gg_f (gf_cons rfl (gf_cons rfl (gf_cons rfl (gf_cons rfl (gf_cons rfl gf_nil))))) (ih5 sc5 y5_3 z33 hIc5 hFc5 (in_w 0 32 j5_3 rfl) (in_w 0 32 i33 rfl) n5 n5a n5b (m_up mm5 (t_add e33 i8 (in_c 1 rfl) rfl) (in_w 1 1 (in_c 1 rfl) rfl))))
        · skip
          have i19 := r_eq1 (-1) (-1) c19 i17 (in_c (-1) rfl) rfl
          refine g_aload_n 23 (gd rfl) rfl rfl ?_
          refine g_getA (q2 := 83) 26 (gd rfl) rfl rfl rfl rfl ?_
          refine g_iload 28 (gd rfl) rfl rfl ?_
          refine g_iload_n 29 (gd rfl) rfl rfl ?_
          have i29 : In y5_3 0 31 := by have hq := c1m_pos (w := sc5.1 83) (n := 32) (by rw [← e17]; exact c19.trans (by decide)) (show (y5_4).toNatClampNeg < 32 from (by show (y5_4).toInt.toNat < 32; (first | have a0 := oa4 h2 i8a i8 j5_3 | ((first | have a0 := in_u h2 | (have a0 := h2; unfold In at a0)); (first | have a1 := in_u i8a | (have a1 := i8a; unfold In at a1)); (first | have a2 := in_u i8 | (have a2 := i8; unfold In at a2)); (first | have a3 := in_u j5_3 | (have a3 := j5_3; unfold In at a3)))); (first | exact zt_l (by decide) (by omega) | omega))); have h := g5_0; exact ⟨by (first | have a0 := oa4 h2 i8a i8 j5_3 | ((first | have a0 := in_u h2 | (have a0 := h2; unfold In at a0)); (first | have a1 := in_u i8a | (have a1 := i8a; unfold In at a1)); (first | have a2 := in_u i8 | (have a2 := i8; unfold In at a2)); (first | have a3 := in_u j5_3 | (have a3 := j5_3; unfold In at a3)))); omega, by (first | have a0 := oa4 h2 i8a i8 j5_3 | ((first | have a0 := in_u h2 | (have a0 := h2; unfold In at a0)); (first | have a1 := in_u i8a | (have a1 := i8a; unfold In at a1)); (first | have a2 := in_u i8 | (have a2 := i8; unfold In at a2)); (first | have a3 := in_u j5_3 | (have a3 := j5_3; unfold In at a3)))); omega⟩
          refine g_iastore 30 (gd rfl) rfl (n := 32) rfl (in_ix i8 rfl) ?_
          have hI29 := inv_sI (q := 83) (j := y5_4.toNatClampNeg) hIc5 rfl (in_w (-1) 31 i29 rfl)
          have hup := c1m_up (w := sc5.1 83) (j := (y5_4).toNatClampNeg) (x := y5_3) (by rw [← e17]; exact c19.trans (by decide)) (by (first | have a0 := oa4 h2 i8a i8 i29 | ((first | have a0 := in_u h2 | (have a0 := h2; unfold In at a0)); (first | have a1 := in_u i8a | (have a1 := i8a; unfold In at a1)); (first | have a2 := in_u i8 | (have a2 := i8; unfold In at a2)); (first | have a3 := in_u i29 | (have a3 := i29; unfold In at a3)))); omega) (n := 32) (show (y5_4).toNatClampNeg < 32 from (by show (y5_4).toInt.toNat < 32; (first | have a0 := oa4 h2 i8a i8 i29 | ((first | have a0 := in_u h2 | (have a0 := h2; unfold In at a0)); (first | have a1 := in_u i8a | (have a1 := i8a; unfold In at a1)); (first | have a2 := in_u i8 | (have a2 := i8; unfold In at a2)); (first | have a3 := in_u i29 | (have a3 := i29; unfold In at a3)))); (first | exact zt_l (by decide) (by omega) | omega)))
          refine g_iinc 33 (gd rfl) rfl rfl (Nat.le_of_ble_eq_true rfl) (fun z30 e30 => ?_)
          have i30 := in_add 1 32 e30 i29 (in_c 1 rfl) rfl rfl
          refine g_iinc 36 (gd rfl) rfl rfl (Nat.le_of_ble_eq_true rfl) (fun z33 e33 => ?_)
          have i33 := in_add 1 32 e33 i8 (in_c 1 rfl) rfl rfl
          refine g_goto 5 (gd rfl) rfl ?_
          have n5 : (z30).toInt + (c1m ((sI sc5 83 y5_4.toNatClampNeg y5_3).1 83) 32 : Int) ≤ 32 := by rw [sI_q]; (first | have a0 := oa5 h2 i8a i8 i29 i33 | ((first | have a0 := in_u h2 | (have a0 := h2; unfold In at a0)); (first | have a1 := in_u i8a | (have a1 := i8a; unfold In at a1)); (first | have a2 := in_u i8 | (have a2 := i8; unfold In at a2)); (first | have a3 := in_u i29 | (have a3 := i29; unfold In at a3)); (first | have a4 := in_u i33 | (have a4 := i33; unfold In at a4)))); have a5 := t_add e33 i8 (in_c 1 rfl) rfl; (first | have a6 := oa2 ((in_c 1 rfl)) i30 | ((first | have a6 := in_u ((in_c 1 rfl)) | (have a6 := (in_c 1 rfl); unfold In at a6)); (first | have a7 := in_u i30 | (have a7 := i30; unfold In at a7)))); have a8 := t_add e30 i29 (in_c 1 rfl) rfl; omega
          have n5a : ∀ v : Nat, v < 32 → ((sI sc5 83 y5_4.toNatClampNeg y5_3).1 83 v).toInt < (z30).toInt := by intro v hv; rw [sI_q]; unfold upd; by_cases hq : v = (y5_4).toNatClampNeg; (rw [if_pos hq]; (first | have a0 := oa5 h2 i8a i8 i29 i33 | ((first | have a0 := in_u h2 | (have a0 := h2; unfold In at a0)); (first | have a1 := in_u i8a | (have a1 := i8a; unfold In at a1)); (first | have a2 := in_u i8 | (have a2 := i8; unfold In at a2)); (first | have a3 := in_u i29 | (have a3 := i29; unfold In at a3)); (first | have a4 := in_u i33 | (have a4 := i33; unfold In at a4)))); have a5 := t_add e33 i8 (in_c 1 rfl) rfl; (first | have a6 := oa2 ((in_c 1 rfl)) i30 | ((first | have a6 := in_u ((in_c 1 rfl)) | (have a6 := (in_c 1 rfl); unfold In at a6)); (first | have a7 := in_u i30 | (have a7 := i30; unfold In at a7)))); have a8 := t_add e30 i29 (in_c 1 rfl) rfl; omega); (rw [if_neg hq]; have h := g5_1 v hv; (first | have a0 := oa5 h2 i8a i8 i29 i33 | ((first | have a0 := in_u h2 | (have a0 := h2; unfold In at a0)); (first | have a1 := in_u i8a | (have a1 := i8a; unfold In at a1)); (first | have a2 := in_u i8 | (have a2 := i8; unfold In at a2)); (first | have a3 := in_u i29 | (have a3 := i29; unfold In at a3)); (first | have a4 := in_u i33 | (have a4 := i33; unfold In at a4)))); have a5 := t_add e33 i8 (in_c 1 rfl) rfl; (first | have a6 := oa2 ((in_c 1 rfl)) i30 | ((first | have a6 := in_u ((in_c 1 rfl)) | (have a6 := (in_c 1 rfl); unfold In at a6)); (first | have a7 := in_u i30 | (have a7 := i30; unfold In at a7)))); have a8 := t_add e30 i29 (in_c 1 rfl) rfl; omega)
          have n5b : ∀ i : Nat, (i : Int) < (z33).toInt → 0 ≤ ((sI sc5 83 y5_4.toNatClampNeg y5_3).1 83 i).toInt := by intro i hi; rw [sI_q]; unfold upd; by_cases hq : i = (y5_4).toNatClampNeg; (rw [if_pos hq]; (first | have a0 := oa5 h2 i8a i8 i29 i33 | ((first | have a0 := in_u h2 | (have a0 := h2; unfold In at a0)); (first | have a1 := in_u i8a | (have a1 := i8a; unfold In at a1)); (first | have a2 := in_u i8 | (have a2 := i8; unfold In at a2)); (first | have a3 := in_u i29 | (have a3 := i29; unfold In at a3)); (first | have a4 := in_u i33 | (have a4 := i33; unfold In at a4)))); have a5 := t_add e33 i8 (in_c 1 rfl) rfl; (first | have a6 := oa2 ((in_c 1 rfl)) i30 | ((first | have a6 := in_u ((in_c 1 rfl)) | (have a6 := (in_c 1 rfl); unfold In at a6)); (first | have a7 := in_u i30 | (have a7 := i30; unfold In at a7)))); have a8 := t_add e30 i29 (in_c 1 rfl) rfl; omega); (rw [if_neg hq]; exact g5_2 i (by have e9 : (y5_4).toNatClampNeg = (y5_4).toInt.toNat := rfl; (first | have a0 := oa5 h2 i8a i8 i29 i33 | ((first | have a0 := in_u h2 | (have a0 := h2; unfold In at a0)); (first | have a1 := in_u i8a | (have a1 := i8a; unfold In at a1)); (first | have a2 := in_u i8 | (have a2 := i8; unfold In at a2)); (first | have a3 := in_u i29 | (have a3 := i29; unfold In at a3)); (first | have a4 := in_u i33 | (have a4 := i33; unfold In at a4)))); have a5 := t_add e33 i8 (in_c 1 rfl) rfl; (first | have a6 := oa2 ((in_c 1 rfl)) i30 | ((first | have a6 := in_u ((in_c 1 rfl)) | (have a6 := (in_c 1 rfl); unfold In at a6)); (first | have a7 := in_u i30 | (have a7 := i30; unfold In at a7)))); have a8 := t_add e30 i29 (in_c 1 rfl) rfl; omega))
          exact gg_w (by first | exact Nat.le_add_right _ _ | exact gw2 | exact gw3 | exact gwe rfl | exact gwf rfl | exact gwg rfl | exact gwh rfl | omega) (gg_f (gf_cons rfl (gf_cons rfl (gf_cons rfl (gf_cons rfl (gf_cons rfl gf_nil))))) (ih5 (sI sc5 83 y5_4.toNatClampNeg y5_3) z30 z33 hI29 (fr_sI rfl hFc5) (in_w 0 32 i30 rfl) (in_w 0 32 i33 rfl) n5 n5a n5b (m_up mm5 (t_add e33 i8 (in_c 1 rfl) rfl) (in_w 1 1 (in_c 1 rfl) rfl))))
  refine g_enter2 (k := 184) (N := 30601) (by first | exact dq1 hd rfl | exact dq0 hd rfl | exact dq2 hd rfl | exact dq3 hd rfl | omega) rfl (Nat.le_of_ble_eq_true rfl) ?_
  refine g_iload_n 1 (gd rfl) rfl rfl ?_
  refine g_istore_n 2 (gd rfl) rfl (Nat.le_of_ble_eq_true rfl) ?_
  refine g_iconst 0 3 (gd rfl) rfl rfl ?_
  refine g_istore 5 (gd rfl) rfl (Nat.le_of_ble_eq_true rfl) ?_
  have n5 : (x2).toInt + (c1m (s.1 83) 32 : Int) ≤ 32 := by exact q_0
  have n5a : ∀ v : Nat, v < 32 → (s.1 83 v).toInt < (x2).toInt := by exact q_1
  have n5b : ∀ i : Nat, (i : Int) < ((Int32.ofInt 0)).toInt → 0 ≤ (s.1 83 i).toInt := by intro i hi; exfalso; have c0 : (Int32.ofInt 0).toInt = 0 := (by decide); omega
  exact gg_w (by first | exact Nat.le_of_ble_eq_true rfl | omega) (gg_f (gf_cons rfl (gf_cons rfl (gf_cons rfl (gf_cons rfl (gf_cons rfl gf_nil))))) (ct5 33 s x2 (Int32.ofInt 0) hI fr_rf (in_w 0 32 h2 rfl) (in_w 0 32 (in_c 0 rfl) rfl) n5 n5a n5b (m_in 33 (in_w 0 32 (in_c 0 rfl) rfl) rfl)))

def fm_185_76 : FM := ([77, 78], [79], [], [])
/-- GraphHouse$Trees.shrinkRings -/
theorem k_185_76 {Z : AmZ} {A : Nat → Nat} {s : GS} {ex : va_W} {d : Nat} {X : AmX}  (hd : 1 ≤ d) (hI : Inv s) (q_0 : ∃ n m : Int, AE s n ∧ n ≤ 32 ∧ RN s n m) : GC Z d 185 [.ref (A 76)] (WW Z A s ++ ex) 0 0 (fun v u => ∃ t : GS, Inv t ∧ Fr fm_185_76 s t ∧ v = none ∧ u = WW Z A t ++ ex ∧ (∀ n m : Int, AE s n → n ≤ 32 → RN s n m → AE t m)) X := by
  intro post xp hP hX
  obtain ⟨u_76_0, e_76_0⟩ : ∃ w, w = s.2.2.1 76 0 := ⟨_, rfl⟩
  have ro_76_0 := inv_F hI 0 160 rfl e_76_0
  have ct2 : ∀ (k2 : Nat) (sc2 : GS) (y2_1 : Int32), Inv sc2 → Fr fm_185_76 s sc2 → (In y2_1 0 160) → (SHR s sc2 (y2_1).toInt.toNat) → 160 - (y2_1).toInt < (k2 : Int) → GG Z (d - 1) 185 post (gx xp) (1 + k2 * 900) 2 (fun j => xlook j [(0, .ref (A 76)), (1, .int y2_1)]) [] (WW Z A sc2 ++ ex) 0 0 := by
    intro k2
    induction k2 with
    | zero => intro sc2 y2_1 hIc2 hFc2 j2_1 g2_0 mm2; exact m_no mm2 j2_1 rfl
    | succ k2 ih2 =>
      intro sc2 y2_1 hIc2 hFc2 j2_1 g2_0 mm2
      refine gg_w (M := 1 + k2 * 900 + 900) gws ?_
      refine g_iload_n 3 (gd rfl) rfl rfl ?_
      refine g_aload_n 4 (gd rfl) rfl rfl ?_
      refine g_getI 7 (gd rfl) rfl rfl rfl (fun z4 e4 => ?_)
      have q4 : u_76_0 = z4 := (fr_F e_76_0 hFc2 rfl).trans e4.symm
      subst q4
      refine g_cmp_ge 10 74 (gd rfl) rfl rfl (fun c7 => ?_) (fun c7 => ?_)
      · skip
        have n74 : ∀ n m : Int, AE s n → n ≤ 32 → RN s n m → AE sc2 m := by have hFF : Fr fm_185_76 s sc2 := hFc2; exact fun n m ha hn hr => shr_ae g2_0 ha hn hr (by rw [← e_76_0]; (first | have a0 := oa2 ro_76_0 j2_1 | ((first | have a0 := in_u ro_76_0 | (have a0 := ro_76_0; unfold In at a0)); (first | have a1 := in_u j2_1 | (have a1 := j2_1; unfold In at a1)))); omega) (hFF.2.2.1 76 0 rfl)
        exact g_return (gd rfl) rfl (hP _ _ ⟨sc2, hIc2, hFc2, rfl, rfl, n74⟩)
      · skip
        have i7 := r_lt1 0 159 c7 j2_1 ro_76_0 rfl
        have i7a := r_lt2 1 160 c7 j2_1 ro_76_0 rfl
        refine g_aload_n 11 (gd rfl) rfl rfl ?_
        refine g_getA (q2 := 78) 14 (gd rfl) rfl rfl rfl rfl ?_
        refine g_iload_n 15 (gd rfl) rfl rfl ?_
        refine g_iaload 16 (gd rfl) rfl (n := 160) rfl (in_ix i7 rfl) (fun z15 e15 => ?_)
        have i15 := inv_I hIc2 (n := 160) (t := 0) 0 31 rfl (in_ix i7 rfl) rfl e15
        refine g_istore_n 17 (gd rfl) rfl (Nat.le_of_ble_eq_true rfl) ?_
        refine g_aload_n 18 (gd rfl) rfl rfl ?_
        refine g_getA (q2 := 77) 21 (gd rfl) rfl rfl rfl rfl ?_
        refine g_iload_n 22 (gd rfl) rfl rfl ?_
        refine g_iaload 23 (gd rfl) rfl (n := 160) rfl (in_ix i7 rfl) (fun z22 e22 => ?_)
        have i22 := inv_I hIc2 (n := 160) (t := 0) 0 31 rfl (in_ix i7 rfl) rfl e22
        refine g_istore_n 24 (gd rfl) rfl (Nat.le_of_ble_eq_true rfl) ?_
        obtain ⟨n9, m9, a9, b9, r9⟩ := q_0
        have hae := a9 (y2_1).toInt.toNat (by rw [← e_76_0]; (first | have a0 := in_u i7a | (have a0 := i7a; unfold In at a0)); (first | have a1 := in_u i7 | (have a1 := i7; unfold In at a1)); (first | have a2 := in_u i22 | (have a2 := i22; unfold In at a2)); (first | have a3 := in_u i15 | (have a3 := i15; unfold In at a3)); omega)
        have ht : z22 = s.1 77 (y2_1).toInt.toNat := (by rw [e22]; exact (g2_0.2 _ (Nat.le_refl _)).1)
        have hh : z15 = s.1 78 (y2_1).toInt.toNat := (by rw [e15]; exact (g2_0.2 _ (Nat.le_refl _)).2)
        rw [← ht, ← hh] at hae
        have rt := r9 (z22).toNatClampNeg (by show (z22).toInt.toNat < 32; omega)
        have rh := r9 (z15).toNatClampNeg (by show (z15).toInt.toNat < 32; omega)
        have kt : (((z22).toNatClampNeg : Nat) : Int) = (z22).toInt := (by show ((z22).toInt.toNat : Int) = _; omega)
        have kh : (((z15).toNatClampNeg : Nat) : Int) = (z15).toInt := (by show ((z15).toInt.toNat : Int) = _; omega)
        refine g_iload_n 25 (gd rfl) rfl rfl ?_
        refine g_iload_n 26 (gd rfl) rfl rfl ?_
        refine g_cmp_eq 29 44 (gd rfl) rfl rfl (fun c26 => ?_) (fun c26 => ?_)
        · skip
          refine g_aload_n 45 (gd rfl) rfl rfl ?_
          refine g_getA (q2 := 77) 48 (gd rfl) rfl rfl rfl rfl ?_
          refine g_iload_n 49 (gd rfl) rfl rfl ?_
          refine g_aload_n 50 (gd rfl) rfl rfl ?_
          refine g_getA (q2 := 83) 53 (gd rfl) rfl rfl rfl rfl ?_
          refine g_iload_n 54 (gd rfl) rfl rfl ?_
          refine g_iaload 55 (gd rfl) rfl (n := 32) rfl (in_ix i22 rfl) (fun z54 e54 => ?_)
          have i54 := inv_I hIc2 (n := 32) (t := 0) (-1) 31 rfl (in_ix i22 rfl) rfl e54
          have h54 : z54 = s.1 83 (z22).toNatClampNeg := (by rw [e54]; exact congrFun (hFc2.1 83 rfl) _)
          have i55 : In z54 0 31 := by have h9 := rt.2 (by omega); rw [← h54] at h9; exact ⟨h9, i54.2⟩
          refine g_iastore 56 (gd rfl) rfl (n := 160) rfl (in_ix i7 rfl) ?_
          have hI55 := inv_sI (q := 77) (j := y2_1.toNatClampNeg) hIc2 rfl (in_w 0 31 i55 rfl)
          refine g_aload_n 57 (gd rfl) rfl rfl ?_
          refine g_getA (q2 := 78) 60 (gd rfl) rfl rfl rfl rfl ?_
          refine g_iload_n 61 (gd rfl) rfl rfl ?_
          refine g_aload_n 62 (gd rfl) rfl rfl ?_
          refine g_getA (q2 := 83) 65 (gd rfl) rfl rfl rfl rfl ?_
          refine g_iload_n 66 (gd rfl) rfl rfl ?_
          refine g_iaload 67 (gd rfl) rfl (n := 32) rfl (in_ix i15 rfl) (fun z66 e66 => ?_)
          have i66 := inv_I hI55 (n := 32) (t := 0) (-1) 31 rfl (in_ix i15 rfl) rfl e66
          have h66 : z66 = s.1 83 (z15).toNatClampNeg := (by rw [e66, sI_r rfl]; exact congrFun (hFc2.1 83 rfl) _)
          have i67 : In z66 0 31 := by have h9 := rh.2 (by omega); rw [← h66] at h9; exact ⟨h9, i66.2⟩
          refine g_iastore 68 (gd rfl) rfl (n := 160) rfl (in_ix i7 rfl) ?_
          have hI67 := inv_sI (q := 78) (j := y2_1.toNatClampNeg) hI55 rfl (in_w 0 31 i67 rfl)
          refine g_iinc 71 (gd rfl) rfl rfl (Nat.le_of_ble_eq_true rfl) (fun z68 e68 => ?_)
          have i68 := in_add 1 160 e68 i7 (in_c 1 rfl) rfl rfl
          refine g_goto 2 (gd rfl) rfl ?_
          have n2 : SHR s (sI (sI sc2 77 y2_1.toNatClampNeg z54) 78 y2_1.toNatClampNeg z66) (z68).toInt.toNat := by rw [show (z68).toInt.toNat = (y2_1).toInt.toNat + 1 from (by (first | have a0 := oa5 i7a i7 i22 i15 i68 | ((first | have a0 := in_u i7a | (have a0 := i7a; unfold In at a0)); (first | have a1 := in_u i7 | (have a1 := i7; unfold In at a1)); (first | have a2 := in_u i22 | (have a2 := i22; unfold In at a2)); (first | have a3 := in_u i15 | (have a3 := i15; unfold In at a3)); (first | have a4 := in_u i68 | (have a4 := i68; unfold In at a4)))); have a5 := t_add e68 i7 (in_c 1 rfl) rfl; (first | have a6 := in_u ((in_c 1 rfl)) | (have a6 := (in_c 1 rfl); unfold In at a6)); omega)]; exact shr_s g2_0 (by rw [sI_r rfl, sI_q]; rfl) (by rw [sI_q, sI_r rfl]; rfl) (by rw [h54, ht]) (by rw [h66, hh])
          exact gg_w (by first | exact Nat.le_add_right _ _ | exact gw2 | exact gw3 | exact gwe rfl | exact gwf rfl | exact gwg rfl | exact gwh rfl | omega) (gg_f (gf_cons rfl (gf_cons rfl gf_nil)) (ih2 (sI (sI sc2 77 y2_1.toNatClampNeg z54) 78 y2_1.toNatClampNeg z66) z68 hI67 (fr_sI rfl (fr_sI rfl hFc2)) (in_w 0 160 i68 rfl) n2 (m_up mm2 (t_add e68 i7 (in_c 1 rfl) rfl) (in_w 1 1 (in_c 1 rfl) rfl))))
        · skip
          refine g_aload_n 30 (gd rfl) rfl rfl ?_
          refine g_getA (q2 := 79) 33 (gd rfl) rfl rfl rfl rfl ?_
          refine g_iload_n 34 (gd rfl) rfl rfl ?_
          refine g_dup2 35 (gd rfl) rfl rfl rfl ?_
          refine g_laload 36 (gd rfl) rfl (n := 160) rfl (in_ix i7 rfl) (fun z35 e35 => ?_)
          refine g_aload_n 37 (gd rfl) rfl rfl ?_
          refine g_getA (q2 := 80) 40 (gd rfl) rfl rfl rfl rfl ?_
          refine g_iload_n 41 (gd rfl) rfl rfl ?_
          refine g_laload 42 (gd rfl) rfl (n := 32) rfl (in_ix i15 rfl) (fun z41 e41 => ?_)
          refine g_lsub 43 (gd rfl) rfl (fun z42 e42 => ?_)
          refine g_lastore 44 (gd rfl) rfl (n := 160) rfl (in_ix i7 rfl) ?_
          have hI43 := inv_sL (q := 79) (j := y2_1.toNatClampNeg) (x := z42) hIc2 rfl (l_rng z42)
          refine g_aload_n 45 (gd rfl) rfl rfl ?_
          refine g_getA (q2 := 77) 48 (gd rfl) rfl rfl rfl rfl ?_
          refine g_iload_n 49 (gd rfl) rfl rfl ?_
          refine g_aload_n 50 (gd rfl) rfl rfl ?_
          refine g_getA (q2 := 83) 53 (gd rfl) rfl rfl rfl rfl ?_
          refine g_iload_n 54 (gd rfl) rfl rfl ?_
          refine g_iaload 55 (gd rfl) rfl (n := 32) rfl (in_ix i22 rfl) (fun z54 e54 => ?_)
          have i54 := inv_I hI43 (n := 32) (t := 0) (-1) 31 rfl (in_ix i22 rfl) rfl e54
          have h54 : z54 = s.1 83 (z22).toNatClampNeg := (by rw [e54]; exact congrFun (hFc2.1 83 rfl) _)
          have i55 : In z54 0 31 := by have h9 := rt.2 (by omega); rw [← h54] at h9; exact ⟨h9, i54.2⟩
          refine g_iastore 56 (gd rfl) rfl (n := 160) rfl (in_ix i7 rfl) ?_
          have hI55 := inv_sI (q := 77) (j := y2_1.toNatClampNeg) hI43 rfl (in_w 0 31 i55 rfl)
          refine g_aload_n 57 (gd rfl) rfl rfl ?_
          refine g_getA (q2 := 78) 60 (gd rfl) rfl rfl rfl rfl ?_
          refine g_iload_n 61 (gd rfl) rfl rfl ?_
          refine g_aload_n 62 (gd rfl) rfl rfl ?_
          refine g_getA (q2 := 83) 65 (gd rfl) rfl rfl rfl rfl ?_
          refine g_iload_n 66 (gd rfl) rfl rfl ?_
          refine g_iaload 67 (gd rfl) rfl (n := 32) rfl (in_ix i15 rfl) (fun z66 e66 => ?_)
          have i66 := inv_I hI55 (n := 32) (t := 0) (-1) 31 rfl (in_ix i15 rfl) rfl e66
          have h66 : z66 = s.1 83 (z15).toNatClampNeg := (by rw [e66, sI_r rfl]; exact congrFun (hFc2.1 83 rfl) _)
          have i67 : In z66 0 31 := by have h9 := rh.2 (by omega); rw [← h66] at h9; exact ⟨h9, i66.2⟩
          refine g_iastore 68 (gd rfl) rfl (n := 160) rfl (in_ix i7 rfl) ?_
          have hI67 := inv_sI (q := 78) (j := y2_1.toNatClampNeg) hI55 rfl (in_w 0 31 i67 rfl)
          refine g_iinc 71 (gd rfl) rfl rfl (Nat.le_of_ble_eq_true rfl) (fun z68 e68 => ?_)
          have i68 := in_add 1 160 e68 i7 (in_c 1 rfl) rfl rfl
          refine g_goto 2 (gd rfl) rfl ?_
          have n2 : SHR s (sI (sI (sL sc2 79 y2_1.toNatClampNeg z42) 77 y2_1.toNatClampNeg z54) 78 y2_1.toNatClampNeg z66) (z68).toInt.toNat := by rw [show (z68).toInt.toNat = (y2_1).toInt.toNat + 1 from (by (first | have a0 := oa5 i7a i7 i22 i15 i68 | ((first | have a0 := in_u i7a | (have a0 := i7a; unfold In at a0)); (first | have a1 := in_u i7 | (have a1 := i7; unfold In at a1)); (first | have a2 := in_u i22 | (have a2 := i22; unfold In at a2)); (first | have a3 := in_u i15 | (have a3 := i15; unfold In at a3)); (first | have a4 := in_u i68 | (have a4 := i68; unfold In at a4)))); have a5 := t_add e68 i7 (in_c 1 rfl) rfl; (first | have a6 := in_u ((in_c 1 rfl)) | (have a6 := (in_c 1 rfl); unfold In at a6)); omega)]; exact shr_s g2_0 (by rw [sI_r rfl, sI_q]; rfl) (by rw [sI_q, sI_r rfl]; rfl) (by rw [h54, ht]) (by rw [h66, hh])
          exact gg_w (by first | exact Nat.le_add_right _ _ | exact gw2 | exact gw3 | exact gwe rfl | exact gwf rfl | exact gwg rfl | exact gwh rfl | omega) (gg_f (gf_cons rfl (gf_cons rfl gf_nil)) (ih2 (sI (sI (sL sc2 79 y2_1.toNatClampNeg z42) 77 y2_1.toNatClampNeg z54) 78 y2_1.toNatClampNeg z66) z68 hI67 (fr_sI rfl (fr_sI rfl (fr_sL rfl hFc2))) (in_w 0 160 i68 rfl) n2 (m_up mm2 (t_add e68 i7 (in_c 1 rfl) rfl) (in_w 1 1 (in_c 1 rfl) rfl))))
  refine g_enter2 (k := 185) (N := 145801) (by first | exact dq1 hd rfl | exact dq0 hd rfl | exact dq2 hd rfl | exact dq3 hd rfl | omega) rfl (Nat.le_of_ble_eq_true rfl) ?_
  refine g_iconst 0 1 (gd rfl) rfl rfl ?_
  refine g_istore_n 2 (gd rfl) rfl (Nat.le_of_ble_eq_true rfl) ?_
  have n2 : SHR s s ((Int32.ofInt 0)).toInt.toNat := by exact shr_0
  exact gg_w (by first | exact Nat.le_of_ble_eq_true rfl | omega) (gg_f (gf_cons rfl (gf_cons rfl gf_nil)) (ct2 161 s (Int32.ofInt 0) hI fr_rf (in_w 0 160 (in_c 0 rfl) rfl) n2 (m_in 161 (in_w 0 160 (in_c 0 rfl) rfl) rfl)))

def fm_191_76 : FM := ([], [85], [], [])
/-- GraphHouse$Trees.swapRows -/
theorem k_191_76 {Z : AmZ} {A : Nat → Nat} {s : GS} {ex : va_W} {d : Nat} {X : AmX} {x1 : Int32} {x2 : Int32} (hd : 1 ≤ d) (hI : Inv s) (h1 : In x1 0 30) (h2 : In x2 0 30) : GC Z d 191 [.ref (A 76), .int x1, .int x2] (WW Z A s ++ ex) 0 0 (fun v u => ∃ t : GS, Inv t ∧ Fr fm_191_76 s t ∧ v = none ∧ u = WW Z A t ++ ex) X := by
  intro post xp hP hX
  have ct2 : ∀ (k2 : Nat) (sc2 : GS) (y2_3 : Int32), Inv sc2 → Fr fm_191_76 s sc2 → (In y2_3 0 32) → 32 - (y2_3).toInt < (k2 : Int) → GG Z (d - 1) 191 post (gx xp) (1 + k2 * 900) 2 (fun j => xlook j [(0, .ref (A 76)), (1, .int x1), (2, .int x2), (3, .int y2_3)]) [] (WW Z A sc2 ++ ex) 0 0 := by
    intro k2
    induction k2 with
    | zero => intro sc2 y2_3 hIc2 hFc2 j2_3 mm2; exact m_no mm2 j2_3 rfl
    | succ k2 ih2 =>
      intro sc2 y2_3 hIc2 hFc2 j2_3 mm2
      refine gg_w (M := 1 + k2 * 900 + 900) gws ?_
      refine g_iload_n 3 (gd rfl) rfl rfl ?_
      refine g_bipush 32 5 (gd rfl) rfl rfl ?_
      refine g_cmp_ge 8 62 (gd rfl) rfl rfl (fun c5 => ?_) (fun c5 => ?_)
      · skip
        have i5 := r_le2 32 32 c5 (in_c 32 rfl) j2_3 rfl
        exact g_return (gd rfl) rfl (hP _ _ ⟨sc2, hIc2, hFc2, rfl, rfl⟩)
      · skip
        have i5 := r_lt1 0 31 c5 j2_3 (in_c 32 rfl) rfl
        refine g_aload_n 9 (gd rfl) rfl rfl ?_
        refine g_getA (q2 := 85) 12 (gd rfl) rfl rfl rfl rfl ?_
        refine g_iload_n 13 (gd rfl) rfl rfl ?_
        refine g_bipush 32 15 (gd rfl) rfl rfl ?_
        refine g_imul 16 (gd rfl) rfl (fun z15 e15 => ?_)
        have i15 := in_mulc 32 0 960 (Or.inr e15) h1 rfl rfl
        refine g_iload_n 17 (gd rfl) rfl rfl ?_
        refine g_iadd 18 (gd rfl) rfl (fun z17 e17 => ?_)
        have i17 := in_add 0 991 e17 i15 i5 rfl rfl
        refine g_laload 19 (gd rfl) rfl (n := 1024) rfl (in_ix i17 rfl) (fun z18 e18 => ?_)
        refine g_lstore 21 (gd rfl) rfl (Nat.le_of_ble_eq_true rfl) ?_
        refine g_aload_n 22 (gd rfl) rfl rfl ?_
        refine g_getA (q2 := 85) 25 (gd rfl) rfl rfl rfl rfl ?_
        refine g_iload_n 26 (gd rfl) rfl rfl ?_
        refine g_bipush 32 28 (gd rfl) rfl rfl ?_
        refine g_imul 29 (gd rfl) rfl (fun z28 e28 => ?_)
        have i28 := in_mulc 32 0 960 (Or.inr e28) h1 rfl rfl
        refine g_iload_n 30 (gd rfl) rfl rfl ?_
        refine g_iadd 31 (gd rfl) rfl (fun z30 e30 => ?_)
        have i30 := in_add 0 991 e30 i28 i5 rfl rfl
        refine g_aload_n 32 (gd rfl) rfl rfl ?_
        refine g_getA (q2 := 85) 35 (gd rfl) rfl rfl rfl rfl ?_
        refine g_iload_n 36 (gd rfl) rfl rfl ?_
        refine g_bipush 32 38 (gd rfl) rfl rfl ?_
        refine g_imul 39 (gd rfl) rfl (fun z38 e38 => ?_)
        have i38 := in_mulc 32 0 960 (Or.inr e38) h2 rfl rfl
        refine g_iload_n 40 (gd rfl) rfl rfl ?_
        refine g_iadd 41 (gd rfl) rfl (fun z40 e40 => ?_)
        have i40 := in_add 0 991 e40 i38 i5 rfl rfl
        refine g_laload 42 (gd rfl) rfl (n := 1024) rfl (in_ix i40 rfl) (fun z41 e41 => ?_)
        refine g_lastore 43 (gd rfl) rfl (n := 1024) rfl (in_ix i30 rfl) ?_
        have hI42 := inv_sL (q := 85) (j := z30.toNatClampNeg) (x := z41) hIc2 rfl (l_rng z41)
        refine g_aload_n 44 (gd rfl) rfl rfl ?_
        refine g_getA (q2 := 85) 47 (gd rfl) rfl rfl rfl rfl ?_
        refine g_iload_n 48 (gd rfl) rfl rfl ?_
        refine g_bipush 32 50 (gd rfl) rfl rfl ?_
        refine g_imul 51 (gd rfl) rfl (fun z50 e50 => ?_)
        have i50 := in_mulc 32 0 960 (Or.inr e50) h2 rfl rfl
        refine g_iload_n 52 (gd rfl) rfl rfl ?_
        refine g_iadd 53 (gd rfl) rfl (fun z52 e52 => ?_)
        have i52 := in_add 0 991 e52 i50 i5 rfl rfl
        refine g_lload 55 (gd rfl) rfl rfl ?_
        refine g_lastore 56 (gd rfl) rfl (n := 1024) rfl (in_ix i52 rfl) ?_
        have hI55 := inv_sL (q := 85) (j := z52.toNatClampNeg) (x := z18) hI42 rfl (l_rng z18)
        refine g_iinc 59 (gd rfl) rfl rfl (Nat.le_of_ble_eq_true rfl) (fun z56 e56 => ?_)
        have i56 := in_add 1 32 e56 i5 (in_c 1 rfl) rfl rfl
        refine g_goto 2 (gd rfl) rfl ?_
        exact gg_w (by first | exact Nat.le_add_right _ _ | exact gw2 | exact gw3 | exact gwe rfl | exact gwf rfl | exact gwg rfl | exact gwh rfl | omega) (gg_f (gf_cons rfl (gf_cons rfl (gf_cons rfl (gf_cons rfl gf_nil)))) (ih2 (sL (sL sc2 85 z30.toNatClampNeg z41) 85 z52.toNatClampNeg z18) z56 hI55 (fr_sL rfl (fr_sL rfl hFc2)) (in_w 0 32 i56 rfl) (m_up mm2 (t_add e56 i5 (in_c 1 rfl) rfl) (in_w 1 1 (in_c 1 rfl) rfl))))
  refine g_enter2 (k := 191) (N := 30601) (by first | exact dq1 hd rfl | exact dq0 hd rfl | exact dq2 hd rfl | exact dq3 hd rfl | omega) rfl (Nat.le_of_ble_eq_true rfl) ?_
  refine g_iconst 0 1 (gd rfl) rfl rfl ?_
  refine g_istore_n 2 (gd rfl) rfl (Nat.le_of_ble_eq_true rfl) ?_
  exact gg_w (by first | exact Nat.le_of_ble_eq_true rfl | omega) (gg_f (gf_cons rfl (gf_cons rfl (gf_cons rfl (gf_cons rfl gf_nil)))) (ct2 33 s (Int32.ofInt 0) hI fr_rf (in_w 0 32 (in_c 0 rfl) rfl) (m_in 33 (in_w 0 32 (in_c 0 rfl) rfl) rfl)))

/-- GraphHouse$Trees.power -/
theorem k_192 {Z : AmZ} {A : Nat → Nat} {s : GS} {ex : va_W} {d : Nat} {X : AmX} {x0 : Int64} {x1 : Int64} (hd : 1 ≤ d) (hI : Inv s)  : GC Z d 192 [.long x0, .long x1] (WW Z A s ++ ex) 0 0 (fun v u => ∃ z : Int64, v = some (.long z) ∧ u = WW Z A s ++ ex) X := by
  intro post xp hP hX
  have ct9 : ∀ (k9 : Nat) (y9_4 : Int64) (y9_6 : Int64) (y9_8 : Int64), ((y9_8.toInt.toNat : Nat) : Int) < (k9 : Int) → GG Z (d - 1) 192 post (gx xp) (1 + k9 * 900) 9 (fun j => xlook j [(0, .long x0), (2, .long x1), (4, .long y9_4), (6, .long y9_6), (8, .long y9_8)]) [] (WW Z A s ++ ex) 0 0 := by
    intro k9
    induction k9 with
    | zero => intro y9_4 y9_6 y9_8  mm9; exact absurd mm9 (Int.not_lt.mpr (Int.natCast_nonneg _))
    | succ k9 ih9 =>
      intro y9_4 y9_6 y9_8  mm9
      refine gg_w (M := 1 + k9 * 900 + 900) gws ?_
      refine g_lload 11 (gd rfl) rfl rfl ?_
      refine g_lconst 0 12 (gd rfl) rfl rfl ?_
      refine g_lcmp 13 (gd rfl) rfl (fun z12 e12 => ?_)
      have i12 := lc_in e12
      refine g_if_le 16 56 (gd rfl) rfl rfl (fun c13 => ?_) (fun c13 => ?_)
      · skip
        have i13 := z_le (-1) 0 c13 i12 rfl
        have c13a := lc_le e12 c13
        have i13a := lr_le1 (-9223372036854775808) 0 c13a (l_rng y9_8) (l_c 0 rfl) rfl
        refine g_lload 58 (gd rfl) rfl rfl ?_
        exact g_lreturn (gd rfl) rfl (hP _ _ ⟨y9_4, rfl, rfl⟩)
      · skip
        have i13 := z_gt 1 1 c13 i12 rfl
        have c13a := lc_gt e12 c13
        have i13a := lr_lt2 1 9223372036854775807 c13a (l_c 0 rfl) (l_rng y9_8) rfl
        refine g_lload 18 (gd rfl) rfl rfl ?_
        refine g_lconst 1 19 (gd rfl) rfl rfl ?_
        refine g_land 20 (gd rfl) rfl (fun z19 e19 => ?_)
        have i19 := inl_and2 e19 (l_c 1 rfl) rfl
        refine g_lconst 0 21 (gd rfl) rfl rfl ?_
        refine g_lcmp 22 (gd rfl) rfl (fun z21 e21 => ?_)
        have i21 := lc_in e21
        refine g_if_eq 25 36 (gd rfl) rfl rfl (fun c22 => ?_) (fun c22 => ?_)
        · skip
          have i22 := z_eq 0 0 c22 i21 rfl
          have c22a := lc_eq e21 c22
          have i22a := lr_eq1 0 0 c22a i19 (l_c 0 rfl) rfl
          refine g_lload 38 (gd rfl) rfl rfl ?_
          refine g_lload 40 (gd rfl) rfl rfl ?_
          refine g_lmul 41 (gd rfl) rfl (fun z40 e40 => ?_)
          refine g_ldc2_w 1000000007 44 (gd rfl) rfl rfl ?_
          refine g_lrem 45 (gd rfl) rfl (by decide) (fun z44 e44 => ?_)
          have i44 := l_rem (-1000000006) 1000000006 e44 rfl
          refine g_lstore 47 (gd rfl) rfl (Nat.le_of_ble_eq_true rfl) ?_
          refine g_lload 49 (gd rfl) rfl rfl ?_
          refine g_iconst 1 50 (gd rfl) rfl rfl ?_
          refine g_lshr 51 (gd rfl) rfl (fun z50 e50 => ?_)
          refine g_lstore 53 (gd rfl) rfl (Nat.le_of_ble_eq_true rfl) ?_
          refine g_goto 9 (gd rfl) rfl ?_
          exact gg_w (by first | exact Nat.le_add_right _ _ | exact gw2 | exact gw3 | exact gwe rfl | exact gwf rfl | exact gwg rfl | exact gwh rfl | omega) (gg_f (gf_cons rfl (gf_cons rfl (gf_cons rfl (gf_cons rfl (gf_cons rfl gf_nil))))) (ih9  y9_4 z44 z50   (mh2 e50 i13a rfl mm9)))
        · skip
          have c22a := lc_ne e21 c22
          have i22 := lr_ne1 1 1 c22a i19 (l_c 0 rfl) rfl
          refine g_lload 27 (gd rfl) rfl rfl ?_
          refine g_lload 29 (gd rfl) rfl rfl ?_
          refine g_lmul 30 (gd rfl) rfl (fun z29 e29 => ?_)
          refine g_ldc2_w 1000000007 33 (gd rfl) rfl rfl ?_
          refine g_lrem 34 (gd rfl) rfl (by decide) (fun z33 e33 => ?_)
          have i33 := l_rem (-1000000006) 1000000006 e33 rfl
          refine g_lstore 36 (gd rfl) rfl (Nat.le_of_ble_eq_true rfl) ?_
          refine g_lload 38 (gd rfl) rfl rfl ?_
          refine g_lload 40 (gd rfl) rfl rfl ?_
          refine g_lmul 41 (gd rfl) rfl (fun z40 e40 => ?_)
          refine g_ldc2_w 1000000007 44 (gd rfl) rfl rfl ?_
          refine g_lrem 45 (gd rfl) rfl (by decide) (fun z44 e44 => ?_)
          have i44 := l_rem (-1000000006) 1000000006 e44 rfl
          refine g_lstore 47 (gd rfl) rfl (Nat.le_of_ble_eq_true rfl) ?_
          refine g_lload 49 (gd rfl) rfl rfl ?_
          refine g_iconst 1 50 (gd rfl) rfl rfl ?_
          refine g_lshr 51 (gd rfl) rfl (fun z50 e50 => ?_)
          refine g_lstore 53 (gd rfl) rfl (Nat.le_of_ble_eq_true rfl) ?_
          refine g_goto 9 (gd rfl) rfl ?_
          exact gg_w (by first | exact Nat.le_add_right _ _ | exact gw2 | exact gw3 | exact gwe rfl | exact gwf rfl | exact gwg rfl | exact gwh rfl | omega) (gg_f (gf_cons rfl (gf_cons rfl (gf_cons rfl (gf_cons rfl (gf_cons rfl gf_nil))))) (ih9  z33 z44 z50   (mh2 e50 i13a rfl mm9)))
  refine g_enter2 (k := 192) (N := 16602069666338596455301) (by first | exact dq1 hd rfl | exact dq0 hd rfl | exact dq2 hd rfl | exact dq3 hd rfl | omega) rfl (Nat.le_of_ble_eq_true rfl) ?_
  refine g_lconst 1 1 (gd rfl) rfl rfl ?_
  refine g_lstore 3 (gd rfl) rfl (Nat.le_of_ble_eq_true rfl) ?_
  refine g_lload_n 4 (gd rfl) rfl rfl ?_
  refine g_lstore 6 (gd rfl) rfl (Nat.le_of_ble_eq_true rfl) ?_
  refine g_lload_n 7 (gd rfl) rfl rfl ?_
  refine g_lstore 9 (gd rfl) rfl (Nat.le_of_ble_eq_true rfl) ?_
  exact gg_w (by first | exact Nat.le_of_ble_eq_true rfl | omega) (gg_f (gf_cons rfl (gf_cons rfl (gf_cons rfl (gf_cons rfl (gf_cons rfl gf_nil))))) (ct9 18446744073709551616  (Int64.ofInt 1) x0 x1   (mh_in _)))

/-- GraphHouse$Ways.stepFrom -/
theorem k_196_49_2 {Z : AmZ} {A : Nat → Nat} {s : GS} {ex : va_W} {d : Nat} {X : AmX} {x2 : Int32} (hd : 3 ≤ d) (hI : Inv s) (h2 : In x2 0 31) : GC Z d 196 [.ref (A 49), .ref (A 2), .int x2] (WW Z A s ++ ex) 0 0 (fun v u => ∃ z : Int32, v = some (.int z) ∧ u = WW Z A s ++ ex ∧ In z (-1) 159) X := by
  intro post xp hP hX
  have ct7 : ∀ (k7 : Nat) (y7_3 : Int32), (In y7_3 0 160) → 160 - (y7_3).toInt < (k7 : Int) → GG Z (d - 1) 196 post (gx xp) (1 + k7 * 900) 7 (fun j => xlook j [(0, .ref (A 49)), (1, .ref (A 2)), (2, .int x2), (3, .int y7_3)]) [] (WW Z A s ++ ex) 0 0 := by
    intro k7
    induction k7 with
    | zero => intro y7_3 j7_3 mm7; exact m_no mm7 j7_3 rfl
    | succ k7 ih7 =>
      intro y7_3 j7_3 mm7
      refine gg_w (M := 1 + k7 * 900 + 900) gws ?_
      refine g_iload_n 8 (gd rfl) rfl rfl ?_
      refine g_aload_n 9 (gd rfl) rfl rfl ?_
      refine g_getA (q2 := 12) 12 (gd rfl) rfl rfl rfl rfl ?_
      refine g_iload_n 13 (gd rfl) rfl rfl ?_
      refine g_iconst 1 14 (gd rfl) rfl rfl ?_
      refine g_iadd 15 (gd rfl) rfl (fun z14 e14 => ?_)
      have i14 := in_add 1 32 e14 h2 (in_c 1 rfl) rfl rfl
      refine g_iaload 16 (gd rfl) rfl (n := 33) rfl (in_ix i14 rfl) (fun z15 e15 => ?_)
      have i15 := inv_I hI (n := 33) (t := 0) 0 160 rfl (in_ix i14 rfl) rfl e15
      refine g_cmp_ge 19 84 (gd rfl) rfl rfl (fun c16 => ?_) (fun c16 => ?_)
      · skip
        refine g_iconst (-1) 85 (gd rfl) rfl rfl ?_
        exact g_ireturn (gd rfl) rfl rfl (hP _ _ ⟨(Int32.ofInt (-1)), rfl, rfl, in_w (-1) 159 (in_c (-1) rfl) rfl⟩)
      · skip
        have i16 := r_lt1 0 159 c16 j7_3 i15 rfl
        have i16a := r_lt2 1 160 c16 j7_3 i15 rfl
        refine g_aload_n 20 (gd rfl) rfl rfl ?_
        refine g_getA (q2 := 13) 23 (gd rfl) rfl rfl rfl rfl ?_
        refine g_iload_n 24 (gd rfl) rfl rfl ?_
        refine g_iaload 25 (gd rfl) rfl (n := 160) rfl (in_ix i16 rfl) (fun z24 e24 => ?_)
        have i24 := inv_I hI (n := 160) (t := 0) 0 159 rfl (in_ix i16 rfl) rfl e24
        refine g_istore 27 (gd rfl) rfl (Nat.le_of_ble_eq_true rfl) ?_
        refine g_aload_n 28 (gd rfl) rfl rfl ?_
        refine g_getA (q2 := 50) 31 (gd rfl) rfl rfl rfl rfl ?_
        refine g_aload_n 32 (gd rfl) rfl rfl ?_
        refine g_getA (q2 := 5) 35 (gd rfl) rfl rfl rfl rfl ?_
        refine g_iload 37 (gd rfl) rfl rfl ?_
        refine g_iaload 38 (gd rfl) rfl (n := 160) rfl (in_ix i24 rfl) (fun z37 e37 => ?_)
        have i37 := inv_I hI (n := 160) (t := 0) 0 31 rfl (in_ix i24 rfl) rfl e37
        refine g_laload 39 (gd rfl) rfl (n := 32) rfl (in_ix i37 rfl) (fun z38 e38 => ?_)
        refine g_ldc2_w 9223372036854775807 42 (gd rfl) rfl rfl ?_
        refine g_lcmp 43 (gd rfl) rfl (fun z42 e42 => ?_)
        have i42 := lc_in e42
        refine g_if_eq 46 78 (gd rfl) rfl rfl (fun c43 => ?_) (fun c43 => ?_)
        · skip
          have i43 := z_eq 0 0 c43 i42 rfl
          have c43a := lc_eq e42 c43
          have i43a := lr_eq1 9223372036854775807 9223372036854775807 c43a (l_rng z38) (l_c 9223372036854775807 rfl) rfl
          refine g_iinc 81 (gd rfl) rfl rfl (Nat.le_of_ble_eq_true rfl) (fun z78 e78 => ?_)
          have i78 := in_add 1 160 e78 i16 (in_c 1 rfl) rfl rfl
          refine g_goto 7 (gd rfl) rfl ?_
          exact gg_w (by first | exact Nat.le_add_right _ _ | exact gw2 | exact gw3 | exact gwe rfl | exact gwf rfl | exact gwg rfl | exact gwh rfl | omega) (gg_f (gf_cons rfl (gf_cons rfl (gf_cons rfl (gf_cons rfl gf_nil)))) (ih7  z78  (in_w 0 160 i78 rfl) (m_up mm7 (t_add e78 i16 (in_c 1 rfl) rfl) (in_w 1 1 (in_c 1 rfl) rfl))))
        · skip
          have c43a := lc_ne e42 c43
          have i43 := lr_ne1 (-9223372036854775808) 9223372036854775806 c43a (l_rng z38) (l_c 9223372036854775807 rfl) rfl
          refine g_aload_n 47 (gd rfl) rfl rfl ?_
          refine g_iload 49 (gd rfl) rfl rfl ?_
          refine g_calls (As := [.ref (A 2), .int z24]) (r := []) 52 (gd rfl) rfl rfl rfl rfl rfl (Nat.le_of_ble_eq_true rfl) (mc := 0) (ms := 0) (Nat.zero_le _) (Nat.zero_le _) (P := fun v u => _) ?_ (fun v u h => h)
          intro po49 xx49 hp49 hx49
          refine g_enter2 (k := 197) (N := 300) (by first | exact dq1 hd rfl | exact dq0 hd rfl | exact dq2 hd rfl | exact dq3 hd rfl | omega) rfl (Nat.le_of_ble_eq_true rfl) ?_
          refine g_aload_n 1 (gd rfl) rfl rfl ?_
          refine g_getA (q2 := 6) 4 (gd rfl) rfl rfl rfl rfl ?_
          refine g_iload_n 5 (gd rfl) rfl rfl ?_
          refine g_iaload 6 (gd rfl) rfl (n := 160) rfl (in_ix i24 rfl) (fun z49x5 e49x5 => ?_)
          have i49x5 := inv_I hI (n := 160) (t := 0) (-1000000) 1000000 rfl (in_ix i24 rfl) rfl e49x5
          refine g_i2l 7 (gd rfl) rfl (fun z49x6 e49x6 => ?_)
          have i49x6 := l_i e49x6 i49x5
          refine g_ldc2_w 1024 10 (gd rfl) rfl rfl ?_
          refine g_lmul 11 (gd rfl) rfl (fun z49x10 e49x10 => ?_)
          have i49x10 := l_mulc 1024 (-1024000000) 1024000000 (Or.inr e49x10) i49x6 rfl
          refine g_lconst 1 12 (gd rfl) rfl rfl ?_
          refine g_ladd 13 (gd rfl) rfl (fun z49x12 e49x12 => ?_)
          have i49x12 := l_add (-1023999999) 1024000001 e49x12 i49x10 (l_c 1 rfl) rfl
          refine g_lreturn (gd rfl) rfl (hp49 _ _ ?_)
          show GG _ _ _ _ _ _ _ _ [.long z49x12] _ _ _
          refine g_aload_n 53 (gd rfl) rfl rfl ?_
          refine g_getA (q2 := 50) 56 (gd rfl) rfl rfl rfl rfl ?_
          refine g_aload_n 57 (gd rfl) rfl rfl ?_
          refine g_getA (q2 := 5) 60 (gd rfl) rfl rfl rfl rfl ?_
          refine g_iload 62 (gd rfl) rfl rfl ?_
          refine g_iaload 63 (gd rfl) rfl (n := 160) rfl (in_ix i24 rfl) (fun z62 e62 => ?_)
          have q62 : z37 = z62 := (e37).trans e62.symm
          subst q62
          refine g_laload 64 (gd rfl) rfl (n := 32) rfl (in_ix i37 rfl) (fun z63 e63 => ?_)
          refine g_ladd 65 (gd rfl) rfl (fun z64 e64 => ?_)
          refine g_aload_n 66 (gd rfl) rfl rfl ?_
          refine g_getA (q2 := 50) 69 (gd rfl) rfl rfl rfl rfl ?_
          refine g_iload_n 70 (gd rfl) rfl rfl ?_
          refine g_laload 71 (gd rfl) rfl (n := 32) rfl (in_ix h2 rfl) (fun z70 e70 => ?_)
          refine g_lcmp 72 (gd rfl) rfl (fun z71 e71 => ?_)
          have i71 := lc_in e71
          refine g_if_ne 75 78 (gd rfl) rfl rfl (fun c72 => ?_) (fun c72 => ?_)
          · skip
            have c72a := lc_ne e71 c72
            refine g_iinc 81 (gd rfl) rfl rfl (Nat.le_of_ble_eq_true rfl) (fun z78 e78 => ?_)
            have i78 := in_add 1 160 e78 i16 (in_c 1 rfl) rfl rfl
            refine g_goto 7 (gd rfl) rfl ?_
            exact gg_w (by first | exact Nat.le_add_right _ _ | exact gw2 | exact gw3 | exact gwe rfl | exact gwf rfl | exact gwg rfl | exact gwh rfl | omega) (gg_f (gf_cons rfl (gf_cons rfl (gf_cons rfl (gf_cons rfl gf_nil)))) (ih7  z78  (in_w 0 160 i78 rfl) (m_up mm7 (t_add e78 i16 (in_c 1 rfl) rfl) (in_w 1 1 (in_c 1 rfl) rfl))))
          · skip
            have i72 := z_eq 0 0 c72 i71 rfl
            have c72a := lc_eq e71 c72
            refine g_iload 77 (gd rfl) rfl rfl ?_
            exact g_ireturn (gd rfl) rfl rfl (hP _ _ ⟨z24, rfl, rfl, in_w (-1) 159 i24 rfl⟩)
  refine g_enter2 (k := 196) (N := 145801) (by first | exact dq1 hd rfl | exact dq0 hd rfl | exact dq2 hd rfl | exact dq3 hd rfl | omega) rfl (Nat.le_of_ble_eq_true rfl) ?_
  refine g_aload_n 1 (gd rfl) rfl rfl ?_
  refine g_getA (q2 := 12) 4 (gd rfl) rfl rfl rfl rfl ?_
  refine g_iload_n 5 (gd rfl) rfl rfl ?_
  refine g_iaload 6 (gd rfl) rfl (n := 33) rfl (in_ix h2 rfl) (fun z5 e5 => ?_)
  have i5 := inv_I hI (n := 33) (t := 0) 0 160 rfl (in_ix h2 rfl) rfl e5
  refine g_istore_n 7 (gd rfl) rfl (Nat.le_of_ble_eq_true rfl) ?_
  exact gg_w (by first | exact Nat.le_of_ble_eq_true rfl | omega) (gg_f (gf_cons rfl (gf_cons rfl (gf_cons rfl (gf_cons rfl gf_nil)))) (ct7 161  z5  (in_w 0 160 i5 rfl) (m_in 161 (in_w 0 160 i5 rfl) rfl)))

/-- GraphHouse$Ways.stepFrom -/
theorem k_196_49_32 {Z : AmZ} {A : Nat → Nat} {s : GS} {ex : va_W} {d : Nat} {X : AmX} {x2 : Int32} (hd : 3 ≤ d) (hI : Inv s) (h2 : In x2 0 31) : GC Z d 196 [.ref (A 49), .ref (A 32), .int x2] (WW Z A s ++ ex) 0 0 (fun v u => ∃ z : Int32, v = some (.int z) ∧ u = WW Z A s ++ ex ∧ In z (-1) 159) X := by
  intro post xp hP hX
  have ct7 : ∀ (k7 : Nat) (y7_3 : Int32), (In y7_3 0 160) → 160 - (y7_3).toInt < (k7 : Int) → GG Z (d - 1) 196 post (gx xp) (1 + k7 * 900) 7 (fun j => xlook j [(0, .ref (A 49)), (1, .ref (A 32)), (2, .int x2), (3, .int y7_3)]) [] (WW Z A s ++ ex) 0 0 := by
    intro k7
    induction k7 with
    | zero => intro y7_3 j7_3 mm7; exact m_no mm7 j7_3 rfl
    | succ k7 ih7 =>
      intro y7_3 j7_3 mm7
      refine gg_w (M := 1 + k7 * 900 + 900) gws ?_
      refine g_iload_n 8 (gd rfl) rfl rfl ?_
      refine g_aload_n 9 (gd rfl) rfl rfl ?_
      refine g_getA (q2 := 42) 12 (gd rfl) rfl rfl rfl rfl ?_
      refine g_iload_n 13 (gd rfl) rfl rfl ?_
      refine g_iconst 1 14 (gd rfl) rfl rfl ?_
      refine g_iadd 15 (gd rfl) rfl (fun z14 e14 => ?_)
      have i14 := in_add 1 32 e14 h2 (in_c 1 rfl) rfl rfl
      refine g_iaload 16 (gd rfl) rfl (n := 33) rfl (in_ix i14 rfl) (fun z15 e15 => ?_)
      have i15 := inv_I hI (n := 33) (t := 0) 0 160 rfl (in_ix i14 rfl) rfl e15
      refine g_cmp_ge 19 84 (gd rfl) rfl rfl (fun c16 => ?_) (fun c16 => ?_)
      · skip
        refine g_iconst (-1) 85 (gd rfl) rfl rfl ?_
        exact g_ireturn (gd rfl) rfl rfl (hP _ _ ⟨(Int32.ofInt (-1)), rfl, rfl, in_w (-1) 159 (in_c (-1) rfl) rfl⟩)
      · skip
        have i16 := r_lt1 0 159 c16 j7_3 i15 rfl
        have i16a := r_lt2 1 160 c16 j7_3 i15 rfl
        refine g_aload_n 20 (gd rfl) rfl rfl ?_
        refine g_getA (q2 := 43) 23 (gd rfl) rfl rfl rfl rfl ?_
        refine g_iload_n 24 (gd rfl) rfl rfl ?_
        refine g_iaload 25 (gd rfl) rfl (n := 160) rfl (in_ix i16 rfl) (fun z24 e24 => ?_)
        have i24 := inv_I hI (n := 160) (t := 0) 0 159 rfl (in_ix i16 rfl) rfl e24
        refine g_istore 27 (gd rfl) rfl (Nat.le_of_ble_eq_true rfl) ?_
        refine g_aload_n 28 (gd rfl) rfl rfl ?_
        refine g_getA (q2 := 50) 31 (gd rfl) rfl rfl rfl rfl ?_
        refine g_aload_n 32 (gd rfl) rfl rfl ?_
        refine g_getA (q2 := 35) 35 (gd rfl) rfl rfl rfl rfl ?_
        refine g_iload 37 (gd rfl) rfl rfl ?_
        refine g_iaload 38 (gd rfl) rfl (n := 160) rfl (in_ix i24 rfl) (fun z37 e37 => ?_)
        have i37 := inv_I hI (n := 160) (t := 0) 0 31 rfl (in_ix i24 rfl) rfl e37
        refine g_laload 39 (gd rfl) rfl (n := 32) rfl (in_ix i37 rfl) (fun z38 e38 => ?_)
        refine g_ldc2_w 9223372036854775807 42 (gd rfl) rfl rfl ?_
        refine g_lcmp 43 (gd rfl) rfl (fun z42 e42 => ?_)
        have i42 := lc_in e42
        refine g_if_eq 46 78 (gd rfl) rfl rfl (fun c43 => ?_) (fun c43 => ?_)
        · skip
          have i43 := z_eq 0 0 c43 i42 rfl
          have c43a := lc_eq e42 c43
          have i43a := lr_eq1 9223372036854775807 9223372036854775807 c43a (l_rng z38) (l_c 9223372036854775807 rfl) rfl
          refine g_iinc 81 (gd rfl) rfl rfl (Nat.le_of_ble_eq_true rfl) (fun z78 e78 => ?_)
          have i78 := in_add 1 160 e78 i16 (in_c 1 rfl) rfl rfl
          refine g_goto 7 (gd rfl) rfl ?_
          exact gg_w (by first | exact Nat.le_add_right _ _ | exact gw2 | exact gw3 | exact gwe rfl | exact gwf rfl | exact gwg rfl | exact gwh rfl | omega) (gg_f (gf_cons rfl (gf_cons rfl (gf_cons rfl (gf_cons rfl gf_nil)))) (ih7  z78  (in_w 0 160 i78 rfl) (m_up mm7 (t_add e78 i16 (in_c 1 rfl) rfl) (in_w 1 1 (in_c 1 rfl) rfl))))
        · skip
          have c43a := lc_ne e42 c43
          have i43 := lr_ne1 (-9223372036854775808) 9223372036854775806 c43a (l_rng z38) (l_c 9223372036854775807 rfl) rfl
          refine g_aload_n 47 (gd rfl) rfl rfl ?_
          refine g_iload 49 (gd rfl) rfl rfl ?_
          refine g_calls (As := [.ref (A 32), .int z24]) (r := []) 52 (gd rfl) rfl rfl rfl rfl rfl (Nat.le_of_ble_eq_true rfl) (mc := 0) (ms := 0) (Nat.zero_le _) (Nat.zero_le _) (P := fun v u => _) ?_ (fun v u h => h)
          intro po49 xx49 hp49 hx49
          refine g_enter2 (k := 197) (N := 300) (by first | exact dq1 hd rfl | exact dq0 hd rfl | exact dq2 hd rfl | exact dq3 hd rfl | omega) rfl (Nat.le_of_ble_eq_true rfl) ?_
          refine g_aload_n 1 (gd rfl) rfl rfl ?_
          refine g_getA (q2 := 36) 4 (gd rfl) rfl rfl rfl rfl ?_
          refine g_iload_n 5 (gd rfl) rfl rfl ?_
          refine g_iaload 6 (gd rfl) rfl (n := 160) rfl (in_ix i24 rfl) (fun z49x5 e49x5 => ?_)
          have i49x5 := inv_I hI (n := 160) (t := 0) (-1000000) 1000000 rfl (in_ix i24 rfl) rfl e49x5
          refine g_i2l 7 (gd rfl) rfl (fun z49x6 e49x6 => ?_)
          have i49x6 := l_i e49x6 i49x5
          refine g_ldc2_w 1024 10 (gd rfl) rfl rfl ?_
          refine g_lmul 11 (gd rfl) rfl (fun z49x10 e49x10 => ?_)
          have i49x10 := l_mulc 1024 (-1024000000) 1024000000 (Or.inr e49x10) i49x6 rfl
          refine g_lconst 1 12 (gd rfl) rfl rfl ?_
          refine g_ladd 13 (gd rfl) rfl (fun z49x12 e49x12 => ?_)
          have i49x12 := l_add (-1023999999) 1024000001 e49x12 i49x10 (l_c 1 rfl) rfl
          refine g_lreturn (gd rfl) rfl (hp49 _ _ ?_)
          show GG _ _ _ _ _ _ _ _ [.long z49x12] _ _ _
          refine g_aload_n 53 (gd rfl) rfl rfl ?_
          refine g_getA (q2 := 50) 56 (gd rfl) rfl rfl rfl rfl ?_
          refine g_aload_n 57 (gd rfl) rfl rfl ?_
          refine g_getA (q2 := 35) 60 (gd rfl) rfl rfl rfl rfl ?_
          refine g_iload 62 (gd rfl) rfl rfl ?_
          refine g_iaload 63 (gd rfl) rfl (n := 160) rfl (in_ix i24 rfl) (fun z62 e62 => ?_)
          have q62 : z37 = z62 := (e37).trans e62.symm
          subst q62
          refine g_laload 64 (gd rfl) rfl (n := 32) rfl (in_ix i37 rfl) (fun z63 e63 => ?_)
          refine g_ladd 65 (gd rfl) rfl (fun z64 e64 => ?_)
          refine g_aload_n 66 (gd rfl) rfl rfl ?_
          refine g_getA (q2 := 50) 69 (gd rfl) rfl rfl rfl rfl ?_
          refine g_iload_n 70 (gd rfl) rfl rfl ?_
          refine g_laload 71 (gd rfl) rfl (n := 32) rfl (in_ix h2 rfl) (fun z70 e70 => ?_)
          refine g_lcmp 72 (gd rfl) rfl (fun z71 e71 => ?_)
          have i71 := lc_in e71
          refine g_if_ne 75 78 (gd rfl) rfl rfl (fun c72 => ?_) (fun c72 => ?_)
          · skip
            have c72a := lc_ne e71 c72
            refine g_iinc 81 (gd rfl) rfl rfl (Nat.le_of_ble_eq_true rfl) (fun z78 e78 => ?_)
            have i78 := in_add 1 160 e78 i16 (in_c 1 rfl) rfl rfl
            refine g_goto 7 (gd rfl) rfl ?_
            exact gg_w (by first | exact Nat.le_add_right _ _ | exact gw2 | exact gw3 | exact gwe rfl | exact gwf rfl | exact gwg rfl | exact gwh rfl | omega) (gg_f (gf_cons rfl (gf_cons rfl (gf_cons rfl (gf_cons rfl gf_nil)))) (ih7  z78  (in_w 0 160 i78 rfl) (m_up mm7 (t_add e78 i16 (in_c 1 rfl) rfl) (in_w 1 1 (in_c 1 rfl) rfl))))
          · skip
            have i72 := z_eq 0 0 c72 i71 rfl
            have c72a := lc_eq e71 c72
            refine g_iload 77 (gd rfl) rfl rfl ?_
            exact g_ireturn (gd rfl) rfl rfl (hP _ _ ⟨z24, rfl, rfl, in_w (-1) 159 i24 rfl⟩)
  refine g_enter2 (k := 196) (N := 145801) (by first | exact dq1 hd rfl | exact dq0 hd rfl | exact dq2 hd rfl | exact dq3 hd rfl | omega) rfl (Nat.le_of_ble_eq_true rfl) ?_
  refine g_aload_n 1 (gd rfl) rfl rfl ?_
  refine g_getA (q2 := 42) 4 (gd rfl) rfl rfl rfl rfl ?_
  refine g_iload_n 5 (gd rfl) rfl rfl ?_
  refine g_iaload 6 (gd rfl) rfl (n := 33) rfl (in_ix h2 rfl) (fun z5 e5 => ?_)
  have i5 := inv_I hI (n := 33) (t := 0) 0 160 rfl (in_ix h2 rfl) rfl e5
  refine g_istore_n 7 (gd rfl) rfl (Nat.le_of_ble_eq_true rfl) ?_
  exact gg_w (by first | exact Nat.le_of_ble_eq_true rfl | omega) (gg_f (gf_cons rfl (gf_cons rfl (gf_cons rfl (gf_cons rfl gf_nil)))) (ct7 161  z5  (in_w 0 160 i5 rfl) (m_in 161 (in_w 0 160 i5 rfl) rfl)))

def fm_199_49_2 : FM := ([], [50], [], [])
/-- GraphHouse$Ways.relax -/
theorem k_199_49_2 {Z : AmZ} {A : Nat → Nat} {s : GS} {ex : va_W} {d : Nat} {X : AmX} {x2 : Int32} {u_2_4 : Int32} {u_2_0 : Int32} (hd : 4 ≤ d) (hI : Inv s) (e_2_4 : u_2_4 = s.2.2.1 2 4) (e_2_0 : u_2_0 = s.2.2.1 2 0) (p_0 : (u_2_4).toInt = (u_2_0).toInt) : GC Z d 199 [.ref (A 49), .ref (A 2), .int x2] (WW Z A s ++ ex) 0 0 (fun v u => ∃ t : GS, Inv t ∧ Fr fm_199_49_2 s t ∧ ∃ z : Int32, v = some (.int z) ∧ u = WW Z A t ++ ex ∧ In z (-2147483648) 2147483647) X := by
  intro post xp hP hX
  have ro_2_4 := inv_F hI (-1) 4000 rfl e_2_4
  have ro_2_0 := inv_F hI 0 4000 rfl e_2_0
  have ct5 : ∀ (k5 : Nat) (sc5 : GS) (y5_3 : Int32) (y5_4 : Int32), Inv sc5 → Fr fm_199_49_2 s sc5 → ((y5_4.toBitVec.toNat : Nat) : Int) < (k5 : Int) → GG Z (d - 1) 199 post (gx xp) (1 + k5 * 147601) 5 (fun j => xlook j [(0, .ref (A 49)), (1, .ref (A 2)), (2, .int x2), (3, .int y5_3), (4, .int y5_4)]) [] (WW Z A sc5 ++ ex) 0 0 := by
    intro k5
    induction k5 with
    | zero => intro sc5 y5_3 y5_4 hIc5 hFc5  mm5; exact absurd mm5 (Int.not_lt.mpr (Int.natCast_nonneg _))
    | succ k5 ih5 =>
      intro sc5 y5_3 y5_4 hIc5 hFc5  mm5
      refine gg_w (M := 1 + k5 * 147601 + 147601) gws ?_
      have ct26 : ∀ (k26 : Nat) (sc26 : GS) (y26_3 : Int32) (y26_5 : Int32) (y26_6 : Int32), Inv sc26 → Fr fm_199_49_2 s sc26 → (In y26_5 0 31) → (In y26_6 0 160) → ((y5_4).toInt ≠ 0) → 160 - (y26_6).toInt < (k26 : Int) → GG Z (d - 1) 199 post (gx xp) (1 + k5 * 147601 + 1 + k26 * 900) 26 (fun j => xlook j [(0, .ref (A 49)), (1, .ref (A 2)), (2, .int x2), (3, .int y26_3), (4, .int y5_4), (5, .int y26_5), (6, .int y26_6)]) [] (WW Z A sc26 ++ ex) 0 0 := by
        intro k26
        induction k26 with
        | zero => intro sc26 y26_3 y26_5 y26_6 hIc26 hFc26 j26_5 j26_6 nz26_4 mm26; exact m_no mm26 j26_6 rfl
        | succ k26 ih26 =>
          intro sc26 y26_3 y26_5 y26_6 hIc26 hFc26 j26_5 j26_6 nz26_4 mm26
          refine gg_w (M := 1 + k5 * 147601 + 1 + k26 * 900 + 900) gws ?_
          refine g_iload 28 (gd rfl) rfl rfl ?_
          refine g_aload_n 29 (gd rfl) rfl rfl ?_
          refine g_getA (q2 := 14) 32 (gd rfl) rfl rfl rfl rfl ?_
          refine g_iload 34 (gd rfl) rfl rfl ?_
          refine g_iconst 1 35 (gd rfl) rfl rfl ?_
          refine g_iadd 36 (gd rfl) rfl (fun z35 e35 => ?_)
          have i35 := in_add 1 32 e35 j26_5 (in_c 1 rfl) rfl rfl
          refine g_iaload 37 (gd rfl) rfl (n := 33) rfl (in_ix i35 rfl) (fun z36 e36 => ?_)
          have i36 := inv_I hIc26 (n := 33) (t := 0) 0 160 rfl (in_ix i35 rfl) rfl e36
          refine g_cmp_ge 40 117 (gd rfl) rfl rfl (fun c37 => ?_) (fun c37 => ?_)
          · skip
            refine g_iload 119 (gd rfl) rfl rfl ?_
            refine g_iload 121 (gd rfl) rfl rfl ?_
            refine g_iconst 1 122 (gd rfl) rfl rfl ?_
            refine g_isub 123 (gd rfl) rfl (fun z122 e122 => ?_)
            refine g_iand 124 (gd rfl) rfl (fun z123 e123 => ?_)
            refine g_istore 126 (gd rfl) rfl (Nat.le_of_ble_eq_true rfl) ?_
            refine g_goto 5 (gd rfl) rfl ?_
            exact gg_w (by first | exact Nat.le_add_right _ _ | exact gw2 | exact gw3 | exact gwe rfl | exact gwf rfl | exact gwg rfl | exact gwh rfl | omega) (gg_f (gf_cons rfl (gf_cons rfl (gf_cons rfl (gf_cons rfl (gf_cons rfl gf_nil))))) (ih5 sc26 y26_3 z123 hIc26 hFc26  (mb e123 e122 nz26_4 mm5)))
          · skip
            have i37 := r_lt1 0 159 c37 j26_6 i36 rfl
            have i37a := r_lt2 1 160 c37 j26_6 i36 rfl
            refine g_aload_n 41 (gd rfl) rfl rfl ?_
            refine g_getA (q2 := 15) 44 (gd rfl) rfl rfl rfl rfl ?_
            refine g_iload 46 (gd rfl) rfl rfl ?_
            refine g_iaload 47 (gd rfl) rfl (n := 160) rfl (in_ix i37 rfl) (fun z46 e46 => ?_)
            have i46 := inv_I hIc26 (n := 160) (t := 0) 0 159 rfl (in_ix i37 rfl) rfl e46
            refine g_istore 49 (gd rfl) rfl (Nat.le_of_ble_eq_true rfl) ?_
            refine g_aload_n 50 (gd rfl) rfl rfl ?_
            refine g_getA (q2 := 4) 53 (gd rfl) rfl rfl rfl rfl ?_
            refine g_iload 55 (gd rfl) rfl rfl ?_
            refine g_iaload 56 (gd rfl) rfl (n := 160) rfl (in_ix i46 rfl) (fun z55 e55 => ?_)
            have i55 := inv_I hIc26 (n := 160) (t := 0) (-1) 31 rfl (in_ix i46 rfl) rfl e55
            have i56 : In z55 0 31 := by exact tg_b (b := 2) hIc26.2.1 rfl rfl rfl rfl rfl (by rw [← (show u_2_4 = sc26.2.2.1 2 4 from fr_F e_2_4 hFc26 rfl), ← (show u_2_0 = sc26.2.2.1 2 0 from fr_F e_2_0 hFc26 rfl)]; exact p_0) e36 i35 i37 c37 e46 e55 i55
            refine g_istore 58 (gd rfl) rfl (Nat.le_of_ble_eq_true rfl) ?_
            refine g_aload_n 59 (gd rfl) rfl rfl ?_
            refine g_iload 61 (gd rfl) rfl rfl ?_
            refine g_calls (As := [.ref (A 2), .int z46]) (r := []) 64 (gd rfl) rfl rfl rfl rfl rfl (Nat.le_of_ble_eq_true rfl) (mc := 0) (ms := 0) (Nat.zero_le _) (Nat.zero_le _) (P := fun v u => _) ?_ (fun v u h => h)
            intro po61 xx61 hp61 hx61
            refine g_enter2 (k := 197) (N := 300) (by first | exact dq1 hd rfl | exact dq0 hd rfl | exact dq2 hd rfl | exact dq3 hd rfl | omega) rfl (Nat.le_of_ble_eq_true rfl) ?_
            refine g_aload_n 1 (gd rfl) rfl rfl ?_
            refine g_getA (q2 := 6) 4 (gd rfl) rfl rfl rfl rfl ?_
            refine g_iload_n 5 (gd rfl) rfl rfl ?_
            refine g_iaload 6 (gd rfl) rfl (n := 160) rfl (in_ix i46 rfl) (fun z61x5 e61x5 => ?_)
            have i61x5 := inv_I hIc26 (n := 160) (t := 0) (-1000000) 1000000 rfl (in_ix i46 rfl) rfl e61x5
            refine g_i2l 7 (gd rfl) rfl (fun z61x6 e61x6 => ?_)
            have i61x6 := l_i e61x6 i61x5
            refine g_ldc2_w 1024 10 (gd rfl) rfl rfl ?_
            refine g_lmul 11 (gd rfl) rfl (fun z61x10 e61x10 => ?_)
            have i61x10 := l_mulc 1024 (-1024000000) 1024000000 (Or.inr e61x10) i61x6 rfl
            refine g_lconst 1 12 (gd rfl) rfl rfl ?_
            refine g_ladd 13 (gd rfl) rfl (fun z61x12 e61x12 => ?_)
            have i61x12 := l_add (-1023999999) 1024000001 e61x12 i61x10 (l_c 1 rfl) rfl
            refine g_lreturn (gd rfl) rfl (hp61 _ _ ?_)
            show GG _ _ _ _ _ _ _ _ [.long z61x12] _ _ _
            refine g_aload_n 65 (gd rfl) rfl rfl ?_
            refine g_getA (q2 := 50) 68 (gd rfl) rfl rfl rfl rfl ?_
            refine g_iload 70 (gd rfl) rfl rfl ?_
            refine g_laload 71 (gd rfl) rfl (n := 32) rfl (in_ix j26_5 rfl) (fun z70 e70 => ?_)
            refine g_ladd 72 (gd rfl) rfl (fun z71 e71 => ?_)
            refine g_aload_n 73 (gd rfl) rfl rfl ?_
            refine g_getA (q2 := 50) 76 (gd rfl) rfl rfl rfl rfl ?_
            refine g_iload 78 (gd rfl) rfl rfl ?_
            refine g_laload 79 (gd rfl) rfl (n := 32) rfl (in_ix i56 rfl) (fun z78 e78 => ?_)
            refine g_lcmp 80 (gd rfl) rfl (fun z79 e79 => ?_)
            have i79 := lc_in e79
            refine g_if_ge 83 111 (gd rfl) rfl rfl (fun c80 => ?_) (fun c80 => ?_)
            · skip
              have i80 := z_ge 0 1 c80 i79 rfl
              have c80a := lc_ge e79 c80
              refine g_iinc 114 (gd rfl) rfl rfl (Nat.le_of_ble_eq_true rfl) (fun z111 e111 => ?_)
              have i111 := in_add 1 160 e111 i37 (in_c 1 rfl) rfl rfl
              refine g_goto 26 (gd rfl) rfl ?_
              exact gg_w (by first | exact Nat.le_add_right _ _ | exact gw2 | exact gw3 | exact gwe rfl | exact gwf rfl | exact gwg rfl | exact gwh rfl | omega) (gg_f (gf_cons rfl (gf_cons rfl (gf_cons rfl (gf_cons rfl (gf_cons rfl (gf_cons rfl (gf_cons rfl gf_nil))))))) (ih26 sc26 y26_3 y26_5 z111 hIc26 hFc26 (in_w 0 31 j26_5 rfl) (in_w 0 160 i111 rfl) nz26_4 (m_up mm26 (t_add e111 i37 (in_c 1 rfl) rfl) (in_w 1 1 (in_c 1 rfl) rfl))))
            · skip
              have i80 := z_lt (-1) (-1) c80 i79 rfl
              have c80a := lc_lt e79 c80
              have i80a := lr_lt1 (-9223372036854775808) 9223372036854775806 c80a (l_rng z71) (l_rng z78) rfl
              have i80b := lr_lt2 (-9223372036854775807) 9223372036854775807 c80a (l_rng z71) (l_rng z78) rfl
              refine g_aload_n 84 (gd rfl) rfl rfl ?_
              refine g_getA (q2 := 50) 87 (gd rfl) rfl rfl rfl rfl ?_
              refine g_iload 89 (gd rfl) rfl rfl ?_
              refine g_aload_n 90 (gd rfl) rfl rfl ?_
              refine g_iload 92 (gd rfl) rfl rfl ?_
              refine g_calls (As := [.ref (A 2), .int z46]) (r := [.int z55, .ref (A 50)]) 95 (gd rfl) rfl rfl rfl rfl rfl (Nat.le_of_ble_eq_true rfl) (mc := 0) (ms := 0) (Nat.zero_le _) (Nat.zero_le _) (P := fun v u => _) ?_ (fun v u h => h)
              intro po92 xx92 hp92 hx92
              refine g_enter2 (k := 197) (N := 300) (by first | exact dq1 hd rfl | exact dq0 hd rfl | exact dq2 hd rfl | exact dq3 hd rfl | omega) rfl (Nat.le_of_ble_eq_true rfl) ?_
              refine g_aload_n 1 (gd rfl) rfl rfl ?_
              refine g_getA (q2 := 6) 4 (gd rfl) rfl rfl rfl rfl ?_
              refine g_iload_n 5 (gd rfl) rfl rfl ?_
              refine g_iaload 6 (gd rfl) rfl (n := 160) rfl (in_ix i46 rfl) (fun z92x5 e92x5 => ?_)
              have q92x5 : z61x5 = z92x5 := (e61x5).trans e92x5.symm
              subst q92x5
              refine g_i2l 7 (gd rfl) rfl (fun z92x6 e92x6 => ?_)
              have i92x6 := l_i e92x6 i61x5
              refine g_ldc2_w 1024 10 (gd rfl) rfl rfl ?_
              refine g_lmul 11 (gd rfl) rfl (fun z92x10 e92x10 => ?_)
              have i92x10 := l_mulc 1024 (-1024000000) 1024000000 (Or.inr e92x10) i92x6 rfl
              refine g_lconst 1 12 (gd rfl) rfl rfl ?_
              refine g_ladd 13 (gd rfl) rfl (fun z92x12 e92x12 => ?_)
              have i92x12 := l_add (-1023999999) 1024000001 e92x12 i92x10 (l_c 1 rfl) rfl
              refine g_lreturn (gd rfl) rfl (hp92 _ _ ?_)
              show GG _ _ _ _ _ _ _ _ [.long z92x12, .int z55, .ref (A 50)] _ _ _
              refine g_aload_n 96 (gd rfl) rfl rfl ?_
              refine g_getA (q2 := 50) 99 (gd rfl) rfl rfl rfl rfl ?_
              refine g_iload 101 (gd rfl) rfl rfl ?_
              refine g_laload 102 (gd rfl) rfl (n := 32) rfl (in_ix j26_5 rfl) (fun z101 e101 => ?_)
              refine g_ladd 103 (gd rfl) rfl (fun z102 e102 => ?_)
              refine g_lastore 104 (gd rfl) rfl (n := 32) rfl (in_ix i56 rfl) ?_
              have hI103 := inv_sL (q := 50) (j := z55.toNatClampNeg) (x := z102) hIc26 rfl (l_rng z102)
              refine g_iload_n 105 (gd rfl) rfl rfl ?_
              refine g_iconst 1 106 (gd rfl) rfl rfl ?_
              refine g_iload 108 (gd rfl) rfl rfl ?_
              refine g_ishl 109 (gd rfl) rfl (fun z108 e108 => ?_)
              refine g_ior 110 (gd rfl) rfl (fun z109 e109 => ?_)
              refine g_istore_n 111 (gd rfl) rfl (Nat.le_of_ble_eq_true rfl) ?_
              refine g_iinc 114 (gd rfl) rfl rfl (Nat.le_of_ble_eq_true rfl) (fun z111 e111 => ?_)
              have i111 := in_add 1 160 e111 i37 (in_c 1 rfl) rfl rfl
              refine g_goto 26 (gd rfl) rfl ?_
              exact gg_w (by first | exact Nat.le_add_right _ _ | exact gw2 | exact gw3 | exact gwe rfl | exact gwf rfl | exact gwg rfl | exact gwh rfl | omega) (gg_f (gf_cons rfl (gf_cons rfl (gf_cons rfl (gf_cons rfl (gf_cons rfl (gf_cons rfl (gf_cons rfl gf_nil))))))) (ih26 (sL sc26 50 z55.toNatClampNeg z102) z109 y26_5 z111 hI103 (fr_sL rfl hFc26) (in_w 0 31 j26_5 rfl) (in_w 0 160 i111 rfl) nz26_4 (m_up mm26 (t_add e111 i37 (in_c 1 rfl) rfl) (in_w 1 1 (in_c 1 rfl) rfl))))
      refine g_iload 7 (gd rfl) rfl rfl ?_
      refine g_if_eq 10 129 (gd rfl) rfl rfl (fun c7 => ?_) (fun c7 => ?_)
      · skip
        have i7 := z_eq 0 0 c7 (i_rng y5_4) rfl
        refine g_iload_n 130 (gd rfl) rfl rfl ?_
        exact g_ireturn (gd rfl) rfl rfl (hP _ _ ⟨sc5, hIc5, hFc5, y5_3, rfl, rfl, in_w (-2147483648) 2147483647 (i_rng y5_3) rfl⟩)
      · skip
        refine g_iload 12 (gd rfl) rfl rfl ?_
        refine g_calls (As := [.int y5_4]) (r := []) 15 (gd rfl) rfl rfl rfl rfl rfl (Nat.le_of_ble_eq_true rfl) (Nat.zero_le _) (Nat.zero_le _) (k_264n (by first | exact dq1 hd rfl | exact dq0 hd rfl | exact dq2 hd rfl | exact dq3 hd rfl | omega) c7) (fun v u h => ?_)
        obtain ⟨z12, rfl, rfl, i12, hb12, hl12⟩ := h
        show GG _ _ _ _ _ _ _ _ [.int z12] _ _ _
        refine g_istore 17 (gd rfl) rfl (Nat.le_of_ble_eq_true rfl) ?_
        refine g_aload_n 18 (gd rfl) rfl rfl ?_
        refine g_getA (q2 := 14) 21 (gd rfl) rfl rfl rfl rfl ?_
        refine g_iload 23 (gd rfl) rfl rfl ?_
        refine g_iaload 24 (gd rfl) rfl (n := 33) rfl (in_ix i12 rfl) (fun z23 e23 => ?_)
        have i23 := inv_I hIc5 (n := 33) (t := 0) 0 160 rfl (in_ix i12 rfl) rfl e23
        refine g_istore 26 (gd rfl) rfl (Nat.le_of_ble_eq_true rfl) ?_
        exact gg_w (by first | exact Nat.le_add_right _ _ | exact gw2 | exact gw3 | exact gwe rfl | exact gwf rfl | exact gwg rfl | exact gwh rfl | omega) (gg_f (gf_cons rfl (gf_cons rfl (gf_cons rfl (gf_cons rfl (gf_cons rfl (gf_cons rfl (gf_cons rfl gf_nil))))))) (ct26 161 sc5 y5_3 z12 z23 hIc5 hFc5 (in_w 0 31 i12 rfl) (in_w 0 160 i23 rfl) c7 (m_in 161 (in_w 0 160 i23 rfl) rfl)))
  refine g_enter2 (k := 199) (N := 633941467857797) (by first | exact dq1 hd rfl | exact dq0 hd rfl | exact dq2 hd rfl | exact dq3 hd rfl | omega) rfl (Nat.le_of_ble_eq_true rfl) ?_
  refine g_iconst 0 1 (gd rfl) rfl rfl ?_
  refine g_istore_n 2 (gd rfl) rfl (Nat.le_of_ble_eq_true rfl) ?_
  refine g_iload_n 3 (gd rfl) rfl rfl ?_
  refine g_istore 5 (gd rfl) rfl (Nat.le_of_ble_eq_true rfl) ?_
  exact gg_w (by first | exact Nat.le_of_ble_eq_true rfl | omega) (gg_f (gf_cons rfl (gf_cons rfl (gf_cons rfl (gf_cons rfl (gf_cons rfl gf_nil))))) (ct5 4294967296 s (Int32.ofInt 0) x2 hI fr_rf  (mb_in _)))

def fm_199_49_32 : FM := ([], [50], [], [])
/-- GraphHouse$Ways.relax -/
theorem k_199_49_32 {Z : AmZ} {A : Nat → Nat} {s : GS} {ex : va_W} {d : Nat} {X : AmX} {x2 : Int32} {u_32_4 : Int32} {u_32_0 : Int32} (hd : 4 ≤ d) (hI : Inv s) (e_32_4 : u_32_4 = s.2.2.1 32 4) (e_32_0 : u_32_0 = s.2.2.1 32 0) (p_0 : (u_32_4).toInt = (u_32_0).toInt) : GC Z d 199 [.ref (A 49), .ref (A 32), .int x2] (WW Z A s ++ ex) 0 0 (fun v u => ∃ t : GS, Inv t ∧ Fr fm_199_49_32 s t ∧ ∃ z : Int32, v = some (.int z) ∧ u = WW Z A t ++ ex ∧ In z (-2147483648) 2147483647) X := by
  intro post xp hP hX
  have ro_32_4 := inv_F hI (-1) 4000 rfl e_32_4
  have ro_32_0 := inv_F hI 0 4000 rfl e_32_0
  have ct5 : ∀ (k5 : Nat) (sc5 : GS) (y5_3 : Int32) (y5_4 : Int32), Inv sc5 → Fr fm_199_49_32 s sc5 → ((y5_4.toBitVec.toNat : Nat) : Int) < (k5 : Int) → GG Z (d - 1) 199 post (gx xp) (1 + k5 * 147601) 5 (fun j => xlook j [(0, .ref (A 49)), (1, .ref (A 32)), (2, .int x2), (3, .int y5_3), (4, .int y5_4)]) [] (WW Z A sc5 ++ ex) 0 0 := by
    intro k5
    induction k5 with
    | zero => intro sc5 y5_3 y5_4 hIc5 hFc5  mm5; exact absurd mm5 (Int.not_lt.mpr (Int.natCast_nonneg _))
    | succ k5 ih5 =>
      intro sc5 y5_3 y5_4 hIc5 hFc5  mm5
      refine gg_w (M := 1 + k5 * 147601 + 147601) gws ?_
      have ct26 : ∀ (k26 : Nat) (sc26 : GS) (y26_3 : Int32) (y26_5 : Int32) (y26_6 : Int32), Inv sc26 → Fr fm_199_49_32 s sc26 → (In y26_5 0 31) → (In y26_6 0 160) → ((y5_4).toInt ≠ 0) → 160 - (y26_6).toInt < (k26 : Int) → GG Z (d - 1) 199 post (gx xp) (1 + k5 * 147601 + 1 + k26 * 900) 26 (fun j => xlook j [(0, .ref (A 49)), (1, .ref (A 32)), (2, .int x2), (3, .int y26_3), (4, .int y5_4), (5, .int y26_5), (6, .int y26_6)]) [] (WW Z A sc26 ++ ex) 0 0 := by
        intro k26
        induction k26 with
        | zero => intro sc26 y26_3 y26_5 y26_6 hIc26 hFc26 j26_5 j26_6 nz26_4 mm26; exact m_no mm26 j26_6 rfl
        | succ k26 ih26 =>
          intro sc26 y26_3 y26_5 y26_6 hIc26 hFc26 j26_5 j26_6 nz26_4 mm26
          refine gg_w (M := 1 + k5 * 147601 + 1 + k26 * 900 + 900) gws ?_
          refine g_iload 28 (gd rfl) rfl rfl ?_
          refine g_aload_n 29 (gd rfl) rfl rfl ?_
          refine g_getA (q2 := 44) 32 (gd rfl) rfl rfl rfl rfl ?_
          refine g_iload 34 (gd rfl) rfl rfl ?_
          refine g_iconst 1 35 (gd rfl) rfl rfl ?_
          refine g_iadd 36 (gd rfl) rfl (fun z35 e35 => ?_)
          have i35 := in_add 1 32 e35 j26_5 (in_c 1 rfl) rfl rfl
          refine g_iaload 37 (gd rfl) rfl (n := 33) rfl (in_ix i35 rfl) (fun z36 e36 => ?_)
          have i36 := inv_I hIc26 (n := 33) (t := 0) 0 160 rfl (in_ix i35 rfl) rfl e36
          refine g_cmp_ge 40 117 (gd rfl) rfl rfl (fun c37 => ?_) (fun c37 => ?_)
          · skip
            refine g_iload 119 (gd rfl) rfl rfl ?_
            refine g_iload 121 (gd rfl) rfl rfl ?_
            refine g_iconst 1 122 (gd rfl) rfl rfl ?_
            refine g_isub 123 (gd rfl) rfl (fun z122 e122 => ?_)
            refine g_iand 124 (gd rfl) rfl (fun z123 e123 => ?_)
            refine g_istore 126 (gd rfl) rfl (Nat.le_of_ble_eq_true rfl) ?_
            refine g_goto 5 (gd rfl) rfl ?_
            exact gg_w (by first | exact Nat.le_add_right _ _ | exact gw2 | exact gw3 | exact gwe rfl | exact gwf rfl | exact gwg rfl | exact gwh rfl | omega) (gg_f (gf_cons rfl (gf_cons rfl (gf_cons rfl (gf_cons rfl (gf_cons rfl gf_nil))))) (ih5 sc26 y26_3 z123 hIc26 hFc26  (mb e123 e122 nz26_4 mm5)))
          · skip
            have i37 := r_lt1 0 159 c37 j26_6 i36 rfl
            have i37a := r_lt2 1 160 c37 j26_6 i36 rfl
            refine g_aload_n 41 (gd rfl) rfl rfl ?_
            refine g_getA (q2 := 45) 44 (gd rfl) rfl rfl rfl rfl ?_
            refine g_iload 46 (gd rfl) rfl rfl ?_
            refine g_iaload 47 (gd rfl) rfl (n := 160) rfl (in_ix i37 rfl) (fun z46 e46 => ?_)
            have i46 := inv_I hIc26 (n := 160) (t := 0) 0 159 rfl (in_ix i37 rfl) rfl e46
            refine g_istore 49 (gd rfl) rfl (Nat.le_of_ble_eq_true rfl) ?_
            refine g_aload_n 50 (gd rfl) rfl rfl ?_
            refine g_getA (q2 := 34) 53 (gd rfl) rfl rfl rfl rfl ?_
            refine g_iload 55 (gd rfl) rfl rfl ?_
            refine g_iaload 56 (gd rfl) rfl (n := 160) rfl (in_ix i46 rfl) (fun z55 e55 => ?_)
            have i55 := inv_I hIc26 (n := 160) (t := 0) (-1) 31 rfl (in_ix i46 rfl) rfl e55
            have i56 : In z55 0 31 := by exact tg_b (b := 32) hIc26.2.2.1 rfl rfl rfl rfl rfl (by rw [← (show u_32_4 = sc26.2.2.1 32 4 from fr_F e_32_4 hFc26 rfl), ← (show u_32_0 = sc26.2.2.1 32 0 from fr_F e_32_0 hFc26 rfl)]; exact p_0) e36 i35 i37 c37 e46 e55 i55
            refine g_istore 58 (gd rfl) rfl (Nat.le_of_ble_eq_true rfl) ?_
            refine g_aload_n 59 (gd rfl) rfl rfl ?_
            refine g_iload 61 (gd rfl) rfl rfl ?_
            refine g_calls (As := [.ref (A 32), .int z46]) (r := []) 64 (gd rfl) rfl rfl rfl rfl rfl (Nat.le_of_ble_eq_true rfl) (mc := 0) (ms := 0) (Nat.zero_le _) (Nat.zero_le _) (P := fun v u => _) ?_ (fun v u h => h)
            intro po61 xx61 hp61 hx61
            refine g_enter2 (k := 197) (N := 300) (by first | exact dq1 hd rfl | exact dq0 hd rfl | exact dq2 hd rfl | exact dq3 hd rfl | omega) rfl (Nat.le_of_ble_eq_true rfl) ?_
            refine g_aload_n 1 (gd rfl) rfl rfl ?_
            refine g_getA (q2 := 36) 4 (gd rfl) rfl rfl rfl rfl ?_
            refine g_iload_n 5 (gd rfl) rfl rfl ?_
            refine g_iaload 6 (gd rfl) rfl (n := 160) rfl (in_ix i46 rfl) (fun z61x5 e61x5 => ?_)
            have i61x5 := inv_I hIc26 (n := 160) (t := 0) (-1000000) 1000000 rfl (in_ix i46 rfl) rfl e61x5
            refine g_i2l 7 (gd rfl) rfl (fun z61x6 e61x6 => ?_)
            have i61x6 := l_i e61x6 i61x5
            refine g_ldc2_w 1024 10 (gd rfl) rfl rfl ?_
            refine g_lmul 11 (gd rfl) rfl (fun z61x10 e61x10 => ?_)
            have i61x10 := l_mulc 1024 (-1024000000) 1024000000 (Or.inr e61x10) i61x6 rfl
            refine g_lconst 1 12 (gd rfl) rfl rfl ?_
            refine g_ladd 13 (gd rfl) rfl (fun z61x12 e61x12 => ?_)
            have i61x12 := l_add (-1023999999) 1024000001 e61x12 i61x10 (l_c 1 rfl) rfl
            refine g_lreturn (gd rfl) rfl (hp61 _ _ ?_)
            show GG _ _ _ _ _ _ _ _ [.long z61x12] _ _ _
            refine g_aload_n 65 (gd rfl) rfl rfl ?_
            refine g_getA (q2 := 50) 68 (gd rfl) rfl rfl rfl rfl ?_
            refine g_iload 70 (gd rfl) rfl rfl ?_
            refine g_laload 71 (gd rfl) rfl (n := 32) rfl (in_ix j26_5 rfl) (fun z70 e70 => ?_)
            refine g_ladd 72 (gd rfl) rfl (fun z71 e71 => ?_)
            refine g_aload_n 73 (gd rfl) rfl rfl ?_
            refine g_getA (q2 := 50) 76 (gd rfl) rfl rfl rfl rfl ?_
            refine g_iload 78 (gd rfl) rfl rfl ?_
            refine g_laload 79 (gd rfl) rfl (n := 32) rfl (in_ix i56 rfl) (fun z78 e78 => ?_)
            refine g_lcmp 80 (gd rfl) rfl (fun z79 e79 => ?_)
            have i79 := lc_in e79
            refine g_if_ge 83 111 (gd rfl) rfl rfl (fun c80 => ?_) (fun c80 => ?_)
            · skip
              have i80 := z_ge 0 1 c80 i79 rfl
              have c80a := lc_ge e79 c80
              refine g_iinc 114 (gd rfl) rfl rfl (Nat.le_of_ble_eq_true rfl) (fun z111 e111 => ?_)
              have i111 := in_add 1 160 e111 i37 (in_c 1 rfl) rfl rfl
              refine g_goto 26 (gd rfl) rfl ?_
              exact gg_w (by first | exact Nat.le_add_right _ _ | exact gw2 | exact gw3 | exact gwe rfl | exact gwf rfl | exact gwg rfl | exact gwh rfl | omega) (gg_f (gf_cons rfl (gf_cons rfl (gf_cons rfl (gf_cons rfl (gf_cons rfl (gf_cons rfl (gf_cons rfl gf_nil))))))) (ih26 sc26 y26_3 y26_5 z111 hIc26 hFc26 (in_w 0 31 j26_5 rfl) (in_w 0 160 i111 rfl) nz26_4 (m_up mm26 (t_add e111 i37 (in_c 1 rfl) rfl) (in_w 1 1 (in_c 1 rfl) rfl))))
            · skip
              have i80 := z_lt (-1) (-1) c80 i79 rfl
              have c80a := lc_lt e79 c80
              have i80a := lr_lt1 (-9223372036854775808) 9223372036854775806 c80a (l_rng z71) (l_rng z78) rfl
              have i80b := lr_lt2 (-9223372036854775807) 9223372036854775807 c80a (l_rng z71) (l_rng z78) rfl
              refine g_aload_n 84 (gd rfl) rfl rfl ?_
              refine g_getA (q2 := 50) 87 (gd rfl) rfl rfl rfl rfl ?_
              refine g_iload 89 (gd rfl) rfl rfl ?_
              refine g_aload_n 90 (gd rfl) rfl rfl ?_
              refine g_iload 92 (gd rfl) rfl rfl ?_
              refine g_calls (As := [.ref (A 32), .int z46]) (r := [.int z55, .ref (A 50)]) 95 (gd rfl) rfl rfl rfl rfl rfl (Nat.le_of_ble_eq_true rfl) (mc := 0) (ms := 0) (Nat.zero_le _) (Nat.zero_le _) (P := fun v u => _) ?_ (fun v u h => h)
              intro po92 xx92 hp92 hx92
              refine g_enter2 (k := 197) (N := 300) (by first | exact dq1 hd rfl | exact dq0 hd rfl | exact dq2 hd rfl | exact dq3 hd rfl | omega) rfl (Nat.le_of_ble_eq_true rfl) ?_
              refine g_aload_n 1 (gd rfl) rfl rfl ?_
              refine g_getA (q2 := 36) 4 (gd rfl) rfl rfl rfl rfl ?_
              refine g_iload_n 5 (gd rfl) rfl rfl ?_
              refine g_iaload 6 (gd rfl) rfl (n := 160) rfl (in_ix i46 rfl) (fun z92x5 e92x5 => ?_)
              have q92x5 : z61x5 = z92x5 := (e61x5).trans e92x5.symm
              subst q92x5
              refine g_i2l 7 (gd rfl) rfl (fun z92x6 e92x6 => ?_)
              have i92x6 := l_i e92x6 i61x5
              refine g_ldc2_w 1024 10 (gd rfl) rfl rfl ?_
              refine g_lmul 11 (gd rfl) rfl (fun z92x10 e92x10 => ?_)
              have i92x10 := l_mulc 1024 (-1024000000) 1024000000 (Or.inr e92x10) i92x6 rfl
              refine g_lconst 1 12 (gd rfl) rfl rfl ?_
              refine g_ladd 13 (gd rfl) rfl (fun z92x12 e92x12 => ?_)
              have i92x12 := l_add (-1023999999) 1024000001 e92x12 i92x10 (l_c 1 rfl) rfl
              refine g_lreturn (gd rfl) rfl (hp92 _ _ ?_)
              show GG _ _ _ _ _ _ _ _ [.long z92x12, .int z55, .ref (A 50)] _ _ _
              refine g_aload_n 96 (gd rfl) rfl rfl ?_
              refine g_getA (q2 := 50) 99 (gd rfl) rfl rfl rfl rfl ?_
              refine g_iload 101 (gd rfl) rfl rfl ?_
              refine g_laload 102 (gd rfl) rfl (n := 32) rfl (in_ix j26_5 rfl) (fun z101 e101 => ?_)
              refine g_ladd 103 (gd rfl) rfl (fun z102 e102 => ?_)
              refine g_lastore 104 (gd rfl) rfl (n := 32) rfl (in_ix i56 rfl) ?_
              have hI103 := inv_sL (q := 50) (j := z55.toNatClampNeg) (x := z102) hIc26 rfl (l_rng z102)
              refine g_iload_n 105 (gd rfl) rfl rfl ?_
              refine g_iconst 1 106 (gd rfl) rfl rfl ?_
              refine g_iload 108 (gd rfl) rfl rfl ?_
              refine g_ishl 109 (gd rfl) rfl (fun z108 e108 => ?_)
              refine g_ior 110 (gd rfl) rfl (fun z109 e109 => ?_)
              refine g_istore_n 111 (gd rfl) rfl (Nat.le_of_ble_eq_true rfl) ?_
              refine g_iinc 114 (gd rfl) rfl rfl (Nat.le_of_ble_eq_true rfl) (fun z111 e111 => ?_)
              have i111 := in_add 1 160 e111 i37 (in_c 1 rfl) rfl rfl
              refine g_goto 26 (gd rfl) rfl ?_
              exact gg_w (by first | exact Nat.le_add_right _ _ | exact gw2 | exact gw3 | exact gwe rfl | exact gwf rfl | exact gwg rfl | exact gwh rfl | omega) (gg_f (gf_cons rfl (gf_cons rfl (gf_cons rfl (gf_cons rfl (gf_cons rfl (gf_cons rfl (gf_cons rfl gf_nil))))))) (ih26 (sL sc26 50 z55.toNatClampNeg z102) z109 y26_5 z111 hI103 (fr_sL rfl hFc26) (in_w 0 31 j26_5 rfl) (in_w 0 160 i111 rfl) nz26_4 (m_up mm26 (t_add e111 i37 (in_c 1 rfl) rfl) (in_w 1 1 (in_c 1 rfl) rfl))))
      refine g_iload 7 (gd rfl) rfl rfl ?_
      refine g_if_eq 10 129 (gd rfl) rfl rfl (fun c7 => ?_) (fun c7 => ?_)
      · skip
        have i7 := z_eq 0 0 c7 (i_rng y5_4) rfl
        refine g_iload_n 130 (gd rfl) rfl rfl ?_
        exact g_ireturn (gd rfl) rfl rfl (hP _ _ ⟨sc5, hIc5, hFc5, y5_3, rfl, rfl, in_w (-2147483648) 2147483647 (i_rng y5_3) rfl⟩)
      · skip
        refine g_iload 12 (gd rfl) rfl rfl ?_
        refine g_calls (As := [.int y5_4]) (r := []) 15 (gd rfl) rfl rfl rfl rfl rfl (Nat.le_of_ble_eq_true rfl) (Nat.zero_le _) (Nat.zero_le _) (k_264n (by first | exact dq1 hd rfl | exact dq0 hd rfl | exact dq2 hd rfl | exact dq3 hd rfl | omega) c7) (fun v u h => ?_)
        obtain ⟨z12, rfl, rfl, i12, hb12, hl12⟩ := h
        show GG _ _ _ _ _ _ _ _ [.int z12] _ _ _
        refine g_istore 17 (gd rfl) rfl (Nat.le_of_ble_eq_true rfl) ?_
        refine g_aload_n 18 (gd rfl) rfl rfl ?_
        refine g_getA (q2 := 44) 21 (gd rfl) rfl rfl rfl rfl ?_
        refine g_iload 23 (gd rfl) rfl rfl ?_
        refine g_iaload 24 (gd rfl) rfl (n := 33) rfl (in_ix i12 rfl) (fun z23 e23 => ?_)
        have i23 := inv_I hIc5 (n := 33) (t := 0) 0 160 rfl (in_ix i12 rfl) rfl e23
        refine g_istore 26 (gd rfl) rfl (Nat.le_of_ble_eq_true rfl) ?_
        exact gg_w (by first | exact Nat.le_add_right _ _ | exact gw2 | exact gw3 | exact gwe rfl | exact gwf rfl | exact gwg rfl | exact gwh rfl | omega) (gg_f (gf_cons rfl (gf_cons rfl (gf_cons rfl (gf_cons rfl (gf_cons rfl (gf_cons rfl (gf_cons rfl gf_nil))))))) (ct26 161 sc5 y5_3 z12 z23 hIc5 hFc5 (in_w 0 31 i12 rfl) (in_w 0 160 i23 rfl) c7 (m_in 161 (in_w 0 160 i23 rfl) rfl)))
  refine g_enter2 (k := 199) (N := 633941467857797) (by first | exact dq1 hd rfl | exact dq0 hd rfl | exact dq2 hd rfl | exact dq3 hd rfl | omega) rfl (Nat.le_of_ble_eq_true rfl) ?_
  refine g_iconst 0 1 (gd rfl) rfl rfl ?_
  refine g_istore_n 2 (gd rfl) rfl (Nat.le_of_ble_eq_true rfl) ?_
  refine g_iload_n 3 (gd rfl) rfl rfl ?_
  refine g_istore 5 (gd rfl) rfl (Nat.le_of_ble_eq_true rfl) ?_
  exact gg_w (by first | exact Nat.le_of_ble_eq_true rfl | omega) (gg_f (gf_cons rfl (gf_cons rfl (gf_cons rfl (gf_cons rfl (gf_cons rfl gf_nil))))) (ct5 4294967296 s (Int32.ofInt 0) x2 hI fr_rf  (mb_in _)))

/-- GraphHouse$Ways.widestOf -/
theorem k_201_49 {Z : AmZ} {A : Nat → Nat} {s : GS} {ex : va_W} {d : Nat} {X : AmX} {x1 : Int32} (hd : 4 ≤ d) (hI : Inv s) (nza_1 : x1.toInt ≠ 0) : GC Z d 201 [.ref (A 49), .int x1] (WW Z A s ++ ex) 0 0 (fun v u => ∃ z : Int32, v = some (.int z) ∧ u = WW Z A s ++ ex ∧ In z 0 31 ∧ (bt x1 (z).toNatClampNeg = true)) X := by
  intro post xp hP hX
  have ct7 : ∀ (k7 : Nat) (y7_2 : Int32) (y7_3 : Int32), (In y7_2 0 31) → (bt x1 (y7_2).toNatClampNeg = true) → (∀ k, bt y7_3 k = true → bt x1 k = true) → ((y7_3.toBitVec.toNat : Nat) : Int) < (k7 : Int) → GG Z (d - 1) 201 post (gx xp) (1 + k7 * 900) 7 (fun j => xlook j [(0, .ref (A 49)), (1, .int x1), (2, .int y7_2), (3, .int y7_3)]) [] (WW Z A s ++ ex) 0 0 := by
    intro k7
    induction k7 with
    | zero => intro y7_2 y7_3 j7_2 g7_0 g7_1 mm7; exact absurd mm7 (Int.not_lt.mpr (Int.natCast_nonneg _))
    | succ k7 ih7 =>
      intro y7_2 y7_3 j7_2 g7_0 g7_1 mm7
      refine gg_w (M := 1 + k7 * 900 + 900) gws ?_
      refine g_iload_n 8 (gd rfl) rfl rfl ?_
      refine g_if_eq 11 43 (gd rfl) rfl rfl (fun c8 => ?_) (fun c8 => ?_)
      · skip
        have i8 := z_eq 0 0 c8 (i_rng y7_3) rfl
        refine g_iload_n 44 (gd rfl) rfl rfl ?_
        have n44 : bt x1 (y7_2).toNatClampNeg = true := by exact g7_0
        exact g_ireturn (gd rfl) rfl rfl (hP _ _ ⟨y7_2, rfl, rfl, in_w 0 31 j7_2 rfl, n44⟩)
      · skip
        refine g_aload_n 12 (gd rfl) rfl rfl ?_
        refine g_getA (q2 := 51) 15 (gd rfl) rfl rfl rfl rfl ?_
        refine g_iload_n 16 (gd rfl) rfl rfl ?_
        refine g_calls (As := [.int y7_3]) (r := [.ref (A 51)]) 19 (gd rfl) rfl rfl rfl rfl rfl (Nat.le_of_ble_eq_true rfl) (Nat.zero_le _) (Nat.zero_le _) (k_264n (by first | exact dq1 hd rfl | exact dq0 hd rfl | exact dq2 hd rfl | exact dq3 hd rfl | omega) c8) (fun v u h => ?_)
        obtain ⟨z16, rfl, rfl, i16, hb16, hl16⟩ := h
        show GG _ _ _ _ _ _ _ _ [.int z16, .ref (A 51)] _ _ _
        refine g_iaload 20 (gd rfl) rfl (n := 32) rfl (in_ix i16 rfl) (fun z19 e19 => ?_)
        have i19 := inv_I hI (n := 32) (t := 0) (-1) 1000001 rfl (in_ix i16 rfl) rfl e19
        refine g_aload_n 21 (gd rfl) rfl rfl ?_
        refine g_getA (q2 := 51) 24 (gd rfl) rfl rfl rfl rfl ?_
        refine g_iload_n 25 (gd rfl) rfl rfl ?_
        refine g_iaload 26 (gd rfl) rfl (n := 32) rfl (in_ix j7_2 rfl) (fun z25 e25 => ?_)
        have i25 := inv_I hI (n := 32) (t := 0) (-1) 1000001 rfl (in_ix j7_2 rfl) rfl e25
        refine g_cmp_le 29 34 (gd rfl) rfl rfl (fun c26 => ?_) (fun c26 => ?_)
        · skip
          refine g_iload_n 35 (gd rfl) rfl rfl ?_
          refine g_iload_n 36 (gd rfl) rfl rfl ?_
          refine g_iconst 1 37 (gd rfl) rfl rfl ?_
          refine g_isub 38 (gd rfl) rfl (fun z37 e37 => ?_)
          refine g_iand 39 (gd rfl) rfl (fun z38 e38 => ?_)
          refine g_istore_n 40 (gd rfl) rfl (Nat.le_of_ble_eq_true rfl) ?_
          refine g_goto 7 (gd rfl) rfl ?_
          have n7 : bt x1 (y7_2).toNatClampNeg = true := by first | exact hb1 | exact g7_0 | exact g7_1 _ hb30
          have n7a : ∀ k, bt z38 k = true → bt x1 k = true := by first | exact fun k h => h | exact fun k h => g7_1 k (bt_and1 e38 h)
          exact gg_w (by first | exact Nat.le_add_right _ _ | exact gw2 | exact gw3 | exact gwe rfl | exact gwf rfl | exact gwg rfl | exact gwh rfl | omega) (gg_f (gf_cons rfl (gf_cons rfl (gf_cons rfl (gf_cons rfl gf_nil)))) (ih7  y7_2 z38  (in_w 0 31 j7_2 rfl) n7 n7a (mb e38 e37 c8 mm7)))
        · skip
          have i26 := r_lt1 (-1) 1000000 c26 i25 i19 rfl
          have i26a := r_lt2 0 1000001 c26 i25 i19 rfl
          refine g_iload_n 30 (gd rfl) rfl rfl ?_
          refine g_calls (As := [.int y7_3]) (r := []) 33 (gd rfl) rfl rfl rfl rfl rfl (Nat.le_of_ble_eq_true rfl) (Nat.zero_le _) (Nat.zero_le _) (k_264n (by first | exact dq1 hd rfl | exact dq0 hd rfl | exact dq2 hd rfl | exact dq3 hd rfl | omega) c8) (fun v u h => ?_)
          obtain ⟨z30, rfl, rfl, i30, hb30, hl30⟩ := h
          show GG _ _ _ _ _ _ _ _ [.int z30] _ _ _
          refine g_istore_n 34 (gd rfl) rfl (Nat.le_of_ble_eq_true rfl) ?_
          refine g_iload_n 35 (gd rfl) rfl rfl ?_
          refine g_iload_n 36 (gd rfl) rfl rfl ?_
          refine g_iconst 1 37 (gd rfl) rfl rfl ?_
          refine g_isub 38 (gd rfl) rfl (fun z37 e37 => ?_)
          refine g_iand 39 (gd rfl) rfl (fun z38 e38 => ?_)
          refine g_istore_n 40 (gd rfl) rfl (Nat.le_of_ble_eq_true rfl) ?_
          refine g_goto 7 (gd rfl) rfl ?_
          have n7 : bt x1 (z30).toNatClampNeg = true := by first | exact hb1 | exact g7_0 | exact g7_1 _ hb30
          have n7a : ∀ k, bt z38 k = true → bt x1 k = true := by first | exact fun k h => h | exact fun k h => g7_1 k (bt_and1 e38 h)
          exact gg_w (by first | exact Nat.le_add_right _ _ | exact gw2 | exact gw3 | exact gwe rfl | exact gwf rfl | exact gwg rfl | exact gwh rfl | omega) (gg_f (gf_cons rfl (gf_cons rfl (gf_cons rfl (gf_cons rfl gf_nil)))) (ih7  z30 z38  (in_w 0 31 i30 rfl) n7 n7a (mb e38 e37 c8 mm7)))
  refine g_enter2 (k := 201) (N := 3865470567301) (by first | exact dq1 hd rfl | exact dq0 hd rfl | exact dq2 hd rfl | exact dq3 hd rfl | omega) rfl (Nat.le_of_ble_eq_true rfl) ?_
  refine g_iload_n 1 (gd rfl) rfl rfl ?_
  refine g_calls (As := [.int x1]) (r := []) 4 (gd rfl) rfl rfl rfl rfl rfl (Nat.le_of_ble_eq_true rfl) (Nat.zero_le _) (Nat.zero_le _) (k_264n (by first | exact dq1 hd rfl | exact dq0 hd rfl | exact dq2 hd rfl | exact dq3 hd rfl | omega) nza_1) (fun v u h => ?_)
  obtain ⟨z1, rfl, rfl, i1, hb1, hl1⟩ := h
  show GG _ _ _ _ _ _ _ _ [.int z1] _ _ _
  refine g_istore_n 5 (gd rfl) rfl (Nat.le_of_ble_eq_true rfl) ?_
  refine g_iload_n 6 (gd rfl) rfl rfl ?_
  refine g_istore_n 7 (gd rfl) rfl (Nat.le_of_ble_eq_true rfl) ?_
  have n7 : bt x1 (z1).toNatClampNeg = true := by first | exact hb1 | exact g7_0 | exact g7_1 _ hb30
  have n7a : ∀ k, bt x1 k = true → bt x1 k = true := by first | exact fun k h => h | exact fun k h => g7_1 k (bt_and1 e38 h)
  exact gg_w (by first | exact Nat.le_of_ble_eq_true rfl | omega) (gg_f (gf_cons rfl (gf_cons rfl (gf_cons rfl (gf_cons rfl gf_nil)))) (ct7 4294967296  z1 x1  (in_w 0 31 i1 rfl) n7 n7a (mb_in _)))
end
