/-! methods, by vc.py -/
def fm_66_102 : FM := ([], [105], [], [])
/-- GraphHouse$Engine.compute -/
theorem k_66_102 {Z : AmZ} {A : Nat → Nat} {s : GS} {ex : va_W} {d : Nat} {X : AmX} {x1 : Int32} {x2 : Int32} (hd : 5 ≤ d) (hI : Inv s) (h1 : In x1 0 120) (h2 : In x2 0 120) (q_0 : (ht (fun i => hc (s.1 103 i)) (x1).toNatClampNeg ((x2).toNatClampNeg - (x1).toNatClampNeg)).isSome = true) : GC Z d 66 [.ref (A 102), .int x1, .int x2] (WW Z A s ++ ex) 0 0 (fun v u => ∃ t : GS, Inv t ∧ Fr fm_66_102 s t ∧ ∃ z : Int64, v = some (.long z) ∧ u = WW Z A t ++ ex) X := by
  intro post xp hP hX
  have ct5 : ∀ (k5 : Nat) (sc5 : GS) (y5_3 : Int32) (y5_4 : Int32), Inv sc5 → Fr fm_66_102 s sc5 → (In y5_3 0 120) → (In y5_4 0 120) → ((y5_3).toInt ≤ (y5_4).toInt) → (CS sc5 x1 y5_4 y5_3) → 120 - (y5_4).toInt < (k5 : Int) → GG Z (d - 1) 66 post (gx xp) (1 + k5 * 900) 5 (fun j => xlook j [(0, .ref (A 102)), (1, .int x1), (2, .int x2), (3, .int y5_3), (4, .int y5_4)]) [] (WW Z A sc5 ++ ex) 0 0 := by
    intro k5
    induction k5 with
    | zero => intro sc5 y5_3 y5_4 hIc5 hFc5 j5_3 j5_4 n5_0 g5_0 mm5; exact m_no mm5 j5_4 rfl
    | succ k5 ih5 =>
      intro sc5 y5_3 y5_4 hIc5 hFc5 j5_3 j5_4 n5_0 g5_0 mm5
      refine gg_w (M := 1 + k5 * 900 + 900) gws ?_
      refine g_iload 7 (gd rfl) rfl rfl ?_
      refine g_iload_n 8 (gd rfl) rfl rfl ?_
      refine g_cmp_ge 11 128 (gd rfl) rfl rfl (fun c8 => ?_) (fun c8 => ?_)
      · skip
        refine g_aload_n 129 (gd rfl) rfl rfl ?_
        refine g_getA (q2 := 105) 132 (gd rfl) rfl rfl rfl rfl ?_
        refine g_iconst 0 133 (gd rfl) rfl rfl ?_
        refine g_laload 134 (gd rfl) rfl (n := 120) rfl (in_ix (in_c 0 rfl) rfl) (fun z133 e133 => ?_)
        exact g_lreturn (gd rfl) rfl (hP _ _ ⟨sc5, hIc5, hFc5, z133, rfl, rfl⟩)
      · skip
        have i8 := r_lt1 0 119 c8 j5_4 h2 rfl
        have i8a := r_lt2 1 120 c8 j5_4 h2 rfl
        refine g_aload_n 12 (gd rfl) rfl rfl ?_
        refine g_getA (q2 := 103) 15 (gd rfl) rfl rfl rfl rfl ?_
        refine g_iload 17 (gd rfl) rfl rfl ?_
        refine g_iaload 18 (gd rfl) rfl (n := 120) rfl (in_ix i8 rfl) (fun z17 e17 => ?_)
        refine g_istore 20 (gd rfl) rfl (Nat.le_of_ble_eq_true rfl) ?_
        obtain ⟨kn, hk1, hk2⟩ := cs_ok (by rw [hFc5.1 103 rfl]; exact q_0) g5_0 e17 c8; have hkle := cs_le g5_0; have hk0 := g5_0.1
        refine g_iload 22 (gd rfl) rfl rfl ?_
        refine g_ldc 1000100 24 (gd rfl) rfl rfl ?_
        refine g_cmp_ge 27 62 (gd rfl) rfl rfl (fun c24 => ?_) (fun c24 => ?_)
        · skip
          have i24 := r_le2 1000100 2147483647 c24 (in_c 1000100 rfl) (i_rng z17) rfl
          refine g_iload 64 (gd rfl) rfl rfl ?_
          refine g_ldc 1000226 66 (gd rfl) rfl rfl ?_
          refine g_cmp_ne 69 89 (gd rfl) rfl rfl (fun c66 => ?_) (fun c66 => ?_)
          · skip
            have hk3 := hc_3 hk1 (by (first | have a0 := in_u i8a | (have a0 := i8a; unfold In at a0)); (first | have a1 := in_u h1 | (have a1 := h1; unfold In at a1)); (first | have a2 := in_u i8 | (have a2 := i8; unfold In at a2)); (first | have a3 := in_u j5_3 | (have a3 := j5_3; unfold In at a3)); (first | have a4 := in_u i24 | (have a4 := i24; unfold In at a4)); omega) c66
            refine g_iinc 92 (gd rfl) rfl rfl (Nat.le_of_ble_eq_true rfl) (fun z89 e89 => ?_)
            have i89 := in_add (-1) 119 e89 j5_3 (in_c (-1) rfl) rfl rfl
            refine g_aload_n 93 (gd rfl) rfl rfl ?_
            refine g_getA (q2 := 105) 96 (gd rfl) rfl rfl rfl rfl ?_
            refine g_iload_n 97 (gd rfl) rfl rfl ?_
            refine g_iconst 1 98 (gd rfl) rfl rfl ?_
            refine g_isub 99 (gd rfl) rfl (fun z98 e98 => ?_)
            have i98 := in_sub (-2) 118 e98 i89 (in_c 1 rfl) rfl rfl
            refine g_iload 101 (gd rfl) rfl rfl ?_
            refine g_ldc 1000100 103 (gd rfl) rfl rfl ?_
            refine g_isub 104 (gd rfl) rfl (fun z103 e103 => ?_)
            have i103 := in_sub 0 2146483547 e103 i24 (in_c 1000100 rfl) rfl rfl
            refine g_aload_n 105 (gd rfl) rfl rfl ?_
            refine g_getA (q2 := 105) 108 (gd rfl) rfl rfl rfl rfl ?_
            refine g_iload_n 109 (gd rfl) rfl rfl ?_
            refine g_iconst 1 110 (gd rfl) rfl rfl ?_
            refine g_isub 111 (gd rfl) rfl (fun z110 e110 => ?_)
            have i110 := in_sub (-2) 118 e110 i89 (in_c 1 rfl) rfl rfl
            have i111 : In z110 0 119 := by (first | have a0 := in_u i8a | (have a0 := i8a; unfold In at a0)); (first | have a1 := in_u h1 | (have a1 := h1; unfold In at a1)); (first | have a2 := in_u i8 | (have a2 := i8; unfold In at a2)); (first | have a3 := in_u j5_3 | (have a3 := j5_3; unfold In at a3)); (first | have a4 := in_u i24 | (have a4 := i24; unfold In at a4)); (first | have a5 := in_u i89 | (have a5 := i89; unfold In at a5)); have a6 := t_add e89 j5_3 (in_c (-1) rfl) rfl; (first | have a7 := in_u ((in_c (-1) rfl)) | (have a7 := (in_c (-1) rfl); unfold In at a7)); (first | have a8 := in_u i110 | (have a8 := i110; unfold In at a8)); have a9 := t_sub e110 i89 (in_c 1 rfl) rfl; (first | have a10 := in_u ((in_c 1 rfl)) | (have a10 := (in_c 1 rfl); unfold In at a10)); (first | have a11 := in_u i103 | (have a11 := i103; unfold In at a11)); have a12 := t_sub e103 i24 (in_c 1000100 rfl) rfl; (first | have a13 := in_u ((in_c 1000100 rfl)) | (have a13 := (in_c 1000100 rfl); unfold In at a13)); (first | have a14 := in_u i98 | (have a14 := i98; unfold In at a14)); have a15 := t_sub e98 i89 (in_c 1 rfl) rfl; exact ⟨by omega, by omega⟩
            refine g_laload 112 (gd rfl) rfl (n := 120) rfl (in_ix i111 rfl) (fun z111 e111 => ?_)
            refine g_aload_n 113 (gd rfl) rfl rfl ?_
            refine g_getA (q2 := 105) 116 (gd rfl) rfl rfl rfl rfl ?_
            refine g_iload_n 117 (gd rfl) rfl rfl ?_
            have i117 : In z89 0 119 := by (first | have a0 := in_u i8a | (have a0 := i8a; unfold In at a0)); (first | have a1 := in_u h1 | (have a1 := h1; unfold In at a1)); (first | have a2 := in_u i8 | (have a2 := i8; unfold In at a2)); (first | have a3 := in_u j5_3 | (have a3 := j5_3; unfold In at a3)); (first | have a4 := in_u i24 | (have a4 := i24; unfold In at a4)); (first | have a5 := in_u i89 | (have a5 := i89; unfold In at a5)); have a6 := t_add e89 j5_3 (in_c (-1) rfl) rfl; (first | have a7 := in_u ((in_c (-1) rfl)) | (have a7 := (in_c (-1) rfl); unfold In at a7)); (first | have a8 := in_u i111 | (have a8 := i111; unfold In at a8)); have a9 := t_sub e110 i89 (in_c 1 rfl) rfl; (first | have a10 := in_u ((in_c 1 rfl)) | (have a10 := (in_c 1 rfl); unfold In at a10)); (first | have a11 := in_u i103 | (have a11 := i103; unfold In at a11)); have a12 := t_sub e103 i24 (in_c 1000100 rfl) rfl; (first | have a13 := in_u ((in_c 1000100 rfl)) | (have a13 := (in_c 1000100 rfl); unfold In at a13)); (first | have a14 := in_u i98 | (have a14 := i98; unfold In at a14)); have a15 := t_sub e98 i89 (in_c 1 rfl) rfl; exact ⟨by omega, by omega⟩
            refine g_laload 118 (gd rfl) rfl (n := 120) rfl (in_ix i117 rfl) (fun z117 e117 => ?_)
            refine g_calls (As := [.int z103, .long z111, .long z117]) (r := [.int z98, .ref (A 105)]) 121 (gd rfl) rfl rfl rfl rfl rfl (Nat.le_of_ble_eq_true rfl) (mc := 0) (ms := 0) (Nat.zero_le _) (Nat.zero_le _) (P := fun v u => _) ?_ (fun v u h => h)
            intro po118 xx118 hp118 hx118
            refine g_enter2 (k := 67) (N := 300) (by first | exact dq1 hd rfl | exact dq0 hd rfl | exact dq2 hd rfl | exact dq3 hd rfl | omega) rfl (Nat.le_of_ble_eq_true rfl) ?_
            refine g_iload_n 1 (gd rfl) rfl rfl ?_
            refine g_lsw [(42, 58), (43, 44), (45, 51), (60, 64)] 76 (gd rfl) rfl rfl rfl ⟨fun c118x1 => ?_, fun c118x1_0 => ⟨fun c118x1 => ?_, fun c118x1_1 => ⟨fun c118x1 => ?_, fun c118x1_2 => ⟨fun c118x1 => ?_, fun c118x1_3 => ?_⟩⟩⟩⟩
            · skip
              have i118x1 := sw_eq c118x1
              refine g_lload_n 59 (gd rfl) rfl rfl ?_
              refine g_lload_n 60 (gd rfl) rfl rfl ?_
              refine g_calls (As := [.long z111, .long z117]) (r := []) 63 (gd rfl) rfl rfl rfl rfl rfl (Nat.le_of_ble_eq_true rfl) (mc := 0) (ms := 0) (Nat.zero_le _) (Nat.zero_le _) (P := fun v u => _) ?_ (fun v u h => h)
              intro po118x60 xx118x60 hp118x60 hx118x60
              refine g_enter2 (k := 68) (N := 300) (by first | exact dq1 hd rfl | exact dq0 hd rfl | exact dq2 hd rfl | exact dq3 hd rfl | omega) rfl (Nat.le_of_ble_eq_true rfl) ?_
              refine g_lload_n 1 (gd rfl) rfl rfl ?_
              refine g_lconst 0 2 (gd rfl) rfl rfl ?_
              refine g_lcmp 3 (gd rfl) rfl (fun z118x60x2 e118x60x2 => ?_)
              have i118x60x2 := lc_in e118x60x2
              refine g_if_eq 6 22 (gd rfl) rfl rfl (fun c118x60x3 => ?_) (fun c118x60x3 => ?_)
              · skip
                have i118x60x3 := z_eq 0 0 c118x60x3 i118x60x2 rfl
                have c118x60x3a := lc_eq e118x60x2 c118x60x3
                have i118x60x3a := lr_eq1 0 0 c118x60x3a (l_rng z111) (l_c 0 rfl) rfl
                refine g_lload_n 23 (gd rfl) rfl rfl ?_
                refine g_lload_n 24 (gd rfl) rfl rfl ?_
                refine g_lmul 25 (gd rfl) rfl (fun z118x60x24 e118x60x24 => ?_)
                refine g_lreturn (gd rfl) rfl (hp118x60 _ _ ?_)
                show GG _ _ _ _ _ _ _ _ [.long z118x60x24] _ _ _
                refine g_lreturn (gd rfl) rfl (hp118 _ _ ?_)
                show GG _ _ _ _ _ _ _ _ [.long z118x60x24, .int z98, .ref (A 105)] _ _ _
                have i121 : In z98 0 119 := by (first | have a0 := in_u i8a | (have a0 := i8a; unfold In at a0)); (first | have a1 := in_u h1 | (have a1 := h1; unfold In at a1)); (first | have a2 := in_u i8 | (have a2 := i8; unfold In at a2)); (first | have a3 := in_u j5_3 | (have a3 := j5_3; unfold In at a3)); (first | have a4 := in_u i24 | (have a4 := i24; unfold In at a4)); (first | have a5 := in_u i117 | (have a5 := i117; unfold In at a5)); have a6 := t_add e89 j5_3 (in_c (-1) rfl) rfl; (first | have a7 := in_u ((in_c (-1) rfl)) | (have a7 := (in_c (-1) rfl); unfold In at a7)); (first | have a8 := in_u i111 | (have a8 := i111; unfold In at a8)); have a9 := t_sub e110 i89 (in_c 1 rfl) rfl; (first | have a10 := in_u ((in_c 1 rfl)) | (have a10 := (in_c 1 rfl); unfold In at a10)); (first | have a11 := in_u i118x1 | (have a11 := i118x1; unfold In at a11)); have a12 := t_sub e103 i24 (in_c 1000100 rfl) rfl; (first | have a13 := in_u ((in_c 1000100 rfl)) | (have a13 := (in_c 1000100 rfl); unfold In at a13)); (first | have a14 := in_u i98 | (have a14 := i98; unfold In at a14)); have a15 := t_sub e98 i89 (in_c 1 rfl) rfl; exact ⟨by omega, by omega⟩
                refine g_lastore 122 (gd rfl) rfl (n := 120) rfl (in_ix i121 rfl) ?_
                have hI121 := inv_sL (q := 105) (j := z98.toNatClampNeg) (x := z118x60x24) hIc5 rfl (l_rng z118x60x24)
                refine g_iinc 125 (gd rfl) rfl rfl (Nat.le_of_ble_eq_true rfl) (fun z122 e122 => ?_)
                have i122 := in_add 1 120 e122 i8 (in_c 1 rfl) rfl rfl
                refine g_goto 5 (gd rfl) rfl ?_
                have n5 : (z89).toInt ≤ (z122).toInt := by (first | have a0 := in_u i8a | (have a0 := i8a; unfold In at a0)); (first | have a1 := in_u h1 | (have a1 := h1; unfold In at a1)); (first | have a2 := in_u i8 | (have a2 := i8; unfold In at a2)); (first | have a3 := in_u j5_3 | (have a3 := j5_3; unfold In at a3)); (first | have a4 := in_u i24 | (have a4 := i24; unfold In at a4)); (first | have a5 := in_u i122 | (have a5 := i122; unfold In at a5)); have a6 := t_add e122 i8 (in_c 1 rfl) rfl; (first | have a7 := in_u ((in_c 1 rfl)) | (have a7 := (in_c 1 rfl); unfold In at a7)); (first | have a8 := in_u i117 | (have a8 := i117; unfold In at a8)); have a9 := t_add e89 j5_3 (in_c (-1) rfl) rfl; (first | have a10 := in_u ((in_c (-1) rfl)) | (have a10 := (in_c (-1) rfl); unfold In at a10)); (first | have a11 := in_u i111 | (have a11 := i111; unfold In at a11)); have a12 := t_sub e110 i89 (in_c 1 rfl) rfl; (first | have a13 := in_u i118x1 | (have a13 := i118x1; unfold In at a13)); have a14 := t_sub e103 i24 (in_c 1000100 rfl) rfl; (first | have a15 := in_u ((in_c 1000100 rfl)) | (have a15 := (in_c 1000100 rfl); unfold In at a15)); (first | have a16 := in_u i121 | (have a16 := i121; unfold In at a16)); have a17 := t_sub e98 i89 (in_c 1 rfl) rfl; omega
                have n5a : CS (sL sc5 105 z98.toNatClampNeg z118x60x24) x1 z122 z89 := by first | exact hk2 _ _ (by (first | have a0 := in_u i8a | (have a0 := i8a; unfold In at a0)); (first | have a1 := in_u h1 | (have a1 := h1; unfold In at a1)); (first | have a2 := in_u i8 | (have a2 := i8; unfold In at a2)); (first | have a3 := in_u j5_3 | (have a3 := j5_3; unfold In at a3)); (first | have a4 := in_u i24 | (have a4 := i24; unfold In at a4)); (first | have a5 := in_u i122 | (have a5 := i122; unfold In at a5)); have a6 := t_add e122 i8 (in_c 1 rfl) rfl; (first | have a7 := in_u ((in_c 1 rfl)) | (have a7 := (in_c 1 rfl); unfold In at a7)); (first | have a8 := in_u i117 | (have a8 := i117; unfold In at a8)); have a9 := t_add e89 j5_3 (in_c (-1) rfl) rfl; (first | have a10 := in_u ((in_c (-1) rfl)) | (have a10 := (in_c (-1) rfl); unfold In at a10)); (first | have a11 := in_u i111 | (have a11 := i111; unfold In at a11)); have a12 := t_sub e110 i89 (in_c 1 rfl) rfl; (first | have a13 := in_u i118x1 | (have a13 := i118x1; unfold In at a13)); have a14 := t_sub e103 i24 (in_c 1000100 rfl) rfl; (first | have a15 := in_u ((in_c 1000100 rfl)) | (have a15 := (in_c 1000100 rfl); unfold In at a15)); (first | have a16 := in_u i121 | (have a16 := i121; unfold In at a16)); have a17 := t_sub e98 i89 (in_c 1 rfl) rfl; omega) (by (first | have a0 := in_u i8a | (have a0 := i8a; unfold In at a0)); (first | have a1 := in_u h1 | (have a1 := h1; unfold In at a1)); (first | have a2 := in_u i8 | (have a2 := i8; unfold In at a2)); (first | have a3 := in_u j5_3 | (have a3 := j5_3; unfold In at a3)); (first | have a4 := in_u i24 | (have a4 := i24; unfold In at a4)); (first | have a5 := in_u i122 | (have a5 := i122; unfold In at a5)); have a6 := t_add e122 i8 (in_c 1 rfl) rfl; (first | have a7 := in_u ((in_c 1 rfl)) | (have a7 := (in_c 1 rfl); unfold In at a7)); (first | have a8 := in_u i117 | (have a8 := i117; unfold In at a8)); have a9 := t_add e89 j5_3 (in_c (-1) rfl) rfl; (first | have a10 := in_u ((in_c (-1) rfl)) | (have a10 := (in_c (-1) rfl); unfold In at a10)); (first | have a11 := in_u i111 | (have a11 := i111; unfold In at a11)); have a12 := t_sub e110 i89 (in_c 1 rfl) rfl; (first | have a13 := in_u i118x1 | (have a13 := i118x1; unfold In at a13)); have a14 := t_sub e103 i24 (in_c 1000100 rfl) rfl; (first | have a15 := in_u ((in_c 1000100 rfl)) | (have a15 := (in_c 1000100 rfl); unfold In at a15)); (first | have a16 := in_u i121 | (have a16 := i121; unfold In at a16)); have a17 := t_sub e98 i89 (in_c 1 rfl) rfl; omega) | exact cs_0 rfl h1.1
                exact gg_w (by first | exact Nat.le_add_right _ _ | exact gw2 | exact gw3 | exact gwe rfl | exact gwf rfl | exact gwg rfl | exact gwh rfl | omega) (gg_f (gf_cons rfl (gf_cons rfl (gf_cons rfl (gf_cons rfl (gf_cons rfl gf_nil))))) (ih5 (sL sc5 105 z98.toNatClampNeg z118x60x24) z89 z122 hI121 (fr_sL rfl hFc5) (in_w 0 120 i117 rfl) (in_w 0 120 i122 rfl) n5 n5a (m_up mm5 (t_add e122 i8 (in_c 1 rfl) rfl) (in_w 1 1 (in_c 1 rfl) rfl))))
              · skip
                have c118x60x3a := lc_ne e118x60x2 c118x60x3
                refine g_lload_n 7 (gd rfl) rfl rfl ?_
                refine g_calls (As := [.long z117]) (r := []) 10 (gd rfl) rfl rfl rfl rfl rfl (Nat.le_of_ble_eq_true rfl) (mc := 0) (ms := 0) (Nat.zero_le _) (Nat.zero_le _) (P := fun v u => _) ?_ (fun v u h => h)
                intro po118x60x7 xx118x60x7 hp118x60x7 hx118x60x7
                refine g_enter2 (k := 421) (N := 300) (by first | exact dq1 hd rfl | exact dq0 hd rfl | exact dq2 hd rfl | exact dq3 hd rfl | omega) rfl (Nat.le_of_ble_eq_true rfl) ?_
                refine g_lload_n 1 (gd rfl) rfl rfl ?_
                refine g_lconst 0 2 (gd rfl) rfl rfl ?_
                refine g_lcmp 3 (gd rfl) rfl (fun z118x60x7x2 e118x60x7x2 => ?_)
                have i118x60x7x2 := lc_in e118x60x7x2
                refine g_if_ge 6 11 (gd rfl) rfl rfl (fun c118x60x7x3 => ?_) (fun c118x60x7x3 => ?_)
                · skip
                  have i118x60x7x3 := z_ge 0 1 c118x60x7x3 i118x60x7x2 rfl
                  have c118x60x7x3a := lc_ge e118x60x7x2 c118x60x7x3
                  have i118x60x7x3a := lr_le2 0 9223372036854775807 c118x60x7x3a (l_c 0 rfl) (l_rng z117) rfl
                  refine g_lload_n 12 (gd rfl) rfl rfl ?_
                  refine g_lreturn (gd rfl) rfl (hp118x60x7 _ _ ?_)
                  show GG _ _ _ _ _ _ _ _ [.long z117] _ _ _
                  refine g_ldc2_w 1000000000000 13 (gd rfl) rfl rfl ?_
                  refine g_lload_n 14 (gd rfl) rfl rfl ?_
                  refine g_calls (As := [.long z111]) (r := [.long (Int64.ofInt 1000000000000), .long z117]) 17 (gd rfl) rfl rfl rfl rfl rfl (Nat.le_of_ble_eq_true rfl) (mc := 0) (ms := 0) (Nat.zero_le _) (Nat.zero_le _) (P := fun v u => _) ?_ (fun v u h => h)
                  intro po118x60x14 xx118x60x14 hp118x60x14 hx118x60x14
                  refine g_enter2 (k := 421) (N := 300) (by first | exact dq1 hd rfl | exact dq0 hd rfl | exact dq2 hd rfl | exact dq3 hd rfl | omega) rfl (Nat.le_of_ble_eq_true rfl) ?_
                  refine g_lload_n 1 (gd rfl) rfl rfl ?_
                  refine g_lconst 0 2 (gd rfl) rfl rfl ?_
                  refine g_lcmp 3 (gd rfl) rfl (fun z118x60x14x2 e118x60x14x2 => ?_)
                  have i118x60x14x2 := lc_in e118x60x14x2
                  refine g_if_ge 6 11 (gd rfl) rfl rfl (fun c118x60x14x3 => ?_) (fun c118x60x14x3 => ?_)
                  · skip
                    have i118x60x14x3 := z_ge 0 1 c118x60x14x3 i118x60x14x2 rfl
                    have c118x60x14x3a := lc_ge e118x60x14x2 c118x60x14x3
                    have i118x60x14x3a := lr_le2 0 9223372036854775807 c118x60x14x3a (l_c 0 rfl) (l_rng z111) rfl
                    refine g_lload_n 12 (gd rfl) rfl rfl ?_
                    refine g_lreturn (gd rfl) rfl (hp118x60x14 _ _ ?_)
                    show GG _ _ _ _ _ _ _ _ [.long z111, .long (Int64.ofInt 1000000000000), .long z117] _ _ _
                    refine g_ldiv 18 (gd rfl) rfl (lnz (nz_l c118x60x3a)) (fun z118x60x17 e118x60x17 => ?_)
                    refine g_lcmp 19 (gd rfl) rfl (fun z118x60x18 e118x60x18 => ?_)
                    have i118x60x18 := lc_in e118x60x18
                    refine g_if_gt 22 26 (gd rfl) rfl rfl (fun c118x60x19 => ?_) (fun c118x60x19 => ?_)
                    · skip
                      have i118x60x19 := z_gt 1 1 c118x60x19 i118x60x18 rfl
                      have c118x60x19a := lc_gt e118x60x18 c118x60x19
                      have i118x60x19a := lr_lt1 (-9223372036854775808) 9223372036854775806 c118x60x19a (l_rng z118x60x17) i118x60x7x3a rfl
                      refine g_lload_n 27 (gd rfl) rfl rfl ?_
                      refine g_lconst 0 28 (gd rfl) rfl rfl ?_
                      refine g_lcmp 29 (gd rfl) rfl (fun z118x60x28 e118x60x28 => ?_)
                      have i118x60x28 := lc_in e118x60x28
                      refine g_if_le 32 36 (gd rfl) rfl rfl (fun c118x60x29 => ?_) (fun c118x60x29 => ?_)
                      · skip
                        have i118x60x29 := z_le (-1) 0 c118x60x29 i118x60x28 rfl
                        have c118x60x29a := lc_le e118x60x28 c118x60x29
                        have i118x60x29a := lr_le1 0 0 c118x60x29a i118x60x14x3a (l_c 0 rfl) rfl
                        refine g_iconst 0 37 (gd rfl) rfl rfl ?_
                        refine g_lload_n 38 (gd rfl) rfl rfl ?_
                        refine g_lconst 0 39 (gd rfl) rfl rfl ?_
                        refine g_lcmp 40 (gd rfl) rfl (fun z118x60x39 e118x60x39 => ?_)
                        have i118x60x39 := lc_in e118x60x39
                        refine g_if_le 43 47 (gd rfl) rfl rfl (fun c118x60x40 => ?_) (fun c118x60x40 => ?_)
                        · skip
                          have i118x60x40 := z_le (-1) 0 c118x60x40 i118x60x39 rfl
                          have c118x60x40a := lc_le e118x60x39 c118x60x40
                          have i118x60x40a := lr_le1 0 0 c118x60x40a i118x60x7x3a (l_c 0 rfl) rfl
                          refine g_iconst 0 48 (gd rfl) rfl rfl ?_
                          refine g_cmp_ne 51 57 (gd rfl) rfl rfl (fun c118x60x48 => ?_) (fun c118x60x48 => ?_)
                          · skip
                            exact n_ne c118x60x48 (in_c 0 rfl) (in_c 0 rfl) rfl
                          · skip
                            refine g_ldc2_w 1000000000000 54 (gd rfl) rfl rfl ?_
                            refine g_goto 60 (gd rfl) rfl ?_
                            refine g_lreturn (gd rfl) rfl (hp118x60 _ _ ?_)
                            show GG _ _ _ _ _ _ _ _ [.long (Int64.ofInt 1000000000000)] _ _ _
                            refine g_lreturn (gd rfl) rfl (hp118 _ _ ?_)
                            show GG _ _ _ _ _ _ _ _ [.long (Int64.ofInt 1000000000000), .int z98, .ref (A 105)] _ _ _
                            have i121 : In z98 0 119 := by (first | have a0 := in_u i8a | (have a0 := i8a; unfold In at a0)); (first | have a1 := in_u h1 | (have a1 := h1; unfold In at a1)); (first | have a2 := in_u i8 | (have a2 := i8; unfold In at a2)); (first | have a3 := in_u j5_3 | (have a3 := j5_3; unfold In at a3)); (first | have a4 := in_u i24 | (have a4 := i24; unfold In at a4)); (first | have a5 := in_u i117 | (have a5 := i117; unfold In at a5)); have a6 := t_add e89 j5_3 (in_c (-1) rfl) rfl; (first | have a7 := in_u ((in_c (-1) rfl)) | (have a7 := (in_c (-1) rfl); unfold In at a7)); (first | have a8 := in_u i111 | (have a8 := i111; unfold In at a8)); have a9 := t_sub e110 i89 (in_c 1 rfl) rfl; (first | have a10 := in_u ((in_c 1 rfl)) | (have a10 := (in_c 1 rfl); unfold In at a10)); (first | have a11 := in_u i118x1 | (have a11 := i118x1; unfold In at a11)); have a12 := t_sub e103 i24 (in_c 1000100 rfl) rfl; (first | have a13 := in_u ((in_c 1000100 rfl)) | (have a13 := (in_c 1000100 rfl); unfold In at a13)); (first | have a14 := in_u i98 | (have a14 := i98; unfold In at a14)); have a15 := t_sub e98 i89 (in_c 1 rfl) rfl; exact ⟨by omega, by omega⟩
                            refine g_lastore 122 (gd rfl) rfl (n := 120) rfl (in_ix i121 rfl) ?_
                            have hI121 := inv_sL (q := 105) (j := z98.toNatClampNeg) (x := (Int64.ofInt 1000000000000)) hIc5 rfl (l_rng (Int64.ofInt 1000000000000))
                            refine g_iinc 125 (gd rfl) rfl rfl (Nat.le_of_ble_eq_true rfl) (fun z122 e122 => ?_)
                            have i122 := in_add 1 120 e122 i8 (in_c 1 rfl) rfl rfl
                            refine g_goto 5 (gd rfl) rfl ?_
                            have n5 : (z89).toInt ≤ (z122).toInt := by (first | have a0 := in_u i8a | (have a0 := i8a; unfold In at a0)); (first | have a1 := in_u h1 | (have a1 := h1; unfold In at a1)); (first | have a2 := in_u i8 | (have a2 := i8; unfold In at a2)); (first | have a3 := in_u j5_3 | (have a3 := j5_3; unfold In at a3)); (first | have a4 := in_u i24 | (have a4 := i24; unfold In at a4)); (first | have a5 := in_u i122 | (have a5 := i122; unfold In at a5)); have a6 := t_add e122 i8 (in_c 1 rfl) rfl; (first | have a7 := in_u ((in_c 1 rfl)) | (have a7 := (in_c 1 rfl); unfold In at a7)); (first | have a8 := in_u i117 | (have a8 := i117; unfold In at a8)); have a9 := t_add e89 j5_3 (in_c (-1) rfl) rfl; (first | have a10 := in_u ((in_c (-1) rfl)) | (have a10 := (in_c (-1) rfl); unfold In at a10)); (first | have a11 := in_u i111 | (have a11 := i111; unfold In at a11)); have a12 := t_sub e110 i89 (in_c 1 rfl) rfl; (first | have a13 := in_u i118x1 | (have a13 := i118x1; unfold In at a13)); have a14 := t_sub e103 i24 (in_c 1000100 rfl) rfl; (first | have a15 := in_u ((in_c 1000100 rfl)) | (have a15 := (in_c 1000100 rfl); unfold In at a15)); (first | have a16 := in_u i121 | (have a16 := i121; unfold In at a16)); have a17 := t_sub e98 i89 (in_c 1 rfl) rfl; omega
                            have n5a : CS (sL sc5 105 z98.toNatClampNeg (Int64.ofInt 1000000000000)) x1 z122 z89 := by first | exact hk2 _ _ (by (first | have a0 := in_u i8a | (have a0 := i8a; unfold In at a0)); (first | have a1 := in_u h1 | (have a1 := h1; unfold In at a1)); (first | have a2 := in_u i8 | (have a2 := i8; unfold In at a2)); (first | have a3 := in_u j5_3 | (have a3 := j5_3; unfold In at a3)); (first | have a4 := in_u i24 | (have a4 := i24; unfold In at a4)); (first | have a5 := in_u i122 | (have a5 := i122; unfold In at a5)); have a6 := t_add e122 i8 (in_c 1 rfl) rfl; (first | have a7 := in_u ((in_c 1 rfl)) | (have a7 := (in_c 1 rfl); unfold In at a7)); (first | have a8 := in_u i117 | (have a8 := i117; unfold In at a8)); have a9 := t_add e89 j5_3 (in_c (-1) rfl) rfl; (first | have a10 := in_u ((in_c (-1) rfl)) | (have a10 := (in_c (-1) rfl); unfold In at a10)); (first | have a11 := in_u i111 | (have a11 := i111; unfold In at a11)); have a12 := t_sub e110 i89 (in_c 1 rfl) rfl; (first | have a13 := in_u i118x1 | (have a13 := i118x1; unfold In at a13)); have a14 := t_sub e103 i24 (in_c 1000100 rfl) rfl; (first | have a15 := in_u ((in_c 1000100 rfl)) | (have a15 := (in_c 1000100 rfl); unfold In at a15)); (first | have a16 := in_u i121 | (have a16 := i121; unfold In at a16)); have a17 := t_sub e98 i89 (in_c 1 rfl) rfl; omega) (by (first | have a0 := in_u i8a | (have a0 := i8a; unfold In at a0)); (first | have a1 := in_u h1 | (have a1 := h1; unfold In at a1)); (first | have a2 := in_u i8 | (have a2 := i8; unfold In at a2)); (first | have a3 := in_u j5_3 | (have a3 := j5_3; unfold In at a3)); (first | have a4 := in_u i24 | (have a4 := i24; unfold In at a4)); (first | have a5 := in_u i122 | (have a5 := i122; unfold In at a5)); have a6 := t_add e122 i8 (in_c 1 rfl) rfl; (first | have a7 := in_u ((in_c 1 rfl)) | (have a7 := (in_c 1 rfl); unfold In at a7)); (first | have a8 := in_u i117 | (have a8 := i117; unfold In at a8)); have a9 := t_add e89 j5_3 (in_c (-1) rfl) rfl; (first | have a10 := in_u ((in_c (-1) rfl)) | (have a10 := (in_c (-1) rfl); unfold In at a10)); (first | have a11 := in_u i111 | (have a11 := i111; unfold In at a11)); have a12 := t_sub e110 i89 (in_c 1 rfl) rfl; (first | have a13 := in_u i118x1 | (have a13 := i118x1; unfold In at a13)); have a14 := t_sub e103 i24 (in_c 1000100 rfl) rfl; (first | have a15 := in_u ((in_c 1000100 rfl)) | (have a15 := (in_c 1000100 rfl); unfold In at a15)); (first | have a16 := in_u i121 | (have a16 := i121; unfold In at a16)); have a17 := t_sub e98 i89 (in_c 1 rfl) rfl; omega) | exact cs_0 rfl h1.1
                            exact gg_w (by first | exact Nat.le_add_right _ _ | exact gw2 | exact gw3 | exact gwe rfl | exact gwf rfl | exact gwg rfl | exact gwh rfl | omega) (gg_f (gf_cons rfl (gf_cons rfl (gf_cons rfl (gf_cons rfl (gf_cons rfl gf_nil))))) (ih5 (sL sc5 105 z98.toNatClampNeg (Int64.ofInt 1000000000000)) z89 z122 hI121 (fr_sL rfl hFc5) (in_w 0 120 i117 rfl) (in_w 0 120 i122 rfl) n5 n5a (m_up mm5 (t_add e122 i8 (in_c 1 rfl) rfl) (in_w 1 1 (in_c 1 rfl) rfl))))
                        · skip
                          have i118x60x40 := z_gt 1 1 c118x60x40 i118x60x39 rfl
                          have c118x60x40a := lc_gt e118x60x39 c118x60x40
                          have i118x60x40a := lr_lt2 1 9223372036854775807 c118x60x40a (l_c 0 rfl) i118x60x7x3a rfl
                          refine g_iconst 1 44 (gd rfl) rfl rfl ?_
                          refine g_goto 48 (gd rfl) rfl ?_
                          refine g_cmp_ne 51 57 (gd rfl) rfl rfl (fun c118x60x48 => ?_) (fun c118x60x48 => ?_)
                          · skip
                            refine g_ldc2_w (-1000000000000) 60 (gd rfl) rfl rfl ?_
                            refine g_lreturn (gd rfl) rfl (hp118x60 _ _ ?_)
                            show GG _ _ _ _ _ _ _ _ [.long (Int64.ofInt (-1000000000000))] _ _ _
                            refine g_lreturn (gd rfl) rfl (hp118 _ _ ?_)
                            show GG _ _ _ _ _ _ _ _ [.long (Int64.ofInt (-1000000000000)), .int z98, .ref (A 105)] _ _ _
                            have i121 : In z98 0 119 := by (first | have a0 := in_u i8a | (have a0 := i8a; unfold In at a0)); (first | have a1 := in_u h1 | (have a1 := h1; unfold In at a1)); (first | have a2 := in_u i8 | (have a2 := i8; unfold In at a2)); (first | have a3 := in_u j5_3 | (have a3 := j5_3; unfold In at a3)); (first | have a4 := in_u i24 | (have a4 := i24; unfold In at a4)); (first | have a5 := in_u i117 | (have a5 := i117; unfold In at a5)); have a6 := t_add e89 j5_3 (in_c (-1) rfl) rfl; (first | have a7 := in_u ((in_c (-1) rfl)) | (have a7 := (in_c (-1) rfl); unfold In at a7)); (first | have a8 := in_u i111 | (have a8 := i111; unfold In at a8)); have a9 := t_sub e110 i89 (in_c 1 rfl) rfl; (first | have a10 := in_u ((in_c 1 rfl)) | (have a10 := (in_c 1 rfl); unfold In at a10)); (first | have a11 := in_u i118x1 | (have a11 := i118x1; unfold In at a11)); have a12 := t_sub e103 i24 (in_c 1000100 rfl) rfl; (first | have a13 := in_u ((in_c 1000100 rfl)) | (have a13 := (in_c 1000100 rfl); unfold In at a13)); (first | have a14 := in_u i98 | (have a14 := i98; unfold In at a14)); have a15 := t_sub e98 i89 (in_c 1 rfl) rfl; exact ⟨by omega, by omega⟩
                            refine g_lastore 122 (gd rfl) rfl (n := 120) rfl (in_ix i121 rfl) ?_
                            have hI121 := inv_sL (q := 105) (j := z98.toNatClampNeg) (x := (Int64.ofInt (-1000000000000))) hIc5 rfl (l_rng (Int64.ofInt (-1000000000000)))
                            refine g_iinc 125 (gd rfl) rfl rfl (Nat.le_of_ble_eq_true rfl) (fun z122 e122 => ?_)
                            have i122 := in_add 1 120 e122 i8 (in_c 1 rfl) rfl rfl
                            refine g_goto 5 (gd rfl) rfl ?_
                            have n5 : (z89).toInt ≤ (z122).toInt := by (first | have a0 := in_u i8a | (have a0 := i8a; unfold In at a0)); (first | have a1 := in_u h1 | (have a1 := h1; unfold In at a1)); (first | have a2 := in_u i8 | (have a2 := i8; unfold In at a2)); (first | have a3 := in_u j5_3 | (have a3 := j5_3; unfold In at a3)); (first | have a4 := in_u i24 | (have a4 := i24; unfold In at a4)); (first | have a5 := in_u i122 | (have a5 := i122; unfold In at a5)); have a6 := t_add e122 i8 (in_c 1 rfl) rfl; (first | have a7 := in_u ((in_c 1 rfl)) | (have a7 := (in_c 1 rfl); unfold In at a7)); (first | have a8 := in_u i117 | (have a8 := i117; unfold In at a8)); have a9 := t_add e89 j5_3 (in_c (-1) rfl) rfl; (first | have a10 := in_u ((in_c (-1) rfl)) | (have a10 := (in_c (-1) rfl); unfold In at a10)); (first | have a11 := in_u i111 | (have a11 := i111; unfold In at a11)); have a12 := t_sub e110 i89 (in_c 1 rfl) rfl; (first | have a13 := in_u i118x1 | (have a13 := i118x1; unfold In at a13)); have a14 := t_sub e103 i24 (in_c 1000100 rfl) rfl; (first | have a15 := in_u ((in_c 1000100 rfl)) | (have a15 := (in_c 1000100 rfl); unfold In at a15)); (first | have a16 := in_u i121 | (have a16 := i121; unfold In at a16)); have a17 := t_sub e98 i89 (in_c 1 rfl) rfl; omega
                            have n5a : CS (sL sc5 105 z98.toNatClampNeg (Int64.ofInt (-1000000000000))) x1 z122 z89 := by first | exact hk2 _ _ (by (first | have a0 := in_u i8a | (have a0 := i8a; unfold In at a0)); (first | have a1 := in_u h1 | (have a1 := h1; unfold In at a1)); (first | have a2 := in_u i8 | (have a2 := i8; unfold In at a2)); (first | have a3 := in_u j5_3 | (have a3 := j5_3; unfold In at a3)); (first | have a4 := in_u i24 | (have a4 := i24; unfold In at a4)); (first | have a5 := in_u i122 | (have a5 := i122; unfold In at a5)); have a6 := t_add e122 i8 (in_c 1 rfl) rfl; (first | have a7 := in_u ((in_c 1 rfl)) | (have a7 := (in_c 1 rfl); unfold In at a7)); (first | have a8 := in_u i117 | (have a8 := i117; unfold In at a8)); have a9 := t_add e89 j5_3 (in_c (-1) rfl) rfl; (first | have a10 := in_u ((in_c (-1) rfl)) | (have a10 := (in_c (-1) rfl); unfold In at a10)); (first | have a11 := in_u i111 | (have a11 := i111; unfold In at a11)); have a12 := t_sub e110 i89 (in_c 1 rfl) rfl; (first | have a13 := in_u i118x1 | (have a13 := i118x1; unfold In at a13)); have a14 := t_sub e103 i24 (in_c 1000100 rfl) rfl; (first | have a15 := in_u ((in_c 1000100 rfl)) | (have a15 := (in_c 1000100 rfl); unfold In at a15)); (first | have a16 := in_u i121 | (have a16 := i121; unfold In at a16)); have a17 := t_sub e98 i89 (in_c 1 rfl) rfl; omega) (by (first | have a0 := in_u i8a | (have a0 := i8a; unfold In at a0)); (first | have a1 := in_u h1 | (have a1 := h1; unfold In at a1)); (first | have a2 := in_u i8 | (have a2 := i8; unfold In at a2)); (first | have a3 := in_u j5_3 | (have a3 := j5_3; unfold In at a3)); (first | have a4 := in_u i24 | (have a4 := i24; unfold In at a4)); (first | have a5 := in_u i122 | (have a5 := i122; unfold In at a5)); have a6 := t_add e122 i8 (in_c 1 rfl) rfl; (first | have a7 := in_u ((in_c 1 rfl)) | (have a7 := (in_c 1 rfl); unfold In at a7)); (first | have a8 := in_u i117 | (have a8 := i117; unfold In at a8)); have a9 := t_add e89 j5_3 (in_c (-1) rfl) rfl; (first | have a10 := in_u ((in_c (-1) rfl)) | (have a10 := (in_c (-1) rfl); unfold In at a10)); (first | have a11 := in_u i111 | (have a11 := i111; unfold In at a11)); have a12 := t_sub e110 i89 (in_c 1 rfl) rfl; (first | have a13 := in_u i118x1 | (have a13 := i118x1; unfold In at a13)); have a14 := t_sub e103 i24 (in_c 1000100 rfl) rfl; (first | have a15 := in_u ((in_c 1000100 rfl)) | (have a15 := (in_c 1000100 rfl); unfold In at a15)); (first | have a16 := in_u i121 | (have a16 := i121; unfold In at a16)); have a17 := t_sub e98 i89 (in_c 1 rfl) rfl; omega) | exact cs_0 rfl h1.1
                            exact gg_w (by first | exact Nat.le_add_right _ _ | exact gw2 | exact gw3 | exact gwe rfl | exact gwf rfl | exact gwg rfl | exact gwh rfl | omega) (gg_f (gf_cons rfl (gf_cons rfl (gf_cons rfl (gf_cons rfl (gf_cons rfl gf_nil))))) (ih5 (sL sc5 105 z98.toNatClampNeg (Int64.ofInt (-1000000000000))) z89 z122 hI121 (fr_sL rfl hFc5) (in_w 0 120 i117 rfl) (in_w 0 120 i122 rfl) n5 n5a (m_up mm5 (t_add e122 i8 (in_c 1 rfl) rfl) (in_w 1 1 (in_c 1 rfl) rfl))))
                          · skip
                            exact n_eq c118x60x48 (in_c 0 rfl) (in_c 1 rfl) rfl
                      · skip
                        have i118x60x29 := z_gt 1 1 c118x60x29 i118x60x28 rfl
                        have c118x60x29a := lc_gt e118x60x28 c118x60x29
                        have i118x60x29a := lr_lt2 1 9223372036854775807 c118x60x29a (l_c 0 rfl) i118x60x14x3a rfl
                        refine g_iconst 1 33 (gd rfl) rfl rfl ?_
                        refine g_goto 37 (gd rfl) rfl ?_
                        refine g_lload_n 38 (gd rfl) rfl rfl ?_
                        refine g_lconst 0 39 (gd rfl) rfl rfl ?_
                        refine g_lcmp 40 (gd rfl) rfl (fun z118x60x39 e118x60x39 => ?_)
                        have i118x60x39 := lc_in e118x60x39
                        refine g_if_le 43 47 (gd rfl) rfl rfl (fun c118x60x40 => ?_) (fun c118x60x40 => ?_)
                        · skip
                          have i118x60x40 := z_le (-1) 0 c118x60x40 i118x60x39 rfl
                          have c118x60x40a := lc_le e118x60x39 c118x60x40
                          have i118x60x40a := lr_le1 0 0 c118x60x40a i118x60x7x3a (l_c 0 rfl) rfl
                          refine g_iconst 0 48 (gd rfl) rfl rfl ?_
                          refine g_cmp_ne 51 57 (gd rfl) rfl rfl (fun c118x60x48 => ?_) (fun c118x60x48 => ?_)
                          · skip
                            refine g_ldc2_w (-1000000000000) 60 (gd rfl) rfl rfl ?_
                            refine g_lreturn (gd rfl) rfl (hp118x60 _ _ ?_)
                            show GG _ _ _ _ _ _ _ _ [.long (Int64.ofInt (-1000000000000))] _ _ _
                            refine g_lreturn (gd rfl) rfl (hp118 _ _ ?_)
                            show GG _ _ _ _ _ _ _ _ [.long (Int64.ofInt (-1000000000000)), .int z98, .ref (A 105)] _ _ _
                            have i121 : In z98 0 119 := by (first | have a0 := in_u i8a | (have a0 := i8a; unfold In at a0)); (first | have a1 := in_u h1 | (have a1 := h1; unfold In at a1)); (first | have a2 := in_u i8 | (have a2 := i8; unfold In at a2)); (first | have a3 := in_u j5_3 | (have a3 := j5_3; unfold In at a3)); (first | have a4 := in_u i24 | (have a4 := i24; unfold In at a4)); (first | have a5 := in_u i117 | (have a5 := i117; unfold In at a5)); have a6 := t_add e89 j5_3 (in_c (-1) rfl) rfl; (first | have a7 := in_u ((in_c (-1) rfl)) | (have a7 := (in_c (-1) rfl); unfold In at a7)); (first | have a8 := in_u i111 | (have a8 := i111; unfold In at a8)); have a9 := t_sub e110 i89 (in_c 1 rfl) rfl; (first | have a10 := in_u ((in_c 1 rfl)) | (have a10 := (in_c 1 rfl); unfold In at a10)); (first | have a11 := in_u i118x1 | (have a11 := i118x1; unfold In at a11)); have a12 := t_sub e103 i24 (in_c 1000100 rfl) rfl; (first | have a13 := in_u ((in_c 1000100 rfl)) | (have a13 := (in_c 1000100 rfl); unfold In at a13)); (first | have a14 := in_u i98 | (have a14 := i98; unfold In at a14)); have a15 := t_sub e98 i89 (in_c 1 rfl) rfl; exact ⟨by omega, by omega⟩
                            refine g_lastore 122 (gd rfl) rfl (n := 120) rfl (in_ix i121 rfl) ?_
                            have hI121 := inv_sL (q := 105) (j := z98.toNatClampNeg) (x := (Int64.ofInt (-1000000000000))) hIc5 rfl (l_rng (Int64.ofInt (-1000000000000)))
                            refine g_iinc 125 (gd rfl) rfl rfl (Nat.le_of_ble_eq_true rfl) (fun z122 e122 => ?_)
                            have i122 := in_add 1 120 e122 i8 (in_c 1 rfl) rfl rfl
                            refine g_goto 5 (gd rfl) rfl ?_
                            have n5 : (z89).toInt ≤ (z122).toInt := by (first | have a0 := in_u i8a | (have a0 := i8a; unfold In at a0)); (first | have a1 := in_u h1 | (have a1 := h1; unfold In at a1)); (first | have a2 := in_u i8 | (have a2 := i8; unfold In at a2)); (first | have a3 := in_u j5_3 | (have a3 := j5_3; unfold In at a3)); (first | have a4 := in_u i24 | (have a4 := i24; unfold In at a4)); (first | have a5 := in_u i122 | (have a5 := i122; unfold In at a5)); have a6 := t_add e122 i8 (in_c 1 rfl) rfl; (first | have a7 := in_u ((in_c 1 rfl)) | (have a7 := (in_c 1 rfl); unfold In at a7)); (first | have a8 := in_u i117 | (have a8 := i117; unfold In at a8)); have a9 := t_add e89 j5_3 (in_c (-1) rfl) rfl; (first | have a10 := in_u ((in_c (-1) rfl)) | (have a10 := (in_c (-1) rfl); unfold In at a10)); (first | have a11 := in_u i111 | (have a11 := i111; unfold In at a11)); have a12 := t_sub e110 i89 (in_c 1 rfl) rfl; (first | have a13 := in_u i118x1 | (have a13 := i118x1; unfold In at a13)); have a14 := t_sub e103 i24 (in_c 1000100 rfl) rfl; (first | have a15 := in_u ((in_c 1000100 rfl)) | (have a15 := (in_c 1000100 rfl); unfold In at a15)); (first | have a16 := in_u i121 | (have a16 := i121; unfold In at a16)); have a17 := t_sub e98 i89 (in_c 1 rfl) rfl; omega
                            have n5a : CS (sL sc5 105 z98.toNatClampNeg (Int64.ofInt (-1000000000000))) x1 z122 z89 := by first | exact hk2 _ _ (by (first | have a0 := in_u i8a | (have a0 := i8a; unfold In at a0)); (first | have a1 := in_u h1 | (have a1 := h1; unfold In at a1)); (first | have a2 := in_u i8 | (have a2 := i8; unfold In at a2)); (first | have a3 := in_u j5_3 | (have a3 := j5_3; unfold In at a3)); (first | have a4 := in_u i24 | (have a4 := i24; unfold In at a4)); (first | have a5 := in_u i122 | (have a5 := i122; unfold In at a5)); have a6 := t_add e122 i8 (in_c 1 rfl) rfl; (first | have a7 := in_u ((in_c 1 rfl)) | (have a7 := (in_c 1 rfl); unfold In at a7)); (first | have a8 := in_u i117 | (have a8 := i117; unfold In at a8)); have a9 := t_add e89 j5_3 (in_c (-1) rfl) rfl; (first | have a10 := in_u ((in_c (-1) rfl)) | (have a10 := (in_c (-1) rfl); unfold In at a10)); (first | have a11 := in_u i111 | (have a11 := i111; unfold In at a11)); have a12 := t_sub e110 i89 (in_c 1 rfl) rfl; (first | have a13 := in_u i118x1 | (have a13 := i118x1; unfold In at a13)); have a14 := t_sub e103 i24 (in_c 1000100 rfl) rfl; (first | have a15 := in_u ((in_c 1000100 rfl)) | (have a15 := (in_c 1000100 rfl); unfold In at a15)); (first | have a16 := in_u i121 | (have a16 := i121; unfold In at a16)); have a17 := t_sub e98 i89 (in_c 1 rfl) rfl; omega) (by (first | have a0 := in_u i8a | (have a0 := i8a; unfold In at a0)); (first | have a1 := in_u h1 | (have a1 := h1; unfold In at a1)); (first | have a2 := in_u i8 | (have a2 := i8; unfold In at a2)); (first | have a3 := in_u j5_3 | (have a3 := j5_3; unfold In at a3)); (first | have a4 := in_u i24 | (have a4 := i24; unfold In at a4)); (first | have a5 := in_u i122 | (have a5 := i122; unfold In at a5)); have a6 := t_add e122 i8 (in_c 1 rfl) rfl; (first | have a7 := in_u ((in_c 1 rfl)) | (have a7 := (in_c 1 rfl); unfold In at a7)); (first | have a8 := in_u i117 | (have a8 := i117; unfold In at a8)); have a9 := t_add e89 j5_3 (in_c (-1) rfl) rfl; (first | have a10 := in_u ((in_c (-1) rfl)) | (have a10 := (in_c (-1) rfl); unfold In at a10)); (first | have a11 := in_u i111 | (have a11 := i111; unfold In at a11)); have a12 := t_sub e110 i89 (in_c 1 rfl) rfl; (first | have a13 := in_u i118x1 | (have a13 := i118x1; unfold In at a13)); have a14 := t_sub e103 i24 (in_c 1000100 rfl) rfl; (first | have a15 := in_u ((in_c 1000100 rfl)) | (have a15 := (in_c 1000100 rfl); unfold In at a15)); (first | have a16 := in_u i121 | (have a16 := i121; unfold In at a16)); have a17 := t_sub e98 i89 (in_c 1 rfl) rfl; omega) | exact cs_0 rfl h1.1
                            exact gg_w (by first | exact Nat.le_add_right _ _ | exact gw2 | exact gw3 | exact gwe rfl | exact gwf rfl | exact gwg rfl | exact gwh rfl | omega) (gg_f (gf_cons rfl (gf_cons rfl (gf_cons rfl (gf_cons rfl (gf_cons rfl gf_nil))))) (ih5 (sL sc5 105 z98.toNatClampNeg (Int64.ofInt (-1000000000000))) z89 z122 hI121 (fr_sL rfl hFc5) (in_w 0 120 i117 rfl) (in_w 0 120 i122 rfl) n5 n5a (m_up mm5 (t_add e122 i8 (in_c 1 rfl) rfl) (in_w 1 1 (in_c 1 rfl) rfl))))
                          · skip
                            exact n_eq c118x60x48 (in_c 1 rfl) (in_c 0 rfl) rfl
                        · skip
                          have i118x60x40 := z_gt 1 1 c118x60x40 i118x60x39 rfl
                          have c118x60x40a := lc_gt e118x60x39 c118x60x40
                          have i118x60x40a := lr_lt2 1 9223372036854775807 c118x60x40a (l_c 0 rfl) i118x60x7x3a rfl
                          refine g_iconst 1 44 (gd rfl) rfl rfl ?_
                          refine g_goto 48 (gd rfl) rfl ?_
                          refine g_cmp_ne 51 57 (gd rfl) rfl rfl (fun c118x60x48 => ?_) (fun c118x60x48 => ?_)
                          · skip
                            exact n_ne c118x60x48 (in_c 1 rfl) (in_c 1 rfl) rfl
                          · skip
                            refine g_ldc2_w 1000000000000 54 (gd rfl) rfl rfl ?_
                            refine g_goto 60 (gd rfl) rfl ?_
                            refine g_lreturn (gd rfl) rfl (hp118x60 _ _ ?_)
                            show GG _ _ _ _ _ _ _ _ [.long (Int64.ofInt 1000000000000)] _ _ _
                            refine g_lreturn (gd rfl) rfl (hp118 _ _ ?_)
                            show GG _ _ _ _ _ _ _ _ [.long (Int64.ofInt 1000000000000), .int z98, .ref (A 105)] _ _ _
                            have i121 : In z98 0 119 := by (first | have a0 := in_u i8a | (have a0 := i8a; unfold In at a0)); (first | have a1 := in_u h1 | (have a1 := h1; unfold In at a1)); (first | have a2 := in_u i8 | (have a2 := i8; unfold In at a2)); (first | have a3 := in_u j5_3 | (have a3 := j5_3; unfold In at a3)); (first | have a4 := in_u i24 | (have a4 := i24; unfold In at a4)); (first | have a5 := in_u i117 | (have a5 := i117; unfold In at a5)); have a6 := t_add e89 j5_3 (in_c (-1) rfl) rfl; (first | have a7 := in_u ((in_c (-1) rfl)) | (have a7 := (in_c (-1) rfl); unfold In at a7)); (first | have a8 := in_u i111 | (have a8 := i111; unfold In at a8)); have a9 := t_sub e110 i89 (in_c 1 rfl) rfl; (first | have a10 := in_u ((in_c 1 rfl)) | (have a10 := (in_c 1 rfl); unfold In at a10)); (first | have a11 := in_u i118x1 | (have a11 := i118x1; unfold In at a11)); have a12 := t_sub e103 i24 (in_c 1000100 rfl) rfl; (first | have a13 := in_u ((in_c 1000100 rfl)) | (have a13 := (in_c 1000100 rfl); unfold In at a13)); (first | have a14 := in_u i98 | (have a14 := i98; unfold In at a14)); have a15 := t_sub e98 i89 (in_c 1 rfl) rfl; exact ⟨by omega, by omega⟩
                            refine g_lastore 122 (gd rfl) rfl (n := 120) rfl (in_ix i121 rfl) ?_
                            have hI121 := inv_sL (q := 105) (j := z98.toNatClampNeg) (x := (Int64.ofInt 1000000000000)) hIc5 rfl (l_rng (Int64.ofInt 1000000000000))
                            refine g_iinc 125 (gd rfl) rfl rfl (Nat.le_of_ble_eq_true rfl) (fun z122 e122 => ?_)
                            have i122 := in_add 1 120 e122 i8 (in_c 1 rfl) rfl rfl
                            refine g_goto 5 (gd rfl) rfl ?_
                            have n5 : (z89).toInt ≤ (z122).toInt := by (first | have a0 := in_u i8a | (have a0 := i8a; unfold In at a0)); (first | have a1 := in_u h1 | (have a1 := h1; unfold In at a1)); (first | have a2 := in_u i8 | (have a2 := i8; unfold In at a2)); (first | have a3 := in_u j5_3 | (have a3 := j5_3; unfold In at a3)); (first | have a4 := in_u i24 | (have a4 := i24; unfold In at a4)); (first | have a5 := in_u i122 | (have a5 := i122; unfold In at a5)); have a6 := t_add e122 i8 (in_c 1 rfl) rfl; (first | have a7 := in_u ((in_c 1 rfl)) | (have a7 := (in_c 1 rfl); unfold In at a7)); (first | have a8 := in_u i117 | (have a8 := i117; unfold In at a8)); have a9 := t_add e89 j5_3 (in_c (-1) rfl) rfl; (first | have a10 := in_u ((in_c (-1) rfl)) | (have a10 := (in_c (-1) rfl); unfold In at a10)); (first | have a11 := in_u i111 | (have a11 := i111; unfold In at a11)); have a12 := t_sub e110 i89 (in_c 1 rfl) rfl; (first | have a13 := in_u i118x1 | (have a13 := i118x1; unfold In at a13)); have a14 := t_sub e103 i24 (in_c 1000100 rfl) rfl; (first | have a15 := in_u ((in_c 1000100 rfl)) | (have a15 := (in_c 1000100 rfl); unfold In at a15)); (first | have a16 := in_u i121 | (have a16 := i121; unfold In at a16)); have a17 := t_sub e98 i89 (in_c 1 rfl) rfl; omega
                            have n5a : CS (sL sc5 105 z98.toNatClampNeg (Int64.ofInt 1000000000000)) x1 z122 z89 := by first | exact hk2 _ _ (by (first | have a0 := in_u i8a | (have a0 := i8a; unfold In at a0)); (first | have a1 := in_u h1 | (have a1 := h1; unfold In at a1)); (first | have a2 := in_u i8 | (have a2 := i8; unfold In at a2)); (first | have a3 := in_u j5_3 | (have a3 := j5_3; unfold In at a3)); (first | have a4 := in_u i24 | (have a4 := i24; unfold In at a4)); (first | have a5 := in_u i122 | (have a5 := i122; unfold In at a5)); have a6 := t_add e122 i8 (in_c 1 rfl) rfl; (first | have a7 := in_u ((in_c 1 rfl)) | (have a7 := (in_c 1 rfl); unfold In at a7)); (first | have a8 := in_u i117 | (have a8 := i117; unfold In at a8)); have a9 := t_add e89 j5_3 (in_c (-1) rfl) rfl; (first | have a10 := in_u ((in_c (-1) rfl)) | (have a10 := (in_c (-1) rfl); unfold In at a10)); (first | have a11 := in_u i111 | (have a11 := i111; unfold In at a11)); have a12 := t_sub e110 i89 (in_c 1 rfl) rfl; (first | have a13 := in_u i118x1 | (have a13 := i118x1; unfold In at a13)); have a14 := t_sub e103 i24 (in_c 1000100 rfl) rfl; (first | have a15 := in_u ((in_c 1000100 rfl)) | (have a15 := (in_c 1000100 rfl); unfold In at a15)); (first | have a16 := in_u i121 | (have a16 := i121; unfold In at a16)); have a17 := t_sub e98 i89 (in_c 1 rfl) rfl; omega) (by (first | have a0 := in_u i8a | (have a0 := i8a; unfold In at a0)); (first | have a1 := in_u h1 | (have a1 := h1; unfold In at a1)); (first | have a2 := in_u i8 | (have a2 := i8; unfold In at a2)); (first | have a3 := in_u j5_3 | (have a3 := j5_3; unfold In at a3)); (first | have a4 := in_u i24 | (have a4 := i24; unfold In at a4)); (first | have a5 := in_u i122 | (have a5 := i122; unfold In at a5)); have a6 := t_add e122 i8 (in_c 1 rfl) rfl; (first | have a7 := in_u ((in_c 1 rfl)) | (have a7 := (in_c 1 rfl); unfold In at a7)); (first | have a8 := in_u i117 | (have a8 := i117; unfold In at a8)); have a9 := t_add e89 j5_3 (in_c (-1) rfl) rfl; (first | have a10 := in_u ((in_c (-1) rfl)) | (have a10 := (in_c (-1) rfl); unfold In at a10)); (first | have a11 := in_u i111 | (have a11 := i111; unfold In at a11)); have a12 := t_sub e110 i89 (in_c 1 rfl) rfl; (first | have a13 := in_u i118x1 | (have a13 := i118x1; unfold In at a13)); have a14 := t_sub e103 i24 (in_c 1000100 rfl) rfl; (first | have a15 := in_u ((in_c 1000100 rfl)) | (have a15 := (in_c 1000100 rfl); unfold In at a15)); (first | have a16 := in_u i121 | (have a16 := i121; unfold In at a16)); have a17 := t_sub e98 i89 (in_c 1 rfl) rfl; omega) | exact cs_0 rfl h1.1
                            exact gg_w (by first | exact Nat.le_add_right _ _ | exact gw2 | exact gw3 | exact gwe rfl | exact gwf rfl | exact gwg rfl | exact gwh rfl | omega) (gg_f (gf_cons rfl (gf_cons rfl (gf_cons rfl (gf_cons rfl (gf_cons rfl gf_nil))))) (ih5 (sL sc5 105 z98.toNatClampNeg (Int64.ofInt 1000000000000)) z89 z122 hI121 (fr_sL rfl hFc5) (in_w 0 120 i117 rfl) (in_w 0 120 i122 rfl) n5 n5a (m_up mm5 (t_add e122 i8 (in_c 1 rfl) rfl) (in_w 1 1 (in_c 1 rfl) rfl))))
                    · skip
                      have i118x60x19 := z_le (-1) 0 c118x60x19 i118x60x18 rfl
                      have c118x60x19a := lc_le e118x60x18 c118x60x19
                      have i118x60x19a := lr_le2 0 9223372036854775807 c118x60x19a i118x60x7x3a (l_rng z118x60x17) rfl
                      refine g_lload_n 23 (gd rfl) rfl rfl ?_
                      refine g_lload_n 24 (gd rfl) rfl rfl ?_
                      refine g_lmul 25 (gd rfl) rfl (fun z118x60x24 e118x60x24 => ?_)
                      refine g_lreturn (gd rfl) rfl (hp118x60 _ _ ?_)
                      show GG _ _ _ _ _ _ _ _ [.long z118x60x24] _ _ _
                      refine g_lreturn (gd rfl) rfl (hp118 _ _ ?_)
                      show GG _ _ _ _ _ _ _ _ [.long z118x60x24, .int z98, .ref (A 105)] _ _ _
                      have i121 : In z98 0 119 := by (first | have a0 := in_u i8a | (have a0 := i8a; unfold In at a0)); (first | have a1 := in_u h1 | (have a1 := h1; unfold In at a1)); (first | have a2 := in_u i8 | (have a2 := i8; unfold In at a2)); (first | have a3 := in_u j5_3 | (have a3 := j5_3; unfold In at a3)); (first | have a4 := in_u i24 | (have a4 := i24; unfold In at a4)); (first | have a5 := in_u i117 | (have a5 := i117; unfold In at a5)); have a6 := t_add e89 j5_3 (in_c (-1) rfl) rfl; (first | have a7 := in_u ((in_c (-1) rfl)) | (have a7 := (in_c (-1) rfl); unfold In at a7)); (first | have a8 := in_u i111 | (have a8 := i111; unfold In at a8)); have a9 := t_sub e110 i89 (in_c 1 rfl) rfl; (first | have a10 := in_u ((in_c 1 rfl)) | (have a10 := (in_c 1 rfl); unfold In at a10)); (first | have a11 := in_u i118x1 | (have a11 := i118x1; unfold In at a11)); have a12 := t_sub e103 i24 (in_c 1000100 rfl) rfl; (first | have a13 := in_u ((in_c 1000100 rfl)) | (have a13 := (in_c 1000100 rfl); unfold In at a13)); (first | have a14 := in_u i98 | (have a14 := i98; unfold In at a14)); have a15 := t_sub e98 i89 (in_c 1 rfl) rfl; exact ⟨by omega, by omega⟩
                      refine g_lastore 122 (gd rfl) rfl (n := 120) rfl (in_ix i121 rfl) ?_
                      have hI121 := inv_sL (q := 105) (j := z98.toNatClampNeg) (x := z118x60x24) hIc5 rfl (l_rng z118x60x24)
                      refine g_iinc 125 (gd rfl) rfl rfl (Nat.le_of_ble_eq_true rfl) (fun z122 e122 => ?_)
                      have i122 := in_add 1 120 e122 i8 (in_c 1 rfl) rfl rfl
                      refine g_goto 5 (gd rfl) rfl ?_
                      have n5 : (z89).toInt ≤ (z122).toInt := by (first | have a0 := in_u i8a | (have a0 := i8a; unfold In at a0)); (first | have a1 := in_u h1 | (have a1 := h1; unfold In at a1)); (first | have a2 := in_u i8 | (have a2 := i8; unfold In at a2)); (first | have a3 := in_u j5_3 | (have a3 := j5_3; unfold In at a3)); (first | have a4 := in_u i24 | (have a4 := i24; unfold In at a4)); (first | have a5 := in_u i122 | (have a5 := i122; unfold In at a5)); have a6 := t_add e122 i8 (in_c 1 rfl) rfl; (first | have a7 := in_u ((in_c 1 rfl)) | (have a7 := (in_c 1 rfl); unfold In at a7)); (first | have a8 := in_u i117 | (have a8 := i117; unfold In at a8)); have a9 := t_add e89 j5_3 (in_c (-1) rfl) rfl; (first | have a10 := in_u ((in_c (-1) rfl)) | (have a10 := (in_c (-1) rfl); unfold In at a10)); (first | have a11 := in_u i111 | (have a11 := i111; unfold In at a11)); have a12 := t_sub e110 i89 (in_c 1 rfl) rfl; (first | have a13 := in_u i118x1 | (have a13 := i118x1; unfold In at a13)); have a14 := t_sub e103 i24 (in_c 1000100 rfl) rfl; (first | have a15 := in_u ((in_c 1000100 rfl)) | (have a15 := (in_c 1000100 rfl); unfold In at a15)); (first | have a16 := in_u i121 | (have a16 := i121; unfold In at a16)); have a17 := t_sub e98 i89 (in_c 1 rfl) rfl; omega
                      have n5a : CS (sL sc5 105 z98.toNatClampNeg z118x60x24) x1 z122 z89 := by first | exact hk2 _ _ (by (first | have a0 := in_u i8a | (have a0 := i8a; unfold In at a0)); (first | have a1 := in_u h1 | (have a1 := h1; unfold In at a1)); (first | have a2 := in_u i8 | (have a2 := i8; unfold In at a2)); (first | have a3 := in_u j5_3 | (have a3 := j5_3; unfold In at a3)); (first | have a4 := in_u i24 | (have a4 := i24; unfold In at a4)); (first | have a5 := in_u i122 | (have a5 := i122; unfold In at a5)); have a6 := t_add e122 i8 (in_c 1 rfl) rfl; (first | have a7 := in_u ((in_c 1 rfl)) | (have a7 := (in_c 1 rfl); unfold In at a7)); (first | have a8 := in_u i117 | (have a8 := i117; unfold In at a8)); have a9 := t_add e89 j5_3 (in_c (-1) rfl) rfl; (first | have a10 := in_u ((in_c (-1) rfl)) | (have a10 := (in_c (-1) rfl); unfold In at a10)); (first | have a11 := in_u i111 | (have a11 := i111; unfold In at a11)); have a12 := t_sub e110 i89 (in_c 1 rfl) rfl; (first | have a13 := in_u i118x1 | (have a13 := i118x1; unfold In at a13)); have a14 := t_sub e103 i24 (in_c 1000100 rfl) rfl; (first | have a15 := in_u ((in_c 1000100 rfl)) | (have a15 := (in_c 1000100 rfl); unfold In at a15)); (first | have a16 := in_u i121 | (have a16 := i121; unfold In at a16)); have a17 := t_sub e98 i89 (in_c 1 rfl) rfl; omega) (by (first | have a0 := in_u i8a | (have a0 := i8a; unfold In at a0)); (first | have a1 := in_u h1 | (have a1 := h1; unfold In at a1)); (first | have a2 := in_u i8 | (have a2 := i8; unfold In at a2)); (first | have a3 := in_u j5_3 | (have a3 := j5_3; unfold In at a3)); (first | have a4 := in_u i24 | (have a4 := i24; unfold In at a4)); (first | have a5 := in_u i122 | (have a5 := i122; unfold In at a5)); have a6 := t_add e122 i8 (in_c 1 rfl) rfl; (first | have a7 := in_u ((in_c 1 rfl)) | (have a7 := (in_c 1 rfl); unfold In at a7)); (first | have a8 := in_u i117 | (have a8 := i117; unfold In at a8)); have a9 := t_add e89 j5_3 (in_c (-1) rfl) rfl; (first | have a10 := in_u ((in_c (-1) rfl)) | (have a10 := (in_c (-1) rfl); unfold In at a10)); (first | have a11 := in_u i111 | (have a11 := i111; unfold In at a11)); have a12 := t_sub e110 i89 (in_c 1 rfl) rfl; (first | have a13 := in_u i118x1 | (have a13 := i118x1; unfold In at a13)); have a14 := t_sub e103 i24 (in_c 1000100 rfl) rfl; (first | have a15 := in_u ((in_c 1000100 rfl)) | (have a15 := (in_c 1000100 rfl); unfold In at a15)); (first | have a16 := in_u i121 | (have a16 := i121; unfold In at a16)); have a17 := t_sub e98 i89 (in_c 1 rfl) rfl; omega) | exact cs_0 rfl h1.1
                      exact gg_w (by first | exact Nat.le_add_right _ _ | exact gw2 | exact gw3 | exact gwe rfl | exact gwf rfl | exact gwg rfl | exact gwh rfl | omega) (gg_f (gf_cons rfl (gf_cons rfl (gf_cons rfl (gf_cons rfl (gf_cons rfl gf_nil))))) (ih5 (sL sc5 105 z98.toNatClampNeg z118x60x24) z89 z122 hI121 (fr_sL rfl hFc5) (in_w 0 120 i117 rfl) (in_w 0 120 i122 rfl) n5 n5a (m_up mm5 (t_add e122 i8 (in_c 1 rfl) rfl) (in_w 1 1 (in_c 1 rfl) rfl))))
                  · skip
                    have i118x60x14x3 := z_lt (-1) (-1) c118x60x14x3 i118x60x14x2 rfl
                    have c118x60x14x3a := lc_lt e118x60x14x2 c118x60x14x3
                    have i118x60x14x3a := lr_lt1 (-9223372036854775808) (-1) c118x60x14x3a (l_rng z111) (l_c 0 rfl) rfl
                    refine g_lload_n 7 (gd rfl) rfl rfl ?_
                    refine g_lneg 8 (gd rfl) rfl (fun z118x60x14x7 e118x60x14x7 => ?_)
                    refine g_goto 12 (gd rfl) rfl ?_
                    refine g_lreturn (gd rfl) rfl (hp118x60x14 _ _ ?_)
                    show GG _ _ _ _ _ _ _ _ [.long z118x60x14x7, .long (Int64.ofInt 1000000000000), .long z117] _ _ _
                    refine g_ldiv 18 (gd rfl) rfl (lnz (lneg_nz e118x60x14x7 (nz_l c118x60x3a))) (fun z118x60x17 e118x60x17 => ?_)
                    refine g_lcmp 19 (gd rfl) rfl (fun z118x60x18 e118x60x18 => ?_)
                    have i118x60x18 := lc_in e118x60x18
                    refine g_if_gt 22 26 (gd rfl) rfl rfl (fun c118x60x19 => ?_) (fun c118x60x19 => ?_)
                    · skip
                      have i118x60x19 := z_gt 1 1 c118x60x19 i118x60x18 rfl
                      have c118x60x19a := lc_gt e118x60x18 c118x60x19
                      have i118x60x19a := lr_lt1 (-9223372036854775808) 9223372036854775806 c118x60x19a (l_rng z118x60x17) i118x60x7x3a rfl
                      refine g_lload_n 27 (gd rfl) rfl rfl ?_
                      refine g_lconst 0 28 (gd rfl) rfl rfl ?_
                      refine g_lcmp 29 (gd rfl) rfl (fun z118x60x28 e118x60x28 => ?_)
                      have i118x60x28 := lc_in e118x60x28
                      refine g_if_le 32 36 (gd rfl) rfl rfl (fun c118x60x29 => ?_) (fun c118x60x29 => ?_)
                      · skip
                        have i118x60x29 := z_le (-1) 0 c118x60x29 i118x60x28 rfl
                        have c118x60x29a := lc_le e118x60x28 c118x60x29
                        refine g_iconst 0 37 (gd rfl) rfl rfl ?_
                        refine g_lload_n 38 (gd rfl) rfl rfl ?_
                        refine g_lconst 0 39 (gd rfl) rfl rfl ?_
                        refine g_lcmp 40 (gd rfl) rfl (fun z118x60x39 e118x60x39 => ?_)
                        have i118x60x39 := lc_in e118x60x39
                        refine g_if_le 43 47 (gd rfl) rfl rfl (fun c118x60x40 => ?_) (fun c118x60x40 => ?_)
                        · skip
                          have i118x60x40 := z_le (-1) 0 c118x60x40 i118x60x39 rfl
                          have c118x60x40a := lc_le e118x60x39 c118x60x40
                          have i118x60x40a := lr_le1 0 0 c118x60x40a i118x60x7x3a (l_c 0 rfl) rfl
                          refine g_iconst 0 48 (gd rfl) rfl rfl ?_
                          refine g_cmp_ne 51 57 (gd rfl) rfl rfl (fun c118x60x48 => ?_) (fun c118x60x48 => ?_)
                          · skip
                            exact n_ne c118x60x48 (in_c 0 rfl) (in_c 0 rfl) rfl
                          · skip
                            refine g_ldc2_w 1000000000000 54 (gd rfl) rfl rfl ?_
                            refine g_goto 60 (gd rfl) rfl ?_
                            refine g_lreturn (gd rfl) rfl (hp118x60 _ _ ?_)
                            show GG _ _ _ _ _ _ _ _ [.long (Int64.ofInt 1000000000000)] _ _ _
                            refine g_lreturn (gd rfl) rfl (hp118 _ _ ?_)
                            show GG _ _ _ _ _ _ _ _ [.long (Int64.ofInt 1000000000000), .int z98, .ref (A 105)] _ _ _
                            have i121 : In z98 0 119 := by (first | have a0 := in_u i8a | (have a0 := i8a; unfold In at a0)); (first | have a1 := in_u h1 | (have a1 := h1; unfold In at a1)); (first | have a2 := in_u i8 | (have a2 := i8; unfold In at a2)); (first | have a3 := in_u j5_3 | (have a3 := j5_3; unfold In at a3)); (first | have a4 := in_u i24 | (have a4 := i24; unfold In at a4)); (first | have a5 := in_u i117 | (have a5 := i117; unfold In at a5)); have a6 := t_add e89 j5_3 (in_c (-1) rfl) rfl; (first | have a7 := in_u ((in_c (-1) rfl)) | (have a7 := (in_c (-1) rfl); unfold In at a7)); (first | have a8 := in_u i111 | (have a8 := i111; unfold In at a8)); have a9 := t_sub e110 i89 (in_c 1 rfl) rfl; (first | have a10 := in_u ((in_c 1 rfl)) | (have a10 := (in_c 1 rfl); unfold In at a10)); (first | have a11 := in_u i118x1 | (have a11 := i118x1; unfold In at a11)); have a12 := t_sub e103 i24 (in_c 1000100 rfl) rfl; (first | have a13 := in_u ((in_c 1000100 rfl)) | (have a13 := (in_c 1000100 rfl); unfold In at a13)); (first | have a14 := in_u i98 | (have a14 := i98; unfold In at a14)); have a15 := t_sub e98 i89 (in_c 1 rfl) rfl; exact ⟨by omega, by omega⟩
                            refine g_lastore 122 (gd rfl) rfl (n := 120) rfl (in_ix i121 rfl) ?_
                            have hI121 := inv_sL (q := 105) (j := z98.toNatClampNeg) (x := (Int64.ofInt 1000000000000)) hIc5 rfl (l_rng (Int64.ofInt 1000000000000))
                            refine g_iinc 125 (gd rfl) rfl rfl (Nat.le_of_ble_eq_true rfl) (fun z122 e122 => ?_)
                            have i122 := in_add 1 120 e122 i8 (in_c 1 rfl) rfl rfl
                            refine g_goto 5 (gd rfl) rfl ?_
                            have n5 : (z89).toInt ≤ (z122).toInt := by (first | have a0 := in_u i8a | (have a0 := i8a; unfold In at a0)); (first | have a1 := in_u h1 | (have a1 := h1; unfold In at a1)); (first | have a2 := in_u i8 | (have a2 := i8; unfold In at a2)); (first | have a3 := in_u j5_3 | (have a3 := j5_3; unfold In at a3)); (first | have a4 := in_u i24 | (have a4 := i24; unfold In at a4)); (first | have a5 := in_u i122 | (have a5 := i122; unfold In at a5)); have a6 := t_add e122 i8 (in_c 1 rfl) rfl; (first | have a7 := in_u ((in_c 1 rfl)) | (have a7 := (in_c 1 rfl); unfold In at a7)); (first | have a8 := in_u i117 | (have a8 := i117; unfold In at a8)); have a9 := t_add e89 j5_3 (in_c (-1) rfl) rfl; (first | have a10 := in_u ((in_c (-1) rfl)) | (have a10 := (in_c (-1) rfl); unfold In at a10)); (first | have a11 := in_u i111 | (have a11 := i111; unfold In at a11)); have a12 := t_sub e110 i89 (in_c 1 rfl) rfl; (first | have a13 := in_u i118x1 | (have a13 := i118x1; unfold In at a13)); have a14 := t_sub e103 i24 (in_c 1000100 rfl) rfl; (first | have a15 := in_u ((in_c 1000100 rfl)) | (have a15 := (in_c 1000100 rfl); unfold In at a15)); (first | have a16 := in_u i121 | (have a16 := i121; unfold In at a16)); have a17 := t_sub e98 i89 (in_c 1 rfl) rfl; omega
                            have n5a : CS (sL sc5 105 z98.toNatClampNeg (Int64.ofInt 1000000000000)) x1 z122 z89 := by first | exact hk2 _ _ (by (first | have a0 := in_u i8a | (have a0 := i8a; unfold In at a0)); (first | have a1 := in_u h1 | (have a1 := h1; unfold In at a1)); (first | have a2 := in_u i8 | (have a2 := i8; unfold In at a2)); (first | have a3 := in_u j5_3 | (have a3 := j5_3; unfold In at a3)); (first | have a4 := in_u i24 | (have a4 := i24; unfold In at a4)); (first | have a5 := in_u i122 | (have a5 := i122; unfold In at a5)); have a6 := t_add e122 i8 (in_c 1 rfl) rfl; (first | have a7 := in_u ((in_c 1 rfl)) | (have a7 := (in_c 1 rfl); unfold In at a7)); (first | have a8 := in_u i117 | (have a8 := i117; unfold In at a8)); have a9 := t_add e89 j5_3 (in_c (-1) rfl) rfl; (first | have a10 := in_u ((in_c (-1) rfl)) | (have a10 := (in_c (-1) rfl); unfold In at a10)); (first | have a11 := in_u i111 | (have a11 := i111; unfold In at a11)); have a12 := t_sub e110 i89 (in_c 1 rfl) rfl; (first | have a13 := in_u i118x1 | (have a13 := i118x1; unfold In at a13)); have a14 := t_sub e103 i24 (in_c 1000100 rfl) rfl; (first | have a15 := in_u ((in_c 1000100 rfl)) | (have a15 := (in_c 1000100 rfl); unfold In at a15)); (first | have a16 := in_u i121 | (have a16 := i121; unfold In at a16)); have a17 := t_sub e98 i89 (in_c 1 rfl) rfl; omega) (by (first | have a0 := in_u i8a | (have a0 := i8a; unfold In at a0)); (first | have a1 := in_u h1 | (have a1 := h1; unfold In at a1)); (first | have a2 := in_u i8 | (have a2 := i8; unfold In at a2)); (first | have a3 := in_u j5_3 | (have a3 := j5_3; unfold In at a3)); (first | have a4 := in_u i24 | (have a4 := i24; unfold In at a4)); (first | have a5 := in_u i122 | (have a5 := i122; unfold In at a5)); have a6 := t_add e122 i8 (in_c 1 rfl) rfl; (first | have a7 := in_u ((in_c 1 rfl)) | (have a7 := (in_c 1 rfl); unfold In at a7)); (first | have a8 := in_u i117 | (have a8 := i117; unfold In at a8)); have a9 := t_add e89 j5_3 (in_c (-1) rfl) rfl; (first | have a10 := in_u ((in_c (-1) rfl)) | (have a10 := (in_c (-1) rfl); unfold In at a10)); (first | have a11 := in_u i111 | (have a11 := i111; unfold In at a11)); have a12 := t_sub e110 i89 (in_c 1 rfl) rfl; (first | have a13 := in_u i118x1 | (have a13 := i118x1; unfold In at a13)); have a14 := t_sub e103 i24 (in_c 1000100 rfl) rfl; (first | have a15 := in_u ((in_c 1000100 rfl)) | (have a15 := (in_c 1000100 rfl); unfold In at a15)); (first | have a16 := in_u i121 | (have a16 := i121; unfold In at a16)); have a17 := t_sub e98 i89 (in_c 1 rfl) rfl; omega) | exact cs_0 rfl h1.1
                            exact gg_w (by first | exact Nat.le_add_right _ _ | exact gw2 | exact gw3 | exact gwe rfl | exact gwf rfl | exact gwg rfl | exact gwh rfl | omega) (gg_f (gf_cons rfl (gf_cons rfl (gf_cons rfl (gf_cons rfl (gf_cons rfl gf_nil))))) (ih5 (sL sc5 105 z98.toNatClampNeg (Int64.ofInt 1000000000000)) z89 z122 hI121 (fr_sL rfl hFc5) (in_w 0 120 i117 rfl) (in_w 0 120 i122 rfl) n5 n5a (m_up mm5 (t_add e122 i8 (in_c 1 rfl) rfl) (in_w 1 1 (in_c 1 rfl) rfl))))
                        · skip
                          have i118x60x40 := z_gt 1 1 c118x60x40 i118x60x39 rfl
                          have c118x60x40a := lc_gt e118x60x39 c118x60x40
                          have i118x60x40a := lr_lt2 1 9223372036854775807 c118x60x40a (l_c 0 rfl) i118x60x7x3a rfl
                          refine g_iconst 1 44 (gd rfl) rfl rfl ?_
                          refine g_goto 48 (gd rfl) rfl ?_
                          refine g_cmp_ne 51 57 (gd rfl) rfl rfl (fun c118x60x48 => ?_) (fun c118x60x48 => ?_)
                          · skip
                            refine g_ldc2_w (-1000000000000) 60 (gd rfl) rfl rfl ?_
                            refine g_lreturn (gd rfl) rfl (hp118x60 _ _ ?_)
                            show GG _ _ _ _ _ _ _ _ [.long (Int64.ofInt (-1000000000000))] _ _ _
                            refine g_lreturn (gd rfl) rfl (hp118 _ _ ?_)
                            show GG _ _ _ _ _ _ _ _ [.long (Int64.ofInt (-1000000000000)), .int z98, .ref (A 105)] _ _ _
                            have i121 : In z98 0 119 := by (first | have a0 := in_u i8a | (have a0 := i8a; unfold In at a0)); (first | have a1 := in_u h1 | (have a1 := h1; unfold In at a1)); (first | have a2 := in_u i8 | (have a2 := i8; unfold In at a2)); (first | have a3 := in_u j5_3 | (have a3 := j5_3; unfold In at a3)); (first | have a4 := in_u i24 | (have a4 := i24; unfold In at a4)); (first | have a5 := in_u i117 | (have a5 := i117; unfold In at a5)); have a6 := t_add e89 j5_3 (in_c (-1) rfl) rfl; (first | have a7 := in_u ((in_c (-1) rfl)) | (have a7 := (in_c (-1) rfl); unfold In at a7)); (first | have a8 := in_u i111 | (have a8 := i111; unfold In at a8)); have a9 := t_sub e110 i89 (in_c 1 rfl) rfl; (first | have a10 := in_u ((in_c 1 rfl)) | (have a10 := (in_c 1 rfl); unfold In at a10)); (first | have a11 := in_u i118x1 | (have a11 := i118x1; unfold In at a11)); have a12 := t_sub e103 i24 (in_c 1000100 rfl) rfl; (first | have a13 := in_u ((in_c 1000100 rfl)) | (have a13 := (in_c 1000100 rfl); unfold In at a13)); (first | have a14 := in_u i98 | (have a14 := i98; unfold In at a14)); have a15 := t_sub e98 i89 (in_c 1 rfl) rfl; exact ⟨by omega, by omega⟩
                            refine g_lastore 122 (gd rfl) rfl (n := 120) rfl (in_ix i121 rfl) ?_
                            have hI121 := inv_sL (q := 105) (j := z98.toNatClampNeg) (x := (Int64.ofInt (-1000000000000))) hIc5 rfl (l_rng (Int64.ofInt (-1000000000000)))
                            refine g_iinc 125 (gd rfl) rfl rfl (Nat.le_of_ble_eq_true rfl) (fun z122 e122 => ?_)
                            have i122 := in_add 1 120 e122 i8 (in_c 1 rfl) rfl rfl
                            refine g_goto 5 (gd rfl) rfl ?_
                            have n5 : (z89).toInt ≤ (z122).toInt := by (first | have a0 := in_u i8a | (have a0 := i8a; unfold In at a0)); (first | have a1 := in_u h1 | (have a1 := h1; unfold In at a1)); (first | have a2 := in_u i8 | (have a2 := i8; unfold In at a2)); (first | have a3 := in_u j5_3 | (have a3 := j5_3; unfold In at a3)); (first | have a4 := in_u i24 | (have a4 := i24; unfold In at a4)); (first | have a5 := in_u i122 | (have a5 := i122; unfold In at a5)); have a6 := t_add e122 i8 (in_c 1 rfl) rfl; (first | have a7 := in_u ((in_c 1 rfl)) | (have a7 := (in_c 1 rfl); unfold In at a7)); (first | have a8 := in_u i117 | (have a8 := i117; unfold In at a8)); have a9 := t_add e89 j5_3 (in_c (-1) rfl) rfl; (first | have a10 := in_u ((in_c (-1) rfl)) | (have a10 := (in_c (-1) rfl); unfold In at a10)); (first | have a11 := in_u i111 | (have a11 := i111; unfold In at a11)); have a12 := t_sub e110 i89 (in_c 1 rfl) rfl; (first | have a13 := in_u i118x1 | (have a13 := i118x1; unfold In at a13)); have a14 := t_sub e103 i24 (in_c 1000100 rfl) rfl; (first | have a15 := in_u ((in_c 1000100 rfl)) | (have a15 := (in_c 1000100 rfl); unfold In at a15)); (first | have a16 := in_u i121 | (have a16 := i121; unfold In at a16)); have a17 := t_sub e98 i89 (in_c 1 rfl) rfl; omega
                            have n5a : CS (sL sc5 105 z98.toNatClampNeg (Int64.ofInt (-1000000000000))) x1 z122 z89 := by first | exact hk2 _ _ (by (first | have a0 := in_u i8a | (have a0 := i8a; unfold In at a0)); (first | have a1 := in_u h1 | (have a1 := h1; unfold In at a1)); (first | have a2 := in_u i8 | (have a2 := i8; unfold In at a2)); (first | have a3 := in_u j5_3 | (have a3 := j5_3; unfold In at a3)); (first | have a4 := in_u i24 | (have a4 := i24; unfold In at a4)); (first | have a5 := in_u i122 | (have a5 := i122; unfold In at a5)); have a6 := t_add e122 i8 (in_c 1 rfl) rfl; (first | have a7 := in_u ((in_c 1 rfl)) | (have a7 := (in_c 1 rfl); unfold In at a7)); (first | have a8 := in_u i117 | (have a8 := i117; unfold In at a8)); have a9 := t_add e89 j5_3 (in_c (-1) rfl) rfl; (first | have a10 := in_u ((in_c (-1) rfl)) | (have a10 := (in_c (-1) rfl); unfold In at a10)); (first | have a11 := in_u i111 | (have a11 := i111; unfold In at a11)); have a12 := t_sub e110 i89 (in_c 1 rfl) rfl; (first | have a13 := in_u i118x1 | (have a13 := i118x1; unfold In at a13)); have a14 := t_sub e103 i24 (in_c 1000100 rfl) rfl; (first | have a15 := in_u ((in_c 1000100 rfl)) | (have a15 := (in_c 1000100 rfl); unfold In at a15)); (first | have a16 := in_u i121 | (have a16 := i121; unfold In at a16)); have a17 := t_sub e98 i89 (in_c 1 rfl) rfl; omega) (by (first | have a0 := in_u i8a | (have a0 := i8a; unfold In at a0)); (first | have a1 := in_u h1 | (have a1 := h1; unfold In at a1)); (first | have a2 := in_u i8 | (have a2 := i8; unfold In at a2)); (first | have a3 := in_u j5_3 | (have a3 := j5_3; unfold In at a3)); (first | have a4 := in_u i24 | (have a4 := i24; unfold In at a4)); (first | have a5 := in_u i122 | (have a5 := i122; unfold In at a5)); have a6 := t_add e122 i8 (in_c 1 rfl) rfl; (first | have a7 := in_u ((in_c 1 rfl)) | (have a7 := (in_c 1 rfl); unfold In at a7)); (first | have a8 := in_u i117 | (have a8 := i117; unfold In at a8)); have a9 := t_add e89 j5_3 (in_c (-1) rfl) rfl; (first | have a10 := in_u ((in_c (-1) rfl)) | (have a10 := (in_c (-1) rfl); unfold In at a10)); (first | have a11 := in_u i111 | (have a11 := i111; unfold In at a11)); have a12 := t_sub e110 i89 (in_c 1 rfl) rfl; (first | have a13 := in_u i118x1 | (have a13 := i118x1; unfold In at a13)); have a14 := t_sub e103 i24 (in_c 1000100 rfl) rfl; (first | have a15 := in_u ((in_c 1000100 rfl)) | (have a15 := (in_c 1000100 rfl); unfold In at a15)); (first | have a16 := in_u i121 | (have a16 := i121; unfold In at a16)); have a17 := t_sub e98 i89 (in_c 1 rfl) rfl; omega) | exact cs_0 rfl h1.1
                            exact gg_w (by first | exact Nat.le_add_right _ _ | exact gw2 | exact gw3 | exact gwe rfl | exact gwf rfl | exact gwg rfl | exact gwh rfl | omega) (gg_f (gf_cons rfl (gf_cons rfl (gf_cons rfl (gf_cons rfl (gf_cons rfl gf_nil))))) (ih5 (sL sc5 105 z98.toNatClampNeg (Int64.ofInt (-1000000000000))) z89 z122 hI121 (fr_sL rfl hFc5) (in_w 0 120 i117 rfl) (in_w 0 120 i122 rfl) n5 n5a (m_up mm5 (t_add e122 i8 (in_c 1 rfl) rfl) (in_w 1 1 (in_c 1 rfl) rfl))))
                          · skip
                            exact n_eq c118x60x48 (in_c 0 rfl) (in_c 1 rfl) rfl
                      · skip
                        have i118x60x29 := z_gt 1 1 c118x60x29 i118x60x28 rfl
                        have c118x60x29a := lc_gt e118x60x28 c118x60x29
                        exact ln_lt c118x60x29a (l_c 0 rfl) i118x60x14x3a rfl
                    · skip
                      have i118x60x19 := z_le (-1) 0 c118x60x19 i118x60x18 rfl
                      have c118x60x19a := lc_le e118x60x18 c118x60x19
                      have i118x60x19a := lr_le2 0 9223372036854775807 c118x60x19a i118x60x7x3a (l_rng z118x60x17) rfl
                      refine g_lload_n 23 (gd rfl) rfl rfl ?_
                      refine g_lload_n 24 (gd rfl) rfl rfl ?_
                      refine g_lmul 25 (gd rfl) rfl (fun z118x60x24 e118x60x24 => ?_)
                      refine g_lreturn (gd rfl) rfl (hp118x60 _ _ ?_)
                      show GG _ _ _ _ _ _ _ _ [.long z118x60x24] _ _ _
                      refine g_lreturn (gd rfl) rfl (hp118 _ _ ?_)
                      show GG _ _ _ _ _ _ _ _ [.long z118x60x24, .int z98, .ref (A 105)] _ _ _
                      have i121 : In z98 0 119 := by (first | have a0 := in_u i8a | (have a0 := i8a; unfold In at a0)); (first | have a1 := in_u h1 | (have a1 := h1; unfold In at a1)); (first | have a2 := in_u i8 | (have a2 := i8; unfold In at a2)); (first | have a3 := in_u j5_3 | (have a3 := j5_3; unfold In at a3)); (first | have a4 := in_u i24 | (have a4 := i24; unfold In at a4)); (first | have a5 := in_u i117 | (have a5 := i117; unfold In at a5)); have a6 := t_add e89 j5_3 (in_c (-1) rfl) rfl; (first | have a7 := in_u ((in_c (-1) rfl)) | (have a7 := (in_c (-1) rfl); unfold In at a7)); (first | have a8 := in_u i111 | (have a8 := i111; unfold In at a8)); have a9 := t_sub e110 i89 (in_c 1 rfl) rfl; (first | have a10 := in_u ((in_c 1 rfl)) | (have a10 := (in_c 1 rfl); unfold In at a10)); (first | have a11 := in_u i118x1 | (have a11 := i118x1; unfold In at a11)); have a12 := t_sub e103 i24 (in_c 1000100 rfl) rfl; (first | have a13 := in_u ((in_c 1000100 rfl)) | (have a13 := (in_c 1000100 rfl); unfold In at a13)); (first | have a14 := in_u i98 | (have a14 := i98; unfold In at a14)); have a15 := t_sub e98 i89 (in_c 1 rfl) rfl; exact ⟨by omega, by omega⟩
                      refine g_lastore 122 (gd rfl) rfl (n := 120) rfl (in_ix i121 rfl) ?_
                      have hI121 := inv_sL (q := 105) (j := z98.toNatClampNeg) (x := z118x60x24) hIc5 rfl (l_rng z118x60x24)
                      refine g_iinc 125 (gd rfl) rfl rfl (Nat.le_of_ble_eq_true rfl) (fun z122 e122 => ?_)
                      have i122 := in_add 1 120 e122 i8 (in_c 1 rfl) rfl rfl
                      refine g_goto 5 (gd rfl) rfl ?_
                      have n5 : (z89).toInt ≤ (z122).toInt := by (first | have a0 := in_u i8a | (have a0 := i8a; unfold In at a0)); (first | have a1 := in_u h1 | (have a1 := h1; unfold In at a1)); (first | have a2 := in_u i8 | (have a2 := i8; unfold In at a2)); (first | have a3 := in_u j5_3 | (have a3 := j5_3; unfold In at a3)); (first | have a4 := in_u i24 | (have a4 := i24; unfold In at a4)); (first | have a5 := in_u i122 | (have a5 := i122; unfold In at a5)); have a6 := t_add e122 i8 (in_c 1 rfl) rfl; (first | have a7 := in_u ((in_c 1 rfl)) | (have a7 := (in_c 1 rfl); unfold In at a7)); (first | have a8 := in_u i117 | (have a8 := i117; unfold In at a8)); have a9 := t_add e89 j5_3 (in_c (-1) rfl) rfl; (first | have a10 := in_u ((in_c (-1) rfl)) | (have a10 := (in_c (-1) rfl); unfold In at a10)); (first | have a11 := in_u i111 | (have a11 := i111; unfold In at a11)); have a12 := t_sub e110 i89 (in_c 1 rfl) rfl; (first | have a13 := in_u i118x1 | (have a13 := i118x1; unfold In at a13)); have a14 := t_sub e103 i24 (in_c 1000100 rfl) rfl; (first | have a15 := in_u ((in_c 1000100 rfl)) | (have a15 := (in_c 1000100 rfl); unfold In at a15)); (first | have a16 := in_u i121 | (have a16 := i121; unfold In at a16)); have a17 := t_sub e98 i89 (in_c 1 rfl) rfl; omega
                      have n5a : CS (sL sc5 105 z98.toNatClampNeg z118x60x24) x1 z122 z89 := by first | exact hk2 _ _ (by (first | have a0 := in_u i8a | (have a0 := i8a; unfold In at a0)); (first | have a1 := in_u h1 | (have a1 := h1; unfold In at a1)); (first | have a2 := in_u i8 | (have a2 := i8; unfold In at a2)); (first | have a3 := in_u j5_3 | (have a3 := j5_3; unfold In at a3)); (first | have a4 := in_u i24 | (have a4 := i24; unfold In at a4)); (first | have a5 := in_u i122 | (have a5 := i122; unfold In at a5)); have a6 := t_add e122 i8 (in_c 1 rfl) rfl; (first | have a7 := in_u ((in_c 1 rfl)) | (have a7 := (in_c 1 rfl); unfold In at a7)); (first | have a8 := in_u i117 | (have a8 := i117; unfold In at a8)); have a9 := t_add e89 j5_3 (in_c (-1) rfl) rfl; (first | have a10 := in_u ((in_c (-1) rfl)) | (have a10 := (in_c (-1) rfl); unfold In at a10)); (first | have a11 := in_u i111 | (have a11 := i111; unfold In at a11)); have a12 := t_sub e110 i89 (in_c 1 rfl) rfl; (first | have a13 := in_u i118x1 | (have a13 := i118x1; unfold In at a13)); have a14 := t_sub e103 i24 (in_c 1000100 rfl) rfl; (first | have a15 := in_u ((in_c 1000100 rfl)) | (have a15 := (in_c 1000100 rfl); unfold In at a15)); (first | have a16 := in_u i121 | (have a16 := i121; unfold In at a16)); have a17 := t_sub e98 i89 (in_c 1 rfl) rfl; omega) (by (first | have a0 := in_u i8a | (have a0 := i8a; unfold In at a0)); (first | have a1 := in_u h1 | (have a1 := h1; unfold In at a1)); (first | have a2 := in_u i8 | (have a2 := i8; unfold In at a2)); (first | have a3 := in_u j5_3 | (have a3 := j5_3; unfold In at a3)); (first | have a4 := in_u i24 | (have a4 := i24; unfold In at a4)); (first | have a5 := in_u i122 | (have a5 := i122; unfold In at a5)); have a6 := t_add e122 i8 (in_c 1 rfl) rfl; (first | have a7 := in_u ((in_c 1 rfl)) | (have a7 := (in_c 1 rfl); unfold In at a7)); (first | have a8 := in_u i117 | (have a8 := i117; unfold In at a8)); have a9 := t_add e89 j5_3 (in_c (-1) rfl) rfl; (first | have a10 := in_u ((in_c (-1) rfl)) | (have a10 := (in_c (-1) rfl); unfold In at a10)); (first | have a11 := in_u i111 | (have a11 := i111; unfold In at a11)); have a12 := t_sub e110 i89 (in_c 1 rfl) rfl; (first | have a13 := in_u i118x1 | (have a13 := i118x1; unfold In at a13)); have a14 := t_sub e103 i24 (in_c 1000100 rfl) rfl; (first | have a15 := in_u ((in_c 1000100 rfl)) | (have a15 := (in_c 1000100 rfl); unfold In at a15)); (first | have a16 := in_u i121 | (have a16 := i121; unfold In at a16)); have a17 := t_sub e98 i89 (in_c 1 rfl) rfl; omega) | exact cs_0 rfl h1.1
                      exact gg_w (by first | exact Nat.le_add_right _ _ | exact gw2 | exact gw3 | exact gwe rfl | exact gwf rfl | exact gwg rfl | exact gwh rfl | omega) (gg_f (gf_cons rfl (gf_cons rfl (gf_cons rfl (gf_cons rfl (gf_cons rfl gf_nil))))) (ih5 (sL sc5 105 z98.toNatClampNeg z118x60x24) z89 z122 hI121 (fr_sL rfl hFc5) (in_w 0 120 i117 rfl) (in_w 0 120 i122 rfl) n5 n5a (m_up mm5 (t_add e122 i8 (in_c 1 rfl) rfl) (in_w 1 1 (in_c 1 rfl) rfl))))
                · skip
                  have i118x60x7x3 := z_lt (-1) (-1) c118x60x7x3 i118x60x7x2 rfl
                  have c118x60x7x3a := lc_lt e118x60x7x2 c118x60x7x3
                  have i118x60x7x3a := lr_lt1 (-9223372036854775808) (-1) c118x60x7x3a (l_rng z117) (l_c 0 rfl) rfl
                  refine g_lload_n 7 (gd rfl) rfl rfl ?_
                  refine g_lneg 8 (gd rfl) rfl (fun z118x60x7x7 e118x60x7x7 => ?_)
                  refine g_goto 12 (gd rfl) rfl ?_
                  refine g_lreturn (gd rfl) rfl (hp118x60x7 _ _ ?_)
                  show GG _ _ _ _ _ _ _ _ [.long z118x60x7x7] _ _ _
                  refine g_ldc2_w 1000000000000 13 (gd rfl) rfl rfl ?_
                  refine g_lload_n 14 (gd rfl) rfl rfl ?_
                  refine g_calls (As := [.long z111]) (r := [.long (Int64.ofInt 1000000000000), .long z118x60x7x7]) 17 (gd rfl) rfl rfl rfl rfl rfl (Nat.le_of_ble_eq_true rfl) (mc := 0) (ms := 0) (Nat.zero_le _) (Nat.zero_le _) (P := fun v u => _) ?_ (fun v u h => h)
                  intro po118x60x14 xx118x60x14 hp118x60x14 hx118x60x14
                  refine g_enter2 (k := 421) (N := 300) (by first | exact dq1 hd rfl | exact dq0 hd rfl | exact dq2 hd rfl | exact dq3 hd rfl | omega) rfl (Nat.le_of_ble_eq_true rfl) ?_
                  refine g_lload_n 1 (gd rfl) rfl rfl ?_
                  refine g_lconst 0 2 (gd rfl) rfl rfl ?_
                  refine g_lcmp 3 (gd rfl) rfl (fun z118x60x14x2 e118x60x14x2 => ?_)
                  have i118x60x14x2 := lc_in e118x60x14x2
                  refine g_if_ge 6 11 (gd rfl) rfl rfl (fun c118x60x14x3 => ?_) (fun c118x60x14x3 => ?_)
                  · skip
                    have i118x60x14x3 := z_ge 0 1 c118x60x14x3 i118x60x14x2 rfl
                    have c118x60x14x3a := lc_ge e118x60x14x2 c118x60x14x3
                    have i118x60x14x3a := lr_le2 0 9223372036854775807 c118x60x14x3a (l_c 0 rfl) (l_rng z111) rfl
                    refine g_lload_n 12 (gd rfl) rfl rfl ?_
                    refine g_lreturn (gd rfl) rfl (hp118x60x14 _ _ ?_)
                    show GG _ _ _ _ _ _ _ _ [.long z111, .long (Int64.ofInt 1000000000000), .long z118x60x7x7] _ _ _
                    refine g_ldiv 18 (gd rfl) rfl (lnz (nz_l c118x60x3a)) (fun z118x60x17 e118x60x17 => ?_)
                    refine g_lcmp 19 (gd rfl) rfl (fun z118x60x18 e118x60x18 => ?_)
                    have i118x60x18 := lc_in e118x60x18
                    refine g_if_gt 22 26 (gd rfl) rfl rfl (fun c118x60x19 => ?_) (fun c118x60x19 => ?_)
                    · skip
                      have i118x60x19 := z_gt 1 1 c118x60x19 i118x60x18 rfl
                      have c118x60x19a := lc_gt e118x60x18 c118x60x19
                      have i118x60x19a := lr_lt1 (-9223372036854775808) 9223372036854775806 c118x60x19a (l_rng z118x60x17) (l_rng z118x60x7x7) rfl
                      have i118x60x19b := lr_lt2 (-9223372036854775807) 9223372036854775807 c118x60x19a (l_rng z118x60x17) (l_rng z118x60x7x7) rfl
                      refine g_lload_n 27 (gd rfl) rfl rfl ?_
                      refine g_lconst 0 28 (gd rfl) rfl rfl ?_
                      refine g_lcmp 29 (gd rfl) rfl (fun z118x60x28 e118x60x28 => ?_)
                      have i118x60x28 := lc_in e118x60x28
                      refine g_if_le 32 36 (gd rfl) rfl rfl (fun c118x60x29 => ?_) (fun c118x60x29 => ?_)
                      · skip
                        have i118x60x29 := z_le (-1) 0 c118x60x29 i118x60x28 rfl
                        have c118x60x29a := lc_le e118x60x28 c118x60x29
                        have i118x60x29a := lr_le1 0 0 c118x60x29a i118x60x14x3a (l_c 0 rfl) rfl
                        refine g_iconst 0 37 (gd rfl) rfl rfl ?_
                        refine g_lload_n 38 (gd rfl) rfl rfl ?_
                        refine g_lconst 0 39 (gd rfl) rfl rfl ?_
                        refine g_lcmp 40 (gd rfl) rfl (fun z118x60x39 e118x60x39 => ?_)
                        have i118x60x39 := lc_in e118x60x39
                        refine g_if_le 43 47 (gd rfl) rfl rfl (fun c118x60x40 => ?_) (fun c118x60x40 => ?_)
                        · skip
                          have i118x60x40 := z_le (-1) 0 c118x60x40 i118x60x39 rfl
                          have c118x60x40a := lc_le e118x60x39 c118x60x40
                          refine g_iconst 0 48 (gd rfl) rfl rfl ?_
                          refine g_cmp_ne 51 57 (gd rfl) rfl rfl (fun c118x60x48 => ?_) (fun c118x60x48 => ?_)
                          · skip
                            exact n_ne c118x60x48 (in_c 0 rfl) (in_c 0 rfl) rfl
                          · skip
                            refine g_ldc2_w 1000000000000 54 (gd rfl) rfl rfl ?_
                            refine g_goto 60 (gd rfl) rfl ?_
                            refine g_lreturn (gd rfl) rfl (hp118x60 _ _ ?_)
                            show GG _ _ _ _ _ _ _ _ [.long (Int64.ofInt 1000000000000)] _ _ _
                            refine g_lreturn (gd rfl) rfl (hp118 _ _ ?_)
                            show GG _ _ _ _ _ _ _ _ [.long (Int64.ofInt 1000000000000), .int z98, .ref (A 105)] _ _ _
                            have i121 : In z98 0 119 := by (first | have a0 := in_u i8a | (have a0 := i8a; unfold In at a0)); (first | have a1 := in_u h1 | (have a1 := h1; unfold In at a1)); (first | have a2 := in_u i8 | (have a2 := i8; unfold In at a2)); (first | have a3 := in_u j5_3 | (have a3 := j5_3; unfold In at a3)); (first | have a4 := in_u i24 | (have a4 := i24; unfold In at a4)); (first | have a5 := in_u i117 | (have a5 := i117; unfold In at a5)); have a6 := t_add e89 j5_3 (in_c (-1) rfl) rfl; (first | have a7 := in_u ((in_c (-1) rfl)) | (have a7 := (in_c (-1) rfl); unfold In at a7)); (first | have a8 := in_u i111 | (have a8 := i111; unfold In at a8)); have a9 := t_sub e110 i89 (in_c 1 rfl) rfl; (first | have a10 := in_u ((in_c 1 rfl)) | (have a10 := (in_c 1 rfl); unfold In at a10)); (first | have a11 := in_u i118x1 | (have a11 := i118x1; unfold In at a11)); have a12 := t_sub e103 i24 (in_c 1000100 rfl) rfl; (first | have a13 := in_u ((in_c 1000100 rfl)) | (have a13 := (in_c 1000100 rfl); unfold In at a13)); (first | have a14 := in_u i98 | (have a14 := i98; unfold In at a14)); have a15 := t_sub e98 i89 (in_c 1 rfl) rfl; exact ⟨by omega, by omega⟩
                            refine g_lastore 122 (gd rfl) rfl (n := 120) rfl (in_ix i121 rfl) ?_
                            have hI121 := inv_sL (q := 105) (j := z98.toNatClampNeg) (x := (Int64.ofInt 1000000000000)) hIc5 rfl (l_rng (Int64.ofInt 1000000000000))
                            refine g_iinc 125 (gd rfl) rfl rfl (Nat.le_of_ble_eq_true rfl) (fun z122 e122 => ?_)
                            have i122 := in_add 1 120 e122 i8 (in_c 1 rfl) rfl rfl
                            refine g_goto 5 (gd rfl) rfl ?_
                            have n5 : (z89).toInt ≤ (z122).toInt := by (first | have a0 := in_u i8a | (have a0 := i8a; unfold In at a0)); (first | have a1 := in_u h1 | (have a1 := h1; unfold In at a1)); (first | have a2 := in_u i8 | (have a2 := i8; unfold In at a2)); (first | have a3 := in_u j5_3 | (have a3 := j5_3; unfold In at a3)); (first | have a4 := in_u i24 | (have a4 := i24; unfold In at a4)); (first | have a5 := in_u i122 | (have a5 := i122; unfold In at a5)); have a6 := t_add e122 i8 (in_c 1 rfl) rfl; (first | have a7 := in_u ((in_c 1 rfl)) | (have a7 := (in_c 1 rfl); unfold In at a7)); (first | have a8 := in_u i117 | (have a8 := i117; unfold In at a8)); have a9 := t_add e89 j5_3 (in_c (-1) rfl) rfl; (first | have a10 := in_u ((in_c (-1) rfl)) | (have a10 := (in_c (-1) rfl); unfold In at a10)); (first | have a11 := in_u i111 | (have a11 := i111; unfold In at a11)); have a12 := t_sub e110 i89 (in_c 1 rfl) rfl; (first | have a13 := in_u i118x1 | (have a13 := i118x1; unfold In at a13)); have a14 := t_sub e103 i24 (in_c 1000100 rfl) rfl; (first | have a15 := in_u ((in_c 1000100 rfl)) | (have a15 := (in_c 1000100 rfl); unfold In at a15)); (first | have a16 := in_u i121 | (have a16 := i121; unfold In at a16)); have a17 := t_sub e98 i89 (in_c 1 rfl) rfl; omega
                            have n5a : CS (sL sc5 105 z98.toNatClampNeg (Int64.ofInt 1000000000000)) x1 z122 z89 := by first | exact hk2 _ _ (by (first | have a0 := in_u i8a | (have a0 := i8a; unfold In at a0)); (first | have a1 := in_u h1 | (have a1 := h1; unfold In at a1)); (first | have a2 := in_u i8 | (have a2 := i8; unfold In at a2)); (first | have a3 := in_u j5_3 | (have a3 := j5_3; unfold In at a3)); (first | have a4 := in_u i24 | (have a4 := i24; unfold In at a4)); (first | have a5 := in_u i122 | (have a5 := i122; unfold In at a5)); have a6 := t_add e122 i8 (in_c 1 rfl) rfl; (first | have a7 := in_u ((in_c 1 rfl)) | (have a7 := (in_c 1 rfl); unfold In at a7)); (first | have a8 := in_u i117 | (have a8 := i117; unfold In at a8)); have a9 := t_add e89 j5_3 (in_c (-1) rfl) rfl; (first | have a10 := in_u ((in_c (-1) rfl)) | (have a10 := (in_c (-1) rfl); unfold In at a10)); (first | have a11 := in_u i111 | (have a11 := i111; unfold In at a11)); have a12 := t_sub e110 i89 (in_c 1 rfl) rfl; (first | have a13 := in_u i118x1 | (have a13 := i118x1; unfold In at a13)); have a14 := t_sub e103 i24 (in_c 1000100 rfl) rfl; (first | have a15 := in_u ((in_c 1000100 rfl)) | (have a15 := (in_c 1000100 rfl); unfold In at a15)); (first | have a16 := in_u i121 | (have a16 := i121; unfold In at a16)); have a17 := t_sub e98 i89 (in_c 1 rfl) rfl; omega) (by (first | have a0 := in_u i8a | (have a0 := i8a; unfold In at a0)); (first | have a1 := in_u h1 | (have a1 := h1; unfold In at a1)); (first | have a2 := in_u i8 | (have a2 := i8; unfold In at a2)); (first | have a3 := in_u j5_3 | (have a3 := j5_3; unfold In at a3)); (first | have a4 := in_u i24 | (have a4 := i24; unfold In at a4)); (first | have a5 := in_u i122 | (have a5 := i122; unfold In at a5)); have a6 := t_add e122 i8 (in_c 1 rfl) rfl; (first | have a7 := in_u ((in_c 1 rfl)) | (have a7 := (in_c 1 rfl); unfold In at a7)); (first | have a8 := in_u i117 | (have a8 := i117; unfold In at a8)); have a9 := t_add e89 j5_3 (in_c (-1) rfl) rfl; (first | have a10 := in_u ((in_c (-1) rfl)) | (have a10 := (in_c (-1) rfl); unfold In at a10)); (first | have a11 := in_u i111 | (have a11 := i111; unfold In at a11)); have a12 := t_sub e110 i89 (in_c 1 rfl) rfl; (first | have a13 := in_u i118x1 | (have a13 := i118x1; unfold In at a13)); have a14 := t_sub e103 i24 (in_c 1000100 rfl) rfl; (first | have a15 := in_u ((in_c 1000100 rfl)) | (have a15 := (in_c 1000100 rfl); unfold In at a15)); (first | have a16 := in_u i121 | (have a16 := i121; unfold In at a16)); have a17 := t_sub e98 i89 (in_c 1 rfl) rfl; omega) | exact cs_0 rfl h1.1
                            exact gg_w (by first | exact Nat.le_add_right _ _ | exact gw2 | exact gw3 | exact gwe rfl | exact gwf rfl | exact gwg rfl | exact gwh rfl | omega) (gg_f (gf_cons rfl (gf_cons rfl (gf_cons rfl (gf_cons rfl (gf_cons rfl gf_nil))))) (ih5 (sL sc5 105 z98.toNatClampNeg (Int64.ofInt 1000000000000)) z89 z122 hI121 (fr_sL rfl hFc5) (in_w 0 120 i117 rfl) (in_w 0 120 i122 rfl) n5 n5a (m_up mm5 (t_add e122 i8 (in_c 1 rfl) rfl) (in_w 1 1 (in_c 1 rfl) rfl))))
                        · skip
                          have i118x60x40 := z_gt 1 1 c118x60x40 i118x60x39 rfl
                          have c118x60x40a := lc_gt e118x60x39 c118x60x40
                          exact ln_lt c118x60x40a (l_c 0 rfl) i118x60x7x3a rfl
                      · skip
                        have i118x60x29 := z_gt 1 1 c118x60x29 i118x60x28 rfl
                        have c118x60x29a := lc_gt e118x60x28 c118x60x29
                        have i118x60x29a := lr_lt2 1 9223372036854775807 c118x60x29a (l_c 0 rfl) i118x60x14x3a rfl
                        refine g_iconst 1 33 (gd rfl) rfl rfl ?_
                        refine g_goto 37 (gd rfl) rfl ?_
                        refine g_lload_n 38 (gd rfl) rfl rfl ?_
                        refine g_lconst 0 39 (gd rfl) rfl rfl ?_
                        refine g_lcmp 40 (gd rfl) rfl (fun z118x60x39 e118x60x39 => ?_)
                        have i118x60x39 := lc_in e118x60x39
                        refine g_if_le 43 47 (gd rfl) rfl rfl (fun c118x60x40 => ?_) (fun c118x60x40 => ?_)
                        · skip
                          have i118x60x40 := z_le (-1) 0 c118x60x40 i118x60x39 rfl
                          have c118x60x40a := lc_le e118x60x39 c118x60x40
                          refine g_iconst 0 48 (gd rfl) rfl rfl ?_
                          refine g_cmp_ne 51 57 (gd rfl) rfl rfl (fun c118x60x48 => ?_) (fun c118x60x48 => ?_)
                          · skip
                            refine g_ldc2_w (-1000000000000) 60 (gd rfl) rfl rfl ?_
                            refine g_lreturn (gd rfl) rfl (hp118x60 _ _ ?_)
                            show GG _ _ _ _ _ _ _ _ [.long (Int64.ofInt (-1000000000000))] _ _ _
                            refine g_lreturn (gd rfl) rfl (hp118 _ _ ?_)
                            show GG _ _ _ _ _ _ _ _ [.long (Int64.ofInt (-1000000000000)), .int z98, .ref (A 105)] _ _ _
                            have i121 : In z98 0 119 := by (first | have a0 := in_u i8a | (have a0 := i8a; unfold In at a0)); (first | have a1 := in_u h1 | (have a1 := h1; unfold In at a1)); (first | have a2 := in_u i8 | (have a2 := i8; unfold In at a2)); (first | have a3 := in_u j5_3 | (have a3 := j5_3; unfold In at a3)); (first | have a4 := in_u i24 | (have a4 := i24; unfold In at a4)); (first | have a5 := in_u i117 | (have a5 := i117; unfold In at a5)); have a6 := t_add e89 j5_3 (in_c (-1) rfl) rfl; (first | have a7 := in_u ((in_c (-1) rfl)) | (have a7 := (in_c (-1) rfl); unfold In at a7)); (first | have a8 := in_u i111 | (have a8 := i111; unfold In at a8)); have a9 := t_sub e110 i89 (in_c 1 rfl) rfl; (first | have a10 := in_u ((in_c 1 rfl)) | (have a10 := (in_c 1 rfl); unfold In at a10)); (first | have a11 := in_u i118x1 | (have a11 := i118x1; unfold In at a11)); have a12 := t_sub e103 i24 (in_c 1000100 rfl) rfl; (first | have a13 := in_u ((in_c 1000100 rfl)) | (have a13 := (in_c 1000100 rfl); unfold In at a13)); (first | have a14 := in_u i98 | (have a14 := i98; unfold In at a14)); have a15 := t_sub e98 i89 (in_c 1 rfl) rfl; exact ⟨by omega, by omega⟩
                            refine g_lastore 122 (gd rfl) rfl (n := 120) rfl (in_ix i121 rfl) ?_
                            have hI121 := inv_sL (q := 105) (j := z98.toNatClampNeg) (x := (Int64.ofInt (-1000000000000))) hIc5 rfl (l_rng (Int64.ofInt (-1000000000000)))
                            refine g_iinc 125 (gd rfl) rfl rfl (Nat.le_of_ble_eq_true rfl) (fun z122 e122 => ?_)
                            have i122 := in_add 1 120 e122 i8 (in_c 1 rfl) rfl rfl
                            refine g_goto 5 (gd rfl) rfl ?_
                            have n5 : (z89).toInt ≤ (z122).toInt := by (first | have a0 := in_u i8a | (have a0 := i8a; unfold In at a0)); (first | have a1 := in_u h1 | (have a1 := h1; unfold In at a1)); (first | have a2 := in_u i8 | (have a2 := i8; unfold In at a2)); (first | have a3 := in_u j5_3 | (have a3 := j5_3; unfold In at a3)); (first | have a4 := in_u i24 | (have a4 := i24; unfold In at a4)); (first | have a5 := in_u i122 | (have a5 := i122; unfold In at a5)); have a6 := t_add e122 i8 (in_c 1 rfl) rfl; (first | have a7 := in_u ((in_c 1 rfl)) | (have a7 := (in_c 1 rfl); unfold In at a7)); (first | have a8 := in_u i117 | (have a8 := i117; unfold In at a8)); have a9 := t_add e89 j5_3 (in_c (-1) rfl) rfl; (first | have a10 := in_u ((in_c (-1) rfl)) | (have a10 := (in_c (-1) rfl); unfold In at a10)); (first | have a11 := in_u i111 | (have a11 := i111; unfold In at a11)); have a12 := t_sub e110 i89 (in_c 1 rfl) rfl; (first | have a13 := in_u i118x1 | (have a13 := i118x1; unfold In at a13)); have a14 := t_sub e103 i24 (in_c 1000100 rfl) rfl; (first | have a15 := in_u ((in_c 1000100 rfl)) | (have a15 := (in_c 1000100 rfl); unfold In at a15)); (first | have a16 := in_u i121 | (have a16 := i121; unfold In at a16)); have a17 := t_sub e98 i89 (in_c 1 rfl) rfl; omega
                            have n5a : CS (sL sc5 105 z98.toNatClampNeg (Int64.ofInt (-1000000000000))) x1 z122 z89 := by first | exact hk2 _ _ (by (first | have a0 := in_u i8a | (have a0 := i8a; unfold In at a0)); (first | have a1 := in_u h1 | (have a1 := h1; unfold In at a1)); (first | have a2 := in_u i8 | (have a2 := i8; unfold In at a2)); (first | have a3 := in_u j5_3 | (have a3 := j5_3; unfold In at a3)); (first | have a4 := in_u i24 | (have a4 := i24; unfold In at a4)); (first | have a5 := in_u i122 | (have a5 := i122; unfold In at a5)); have a6 := t_add e122 i8 (in_c 1 rfl) rfl; (first | have a7 := in_u ((in_c 1 rfl)) | (have a7 := (in_c 1 rfl); unfold In at a7)); (first | have a8 := in_u i117 | (have a8 := i117; unfold In at a8)); have a9 := t_add e89 j5_3 (in_c (-1) rfl) rfl; (first | have a10 := in_u ((in_c (-1) rfl)) | (have a10 := (in_c (-1) rfl); unfold In at a10)); (first | have a11 := in_u i111 | (have a11 := i111; unfold In at a11)); have a12 := t_sub e110 i89 (in_c 1 rfl) rfl; (first | have a13 := in_u i118x1 | (have a13 := i118x1; unfold In at a13)); have a14 := t_sub e103 i24 (in_c 1000100 rfl) rfl; (first | have a15 := in_u ((in_c 1000100 rfl)) | (have a15 := (in_c 1000100 rfl); unfold In at a15)); (first | have a16 := in_u i121 | (have a16 := i121; unfold In at a16)); have a17 := t_sub e98 i89 (in_c 1 rfl) rfl; omega) (by (first | have a0 := in_u i8a | (have a0 := i8a; unfold In at a0)); (first | have a1 := in_u h1 | (have a1 := h1; unfold In at a1)); (first | have a2 := in_u i8 | (have a2 := i8; unfold In at a2)); (first | have a3 := in_u j5_3 | (have a3 := j5_3; unfold In at a3)); (first | have a4 := in_u i24 | (have a4 := i24; unfold In at a4)); (first | have a5 := in_u i122 | (have a5 := i122; unfold In at a5)); have a6 := t_add e122 i8 (in_c 1 rfl) rfl; (first | have a7 := in_u ((in_c 1 rfl)) | (have a7 := (in_c 1 rfl); unfold In at a7)); (first | have a8 := in_u i117 | (have a8 := i117; unfold In at a8)); have a9 := t_add e89 j5_3 (in_c (-1) rfl) rfl; (first | have a10 := in_u ((in_c (-1) rfl)) | (have a10 := (in_c (-1) rfl); unfold In at a10)); (first | have a11 := in_u i111 | (have a11 := i111; unfold In at a11)); have a12 := t_sub e110 i89 (in_c 1 rfl) rfl; (first | have a13 := in_u i118x1 | (have a13 := i118x1; unfold In at a13)); have a14 := t_sub e103 i24 (in_c 1000100 rfl) rfl; (first | have a15 := in_u ((in_c 1000100 rfl)) | (have a15 := (in_c 1000100 rfl); unfold In at a15)); (first | have a16 := in_u i121 | (have a16 := i121; unfold In at a16)); have a17 := t_sub e98 i89 (in_c 1 rfl) rfl; omega) | exact cs_0 rfl h1.1
                            exact gg_w (by first | exact Nat.le_add_right _ _ | exact gw2 | exact gw3 | exact gwe rfl | exact gwf rfl | exact gwg rfl | exact gwh rfl | omega) (gg_f (gf_cons rfl (gf_cons rfl (gf_cons rfl (gf_cons rfl (gf_cons rfl gf_nil))))) (ih5 (sL sc5 105 z98.toNatClampNeg (Int64.ofInt (-1000000000000))) z89 z122 hI121 (fr_sL rfl hFc5) (in_w 0 120 i117 rfl) (in_w 0 120 i122 rfl) n5 n5a (m_up mm5 (t_add e122 i8 (in_c 1 rfl) rfl) (in_w 1 1 (in_c 1 rfl) rfl))))
                          · skip
                            exact n_eq c118x60x48 (in_c 1 rfl) (in_c 0 rfl) rfl
                        · skip
                          have i118x60x40 := z_gt 1 1 c118x60x40 i118x60x39 rfl
                          have c118x60x40a := lc_gt e118x60x39 c118x60x40
                          exact ln_lt c118x60x40a (l_c 0 rfl) i118x60x7x3a rfl
                    · skip
                      have i118x60x19 := z_le (-1) 0 c118x60x19 i118x60x18 rfl
                      have c118x60x19a := lc_le e118x60x18 c118x60x19
                      refine g_lload_n 23 (gd rfl) rfl rfl ?_
                      refine g_lload_n 24 (gd rfl) rfl rfl ?_
                      refine g_lmul 25 (gd rfl) rfl (fun z118x60x24 e118x60x24 => ?_)
                      refine g_lreturn (gd rfl) rfl (hp118x60 _ _ ?_)
                      show GG _ _ _ _ _ _ _ _ [.long z118x60x24] _ _ _
                      refine g_lreturn (gd rfl) rfl (hp118 _ _ ?_)
                      show GG _ _ _ _ _ _ _ _ [.long z118x60x24, .int z98, .ref (A 105)] _ _ _
                      have i121 : In z98 0 119 := by (first | have a0 := in_u i8a | (have a0 := i8a; unfold In at a0)); (first | have a1 := in_u h1 | (have a1 := h1; unfold In at a1)); (first | have a2 := in_u i8 | (have a2 := i8; unfold In at a2)); (first | have a3 := in_u j5_3 | (have a3 := j5_3; unfold In at a3)); (first | have a4 := in_u i24 | (have a4 := i24; unfold In at a4)); (first | have a5 := in_u i117 | (have a5 := i117; unfold In at a5)); have a6 := t_add e89 j5_3 (in_c (-1) rfl) rfl; (first | have a7 := in_u ((in_c (-1) rfl)) | (have a7 := (in_c (-1) rfl); unfold In at a7)); (first | have a8 := in_u i111 | (have a8 := i111; unfold In at a8)); have a9 := t_sub e110 i89 (in_c 1 rfl) rfl; (first | have a10 := in_u ((in_c 1 rfl)) | (have a10 := (in_c 1 rfl); unfold In at a10)); (first | have a11 := in_u i118x1 | (have a11 := i118x1; unfold In at a11)); have a12 := t_sub e103 i24 (in_c 1000100 rfl) rfl; (first | have a13 := in_u ((in_c 1000100 rfl)) | (have a13 := (in_c 1000100 rfl); unfold In at a13)); (first | have a14 := in_u i98 | (have a14 := i98; unfold In at a14)); have a15 := t_sub e98 i89 (in_c 1 rfl) rfl; exact ⟨by omega, by omega⟩
                      refine g_lastore 122 (gd rfl) rfl (n := 120) rfl (in_ix i121 rfl) ?_
                      have hI121 := inv_sL (q := 105) (j := z98.toNatClampNeg) (x := z118x60x24) hIc5 rfl (l_rng z118x60x24)
                      refine g_iinc 125 (gd rfl) rfl rfl (Nat.le_of_ble_eq_true rfl) (fun z122 e122 => ?_)
                      have i122 := in_add 1 120 e122 i8 (in_c 1 rfl) rfl rfl
                      refine g_goto 5 (gd rfl) rfl ?_
                      have n5 : (z89).toInt ≤ (z122).toInt := by (first | have a0 := in_u i8a | (have a0 := i8a; unfold In at a0)); (first | have a1 := in_u h1 | (have a1 := h1; unfold In at a1)); (first | have a2 := in_u i8 | (have a2 := i8; unfold In at a2)); (first | have a3 := in_u j5_3 | (have a3 := j5_3; unfold In at a3)); (first | have a4 := in_u i24 | (have a4 := i24; unfold In at a4)); (first | have a5 := in_u i122 | (have a5 := i122; unfold In at a5)); have a6 := t_add e122 i8 (in_c 1 rfl) rfl; (first | have a7 := in_u ((in_c 1 rfl)) | (have a7 := (in_c 1 rfl); unfold In at a7)); (first | have a8 := in_u i117 | (have a8 := i117; unfold In at a8)); have a9 := t_add e89 j5_3 (in_c (-1) rfl) rfl; (first | have a10 := in_u ((in_c (-1) rfl)) | (have a10 := (in_c (-1) rfl); unfold In at a10)); (first | have a11 := in_u i111 | (have a11 := i111; unfold In at a11)); have a12 := t_sub e110 i89 (in_c 1 rfl) rfl; (first | have a13 := in_u i118x1 | (have a13 := i118x1; unfold In at a13)); have a14 := t_sub e103 i24 (in_c 1000100 rfl) rfl; (first | have a15 := in_u ((in_c 1000100 rfl)) | (have a15 := (in_c 1000100 rfl); unfold In at a15)); (first | have a16 := in_u i121 | (have a16 := i121; unfold In at a16)); have a17 := t_sub e98 i89 (in_c 1 rfl) rfl; omega
                      have n5a : CS (sL sc5 105 z98.toNatClampNeg z118x60x24) x1 z122 z89 := by first | exact hk2 _ _ (by (first | have a0 := in_u i8a | (have a0 := i8a; unfold In at a0)); (first | have a1 := in_u h1 | (have a1 := h1; unfold In at a1)); (first | have a2 := in_u i8 | (have a2 := i8; unfold In at a2)); (first | have a3 := in_u j5_3 | (have a3 := j5_3; unfold In at a3)); (first | have a4 := in_u i24 | (have a4 := i24; unfold In at a4)); (first | have a5 := in_u i122 | (have a5 := i122; unfold In at a5)); have a6 := t_add e122 i8 (in_c 1 rfl) rfl; (first | have a7 := in_u ((in_c 1 rfl)) | (have a7 := (in_c 1 rfl); unfold In at a7)); (first | have a8 := in_u i117 | (have a8 := i117; unfold In at a8)); have a9 := t_add e89 j5_3 (in_c (-1) rfl) rfl; (first | have a10 := in_u ((in_c (-1) rfl)) | (have a10 := (in_c (-1) rfl); unfold In at a10)); (first | have a11 := in_u i111 | (have a11 := i111; unfold In at a11)); have a12 := t_sub e110 i89 (in_c 1 rfl) rfl; (first | have a13 := in_u i118x1 | (have a13 := i118x1; unfold In at a13)); have a14 := t_sub e103 i24 (in_c 1000100 rfl) rfl; (first | have a15 := in_u ((in_c 1000100 rfl)) | (have a15 := (in_c 1000100 rfl); unfold In at a15)); (first | have a16 := in_u i121 | (have a16 := i121; unfold In at a16)); have a17 := t_sub e98 i89 (in_c 1 rfl) rfl; omega) (by (first | have a0 := in_u i8a | (have a0 := i8a; unfold In at a0)); (first | have a1 := in_u h1 | (have a1 := h1; unfold In at a1)); (first | have a2 := in_u i8 | (have a2 := i8; unfold In at a2)); (first | have a3 := in_u j5_3 | (have a3 := j5_3; unfold In at a3)); (first | have a4 := in_u i24 | (have a4 := i24; unfold In at a4)); (first | have a5 := in_u i122 | (have a5 := i122; unfold In at a5)); have a6 := t_add e122 i8 (in_c 1 rfl) rfl; (first | have a7 := in_u ((in_c 1 rfl)) | (have a7 := (in_c 1 rfl); unfold In at a7)); (first | have a8 := in_u i117 | (have a8 := i117; unfold In at a8)); have a9 := t_add e89 j5_3 (in_c (-1) rfl) rfl; (first | have a10 := in_u ((in_c (-1) rfl)) | (have a10 := (in_c (-1) rfl); unfold In at a10)); (first | have a11 := in_u i111 | (have a11 := i111; unfold In at a11)); have a12 := t_sub e110 i89 (in_c 1 rfl) rfl; (first | have a13 := in_u i118x1 | (have a13 := i118x1; unfold In at a13)); have a14 := t_sub e103 i24 (in_c 1000100 rfl) rfl; (first | have a15 := in_u ((in_c 1000100 rfl)) | (have a15 := (in_c 1000100 rfl); unfold In at a15)); (first | have a16 := in_u i121 | (have a16 := i121; unfold In at a16)); have a17 := t_sub e98 i89 (in_c 1 rfl) rfl; omega) | exact cs_0 rfl h1.1
                      exact gg_w (by first | exact Nat.le_add_right _ _ | exact gw2 | exact gw3 | exact gwe rfl | exact gwf rfl | exact gwg rfl | exact gwh rfl | omega) (gg_f (gf_cons rfl (gf_cons rfl (gf_cons rfl (gf_cons rfl (gf_cons rfl gf_nil))))) (ih5 (sL sc5 105 z98.toNatClampNeg z118x60x24) z89 z122 hI121 (fr_sL rfl hFc5) (in_w 0 120 i117 rfl) (in_w 0 120 i122 rfl) n5 n5a (m_up mm5 (t_add e122 i8 (in_c 1 rfl) rfl) (in_w 1 1 (in_c 1 rfl) rfl))))
                  · skip
                    have i118x60x14x3 := z_lt (-1) (-1) c118x60x14x3 i118x60x14x2 rfl
                    have c118x60x14x3a := lc_lt e118x60x14x2 c118x60x14x3
                    have i118x60x14x3a := lr_lt1 (-9223372036854775808) (-1) c118x60x14x3a (l_rng z111) (l_c 0 rfl) rfl
                    refine g_lload_n 7 (gd rfl) rfl rfl ?_
                    refine g_lneg 8 (gd rfl) rfl (fun z118x60x14x7 e118x60x14x7 => ?_)
                    refine g_goto 12 (gd rfl) rfl ?_
                    refine g_lreturn (gd rfl) rfl (hp118x60x14 _ _ ?_)
                    show GG _ _ _ _ _ _ _ _ [.long z118x60x14x7, .long (Int64.ofInt 1000000000000), .long z118x60x7x7] _ _ _
                    refine g_ldiv 18 (gd rfl) rfl (lnz (lneg_nz e118x60x14x7 (nz_l c118x60x3a))) (fun z118x60x17 e118x60x17 => ?_)
                    refine g_lcmp 19 (gd rfl) rfl (fun z118x60x18 e118x60x18 => ?_)
                    have i118x60x18 := lc_in e118x60x18
                    refine g_if_gt 22 26 (gd rfl) rfl rfl (fun c118x60x19 => ?_) (fun c118x60x19 => ?_)
                    · skip
                      have i118x60x19 := z_gt 1 1 c118x60x19 i118x60x18 rfl
                      have c118x60x19a := lc_gt e118x60x18 c118x60x19
                      have i118x60x19a := lr_lt1 (-9223372036854775808) 9223372036854775806 c118x60x19a (l_rng z118x60x17) (l_rng z118x60x7x7) rfl
                      have i118x60x19b := lr_lt2 (-9223372036854775807) 9223372036854775807 c118x60x19a (l_rng z118x60x17) (l_rng z118x60x7x7) rfl
                      refine g_lload_n 27 (gd rfl) rfl rfl ?_
                      refine g_lconst 0 28 (gd rfl) rfl rfl ?_
                      refine g_lcmp 29 (gd rfl) rfl (fun z118x60x28 e118x60x28 => ?_)
                      have i118x60x28 := lc_in e118x60x28
                      refine g_if_le 32 36 (gd rfl) rfl rfl (fun c118x60x29 => ?_) (fun c118x60x29 => ?_)
                      · skip
                        have i118x60x29 := z_le (-1) 0 c118x60x29 i118x60x28 rfl
                        have c118x60x29a := lc_le e118x60x28 c118x60x29
                        refine g_iconst 0 37 (gd rfl) rfl rfl ?_
                        refine g_lload_n 38 (gd rfl) rfl rfl ?_
                        refine g_lconst 0 39 (gd rfl) rfl rfl ?_
                        refine g_lcmp 40 (gd rfl) rfl (fun z118x60x39 e118x60x39 => ?_)
                        have i118x60x39 := lc_in e118x60x39
                        refine g_if_le 43 47 (gd rfl) rfl rfl (fun c118x60x40 => ?_) (fun c118x60x40 => ?_)
                        · skip
                          have i118x60x40 := z_le (-1) 0 c118x60x40 i118x60x39 rfl
                          have c118x60x40a := lc_le e118x60x39 c118x60x40
                          refine g_iconst 0 48 (gd rfl) rfl rfl ?_
                          refine g_cmp_ne 51 57 (gd rfl) rfl rfl (fun c118x60x48 => ?_) (fun c118x60x48 => ?_)
                          · skip
                            exact n_ne c118x60x48 (in_c 0 rfl) (in_c 0 rfl) rfl
                          · skip
                            refine g_ldc2_w 1000000000000 54 (gd rfl) rfl rfl ?_
                            refine g_goto 60 (gd rfl) rfl ?_
                            refine g_lreturn (gd rfl) rfl (hp118x60 _ _ ?_)
                            show GG _ _ _ _ _ _ _ _ [.long (Int64.ofInt 1000000000000)] _ _ _
                            refine g_lreturn (gd rfl) rfl (hp118 _ _ ?_)
                            show GG _ _ _ _ _ _ _ _ [.long (Int64.ofInt 1000000000000), .int z98, .ref (A 105)] _ _ _
                            have i121 : In z98 0 119 := by (first | have a0 := in_u i8a | (have a0 := i8a; unfold In at a0)); (first | have a1 := in_u h1 | (have a1 := h1; unfold In at a1)); (first | have a2 := in_u i8 | (have a2 := i8; unfold In at a2)); (first | have a3 := in_u j5_3 | (have a3 := j5_3; unfold In at a3)); (first | have a4 := in_u i24 | (have a4 := i24; unfold In at a4)); (first | have a5 := in_u i117 | (have a5 := i117; unfold In at a5)); have a6 := t_add e89 j5_3 (in_c (-1) rfl) rfl; (first | have a7 := in_u ((in_c (-1) rfl)) | (have a7 := (in_c (-1) rfl); unfold In at a7)); (first | have a8 := in_u i111 | (have a8 := i111; unfold In at a8)); have a9 := t_sub e110 i89 (in_c 1 rfl) rfl; (first | have a10 := in_u ((in_c 1 rfl)) | (have a10 := (in_c 1 rfl); unfold In at a10)); (first | have a11 := in_u i118x1 | (have a11 := i118x1; unfold In at a11)); have a12 := t_sub e103 i24 (in_c 1000100 rfl) rfl; (first | have a13 := in_u ((in_c 1000100 rfl)) | (have a13 := (in_c 1000100 rfl); unfold In at a13)); (first | have a14 := in_u i98 | (have a14 := i98; unfold In at a14)); have a15 := t_sub e98 i89 (in_c 1 rfl) rfl; exact ⟨by omega, by omega⟩
                            refine g_lastore 122 (gd rfl) rfl (n := 120) rfl (in_ix i121 rfl) ?_
                            have hI121 := inv_sL (q := 105) (j := z98.toNatClampNeg) (x := (Int64.ofInt 1000000000000)) hIc5 rfl (l_rng (Int64.ofInt 1000000000000))
                            refine g_iinc 125 (gd rfl) rfl rfl (Nat.le_of_ble_eq_true rfl) (fun z122 e122 => ?_)
                            have i122 := in_add 1 120 e122 i8 (in_c 1 rfl) rfl rfl
                            refine g_goto 5 (gd rfl) rfl ?_
                            have n5 : (z89).toInt ≤ (z122).toInt := by (first | have a0 := in_u i8a | (have a0 := i8a; unfold In at a0)); (first | have a1 := in_u h1 | (have a1 := h1; unfold In at a1)); (first | have a2 := in_u i8 | (have a2 := i8; unfold In at a2)); (first | have a3 := in_u j5_3 | (have a3 := j5_3; unfold In at a3)); (first | have a4 := in_u i24 | (have a4 := i24; unfold In at a4)); (first | have a5 := in_u i122 | (have a5 := i122; unfold In at a5)); have a6 := t_add e122 i8 (in_c 1 rfl) rfl; (first | have a7 := in_u ((in_c 1 rfl)) | (have a7 := (in_c 1 rfl); unfold In at a7)); (first | have a8 := in_u i117 | (have a8 := i117; unfold In at a8)); have a9 := t_add e89 j5_3 (in_c (-1) rfl) rfl; (first | have a10 := in_u ((in_c (-1) rfl)) | (have a10 := (in_c (-1) rfl); unfold In at a10)); (first | have a11 := in_u i111 | (have a11 := i111; unfold In at a11)); have a12 := t_sub e110 i89 (in_c 1 rfl) rfl; (first | have a13 := in_u i118x1 | (have a13 := i118x1; unfold In at a13)); have a14 := t_sub e103 i24 (in_c 1000100 rfl) rfl; (first | have a15 := in_u ((in_c 1000100 rfl)) | (have a15 := (in_c 1000100 rfl); unfold In at a15)); (first | have a16 := in_u i121 | (have a16 := i121; unfold In at a16)); have a17 := t_sub e98 i89 (in_c 1 rfl) rfl; omega
                            have n5a : CS (sL sc5 105 z98.toNatClampNeg (Int64.ofInt 1000000000000)) x1 z122 z89 := by first | exact hk2 _ _ (by (first | have a0 := in_u i8a | (have a0 := i8a; unfold In at a0)); (first | have a1 := in_u h1 | (have a1 := h1; unfold In at a1)); (first | have a2 := in_u i8 | (have a2 := i8; unfold In at a2)); (first | have a3 := in_u j5_3 | (have a3 := j5_3; unfold In at a3)); (first | have a4 := in_u i24 | (have a4 := i24; unfold In at a4)); (first | have a5 := in_u i122 | (have a5 := i122; unfold In at a5)); have a6 := t_add e122 i8 (in_c 1 rfl) rfl; (first | have a7 := in_u ((in_c 1 rfl)) | (have a7 := (in_c 1 rfl); unfold In at a7)); (first | have a8 := in_u i117 | (have a8 := i117; unfold In at a8)); have a9 := t_add e89 j5_3 (in_c (-1) rfl) rfl; (first | have a10 := in_u ((in_c (-1) rfl)) | (have a10 := (in_c (-1) rfl); unfold In at a10)); (first | have a11 := in_u i111 | (have a11 := i111; unfold In at a11)); have a12 := t_sub e110 i89 (in_c 1 rfl) rfl; (first | have a13 := in_u i118x1 | (have a13 := i118x1; unfold In at a13)); have a14 := t_sub e103 i24 (in_c 1000100 rfl) rfl; (first | have a15 := in_u ((in_c 1000100 rfl)) | (have a15 := (in_c 1000100 rfl); unfold In at a15)); (first | have a16 := in_u i121 | (have a16 := i121; unfold In at a16)); have a17 := t_sub e98 i89 (in_c 1 rfl) rfl; omega) (by (first | have a0 := in_u i8a | (have a0 := i8a; unfold In at a0)); (first | have a1 := in_u h1 | (have a1 := h1; unfold In at a1)); (first | have a2 := in_u i8 | (have a2 := i8; unfold In at a2)); (first | have a3 := in_u j5_3 | (have a3 := j5_3; unfold In at a3)); (first | have a4 := in_u i24 | (have a4 := i24; unfold In at a4)); (first | have a5 := in_u i122 | (have a5 := i122; unfold In at a5)); have a6 := t_add e122 i8 (in_c 1 rfl) rfl; (first | have a7 := in_u ((in_c 1 rfl)) | (have a7 := (in_c 1 rfl); unfold In at a7)); (first | have a8 := in_u i117 | (have a8 := i117; unfold In at a8)); have a9 := t_add e89 j5_3 (in_c (-1) rfl) rfl; (first | have a10 := in_u ((in_c (-1) rfl)) | (have a10 := (in_c (-1) rfl); unfold In at a10)); (first | have a11 := in_u i111 | (have a11 := i111; unfold In at a11)); have a12 := t_sub e110 i89 (in_c 1 rfl) rfl; (first | have a13 := in_u i118x1 | (have a13 := i118x1; unfold In at a13)); have a14 := t_sub e103 i24 (in_c 1000100 rfl) rfl; (first | have a15 := in_u ((in_c 1000100 rfl)) | (have a15 := (in_c 1000100 rfl); unfold In at a15)); (first | have a16 := in_u i121 | (have a16 := i121; unfold In at a16)); have a17 := t_sub e98 i89 (in_c 1 rfl) rfl; omega) | exact cs_0 rfl h1.1
                            exact gg_w (by first | exact Nat.le_add_right _ _ | exact gw2 | exact gw3 | exact gwe rfl | exact gwf rfl | exact gwg rfl | exact gwh rfl | omega) (gg_f (gf_cons rfl (gf_cons rfl (gf_cons rfl (gf_cons rfl (gf_cons rfl gf_nil))))) (ih5 (sL sc5 105 z98.toNatClampNeg (Int64.ofInt 1000000000000)) z89 z122 hI121 (fr_sL rfl hFc5) (in_w 0 120 i117 rfl) (in_w 0 120 i122 rfl) n5 n5a (m_up mm5 (t_add e122 i8 (in_c 1 rfl) rfl) (in_w 1 1 (in_c 1 rfl) rfl))))
                        · skip
                          have i118x60x40 := z_gt 1 1 c118x60x40 i118x60x39 rfl
                          have c118x60x40a := lc_gt e118x60x39 c118x60x40
                          exact ln_lt c118x60x40a (l_c 0 rfl) i118x60x7x3a rfl
                      · skip
                        have i118x60x29 := z_gt 1 1 c118x60x29 i118x60x28 rfl
                        have c118x60x29a := lc_gt e118x60x28 c118x60x29
                        exact ln_lt c118x60x29a (l_c 0 rfl) i118x60x14x3a rfl
                    · skip
                      have i118x60x19 := z_le (-1) 0 c118x60x19 i118x60x18 rfl
                      have c118x60x19a := lc_le e118x60x18 c118x60x19
                      refine g_lload_n 23 (gd rfl) rfl rfl ?_
                      refine g_lload_n 24 (gd rfl) rfl rfl ?_
                      refine g_lmul 25 (gd rfl) rfl (fun z118x60x24 e118x60x24 => ?_)
                      refine g_lreturn (gd rfl) rfl (hp118x60 _ _ ?_)
                      show GG _ _ _ _ _ _ _ _ [.long z118x60x24] _ _ _
                      refine g_lreturn (gd rfl) rfl (hp118 _ _ ?_)
                      show GG _ _ _ _ _ _ _ _ [.long z118x60x24, .int z98, .ref (A 105)] _ _ _
                      have i121 : In z98 0 119 := by (first | have a0 := in_u i8a | (have a0 := i8a; unfold In at a0)); (first | have a1 := in_u h1 | (have a1 := h1; unfold In at a1)); (first | have a2 := in_u i8 | (have a2 := i8; unfold In at a2)); (first | have a3 := in_u j5_3 | (have a3 := j5_3; unfold In at a3)); (first | have a4 := in_u i24 | (have a4 := i24; unfold In at a4)); (first | have a5 := in_u i117 | (have a5 := i117; unfold In at a5)); have a6 := t_add e89 j5_3 (in_c (-1) rfl) rfl; (first | have a7 := in_u ((in_c (-1) rfl)) | (have a7 := (in_c (-1) rfl); unfold In at a7)); (first | have a8 := in_u i111 | (have a8 := i111; unfold In at a8)); have a9 := t_sub e110 i89 (in_c 1 rfl) rfl; (first | have a10 := in_u ((in_c 1 rfl)) | (have a10 := (in_c 1 rfl); unfold In at a10)); (first | have a11 := in_u i118x1 | (have a11 := i118x1; unfold In at a11)); have a12 := t_sub e103 i24 (in_c 1000100 rfl) rfl; (first | have a13 := in_u ((in_c 1000100 rfl)) | (have a13 := (in_c 1000100 rfl); unfold In at a13)); (first | have a14 := in_u i98 | (have a14 := i98; unfold In at a14)); have a15 := t_sub e98 i89 (in_c 1 rfl) rfl; exact ⟨by omega, by omega⟩
                      refine g_lastore 122 (gd rfl) rfl (n := 120) rfl (in_ix i121 rfl) ?_
                      have hI121 := inv_sL (q := 105) (j := z98.toNatClampNeg) (x := z118x60x24) hIc5 rfl (l_rng z118x60x24)
                      refine g_iinc 125 (gd rfl) rfl rfl (Nat.le_of_ble_eq_true rfl) (fun z122 e122 => ?_)
                      have i122 := in_add 1 120 e122 i8 (in_c 1 rfl) rfl rfl
                      refine g_goto 5 (gd rfl) rfl ?_
                      have n5 : (z89).toInt ≤ (z122).toInt := by (first | have a0 := in_u i8a | (have a0 := i8a; unfold In at a0)); (first | have a1 := in_u h1 | (have a1 := h1; unfold In at a1)); (first | have a2 := in_u i8 | (have a2 := i8; unfold In at a2)); (first | have a3 := in_u j5_3 | (have a3 := j5_3; unfold In at a3)); (first | have a4 := in_u i24 | (have a4 := i24; unfold In at a4)); (first | have a5 := in_u i122 | (have a5 := i122; unfold In at a5)); have a6 := t_add e122 i8 (in_c 1 rfl) rfl; (first | have a7 := in_u ((in_c 1 rfl)) | (have a7 := (in_c 1 rfl); unfold In at a7)); (first | have a8 := in_u i117 | (have a8 := i117; unfold In at a8)); have a9 := t_add e89 j5_3 (in_c (-1) rfl) rfl; (first | have a10 := in_u ((in_c (-1) rfl)) | (have a10 := (in_c (-1) rfl); unfold In at a10)); (first | have a11 := in_u i111 | (have a11 := i111; unfold In at a11)); have a12 := t_sub e110 i89 (in_c 1 rfl) rfl; (first | have a13 := in_u i118x1 | (have a13 := i118x1; unfold In at a13)); have a14 := t_sub e103 i24 (in_c 1000100 rfl) rfl; (first | have a15 := in_u ((in_c 1000100 rfl)) | (have a15 := (in_c 1000100 rfl); unfold In at a15)); (first | have a16 := in_u i121 | (have a16 := i121; unfold In at a16)); have a17 := t_sub e98 i89 (in_c 1 rfl) rfl; omega
                      have n5a : CS (sL sc5 105 z98.toNatClampNeg z118x60x24) x1 z122 z89 := by first | exact hk2 _ _ (by (first | have a0 := in_u i8a | (have a0 := i8a; unfold In at a0)); (first | have a1 := in_u h1 | (have a1 := h1; unfold In at a1)); (first | have a2 := in_u i8 | (have a2 := i8; unfold In at a2)); (first | have a3 := in_u j5_3 | (have a3 := j5_3; unfold In at a3)); (first | have a4 := in_u i24 | (have a4 := i24; unfold In at a4)); (first | have a5 := in_u i122 | (have a5 := i122; unfold In at a5)); have a6 := t_add e122 i8 (in_c 1 rfl) rfl; (first | have a7 := in_u ((in_c 1 rfl)) | (have a7 := (in_c 1 rfl); unfold In at a7)); (first | have a8 := in_u i117 | (have a8 := i117; unfold In at a8)); have a9 := t_add e89 j5_3 (in_c (-1) rfl) rfl; (first | have a10 := in_u ((in_c (-1) rfl)) | (have a10 := (in_c (-1) rfl); unfold In at a10)); (first | have a11 := in_u i111 | (have a11 := i111; unfold In at a11)); have a12 := t_sub e110 i89 (in_c 1 rfl) rfl; (first | have a13 := in_u i118x1 | (have a13 := i118x1; unfold In at a13)); have a14 := t_sub e103 i24 (in_c 1000100 rfl) rfl; (first | have a15 := in_u ((in_c 1000100 rfl)) | (have a15 := (in_c 1000100 rfl); unfold In at a15)); (first | have a16 := in_u i121 | (have a16 := i121; unfold In at a16)); have a17 := t_sub e98 i89 (in_c 1 rfl) rfl; omega) (by (first | have a0 := in_u i8a | (have a0 := i8a; unfold In at a0)); (first | have a1 := in_u h1 | (have a1 := h1; unfold In at a1)); (first | have a2 := in_u i8 | (have a2 := i8; unfold In at a2)); (first | have a3 := in_u j5_3 | (have a3 := j5_3; unfold In at a3)); (first | have a4 := in_u i24 | (have a4 := i24; unfold In at a4)); (first | have a5 := in_u i122 | (have a5 := i122; unfold In at a5)); have a6 := t_add e122 i8 (in_c 1 rfl) rfl; (first | have a7 := in_u ((in_c 1 rfl)) | (have a7 := (in_c 1 rfl); unfold In at a7)); (first | have a8 := in_u i117 | (have a8 := i117; unfold In at a8)); have a9 := t_add e89 j5_3 (in_c (-1) rfl) rfl; (first | have a10 := in_u ((in_c (-1) rfl)) | (have a10 := (in_c (-1) rfl); unfold In at a10)); (first | have a11 := in_u i111 | (have a11 := i111; unfold In at a11)); have a12 := t_sub e110 i89 (in_c 1 rfl) rfl; (first | have a13 := in_u i118x1 | (have a13 := i118x1; unfold In at a13)); have a14 := t_sub e103 i24 (in_c 1000100 rfl) rfl; (first | have a15 := in_u ((in_c 1000100 rfl)) | (have a15 := (in_c 1000100 rfl); unfold In at a15)); (first | have a16 := in_u i121 | (have a16 := i121; unfold In at a16)); have a17 := t_sub e98 i89 (in_c 1 rfl) rfl; omega) | exact cs_0 rfl h1.1
                      exact gg_w (by first | exact Nat.le_add_right _ _ | exact gw2 | exact gw3 | exact gwe rfl | exact gwf rfl | exact gwg rfl | exact gwh rfl | omega) (gg_f (gf_cons rfl (gf_cons rfl (gf_cons rfl (gf_cons rfl (gf_cons rfl gf_nil))))) (ih5 (sL sc5 105 z98.toNatClampNeg z118x60x24) z89 z122 hI121 (fr_sL rfl hFc5) (in_w 0 120 i117 rfl) (in_w 0 120 i122 rfl) n5 n5a (m_up mm5 (t_add e122 i8 (in_c 1 rfl) rfl) (in_w 1 1 (in_c 1 rfl) rfl))))
            · skip
              have i118x1 := sw_eq c118x1
              refine g_lload_n 45 (gd rfl) rfl rfl ?_
              refine g_lload_n 46 (gd rfl) rfl rfl ?_
              refine g_ladd 47 (gd rfl) rfl (fun z118x46 e118x46 => ?_)
              refine g_calls (As := [.long z118x46]) (r := []) 50 (gd rfl) rfl rfl rfl rfl rfl (Nat.le_of_ble_eq_true rfl) (mc := 0) (ms := 0) (Nat.zero_le _) (Nat.zero_le _) (P := fun v u => _) ?_ (fun v u h => h)
              intro po118x47 xx118x47 hp118x47 hx118x47
              refine g_enter2 (k := 69) (N := 300) (by first | exact dq1 hd rfl | exact dq0 hd rfl | exact dq2 hd rfl | exact dq3 hd rfl | omega) rfl (Nat.le_of_ble_eq_true rfl) ?_
              refine g_ldc2_w (-1000000000000) 3 (gd rfl) rfl rfl ?_
              refine g_ldc2_w 1000000000000 6 (gd rfl) rfl rfl ?_
              refine g_lload_n 7 (gd rfl) rfl rfl ?_
              refine g_calls (As := [.long (Int64.ofInt 1000000000000), .long z118x46]) (r := [.long (Int64.ofInt (-1000000000000))]) 10 (gd rfl) rfl rfl rfl rfl rfl (Nat.le_of_ble_eq_true rfl) (mc := 0) (ms := 0) (Nat.zero_le _) (Nat.zero_le _) (P := fun v u => _) ?_ (fun v u h => h)
              intro po118x47x7 xx118x47x7 hp118x47x7 hx118x47x7
              refine g_enter2 (k := 425) (N := 300) (by first | exact dq1 hd rfl | exact dq0 hd rfl | exact dq2 hd rfl | exact dq3 hd rfl | omega) rfl (Nat.le_of_ble_eq_true rfl) ?_
              refine g_lload_n 1 (gd rfl) rfl rfl ?_
              refine g_lload_n 2 (gd rfl) rfl rfl ?_
              refine g_lcmp 3 (gd rfl) rfl (fun z118x47x7x2 e118x47x7x2 => ?_)
              have i118x47x7x2 := lc_in e118x47x7x2
              refine g_if_gt 6 10 (gd rfl) rfl rfl (fun c118x47x7x3 => ?_) (fun c118x47x7x3 => ?_)
              · skip
                have i118x47x7x3 := z_gt 1 1 c118x47x7x3 i118x47x7x2 rfl
                have c118x47x7x3a := lc_gt e118x47x7x2 c118x47x7x3
                have i118x47x7x3a := lr_lt1 (-9223372036854775808) 999999999999 c118x47x7x3a (l_rng z118x46) (l_c 1000000000000 rfl) rfl
                refine g_lload_n 11 (gd rfl) rfl rfl ?_
                refine g_lreturn (gd rfl) rfl (hp118x47x7 _ _ ?_)
                show GG _ _ _ _ _ _ _ _ [.long z118x46, .long (Int64.ofInt (-1000000000000))] _ _ _
                refine g_calls (As := [.long (Int64.ofInt (-1000000000000)), .long z118x46]) (r := []) 13 (gd rfl) rfl rfl rfl rfl rfl (Nat.le_of_ble_eq_true rfl) (mc := 0) (ms := 0) (Nat.zero_le _) (Nat.zero_le _) (P := fun v u => _) ?_ (fun v u h => h)
                intro po118x47x10 xx118x47x10 hp118x47x10 hx118x47x10
                refine g_enter2 (k := 423) (N := 300) (by first | exact dq1 hd rfl | exact dq0 hd rfl | exact dq2 hd rfl | exact dq3 hd rfl | omega) rfl (Nat.le_of_ble_eq_true rfl) ?_
                refine g_lload_n 1 (gd rfl) rfl rfl ?_
                refine g_lload_n 2 (gd rfl) rfl rfl ?_
                refine g_lcmp 3 (gd rfl) rfl (fun z118x47x10x2 e118x47x10x2 => ?_)
                have i118x47x10x2 := lc_in e118x47x10x2
                refine g_if_lt 6 10 (gd rfl) rfl rfl (fun c118x47x10x3 => ?_) (fun c118x47x10x3 => ?_)
                · skip
                  have i118x47x10x3 := z_lt (-1) (-1) c118x47x10x3 i118x47x10x2 rfl
                  have c118x47x10x3a := lc_lt e118x47x10x2 c118x47x10x3
                  have i118x47x10x3a := lr_lt2 (-999999999999) 999999999999 c118x47x10x3a (l_c (-1000000000000) rfl) i118x47x7x3a rfl
                  refine g_lload_n 11 (gd rfl) rfl rfl ?_
                  refine g_lreturn (gd rfl) rfl (hp118x47x10 _ _ ?_)
                  show GG _ _ _ _ _ _ _ _ [.long z118x46] _ _ _
                  refine g_lreturn (gd rfl) rfl (hp118x47 _ _ ?_)
                  show GG _ _ _ _ _ _ _ _ [.long z118x46] _ _ _
                  refine g_lreturn (gd rfl) rfl (hp118 _ _ ?_)
                  show GG _ _ _ _ _ _ _ _ [.long z118x46, .int z98, .ref (A 105)] _ _ _
                  have i121 : In z98 0 119 := by (first | have a0 := in_u i8a | (have a0 := i8a; unfold In at a0)); (first | have a1 := in_u h1 | (have a1 := h1; unfold In at a1)); (first | have a2 := in_u i8 | (have a2 := i8; unfold In at a2)); (first | have a3 := in_u j5_3 | (have a3 := j5_3; unfold In at a3)); (first | have a4 := in_u i24 | (have a4 := i24; unfold In at a4)); (first | have a5 := in_u i117 | (have a5 := i117; unfold In at a5)); have a6 := t_add e89 j5_3 (in_c (-1) rfl) rfl; (first | have a7 := in_u ((in_c (-1) rfl)) | (have a7 := (in_c (-1) rfl); unfold In at a7)); (first | have a8 := in_u i111 | (have a8 := i111; unfold In at a8)); have a9 := t_sub e110 i89 (in_c 1 rfl) rfl; (first | have a10 := in_u ((in_c 1 rfl)) | (have a10 := (in_c 1 rfl); unfold In at a10)); (first | have a11 := in_u i118x1 | (have a11 := i118x1; unfold In at a11)); have a12 := t_sub e103 i24 (in_c 1000100 rfl) rfl; (first | have a13 := in_u ((in_c 1000100 rfl)) | (have a13 := (in_c 1000100 rfl); unfold In at a13)); (first | have a14 := in_u i98 | (have a14 := i98; unfold In at a14)); have a15 := t_sub e98 i89 (in_c 1 rfl) rfl; exact ⟨by omega, by omega⟩
                  refine g_lastore 122 (gd rfl) rfl (n := 120) rfl (in_ix i121 rfl) ?_
                  have hI121 := inv_sL (q := 105) (j := z98.toNatClampNeg) (x := z118x46) hIc5 rfl (l_rng z118x46)
                  refine g_iinc 125 (gd rfl) rfl rfl (Nat.le_of_ble_eq_true rfl) (fun z122 e122 => ?_)
                  have i122 := in_add 1 120 e122 i8 (in_c 1 rfl) rfl rfl
                  refine g_goto 5 (gd rfl) rfl ?_
                  have n5 : (z89).toInt ≤ (z122).toInt := by (first | have a0 := in_u i8a | (have a0 := i8a; unfold In at a0)); (first | have a1 := in_u h1 | (have a1 := h1; unfold In at a1)); (first | have a2 := in_u i8 | (have a2 := i8; unfold In at a2)); (first | have a3 := in_u j5_3 | (have a3 := j5_3; unfold In at a3)); (first | have a4 := in_u i24 | (have a4 := i24; unfold In at a4)); (first | have a5 := in_u i122 | (have a5 := i122; unfold In at a5)); have a6 := t_add e122 i8 (in_c 1 rfl) rfl; (first | have a7 := in_u ((in_c 1 rfl)) | (have a7 := (in_c 1 rfl); unfold In at a7)); (first | have a8 := in_u i117 | (have a8 := i117; unfold In at a8)); have a9 := t_add e89 j5_3 (in_c (-1) rfl) rfl; (first | have a10 := in_u ((in_c (-1) rfl)) | (have a10 := (in_c (-1) rfl); unfold In at a10)); (first | have a11 := in_u i111 | (have a11 := i111; unfold In at a11)); have a12 := t_sub e110 i89 (in_c 1 rfl) rfl; (first | have a13 := in_u i118x1 | (have a13 := i118x1; unfold In at a13)); have a14 := t_sub e103 i24 (in_c 1000100 rfl) rfl; (first | have a15 := in_u ((in_c 1000100 rfl)) | (have a15 := (in_c 1000100 rfl); unfold In at a15)); (first | have a16 := in_u i121 | (have a16 := i121; unfold In at a16)); have a17 := t_sub e98 i89 (in_c 1 rfl) rfl; omega
                  have n5a : CS (sL sc5 105 z98.toNatClampNeg z118x46) x1 z122 z89 := by first | exact hk2 _ _ (by (first | have a0 := in_u i8a | (have a0 := i8a; unfold In at a0)); (first | have a1 := in_u h1 | (have a1 := h1; unfold In at a1)); (first | have a2 := in_u i8 | (have a2 := i8; unfold In at a2)); (first | have a3 := in_u j5_3 | (have a3 := j5_3; unfold In at a3)); (first | have a4 := in_u i24 | (have a4 := i24; unfold In at a4)); (first | have a5 := in_u i122 | (have a5 := i122; unfold In at a5)); have a6 := t_add e122 i8 (in_c 1 rfl) rfl; (first | have a7 := in_u ((in_c 1 rfl)) | (have a7 := (in_c 1 rfl); unfold In at a7)); (first | have a8 := in_u i117 | (have a8 := i117; unfold In at a8)); have a9 := t_add e89 j5_3 (in_c (-1) rfl) rfl; (first | have a10 := in_u ((in_c (-1) rfl)) | (have a10 := (in_c (-1) rfl); unfold In at a10)); (first | have a11 := in_u i111 | (have a11 := i111; unfold In at a11)); have a12 := t_sub e110 i89 (in_c 1 rfl) rfl; (first | have a13 := in_u i118x1 | (have a13 := i118x1; unfold In at a13)); have a14 := t_sub e103 i24 (in_c 1000100 rfl) rfl; (first | have a15 := in_u ((in_c 1000100 rfl)) | (have a15 := (in_c 1000100 rfl); unfold In at a15)); (first | have a16 := in_u i121 | (have a16 := i121; unfold In at a16)); have a17 := t_sub e98 i89 (in_c 1 rfl) rfl; omega) (by (first | have a0 := in_u i8a | (have a0 := i8a; unfold In at a0)); (first | have a1 := in_u h1 | (have a1 := h1; unfold In at a1)); (first | have a2 := in_u i8 | (have a2 := i8; unfold In at a2)); (first | have a3 := in_u j5_3 | (have a3 := j5_3; unfold In at a3)); (first | have a4 := in_u i24 | (have a4 := i24; unfold In at a4)); (first | have a5 := in_u i122 | (have a5 := i122; unfold In at a5)); have a6 := t_add e122 i8 (in_c 1 rfl) rfl; (first | have a7 := in_u ((in_c 1 rfl)) | (have a7 := (in_c 1 rfl); unfold In at a7)); (first | have a8 := in_u i117 | (have a8 := i117; unfold In at a8)); have a9 := t_add e89 j5_3 (in_c (-1) rfl) rfl; (first | have a10 := in_u ((in_c (-1) rfl)) | (have a10 := (in_c (-1) rfl); unfold In at a10)); (first | have a11 := in_u i111 | (have a11 := i111; unfold In at a11)); have a12 := t_sub e110 i89 (in_c 1 rfl) rfl; (first | have a13 := in_u i118x1 | (have a13 := i118x1; unfold In at a13)); have a14 := t_sub e103 i24 (in_c 1000100 rfl) rfl; (first | have a15 := in_u ((in_c 1000100 rfl)) | (have a15 := (in_c 1000100 rfl); unfold In at a15)); (first | have a16 := in_u i121 | (have a16 := i121; unfold In at a16)); have a17 := t_sub e98 i89 (in_c 1 rfl) rfl; omega) | exact cs_0 rfl h1.1
                  exact gg_w (by first | exact Nat.le_add_right _ _ | exact gw2 | exact gw3 | exact gwe rfl | exact gwf rfl | exact gwg rfl | exact gwh rfl | omega) (gg_f (gf_cons rfl (gf_cons rfl (gf_cons rfl (gf_cons rfl (gf_cons rfl gf_nil))))) (ih5 (sL sc5 105 z98.toNatClampNeg z118x46) z89 z122 hI121 (fr_sL rfl hFc5) (in_w 0 120 i117 rfl) (in_w 0 120 i122 rfl) n5 n5a (m_up mm5 (t_add e122 i8 (in_c 1 rfl) rfl) (in_w 1 1 (in_c 1 rfl) rfl))))
                · skip
                  have i118x47x10x3 := z_ge 0 1 c118x47x10x3 i118x47x10x2 rfl
                  have c118x47x10x3a := lc_ge e118x47x10x2 c118x47x10x3
                  have i118x47x10x3a := lr_le1 (-9223372036854775808) (-1000000000000) c118x47x10x3a i118x47x7x3a (l_c (-1000000000000) rfl) rfl
                  refine g_lload_n 7 (gd rfl) rfl rfl ?_
                  refine g_goto 11 (gd rfl) rfl ?_
                  refine g_lreturn (gd rfl) rfl (hp118x47x10 _ _ ?_)
                  show GG _ _ _ _ _ _ _ _ [.long (Int64.ofInt (-1000000000000))] _ _ _
                  refine g_lreturn (gd rfl) rfl (hp118x47 _ _ ?_)
                  show GG _ _ _ _ _ _ _ _ [.long (Int64.ofInt (-1000000000000))] _ _ _
                  refine g_lreturn (gd rfl) rfl (hp118 _ _ ?_)
                  show GG _ _ _ _ _ _ _ _ [.long (Int64.ofInt (-1000000000000)), .int z98, .ref (A 105)] _ _ _
                  have i121 : In z98 0 119 := by (first | have a0 := in_u i8a | (have a0 := i8a; unfold In at a0)); (first | have a1 := in_u h1 | (have a1 := h1; unfold In at a1)); (first | have a2 := in_u i8 | (have a2 := i8; unfold In at a2)); (first | have a3 := in_u j5_3 | (have a3 := j5_3; unfold In at a3)); (first | have a4 := in_u i24 | (have a4 := i24; unfold In at a4)); (first | have a5 := in_u i117 | (have a5 := i117; unfold In at a5)); have a6 := t_add e89 j5_3 (in_c (-1) rfl) rfl; (first | have a7 := in_u ((in_c (-1) rfl)) | (have a7 := (in_c (-1) rfl); unfold In at a7)); (first | have a8 := in_u i111 | (have a8 := i111; unfold In at a8)); have a9 := t_sub e110 i89 (in_c 1 rfl) rfl; (first | have a10 := in_u ((in_c 1 rfl)) | (have a10 := (in_c 1 rfl); unfold In at a10)); (first | have a11 := in_u i118x1 | (have a11 := i118x1; unfold In at a11)); have a12 := t_sub e103 i24 (in_c 1000100 rfl) rfl; (first | have a13 := in_u ((in_c 1000100 rfl)) | (have a13 := (in_c 1000100 rfl); unfold In at a13)); (first | have a14 := in_u i98 | (have a14 := i98; unfold In at a14)); have a15 := t_sub e98 i89 (in_c 1 rfl) rfl; exact ⟨by omega, by omega⟩
                  refine g_lastore 122 (gd rfl) rfl (n := 120) rfl (in_ix i121 rfl) ?_
                  have hI121 := inv_sL (q := 105) (j := z98.toNatClampNeg) (x := (Int64.ofInt (-1000000000000))) hIc5 rfl (l_rng (Int64.ofInt (-1000000000000)))
                  refine g_iinc 125 (gd rfl) rfl rfl (Nat.le_of_ble_eq_true rfl) (fun z122 e122 => ?_)
                  have i122 := in_add 1 120 e122 i8 (in_c 1 rfl) rfl rfl
                  refine g_goto 5 (gd rfl) rfl ?_
                  have n5 : (z89).toInt ≤ (z122).toInt := by (first | have a0 := in_u i8a | (have a0 := i8a; unfold In at a0)); (first | have a1 := in_u h1 | (have a1 := h1; unfold In at a1)); (first | have a2 := in_u i8 | (have a2 := i8; unfold In at a2)); (first | have a3 := in_u j5_3 | (have a3 := j5_3; unfold In at a3)); (first | have a4 := in_u i24 | (have a4 := i24; unfold In at a4)); (first | have a5 := in_u i122 | (have a5 := i122; unfold In at a5)); have a6 := t_add e122 i8 (in_c 1 rfl) rfl; (first | have a7 := in_u ((in_c 1 rfl)) | (have a7 := (in_c 1 rfl); unfold In at a7)); (first | have a8 := in_u i117 | (have a8 := i117; unfold In at a8)); have a9 := t_add e89 j5_3 (in_c (-1) rfl) rfl; (first | have a10 := in_u ((in_c (-1) rfl)) | (have a10 := (in_c (-1) rfl); unfold In at a10)); (first | have a11 := in_u i111 | (have a11 := i111; unfold In at a11)); have a12 := t_sub e110 i89 (in_c 1 rfl) rfl; (first | have a13 := in_u i118x1 | (have a13 := i118x1; unfold In at a13)); have a14 := t_sub e103 i24 (in_c 1000100 rfl) rfl; (first | have a15 := in_u ((in_c 1000100 rfl)) | (have a15 := (in_c 1000100 rfl); unfold In at a15)); (first | have a16 := in_u i121 | (have a16 := i121; unfold In at a16)); have a17 := t_sub e98 i89 (in_c 1 rfl) rfl; omega
                  have n5a : CS (sL sc5 105 z98.toNatClampNeg (Int64.ofInt (-1000000000000))) x1 z122 z89 := by first | exact hk2 _ _ (by (first | have a0 := in_u i8a | (have a0 := i8a; unfold In at a0)); (first | have a1 := in_u h1 | (have a1 := h1; unfold In at a1)); (first | have a2 := in_u i8 | (have a2 := i8; unfold In at a2)); (first | have a3 := in_u j5_3 | (have a3 := j5_3; unfold In at a3)); (first | have a4 := in_u i24 | (have a4 := i24; unfold In at a4)); (first | have a5 := in_u i122 | (have a5 := i122; unfold In at a5)); have a6 := t_add e122 i8 (in_c 1 rfl) rfl; (first | have a7 := in_u ((in_c 1 rfl)) | (have a7 := (in_c 1 rfl); unfold In at a7)); (first | have a8 := in_u i117 | (have a8 := i117; unfold In at a8)); have a9 := t_add e89 j5_3 (in_c (-1) rfl) rfl; (first | have a10 := in_u ((in_c (-1) rfl)) | (have a10 := (in_c (-1) rfl); unfold In at a10)); (first | have a11 := in_u i111 | (have a11 := i111; unfold In at a11)); have a12 := t_sub e110 i89 (in_c 1 rfl) rfl; (first | have a13 := in_u i118x1 | (have a13 := i118x1; unfold In at a13)); have a14 := t_sub e103 i24 (in_c 1000100 rfl) rfl; (first | have a15 := in_u ((in_c 1000100 rfl)) | (have a15 := (in_c 1000100 rfl); unfold In at a15)); (first | have a16 := in_u i121 | (have a16 := i121; unfold In at a16)); have a17 := t_sub e98 i89 (in_c 1 rfl) rfl; omega) (by (first | have a0 := in_u i8a | (have a0 := i8a; unfold In at a0)); (first | have a1 := in_u h1 | (have a1 := h1; unfold In at a1)); (first | have a2 := in_u i8 | (have a2 := i8; unfold In at a2)); (first | have a3 := in_u j5_3 | (have a3 := j5_3; unfold In at a3)); (first | have a4 := in_u i24 | (have a4 := i24; unfold In at a4)); (first | have a5 := in_u i122 | (have a5 := i122; unfold In at a5)); have a6 := t_add e122 i8 (in_c 1 rfl) rfl; (first | have a7 := in_u ((in_c 1 rfl)) | (have a7 := (in_c 1 rfl); unfold In at a7)); (first | have a8 := in_u i117 | (have a8 := i117; unfold In at a8)); have a9 := t_add e89 j5_3 (in_c (-1) rfl) rfl; (first | have a10 := in_u ((in_c (-1) rfl)) | (have a10 := (in_c (-1) rfl); unfold In at a10)); (first | have a11 := in_u i111 | (have a11 := i111; unfold In at a11)); have a12 := t_sub e110 i89 (in_c 1 rfl) rfl; (first | have a13 := in_u i118x1 | (have a13 := i118x1; unfold In at a13)); have a14 := t_sub e103 i24 (in_c 1000100 rfl) rfl; (first | have a15 := in_u ((in_c 1000100 rfl)) | (have a15 := (in_c 1000100 rfl); unfold In at a15)); (first | have a16 := in_u i121 | (have a16 := i121; unfold In at a16)); have a17 := t_sub e98 i89 (in_c 1 rfl) rfl; omega) | exact cs_0 rfl h1.1
                  exact gg_w (by first | exact Nat.le_add_right _ _ | exact gw2 | exact gw3 | exact gwe rfl | exact gwf rfl | exact gwg rfl | exact gwh rfl | omega) (gg_f (gf_cons rfl (gf_cons rfl (gf_cons rfl (gf_cons rfl (gf_cons rfl gf_nil))))) (ih5 (sL sc5 105 z98.toNatClampNeg (Int64.ofInt (-1000000000000))) z89 z122 hI121 (fr_sL rfl hFc5) (in_w 0 120 i117 rfl) (in_w 0 120 i122 rfl) n5 n5a (m_up mm5 (t_add e122 i8 (in_c 1 rfl) rfl) (in_w 1 1 (in_c 1 rfl) rfl))))
              · skip
                have i118x47x7x3 := z_le (-1) 0 c118x47x7x3 i118x47x7x2 rfl
                have c118x47x7x3a := lc_le e118x47x7x2 c118x47x7x3
                have i118x47x7x3a := lr_le2 1000000000000 9223372036854775807 c118x47x7x3a (l_c 1000000000000 rfl) (l_rng z118x46) rfl
                refine g_lload_n 7 (gd rfl) rfl rfl ?_
                refine g_goto 11 (gd rfl) rfl ?_
                refine g_lreturn (gd rfl) rfl (hp118x47x7 _ _ ?_)
                show GG _ _ _ _ _ _ _ _ [.long (Int64.ofInt 1000000000000), .long (Int64.ofInt (-1000000000000))] _ _ _
                refine g_calls (As := [.long (Int64.ofInt (-1000000000000)), .long (Int64.ofInt 1000000000000)]) (r := []) 13 (gd rfl) rfl rfl rfl rfl rfl (Nat.le_of_ble_eq_true rfl) (mc := 0) (ms := 0) (Nat.zero_le _) (Nat.zero_le _) (P := fun v u => _) ?_ (fun v u h => h)
                intro po118x47x10 xx118x47x10 hp118x47x10 hx118x47x10
                refine g_enter2 (k := 423) (N := 300) (by first | exact dq1 hd rfl | exact dq0 hd rfl | exact dq2 hd rfl | exact dq3 hd rfl | omega) rfl (Nat.le_of_ble_eq_true rfl) ?_
                refine g_lload_n 1 (gd rfl) rfl rfl ?_
                refine g_lload_n 2 (gd rfl) rfl rfl ?_
                refine g_lcmp 3 (gd rfl) rfl (fun z118x47x10x2 e118x47x10x2 => ?_)
                have i118x47x10x2 := lc_in e118x47x10x2
                refine g_if_lt 6 10 (gd rfl) rfl rfl (fun c118x47x10x3 => ?_) (fun c118x47x10x3 => ?_)
                · skip
                  have i118x47x10x3 := z_lt (-1) (-1) c118x47x10x3 i118x47x10x2 rfl
                  have c118x47x10x3a := lc_lt e118x47x10x2 c118x47x10x3
                  refine g_lload_n 11 (gd rfl) rfl rfl ?_
                  refine g_lreturn (gd rfl) rfl (hp118x47x10 _ _ ?_)
                  show GG _ _ _ _ _ _ _ _ [.long (Int64.ofInt 1000000000000)] _ _ _
                  refine g_lreturn (gd rfl) rfl (hp118x47 _ _ ?_)
                  show GG _ _ _ _ _ _ _ _ [.long (Int64.ofInt 1000000000000)] _ _ _
                  refine g_lreturn (gd rfl) rfl (hp118 _ _ ?_)
                  show GG _ _ _ _ _ _ _ _ [.long (Int64.ofInt 1000000000000), .int z98, .ref (A 105)] _ _ _
                  have i121 : In z98 0 119 := by (first | have a0 := in_u i8a | (have a0 := i8a; unfold In at a0)); (first | have a1 := in_u h1 | (have a1 := h1; unfold In at a1)); (first | have a2 := in_u i8 | (have a2 := i8; unfold In at a2)); (first | have a3 := in_u j5_3 | (have a3 := j5_3; unfold In at a3)); (first | have a4 := in_u i24 | (have a4 := i24; unfold In at a4)); (first | have a5 := in_u i117 | (have a5 := i117; unfold In at a5)); have a6 := t_add e89 j5_3 (in_c (-1) rfl) rfl; (first | have a7 := in_u ((in_c (-1) rfl)) | (have a7 := (in_c (-1) rfl); unfold In at a7)); (first | have a8 := in_u i111 | (have a8 := i111; unfold In at a8)); have a9 := t_sub e110 i89 (in_c 1 rfl) rfl; (first | have a10 := in_u ((in_c 1 rfl)) | (have a10 := (in_c 1 rfl); unfold In at a10)); (first | have a11 := in_u i118x1 | (have a11 := i118x1; unfold In at a11)); have a12 := t_sub e103 i24 (in_c 1000100 rfl) rfl; (first | have a13 := in_u ((in_c 1000100 rfl)) | (have a13 := (in_c 1000100 rfl); unfold In at a13)); (first | have a14 := in_u i98 | (have a14 := i98; unfold In at a14)); have a15 := t_sub e98 i89 (in_c 1 rfl) rfl; exact ⟨by omega, by omega⟩
                  refine g_lastore 122 (gd rfl) rfl (n := 120) rfl (in_ix i121 rfl) ?_
                  have hI121 := inv_sL (q := 105) (j := z98.toNatClampNeg) (x := (Int64.ofInt 1000000000000)) hIc5 rfl (l_rng (Int64.ofInt 1000000000000))
                  refine g_iinc 125 (gd rfl) rfl rfl (Nat.le_of_ble_eq_true rfl) (fun z122 e122 => ?_)
                  have i122 := in_add 1 120 e122 i8 (in_c 1 rfl) rfl rfl
                  refine g_goto 5 (gd rfl) rfl ?_
                  have n5 : (z89).toInt ≤ (z122).toInt := by (first | have a0 := in_u i8a | (have a0 := i8a; unfold In at a0)); (first | have a1 := in_u h1 | (have a1 := h1; unfold In at a1)); (first | have a2 := in_u i8 | (have a2 := i8; unfold In at a2)); (first | have a3 := in_u j5_3 | (have a3 := j5_3; unfold In at a3)); (first | have a4 := in_u i24 | (have a4 := i24; unfold In at a4)); (first | have a5 := in_u i122 | (have a5 := i122; unfold In at a5)); have a6 := t_add e122 i8 (in_c 1 rfl) rfl; (first | have a7 := in_u ((in_c 1 rfl)) | (have a7 := (in_c 1 rfl); unfold In at a7)); (first | have a8 := in_u i117 | (have a8 := i117; unfold In at a8)); have a9 := t_add e89 j5_3 (in_c (-1) rfl) rfl; (first | have a10 := in_u ((in_c (-1) rfl)) | (have a10 := (in_c (-1) rfl); unfold In at a10)); (first | have a11 := in_u i111 | (have a11 := i111; unfold In at a11)); have a12 := t_sub e110 i89 (in_c 1 rfl) rfl; (first | have a13 := in_u i118x1 | (have a13 := i118x1; unfold In at a13)); have a14 := t_sub e103 i24 (in_c 1000100 rfl) rfl; (first | have a15 := in_u ((in_c 1000100 rfl)) | (have a15 := (in_c 1000100 rfl); unfold In at a15)); (first | have a16 := in_u i121 | (have a16 := i121; unfold In at a16)); have a17 := t_sub e98 i89 (in_c 1 rfl) rfl; omega
                  have n5a : CS (sL sc5 105 z98.toNatClampNeg (Int64.ofInt 1000000000000)) x1 z122 z89 := by first | exact hk2 _ _ (by (first | have a0 := in_u i8a | (have a0 := i8a; unfold In at a0)); (first | have a1 := in_u h1 | (have a1 := h1; unfold In at a1)); (first | have a2 := in_u i8 | (have a2 := i8; unfold In at a2)); (first | have a3 := in_u j5_3 | (have a3 := j5_3; unfold In at a3)); (first | have a4 := in_u i24 | (have a4 := i24; unfold In at a4)); (first | have a5 := in_u i122 | (have a5 := i122; unfold In at a5)); have a6 := t_add e122 i8 (in_c 1 rfl) rfl; (first | have a7 := in_u ((in_c 1 rfl)) | (have a7 := (in_c 1 rfl); unfold In at a7)); (first | have a8 := in_u i117 | (have a8 := i117; unfold In at a8)); have a9 := t_add e89 j5_3 (in_c (-1) rfl) rfl; (first | have a10 := in_u ((in_c (-1) rfl)) | (have a10 := (in_c (-1) rfl); unfold In at a10)); (first | have a11 := in_u i111 | (have a11 := i111; unfold In at a11)); have a12 := t_sub e110 i89 (in_c 1 rfl) rfl; (first | have a13 := in_u i118x1 | (have a13 := i118x1; unfold In at a13)); have a14 := t_sub e103 i24 (in_c 1000100 rfl) rfl; (first | have a15 := in_u ((in_c 1000100 rfl)) | (have a15 := (in_c 1000100 rfl); unfold In at a15)); (first | have a16 := in_u i121 | (have a16 := i121; unfold In at a16)); have a17 := t_sub e98 i89 (in_c 1 rfl) rfl; omega) (by (first | have a0 := in_u i8a | (have a0 := i8a; unfold In at a0)); (first | have a1 := in_u h1 | (have a1 := h1; unfold In at a1)); (first | have a2 := in_u i8 | (have a2 := i8; unfold In at a2)); (first | have a3 := in_u j5_3 | (have a3 := j5_3; unfold In at a3)); (first | have a4 := in_u i24 | (have a4 := i24; unfold In at a4)); (first | have a5 := in_u i122 | (have a5 := i122; unfold In at a5)); have a6 := t_add e122 i8 (in_c 1 rfl) rfl; (first | have a7 := in_u ((in_c 1 rfl)) | (have a7 := (in_c 1 rfl); unfold In at a7)); (first | have a8 := in_u i117 | (have a8 := i117; unfold In at a8)); have a9 := t_add e89 j5_3 (in_c (-1) rfl) rfl; (first | have a10 := in_u ((in_c (-1) rfl)) | (have a10 := (in_c (-1) rfl); unfold In at a10)); (first | have a11 := in_u i111 | (have a11 := i111; unfold In at a11)); have a12 := t_sub e110 i89 (in_c 1 rfl) rfl; (first | have a13 := in_u i118x1 | (have a13 := i118x1; unfold In at a13)); have a14 := t_sub e103 i24 (in_c 1000100 rfl) rfl; (first | have a15 := in_u ((in_c 1000100 rfl)) | (have a15 := (in_c 1000100 rfl); unfold In at a15)); (first | have a16 := in_u i121 | (have a16 := i121; unfold In at a16)); have a17 := t_sub e98 i89 (in_c 1 rfl) rfl; omega) | exact cs_0 rfl h1.1
                  exact gg_w (by first | exact Nat.le_add_right _ _ | exact gw2 | exact gw3 | exact gwe rfl | exact gwf rfl | exact gwg rfl | exact gwh rfl | omega) (gg_f (gf_cons rfl (gf_cons rfl (gf_cons rfl (gf_cons rfl (gf_cons rfl gf_nil))))) (ih5 (sL sc5 105 z98.toNatClampNeg (Int64.ofInt 1000000000000)) z89 z122 hI121 (fr_sL rfl hFc5) (in_w 0 120 i117 rfl) (in_w 0 120 i122 rfl) n5 n5a (m_up mm5 (t_add e122 i8 (in_c 1 rfl) rfl) (in_w 1 1 (in_c 1 rfl) rfl))))
                · skip
                  have i118x47x10x3 := z_ge 0 1 c118x47x10x3 i118x47x10x2 rfl
                  have c118x47x10x3a := lc_ge e118x47x10x2 c118x47x10x3
                  exact ln_le c118x47x10x3a (l_c 1000000000000 rfl) (l_c (-1000000000000) rfl) rfl
            · skip
              have i118x1 := sw_eq c118x1
              refine g_lload_n 52 (gd rfl) rfl rfl ?_
              refine g_lload_n 53 (gd rfl) rfl rfl ?_
              refine g_lsub 54 (gd rfl) rfl (fun z118x53 e118x53 => ?_)
              refine g_calls (As := [.long z118x53]) (r := []) 57 (gd rfl) rfl rfl rfl rfl rfl (Nat.le_of_ble_eq_true rfl) (mc := 0) (ms := 0) (Nat.zero_le _) (Nat.zero_le _) (P := fun v u => _) ?_ (fun v u h => h)
              intro po118x54 xx118x54 hp118x54 hx118x54
              refine g_enter2 (k := 69) (N := 300) (by first | exact dq1 hd rfl | exact dq0 hd rfl | exact dq2 hd rfl | exact dq3 hd rfl | omega) rfl (Nat.le_of_ble_eq_true rfl) ?_
              refine g_ldc2_w (-1000000000000) 3 (gd rfl) rfl rfl ?_
              refine g_ldc2_w 1000000000000 6 (gd rfl) rfl rfl ?_
              refine g_lload_n 7 (gd rfl) rfl rfl ?_
              refine g_calls (As := [.long (Int64.ofInt 1000000000000), .long z118x53]) (r := [.long (Int64.ofInt (-1000000000000))]) 10 (gd rfl) rfl rfl rfl rfl rfl (Nat.le_of_ble_eq_true rfl) (mc := 0) (ms := 0) (Nat.zero_le _) (Nat.zero_le _) (P := fun v u => _) ?_ (fun v u h => h)
              intro po118x54x7 xx118x54x7 hp118x54x7 hx118x54x7
              refine g_enter2 (k := 425) (N := 300) (by first | exact dq1 hd rfl | exact dq0 hd rfl | exact dq2 hd rfl | exact dq3 hd rfl | omega) rfl (Nat.le_of_ble_eq_true rfl) ?_
              refine g_lload_n 1 (gd rfl) rfl rfl ?_
              refine g_lload_n 2 (gd rfl) rfl rfl ?_
              refine g_lcmp 3 (gd rfl) rfl (fun z118x54x7x2 e118x54x7x2 => ?_)
              have i118x54x7x2 := lc_in e118x54x7x2
              refine g_if_gt 6 10 (gd rfl) rfl rfl (fun c118x54x7x3 => ?_) (fun c118x54x7x3 => ?_)
              · skip
                have i118x54x7x3 := z_gt 1 1 c118x54x7x3 i118x54x7x2 rfl
                have c118x54x7x3a := lc_gt e118x54x7x2 c118x54x7x3
                have i118x54x7x3a := lr_lt1 (-9223372036854775808) 999999999999 c118x54x7x3a (l_rng z118x53) (l_c 1000000000000 rfl) rfl
                refine g_lload_n 11 (gd rfl) rfl rfl ?_
                refine g_lreturn (gd rfl) rfl (hp118x54x7 _ _ ?_)
                show GG _ _ _ _ _ _ _ _ [.long z118x53, .long (Int64.ofInt (-1000000000000))] _ _ _
                refine g_calls (As := [.long (Int64.ofInt (-1000000000000)), .long z118x53]) (r := []) 13 (gd rfl) rfl rfl rfl rfl rfl (Nat.le_of_ble_eq_true rfl) (mc := 0) (ms := 0) (Nat.zero_le _) (Nat.zero_le _) (P := fun v u => _) ?_ (fun v u h => h)
                intro po118x54x10 xx118x54x10 hp118x54x10 hx118x54x10
                refine g_enter2 (k := 423) (N := 300) (by first | exact dq1 hd rfl | exact dq0 hd rfl | exact dq2 hd rfl | exact dq3 hd rfl | omega) rfl (Nat.le_of_ble_eq_true rfl) ?_
                refine g_lload_n 1 (gd rfl) rfl rfl ?_
                refine g_lload_n 2 (gd rfl) rfl rfl ?_
                refine g_lcmp 3 (gd rfl) rfl (fun z118x54x10x2 e118x54x10x2 => ?_)
                have i118x54x10x2 := lc_in e118x54x10x2
                refine g_if_lt 6 10 (gd rfl) rfl rfl (fun c118x54x10x3 => ?_) (fun c118x54x10x3 => ?_)
                · skip
                  have i118x54x10x3 := z_lt (-1) (-1) c118x54x10x3 i118x54x10x2 rfl
                  have c118x54x10x3a := lc_lt e118x54x10x2 c118x54x10x3
                  have i118x54x10x3a := lr_lt2 (-999999999999) 999999999999 c118x54x10x3a (l_c (-1000000000000) rfl) i118x54x7x3a rfl
                  refine g_lload_n 11 (gd rfl) rfl rfl ?_
                  refine g_lreturn (gd rfl) rfl (hp118x54x10 _ _ ?_)
                  show GG _ _ _ _ _ _ _ _ [.long z118x53] _ _ _
                  refine g_lreturn (gd rfl) rfl (hp118x54 _ _ ?_)
                  show GG _ _ _ _ _ _ _ _ [.long z118x53] _ _ _
                  refine g_lreturn (gd rfl) rfl (hp118 _ _ ?_)
                  show GG _ _ _ _ _ _ _ _ [.long z118x53, .int z98, .ref (A 105)] _ _ _
                  have i121 : In z98 0 119 := by (first | have a0 := in_u i8a | (have a0 := i8a; unfold In at a0)); (first | have a1 := in_u h1 | (have a1 := h1; unfold In at a1)); (first | have a2 := in_u i8 | (have a2 := i8; unfold In at a2)); (first | have a3 := in_u j5_3 | (have a3 := j5_3; unfold In at a3)); (first | have a4 := in_u i24 | (have a4 := i24; unfold In at a4)); (first | have a5 := in_u i117 | (have a5 := i117; unfold In at a5)); have a6 := t_add e89 j5_3 (in_c (-1) rfl) rfl; (first | have a7 := in_u ((in_c (-1) rfl)) | (have a7 := (in_c (-1) rfl); unfold In at a7)); (first | have a8 := in_u i111 | (have a8 := i111; unfold In at a8)); have a9 := t_sub e110 i89 (in_c 1 rfl) rfl; (first | have a10 := in_u ((in_c 1 rfl)) | (have a10 := (in_c 1 rfl); unfold In at a10)); (first | have a11 := in_u i118x1 | (have a11 := i118x1; unfold In at a11)); have a12 := t_sub e103 i24 (in_c 1000100 rfl) rfl; (first | have a13 := in_u ((in_c 1000100 rfl)) | (have a13 := (in_c 1000100 rfl); unfold In at a13)); (first | have a14 := in_u i98 | (have a14 := i98; unfold In at a14)); have a15 := t_sub e98 i89 (in_c 1 rfl) rfl; exact ⟨by omega, by omega⟩
                  refine g_lastore 122 (gd rfl) rfl (n := 120) rfl (in_ix i121 rfl) ?_
                  have hI121 := inv_sL (q := 105) (j := z98.toNatClampNeg) (x := z118x53) hIc5 rfl (l_rng z118x53)
                  refine g_iinc 125 (gd rfl) rfl rfl (Nat.le_of_ble_eq_true rfl) (fun z122 e122 => ?_)
                  have i122 := in_add 1 120 e122 i8 (in_c 1 rfl) rfl rfl
                  refine g_goto 5 (gd rfl) rfl ?_
                  have n5 : (z89).toInt ≤ (z122).toInt := by (first | have a0 := in_u i8a | (have a0 := i8a; unfold In at a0)); (first | have a1 := in_u h1 | (have a1 := h1; unfold In at a1)); (first | have a2 := in_u i8 | (have a2 := i8; unfold In at a2)); (first | have a3 := in_u j5_3 | (have a3 := j5_3; unfold In at a3)); (first | have a4 := in_u i24 | (have a4 := i24; unfold In at a4)); (first | have a5 := in_u i122 | (have a5 := i122; unfold In at a5)); have a6 := t_add e122 i8 (in_c 1 rfl) rfl; (first | have a7 := in_u ((in_c 1 rfl)) | (have a7 := (in_c 1 rfl); unfold In at a7)); (first | have a8 := in_u i117 | (have a8 := i117; unfold In at a8)); have a9 := t_add e89 j5_3 (in_c (-1) rfl) rfl; (first | have a10 := in_u ((in_c (-1) rfl)) | (have a10 := (in_c (-1) rfl); unfold In at a10)); (first | have a11 := in_u i111 | (have a11 := i111; unfold In at a11)); have a12 := t_sub e110 i89 (in_c 1 rfl) rfl; (first | have a13 := in_u i118x1 | (have a13 := i118x1; unfold In at a13)); have a14 := t_sub e103 i24 (in_c 1000100 rfl) rfl; (first | have a15 := in_u ((in_c 1000100 rfl)) | (have a15 := (in_c 1000100 rfl); unfold In at a15)); (first | have a16 := in_u i121 | (have a16 := i121; unfold In at a16)); have a17 := t_sub e98 i89 (in_c 1 rfl) rfl; omega
                  have n5a : CS (sL sc5 105 z98.toNatClampNeg z118x53) x1 z122 z89 := by first | exact hk2 _ _ (by (first | have a0 := in_u i8a | (have a0 := i8a; unfold In at a0)); (first | have a1 := in_u h1 | (have a1 := h1; unfold In at a1)); (first | have a2 := in_u i8 | (have a2 := i8; unfold In at a2)); (first | have a3 := in_u j5_3 | (have a3 := j5_3; unfold In at a3)); (first | have a4 := in_u i24 | (have a4 := i24; unfold In at a4)); (first | have a5 := in_u i122 | (have a5 := i122; unfold In at a5)); have a6 := t_add e122 i8 (in_c 1 rfl) rfl; (first | have a7 := in_u ((in_c 1 rfl)) | (have a7 := (in_c 1 rfl); unfold In at a7)); (first | have a8 := in_u i117 | (have a8 := i117; unfold In at a8)); have a9 := t_add e89 j5_3 (in_c (-1) rfl) rfl; (first | have a10 := in_u ((in_c (-1) rfl)) | (have a10 := (in_c (-1) rfl); unfold In at a10)); (first | have a11 := in_u i111 | (have a11 := i111; unfold In at a11)); have a12 := t_sub e110 i89 (in_c 1 rfl) rfl; (first | have a13 := in_u i118x1 | (have a13 := i118x1; unfold In at a13)); have a14 := t_sub e103 i24 (in_c 1000100 rfl) rfl; (first | have a15 := in_u ((in_c 1000100 rfl)) | (have a15 := (in_c 1000100 rfl); unfold In at a15)); (first | have a16 := in_u i121 | (have a16 := i121; unfold In at a16)); have a17 := t_sub e98 i89 (in_c 1 rfl) rfl; omega) (by (first | have a0 := in_u i8a | (have a0 := i8a; unfold In at a0)); (first | have a1 := in_u h1 | (have a1 := h1; unfold In at a1)); (first | have a2 := in_u i8 | (have a2 := i8; unfold In at a2)); (first | have a3 := in_u j5_3 | (have a3 := j5_3; unfold In at a3)); (first | have a4 := in_u i24 | (have a4 := i24; unfold In at a4)); (first | have a5 := in_u i122 | (have a5 := i122; unfold In at a5)); have a6 := t_add e122 i8 (in_c 1 rfl) rfl; (first | have a7 := in_u ((in_c 1 rfl)) | (have a7 := (in_c 1 rfl); unfold In at a7)); (first | have a8 := in_u i117 | (have a8 := i117; unfold In at a8)); have a9 := t_add e89 j5_3 (in_c (-1) rfl) rfl; (first | have a10 := in_u ((in_c (-1) rfl)) | (have a10 := (in_c (-1) rfl); unfold In at a10)); (first | have a11 := in_u i111 | (have a11 := i111; unfold In at a11)); have a12 := t_sub e110 i89 (in_c 1 rfl) rfl; (first | have a13 := in_u i118x1 | (have a13 := i118x1; unfold In at a13)); have a14 := t_sub e103 i24 (in_c 1000100 rfl) rfl; (first | have a15 := in_u ((in_c 1000100 rfl)) | (have a15 := (in_c 1000100 rfl); unfold In at a15)); (first | have a16 := in_u i121 | (have a16 := i121; unfold In at a16)); have a17 := t_sub e98 i89 (in_c 1 rfl) rfl; omega) | exact cs_0 rfl h1.1
                  exact gg_w (by first | exact Nat.le_add_right _ _ | exact gw2 | exact gw3 | exact gwe rfl | exact gwf rfl | exact gwg rfl | exact gwh rfl | omega) (gg_f (gf_cons rfl (gf_cons rfl (gf_cons rfl (gf_cons rfl (gf_cons rfl gf_nil))))) (ih5 (sL sc5 105 z98.toNatClampNeg z118x53) z89 z122 hI121 (fr_sL rfl hFc5) (in_w 0 120 i117 rfl) (in_w 0 120 i122 rfl) n5 n5a (m_up mm5 (t_add e122 i8 (in_c 1 rfl) rfl) (in_w 1 1 (in_c 1 rfl) rfl))))
                · skip
                  have i118x54x10x3 := z_ge 0 1 c118x54x10x3 i118x54x10x2 rfl
                  have c118x54x10x3a := lc_ge e118x54x10x2 c118x54x10x3
                  have i118x54x10x3a := lr_le1 (-9223372036854775808) (-1000000000000) c118x54x10x3a i118x54x7x3a (l_c (-1000000000000) rfl) rfl
                  refine g_lload_n 7 (gd rfl) rfl rfl ?_
                  refine g_goto 11 (gd rfl) rfl ?_
                  refine g_lreturn (gd rfl) rfl (hp118x54x10 _ _ ?_)
                  show GG _ _ _ _ _ _ _ _ [.long (Int64.ofInt (-1000000000000))] _ _ _
                  refine g_lreturn (gd rfl) rfl (hp118x54 _ _ ?_)
                  show GG _ _ _ _ _ _ _ _ [.long (Int64.ofInt (-1000000000000))] _ _ _
                  refine g_lreturn (gd rfl) rfl (hp118 _ _ ?_)
                  show GG _ _ _ _ _ _ _ _ [.long (Int64.ofInt (-1000000000000)), .int z98, .ref (A 105)] _ _ _
                  have i121 : In z98 0 119 := by (first | have a0 := in_u i8a | (have a0 := i8a; unfold In at a0)); (first | have a1 := in_u h1 | (have a1 := h1; unfold In at a1)); (first | have a2 := in_u i8 | (have a2 := i8; unfold In at a2)); (first | have a3 := in_u j5_3 | (have a3 := j5_3; unfold In at a3)); (first | have a4 := in_u i24 | (have a4 := i24; unfold In at a4)); (first | have a5 := in_u i117 | (have a5 := i117; unfold In at a5)); have a6 := t_add e89 j5_3 (in_c (-1) rfl) rfl; (first | have a7 := in_u ((in_c (-1) rfl)) | (have a7 := (in_c (-1) rfl); unfold In at a7)); (first | have a8 := in_u i111 | (have a8 := i111; unfold In at a8)); have a9 := t_sub e110 i89 (in_c 1 rfl) rfl; (first | have a10 := in_u ((in_c 1 rfl)) | (have a10 := (in_c 1 rfl); unfold In at a10)); (first | have a11 := in_u i118x1 | (have a11 := i118x1; unfold In at a11)); have a12 := t_sub e103 i24 (in_c 1000100 rfl) rfl; (first | have a13 := in_u ((in_c 1000100 rfl)) | (have a13 := (in_c 1000100 rfl); unfold In at a13)); (first | have a14 := in_u i98 | (have a14 := i98; unfold In at a14)); have a15 := t_sub e98 i89 (in_c 1 rfl) rfl; exact ⟨by omega, by omega⟩
                  refine g_lastore 122 (gd rfl) rfl (n := 120) rfl (in_ix i121 rfl) ?_
                  have hI121 := inv_sL (q := 105) (j := z98.toNatClampNeg) (x := (Int64.ofInt (-1000000000000))) hIc5 rfl (l_rng (Int64.ofInt (-1000000000000)))
                  refine g_iinc 125 (gd rfl) rfl rfl (Nat.le_of_ble_eq_true rfl) (fun z122 e122 => ?_)
                  have i122 := in_add 1 120 e122 i8 (in_c 1 rfl) rfl rfl
                  refine g_goto 5 (gd rfl) rfl ?_
                  have n5 : (z89).toInt ≤ (z122).toInt := by (first | have a0 := in_u i8a | (have a0 := i8a; unfold In at a0)); (first | have a1 := in_u h1 | (have a1 := h1; unfold In at a1)); (first | have a2 := in_u i8 | (have a2 := i8; unfold In at a2)); (first | have a3 := in_u j5_3 | (have a3 := j5_3; unfold In at a3)); (first | have a4 := in_u i24 | (have a4 := i24; unfold In at a4)); (first | have a5 := in_u i122 | (have a5 := i122; unfold In at a5)); have a6 := t_add e122 i8 (in_c 1 rfl) rfl; (first | have a7 := in_u ((in_c 1 rfl)) | (have a7 := (in_c 1 rfl); unfold In at a7)); (first | have a8 := in_u i117 | (have a8 := i117; unfold In at a8)); have a9 := t_add e89 j5_3 (in_c (-1) rfl) rfl; (first | have a10 := in_u ((in_c (-1) rfl)) | (have a10 := (in_c (-1) rfl); unfold In at a10)); (first | have a11 := in_u i111 | (have a11 := i111; unfold In at a11)); have a12 := t_sub e110 i89 (in_c 1 rfl) rfl; (first | have a13 := in_u i118x1 | (have a13 := i118x1; unfold In at a13)); have a14 := t_sub e103 i24 (in_c 1000100 rfl) rfl; (first | have a15 := in_u ((in_c 1000100 rfl)) | (have a15 := (in_c 1000100 rfl); unfold In at a15)); (first | have a16 := in_u i121 | (have a16 := i121; unfold In at a16)); have a17 := t_sub e98 i89 (in_c 1 rfl) rfl; omega
                  have n5a : CS (sL sc5 105 z98.toNatClampNeg (Int64.ofInt (-1000000000000))) x1 z122 z89 := by first | exact hk2 _ _ (by (first | have a0 := in_u i8a | (have a0 := i8a; unfold In at a0)); (first | have a1 := in_u h1 | (have a1 := h1; unfold In at a1)); (first | have a2 := in_u i8 | (have a2 := i8; unfold In at a2)); (first | have a3 := in_u j5_3 | (have a3 := j5_3; unfold In at a3)); (first | have a4 := in_u i24 | (have a4 := i24; unfold In at a4)); (first | have a5 := in_u i122 | (have a5 := i122; unfold In at a5)); have a6 := t_add e122 i8 (in_c 1 rfl) rfl; (first | have a7 := in_u ((in_c 1 rfl)) | (have a7 := (in_c 1 rfl); unfold In at a7)); (first | have a8 := in_u i117 | (have a8 := i117; unfold In at a8)); have a9 := t_add e89 j5_3 (in_c (-1) rfl) rfl; (first | have a10 := in_u ((in_c (-1) rfl)) | (have a10 := (in_c (-1) rfl); unfold In at a10)); (first | have a11 := in_u i111 | (have a11 := i111; unfold In at a11)); have a12 := t_sub e110 i89 (in_c 1 rfl) rfl; (first | have a13 := in_u i118x1 | (have a13 := i118x1; unfold In at a13)); have a14 := t_sub e103 i24 (in_c 1000100 rfl) rfl; (first | have a15 := in_u ((in_c 1000100 rfl)) | (have a15 := (in_c 1000100 rfl); unfold In at a15)); (first | have a16 := in_u i121 | (have a16 := i121; unfold In at a16)); have a17 := t_sub e98 i89 (in_c 1 rfl) rfl; omega) (by (first | have a0 := in_u i8a | (have a0 := i8a; unfold In at a0)); (first | have a1 := in_u h1 | (have a1 := h1; unfold In at a1)); (first | have a2 := in_u i8 | (have a2 := i8; unfold In at a2)); (first | have a3 := in_u j5_3 | (have a3 := j5_3; unfold In at a3)); (first | have a4 := in_u i24 | (have a4 := i24; unfold In at a4)); (first | have a5 := in_u i122 | (have a5 := i122; unfold In at a5)); have a6 := t_add e122 i8 (in_c 1 rfl) rfl; (first | have a7 := in_u ((in_c 1 rfl)) | (have a7 := (in_c 1 rfl); unfold In at a7)); (first | have a8 := in_u i117 | (have a8 := i117; unfold In at a8)); have a9 := t_add e89 j5_3 (in_c (-1) rfl) rfl; (first | have a10 := in_u ((in_c (-1) rfl)) | (have a10 := (in_c (-1) rfl); unfold In at a10)); (first | have a11 := in_u i111 | (have a11 := i111; unfold In at a11)); have a12 := t_sub e110 i89 (in_c 1 rfl) rfl; (first | have a13 := in_u i118x1 | (have a13 := i118x1; unfold In at a13)); have a14 := t_sub e103 i24 (in_c 1000100 rfl) rfl; (first | have a15 := in_u ((in_c 1000100 rfl)) | (have a15 := (in_c 1000100 rfl); unfold In at a15)); (first | have a16 := in_u i121 | (have a16 := i121; unfold In at a16)); have a17 := t_sub e98 i89 (in_c 1 rfl) rfl; omega) | exact cs_0 rfl h1.1
                  exact gg_w (by first | exact Nat.le_add_right _ _ | exact gw2 | exact gw3 | exact gwe rfl | exact gwf rfl | exact gwg rfl | exact gwh rfl | omega) (gg_f (gf_cons rfl (gf_cons rfl (gf_cons rfl (gf_cons rfl (gf_cons rfl gf_nil))))) (ih5 (sL sc5 105 z98.toNatClampNeg (Int64.ofInt (-1000000000000))) z89 z122 hI121 (fr_sL rfl hFc5) (in_w 0 120 i117 rfl) (in_w 0 120 i122 rfl) n5 n5a (m_up mm5 (t_add e122 i8 (in_c 1 rfl) rfl) (in_w 1 1 (in_c 1 rfl) rfl))))
              · skip
                have i118x54x7x3 := z_le (-1) 0 c118x54x7x3 i118x54x7x2 rfl
                have c118x54x7x3a := lc_le e118x54x7x2 c118x54x7x3
                have i118x54x7x3a := lr_le2 1000000000000 9223372036854775807 c118x54x7x3a (l_c 1000000000000 rfl) (l_rng z118x53) rfl
                refine g_lload_n 7 (gd rfl) rfl rfl ?_
                refine g_goto 11 (gd rfl) rfl ?_
                refine g_lreturn (gd rfl) rfl (hp118x54x7 _ _ ?_)
                show GG _ _ _ _ _ _ _ _ [.long (Int64.ofInt 1000000000000), .long (Int64.ofInt (-1000000000000))] _ _ _
                refine g_calls (As := [.long (Int64.ofInt (-1000000000000)), .long (Int64.ofInt 1000000000000)]) (r := []) 13 (gd rfl) rfl rfl rfl rfl rfl (Nat.le_of_ble_eq_true rfl) (mc := 0) (ms := 0) (Nat.zero_le _) (Nat.zero_le _) (P := fun v u => _) ?_ (fun v u h => h)
                intro po118x54x10 xx118x54x10 hp118x54x10 hx118x54x10
                refine g_enter2 (k := 423) (N := 300) (by first | exact dq1 hd rfl | exact dq0 hd rfl | exact dq2 hd rfl | exact dq3 hd rfl | omega) rfl (Nat.le_of_ble_eq_true rfl) ?_
                refine g_lload_n 1 (gd rfl) rfl rfl ?_
                refine g_lload_n 2 (gd rfl) rfl rfl ?_
                refine g_lcmp 3 (gd rfl) rfl (fun z118x54x10x2 e118x54x10x2 => ?_)
                have i118x54x10x2 := lc_in e118x54x10x2
                refine g_if_lt 6 10 (gd rfl) rfl rfl (fun c118x54x10x3 => ?_) (fun c118x54x10x3 => ?_)
                · skip
                  have i118x54x10x3 := z_lt (-1) (-1) c118x54x10x3 i118x54x10x2 rfl
                  have c118x54x10x3a := lc_lt e118x54x10x2 c118x54x10x3
                  refine g_lload_n 11 (gd rfl) rfl rfl ?_
                  refine g_lreturn (gd rfl) rfl (hp118x54x10 _ _ ?_)
                  show GG _ _ _ _ _ _ _ _ [.long (Int64.ofInt 1000000000000)] _ _ _
                  refine g_lreturn (gd rfl) rfl (hp118x54 _ _ ?_)
                  show GG _ _ _ _ _ _ _ _ [.long (Int64.ofInt 1000000000000)] _ _ _
                  refine g_lreturn (gd rfl) rfl (hp118 _ _ ?_)
                  show GG _ _ _ _ _ _ _ _ [.long (Int64.ofInt 1000000000000), .int z98, .ref (A 105)] _ _ _
                  have i121 : In z98 0 119 := by (first | have a0 := in_u i8a | (have a0 := i8a; unfold In at a0)); (first | have a1 := in_u h1 | (have a1 := h1; unfold In at a1)); (first | have a2 := in_u i8 | (have a2 := i8; unfold In at a2)); (first | have a3 := in_u j5_3 | (have a3 := j5_3; unfold In at a3)); (first | have a4 := in_u i24 | (have a4 := i24; unfold In at a4)); (first | have a5 := in_u i117 | (have a5 := i117; unfold In at a5)); have a6 := t_add e89 j5_3 (in_c (-1) rfl) rfl; (first | have a7 := in_u ((in_c (-1) rfl)) | (have a7 := (in_c (-1) rfl); unfold In at a7)); (first | have a8 := in_u i111 | (have a8 := i111; unfold In at a8)); have a9 := t_sub e110 i89 (in_c 1 rfl) rfl; (first | have a10 := in_u ((in_c 1 rfl)) | (have a10 := (in_c 1 rfl); unfold In at a10)); (first | have a11 := in_u i118x1 | (have a11 := i118x1; unfold In at a11)); have a12 := t_sub e103 i24 (in_c 1000100 rfl) rfl; (first | have a13 := in_u ((in_c 1000100 rfl)) | (have a13 := (in_c 1000100 rfl); unfold In at a13)); (first | have a14 := in_u i98 | (have a14 := i98; unfold In at a14)); have a15 := t_sub e98 i89 (in_c 1 rfl) rfl; exact ⟨by omega, by omega⟩
                  refine g_lastore 122 (gd rfl) rfl (n := 120) rfl (in_ix i121 rfl) ?_
                  have hI121 := inv_sL (q := 105) (j := z98.toNatClampNeg) (x := (Int64.ofInt 1000000000000)) hIc5 rfl (l_rng (Int64.ofInt 1000000000000))
                  refine g_iinc 125 (gd rfl) rfl rfl (Nat.le_of_ble_eq_true rfl) (fun z122 e122 => ?_)
                  have i122 := in_add 1 120 e122 i8 (in_c 1 rfl) rfl rfl
                  refine g_goto 5 (gd rfl) rfl ?_
                  have n5 : (z89).toInt ≤ (z122).toInt := by (first | have a0 := in_u i8a | (have a0 := i8a; unfold In at a0)); (first | have a1 := in_u h1 | (have a1 := h1; unfold In at a1)); (first | have a2 := in_u i8 | (have a2 := i8; unfold In at a2)); (first | have a3 := in_u j5_3 | (have a3 := j5_3; unfold In at a3)); (first | have a4 := in_u i24 | (have a4 := i24; unfold In at a4)); (first | have a5 := in_u i122 | (have a5 := i122; unfold In at a5)); have a6 := t_add e122 i8 (in_c 1 rfl) rfl; (first | have a7 := in_u ((in_c 1 rfl)) | (have a7 := (in_c 1 rfl); unfold In at a7)); (first | have a8 := in_u i117 | (have a8 := i117; unfold In at a8)); have a9 := t_add e89 j5_3 (in_c (-1) rfl) rfl; (first | have a10 := in_u ((in_c (-1) rfl)) | (have a10 := (in_c (-1) rfl); unfold In at a10)); (first | have a11 := in_u i111 | (have a11 := i111; unfold In at a11)); have a12 := t_sub e110 i89 (in_c 1 rfl) rfl; (first | have a13 := in_u i118x1 | (have a13 := i118x1; unfold In at a13)); have a14 := t_sub e103 i24 (in_c 1000100 rfl) rfl; (first | have a15 := in_u ((in_c 1000100 rfl)) | (have a15 := (in_c 1000100 rfl); unfold In at a15)); (first | have a16 := in_u i121 | (have a16 := i121; unfold In at a16)); have a17 := t_sub e98 i89 (in_c 1 rfl) rfl; omega
                  have n5a : CS (sL sc5 105 z98.toNatClampNeg (Int64.ofInt 1000000000000)) x1 z122 z89 := by first | exact hk2 _ _ (by (first | have a0 := in_u i8a | (have a0 := i8a; unfold In at a0)); (first | have a1 := in_u h1 | (have a1 := h1; unfold In at a1)); (first | have a2 := in_u i8 | (have a2 := i8; unfold In at a2)); (first | have a3 := in_u j5_3 | (have a3 := j5_3; unfold In at a3)); (first | have a4 := in_u i24 | (have a4 := i24; unfold In at a4)); (first | have a5 := in_u i122 | (have a5 := i122; unfold In at a5)); have a6 := t_add e122 i8 (in_c 1 rfl) rfl; (first | have a7 := in_u ((in_c 1 rfl)) | (have a7 := (in_c 1 rfl); unfold In at a7)); (first | have a8 := in_u i117 | (have a8 := i117; unfold In at a8)); have a9 := t_add e89 j5_3 (in_c (-1) rfl) rfl; (first | have a10 := in_u ((in_c (-1) rfl)) | (have a10 := (in_c (-1) rfl); unfold In at a10)); (first | have a11 := in_u i111 | (have a11 := i111; unfold In at a11)); have a12 := t_sub e110 i89 (in_c 1 rfl) rfl; (first | have a13 := in_u i118x1 | (have a13 := i118x1; unfold In at a13)); have a14 := t_sub e103 i24 (in_c 1000100 rfl) rfl; (first | have a15 := in_u ((in_c 1000100 rfl)) | (have a15 := (in_c 1000100 rfl); unfold In at a15)); (first | have a16 := in_u i121 | (have a16 := i121; unfold In at a16)); have a17 := t_sub e98 i89 (in_c 1 rfl) rfl; omega) (by (first | have a0 := in_u i8a | (have a0 := i8a; unfold In at a0)); (first | have a1 := in_u h1 | (have a1 := h1; unfold In at a1)); (first | have a2 := in_u i8 | (have a2 := i8; unfold In at a2)); (first | have a3 := in_u j5_3 | (have a3 := j5_3; unfold In at a3)); (first | have a4 := in_u i24 | (have a4 := i24; unfold In at a4)); (first | have a5 := in_u i122 | (have a5 := i122; unfold In at a5)); have a6 := t_add e122 i8 (in_c 1 rfl) rfl; (first | have a7 := in_u ((in_c 1 rfl)) | (have a7 := (in_c 1 rfl); unfold In at a7)); (first | have a8 := in_u i117 | (have a8 := i117; unfold In at a8)); have a9 := t_add e89 j5_3 (in_c (-1) rfl) rfl; (first | have a10 := in_u ((in_c (-1) rfl)) | (have a10 := (in_c (-1) rfl); unfold In at a10)); (first | have a11 := in_u i111 | (have a11 := i111; unfold In at a11)); have a12 := t_sub e110 i89 (in_c 1 rfl) rfl; (first | have a13 := in_u i118x1 | (have a13 := i118x1; unfold In at a13)); have a14 := t_sub e103 i24 (in_c 1000100 rfl) rfl; (first | have a15 := in_u ((in_c 1000100 rfl)) | (have a15 := (in_c 1000100 rfl); unfold In at a15)); (first | have a16 := in_u i121 | (have a16 := i121; unfold In at a16)); have a17 := t_sub e98 i89 (in_c 1 rfl) rfl; omega) | exact cs_0 rfl h1.1
                  exact gg_w (by first | exact Nat.le_add_right _ _ | exact gw2 | exact gw3 | exact gwe rfl | exact gwf rfl | exact gwg rfl | exact gwh rfl | omega) (gg_f (gf_cons rfl (gf_cons rfl (gf_cons rfl (gf_cons rfl (gf_cons rfl gf_nil))))) (ih5 (sL sc5 105 z98.toNatClampNeg (Int64.ofInt 1000000000000)) z89 z122 hI121 (fr_sL rfl hFc5) (in_w 0 120 i117 rfl) (in_w 0 120 i122 rfl) n5 n5a (m_up mm5 (t_add e122 i8 (in_c 1 rfl) rfl) (in_w 1 1 (in_c 1 rfl) rfl))))
                · skip
                  have i118x54x10x3 := z_ge 0 1 c118x54x10x3 i118x54x10x2 rfl
                  have c118x54x10x3a := lc_ge e118x54x10x2 c118x54x10x3
                  exact ln_le c118x54x10x3a (l_c 1000000000000 rfl) (l_c (-1000000000000) rfl) rfl
            · skip
              have i118x1 := sw_eq c118x1
              refine g_lload_n 65 (gd rfl) rfl rfl ?_
              refine g_lload_n 66 (gd rfl) rfl rfl ?_
              refine g_lcmp 67 (gd rfl) rfl (fun z118x66 e118x66 => ?_)
              have i118x66 := lc_in e118x66
              refine g_if_ge 70 74 (gd rfl) rfl rfl (fun c118x67 => ?_) (fun c118x67 => ?_)
              · skip
                have i118x67 := z_ge 0 1 c118x67 i118x66 rfl
                have c118x67a := lc_ge e118x66 c118x67
                refine g_lconst 0 75 (gd rfl) rfl rfl ?_
                refine g_lreturn (gd rfl) rfl (hp118 _ _ ?_)
                show GG _ _ _ _ _ _ _ _ [.long (Int64.ofInt 0), .int z98, .ref (A 105)] _ _ _
                have i121 : In z98 0 119 := by (first | have a0 := in_u i8a | (have a0 := i8a; unfold In at a0)); (first | have a1 := in_u h1 | (have a1 := h1; unfold In at a1)); (first | have a2 := in_u i8 | (have a2 := i8; unfold In at a2)); (first | have a3 := in_u j5_3 | (have a3 := j5_3; unfold In at a3)); (first | have a4 := in_u i24 | (have a4 := i24; unfold In at a4)); (first | have a5 := in_u i117 | (have a5 := i117; unfold In at a5)); have a6 := t_add e89 j5_3 (in_c (-1) rfl) rfl; (first | have a7 := in_u ((in_c (-1) rfl)) | (have a7 := (in_c (-1) rfl); unfold In at a7)); (first | have a8 := in_u i111 | (have a8 := i111; unfold In at a8)); have a9 := t_sub e110 i89 (in_c 1 rfl) rfl; (first | have a10 := in_u ((in_c 1 rfl)) | (have a10 := (in_c 1 rfl); unfold In at a10)); (first | have a11 := in_u i118x1 | (have a11 := i118x1; unfold In at a11)); have a12 := t_sub e103 i24 (in_c 1000100 rfl) rfl; (first | have a13 := in_u ((in_c 1000100 rfl)) | (have a13 := (in_c 1000100 rfl); unfold In at a13)); (first | have a14 := in_u i98 | (have a14 := i98; unfold In at a14)); have a15 := t_sub e98 i89 (in_c 1 rfl) rfl; exact ⟨by omega, by omega⟩
                refine g_lastore 122 (gd rfl) rfl (n := 120) rfl (in_ix i121 rfl) ?_
                have hI121 := inv_sL (q := 105) (j := z98.toNatClampNeg) (x := (Int64.ofInt 0)) hIc5 rfl (l_rng (Int64.ofInt 0))
                refine g_iinc 125 (gd rfl) rfl rfl (Nat.le_of_ble_eq_true rfl) (fun z122 e122 => ?_)
                have i122 := in_add 1 120 e122 i8 (in_c 1 rfl) rfl rfl
                refine g_goto 5 (gd rfl) rfl ?_
                have n5 : (z89).toInt ≤ (z122).toInt := by (first | have a0 := in_u i8a | (have a0 := i8a; unfold In at a0)); (first | have a1 := in_u h1 | (have a1 := h1; unfold In at a1)); (first | have a2 := in_u i8 | (have a2 := i8; unfold In at a2)); (first | have a3 := in_u j5_3 | (have a3 := j5_3; unfold In at a3)); (first | have a4 := in_u i24 | (have a4 := i24; unfold In at a4)); (first | have a5 := in_u i122 | (have a5 := i122; unfold In at a5)); have a6 := t_add e122 i8 (in_c 1 rfl) rfl; (first | have a7 := in_u ((in_c 1 rfl)) | (have a7 := (in_c 1 rfl); unfold In at a7)); (first | have a8 := in_u i117 | (have a8 := i117; unfold In at a8)); have a9 := t_add e89 j5_3 (in_c (-1) rfl) rfl; (first | have a10 := in_u ((in_c (-1) rfl)) | (have a10 := (in_c (-1) rfl); unfold In at a10)); (first | have a11 := in_u i111 | (have a11 := i111; unfold In at a11)); have a12 := t_sub e110 i89 (in_c 1 rfl) rfl; (first | have a13 := in_u i118x1 | (have a13 := i118x1; unfold In at a13)); have a14 := t_sub e103 i24 (in_c 1000100 rfl) rfl; (first | have a15 := in_u ((in_c 1000100 rfl)) | (have a15 := (in_c 1000100 rfl); unfold In at a15)); (first | have a16 := in_u i121 | (have a16 := i121; unfold In at a16)); have a17 := t_sub e98 i89 (in_c 1 rfl) rfl; omega
                have n5a : CS (sL sc5 105 z98.toNatClampNeg (Int64.ofInt 0)) x1 z122 z89 := by first | exact hk2 _ _ (by (first | have a0 := in_u i8a | (have a0 := i8a; unfold In at a0)); (first | have a1 := in_u h1 | (have a1 := h1; unfold In at a1)); (first | have a2 := in_u i8 | (have a2 := i8; unfold In at a2)); (first | have a3 := in_u j5_3 | (have a3 := j5_3; unfold In at a3)); (first | have a4 := in_u i24 | (have a4 := i24; unfold In at a4)); (first | have a5 := in_u i122 | (have a5 := i122; unfold In at a5)); have a6 := t_add e122 i8 (in_c 1 rfl) rfl; (first | have a7 := in_u ((in_c 1 rfl)) | (have a7 := (in_c 1 rfl); unfold In at a7)); (first | have a8 := in_u i117 | (have a8 := i117; unfold In at a8)); have a9 := t_add e89 j5_3 (in_c (-1) rfl) rfl; (first | have a10 := in_u ((in_c (-1) rfl)) | (have a10 := (in_c (-1) rfl); unfold In at a10)); (first | have a11 := in_u i111 | (have a11 := i111; unfold In at a11)); have a12 := t_sub e110 i89 (in_c 1 rfl) rfl; (first | have a13 := in_u i118x1 | (have a13 := i118x1; unfold In at a13)); have a14 := t_sub e103 i24 (in_c 1000100 rfl) rfl; (first | have a15 := in_u ((in_c 1000100 rfl)) | (have a15 := (in_c 1000100 rfl); unfold In at a15)); (first | have a16 := in_u i121 | (have a16 := i121; unfold In at a16)); have a17 := t_sub e98 i89 (in_c 1 rfl) rfl; omega) (by (first | have a0 := in_u i8a | (have a0 := i8a; unfold In at a0)); (first | have a1 := in_u h1 | (have a1 := h1; unfold In at a1)); (first | have a2 := in_u i8 | (have a2 := i8; unfold In at a2)); (first | have a3 := in_u j5_3 | (have a3 := j5_3; unfold In at a3)); (first | have a4 := in_u i24 | (have a4 := i24; unfold In at a4)); (first | have a5 := in_u i122 | (have a5 := i122; unfold In at a5)); have a6 := t_add e122 i8 (in_c 1 rfl) rfl; (first | have a7 := in_u ((in_c 1 rfl)) | (have a7 := (in_c 1 rfl); unfold In at a7)); (first | have a8 := in_u i117 | (have a8 := i117; unfold In at a8)); have a9 := t_add e89 j5_3 (in_c (-1) rfl) rfl; (first | have a10 := in_u ((in_c (-1) rfl)) | (have a10 := (in_c (-1) rfl); unfold In at a10)); (first | have a11 := in_u i111 | (have a11 := i111; unfold In at a11)); have a12 := t_sub e110 i89 (in_c 1 rfl) rfl; (first | have a13 := in_u i118x1 | (have a13 := i118x1; unfold In at a13)); have a14 := t_sub e103 i24 (in_c 1000100 rfl) rfl; (first | have a15 := in_u ((in_c 1000100 rfl)) | (have a15 := (in_c 1000100 rfl); unfold In at a15)); (first | have a16 := in_u i121 | (have a16 := i121; unfold In at a16)); have a17 := t_sub e98 i89 (in_c 1 rfl) rfl; omega) | exact cs_0 rfl h1.1
                exact gg_w (by first | exact Nat.le_add_right _ _ | exact gw2 | exact gw3 | exact gwe rfl | exact gwf rfl | exact gwg rfl | exact gwh rfl | omega) (gg_f (gf_cons rfl (gf_cons rfl (gf_cons rfl (gf_cons rfl (gf_cons rfl gf_nil))))) (ih5 (sL sc5 105 z98.toNatClampNeg (Int64.ofInt 0)) z89 z122 hI121 (fr_sL rfl hFc5) (in_w 0 120 i117 rfl) (in_w 0 120 i122 rfl) n5 n5a (m_up mm5 (t_add e122 i8 (in_c 1 rfl) rfl) (in_w 1 1 (in_c 1 rfl) rfl))))
              · skip
                have i118x67 := z_lt (-1) (-1) c118x67 i118x66 rfl
                have c118x67a := lc_lt e118x66 c118x67
                have i118x67a := lr_lt1 (-9223372036854775808) 9223372036854775806 c118x67a (l_rng z111) (l_rng z117) rfl
                have i118x67b := lr_lt2 (-9223372036854775807) 9223372036854775807 c118x67a (l_rng z111) (l_rng z117) rfl
                refine g_lconst 1 71 (gd rfl) rfl rfl ?_
                refine g_goto 75 (gd rfl) rfl ?_
                refine g_lreturn (gd rfl) rfl (hp118 _ _ ?_)
                show GG _ _ _ _ _ _ _ _ [.long (Int64.ofInt 1), .int z98, .ref (A 105)] _ _ _
                have i121 : In z98 0 119 := by (first | have a0 := in_u i8a | (have a0 := i8a; unfold In at a0)); (first | have a1 := in_u h1 | (have a1 := h1; unfold In at a1)); (first | have a2 := in_u i8 | (have a2 := i8; unfold In at a2)); (first | have a3 := in_u j5_3 | (have a3 := j5_3; unfold In at a3)); (first | have a4 := in_u i24 | (have a4 := i24; unfold In at a4)); (first | have a5 := in_u i117 | (have a5 := i117; unfold In at a5)); have a6 := t_add e89 j5_3 (in_c (-1) rfl) rfl; (first | have a7 := in_u ((in_c (-1) rfl)) | (have a7 := (in_c (-1) rfl); unfold In at a7)); (first | have a8 := in_u i111 | (have a8 := i111; unfold In at a8)); have a9 := t_sub e110 i89 (in_c 1 rfl) rfl; (first | have a10 := in_u ((in_c 1 rfl)) | (have a10 := (in_c 1 rfl); unfold In at a10)); (first | have a11 := in_u i118x1 | (have a11 := i118x1; unfold In at a11)); have a12 := t_sub e103 i24 (in_c 1000100 rfl) rfl; (first | have a13 := in_u ((in_c 1000100 rfl)) | (have a13 := (in_c 1000100 rfl); unfold In at a13)); (first | have a14 := in_u i98 | (have a14 := i98; unfold In at a14)); have a15 := t_sub e98 i89 (in_c 1 rfl) rfl; exact ⟨by omega, by omega⟩
                refine g_lastore 122 (gd rfl) rfl (n := 120) rfl (in_ix i121 rfl) ?_
                have hI121 := inv_sL (q := 105) (j := z98.toNatClampNeg) (x := (Int64.ofInt 1)) hIc5 rfl (l_rng (Int64.ofInt 1))
                refine g_iinc 125 (gd rfl) rfl rfl (Nat.le_of_ble_eq_true rfl) (fun z122 e122 => ?_)
                have i122 := in_add 1 120 e122 i8 (in_c 1 rfl) rfl rfl
                refine g_goto 5 (gd rfl) rfl ?_
                have n5 : (z89).toInt ≤ (z122).toInt := by (first | have a0 := in_u i8a | (have a0 := i8a; unfold In at a0)); (first | have a1 := in_u h1 | (have a1 := h1; unfold In at a1)); (first | have a2 := in_u i8 | (have a2 := i8; unfold In at a2)); (first | have a3 := in_u j5_3 | (have a3 := j5_3; unfold In at a3)); (first | have a4 := in_u i24 | (have a4 := i24; unfold In at a4)); (first | have a5 := in_u i122 | (have a5 := i122; unfold In at a5)); have a6 := t_add e122 i8 (in_c 1 rfl) rfl; (first | have a7 := in_u ((in_c 1 rfl)) | (have a7 := (in_c 1 rfl); unfold In at a7)); (first | have a8 := in_u i117 | (have a8 := i117; unfold In at a8)); have a9 := t_add e89 j5_3 (in_c (-1) rfl) rfl; (first | have a10 := in_u ((in_c (-1) rfl)) | (have a10 := (in_c (-1) rfl); unfold In at a10)); (first | have a11 := in_u i111 | (have a11 := i111; unfold In at a11)); have a12 := t_sub e110 i89 (in_c 1 rfl) rfl; (first | have a13 := in_u i118x1 | (have a13 := i118x1; unfold In at a13)); have a14 := t_sub e103 i24 (in_c 1000100 rfl) rfl; (first | have a15 := in_u ((in_c 1000100 rfl)) | (have a15 := (in_c 1000100 rfl); unfold In at a15)); (first | have a16 := in_u i121 | (have a16 := i121; unfold In at a16)); have a17 := t_sub e98 i89 (in_c 1 rfl) rfl; omega
                have n5a : CS (sL sc5 105 z98.toNatClampNeg (Int64.ofInt 1)) x1 z122 z89 := by first | exact hk2 _ _ (by (first | have a0 := in_u i8a | (have a0 := i8a; unfold In at a0)); (first | have a1 := in_u h1 | (have a1 := h1; unfold In at a1)); (first | have a2 := in_u i8 | (have a2 := i8; unfold In at a2)); (first | have a3 := in_u j5_3 | (have a3 := j5_3; unfold In at a3)); (first | have a4 := in_u i24 | (have a4 := i24; unfold In at a4)); (first | have a5 := in_u i122 | (have a5 := i122; unfold In at a5)); have a6 := t_add e122 i8 (in_c 1 rfl) rfl; (first | have a7 := in_u ((in_c 1 rfl)) | (have a7 := (in_c 1 rfl); unfold In at a7)); (first | have a8 := in_u i117 | (have a8 := i117; unfold In at a8)); have a9 := t_add e89 j5_3 (in_c (-1) rfl) rfl; (first | have a10 := in_u ((in_c (-1) rfl)) | (have a10 := (in_c (-1) rfl); unfold In at a10)); (first | have a11 := in_u i111 | (have a11 := i111; unfold In at a11)); have a12 := t_sub e110 i89 (in_c 1 rfl) rfl; (first | have a13 := in_u i118x1 | (have a13 := i118x1; unfold In at a13)); have a14 := t_sub e103 i24 (in_c 1000100 rfl) rfl; (first | have a15 := in_u ((in_c 1000100 rfl)) | (have a15 := (in_c 1000100 rfl); unfold In at a15)); (first | have a16 := in_u i121 | (have a16 := i121; unfold In at a16)); have a17 := t_sub e98 i89 (in_c 1 rfl) rfl; omega) (by (first | have a0 := in_u i8a | (have a0 := i8a; unfold In at a0)); (first | have a1 := in_u h1 | (have a1 := h1; unfold In at a1)); (first | have a2 := in_u i8 | (have a2 := i8; unfold In at a2)); (first | have a3 := in_u j5_3 | (have a3 := j5_3; unfold In at a3)); (first | have a4 := in_u i24 | (have a4 := i24; unfold In at a4)); (first | have a5 := in_u i122 | (have a5 := i122; unfold In at a5)); have a6 := t_add e122 i8 (in_c 1 rfl) rfl; (first | have a7 := in_u ((in_c 1 rfl)) | (have a7 := (in_c 1 rfl); unfold In at a7)); (first | have a8 := in_u i117 | (have a8 := i117; unfold In at a8)); have a9 := t_add e89 j5_3 (in_c (-1) rfl) rfl; (first | have a10 := in_u ((in_c (-1) rfl)) | (have a10 := (in_c (-1) rfl); unfold In at a10)); (first | have a11 := in_u i111 | (have a11 := i111; unfold In at a11)); have a12 := t_sub e110 i89 (in_c 1 rfl) rfl; (first | have a13 := in_u i118x1 | (have a13 := i118x1; unfold In at a13)); have a14 := t_sub e103 i24 (in_c 1000100 rfl) rfl; (first | have a15 := in_u ((in_c 1000100 rfl)) | (have a15 := (in_c 1000100 rfl); unfold In at a15)); (first | have a16 := in_u i121 | (have a16 := i121; unfold In at a16)); have a17 := t_sub e98 i89 (in_c 1 rfl) rfl; omega) | exact cs_0 rfl h1.1
                exact gg_w (by first | exact Nat.le_add_right _ _ | exact gw2 | exact gw3 | exact gwe rfl | exact gwf rfl | exact gwg rfl | exact gwh rfl | omega) (gg_f (gf_cons rfl (gf_cons rfl (gf_cons rfl (gf_cons rfl (gf_cons rfl gf_nil))))) (ih5 (sL sc5 105 z98.toNatClampNeg (Int64.ofInt 1)) z89 z122 hI121 (fr_sL rfl hFc5) (in_w 0 120 i117 rfl) (in_w 0 120 i122 rfl) n5 n5a (m_up mm5 (t_add e122 i8 (in_c 1 rfl) rfl) (in_w 1 1 (in_c 1 rfl) rfl))))
            · skip
              refine g_lload_n 77 (gd rfl) rfl rfl ?_
              refine g_lload_n 78 (gd rfl) rfl rfl ?_
              refine g_lcmp 79 (gd rfl) rfl (fun z118x78 e118x78 => ?_)
              have i118x78 := lc_in e118x78
              refine g_if_ne 82 86 (gd rfl) rfl rfl (fun c118x79 => ?_) (fun c118x79 => ?_)
              · skip
                have c118x79a := lc_ne e118x78 c118x79
                refine g_lconst 0 87 (gd rfl) rfl rfl ?_
                refine g_lreturn (gd rfl) rfl (hp118 _ _ ?_)
                show GG _ _ _ _ _ _ _ _ [.long (Int64.ofInt 0), .int z98, .ref (A 105)] _ _ _
                have i121 : In z98 0 119 := by (first | have a0 := in_u i8a | (have a0 := i8a; unfold In at a0)); (first | have a1 := in_u h1 | (have a1 := h1; unfold In at a1)); (first | have a2 := in_u i8 | (have a2 := i8; unfold In at a2)); (first | have a3 := in_u j5_3 | (have a3 := j5_3; unfold In at a3)); (first | have a4 := in_u i24 | (have a4 := i24; unfold In at a4)); (first | have a5 := in_u i117 | (have a5 := i117; unfold In at a5)); have a6 := t_add e89 j5_3 (in_c (-1) rfl) rfl; (first | have a7 := in_u ((in_c (-1) rfl)) | (have a7 := (in_c (-1) rfl); unfold In at a7)); (first | have a8 := in_u i111 | (have a8 := i111; unfold In at a8)); have a9 := t_sub e110 i89 (in_c 1 rfl) rfl; (first | have a10 := in_u ((in_c 1 rfl)) | (have a10 := (in_c 1 rfl); unfold In at a10)); (first | have a11 := in_u i103 | (have a11 := i103; unfold In at a11)); have a12 := t_sub e103 i24 (in_c 1000100 rfl) rfl; (first | have a13 := in_u ((in_c 1000100 rfl)) | (have a13 := (in_c 1000100 rfl); unfold In at a13)); (first | have a14 := in_u i98 | (have a14 := i98; unfold In at a14)); have a15 := t_sub e98 i89 (in_c 1 rfl) rfl; exact ⟨by omega, by omega⟩
                refine g_lastore 122 (gd rfl) rfl (n := 120) rfl (in_ix i121 rfl) ?_
                have hI121 := inv_sL (q := 105) (j := z98.toNatClampNeg) (x := (Int64.ofInt 0)) hIc5 rfl (l_rng (Int64.ofInt 0))
                refine g_iinc 125 (gd rfl) rfl rfl (Nat.le_of_ble_eq_true rfl) (fun z122 e122 => ?_)
                have i122 := in_add 1 120 e122 i8 (in_c 1 rfl) rfl rfl
                refine g_goto 5 (gd rfl) rfl ?_
                have n5 : (z89).toInt ≤ (z122).toInt := by (first | have a0 := in_u i8a | (have a0 := i8a; unfold In at a0)); (first | have a1 := in_u h1 | (have a1 := h1; unfold In at a1)); (first | have a2 := in_u i8 | (have a2 := i8; unfold In at a2)); (first | have a3 := in_u j5_3 | (have a3 := j5_3; unfold In at a3)); (first | have a4 := in_u i24 | (have a4 := i24; unfold In at a4)); (first | have a5 := in_u i122 | (have a5 := i122; unfold In at a5)); have a6 := t_add e122 i8 (in_c 1 rfl) rfl; (first | have a7 := in_u ((in_c 1 rfl)) | (have a7 := (in_c 1 rfl); unfold In at a7)); (first | have a8 := in_u i117 | (have a8 := i117; unfold In at a8)); have a9 := t_add e89 j5_3 (in_c (-1) rfl) rfl; (first | have a10 := in_u ((in_c (-1) rfl)) | (have a10 := (in_c (-1) rfl); unfold In at a10)); (first | have a11 := in_u i111 | (have a11 := i111; unfold In at a11)); have a12 := t_sub e110 i89 (in_c 1 rfl) rfl; (first | have a13 := in_u i103 | (have a13 := i103; unfold In at a13)); have a14 := t_sub e103 i24 (in_c 1000100 rfl) rfl; (first | have a15 := in_u ((in_c 1000100 rfl)) | (have a15 := (in_c 1000100 rfl); unfold In at a15)); (first | have a16 := in_u i121 | (have a16 := i121; unfold In at a16)); have a17 := t_sub e98 i89 (in_c 1 rfl) rfl; omega
                have n5a : CS (sL sc5 105 z98.toNatClampNeg (Int64.ofInt 0)) x1 z122 z89 := by first | exact hk2 _ _ (by (first | have a0 := in_u i8a | (have a0 := i8a; unfold In at a0)); (first | have a1 := in_u h1 | (have a1 := h1; unfold In at a1)); (first | have a2 := in_u i8 | (have a2 := i8; unfold In at a2)); (first | have a3 := in_u j5_3 | (have a3 := j5_3; unfold In at a3)); (first | have a4 := in_u i24 | (have a4 := i24; unfold In at a4)); (first | have a5 := in_u i122 | (have a5 := i122; unfold In at a5)); have a6 := t_add e122 i8 (in_c 1 rfl) rfl; (first | have a7 := in_u ((in_c 1 rfl)) | (have a7 := (in_c 1 rfl); unfold In at a7)); (first | have a8 := in_u i117 | (have a8 := i117; unfold In at a8)); have a9 := t_add e89 j5_3 (in_c (-1) rfl) rfl; (first | have a10 := in_u ((in_c (-1) rfl)) | (have a10 := (in_c (-1) rfl); unfold In at a10)); (first | have a11 := in_u i111 | (have a11 := i111; unfold In at a11)); have a12 := t_sub e110 i89 (in_c 1 rfl) rfl; (first | have a13 := in_u i103 | (have a13 := i103; unfold In at a13)); have a14 := t_sub e103 i24 (in_c 1000100 rfl) rfl; (first | have a15 := in_u ((in_c 1000100 rfl)) | (have a15 := (in_c 1000100 rfl); unfold In at a15)); (first | have a16 := in_u i121 | (have a16 := i121; unfold In at a16)); have a17 := t_sub e98 i89 (in_c 1 rfl) rfl; omega) (by (first | have a0 := in_u i8a | (have a0 := i8a; unfold In at a0)); (first | have a1 := in_u h1 | (have a1 := h1; unfold In at a1)); (first | have a2 := in_u i8 | (have a2 := i8; unfold In at a2)); (first | have a3 := in_u j5_3 | (have a3 := j5_3; unfold In at a3)); (first | have a4 := in_u i24 | (have a4 := i24; unfold In at a4)); (first | have a5 := in_u i122 | (have a5 := i122; unfold In at a5)); have a6 := t_add e122 i8 (in_c 1 rfl) rfl; (first | have a7 := in_u ((in_c 1 rfl)) | (have a7 := (in_c 1 rfl); unfold In at a7)); (first | have a8 := in_u i117 | (have a8 := i117; unfold In at a8)); have a9 := t_add e89 j5_3 (in_c (-1) rfl) rfl; (first | have a10 := in_u ((in_c (-1) rfl)) | (have a10 := (in_c (-1) rfl); unfold In at a10)); (first | have a11 := in_u i111 | (have a11 := i111; unfold In at a11)); have a12 := t_sub e110 i89 (in_c 1 rfl) rfl; (first | have a13 := in_u i103 | (have a13 := i103; unfold In at a13)); have a14 := t_sub e103 i24 (in_c 1000100 rfl) rfl; (first | have a15 := in_u ((in_c 1000100 rfl)) | (have a15 := (in_c 1000100 rfl); unfold In at a15)); (first | have a16 := in_u i121 | (have a16 := i121; unfold In at a16)); have a17 := t_sub e98 i89 (in_c 1 rfl) rfl; omega) | exact cs_0 rfl h1.1
                exact gg_w (by first | exact Nat.le_add_right _ _ | exact gw2 | exact gw3 | exact gwe rfl | exact gwf rfl | exact gwg rfl | exact gwh rfl | omega) (gg_f (gf_cons rfl (gf_cons rfl (gf_cons rfl (gf_cons rfl (gf_cons rfl gf_nil))))) (ih5 (sL sc5 105 z98.toNatClampNeg (Int64.ofInt 0)) z89 z122 hI121 (fr_sL rfl hFc5) (in_w 0 120 i117 rfl) (in_w 0 120 i122 rfl) n5 n5a (m_up mm5 (t_add e122 i8 (in_c 1 rfl) rfl) (in_w 1 1 (in_c 1 rfl) rfl))))
              · skip
                have i118x79 := z_eq 0 0 c118x79 i118x78 rfl
                have c118x79a := lc_eq e118x78 c118x79
                refine g_lconst 1 83 (gd rfl) rfl rfl ?_
                refine g_goto 87 (gd rfl) rfl ?_
                refine g_lreturn (gd rfl) rfl (hp118 _ _ ?_)
                show GG _ _ _ _ _ _ _ _ [.long (Int64.ofInt 1), .int z98, .ref (A 105)] _ _ _
                have i121 : In z98 0 119 := by (first | have a0 := in_u i8a | (have a0 := i8a; unfold In at a0)); (first | have a1 := in_u h1 | (have a1 := h1; unfold In at a1)); (first | have a2 := in_u i8 | (have a2 := i8; unfold In at a2)); (first | have a3 := in_u j5_3 | (have a3 := j5_3; unfold In at a3)); (first | have a4 := in_u i24 | (have a4 := i24; unfold In at a4)); (first | have a5 := in_u i117 | (have a5 := i117; unfold In at a5)); have a6 := t_add e89 j5_3 (in_c (-1) rfl) rfl; (first | have a7 := in_u ((in_c (-1) rfl)) | (have a7 := (in_c (-1) rfl); unfold In at a7)); (first | have a8 := in_u i111 | (have a8 := i111; unfold In at a8)); have a9 := t_sub e110 i89 (in_c 1 rfl) rfl; (first | have a10 := in_u ((in_c 1 rfl)) | (have a10 := (in_c 1 rfl); unfold In at a10)); (first | have a11 := in_u i103 | (have a11 := i103; unfold In at a11)); have a12 := t_sub e103 i24 (in_c 1000100 rfl) rfl; (first | have a13 := in_u ((in_c 1000100 rfl)) | (have a13 := (in_c 1000100 rfl); unfold In at a13)); (first | have a14 := in_u i98 | (have a14 := i98; unfold In at a14)); have a15 := t_sub e98 i89 (in_c 1 rfl) rfl; exact ⟨by omega, by omega⟩
                refine g_lastore 122 (gd rfl) rfl (n := 120) rfl (in_ix i121 rfl) ?_
                have hI121 := inv_sL (q := 105) (j := z98.toNatClampNeg) (x := (Int64.ofInt 1)) hIc5 rfl (l_rng (Int64.ofInt 1))
                refine g_iinc 125 (gd rfl) rfl rfl (Nat.le_of_ble_eq_true rfl) (fun z122 e122 => ?_)
                have i122 := in_add 1 120 e122 i8 (in_c 1 rfl) rfl rfl
                refine g_goto 5 (gd rfl) rfl ?_
                have n5 : (z89).toInt ≤ (z122).toInt := by (first | have a0 := in_u i8a | (have a0 := i8a; unfold In at a0)); (first | have a1 := in_u h1 | (have a1 := h1; unfold In at a1)); (first | have a2 := in_u i8 | (have a2 := i8; unfold In at a2)); (first | have a3 := in_u j5_3 | (have a3 := j5_3; unfold In at a3)); (first | have a4 := in_u i24 | (have a4 := i24; unfold In at a4)); (first | have a5 := in_u i122 | (have a5 := i122; unfold In at a5)); have a6 := t_add e122 i8 (in_c 1 rfl) rfl; (first | have a7 := in_u ((in_c 1 rfl)) | (have a7 := (in_c 1 rfl); unfold In at a7)); (first | have a8 := in_u i117 | (have a8 := i117; unfold In at a8)); have a9 := t_add e89 j5_3 (in_c (-1) rfl) rfl; (first | have a10 := in_u ((in_c (-1) rfl)) | (have a10 := (in_c (-1) rfl); unfold In at a10)); (first | have a11 := in_u i111 | (have a11 := i111; unfold In at a11)); have a12 := t_sub e110 i89 (in_c 1 rfl) rfl; (first | have a13 := in_u i103 | (have a13 := i103; unfold In at a13)); have a14 := t_sub e103 i24 (in_c 1000100 rfl) rfl; (first | have a15 := in_u ((in_c 1000100 rfl)) | (have a15 := (in_c 1000100 rfl); unfold In at a15)); (first | have a16 := in_u i121 | (have a16 := i121; unfold In at a16)); have a17 := t_sub e98 i89 (in_c 1 rfl) rfl; omega
                have n5a : CS (sL sc5 105 z98.toNatClampNeg (Int64.ofInt 1)) x1 z122 z89 := by first | exact hk2 _ _ (by (first | have a0 := in_u i8a | (have a0 := i8a; unfold In at a0)); (first | have a1 := in_u h1 | (have a1 := h1; unfold In at a1)); (first | have a2 := in_u i8 | (have a2 := i8; unfold In at a2)); (first | have a3 := in_u j5_3 | (have a3 := j5_3; unfold In at a3)); (first | have a4 := in_u i24 | (have a4 := i24; unfold In at a4)); (first | have a5 := in_u i122 | (have a5 := i122; unfold In at a5)); have a6 := t_add e122 i8 (in_c 1 rfl) rfl; (first | have a7 := in_u ((in_c 1 rfl)) | (have a7 := (in_c 1 rfl); unfold In at a7)); (first | have a8 := in_u i117 | (have a8 := i117; unfold In at a8)); have a9 := t_add e89 j5_3 (in_c (-1) rfl) rfl; (first | have a10 := in_u ((in_c (-1) rfl)) | (have a10 := (in_c (-1) rfl); unfold In at a10)); (first | have a11 := in_u i111 | (have a11 := i111; unfold In at a11)); have a12 := t_sub e110 i89 (in_c 1 rfl) rfl; (first | have a13 := in_u i103 | (have a13 := i103; unfold In at a13)); have a14 := t_sub e103 i24 (in_c 1000100 rfl) rfl; (first | have a15 := in_u ((in_c 1000100 rfl)) | (have a15 := (in_c 1000100 rfl); unfold In at a15)); (first | have a16 := in_u i121 | (have a16 := i121; unfold In at a16)); have a17 := t_sub e98 i89 (in_c 1 rfl) rfl; omega) (by (first | have a0 := in_u i8a | (have a0 := i8a; unfold In at a0)); (first | have a1 := in_u h1 | (have a1 := h1; unfold In at a1)); (first | have a2 := in_u i8 | (have a2 := i8; unfold In at a2)); (first | have a3 := in_u j5_3 | (have a3 := j5_3; unfold In at a3)); (first | have a4 := in_u i24 | (have a4 := i24; unfold In at a4)); (first | have a5 := in_u i122 | (have a5 := i122; unfold In at a5)); have a6 := t_add e122 i8 (in_c 1 rfl) rfl; (first | have a7 := in_u ((in_c 1 rfl)) | (have a7 := (in_c 1 rfl); unfold In at a7)); (first | have a8 := in_u i117 | (have a8 := i117; unfold In at a8)); have a9 := t_add e89 j5_3 (in_c (-1) rfl) rfl; (first | have a10 := in_u ((in_c (-1) rfl)) | (have a10 := (in_c (-1) rfl); unfold In at a10)); (first | have a11 := in_u i111 | (have a11 := i111; unfold In at a11)); have a12 := t_sub e110 i89 (in_c 1 rfl) rfl; (first | have a13 := in_u i103 | (have a13 := i103; unfold In at a13)); have a14 := t_sub e103 i24 (in_c 1000100 rfl) rfl; (first | have a15 := in_u ((in_c 1000100 rfl)) | (have a15 := (in_c 1000100 rfl); unfold In at a15)); (first | have a16 := in_u i121 | (have a16 := i121; unfold In at a16)); have a17 := t_sub e98 i89 (in_c 1 rfl) rfl; omega) | exact cs_0 rfl h1.1
                exact gg_w (by first | exact Nat.le_add_right _ _ | exact gw2 | exact gw3 | exact gwe rfl | exact gwf rfl | exact gwg rfl | exact gwh rfl | omega) (gg_f (gf_cons rfl (gf_cons rfl (gf_cons rfl (gf_cons rfl (gf_cons rfl gf_nil))))) (ih5 (sL sc5 105 z98.toNatClampNeg (Int64.ofInt 1)) z89 z122 hI121 (fr_sL rfl hFc5) (in_w 0 120 i117 rfl) (in_w 0 120 i122 rfl) n5 n5a (m_up mm5 (t_add e122 i8 (in_c 1 rfl) rfl) (in_w 1 1 (in_c 1 rfl) rfl))))
          · skip
            have i66 := r_eq1 1000226 1000226 c66 i24 (in_c 1000226 rfl) rfl
            have hk3 := hc_2 hk1 c66
            refine g_aload_n 70 (gd rfl) rfl rfl ?_
            refine g_getA (q2 := 105) 73 (gd rfl) rfl rfl rfl rfl ?_
            refine g_iload_n 74 (gd rfl) rfl rfl ?_
            refine g_iconst 1 75 (gd rfl) rfl rfl ?_
            refine g_isub 76 (gd rfl) rfl (fun z75 e75 => ?_)
            have i75 := in_sub (-1) 119 e75 j5_3 (in_c 1 rfl) rfl rfl
            refine g_aload_n 77 (gd rfl) rfl rfl ?_
            refine g_getA (q2 := 105) 80 (gd rfl) rfl rfl rfl rfl ?_
            refine g_iload_n 81 (gd rfl) rfl rfl ?_
            refine g_iconst 1 82 (gd rfl) rfl rfl ?_
            refine g_isub 83 (gd rfl) rfl (fun z82 e82 => ?_)
            have i82 := in_sub (-1) 119 e82 j5_3 (in_c 1 rfl) rfl rfl
            have i83 : In z82 0 119 := by (first | have a0 := in_u i8a | (have a0 := i8a; unfold In at a0)); (first | have a1 := in_u h1 | (have a1 := h1; unfold In at a1)); (first | have a2 := in_u i8 | (have a2 := i8; unfold In at a2)); (first | have a3 := in_u j5_3 | (have a3 := j5_3; unfold In at a3)); (first | have a4 := in_u i66 | (have a4 := i66; unfold In at a4)); (first | have a5 := in_u i82 | (have a5 := i82; unfold In at a5)); have a6 := t_sub e82 j5_3 (in_c 1 rfl) rfl; (first | have a7 := in_u ((in_c 1 rfl)) | (have a7 := (in_c 1 rfl); unfold In at a7)); (first | have a8 := in_u i75 | (have a8 := i75; unfold In at a8)); have a9 := t_sub e75 j5_3 (in_c 1 rfl) rfl; exact ⟨by omega, by omega⟩
            refine g_laload 84 (gd rfl) rfl (n := 120) rfl (in_ix i83 rfl) (fun z83 e83 => ?_)
            refine g_lneg 85 (gd rfl) rfl (fun z84 e84 => ?_)
            have i85 : In z75 0 119 := by (first | have a0 := in_u i8a | (have a0 := i8a; unfold In at a0)); (first | have a1 := in_u h1 | (have a1 := h1; unfold In at a1)); (first | have a2 := in_u i8 | (have a2 := i8; unfold In at a2)); (first | have a3 := in_u j5_3 | (have a3 := j5_3; unfold In at a3)); (first | have a4 := in_u i66 | (have a4 := i66; unfold In at a4)); (first | have a5 := in_u i83 | (have a5 := i83; unfold In at a5)); have a6 := t_sub e82 j5_3 (in_c 1 rfl) rfl; (first | have a7 := in_u ((in_c 1 rfl)) | (have a7 := (in_c 1 rfl); unfold In at a7)); (first | have a8 := in_u i75 | (have a8 := i75; unfold In at a8)); have a9 := t_sub e75 j5_3 (in_c 1 rfl) rfl; exact ⟨by omega, by omega⟩
            refine g_lastore 86 (gd rfl) rfl (n := 120) rfl (in_ix i85 rfl) ?_
            have hI85 := inv_sL (q := 105) (j := z75.toNatClampNeg) (x := z84) hIc5 rfl (l_rng z84)
            refine g_goto 122 (gd rfl) rfl ?_
            refine g_iinc 125 (gd rfl) rfl rfl (Nat.le_of_ble_eq_true rfl) (fun z122 e122 => ?_)
            have i122 := in_add 1 120 e122 i8 (in_c 1 rfl) rfl rfl
            refine g_goto 5 (gd rfl) rfl ?_
            have n5 : (y5_3).toInt ≤ (z122).toInt := by (first | have a0 := in_u i8a | (have a0 := i8a; unfold In at a0)); (first | have a1 := in_u h1 | (have a1 := h1; unfold In at a1)); (first | have a2 := in_u i8 | (have a2 := i8; unfold In at a2)); (first | have a3 := in_u j5_3 | (have a3 := j5_3; unfold In at a3)); (first | have a4 := in_u i66 | (have a4 := i66; unfold In at a4)); (first | have a5 := in_u i122 | (have a5 := i122; unfold In at a5)); have a6 := t_add e122 i8 (in_c 1 rfl) rfl; (first | have a7 := in_u ((in_c 1 rfl)) | (have a7 := (in_c 1 rfl); unfold In at a7)); (first | have a8 := in_u i83 | (have a8 := i83; unfold In at a8)); have a9 := t_sub e82 j5_3 (in_c 1 rfl) rfl; (first | have a10 := in_u i85 | (have a10 := i85; unfold In at a10)); have a11 := t_sub e75 j5_3 (in_c 1 rfl) rfl; omega
            have n5a : CS (sL sc5 105 z75.toNatClampNeg z84) x1 z122 y5_3 := by first | exact hk2 _ _ (by (first | have a0 := in_u i8a | (have a0 := i8a; unfold In at a0)); (first | have a1 := in_u h1 | (have a1 := h1; unfold In at a1)); (first | have a2 := in_u i8 | (have a2 := i8; unfold In at a2)); (first | have a3 := in_u j5_3 | (have a3 := j5_3; unfold In at a3)); (first | have a4 := in_u i66 | (have a4 := i66; unfold In at a4)); (first | have a5 := in_u i122 | (have a5 := i122; unfold In at a5)); have a6 := t_add e122 i8 (in_c 1 rfl) rfl; (first | have a7 := in_u ((in_c 1 rfl)) | (have a7 := (in_c 1 rfl); unfold In at a7)); (first | have a8 := in_u i83 | (have a8 := i83; unfold In at a8)); have a9 := t_sub e82 j5_3 (in_c 1 rfl) rfl; (first | have a10 := in_u i85 | (have a10 := i85; unfold In at a10)); have a11 := t_sub e75 j5_3 (in_c 1 rfl) rfl; omega) (by (first | have a0 := in_u i8a | (have a0 := i8a; unfold In at a0)); (first | have a1 := in_u h1 | (have a1 := h1; unfold In at a1)); (first | have a2 := in_u i8 | (have a2 := i8; unfold In at a2)); (first | have a3 := in_u j5_3 | (have a3 := j5_3; unfold In at a3)); (first | have a4 := in_u i66 | (have a4 := i66; unfold In at a4)); (first | have a5 := in_u i122 | (have a5 := i122; unfold In at a5)); have a6 := t_add e122 i8 (in_c 1 rfl) rfl; (first | have a7 := in_u ((in_c 1 rfl)) | (have a7 := (in_c 1 rfl); unfold In at a7)); (first | have a8 := in_u i83 | (have a8 := i83; unfold In at a8)); have a9 := t_sub e82 j5_3 (in_c 1 rfl) rfl; (first | have a10 := in_u i85 | (have a10 := i85; unfold In at a10)); have a11 := t_sub e75 j5_3 (in_c 1 rfl) rfl; omega) | exact cs_0 rfl h1.1
            exact gg_w (by first | exact Nat.le_add_right _ _ | exact gw2 | exact gw3 | exact gwe rfl | exact gwf rfl | exact gwg rfl | exact gwh rfl | omega) (gg_f (gf_cons rfl (gf_cons rfl (gf_cons rfl (gf_cons rfl (gf_cons rfl gf_nil))))) (ih5 (sL sc5 105 z75.toNatClampNeg z84) y5_3 z122 hI85 (fr_sL rfl hFc5) (in_w 0 120 j5_3 rfl) (in_w 0 120 i122 rfl) n5 n5a (m_up mm5 (t_add e122 i8 (in_c 1 rfl) rfl) (in_w 1 1 (in_c 1 rfl) rfl))))
        · skip
          have i24 := r_lt1 (-2147483648) 1000099 c24 (i_rng z17) (in_c 1000100 rfl) rfl
          have hk3 := hc_0 hk1 c24
          refine g_aload_n 28 (gd rfl) rfl rfl ?_
          refine g_getA (q2 := 105) 31 (gd rfl) rfl rfl rfl rfl ?_
          refine g_iload_n 32 (gd rfl) rfl rfl ?_
          refine g_iload 34 (gd rfl) rfl rfl ?_
          refine g_ldc 1000000 36 (gd rfl) rfl rfl ?_
          refine g_cmp_ge 39 45 (gd rfl) rfl rfl (fun c36 => ?_) (fun c36 => ?_)
          · skip
            have i36 := r_le2 1000000 1000099 c36 (in_c 1000000 rfl) i24 rfl
            refine g_aload_n 46 (gd rfl) rfl rfl ?_
            refine g_getA (q2 := 106) 49 (gd rfl) rfl rfl rfl rfl ?_
            refine g_iload 51 (gd rfl) rfl rfl ?_
            refine g_ldc 1000000 53 (gd rfl) rfl rfl ?_
            refine g_isub 54 (gd rfl) rfl (fun z53 e53 => ?_)
            have i53 := in_sub 0 99 e53 i36 (in_c 1000000 rfl) rfl rfl
            have i54 : In z53 0 8 := by have h3 := hk3.2 (by (first | have a0 := in_u i8a | (have a0 := i8a; unfold In at a0)); (first | have a1 := in_u h1 | (have a1 := h1; unfold In at a1)); (first | have a2 := in_u i8 | (have a2 := i8; unfold In at a2)); (first | have a3 := in_u j5_3 | (have a3 := j5_3; unfold In at a3)); (first | have a4 := in_u i36 | (have a4 := i36; unfold In at a4)); (first | have a5 := in_u i53 | (have a5 := i53; unfold In at a5)); have a6 := t_sub e53 i36 (in_c 1000000 rfl) rfl; (first | have a7 := in_u ((in_c 1000000 rfl)) | (have a7 := (in_c 1000000 rfl); unfold In at a7)); omega); exact ⟨by (first | have a0 := in_u i8a | (have a0 := i8a; unfold In at a0)); (first | have a1 := in_u h1 | (have a1 := h1; unfold In at a1)); (first | have a2 := in_u i8 | (have a2 := i8; unfold In at a2)); (first | have a3 := in_u j5_3 | (have a3 := j5_3; unfold In at a3)); (first | have a4 := in_u i36 | (have a4 := i36; unfold In at a4)); (first | have a5 := in_u i53 | (have a5 := i53; unfold In at a5)); have a6 := t_sub e53 i36 (in_c 1000000 rfl) rfl; (first | have a7 := in_u ((in_c 1000000 rfl)) | (have a7 := (in_c 1000000 rfl); unfold In at a7)); omega, by (first | have a0 := in_u i8a | (have a0 := i8a; unfold In at a0)); (first | have a1 := in_u h1 | (have a1 := h1; unfold In at a1)); (first | have a2 := in_u i8 | (have a2 := i8; unfold In at a2)); (first | have a3 := in_u j5_3 | (have a3 := j5_3; unfold In at a3)); (first | have a4 := in_u i36 | (have a4 := i36; unfold In at a4)); (first | have a5 := in_u i53 | (have a5 := i53; unfold In at a5)); have a6 := t_sub e53 i36 (in_c 1000000 rfl) rfl; (first | have a7 := in_u ((in_c 1000000 rfl)) | (have a7 := (in_c 1000000 rfl); unfold In at a7)); omega⟩
            refine g_laload 55 (gd rfl) rfl (n := 9) rfl (in_ix i54 rfl) (fun z54 e54 => ?_)
            have i55 : In y5_3 0 119 := by (first | have a0 := in_u i8a | (have a0 := i8a; unfold In at a0)); (first | have a1 := in_u h1 | (have a1 := h1; unfold In at a1)); (first | have a2 := in_u i8 | (have a2 := i8; unfold In at a2)); (first | have a3 := in_u j5_3 | (have a3 := j5_3; unfold In at a3)); (first | have a4 := in_u i36 | (have a4 := i36; unfold In at a4)); (first | have a5 := in_u i54 | (have a5 := i54; unfold In at a5)); have a6 := t_sub e53 i36 (in_c 1000000 rfl) rfl; (first | have a7 := in_u ((in_c 1000000 rfl)) | (have a7 := (in_c 1000000 rfl); unfold In at a7)); exact ⟨by omega, by omega⟩
            refine g_lastore 56 (gd rfl) rfl (n := 120) rfl (in_ix i55 rfl) ?_
            have hI55 := inv_sL (q := 105) (j := y5_3.toNatClampNeg) (x := z54) hIc5 rfl (l_rng z54)
            refine g_iinc 59 (gd rfl) rfl rfl (Nat.le_of_ble_eq_true rfl) (fun z56 e56 => ?_)
            have i56 := in_add 1 120 e56 i55 (in_c 1 rfl) rfl rfl
            refine g_goto 122 (gd rfl) rfl ?_
            refine g_iinc 125 (gd rfl) rfl rfl (Nat.le_of_ble_eq_true rfl) (fun z122 e122 => ?_)
            have i122 := in_add 1 120 e122 i8 (in_c 1 rfl) rfl rfl
            refine g_goto 5 (gd rfl) rfl ?_
            have n5 : (z56).toInt ≤ (z122).toInt := by (first | have a0 := in_u i8a | (have a0 := i8a; unfold In at a0)); (first | have a1 := in_u h1 | (have a1 := h1; unfold In at a1)); (first | have a2 := in_u i8 | (have a2 := i8; unfold In at a2)); (first | have a3 := in_u i55 | (have a3 := i55; unfold In at a3)); (first | have a4 := in_u i36 | (have a4 := i36; unfold In at a4)); (first | have a5 := in_u i122 | (have a5 := i122; unfold In at a5)); have a6 := t_add e122 i8 (in_c 1 rfl) rfl; (first | have a7 := in_u ((in_c 1 rfl)) | (have a7 := (in_c 1 rfl); unfold In at a7)); (first | have a8 := in_u i56 | (have a8 := i56; unfold In at a8)); have a9 := t_add e56 i55 (in_c 1 rfl) rfl; (first | have a10 := in_u i54 | (have a10 := i54; unfold In at a10)); have a11 := t_sub e53 i36 (in_c 1000000 rfl) rfl; (first | have a12 := in_u ((in_c 1000000 rfl)) | (have a12 := (in_c 1000000 rfl); unfold In at a12)); omega
            have n5a : CS (sL sc5 105 y5_3.toNatClampNeg z54) x1 z122 z56 := by first | exact hk2 _ _ (by (first | have a0 := in_u i8a | (have a0 := i8a; unfold In at a0)); (first | have a1 := in_u h1 | (have a1 := h1; unfold In at a1)); (first | have a2 := in_u i8 | (have a2 := i8; unfold In at a2)); (first | have a3 := in_u i55 | (have a3 := i55; unfold In at a3)); (first | have a4 := in_u i36 | (have a4 := i36; unfold In at a4)); (first | have a5 := in_u i122 | (have a5 := i122; unfold In at a5)); have a6 := t_add e122 i8 (in_c 1 rfl) rfl; (first | have a7 := in_u ((in_c 1 rfl)) | (have a7 := (in_c 1 rfl); unfold In at a7)); (first | have a8 := in_u i56 | (have a8 := i56; unfold In at a8)); have a9 := t_add e56 i55 (in_c 1 rfl) rfl; (first | have a10 := in_u i54 | (have a10 := i54; unfold In at a10)); have a11 := t_sub e53 i36 (in_c 1000000 rfl) rfl; (first | have a12 := in_u ((in_c 1000000 rfl)) | (have a12 := (in_c 1000000 rfl); unfold In at a12)); omega) (by (first | have a0 := in_u i8a | (have a0 := i8a; unfold In at a0)); (first | have a1 := in_u h1 | (have a1 := h1; unfold In at a1)); (first | have a2 := in_u i8 | (have a2 := i8; unfold In at a2)); (first | have a3 := in_u i55 | (have a3 := i55; unfold In at a3)); (first | have a4 := in_u i36 | (have a4 := i36; unfold In at a4)); (first | have a5 := in_u i122 | (have a5 := i122; unfold In at a5)); have a6 := t_add e122 i8 (in_c 1 rfl) rfl; (first | have a7 := in_u ((in_c 1 rfl)) | (have a7 := (in_c 1 rfl); unfold In at a7)); (first | have a8 := in_u i56 | (have a8 := i56; unfold In at a8)); have a9 := t_add e56 i55 (in_c 1 rfl) rfl; (first | have a10 := in_u i54 | (have a10 := i54; unfold In at a10)); have a11 := t_sub e53 i36 (in_c 1000000 rfl) rfl; (first | have a12 := in_u ((in_c 1000000 rfl)) | (have a12 := (in_c 1000000 rfl); unfold In at a12)); omega) | exact cs_0 rfl h1.1
            exact gg_w (by first | exact Nat.le_add_right _ _ | exact gw2 | exact gw3 | exact gwe rfl | exact gwf rfl | exact gwg rfl | exact gwh rfl | omega) (gg_f (gf_cons rfl (gf_cons rfl (gf_cons rfl (gf_cons rfl (gf_cons rfl gf_nil))))) (ih5 (sL sc5 105 y5_3.toNatClampNeg z54) z56 z122 hI55 (fr_sL rfl hFc5) (in_w 0 120 i56 rfl) (in_w 0 120 i122 rfl) n5 n5a (m_up mm5 (t_add e122 i8 (in_c 1 rfl) rfl) (in_w 1 1 (in_c 1 rfl) rfl))))
          · skip
            have i36 := r_lt1 (-2147483648) 999999 c36 i24 (in_c 1000000 rfl) rfl
            refine g_iload 41 (gd rfl) rfl rfl ?_
            refine g_i2l 42 (gd rfl) rfl (fun z41 e41 => ?_)
            have i41 := l_i e41 i36
            refine g_goto 55 (gd rfl) rfl ?_
            have i55 : In y5_3 0 119 := by (first | have a0 := in_u i8a | (have a0 := i8a; unfold In at a0)); (first | have a1 := in_u h1 | (have a1 := h1; unfold In at a1)); (first | have a2 := in_u i8 | (have a2 := i8; unfold In at a2)); (first | have a3 := in_u j5_3 | (have a3 := j5_3; unfold In at a3)); (first | have a4 := in_u i36 | (have a4 := i36; unfold In at a4)); have a5 := tx_i2l e41; exact ⟨by omega, by omega⟩
            refine g_lastore 56 (gd rfl) rfl (n := 120) rfl (in_ix i55 rfl) ?_
            have hI55 := inv_sL (q := 105) (j := y5_3.toNatClampNeg) (x := z41) hIc5 rfl (l_rng z41)
            refine g_iinc 59 (gd rfl) rfl rfl (Nat.le_of_ble_eq_true rfl) (fun z56 e56 => ?_)
            have i56 := in_add 1 120 e56 i55 (in_c 1 rfl) rfl rfl
            refine g_goto 122 (gd rfl) rfl ?_
            refine g_iinc 125 (gd rfl) rfl rfl (Nat.le_of_ble_eq_true rfl) (fun z122 e122 => ?_)
            have i122 := in_add 1 120 e122 i8 (in_c 1 rfl) rfl rfl
            refine g_goto 5 (gd rfl) rfl ?_
            have n5 : (z56).toInt ≤ (z122).toInt := by (first | have a0 := in_u i8a | (have a0 := i8a; unfold In at a0)); (first | have a1 := in_u h1 | (have a1 := h1; unfold In at a1)); (first | have a2 := in_u i8 | (have a2 := i8; unfold In at a2)); (first | have a3 := in_u i55 | (have a3 := i55; unfold In at a3)); (first | have a4 := in_u i36 | (have a4 := i36; unfold In at a4)); (first | have a5 := in_u i122 | (have a5 := i122; unfold In at a5)); have a6 := t_add e122 i8 (in_c 1 rfl) rfl; (first | have a7 := in_u ((in_c 1 rfl)) | (have a7 := (in_c 1 rfl); unfold In at a7)); (first | have a8 := in_u i56 | (have a8 := i56; unfold In at a8)); have a9 := t_add e56 i55 (in_c 1 rfl) rfl; have a10 := tx_i2l e41; omega
            have n5a : CS (sL sc5 105 y5_3.toNatClampNeg z41) x1 z122 z56 := by first | exact hk2 _ _ (by (first | have a0 := in_u i8a | (have a0 := i8a; unfold In at a0)); (first | have a1 := in_u h1 | (have a1 := h1; unfold In at a1)); (first | have a2 := in_u i8 | (have a2 := i8; unfold In at a2)); (first | have a3 := in_u i55 | (have a3 := i55; unfold In at a3)); (first | have a4 := in_u i36 | (have a4 := i36; unfold In at a4)); (first | have a5 := in_u i122 | (have a5 := i122; unfold In at a5)); have a6 := t_add e122 i8 (in_c 1 rfl) rfl; (first | have a7 := in_u ((in_c 1 rfl)) | (have a7 := (in_c 1 rfl); unfold In at a7)); (first | have a8 := in_u i56 | (have a8 := i56; unfold In at a8)); have a9 := t_add e56 i55 (in_c 1 rfl) rfl; have a10 := tx_i2l e41; omega) (by (first | have a0 := in_u i8a | (have a0 := i8a; unfold In at a0)); (first | have a1 := in_u h1 | (have a1 := h1; unfold In at a1)); (first | have a2 := in_u i8 | (have a2 := i8; unfold In at a2)); (first | have a3 := in_u i55 | (have a3 := i55; unfold In at a3)); (first | have a4 := in_u i36 | (have a4 := i36; unfold In at a4)); (first | have a5 := in_u i122 | (have a5 := i122; unfold In at a5)); have a6 := t_add e122 i8 (in_c 1 rfl) rfl; (first | have a7 := in_u ((in_c 1 rfl)) | (have a7 := (in_c 1 rfl); unfold In at a7)); (first | have a8 := in_u i56 | (have a8 := i56; unfold In at a8)); have a9 := t_add e56 i55 (in_c 1 rfl) rfl; have a10 := tx_i2l e41; omega) | exact cs_0 rfl h1.1
            exact gg_w (by first | exact Nat.le_add_right _ _ | exact gw2 | exact gw3 | exact gwe rfl | exact gwf rfl | exact gwg rfl | exact gwh rfl | omega) (gg_f (gf_cons rfl (gf_cons rfl (gf_cons rfl (gf_cons rfl (gf_cons rfl gf_nil))))) (ih5 (sL sc5 105 y5_3.toNatClampNeg z41) z56 z122 hI55 (fr_sL rfl hFc5) (in_w 0 120 i56 rfl) (in_w 0 120 i122 rfl) n5 n5a (m_up mm5 (t_add e122 i8 (in_c 1 rfl) rfl) (in_w 1 1 (in_c 1 rfl) rfl))))
  refine g_enter2 (k := 66) (N := 109801) (by first | exact dq1 hd rfl | exact dq0 hd rfl | exact dq2 hd rfl | exact dq3 hd rfl | omega) rfl (Nat.le_of_ble_eq_true rfl) ?_
  refine g_iconst 0 1 (gd rfl) rfl rfl ?_
  refine g_istore_n 2 (gd rfl) rfl (Nat.le_of_ble_eq_true rfl) ?_
  refine g_iload_n 3 (gd rfl) rfl rfl ?_
  refine g_istore 5 (gd rfl) rfl (Nat.le_of_ble_eq_true rfl) ?_
  have n5 : ((Int32.ofInt 0)).toInt ≤ (x1).toInt := by (first | have a0 := in_u h2 | (have a0 := h2; unfold In at a0)); (first | have a1 := in_u h1 | (have a1 := h1; unfold In at a1)); (first | have a2 := in_u ((in_c 0 rfl)) | (have a2 := (in_c 0 rfl); unfold In at a2)); omega
  have n5a : CS s x1 x1 (Int32.ofInt 0) := by first | exact hk2 _ _ (by (first | have a0 := in_u h2 | (have a0 := h2; unfold In at a0)); (first | have a1 := in_u h1 | (have a1 := h1; unfold In at a1)); (first | have a2 := in_u ((in_c 0 rfl)) | (have a2 := (in_c 0 rfl); unfold In at a2)); omega) (by (first | have a0 := in_u h2 | (have a0 := h2; unfold In at a0)); (first | have a1 := in_u h1 | (have a1 := h1; unfold In at a1)); (first | have a2 := in_u ((in_c 0 rfl)) | (have a2 := (in_c 0 rfl); unfold In at a2)); omega) | exact cs_0 rfl h1.1
  exact gg_w (by first | exact Nat.le_of_ble_eq_true rfl | omega) (gg_f (gf_cons rfl (gf_cons rfl (gf_cons rfl (gf_cons rfl (gf_cons rfl gf_nil))))) (ct5 121 s (Int32.ofInt 0) x1 hI fr_rf (in_w 0 120 (in_c 0 rfl) rfl) (in_w 0 120 h1 rfl) n5 n5a (m_in 121 (in_w 0 120 h1 rfl) rfl)))

/-- GraphHouse$Engine.lettersOf -/
theorem k_71_2 {Z : AmZ} {A : Nat → Nat} {s : GS} {ex : va_W} {d : Nat} {X : AmX} {x1 : Int32} (hd : 4 ≤ d) (hI : Inv s) (h1 : In x1 1 4) : GC Z d 71 [.ref (A 2), .int x1] (WW Z A s ++ ex) 0 0 (fun v u => ∃ z : Int32, v = some (.int z) ∧ u = WW Z A s ++ ex ∧ In z 0 2016) X := by
  intro post xp hP hX
  obtain ⟨u_2_1, e_2_1⟩ : ∃ w, w = s.2.2.1 2 1 := ⟨_, rfl⟩
  have ro_2_1 := inv_F hI 0 32 rfl e_2_1
  have ct11 : ∀ (k11 : Nat) (y11_2 : Int32) (y11_3 : Int32), (In y11_2 0 2016) → (In y11_3 0 32) → (0 ≤ (y11_2).toInt) → ((y11_2).toInt ≤ 63 * (y11_3).toInt) → 32 - (y11_3).toInt < (k11 : Int) → GG Z (d - 1) 71 post (gx xp) (1 + k11 * 3865470569101) 11 (fun j => xlook j [(0, .ref (A 2)), (1, .int x1), (2, .int y11_2), (3, .int y11_3)]) [] (WW Z A s ++ ex) 0 0 := by
    intro k11
    induction k11 with
    | zero => intro y11_2 y11_3 j11_2 j11_3 n11_0 n11_1 mm11; exact m_no mm11 j11_3 rfl
    | succ k11 ih11 =>
      intro y11_2 y11_3 j11_2 j11_3 n11_0 n11_1 mm11
      refine gg_w (M := 1 + k11 * 3865470569101 + 3865470569101) gws ?_
      have ct30 : ∀ (k30 : Nat) (y30_4 : Int32) (y30_5 : Int32), (In y11_3 0 31) → ((y30_5.toBitVec.toNat : Nat) : Int) < (k30 : Int) → GG Z (d - 1) 71 post (gx xp) (1 + k11 * 3865470569101 + 1 + k30 * 900) 30 (fun j => xlook j [(0, .ref (A 2)), (1, .int x1), (2, .int y11_2), (3, .int y11_3), (4, .int y30_4), (5, .int y30_5)]) [] (WW Z A s ++ ex) 0 0 := by
        intro k30
        induction k30 with
        | zero => intro y30_4 y30_5 j30_3 mm30; exact absurd mm30 (Int.not_lt.mpr (Int.natCast_nonneg _))
        | succ k30 ih30 =>
          intro y30_4 y30_5 j30_3 mm30
          refine gg_w (M := 1 + k11 * 3865470569101 + 1 + k30 * 900 + 900) gws ?_
          refine g_iload 32 (gd rfl) rfl rfl ?_
          refine g_if_eq 35 61 (gd rfl) rfl rfl (fun c32 => ?_) (fun c32 => ?_)
          · skip
            have i32 := z_eq 0 0 c32 (i_rng y30_5) rfl
            refine g_iload_n 62 (gd rfl) rfl rfl ?_
            refine g_iload 64 (gd rfl) rfl rfl ?_
            refine g_iconst 1 65 (gd rfl) rfl rfl ?_
            refine g_iload_n 66 (gd rfl) rfl rfl ?_
            refine g_iload_n 67 (gd rfl) rfl rfl ?_
            refine g_irem 68 (gd rfl) rfl (dv_nz h1 rfl) (fun z67 e67 => ?_)
            have i67 := in_remv 3 e67 j30_3 h1 rfl
            refine g_ishl 69 (gd rfl) rfl (fun z68 e68 => ?_)
            refine g_iconst (-1) 70 (gd rfl) rfl rfl ?_
            refine g_ixor 71 (gd rfl) rfl (fun z70 e70 => ?_)
            refine g_iand 72 (gd rfl) rfl (fun z71 e71 => ?_)
            refine g_calls (As := [.int z71]) (r := [.int y11_2]) 75 (gd rfl) rfl rfl rfl rfl rfl (Nat.le_of_ble_eq_true rfl) (Nat.zero_le _) (Nat.zero_le _) (k_414b (by first | exact dq1 hd rfl | exact dq0 hd rfl | exact dq2 hd rfl | exact dq3 hd rfl | omega) hI ) (fun v u h => ?_)
            obtain ⟨z72, rfl, rfl, i72⟩ := h
            show GG _ _ _ _ _ _ _ _ [.int z72, .int y11_2] _ _ _
            refine g_iadd 76 (gd rfl) rfl (fun z75 e75 => ?_)
            have i75 := in_add 0 2048 e75 j11_2 i72 rfl rfl
            refine g_istore_n 77 (gd rfl) rfl (Nat.le_of_ble_eq_true rfl) ?_
            refine g_iinc 80 (gd rfl) rfl rfl (Nat.le_of_ble_eq_true rfl) (fun z77 e77 => ?_)
            have i77 := in_add 1 32 e77 j30_3 (in_c 1 rfl) rfl rfl
            refine g_goto 11 (gd rfl) rfl ?_
            have i11 : In z75 0 2016 := by exact ⟨by (first | have a0 := in_u i32 | (have a0 := i32; unfold In at a0)); (first | have a1 := in_u j30_3 | (have a1 := j30_3; unfold In at a1)); (first | have a2 := in_u j11_2 | (have a2 := j11_2; unfold In at a2)); (first | have a3 := in_u h1 | (have a3 := h1; unfold In at a3)); (first | have a4 := in_u ro_2_1 | (have a4 := ro_2_1; unfold In at a4)); (first | have a5 := in_u i77 | (have a5 := i77; unfold In at a5)); have a6 := t_add e77 j30_3 (in_c 1 rfl) rfl; (first | have a7 := in_u ((in_c 1 rfl)) | (have a7 := (in_c 1 rfl); unfold In at a7)); (first | have a8 := in_u i75 | (have a8 := i75; unfold In at a8)); have a9 := t_add e75 j11_2 i72 rfl; (first | have a10 := in_u i72 | (have a10 := i72; unfold In at a10)); omega, by (first | have a0 := in_u i32 | (have a0 := i32; unfold In at a0)); (first | have a1 := in_u j30_3 | (have a1 := j30_3; unfold In at a1)); (first | have a2 := in_u j11_2 | (have a2 := j11_2; unfold In at a2)); (first | have a3 := in_u h1 | (have a3 := h1; unfold In at a3)); (first | have a4 := in_u ro_2_1 | (have a4 := ro_2_1; unfold In at a4)); (first | have a5 := in_u i77 | (have a5 := i77; unfold In at a5)); have a6 := t_add e77 j30_3 (in_c 1 rfl) rfl; (first | have a7 := in_u ((in_c 1 rfl)) | (have a7 := (in_c 1 rfl); unfold In at a7)); (first | have a8 := in_u i75 | (have a8 := i75; unfold In at a8)); have a9 := t_add e75 j11_2 i72 rfl; (first | have a10 := in_u i72 | (have a10 := i72; unfold In at a10)); omega⟩
            have n11 : 0 ≤ (z75).toInt := by (first | have a0 := in_u i32 | (have a0 := i32; unfold In at a0)); (first | have a1 := in_u j30_3 | (have a1 := j30_3; unfold In at a1)); (first | have a2 := in_u j11_2 | (have a2 := j11_2; unfold In at a2)); (first | have a3 := in_u h1 | (have a3 := h1; unfold In at a3)); (first | have a4 := in_u ro_2_1 | (have a4 := ro_2_1; unfold In at a4)); (first | have a5 := in_u i77 | (have a5 := i77; unfold In at a5)); have a6 := t_add e77 j30_3 (in_c 1 rfl) rfl; (first | have a7 := in_u ((in_c 1 rfl)) | (have a7 := (in_c 1 rfl); unfold In at a7)); (first | have a8 := in_u i11 | (have a8 := i11; unfold In at a8)); have a9 := t_add e75 j11_2 i72 rfl; (first | have a10 := in_u i72 | (have a10 := i72; unfold In at a10)); omega
            have n11a : (z75).toInt ≤ 63 * (z77).toInt := by (first | have a0 := in_u i32 | (have a0 := i32; unfold In at a0)); (first | have a1 := in_u j30_3 | (have a1 := j30_3; unfold In at a1)); (first | have a2 := in_u j11_2 | (have a2 := j11_2; unfold In at a2)); (first | have a3 := in_u h1 | (have a3 := h1; unfold In at a3)); (first | have a4 := in_u ro_2_1 | (have a4 := ro_2_1; unfold In at a4)); (first | have a5 := in_u i77 | (have a5 := i77; unfold In at a5)); have a6 := t_add e77 j30_3 (in_c 1 rfl) rfl; (first | have a7 := in_u ((in_c 1 rfl)) | (have a7 := (in_c 1 rfl); unfold In at a7)); (first | have a8 := in_u i11 | (have a8 := i11; unfold In at a8)); have a9 := t_add e75 j11_2 i72 rfl; (first | have a10 := in_u i72 | (have a10 := i72; unfold In at a10)); omega
            exact gg_w (by first | exact Nat.le_add_right _ _ | exact gw2 | exact gw3 | exact gwe rfl | exact gwf rfl | exact gwg rfl | exact gwh rfl | omega) (gg_f (gf_cons rfl (gf_cons rfl (gf_cons rfl (gf_cons rfl gf_nil)))) (ih11  z75 z77  i11 (in_w 0 32 i77 rfl) n11 n11a (m_up mm11 (t_add e77 j30_3 (in_c 1 rfl) rfl) (in_w 1 1 (in_c 1 rfl) rfl))))
          · skip
            refine g_iload 37 (gd rfl) rfl rfl ?_
            refine g_iconst 1 38 (gd rfl) rfl rfl ?_
            refine g_iload 40 (gd rfl) rfl rfl ?_
            refine g_calls (As := [.int y30_5]) (r := [.int (Int32.ofInt 1), .int y30_4]) 43 (gd rfl) rfl rfl rfl rfl rfl (Nat.le_of_ble_eq_true rfl) (Nat.zero_le _) (Nat.zero_le _) (k_264n (by first | exact dq1 hd rfl | exact dq0 hd rfl | exact dq2 hd rfl | exact dq3 hd rfl | omega) c32) (fun v u h => ?_)
            obtain ⟨z40, rfl, rfl, i40, hb40, hl40⟩ := h
            show GG _ _ _ _ _ _ _ _ [.int z40, .int (Int32.ofInt 1), .int y30_4] _ _ _
            refine g_iload_n 44 (gd rfl) rfl rfl ?_
            refine g_irem 45 (gd rfl) rfl (dv_nz h1 rfl) (fun z44 e44 => ?_)
            have i44 := in_remv 3 e44 i40 h1 rfl
            refine g_ishl 46 (gd rfl) rfl (fun z45 e45 => ?_)
            refine g_ior 47 (gd rfl) rfl (fun z46 e46 => ?_)
            refine g_istore 49 (gd rfl) rfl (Nat.le_of_ble_eq_true rfl) ?_
            refine g_iload 51 (gd rfl) rfl rfl ?_
            refine g_iload 53 (gd rfl) rfl rfl ?_
            refine g_iconst 1 54 (gd rfl) rfl rfl ?_
            refine g_isub 55 (gd rfl) rfl (fun z54 e54 => ?_)
            refine g_iand 56 (gd rfl) rfl (fun z55 e55 => ?_)
            refine g_istore 58 (gd rfl) rfl (Nat.le_of_ble_eq_true rfl) ?_
            refine g_goto 30 (gd rfl) rfl ?_
            exact gg_w (by first | exact Nat.le_add_right _ _ | exact gw2 | exact gw3 | exact gwe rfl | exact gwf rfl | exact gwg rfl | exact gwh rfl | omega) (gg_f (gf_cons rfl (gf_cons rfl (gf_cons rfl (gf_cons rfl (gf_cons rfl (gf_cons rfl gf_nil)))))) (ih30  z46 z55  (in_w 0 31 j30_3 rfl) (mb e55 e54 c32 mm30)))
      refine g_iload_n 12 (gd rfl) rfl rfl ?_
      refine g_aload_n 13 (gd rfl) rfl rfl ?_
      refine g_getI 16 (gd rfl) rfl rfl rfl (fun z13 e13 => ?_)
      have q13 : u_2_1 = z13 := (e_2_1).trans e13.symm
      subst q13
      refine g_cmp_ge 19 83 (gd rfl) rfl rfl (fun c16 => ?_) (fun c16 => ?_)
      · skip
        refine g_iload_n 84 (gd rfl) rfl rfl ?_
        exact g_ireturn (gd rfl) rfl rfl (hP _ _ ⟨y11_2, rfl, rfl, in_w 0 2016 j11_2 rfl⟩)
      · skip
        have i16 := r_lt1 0 31 c16 j11_3 ro_2_1 rfl
        have i16a := r_lt2 1 32 c16 j11_3 ro_2_1 rfl
        refine g_iconst 0 20 (gd rfl) rfl rfl ?_
        refine g_istore 22 (gd rfl) rfl (Nat.le_of_ble_eq_true rfl) ?_
        refine g_aload_n 23 (gd rfl) rfl rfl ?_
        refine g_getA (q2 := 10) 26 (gd rfl) rfl rfl rfl rfl ?_
        refine g_iload_n 27 (gd rfl) rfl rfl ?_
        refine g_iaload 28 (gd rfl) rfl (n := 32) rfl (in_ix i16 rfl) (fun z27 e27 => ?_)
        refine g_istore 30 (gd rfl) rfl (Nat.le_of_ble_eq_true rfl) ?_
        exact gg_w (by first | exact Nat.le_add_right _ _ | exact gw2 | exact gw3 | exact gwe rfl | exact gwf rfl | exact gwg rfl | exact gwh rfl | omega) (gg_f (gf_cons rfl (gf_cons rfl (gf_cons rfl (gf_cons rfl (gf_cons rfl (gf_cons rfl gf_nil)))))) (ct30 4294967296  (Int32.ofInt 0) z27  (in_w 0 31 i16 rfl) (mb_in _)))
  refine g_enter2 (k := 71) (N := 127560528781234) (by first | exact dq1 hd rfl | exact dq0 hd rfl | exact dq2 hd rfl | exact dq3 hd rfl | omega) rfl (Nat.le_of_ble_eq_true rfl) ?_
  refine g_iload_n 1 (gd rfl) rfl rfl ?_
  refine g_iconst 1 2 (gd rfl) rfl rfl ?_
  refine g_cmp_ge 5 7 (gd rfl) rfl rfl (fun c2 => ?_) (fun c2 => ?_)
  · skip
    refine g_iconst 0 8 (gd rfl) rfl rfl ?_
    refine g_istore_n 9 (gd rfl) rfl (Nat.le_of_ble_eq_true rfl) ?_
    refine g_iconst 0 10 (gd rfl) rfl rfl ?_
    refine g_istore_n 11 (gd rfl) rfl (Nat.le_of_ble_eq_true rfl) ?_
    have n11 : 0 ≤ ((Int32.ofInt 0)).toInt := by (first | have a0 := in_u ro_2_1 | (have a0 := ro_2_1; unfold In at a0)); (first | have a1 := in_u h1 | (have a1 := h1; unfold In at a1)); (first | have a2 := in_u ((in_c 0 rfl)) | (have a2 := (in_c 0 rfl); unfold In at a2)); omega
    have n11a : ((Int32.ofInt 0)).toInt ≤ 63 * ((Int32.ofInt 0)).toInt := by (first | have a0 := in_u ro_2_1 | (have a0 := ro_2_1; unfold In at a0)); (first | have a1 := in_u h1 | (have a1 := h1; unfold In at a1)); (first | have a2 := in_u ((in_c 0 rfl)) | (have a2 := (in_c 0 rfl); unfold In at a2)); omega
    exact gg_w (by first | exact Nat.le_of_ble_eq_true rfl | omega) (gg_f (gf_cons rfl (gf_cons rfl (gf_cons rfl (gf_cons rfl gf_nil)))) (ct11 33  (Int32.ofInt 0) (Int32.ofInt 0)  (in_w 0 2016 (in_c 0 rfl) rfl) (in_w 0 32 (in_c 0 rfl) rfl) n11 n11a (m_in 33 (in_w 0 32 (in_c 0 rfl) rfl) rfl)))
  · skip
    exact n_lt c2 h1 (in_c 1 rfl) rfl

/-- GraphHouse$Engine.lettersOf -/
theorem k_71_32 {Z : AmZ} {A : Nat → Nat} {s : GS} {ex : va_W} {d : Nat} {X : AmX} {x1 : Int32} (hd : 4 ≤ d) (hI : Inv s) (h1 : In x1 1 4) : GC Z d 71 [.ref (A 32), .int x1] (WW Z A s ++ ex) 0 0 (fun v u => ∃ z : Int32, v = some (.int z) ∧ u = WW Z A s ++ ex ∧ In z 0 2016) X := by
  intro post xp hP hX
  obtain ⟨u_32_1, e_32_1⟩ : ∃ w, w = s.2.2.1 32 1 := ⟨_, rfl⟩
  have ro_32_1 := inv_F hI 0 32 rfl e_32_1
  have ct11 : ∀ (k11 : Nat) (y11_2 : Int32) (y11_3 : Int32), (In y11_2 0 2016) → (In y11_3 0 32) → (0 ≤ (y11_2).toInt) → ((y11_2).toInt ≤ 63 * (y11_3).toInt) → 32 - (y11_3).toInt < (k11 : Int) → GG Z (d - 1) 71 post (gx xp) (1 + k11 * 3865470569101) 11 (fun j => xlook j [(0, .ref (A 32)), (1, .int x1), (2, .int y11_2), (3, .int y11_3)]) [] (WW Z A s ++ ex) 0 0 := by
    intro k11
    induction k11 with
    | zero => intro y11_2 y11_3 j11_2 j11_3 n11_0 n11_1 mm11; exact m_no mm11 j11_3 rfl
    | succ k11 ih11 =>
      intro y11_2 y11_3 j11_2 j11_3 n11_0 n11_1 mm11
      refine gg_w (M := 1 + k11 * 3865470569101 + 3865470569101) gws ?_
      have ct30 : ∀ (k30 : Nat) (y30_4 : Int32) (y30_5 : Int32), (In y11_3 0 31) → ((y30_5.toBitVec.toNat : Nat) : Int) < (k30 : Int) → GG Z (d - 1) 71 post (gx xp) (1 + k11 * 3865470569101 + 1 + k30 * 900) 30 (fun j => xlook j [(0, .ref (A 32)), (1, .int x1), (2, .int y11_2), (3, .int y11_3), (4, .int y30_4), (5, .int y30_5)]) [] (WW Z A s ++ ex) 0 0 := by
        intro k30
        induction k30 with
        | zero => intro y30_4 y30_5 j30_3 mm30; exact absurd mm30 (Int.not_lt.mpr (Int.natCast_nonneg _))
        | succ k30 ih30 =>
          intro y30_4 y30_5 j30_3 mm30
          refine gg_w (M := 1 + k11 * 3865470569101 + 1 + k30 * 900 + 900) gws ?_
          refine g_iload 32 (gd rfl) rfl rfl ?_
          refine g_if_eq 35 61 (gd rfl) rfl rfl (fun c32 => ?_) (fun c32 => ?_)
          · skip
            have i32 := z_eq 0 0 c32 (i_rng y30_5) rfl
            refine g_iload_n 62 (gd rfl) rfl rfl ?_
            refine g_iload 64 (gd rfl) rfl rfl ?_
            refine g_iconst 1 65 (gd rfl) rfl rfl ?_
            refine g_iload_n 66 (gd rfl) rfl rfl ?_
            refine g_iload_n 67 (gd rfl) rfl rfl ?_
            refine g_irem 68 (gd rfl) rfl (dv_nz h1 rfl) (fun z67 e67 => ?_)
            have i67 := in_remv 3 e67 j30_3 h1 rfl
            refine g_ishl 69 (gd rfl) rfl (fun z68 e68 => ?_)
            refine g_iconst (-1) 70 (gd rfl) rfl rfl ?_
            refine g_ixor 71 (gd rfl) rfl (fun z70 e70 => ?_)
            refine g_iand 72 (gd rfl) rfl (fun z71 e71 => ?_)
            refine g_calls (As := [.int z71]) (r := [.int y11_2]) 75 (gd rfl) rfl rfl rfl rfl rfl (Nat.le_of_ble_eq_true rfl) (Nat.zero_le _) (Nat.zero_le _) (k_414b (by first | exact dq1 hd rfl | exact dq0 hd rfl | exact dq2 hd rfl | exact dq3 hd rfl | omega) hI ) (fun v u h => ?_)
            obtain ⟨z72, rfl, rfl, i72⟩ := h
            show GG _ _ _ _ _ _ _ _ [.int z72, .int y11_2] _ _ _
            refine g_iadd 76 (gd rfl) rfl (fun z75 e75 => ?_)
            have i75 := in_add 0 2048 e75 j11_2 i72 rfl rfl
            refine g_istore_n 77 (gd rfl) rfl (Nat.le_of_ble_eq_true rfl) ?_
            refine g_iinc 80 (gd rfl) rfl rfl (Nat.le_of_ble_eq_true rfl) (fun z77 e77 => ?_)
            have i77 := in_add 1 32 e77 j30_3 (in_c 1 rfl) rfl rfl
            refine g_goto 11 (gd rfl) rfl ?_
            have i11 : In z75 0 2016 := by exact ⟨by (first | have a0 := in_u i32 | (have a0 := i32; unfold In at a0)); (first | have a1 := in_u j30_3 | (have a1 := j30_3; unfold In at a1)); (first | have a2 := in_u j11_2 | (have a2 := j11_2; unfold In at a2)); (first | have a3 := in_u h1 | (have a3 := h1; unfold In at a3)); (first | have a4 := in_u ro_32_1 | (have a4 := ro_32_1; unfold In at a4)); (first | have a5 := in_u i77 | (have a5 := i77; unfold In at a5)); have a6 := t_add e77 j30_3 (in_c 1 rfl) rfl; (first | have a7 := in_u ((in_c 1 rfl)) | (have a7 := (in_c 1 rfl); unfold In at a7)); (first | have a8 := in_u i75 | (have a8 := i75; unfold In at a8)); have a9 := t_add e75 j11_2 i72 rfl; (first | have a10 := in_u i72 | (have a10 := i72; unfold In at a10)); omega, by (first | have a0 := in_u i32 | (have a0 := i32; unfold In at a0)); (first | have a1 := in_u j30_3 | (have a1 := j30_3; unfold In at a1)); (first | have a2 := in_u j11_2 | (have a2 := j11_2; unfold In at a2)); (first | have a3 := in_u h1 | (have a3 := h1; unfold In at a3)); (first | have a4 := in_u ro_32_1 | (have a4 := ro_32_1; unfold In at a4)); (first | have a5 := in_u i77 | (have a5 := i77; unfold In at a5)); have a6 := t_add e77 j30_3 (in_c 1 rfl) rfl; (first | have a7 := in_u ((in_c 1 rfl)) | (have a7 := (in_c 1 rfl); unfold In at a7)); (first | have a8 := in_u i75 | (have a8 := i75; unfold In at a8)); have a9 := t_add e75 j11_2 i72 rfl; (first | have a10 := in_u i72 | (have a10 := i72; unfold In at a10)); omega⟩
            have n11 : 0 ≤ (z75).toInt := by (first | have a0 := in_u i32 | (have a0 := i32; unfold In at a0)); (first | have a1 := in_u j30_3 | (have a1 := j30_3; unfold In at a1)); (first | have a2 := in_u j11_2 | (have a2 := j11_2; unfold In at a2)); (first | have a3 := in_u h1 | (have a3 := h1; unfold In at a3)); (first | have a4 := in_u ro_32_1 | (have a4 := ro_32_1; unfold In at a4)); (first | have a5 := in_u i77 | (have a5 := i77; unfold In at a5)); have a6 := t_add e77 j30_3 (in_c 1 rfl) rfl; (first | have a7 := in_u ((in_c 1 rfl)) | (have a7 := (in_c 1 rfl); unfold In at a7)); (first | have a8 := in_u i11 | (have a8 := i11; unfold In at a8)); have a9 := t_add e75 j11_2 i72 rfl; (first | have a10 := in_u i72 | (have a10 := i72; unfold In at a10)); omega
            have n11a : (z75).toInt ≤ 63 * (z77).toInt := by (first | have a0 := in_u i32 | (have a0 := i32; unfold In at a0)); (first | have a1 := in_u j30_3 | (have a1 := j30_3; unfold In at a1)); (first | have a2 := in_u j11_2 | (have a2 := j11_2; unfold In at a2)); (first | have a3 := in_u h1 | (have a3 := h1; unfold In at a3)); (first | have a4 := in_u ro_32_1 | (have a4 := ro_32_1; unfold In at a4)); (first | have a5 := in_u i77 | (have a5 := i77; unfold In at a5)); have a6 := t_add e77 j30_3 (in_c 1 rfl) rfl; (first | have a7 := in_u ((in_c 1 rfl)) | (have a7 := (in_c 1 rfl); unfold In at a7)); (first | have a8 := in_u i11 | (have a8 := i11; unfold In at a8)); have a9 := t_add e75 j11_2 i72 rfl; (first | have a10 := in_u i72 | (have a10 := i72; unfold In at a10)); omega
            exact gg_w (by first | exact Nat.le_add_right _ _ | exact gw2 | exact gw3 | exact gwe rfl | exact gwf rfl | exact gwg rfl | exact gwh rfl | omega) (gg_f (gf_cons rfl (gf_cons rfl (gf_cons rfl (gf_cons rfl gf_nil)))) (ih11  z75 z77  i11 (in_w 0 32 i77 rfl) n11 n11a (m_up mm11 (t_add e77 j30_3 (in_c 1 rfl) rfl) (in_w 1 1 (in_c 1 rfl) rfl))))
          · skip
            refine g_iload 37 (gd rfl) rfl rfl ?_
            refine g_iconst 1 38 (gd rfl) rfl rfl ?_
            refine g_iload 40 (gd rfl) rfl rfl ?_
            refine g_calls (As := [.int y30_5]) (r := [.int (Int32.ofInt 1), .int y30_4]) 43 (gd rfl) rfl rfl rfl rfl rfl (Nat.le_of_ble_eq_true rfl) (Nat.zero_le _) (Nat.zero_le _) (k_264n (by first | exact dq1 hd rfl | exact dq0 hd rfl | exact dq2 hd rfl | exact dq3 hd rfl | omega) c32) (fun v u h => ?_)
            obtain ⟨z40, rfl, rfl, i40, hb40, hl40⟩ := h
            show GG _ _ _ _ _ _ _ _ [.int z40, .int (Int32.ofInt 1), .int y30_4] _ _ _
            refine g_iload_n 44 (gd rfl) rfl rfl ?_
            refine g_irem 45 (gd rfl) rfl (dv_nz h1 rfl) (fun z44 e44 => ?_)
            have i44 := in_remv 3 e44 i40 h1 rfl
            refine g_ishl 46 (gd rfl) rfl (fun z45 e45 => ?_)
            refine g_ior 47 (gd rfl) rfl (fun z46 e46 => ?_)
            refine g_istore 49 (gd rfl) rfl (Nat.le_of_ble_eq_true rfl) ?_
            refine g_iload 51 (gd rfl) rfl rfl ?_
            refine g_iload 53 (gd rfl) rfl rfl ?_
            refine g_iconst 1 54 (gd rfl) rfl rfl ?_
            refine g_isub 55 (gd rfl) rfl (fun z54 e54 => ?_)
            refine g_iand 56 (gd rfl) rfl (fun z55 e55 => ?_)
            refine g_istore 58 (gd rfl) rfl (Nat.le_of_ble_eq_true rfl) ?_
            refine g_goto 30 (gd rfl) rfl ?_
            exact gg_w (by first | exact Nat.le_add_right _ _ | exact gw2 | exact gw3 | exact gwe rfl | exact gwf rfl | exact gwg rfl | exact gwh rfl | omega) (gg_f (gf_cons rfl (gf_cons rfl (gf_cons rfl (gf_cons rfl (gf_cons rfl (gf_cons rfl gf_nil)))))) (ih30  z46 z55  (in_w 0 31 j30_3 rfl) (mb e55 e54 c32 mm30)))
      refine g_iload_n 12 (gd rfl) rfl rfl ?_
      refine g_aload_n 13 (gd rfl) rfl rfl ?_
      refine g_getI 16 (gd rfl) rfl rfl rfl (fun z13 e13 => ?_)
      have q13 : u_32_1 = z13 := (e_32_1).trans e13.symm
      subst q13
      refine g_cmp_ge 19 83 (gd rfl) rfl rfl (fun c16 => ?_) (fun c16 => ?_)
      · skip
        refine g_iload_n 84 (gd rfl) rfl rfl ?_
        exact g_ireturn (gd rfl) rfl rfl (hP _ _ ⟨y11_2, rfl, rfl, in_w 0 2016 j11_2 rfl⟩)
      · skip
        have i16 := r_lt1 0 31 c16 j11_3 ro_32_1 rfl
        have i16a := r_lt2 1 32 c16 j11_3 ro_32_1 rfl
        refine g_iconst 0 20 (gd rfl) rfl rfl ?_
        refine g_istore 22 (gd rfl) rfl (Nat.le_of_ble_eq_true rfl) ?_
        refine g_aload_n 23 (gd rfl) rfl rfl ?_
        refine g_getA (q2 := 40) 26 (gd rfl) rfl rfl rfl rfl ?_
        refine g_iload_n 27 (gd rfl) rfl rfl ?_
        refine g_iaload 28 (gd rfl) rfl (n := 32) rfl (in_ix i16 rfl) (fun z27 e27 => ?_)
        refine g_istore 30 (gd rfl) rfl (Nat.le_of_ble_eq_true rfl) ?_
        exact gg_w (by first | exact Nat.le_add_right _ _ | exact gw2 | exact gw3 | exact gwe rfl | exact gwf rfl | exact gwg rfl | exact gwh rfl | omega) (gg_f (gf_cons rfl (gf_cons rfl (gf_cons rfl (gf_cons rfl (gf_cons rfl (gf_cons rfl gf_nil)))))) (ct30 4294967296  (Int32.ofInt 0) z27  (in_w 0 31 i16 rfl) (mb_in _)))
  refine g_enter2 (k := 71) (N := 127560528781234) (by first | exact dq1 hd rfl | exact dq0 hd rfl | exact dq2 hd rfl | exact dq3 hd rfl | omega) rfl (Nat.le_of_ble_eq_true rfl) ?_
  refine g_iload_n 1 (gd rfl) rfl rfl ?_
  refine g_iconst 1 2 (gd rfl) rfl rfl ?_
  refine g_cmp_ge 5 7 (gd rfl) rfl rfl (fun c2 => ?_) (fun c2 => ?_)
  · skip
    refine g_iconst 0 8 (gd rfl) rfl rfl ?_
    refine g_istore_n 9 (gd rfl) rfl (Nat.le_of_ble_eq_true rfl) ?_
    refine g_iconst 0 10 (gd rfl) rfl rfl ?_
    refine g_istore_n 11 (gd rfl) rfl (Nat.le_of_ble_eq_true rfl) ?_
    have n11 : 0 ≤ ((Int32.ofInt 0)).toInt := by (first | have a0 := in_u ro_32_1 | (have a0 := ro_32_1; unfold In at a0)); (first | have a1 := in_u h1 | (have a1 := h1; unfold In at a1)); (first | have a2 := in_u ((in_c 0 rfl)) | (have a2 := (in_c 0 rfl); unfold In at a2)); omega
    have n11a : ((Int32.ofInt 0)).toInt ≤ 63 * ((Int32.ofInt 0)).toInt := by (first | have a0 := in_u ro_32_1 | (have a0 := ro_32_1; unfold In at a0)); (first | have a1 := in_u h1 | (have a1 := h1; unfold In at a1)); (first | have a2 := in_u ((in_c 0 rfl)) | (have a2 := (in_c 0 rfl); unfold In at a2)); omega
    exact gg_w (by first | exact Nat.le_of_ble_eq_true rfl | omega) (gg_f (gf_cons rfl (gf_cons rfl (gf_cons rfl (gf_cons rfl gf_nil)))) (ct11 33  (Int32.ofInt 0) (Int32.ofInt 0)  (in_w 0 2016 (in_c 0 rfl) rfl) (in_w 0 32 (in_c 0 rfl) rfl) n11 n11a (m_in 33 (in_w 0 32 (in_c 0 rfl) rfl) rfl)))
  · skip
    exact n_lt c2 h1 (in_c 1 rfl) rfl

def fm_72_102 : FM := ([], [], [(102, 10), (102, 11)], [])
/-- GraphHouse$Engine.sendAll -/
theorem k_72_102 {Z : AmZ} {A : Nat → Nat} {s : GS} {ex : va_W} {d : Nat} {X : AmX} {x1 : Int32} {x2 : Int32} {x3 : Int64} (hd : 3 ≤ d) (hI : Inv s) (h1 : In x1 0 2100) (h2 : In x2 0 90) : GC Z d 72 [.ref (A 102), .int x1, .int x2, .long x3] (WW Z A s ++ ex) 0 0 (fun v u => ∃ t : GS, Inv t ∧ Fr fm_72_102 s t ∧ ∃ z : Int32, v = some (.int z) ∧ u = WW Z A t ++ ex ∧ In z 0 2100) X := by
  intro post xp hP hX
  have ct6 : ∀ (k6 : Nat) (sc6 : GS) (y6_5 : Int32) (y6_6 : Int32), Inv sc6 → Fr fm_72_102 s sc6 → (In y6_5 0 2100) → (In y6_6 0 2100) → ((y6_5).toInt ≤ (y6_6).toInt + 0) → 2100 - (y6_6).toInt < (k6 : Int) → GG Z (d - 1) 72 post (gx xp) (1 + k6 * 900) 6 (fun j => xlook j [(0, .ref (A 102)), (1, .int x1), (2, .int x2), (3, .long x3), (5, .int y6_5), (6, .int y6_6)]) [] (WW Z A sc6 ++ ex) 0 0 := by
    intro k6
    induction k6 with
    | zero => intro sc6 y6_5 y6_6 hIc6 hFc6 j6_5 j6_6 l6_5 mm6; exact m_no mm6 j6_6 rfl
    | succ k6 ih6 =>
      intro sc6 y6_5 y6_6 hIc6 hFc6 j6_5 j6_6 l6_5 mm6
      refine gg_w (M := 1 + k6 * 900 + 900) gws ?_
      refine g_iload 8 (gd rfl) rfl rfl ?_
      refine g_iload_n 9 (gd rfl) rfl rfl ?_
      refine g_cmp_ge 12 51 (gd rfl) rfl rfl (fun c9 => ?_) (fun c9 => ?_)
      · skip
        refine g_aload_n 52 (gd rfl) rfl rfl ?_
        refine g_dup 53 (gd rfl) rfl rfl ?_
        refine g_getI 56 (gd rfl) rfl rfl rfl (fun z53 e53 => ?_)
        refine g_iload 58 (gd rfl) rfl rfl ?_
        refine g_iadd 59 (gd rfl) rfl (fun z58 e58 => ?_)
        refine g_putI 62 (gd rfl) rfl rfl rfl rfl ?_
        have hI59 := inv_sF (q := 102) (j := 11) hIc6 rfl (in_w (-2147483648) 2147483647 (i_rng z58) rfl)
        refine g_iload 64 (gd rfl) rfl rfl ?_
        exact g_ireturn (gd rfl) rfl rfl (hP _ _ ⟨(sF sc6 102 11 z58), hI59, (fr_sF rfl hFc6), y6_5, rfl, rfl, in_w 0 2100 j6_5 rfl⟩)
      · skip
        have i9 := r_lt1 0 2099 c9 j6_6 h1 rfl
        have i9a := r_lt2 1 2100 c9 j6_6 h1 rfl
        refine g_aload_n 13 (gd rfl) rfl rfl ?_
        refine g_dup 14 (gd rfl) rfl rfl ?_
        refine g_getI 17 (gd rfl) rfl rfl rfl (fun z14 e14 => ?_)
        refine g_iconst 1 18 (gd rfl) rfl rfl ?_
        refine g_iadd 19 (gd rfl) rfl (fun z18 e18 => ?_)
        refine g_putI 22 (gd rfl) rfl rfl rfl rfl ?_
        have hI19 := inv_sF (q := 102) (j := 10) hIc6 rfl (in_w (-2147483648) 2147483647 (i_rng z18) rfl)
        refine g_lload_n 23 (gd rfl) rfl rfl ?_
        refine g_ldc2_w (-7046029254386353131) 26 (gd rfl) rfl rfl ?_
        refine g_aload_n 27 (gd rfl) rfl rfl ?_
        refine g_getI 30 (gd rfl) rfl rfl rfl (fun z27 e27 => ?_)
        have q27 : z18 = z27 := (sF_get).trans e27.symm
        subst q27
        refine g_i2l 31 (gd rfl) rfl (fun z30 e30 => ?_)
        have i30 := l_i e30 (i_rng z18)
        refine g_lmul 32 (gd rfl) rfl (fun z31 e31 => ?_)
        refine g_ladd 33 (gd rfl) rfl (fun z32 e32 => ?_)
        refine g_calls (As := [.long z32]) (r := []) 36 (gd rfl) rfl rfl rfl rfl rfl (Nat.le_of_ble_eq_true rfl) (mc := 0) (ms := 0) (Nat.zero_le _) (Nat.zero_le _) (P := fun v u => _) ?_ (fun v u h => h)
        intro po33 xx33 hp33 hx33
        refine g_enter2 (k := 73) (N := 300) (by first | exact dq1 hd rfl | exact dq0 hd rfl | exact dq2 hd rfl | exact dq3 hd rfl | omega) rfl (Nat.le_of_ble_eq_true rfl) ?_
        refine g_lload_n 1 (gd rfl) rfl rfl ?_
        refine g_lstore_n 2 (gd rfl) rfl (Nat.le_of_ble_eq_true rfl) ?_
        refine g_lload_n 3 (gd rfl) rfl rfl ?_
        refine g_lload_n 4 (gd rfl) rfl rfl ?_
        refine g_bipush 30 6 (gd rfl) rfl rfl ?_
        refine g_lushr 7 (gd rfl) rfl (fun z33x6 e33x6 => ?_)
        refine g_lxor 8 (gd rfl) rfl (fun z33x7 e33x7 => ?_)
        refine g_ldc2_w (-4658895280553007687) 11 (gd rfl) rfl rfl ?_
        refine g_lmul 12 (gd rfl) rfl (fun z33x11 e33x11 => ?_)
        refine g_lstore_n 13 (gd rfl) rfl (Nat.le_of_ble_eq_true rfl) ?_
        refine g_lload_n 14 (gd rfl) rfl rfl ?_
        refine g_lload_n 15 (gd rfl) rfl rfl ?_
        refine g_bipush 27 17 (gd rfl) rfl rfl ?_
        refine g_lushr 18 (gd rfl) rfl (fun z33x17 e33x17 => ?_)
        refine g_lxor 19 (gd rfl) rfl (fun z33x18 e33x18 => ?_)
        refine g_ldc2_w (-7723592293110705685) 22 (gd rfl) rfl rfl ?_
        refine g_lmul 23 (gd rfl) rfl (fun z33x22 e33x22 => ?_)
        refine g_lstore_n 24 (gd rfl) rfl (Nat.le_of_ble_eq_true rfl) ?_
        refine g_lload_n 25 (gd rfl) rfl rfl ?_
        refine g_lload_n 26 (gd rfl) rfl rfl ?_
        refine g_bipush 31 28 (gd rfl) rfl rfl ?_
        refine g_lushr 29 (gd rfl) rfl (fun z33x28 e33x28 => ?_)
        refine g_lxor 30 (gd rfl) rfl (fun z33x29 e33x29 => ?_)
        refine g_lstore_n 31 (gd rfl) rfl (Nat.le_of_ble_eq_true rfl) ?_
        refine g_lload_n 32 (gd rfl) rfl rfl ?_
        refine g_bipush 33 34 (gd rfl) rfl rfl ?_
        refine g_lushr 35 (gd rfl) rfl (fun z33x34 e33x34 => ?_)
        refine g_ldc2_w 100 38 (gd rfl) rfl rfl ?_
        refine g_lrem 39 (gd rfl) rfl (by decide) (fun z33x38 e33x38 => ?_)
        have i33x38 := l_rem (-99) 99 e33x38 rfl
        refine g_lreturn (gd rfl) rfl (hp33 _ _ ?_)
        show GG _ _ _ _ _ _ _ _ [.long z33x38] _ _ _
        refine g_iload_n 37 (gd rfl) rfl rfl ?_
        refine g_i2l 38 (gd rfl) rfl (fun z37 e37 => ?_)
        have i37 := l_i e37 h2
        refine g_lcmp 39 (gd rfl) rfl (fun z38 e38 => ?_)
        have i38 := lc_in e38
        refine g_if_ge 42 45 (gd rfl) rfl rfl (fun c39 => ?_) (fun c39 => ?_)
        · skip
          have i39 := z_ge 0 1 c39 i38 rfl
          have c39a := lc_ge e38 c39
          have i39a := lr_le2 0 99 c39a i37 i33x38 rfl
          refine g_iinc 48 (gd rfl) rfl rfl (Nat.le_of_ble_eq_true rfl) (fun z45 e45 => ?_)
          have i45 := in_add 1 2100 e45 i9 (in_c 1 rfl) rfl rfl
          refine g_goto 6 (gd rfl) rfl ?_
          have l6 := rl_0 l6_5 (t_add e45 i9 (in_c 1 rfl) rfl) (in_w 0 1 (in_c 1 rfl) rfl)
          exact gg_w (by first | exact Nat.le_add_right _ _ | exact gw2 | exact gw3 | exact gwe rfl | exact gwf rfl | exact gwg rfl | exact gwh rfl | omega) (gg_f (gf_cons rfl (gf_cons rfl (gf_cons rfl (gf_cons rfl (gf_cons rfl (gf_cons rfl gf_nil)))))) (ih6 (sF sc6 102 10 z18) y6_5 z45 hI19 (fr_sF rfl hFc6) (rl_w 0 2100 l6 j6_5 (in_w 0 2100 i45 rfl) rfl) (in_w 0 2100 i45 rfl) l6 (m_up mm6 (t_add e45 i9 (in_c 1 rfl) rfl) (in_w 1 1 (in_c 1 rfl) rfl))))
        · skip
          have i39 := z_lt (-1) (-1) c39 i38 rfl
          have c39a := lc_lt e38 c39
          have i39a := lr_lt1 (-99) 89 c39a i33x38 i37 rfl
          refine g_iinc 45 (gd rfl) rfl rfl (Nat.le_of_ble_eq_true rfl) (fun z42 e42 => ?_)
          have i42 := in_add 1 2101 e42 j6_5 (in_c 1 rfl) rfl rfl
          refine g_iinc 48 (gd rfl) rfl rfl (Nat.le_of_ble_eq_true rfl) (fun z45 e45 => ?_)
          have i45 := in_add 1 2100 e45 i9 (in_c 1 rfl) rfl rfl
          refine g_goto 6 (gd rfl) rfl ?_
          have l6 := rl_1 l6_5 (t_add e42 j6_5 (in_c 1 rfl) rfl) (in_c 1 rfl) (t_add e45 i9 (in_c 1 rfl) rfl) (in_c 1 rfl) rfl
          exact gg_w (by first | exact Nat.le_add_right _ _ | exact gw2 | exact gw3 | exact gwe rfl | exact gwf rfl | exact gwg rfl | exact gwh rfl | omega) (gg_f (gf_cons rfl (gf_cons rfl (gf_cons rfl (gf_cons rfl (gf_cons rfl (gf_cons rfl gf_nil)))))) (ih6 (sF sc6 102 10 z18) z42 z45 hI19 (fr_sF rfl hFc6) (rl_w 0 2100 l6 i42 (in_w 0 2100 i45 rfl) rfl) (in_w 0 2100 i45 rfl) l6 (m_up mm6 (t_add e45 i9 (in_c 1 rfl) rfl) (in_w 1 1 (in_c 1 rfl) rfl))))
  refine g_enter2 (k := 72) (N := 1891801) (by first | exact dq1 hd rfl | exact dq0 hd rfl | exact dq2 hd rfl | exact dq3 hd rfl | omega) rfl (Nat.le_of_ble_eq_true rfl) ?_
  refine g_iconst 0 1 (gd rfl) rfl rfl ?_
  refine g_istore 3 (gd rfl) rfl (Nat.le_of_ble_eq_true rfl) ?_
  refine g_iconst 0 4 (gd rfl) rfl rfl ?_
  refine g_istore 6 (gd rfl) rfl (Nat.le_of_ble_eq_true rfl) ?_
  have l6 := rl_in 0 (in_c 0 rfl) (in_c 0 rfl) rfl
  exact gg_w (by first | exact Nat.le_of_ble_eq_true rfl | omega) (gg_f (gf_cons rfl (gf_cons rfl (gf_cons rfl (gf_cons rfl (gf_cons rfl (gf_cons rfl gf_nil)))))) (ct6 2101 s (Int32.ofInt 0) (Int32.ofInt 0) hI fr_rf (rl_w 0 2100 l6 (in_c 0 rfl) (in_w 0 2100 (in_c 0 rfl) rfl) rfl) (in_w 0 2100 (in_c 0 rfl) rfl) l6 (m_in 2101 (in_w 0 2100 (in_c 0 rfl) rfl) rfl)))

def fm_76_65_2 : FM := ([66, 67], [], [], [])
/-- GraphHouse$Flows.openAll -/
theorem k_76_65_2 {Z : AmZ} {A : Nat → Nat} {s : GS} {ex : va_W} {d : Nat} {X : AmX}  (hd : 3 ≤ d) (hI : Inv s)  : GC Z d 76 [.ref (A 65), .ref (A 2)] (WW Z A s ++ ex) 0 0 (fun v u => ∃ t : GS, Inv t ∧ Fr fm_76_65_2 s t ∧ v = none ∧ u = WW Z A t ++ ex) X := by
  intro post xp hP hX
  obtain ⟨u_2_3, e_2_3⟩ : ∃ w, w = s.2.2.1 2 3 := ⟨_, rfl⟩
  have ro_2_3 := inv_F hI 0 160 rfl e_2_3
  have ct18 : ∀ (k18 : Nat) (sc18 : GS) (y18_2 : Int32), Inv sc18 → Fr fm_76_65_2 s sc18 → (In y18_2 0 160) → 160 - (y18_2).toInt < (k18 : Int) → GG Z (d - 1) 76 post (gx xp) (1 + k18 * 900) 18 (fun j => xlook j [(0, .ref (A 65)), (1, .ref (A 2)), (2, .int y18_2)]) [] (WW Z A sc18 ++ ex) 0 0 := by
    intro k18
    induction k18 with
    | zero => intro sc18 y18_2 hIc18 hFc18 j18_2 mm18; exact m_no mm18 j18_2 rfl
    | succ k18 ih18 =>
      intro sc18 y18_2 hIc18 hFc18 j18_2 mm18
      refine gg_w (M := 1 + k18 * 900 + 900) gws ?_
      refine g_iload_n 19 (gd rfl) rfl rfl ?_
      refine g_aload_n 20 (gd rfl) rfl rfl ?_
      refine g_getI 23 (gd rfl) rfl rfl rfl (fun z20 e20 => ?_)
      have q20 : u_2_3 = z20 := (fr_F e_2_3 hFc18 rfl).trans e20.symm
      subst q20
      refine g_cmp_ge 26 101 (gd rfl) rfl rfl (fun c23 => ?_) (fun c23 => ?_)
      · skip
        exact g_return (gd rfl) rfl (hP _ _ ⟨sc18, hIc18, hFc18, rfl, rfl⟩)
      · skip
        have i23 := r_lt1 0 159 c23 j18_2 ro_2_3 rfl
        have i23a := r_lt2 1 160 c23 j18_2 ro_2_3 rfl
        refine g_aload_n 27 (gd rfl) rfl rfl ?_
        refine g_iload_n 28 (gd rfl) rfl rfl ?_
        refine g_callv (X := _) (As := [.int y18_2]) (r := []) (b := A 2) (q := 2) 31 (gd rfl) rfl rfl rfl rfl rfl (ww_o rfl) (Nat.le_of_ble_eq_true rfl) (mc := 0) (ms := 0) (Nat.zero_le _) (Nat.zero_le _) (P := fun v u => _) ?_ (fun e u h => h) (fun v u h => h)
        intro po28 xx28 hp28 hx28
        refine g_enter2 (k := 97) (N := 300) (by first | exact dq1 hd rfl | exact dq0 hd rfl | exact dq2 hd rfl | exact dq3 hd rfl | omega) rfl (Nat.le_of_ble_eq_true rfl) ?_
        refine g_aload_n 1 (gd rfl) rfl rfl ?_
        refine g_getA (q2 := 4) 4 (gd rfl) rfl rfl rfl rfl ?_
        refine g_iload_n 5 (gd rfl) rfl rfl ?_
        refine g_iaload 6 (gd rfl) rfl (n := 160) rfl (in_ix i23 rfl) (fun z28x5 e28x5 => ?_)
        have i28x5 := inv_I hIc18 (n := 160) (t := 0) (-1) 31 rfl (in_ix i23 rfl) rfl e28x5
        refine g_iconst (-1) 7 (gd rfl) rfl rfl ?_
        refine g_cmp_eq 10 29 (gd rfl) rfl rfl (fun c28x7 => ?_) (fun c28x7 => ?_)
        · skip
          have i28x7 := r_eq1 (-1) (-1) c28x7 i28x5 (in_c (-1) rfl) rfl
          refine g_iconst 0 30 (gd rfl) rfl rfl ?_
          refine g_ireturn (gd rfl) rfl (nb01 (in_w 0 1 (in_c 0 rfl) rfl)) (hp28 _ _ ?_)
          show GG _ _ _ _ _ _ _ _ [.int (Int32.ofInt 0)] _ _ _
          refine g_if_eq 34 95 (gd rfl) rfl rfl (fun c31 => ?_) (fun c31 => ?_)
          · skip
            refine g_iinc 98 (gd rfl) rfl rfl (Nat.le_of_ble_eq_true rfl) (fun z95 e95 => ?_)
            have i95 := in_add 1 160 e95 i23 (in_c 1 rfl) rfl rfl
            refine g_goto 18 (gd rfl) rfl ?_
            exact gg_w (by first | exact Nat.le_add_right _ _ | exact gw2 | exact gw3 | exact gwe rfl | exact gwf rfl | exact gwg rfl | exact gwh rfl | omega) (gg_f (gf_cons rfl (gf_cons rfl (gf_cons rfl gf_nil))) (ih18 sc18 z95 hIc18 hFc18 (in_w 0 160 i95 rfl) (m_up mm18 (t_add e95 i23 (in_c 1 rfl) rfl) (in_w 1 1 (in_c 1 rfl) rfl))))
          · skip
            exact zn_ne c31 (in_c 0 rfl) rfl
        · skip
          have i28x7 := r_ne1 0 31 c28x7 i28x5 (in_c (-1) rfl) rfl
          refine g_aload_n 11 (gd rfl) rfl rfl ?_
          refine g_getA (q2 := 4) 14 (gd rfl) rfl rfl rfl rfl ?_
          refine g_iload_n 15 (gd rfl) rfl rfl ?_
          refine g_iaload 16 (gd rfl) rfl (n := 160) rfl (in_ix i23 rfl) (fun z28x15 e28x15 => ?_)
          have q28x15 : z28x5 = z28x15 := (e28x5).trans e28x15.symm
          subst q28x15
          refine g_aload_n 17 (gd rfl) rfl rfl ?_
          refine g_getA (q2 := 5) 20 (gd rfl) rfl rfl rfl rfl ?_
          refine g_iload_n 21 (gd rfl) rfl rfl ?_
          refine g_iaload 22 (gd rfl) rfl (n := 160) rfl (in_ix i23 rfl) (fun z28x21 e28x21 => ?_)
          have i28x21 := inv_I hIc18 (n := 160) (t := 0) 0 31 rfl (in_ix i23 rfl) rfl e28x21
          refine g_cmp_eq 25 29 (gd rfl) rfl rfl (fun c28x22 => ?_) (fun c28x22 => ?_)
          · skip
            refine g_iconst 0 30 (gd rfl) rfl rfl ?_
            refine g_ireturn (gd rfl) rfl (nb01 (in_w 0 1 (in_c 0 rfl) rfl)) (hp28 _ _ ?_)
            show GG _ _ _ _ _ _ _ _ [.int (Int32.ofInt 0)] _ _ _
            refine g_if_eq 34 95 (gd rfl) rfl rfl (fun c31 => ?_) (fun c31 => ?_)
            · skip
              refine g_iinc 98 (gd rfl) rfl rfl (Nat.le_of_ble_eq_true rfl) (fun z95 e95 => ?_)
              have i95 := in_add 1 160 e95 i23 (in_c 1 rfl) rfl rfl
              refine g_goto 18 (gd rfl) rfl ?_
              exact gg_w (by first | exact Nat.le_add_right _ _ | exact gw2 | exact gw3 | exact gwe rfl | exact gwf rfl | exact gwg rfl | exact gwh rfl | omega) (gg_f (gf_cons rfl (gf_cons rfl (gf_cons rfl gf_nil))) (ih18 sc18 z95 hIc18 hFc18 (in_w 0 160 i95 rfl) (m_up mm18 (t_add e95 i23 (in_c 1 rfl) rfl) (in_w 1 1 (in_c 1 rfl) rfl))))
            · skip
              exact zn_ne c31 (in_c 0 rfl) rfl
          · skip
            refine g_iconst 1 26 (gd rfl) rfl rfl ?_
            refine g_goto 30 (gd rfl) rfl ?_
            refine g_ireturn (gd rfl) rfl (nb01 (in_w 0 1 (in_c 1 rfl) rfl)) (hp28 _ _ ?_)
            show GG _ _ _ _ _ _ _ _ [.int (Int32.ofInt 1)] _ _ _
            refine g_if_eq 34 95 (gd rfl) rfl rfl (fun c31 => ?_) (fun c31 => ?_)
            · skip
              exact zn_eq c31 (in_c 1 rfl) rfl
            · skip
              refine g_aload_n 35 (gd rfl) rfl rfl ?_
              refine g_getA (q2 := 7) 38 (gd rfl) rfl rfl rfl rfl ?_
              refine g_iload_n 39 (gd rfl) rfl rfl ?_
              refine g_iaload 40 (gd rfl) rfl (n := 160) rfl (in_ix i23 rfl) (fun z39 e39 => ?_)
              have i39 := inv_I hIc18 (n := 160) (t := 0) 0 1000000 rfl (in_ix i23 rfl) rfl e39
              refine g_if_le 43 95 (gd rfl) rfl rfl (fun c40 => ?_) (fun c40 => ?_)
              · skip
                have i40 := z_le 0 0 c40 i39 rfl
                refine g_iinc 98 (gd rfl) rfl rfl (Nat.le_of_ble_eq_true rfl) (fun z95 e95 => ?_)
                have i95 := in_add 1 160 e95 i23 (in_c 1 rfl) rfl rfl
                refine g_goto 18 (gd rfl) rfl ?_
                exact gg_w (by first | exact Nat.le_add_right _ _ | exact gw2 | exact gw3 | exact gwe rfl | exact gwf rfl | exact gwg rfl | exact gwh rfl | omega) (gg_f (gf_cons rfl (gf_cons rfl (gf_cons rfl gf_nil))) (ih18 sc18 z95 hIc18 hFc18 (in_w 0 160 i95 rfl) (m_up mm18 (t_add e95 i23 (in_c 1 rfl) rfl) (in_w 1 1 (in_c 1 rfl) rfl))))
              · skip
                have i40 := z_gt 1 1000000 c40 i39 rfl
                refine g_aload_n 44 (gd rfl) rfl rfl ?_
                refine g_getA (q2 := 66) 47 (gd rfl) rfl rfl rfl rfl ?_
                refine g_aload_n 48 (gd rfl) rfl rfl ?_
                refine g_getA (q2 := 4) 51 (gd rfl) rfl rfl rfl rfl ?_
                refine g_iload_n 52 (gd rfl) rfl rfl ?_
                refine g_iaload 53 (gd rfl) rfl (n := 160) rfl (in_ix i23 rfl) (fun z52 e52 => ?_)
                have q52 : z28x5 = z52 := (e28x5).trans e52.symm
                subst q52
                refine g_bipush 32 55 (gd rfl) rfl rfl ?_
                refine g_imul 56 (gd rfl) rfl (fun z55 e55 => ?_)
                have i55 := in_mulc 32 0 992 (Or.inr e55) i28x7 rfl rfl
                refine g_aload_n 57 (gd rfl) rfl rfl ?_
                refine g_getA (q2 := 5) 60 (gd rfl) rfl rfl rfl rfl ?_
                refine g_iload_n 61 (gd rfl) rfl rfl ?_
                refine g_iaload 62 (gd rfl) rfl (n := 160) rfl (in_ix i23 rfl) (fun z61 e61 => ?_)
                have q61 : z28x21 = z61 := (e28x21).trans e61.symm
                subst q61
                refine g_iadd 63 (gd rfl) rfl (fun z62 e62 => ?_)
                have i62 := in_add 0 1023 e62 i55 i28x21 rfl rfl
                refine g_dup2 64 (gd rfl) rfl rfl rfl ?_
                refine g_iaload 65 (gd rfl) rfl (n := 1024) rfl (in_ix i62 rfl) (fun z64 e64 => ?_)
                refine g_aload_n 66 (gd rfl) rfl rfl ?_
                refine g_getA (q2 := 7) 69 (gd rfl) rfl rfl rfl rfl ?_
                refine g_iload_n 70 (gd rfl) rfl rfl ?_
                refine g_iaload 71 (gd rfl) rfl (n := 160) rfl (in_ix i23 rfl) (fun z70 e70 => ?_)
                have q70 : z39 = z70 := (e39).trans e70.symm
                subst q70
                refine g_iadd 72 (gd rfl) rfl (fun z71 e71 => ?_)
                refine g_iastore 73 (gd rfl) rfl (n := 1024) rfl (in_ix i62 rfl) ?_
                have hI72 := inv_sI (q := 66) (j := z62.toNatClampNeg) hIc18 rfl (in_w (-2147483648) 2147483647 (i_rng z71) rfl)
                refine g_aload_n 74 (gd rfl) rfl rfl ?_
                refine g_getA (q2 := 67) 77 (gd rfl) rfl rfl rfl rfl ?_
                refine g_aload_n 78 (gd rfl) rfl rfl ?_
                refine g_getA (q2 := 4) 81 (gd rfl) rfl rfl rfl rfl ?_
                refine g_iload_n 82 (gd rfl) rfl rfl ?_
                refine g_iaload 83 (gd rfl) rfl (n := 160) rfl (in_ix i23 rfl) (fun z82 e82 => ?_)
                have q82 : z28x5 = z82 := (sI_ne rfl (e28x5)).trans e82.symm
                subst q82
                refine g_dup2 84 (gd rfl) rfl rfl rfl ?_
                refine g_iaload 85 (gd rfl) rfl (n := 32) rfl (in_ix i28x7 rfl) (fun z84 e84 => ?_)
                refine g_iconst 1 86 (gd rfl) rfl rfl ?_
                refine g_aload_n 87 (gd rfl) rfl rfl ?_
                refine g_getA (q2 := 5) 90 (gd rfl) rfl rfl rfl rfl ?_
                refine g_iload_n 91 (gd rfl) rfl rfl ?_
                refine g_iaload 92 (gd rfl) rfl (n := 160) rfl (in_ix i23 rfl) (fun z91 e91 => ?_)
                have q91 : z28x21 = z91 := (sI_ne rfl (e28x21)).trans e91.symm
                subst q91
                refine g_ishl 93 (gd rfl) rfl (fun z92 e92 => ?_)
                refine g_ior 94 (gd rfl) rfl (fun z93 e93 => ?_)
                refine g_iastore 95 (gd rfl) rfl (n := 32) rfl (in_ix i28x7 rfl) ?_
                have hI94 := inv_sI (q := 67) (j := z28x5.toNatClampNeg) hI72 rfl (in_w (-2147483648) 2147483647 (i_rng z93) rfl)
                refine g_iinc 98 (gd rfl) rfl rfl (Nat.le_of_ble_eq_true rfl) (fun z95 e95 => ?_)
                have i95 := in_add 1 160 e95 i23 (in_c 1 rfl) rfl rfl
                refine g_goto 18 (gd rfl) rfl ?_
                exact gg_w (by first | exact Nat.le_add_right _ _ | exact gw2 | exact gw3 | exact gwe rfl | exact gwf rfl | exact gwg rfl | exact gwh rfl | omega) (gg_f (gf_cons rfl (gf_cons rfl (gf_cons rfl gf_nil))) (ih18 (sI (sI sc18 66 z62.toNatClampNeg z71) 67 z28x5.toNatClampNeg z93) z95 hI94 (fr_sI rfl (fr_sI rfl hFc18)) (in_w 0 160 i95 rfl) (m_up mm18 (t_add e95 i23 (in_c 1 rfl) rfl) (in_w 1 1 (in_c 1 rfl) rfl))))
  refine g_enter2 (k := 76) (N := 145801) (by first | exact dq1 hd rfl | exact dq0 hd rfl | exact dq2 hd rfl | exact dq3 hd rfl | omega) rfl (Nat.le_of_ble_eq_true rfl) ?_
  refine g_aload_n 1 (gd rfl) rfl rfl ?_
  refine g_getA (q2 := 66) 4 (gd rfl) rfl rfl rfl rfl ?_
  refine g_iconst 0 5 (gd rfl) rfl rfl ?_
  refine g_calls (As := [.ref (A 66), .int (Int32.ofInt 0)]) (r := []) 8 (gd rfl) rfl rfl rfl rfl rfl (Nat.le_of_ble_eq_true rfl) (Nat.zero_le _) (Nat.zero_le _) (k_fillI 66 (by first | exact dq1 hd rfl | exact dq0 hd rfl | exact dq2 hd rfl | exact dq3 hd rfl | omega) hI (in_c 0 rfl) (n := 1024) rfl rfl rfl rfl) (fun v u h => ?_)
  obtain ⟨s5, hI5, hF5, rfl, rfl, fl5⟩ := h
  show GG _ _ _ _ _ _ _ _ [] _ _ _
  refine g_aload_n 9 (gd rfl) rfl rfl ?_
  refine g_getA (q2 := 67) 12 (gd rfl) rfl rfl rfl rfl ?_
  refine g_iconst 0 13 (gd rfl) rfl rfl ?_
  refine g_calls (As := [.ref (A 67), .int (Int32.ofInt 0)]) (r := []) 16 (gd rfl) rfl rfl rfl rfl rfl (Nat.le_of_ble_eq_true rfl) (Nat.zero_le _) (Nat.zero_le _) (k_fillI 67 (by first | exact dq1 hd rfl | exact dq0 hd rfl | exact dq2 hd rfl | exact dq3 hd rfl | omega) hI5 (in_c 0 rfl) (n := 32) rfl rfl rfl rfl) (fun v u h => ?_)
  obtain ⟨s13, hI13, hF13, rfl, rfl, fl13⟩ := h
  show GG _ _ _ _ _ _ _ _ [] _ _ _
  refine g_iconst 0 17 (gd rfl) rfl rfl ?_
  refine g_istore_n 18 (gd rfl) rfl (Nat.le_of_ble_eq_true rfl) ?_
  exact gg_w (by first | exact Nat.le_of_ble_eq_true rfl | omega) (gg_f (gf_cons rfl (gf_cons rfl (gf_cons rfl gf_nil))) (ct18 161 s13 (Int32.ofInt 0) hI13 (fr_tr rfl (fr_tr rfl fr_rf hF5) hF13) (in_w 0 160 (in_c 0 rfl) rfl) (m_in 161 (in_w 0 160 (in_c 0 rfl) rfl) rfl)))

def fm_76_65_32 : FM := ([66, 67], [], [], [])
/-- GraphHouse$Flows.openAll -/
theorem k_76_65_32 {Z : AmZ} {A : Nat → Nat} {s : GS} {ex : va_W} {d : Nat} {X : AmX}  (hd : 3 ≤ d) (hI : Inv s)  : GC Z d 76 [.ref (A 65), .ref (A 32)] (WW Z A s ++ ex) 0 0 (fun v u => ∃ t : GS, Inv t ∧ Fr fm_76_65_32 s t ∧ v = none ∧ u = WW Z A t ++ ex) X := by
  intro post xp hP hX
  obtain ⟨u_32_3, e_32_3⟩ : ∃ w, w = s.2.2.1 32 3 := ⟨_, rfl⟩
  have ro_32_3 := inv_F hI 0 160 rfl e_32_3
  have ct18 : ∀ (k18 : Nat) (sc18 : GS) (y18_2 : Int32), Inv sc18 → Fr fm_76_65_32 s sc18 → (In y18_2 0 160) → 160 - (y18_2).toInt < (k18 : Int) → GG Z (d - 1) 76 post (gx xp) (1 + k18 * 900) 18 (fun j => xlook j [(0, .ref (A 65)), (1, .ref (A 32)), (2, .int y18_2)]) [] (WW Z A sc18 ++ ex) 0 0 := by
    intro k18
    induction k18 with
    | zero => intro sc18 y18_2 hIc18 hFc18 j18_2 mm18; exact m_no mm18 j18_2 rfl
    | succ k18 ih18 =>
      intro sc18 y18_2 hIc18 hFc18 j18_2 mm18
      refine gg_w (M := 1 + k18 * 900 + 900) gws ?_
      refine g_iload_n 19 (gd rfl) rfl rfl ?_
      refine g_aload_n 20 (gd rfl) rfl rfl ?_
      refine g_getI 23 (gd rfl) rfl rfl rfl (fun z20 e20 => ?_)
      have q20 : u_32_3 = z20 := (fr_F e_32_3 hFc18 rfl).trans e20.symm
      subst q20
      refine g_cmp_ge 26 101 (gd rfl) rfl rfl (fun c23 => ?_) (fun c23 => ?_)
      · skip
        exact g_return (gd rfl) rfl (hP _ _ ⟨sc18, hIc18, hFc18, rfl, rfl⟩)
      · skip
        have i23 := r_lt1 0 159 c23 j18_2 ro_32_3 rfl
        have i23a := r_lt2 1 160 c23 j18_2 ro_32_3 rfl
        refine g_aload_n 27 (gd rfl) rfl rfl ?_
        refine g_iload_n 28 (gd rfl) rfl rfl ?_
        refine g_callv (X := _) (As := [.int y18_2]) (r := []) (b := A 32) (q := 32) 31 (gd rfl) rfl rfl rfl rfl rfl (ww_o rfl) (Nat.le_of_ble_eq_true rfl) (mc := 0) (ms := 0) (Nat.zero_le _) (Nat.zero_le _) (P := fun v u => _) ?_ (fun e u h => h) (fun v u h => h)
        intro po28 xx28 hp28 hx28
        refine g_enter2 (k := 97) (N := 300) (by first | exact dq1 hd rfl | exact dq0 hd rfl | exact dq2 hd rfl | exact dq3 hd rfl | omega) rfl (Nat.le_of_ble_eq_true rfl) ?_
        refine g_aload_n 1 (gd rfl) rfl rfl ?_
        refine g_getA (q2 := 34) 4 (gd rfl) rfl rfl rfl rfl ?_
        refine g_iload_n 5 (gd rfl) rfl rfl ?_
        refine g_iaload 6 (gd rfl) rfl (n := 160) rfl (in_ix i23 rfl) (fun z28x5 e28x5 => ?_)
        have i28x5 := inv_I hIc18 (n := 160) (t := 0) (-1) 31 rfl (in_ix i23 rfl) rfl e28x5
        refine g_iconst (-1) 7 (gd rfl) rfl rfl ?_
        refine g_cmp_eq 10 29 (gd rfl) rfl rfl (fun c28x7 => ?_) (fun c28x7 => ?_)
        · skip
          have i28x7 := r_eq1 (-1) (-1) c28x7 i28x5 (in_c (-1) rfl) rfl
          refine g_iconst 0 30 (gd rfl) rfl rfl ?_
          refine g_ireturn (gd rfl) rfl (nb01 (in_w 0 1 (in_c 0 rfl) rfl)) (hp28 _ _ ?_)
          show GG _ _ _ _ _ _ _ _ [.int (Int32.ofInt 0)] _ _ _
          refine g_if_eq 34 95 (gd rfl) rfl rfl (fun c31 => ?_) (fun c31 => ?_)
          · skip
            refine g_iinc 98 (gd rfl) rfl rfl (Nat.le_of_ble_eq_true rfl) (fun z95 e95 => ?_)
            have i95 := in_add 1 160 e95 i23 (in_c 1 rfl) rfl rfl
            refine g_goto 18 (gd rfl) rfl ?_
            exact gg_w (by first | exact Nat.le_add_right _ _ | exact gw2 | exact gw3 | exact gwe rfl | exact gwf rfl | exact gwg rfl | exact gwh rfl | omega) (gg_f (gf_cons rfl (gf_cons rfl (gf_cons rfl gf_nil))) (ih18 sc18 z95 hIc18 hFc18 (in_w 0 160 i95 rfl) (m_up mm18 (t_add e95 i23 (in_c 1 rfl) rfl) (in_w 1 1 (in_c 1 rfl) rfl))))
          · skip
            exact zn_ne c31 (in_c 0 rfl) rfl
        · skip
          have i28x7 := r_ne1 0 31 c28x7 i28x5 (in_c (-1) rfl) rfl
          refine g_aload_n 11 (gd rfl) rfl rfl ?_
          refine g_getA (q2 := 34) 14 (gd rfl) rfl rfl rfl rfl ?_
          refine g_iload_n 15 (gd rfl) rfl rfl ?_
          refine g_iaload 16 (gd rfl) rfl (n := 160) rfl (in_ix i23 rfl) (fun z28x15 e28x15 => ?_)
          have q28x15 : z28x5 = z28x15 := (e28x5).trans e28x15.symm
          subst q28x15
          refine g_aload_n 17 (gd rfl) rfl rfl ?_
          refine g_getA (q2 := 35) 20 (gd rfl) rfl rfl rfl rfl ?_
          refine g_iload_n 21 (gd rfl) rfl rfl ?_
          refine g_iaload 22 (gd rfl) rfl (n := 160) rfl (in_ix i23 rfl) (fun z28x21 e28x21 => ?_)
          have i28x21 := inv_I hIc18 (n := 160) (t := 0) 0 31 rfl (in_ix i23 rfl) rfl e28x21
          refine g_cmp_eq 25 29 (gd rfl) rfl rfl (fun c28x22 => ?_) (fun c28x22 => ?_)
          · skip
            refine g_iconst 0 30 (gd rfl) rfl rfl ?_
            refine g_ireturn (gd rfl) rfl (nb01 (in_w 0 1 (in_c 0 rfl) rfl)) (hp28 _ _ ?_)
            show GG _ _ _ _ _ _ _ _ [.int (Int32.ofInt 0)] _ _ _
            refine g_if_eq 34 95 (gd rfl) rfl rfl (fun c31 => ?_) (fun c31 => ?_)
            · skip
              refine g_iinc 98 (gd rfl) rfl rfl (Nat.le_of_ble_eq_true rfl) (fun z95 e95 => ?_)
              have i95 := in_add 1 160 e95 i23 (in_c 1 rfl) rfl rfl
              refine g_goto 18 (gd rfl) rfl ?_
              exact gg_w (by first | exact Nat.le_add_right _ _ | exact gw2 | exact gw3 | exact gwe rfl | exact gwf rfl | exact gwg rfl | exact gwh rfl | omega) (gg_f (gf_cons rfl (gf_cons rfl (gf_cons rfl gf_nil))) (ih18 sc18 z95 hIc18 hFc18 (in_w 0 160 i95 rfl) (m_up mm18 (t_add e95 i23 (in_c 1 rfl) rfl) (in_w 1 1 (in_c 1 rfl) rfl))))
            · skip
              exact zn_ne c31 (in_c 0 rfl) rfl
          · skip
            refine g_iconst 1 26 (gd rfl) rfl rfl ?_
            refine g_goto 30 (gd rfl) rfl ?_
            refine g_ireturn (gd rfl) rfl (nb01 (in_w 0 1 (in_c 1 rfl) rfl)) (hp28 _ _ ?_)
            show GG _ _ _ _ _ _ _ _ [.int (Int32.ofInt 1)] _ _ _
            refine g_if_eq 34 95 (gd rfl) rfl rfl (fun c31 => ?_) (fun c31 => ?_)
            · skip
              exact zn_eq c31 (in_c 1 rfl) rfl
            · skip
              refine g_aload_n 35 (gd rfl) rfl rfl ?_
              refine g_getA (q2 := 37) 38 (gd rfl) rfl rfl rfl rfl ?_
              refine g_iload_n 39 (gd rfl) rfl rfl ?_
              refine g_iaload 40 (gd rfl) rfl (n := 160) rfl (in_ix i23 rfl) (fun z39 e39 => ?_)
              have i39 := inv_I hIc18 (n := 160) (t := 0) 0 1000000 rfl (in_ix i23 rfl) rfl e39
              refine g_if_le 43 95 (gd rfl) rfl rfl (fun c40 => ?_) (fun c40 => ?_)
              · skip
                have i40 := z_le 0 0 c40 i39 rfl
                refine g_iinc 98 (gd rfl) rfl rfl (Nat.le_of_ble_eq_true rfl) (fun z95 e95 => ?_)
                have i95 := in_add 1 160 e95 i23 (in_c 1 rfl) rfl rfl
                refine g_goto 18 (gd rfl) rfl ?_
                exact gg_w (by first | exact Nat.le_add_right _ _ | exact gw2 | exact gw3 | exact gwe rfl | exact gwf rfl | exact gwg rfl | exact gwh rfl | omega) (gg_f (gf_cons rfl (gf_cons rfl (gf_cons rfl gf_nil))) (ih18 sc18 z95 hIc18 hFc18 (in_w 0 160 i95 rfl) (m_up mm18 (t_add e95 i23 (in_c 1 rfl) rfl) (in_w 1 1 (in_c 1 rfl) rfl))))
              · skip
                have i40 := z_gt 1 1000000 c40 i39 rfl
                refine g_aload_n 44 (gd rfl) rfl rfl ?_
                refine g_getA (q2 := 66) 47 (gd rfl) rfl rfl rfl rfl ?_
                refine g_aload_n 48 (gd rfl) rfl rfl ?_
                refine g_getA (q2 := 34) 51 (gd rfl) rfl rfl rfl rfl ?_
                refine g_iload_n 52 (gd rfl) rfl rfl ?_
                refine g_iaload 53 (gd rfl) rfl (n := 160) rfl (in_ix i23 rfl) (fun z52 e52 => ?_)
                have q52 : z28x5 = z52 := (e28x5).trans e52.symm
                subst q52
                refine g_bipush 32 55 (gd rfl) rfl rfl ?_
                refine g_imul 56 (gd rfl) rfl (fun z55 e55 => ?_)
                have i55 := in_mulc 32 0 992 (Or.inr e55) i28x7 rfl rfl
                refine g_aload_n 57 (gd rfl) rfl rfl ?_
                refine g_getA (q2 := 35) 60 (gd rfl) rfl rfl rfl rfl ?_
                refine g_iload_n 61 (gd rfl) rfl rfl ?_
                refine g_iaload 62 (gd rfl) rfl (n := 160) rfl (in_ix i23 rfl) (fun z61 e61 => ?_)
                have q61 : z28x21 = z61 := (e28x21).trans e61.symm
                subst q61
                refine g_iadd 63 (gd rfl) rfl (fun z62 e62 => ?_)
                have i62 := in_add 0 1023 e62 i55 i28x21 rfl rfl
                refine g_dup2 64 (gd rfl) rfl rfl rfl ?_
                refine g_iaload 65 (gd rfl) rfl (n := 1024) rfl (in_ix i62 rfl) (fun z64 e64 => ?_)
                refine g_aload_n 66 (gd rfl) rfl rfl ?_
                refine g_getA (q2 := 37) 69 (gd rfl) rfl rfl rfl rfl ?_
                refine g_iload_n 70 (gd rfl) rfl rfl ?_
                refine g_iaload 71 (gd rfl) rfl (n := 160) rfl (in_ix i23 rfl) (fun z70 e70 => ?_)
                have q70 : z39 = z70 := (e39).trans e70.symm
                subst q70
                refine g_iadd 72 (gd rfl) rfl (fun z71 e71 => ?_)
                refine g_iastore 73 (gd rfl) rfl (n := 1024) rfl (in_ix i62 rfl) ?_
                have hI72 := inv_sI (q := 66) (j := z62.toNatClampNeg) hIc18 rfl (in_w (-2147483648) 2147483647 (i_rng z71) rfl)
                refine g_aload_n 74 (gd rfl) rfl rfl ?_
                refine g_getA (q2 := 67) 77 (gd rfl) rfl rfl rfl rfl ?_
                refine g_aload_n 78 (gd rfl) rfl rfl ?_
                refine g_getA (q2 := 34) 81 (gd rfl) rfl rfl rfl rfl ?_
                refine g_iload_n 82 (gd rfl) rfl rfl ?_
                refine g_iaload 83 (gd rfl) rfl (n := 160) rfl (in_ix i23 rfl) (fun z82 e82 => ?_)
                have q82 : z28x5 = z82 := (sI_ne rfl (e28x5)).trans e82.symm
                subst q82
                refine g_dup2 84 (gd rfl) rfl rfl rfl ?_
                refine g_iaload 85 (gd rfl) rfl (n := 32) rfl (in_ix i28x7 rfl) (fun z84 e84 => ?_)
                refine g_iconst 1 86 (gd rfl) rfl rfl ?_
                refine g_aload_n 87 (gd rfl) rfl rfl ?_
                refine g_getA (q2 := 35) 90 (gd rfl) rfl rfl rfl rfl ?_
                refine g_iload_n 91 (gd rfl) rfl rfl ?_
                refine g_iaload 92 (gd rfl) rfl (n := 160) rfl (in_ix i23 rfl) (fun z91 e91 => ?_)
                have q91 : z28x21 = z91 := (sI_ne rfl (e28x21)).trans e91.symm
                subst q91
                refine g_ishl 93 (gd rfl) rfl (fun z92 e92 => ?_)
                refine g_ior 94 (gd rfl) rfl (fun z93 e93 => ?_)
                refine g_iastore 95 (gd rfl) rfl (n := 32) rfl (in_ix i28x7 rfl) ?_
                have hI94 := inv_sI (q := 67) (j := z28x5.toNatClampNeg) hI72 rfl (in_w (-2147483648) 2147483647 (i_rng z93) rfl)
                refine g_iinc 98 (gd rfl) rfl rfl (Nat.le_of_ble_eq_true rfl) (fun z95 e95 => ?_)
                have i95 := in_add 1 160 e95 i23 (in_c 1 rfl) rfl rfl
                refine g_goto 18 (gd rfl) rfl ?_
                exact gg_w (by first | exact Nat.le_add_right _ _ | exact gw2 | exact gw3 | exact gwe rfl | exact gwf rfl | exact gwg rfl | exact gwh rfl | omega) (gg_f (gf_cons rfl (gf_cons rfl (gf_cons rfl gf_nil))) (ih18 (sI (sI sc18 66 z62.toNatClampNeg z71) 67 z28x5.toNatClampNeg z93) z95 hI94 (fr_sI rfl (fr_sI rfl hFc18)) (in_w 0 160 i95 rfl) (m_up mm18 (t_add e95 i23 (in_c 1 rfl) rfl) (in_w 1 1 (in_c 1 rfl) rfl))))
  refine g_enter2 (k := 76) (N := 145801) (by first | exact dq1 hd rfl | exact dq0 hd rfl | exact dq2 hd rfl | exact dq3 hd rfl | omega) rfl (Nat.le_of_ble_eq_true rfl) ?_
  refine g_aload_n 1 (gd rfl) rfl rfl ?_
  refine g_getA (q2 := 66) 4 (gd rfl) rfl rfl rfl rfl ?_
  refine g_iconst 0 5 (gd rfl) rfl rfl ?_
  refine g_calls (As := [.ref (A 66), .int (Int32.ofInt 0)]) (r := []) 8 (gd rfl) rfl rfl rfl rfl rfl (Nat.le_of_ble_eq_true rfl) (Nat.zero_le _) (Nat.zero_le _) (k_fillI 66 (by first | exact dq1 hd rfl | exact dq0 hd rfl | exact dq2 hd rfl | exact dq3 hd rfl | omega) hI (in_c 0 rfl) (n := 1024) rfl rfl rfl rfl) (fun v u h => ?_)
  obtain ⟨s5, hI5, hF5, rfl, rfl, fl5⟩ := h
  show GG _ _ _ _ _ _ _ _ [] _ _ _
  refine g_aload_n 9 (gd rfl) rfl rfl ?_
  refine g_getA (q2 := 67) 12 (gd rfl) rfl rfl rfl rfl ?_
  refine g_iconst 0 13 (gd rfl) rfl rfl ?_
  refine g_calls (As := [.ref (A 67), .int (Int32.ofInt 0)]) (r := []) 16 (gd rfl) rfl rfl rfl rfl rfl (Nat.le_of_ble_eq_true rfl) (Nat.zero_le _) (Nat.zero_le _) (k_fillI 67 (by first | exact dq1 hd rfl | exact dq0 hd rfl | exact dq2 hd rfl | exact dq3 hd rfl | omega) hI5 (in_c 0 rfl) (n := 32) rfl rfl rfl rfl) (fun v u h => ?_)
  obtain ⟨s13, hI13, hF13, rfl, rfl, fl13⟩ := h
  show GG _ _ _ _ _ _ _ _ [] _ _ _
  refine g_iconst 0 17 (gd rfl) rfl rfl ?_
  refine g_istore_n 18 (gd rfl) rfl (Nat.le_of_ble_eq_true rfl) ?_
  exact gg_w (by first | exact Nat.le_of_ble_eq_true rfl | omega) (gg_f (gf_cons rfl (gf_cons rfl (gf_cons rfl gf_nil))) (ct18 161 s13 (Int32.ofInt 0) hI13 (fr_tr rfl (fr_tr rfl fr_rf hF5) hF13) (in_w 0 160 (in_c 0 rfl) rfl) (m_in 161 (in_w 0 160 (in_c 0 rfl) rfl) rfl)))

def fm_77_65 : FM := ([68], [], [(65, 4)], [])
/-- GraphHouse$Flows.reach -/
theorem k_77_65 {Z : AmZ} {A : Nat → Nat} {s : GS} {ex : va_W} {d : Nat} {X : AmX} {x1 : Int32} {x2 : Int32} (hd : 4 ≤ d) (hI : Inv s) (h1 : In x1 0 31) (h2 : In x2 0 31) : GC Z d 77 [.ref (A 65), .int x1, .int x2] (WW Z A s ++ ex) 0 0 (fun v u => ∃ t : GS, Inv t ∧ Fr fm_77_65 s t ∧ ∃ z : Int32, v = some (.int z) ∧ u = WW Z A t ++ ex ∧ In z 0 1 ∧ (RV (t.1 68) (t.2.2.1 65 4) x1) ∧ ((z).toInt ≠ 0 → bt (t.2.2.1 65 4) (x2).toNatClampNeg = true)) X := by
  intro post xp hP hX
  have ct10 : ∀ (k10 : Nat) (sc10 : GS) (y10_3 : Int32) (y10_4 : Int32) (y10_5 : Int32), Inv sc10 → Fr fm_77_65 s sc10 → (In y10_5 0 32) → (RV (sc10.1 68) y10_3 x1) → (∀ j, bt y10_4 j = true → bt y10_3 j = true) → 32 - (y10_5).toInt < (k10 : Int) → GG Z (d - 1) 77 post (gx xp) (1 + k10 * 16602069681804773691798) 10 (fun j => xlook j [(0, .ref (A 65)), (1, .int x1), (2, .int x2), (3, .int y10_3), (4, .int y10_4), (5, .int y10_5)]) [] (WW Z A sc10 ++ ex) 0 0 := by
    intro k10
    induction k10 with
    | zero => intro sc10 y10_3 y10_4 y10_5 hIc10 hFc10 j10_5 g10_0 g10_1 mm10; exact m_no mm10 j10_5 rfl
    | succ k10 ih10 =>
      intro sc10 y10_3 y10_4 y10_5 hIc10 hFc10 j10_5 g10_0 g10_1 mm10
      refine gg_w (M := 1 + k10 * 16602069681804773691798 + 16602069681804773691798) gws ?_
      have ct37 : ∀ (k37 : Nat) (sc37 : GS) (y37_3 : Int32) (y37_6 : Int32) (y37_7 : Int32), Inv sc37 → Fr fm_77_65 s sc37 → (In y10_5 0 31) → ((y10_4).toInt ≠ 0) → (RV (sc37.1 68) y37_3 x1) → (∀ j, bt y37_7 j = true → bt y37_3 j = true) → (∀ j, bt y37_6 j = true → bt y37_3 j = true) → ((y37_7.toBitVec.toNat : Nat) : Int) < (k37 : Int) → GG Z (d - 1) 77 post (gx xp) (1 + k10 * 16602069681804773691798 + 1 + k37 * 3865470569101) 37 (fun j => xlook j [(0, .ref (A 65)), (1, .int x1), (2, .int x2), (3, .int y37_3), (4, .int y10_4), (5, .int y10_5), (6, .int y37_6), (7, .int y37_7)]) [] (WW Z A sc37 ++ ex) 0 0 := by
        intro k37
        induction k37 with
        | zero => intro sc37 y37_3 y37_6 y37_7 hIc37 hFc37 j37_5 nz37_4 g37_0 g37_1 g37_2 mm37; exact absurd mm37 (Int.not_lt.mpr (Int.natCast_nonneg _))
        | succ k37 ih37 =>
          intro sc37 y37_3 y37_6 y37_7 hIc37 hFc37 j37_5 nz37_4 g37_0 g37_1 g37_2 mm37
          refine gg_w (M := 1 + k10 * 16602069681804773691798 + 1 + k37 * 3865470569101 + 3865470569101) gws ?_
          have ct66 : ∀ (k66 : Nat) (sc66 : GS) (y66_8 : Int32) (y66_9 : Int32) (y66_10 : Int32), Inv sc66 → Fr fm_77_65 s sc66 → (In y66_8 0 31) → ((y10_4).toInt ≠ 0) → ((y37_7).toInt ≠ 0) → (RV (sc66.1 68) y37_3 x1) → (∀ j, bt y66_9 j = true → bt y66_10 j = true ∨ sc66.1 68 j = y66_8) → (bt y37_3 (y66_8).toNatClampNeg = true) → (∀ j, bt y66_10 j = true → bt y66_9 j = true) → (∀ j, bt y66_9 j = true → bt y37_3 j = false) → (∀ j, bt y37_7 j = true → bt y37_3 j = true) → (∀ j, bt y37_6 j = true → bt y37_3 j = true) → ((y66_10.toBitVec.toNat : Nat) : Int) < (k66 : Int) → GG Z (d - 1) 77 post (gx xp) (1 + k10 * 16602069681804773691798 + 1 + k37 * 3865470569101 + 1 + k66 * 900) 66 (fun j => xlook j [(0, .ref (A 65)), (1, .int x1), (2, .int x2), (3, .int y37_3), (4, .int y10_4), (5, .int y10_5), (6, .int y37_6), (7, .int y37_7), (8, .int y66_8), (9, .int y66_9), (10, .int y66_10)]) [] (WW Z A sc66 ++ ex) 0 0 := by
            intro k66
            induction k66 with
            | zero => intro sc66 y66_8 y66_9 y66_10 hIc66 hFc66 j66_8 nz66_4 nz66_7 g66_0 g66_1 g66_2 g66_3 g66_4 g66_5 g66_6 mm66; exact absurd mm66 (Int.not_lt.mpr (Int.natCast_nonneg _))
            | succ k66 ih66 =>
              intro sc66 y66_8 y66_9 y66_10 hIc66 hFc66 j66_8 nz66_4 nz66_7 g66_0 g66_1 g66_2 g66_3 g66_4 g66_5 g66_6 mm66
              refine gg_w (M := 1 + k10 * 16602069681804773691798 + 1 + k37 * 3865470569101 + 1 + k66 * 900 + 900) gws ?_
              refine g_iload 68 (gd rfl) rfl rfl ?_
              refine g_if_eq 71 95 (gd rfl) rfl rfl (fun c68 => ?_) (fun c68 => ?_)
              · skip
                have i68 := z_eq 0 0 c68 (i_rng y66_10) rfl
                refine g_iload_n 96 (gd rfl) rfl rfl ?_
                refine g_iload 98 (gd rfl) rfl rfl ?_
                refine g_ior 99 (gd rfl) rfl (fun z98 e98 => ?_)
                refine g_istore_n 100 (gd rfl) rfl (Nat.le_of_ble_eq_true rfl) ?_
                refine g_iload 102 (gd rfl) rfl rfl ?_
                refine g_iload 104 (gd rfl) rfl rfl ?_
                refine g_ior 105 (gd rfl) rfl (fun z104 e104 => ?_)
                refine g_istore 107 (gd rfl) rfl (Nat.le_of_ble_eq_true rfl) ?_
                refine g_iload 109 (gd rfl) rfl rfl ?_
                refine g_iload 111 (gd rfl) rfl rfl ?_
                refine g_iconst 1 112 (gd rfl) rfl rfl ?_
                refine g_isub 113 (gd rfl) rfl (fun z112 e112 => ?_)
                refine g_iand 114 (gd rfl) rfl (fun z113 e113 => ?_)
                refine g_istore 116 (gd rfl) rfl (Nat.le_of_ble_eq_true rfl) ?_
                refine g_goto 37 (gd rfl) rfl ?_
                have n37 : RV (sc66.1 68) z98 x1 := by first | exact g10_0 | exact rv_or g66_0 (fun j hj => (g66_1 j hj).resolve_left (by have hz : y66_10 = Int32.ofInt 0 := Int32.toInt_inj.mp (show y66_10.toInt = (Int32.ofInt 0).toInt from c68); rw [hz]; intro w; have hw : bt (Int32.ofInt 0) j = false := bt_z; rw [hw] at w; cases w)) j66_8 g66_2 e98
                have n37a : ∀ j, bt z113 j = true → bt z98 j = true := by first | exact g10_1 | exact fun j h => bt_orl e98 (g66_5 j (bt_and1 e113 h))
                have n37b : ∀ j, bt z104 j = true → bt z98 j = true := by first | exact (fun j h => absurd h (by have hw : bt (Int32.ofInt 0) j = false := bt_z; rw [hw]; decide)) | exact fun j h => by (rw [bt_or e104, Bool.or_eq_true] at h; rcases h with h | h; exact bt_orl e98 (g66_6 j h); exact bt_orr e98 h)
                exact gg_w (by first | exact Nat.le_add_right _ _ | exact gw2 | exact gw3 | exact gwe rfl | exact gwf rfl | exact gwg rfl | exact gwh rfl | omega) (gg_f (gf_cons rfl (gf_cons rfl (gf_cons rfl (gf_cons rfl (gf_cons rfl (gf_cons rfl (gf_cons rfl (gf_cons rfl gf_nil)))))))) (ih37 sc66 z98 z104 z113 hIc66 hFc66 (in_w 0 31 j37_5 rfl) nz66_4 n37 n37a n37b (mb e113 e112 nz66_7 mm37)))
              · skip
                refine g_aload_n 72 (gd rfl) rfl rfl ?_
                refine g_getA (q2 := 68) 75 (gd rfl) rfl rfl rfl rfl ?_
                refine g_iload 77 (gd rfl) rfl rfl ?_
                refine g_calls (As := [.int y66_10]) (r := [.ref (A 68)]) 80 (gd rfl) rfl rfl rfl rfl rfl (Nat.le_of_ble_eq_true rfl) (Nat.zero_le _) (Nat.zero_le _) (k_264n (by first | exact dq1 hd rfl | exact dq0 hd rfl | exact dq2 hd rfl | exact dq3 hd rfl | omega) c68) (fun v u h => ?_)
                obtain ⟨z77, rfl, rfl, i77, hb77, hl77⟩ := h
                show GG _ _ _ _ _ _ _ _ [.int z77, .ref (A 68)] _ _ _
                refine g_iload 82 (gd rfl) rfl rfl ?_
                refine g_iastore 83 (gd rfl) rfl (n := 32) rfl (in_ix i77 rfl) ?_
                have hI82 := inv_sI (q := 68) (j := z77.toNatClampNeg) hIc66 rfl (in_w (-1) 319 j66_8 rfl)
                refine g_iload 85 (gd rfl) rfl rfl ?_
                refine g_iload 87 (gd rfl) rfl rfl ?_
                refine g_iconst 1 88 (gd rfl) rfl rfl ?_
                refine g_isub 89 (gd rfl) rfl (fun z88 e88 => ?_)
                refine g_iand 90 (gd rfl) rfl (fun z89 e89 => ?_)
                refine g_istore 92 (gd rfl) rfl (Nat.le_of_ble_eq_true rfl) ?_
                refine g_goto 66 (gd rfl) rfl ?_
                have n66 : RV ((sI sc66 68 z77.toNatClampNeg y66_8).1 68) y37_3 x1 := by first | exact g37_0 | (rw [sI_q]; exact rv_upd g66_0 (g66_4 _ (g66_3 _ hb77)))
                have n66a : ∀ j, bt y66_9 j = true → bt z89 j = true ∨ (sI sc66 68 z77.toNatClampNeg y66_8).1 68 j = y66_8 := by first | exact fun j h => Or.inl h | (intro j hj; rw [sI_q, lowB_clr hl77 e88 e89]; unfold upd; by_cases c : j = z77.toNatClampNeg; exact Or.inr (if_pos c); (rw [if_neg c]; rcases g66_1 j hj with h | h; exact Or.inl (by simp [h, c]); exact Or.inr h))
                have n66b : bt y37_3 (y66_8).toNatClampNeg = true := by first | exact g66_2 | exact g37_1 _ hb44
                have n66c : ∀ j, bt z89 j = true → bt y66_9 j = true := by first | exact fun j h => h | exact fun j h => g66_3 j (bt_and1 e89 h)
                have n66d : ∀ j, bt y66_9 j = true → bt y37_3 j = false := by first | exact g66_4 | exact fun j h => bt_andn e58 e59 h
                have n66e : ∀ j, bt y37_7 j = true → bt y37_3 j = true := by first | exact g66_5 | exact g37_1
                have n66f : ∀ j, bt y37_6 j = true → bt y37_3 j = true := by first | exact g66_6 | exact g37_2
                exact gg_w (by first | exact Nat.le_add_right _ _ | exact gw2 | exact gw3 | exact gwe rfl | exact gwf rfl | exact gwg rfl | exact gwh rfl | omega) (gg_f (gf_cons rfl (gf_cons rfl (gf_cons rfl (gf_cons rfl (gf_cons rfl (gf_cons rfl (gf_cons rfl (gf_cons rfl (gf_cons rfl (gf_cons rfl (gf_cons rfl gf_nil))))))))))) (ih66 (sI sc66 68 z77.toNatClampNeg y66_8) y66_8 y66_9 z89 hI82 (fr_sI rfl hFc66) (in_w 0 31 j66_8 rfl) nz66_4 nz66_7 n66 n66a n66b n66c n66d n66e n66f (mb e89 e88 c68 mm66)))
          refine g_iload 39 (gd rfl) rfl rfl ?_
          refine g_if_eq 42 119 (gd rfl) rfl rfl (fun c39 => ?_) (fun c39 => ?_)
          · skip
            have i39 := z_eq 0 0 c39 (i_rng y37_7) rfl
            refine g_iload 121 (gd rfl) rfl rfl ?_
            refine g_istore 123 (gd rfl) rfl (Nat.le_of_ble_eq_true rfl) ?_
            refine g_iinc 126 (gd rfl) rfl rfl (Nat.le_of_ble_eq_true rfl) (fun z123 e123 => ?_)
            have i123 := in_add 1 32 e123 j37_5 (in_c 1 rfl) rfl rfl
            refine g_goto 10 (gd rfl) rfl ?_
            have n10 : RV (sc37.1 68) y37_3 x1 := by first | exact g37_0 | exact rv_1 e2 h1
            have n10a : ∀ j, bt y37_6 j = true → bt y37_3 j = true := by first | exact fun j h => h | exact g37_2
            exact gg_w (by first | exact Nat.le_add_right _ _ | exact gw2 | exact gw3 | exact gwe rfl | exact gwf rfl | exact gwg rfl | exact gwh rfl | omega) (gg_f (gf_cons rfl (gf_cons rfl (gf_cons rfl (gf_cons rfl (gf_cons rfl (gf_cons rfl gf_nil)))))) (ih10 sc37 y37_3 y37_6 z123 hIc37 hFc37 (in_w 0 32 i123 rfl) n10 n10a (m_up mm10 (t_add e123 j37_5 (in_c 1 rfl) rfl) (in_w 1 1 (in_c 1 rfl) rfl))))
          · skip
            refine g_iload 44 (gd rfl) rfl rfl ?_
            refine g_calls (As := [.int y37_7]) (r := []) 47 (gd rfl) rfl rfl rfl rfl rfl (Nat.le_of_ble_eq_true rfl) (Nat.zero_le _) (Nat.zero_le _) (k_264n (by first | exact dq1 hd rfl | exact dq0 hd rfl | exact dq2 hd rfl | exact dq3 hd rfl | omega) c39) (fun v u h => ?_)
            obtain ⟨z44, rfl, rfl, i44, hb44, hl44⟩ := h
            show GG _ _ _ _ _ _ _ _ [.int z44] _ _ _
            refine g_istore 49 (gd rfl) rfl (Nat.le_of_ble_eq_true rfl) ?_
            refine g_aload_n 50 (gd rfl) rfl rfl ?_
            refine g_getA (q2 := 67) 53 (gd rfl) rfl rfl rfl rfl ?_
            refine g_iload 55 (gd rfl) rfl rfl ?_
            refine g_iaload 56 (gd rfl) rfl (n := 32) rfl (in_ix i44 rfl) (fun z55 e55 => ?_)
            refine g_iload_n 57 (gd rfl) rfl rfl ?_
            refine g_iconst (-1) 58 (gd rfl) rfl rfl ?_
            refine g_ixor 59 (gd rfl) rfl (fun z58 e58 => ?_)
            refine g_iand 60 (gd rfl) rfl (fun z59 e59 => ?_)
            refine g_istore 62 (gd rfl) rfl (Nat.le_of_ble_eq_true rfl) ?_
            refine g_iload 64 (gd rfl) rfl rfl ?_
            refine g_istore 66 (gd rfl) rfl (Nat.le_of_ble_eq_true rfl) ?_
            have n66 : RV (sc37.1 68) y37_3 x1 := by first | exact g37_0 | (rw [sI_q]; exact rv_upd g66_0 (g66_4 _ (g66_3 _ hb77)))
            have n66a : ∀ j, bt z59 j = true → bt z59 j = true ∨ sc37.1 68 j = z44 := by first | exact fun j h => Or.inl h | (intro j hj; rw [sI_q, lowB_clr hl77 e88 e89]; unfold upd; by_cases c : j = z77.toNatClampNeg; exact Or.inr (if_pos c); (rw [if_neg c]; rcases g66_1 j hj with h | h; exact Or.inl (by simp [h, c]); exact Or.inr h))
            have n66b : bt y37_3 (z44).toNatClampNeg = true := by first | exact g66_2 | exact g37_1 _ hb44
            have n66c : ∀ j, bt z59 j = true → bt z59 j = true := by first | exact fun j h => h | exact fun j h => g66_3 j (bt_and1 e89 h)
            have n66d : ∀ j, bt z59 j = true → bt y37_3 j = false := by first | exact g66_4 | exact fun j h => bt_andn e58 e59 h
            have n66e : ∀ j, bt y37_7 j = true → bt y37_3 j = true := by first | exact g66_5 | exact g37_1
            have n66f : ∀ j, bt y37_6 j = true → bt y37_3 j = true := by first | exact g66_6 | exact g37_2
            exact gg_w (by first | exact Nat.le_add_right _ _ | exact gw2 | exact gw3 | exact gwe rfl | exact gwf rfl | exact gwg rfl | exact gwh rfl | omega) (gg_f (gf_cons rfl (gf_cons rfl (gf_cons rfl (gf_cons rfl (gf_cons rfl (gf_cons rfl (gf_cons rfl (gf_cons rfl (gf_cons rfl (gf_cons rfl (gf_cons rfl gf_nil))))))))))) (ct66 4294967296 sc37 z44 z59 z59 hIc37 hFc37 (in_w 0 31 i44 rfl) nz37_4 c39 n66 n66a n66b n66c n66d n66e n66f (mb_in _)))
      refine g_iload 12 (gd rfl) rfl rfl ?_
      refine g_bipush 32 14 (gd rfl) rfl rfl ?_
      refine g_cmp_ge 17 129 (gd rfl) rfl rfl (fun c14 => ?_) (fun c14 => ?_)
      · skip
        have i14 := r_le2 32 32 c14 (in_c 32 rfl) j10_5 rfl
        refine g_aload_n 130 (gd rfl) rfl rfl ?_
        refine g_iload_n 131 (gd rfl) rfl rfl ?_
        refine g_putI 134 (gd rfl) rfl rfl rfl rfl ?_
        have hI131 := inv_sF (q := 65) (j := 4) hIc10 rfl (in_w (-2147483648) 2147483647 (i_rng y10_3) rfl)
        refine g_iload_n 135 (gd rfl) rfl rfl ?_
        refine g_iload_n 136 (gd rfl) rfl rfl ?_
        refine g_ishr 137 (gd rfl) rfl (fun z136 e136 => ?_)
        refine g_iconst 1 138 (gd rfl) rfl rfl ?_
        refine g_iand 139 (gd rfl) rfl (fun z138 e138 => ?_)
        have i138 := in_and2 e138 (in_c 1 rfl) rfl
        refine g_if_eq 142 146 (gd rfl) rfl rfl (fun c139 => ?_) (fun c139 => ?_)
        · skip
          have i139 := z_eq 0 0 c139 i138 rfl
          refine g_iconst 0 147 (gd rfl) rfl rfl ?_
          have n147 : RV ((sF sc10 65 4 y10_3).1 68) ((sF sc10 65 4 y10_3).2.2.1 65 4) x1 := by rw [← (show y10_3 = (sF sc10 65 4 y10_3).2.2.1 65 4 from sF_get)]; exact g10_0
          have n147a : ((Int32.ofInt 0)).toInt ≠ 0 → bt ((sF sc10 65 4 y10_3).2.2.1 65 4) (x2).toNatClampNeg = true := by first | (intro h; exact absurd rfl h) | (intro _; rw [← (show y10_3 = (sF sc10 65 4 y10_3).2.2.1 65 4 from sF_get)]; have hq := bt_ask e136 e138 h2; cases hb : bt y10_3 (x2).toNatClampNeg with | true => rfl | false => (rw [hb] at hq; exact absurd hq c139))
          exact g_ireturn (gd rfl) rfl (nb01 (in_w 0 1 (in_c 0 rfl) rfl)) (hP _ _ ⟨(sF sc10 65 4 y10_3), hI131, (fr_sF rfl hFc10), (Int32.ofInt 0), rfl, rfl, in_w 0 1 (in_c 0 rfl) rfl, n147, n147a⟩)
        · skip
          have i139 := z_ne 1 1 c139 i138 rfl
          refine g_iconst 1 143 (gd rfl) rfl rfl ?_
          refine g_goto 147 (gd rfl) rfl ?_
          have n147 : RV ((sF sc10 65 4 y10_3).1 68) ((sF sc10 65 4 y10_3).2.2.1 65 4) x1 := by rw [← (show y10_3 = (sF sc10 65 4 y10_3).2.2.1 65 4 from sF_get)]; exact g10_0
          have n147a : ((Int32.ofInt 1)).toInt ≠ 0 → bt ((sF sc10 65 4 y10_3).2.2.1 65 4) (x2).toNatClampNeg = true := by first | (intro h; exact absurd rfl h) | (intro _; rw [← (show y10_3 = (sF sc10 65 4 y10_3).2.2.1 65 4 from sF_get)]; have hq := bt_ask e136 e138 h2; cases hb : bt y10_3 (x2).toNatClampNeg with | true => rfl | false => (rw [hb] at hq; exact absurd hq c139))
          exact g_ireturn (gd rfl) rfl (nb01 (in_w 0 1 (in_c 1 rfl) rfl)) (hP _ _ ⟨(sF sc10 65 4 y10_3), hI131, (fr_sF rfl hFc10), (Int32.ofInt 1), rfl, rfl, in_w 0 1 (in_c 1 rfl) rfl, n147, n147a⟩)
      · skip
        have i14 := r_lt1 0 31 c14 j10_5 (in_c 32 rfl) rfl
        refine g_iload 19 (gd rfl) rfl rfl ?_
        refine g_if_eq 22 129 (gd rfl) rfl rfl (fun c19 => ?_) (fun c19 => ?_)
        · skip
          have i19 := z_eq 0 0 c19 (i_rng y10_4) rfl
          refine g_aload_n 130 (gd rfl) rfl rfl ?_
          refine g_iload_n 131 (gd rfl) rfl rfl ?_
          refine g_putI 134 (gd rfl) rfl rfl rfl rfl ?_
          have hI131 := inv_sF (q := 65) (j := 4) hIc10 rfl (in_w (-2147483648) 2147483647 (i_rng y10_3) rfl)
          refine g_iload_n 135 (gd rfl) rfl rfl ?_
          refine g_iload_n 136 (gd rfl) rfl rfl ?_
          refine g_ishr 137 (gd rfl) rfl (fun z136 e136 => ?_)
          refine g_iconst 1 138 (gd rfl) rfl rfl ?_
          refine g_iand 139 (gd rfl) rfl (fun z138 e138 => ?_)
          have i138 := in_and2 e138 (in_c 1 rfl) rfl
          refine g_if_eq 142 146 (gd rfl) rfl rfl (fun c139 => ?_) (fun c139 => ?_)
          · skip
            have i139 := z_eq 0 0 c139 i138 rfl
            refine g_iconst 0 147 (gd rfl) rfl rfl ?_
            have n147 : RV ((sF sc10 65 4 y10_3).1 68) ((sF sc10 65 4 y10_3).2.2.1 65 4) x1 := by rw [← (show y10_3 = (sF sc10 65 4 y10_3).2.2.1 65 4 from sF_get)]; exact g10_0
            have n147a : ((Int32.ofInt 0)).toInt ≠ 0 → bt ((sF sc10 65 4 y10_3).2.2.1 65 4) (x2).toNatClampNeg = true := by first | (intro h; exact absurd rfl h) | (intro _; rw [← (show y10_3 = (sF sc10 65 4 y10_3).2.2.1 65 4 from sF_get)]; have hq := bt_ask e136 e138 h2; cases hb : bt y10_3 (x2).toNatClampNeg with | true => rfl | false => (rw [hb] at hq; exact absurd hq c139))
            exact g_ireturn (gd rfl) rfl (nb01 (in_w 0 1 (in_c 0 rfl) rfl)) (hP _ _ ⟨(sF sc10 65 4 y10_3), hI131, (fr_sF rfl hFc10), (Int32.ofInt 0), rfl, rfl, in_w 0 1 (in_c 0 rfl) rfl, n147, n147a⟩)
          · skip
            have i139 := z_ne 1 1 c139 i138 rfl
            refine g_iconst 1 143 (gd rfl) rfl rfl ?_
            refine g_goto 147 (gd rfl) rfl ?_
            have n147 : RV ((sF sc10 65 4 y10_3).1 68) ((sF sc10 65 4 y10_3).2.2.1 65 4) x1 := by rw [← (show y10_3 = (sF sc10 65 4 y10_3).2.2.1 65 4 from sF_get)]; exact g10_0
            have n147a : ((Int32.ofInt 1)).toInt ≠ 0 → bt ((sF sc10 65 4 y10_3).2.2.1 65 4) (x2).toNatClampNeg = true := by first | (intro h; exact absurd rfl h) | (intro _; rw [← (show y10_3 = (sF sc10 65 4 y10_3).2.2.1 65 4 from sF_get)]; have hq := bt_ask e136 e138 h2; cases hb : bt y10_3 (x2).toNatClampNeg with | true => rfl | false => (rw [hb] at hq; exact absurd hq c139))
            exact g_ireturn (gd rfl) rfl (nb01 (in_w 0 1 (in_c 1 rfl) rfl)) (hP _ _ ⟨(sF sc10 65 4 y10_3), hI131, (fr_sF rfl hFc10), (Int32.ofInt 1), rfl, rfl, in_w 0 1 (in_c 1 rfl) rfl, n147, n147a⟩)
        · skip
          refine g_iload_n 23 (gd rfl) rfl rfl ?_
          refine g_iload_n 24 (gd rfl) rfl rfl ?_
          refine g_ishr 25 (gd rfl) rfl (fun z24 e24 => ?_)
          refine g_iconst 1 26 (gd rfl) rfl rfl ?_
          refine g_iand 27 (gd rfl) rfl (fun z26 e26 => ?_)
          have i26 := in_and2 e26 (in_c 1 rfl) rfl
          refine g_if_ne 30 129 (gd rfl) rfl rfl (fun c27 => ?_) (fun c27 => ?_)
          · skip
            have i27 := z_ne 1 1 c27 i26 rfl
            refine g_aload_n 130 (gd rfl) rfl rfl ?_
            refine g_iload_n 131 (gd rfl) rfl rfl ?_
            refine g_putI 134 (gd rfl) rfl rfl rfl rfl ?_
            have hI131 := inv_sF (q := 65) (j := 4) hIc10 rfl (in_w (-2147483648) 2147483647 (i_rng y10_3) rfl)
            refine g_iload_n 135 (gd rfl) rfl rfl ?_
            refine g_iload_n 136 (gd rfl) rfl rfl ?_
            refine g_ishr 137 (gd rfl) rfl (fun z136 e136 => ?_)
            refine g_iconst 1 138 (gd rfl) rfl rfl ?_
            refine g_iand 139 (gd rfl) rfl (fun z138 e138 => ?_)
            have i138 := in_and2 e138 (in_c 1 rfl) rfl
            refine g_if_eq 142 146 (gd rfl) rfl rfl (fun c139 => ?_) (fun c139 => ?_)
            · skip
              have i139 := z_eq 0 0 c139 i138 rfl
              refine g_iconst 0 147 (gd rfl) rfl rfl ?_
              have n147 : RV ((sF sc10 65 4 y10_3).1 68) ((sF sc10 65 4 y10_3).2.2.1 65 4) x1 := by rw [← (show y10_3 = (sF sc10 65 4 y10_3).2.2.1 65 4 from sF_get)]; exact g10_0
              have n147a : ((Int32.ofInt 0)).toInt ≠ 0 → bt ((sF sc10 65 4 y10_3).2.2.1 65 4) (x2).toNatClampNeg = true := by first | (intro h; exact absurd rfl h) | (intro _; rw [← (show y10_3 = (sF sc10 65 4 y10_3).2.2.1 65 4 from sF_get)]; have hq := bt_ask e136 e138 h2; cases hb : bt y10_3 (x2).toNatClampNeg with | true => rfl | false => (rw [hb] at hq; exact absurd hq c139))
              exact g_ireturn (gd rfl) rfl (nb01 (in_w 0 1 (in_c 0 rfl) rfl)) (hP _ _ ⟨(sF sc10 65 4 y10_3), hI131, (fr_sF rfl hFc10), (Int32.ofInt 0), rfl, rfl, in_w 0 1 (in_c 0 rfl) rfl, n147, n147a⟩)
            · skip
              have i139 := z_ne 1 1 c139 i138 rfl
              refine g_iconst 1 143 (gd rfl) rfl rfl ?_
              refine g_goto 147 (gd rfl) rfl ?_
              have n147 : RV ((sF sc10 65 4 y10_3).1 68) ((sF sc10 65 4 y10_3).2.2.1 65 4) x1 := by rw [← (show y10_3 = (sF sc10 65 4 y10_3).2.2.1 65 4 from sF_get)]; exact g10_0
              have n147a : ((Int32.ofInt 1)).toInt ≠ 0 → bt ((sF sc10 65 4 y10_3).2.2.1 65 4) (x2).toNatClampNeg = true := by first | (intro h; exact absurd rfl h) | (intro _; rw [← (show y10_3 = (sF sc10 65 4 y10_3).2.2.1 65 4 from sF_get)]; have hq := bt_ask e136 e138 h2; cases hb : bt y10_3 (x2).toNatClampNeg with | true => rfl | false => (rw [hb] at hq; exact absurd hq c139))
              exact g_ireturn (gd rfl) rfl (nb01 (in_w 0 1 (in_c 1 rfl) rfl)) (hP _ _ ⟨(sF sc10 65 4 y10_3), hI131, (fr_sF rfl hFc10), (Int32.ofInt 1), rfl, rfl, in_w 0 1 (in_c 1 rfl) rfl, n147, n147a⟩)
          · skip
            have i27 := z_eq 0 0 c27 i26 rfl
            refine g_iconst 0 31 (gd rfl) rfl rfl ?_
            refine g_istore 33 (gd rfl) rfl (Nat.le_of_ble_eq_true rfl) ?_
            refine g_iload 35 (gd rfl) rfl rfl ?_
            refine g_istore 37 (gd rfl) rfl (Nat.le_of_ble_eq_true rfl) ?_
            have n37 : RV (sc10.1 68) y10_3 x1 := by first | exact g10_0 | exact rv_or g66_0 (fun j hj => (g66_1 j hj).resolve_left (by have hz : y66_10 = Int32.ofInt 0 := Int32.toInt_inj.mp (show y66_10.toInt = (Int32.ofInt 0).toInt from c68); rw [hz]; intro w; have hw : bt (Int32.ofInt 0) j = false := bt_z; rw [hw] at w; cases w)) ‹_› g66_2 e98
            have n37a : ∀ j, bt y10_4 j = true → bt y10_3 j = true := by first | exact g10_1 | exact fun j h => bt_orl e98 (g66_5 j (bt_and1 e113 h))
            have n37b : ∀ j, bt (Int32.ofInt 0) j = true → bt y10_3 j = true := by first | exact (fun j h => absurd h (by have hw : bt (Int32.ofInt 0) j = false := bt_z; rw [hw]; decide)) | exact fun j h => by (rw [bt_or e104, Bool.or_eq_true] at h; rcases h with h | h; exact bt_orl e98 (g66_6 j h); exact bt_orr e98 h)
            exact gg_w (by first | exact Nat.le_add_right _ _ | exact gw2 | exact gw3 | exact gwe rfl | exact gwf rfl | exact gwg rfl | exact gwh rfl | omega) (gg_f (gf_cons rfl (gf_cons rfl (gf_cons rfl (gf_cons rfl (gf_cons rfl (gf_cons rfl (gf_cons rfl (gf_cons rfl gf_nil)))))))) (ct37 4294967296 sc10 y10_3 (Int32.ofInt 0) y10_4 hIc10 hFc10 (in_w 0 31 i14 rfl) c19 n37 n37a n37b (mb_in _)))
  refine g_enter2 (k := 77) (N := 547868299499557531830235) (by first | exact dq1 hd rfl | exact dq0 hd rfl | exact dq2 hd rfl | exact dq3 hd rfl | omega) rfl (Nat.le_of_ble_eq_true rfl) ?_
  refine g_iconst 1 1 (gd rfl) rfl rfl ?_
  refine g_iload_n 2 (gd rfl) rfl rfl ?_
  refine g_ishl 3 (gd rfl) rfl (fun z2 e2 => ?_)
  refine g_istore_n 4 (gd rfl) rfl (Nat.le_of_ble_eq_true rfl) ?_
  refine g_iload_n 5 (gd rfl) rfl rfl ?_
  refine g_istore 7 (gd rfl) rfl (Nat.le_of_ble_eq_true rfl) ?_
  refine g_iconst 0 8 (gd rfl) rfl rfl ?_
  refine g_istore 10 (gd rfl) rfl (Nat.le_of_ble_eq_true rfl) ?_
  have n10 : RV (s.1 68) z2 x1 := by first | exact g37_0 | exact rv_1 e2 h1
  have n10a : ∀ j, bt z2 j = true → bt z2 j = true := by first | exact fun j h => h | exact g37_2
  exact gg_w (by first | exact Nat.le_of_ble_eq_true rfl | omega) (gg_f (gf_cons rfl (gf_cons rfl (gf_cons rfl (gf_cons rfl (gf_cons rfl (gf_cons rfl gf_nil)))))) (ct10 33 s z2 z2 (Int32.ofInt 0) hI fr_rf (in_w 0 32 (in_c 0 rfl) rfl) n10 n10a (m_in 33 (in_w 0 32 (in_c 0 rfl) rfl) rfl)))
