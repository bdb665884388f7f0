/-! FUNCTIONAL CONTRACTS, by fgen.py -/
theorem oc_208_49_32 : (Int32.ofInt (-1)).toInt = (-1) ∧ (Int32.ofInt 0).toInt = 0 ∧ (Int32.ofInt 1).toInt = 1 ∧ (Int32.ofInt 3).toInt = 3 ∧ (Int32.ofInt 4).toInt = 4 ∧ (Int32.ofInt 8).toInt = 8 ∧ (Int32.ofInt 24).toInt = 24 ∧ (Int32.ofInt 32).toInt = 32 ∧ (Int32.ofInt 35).toInt = 35 ∧ (Int32.ofInt 2000).toInt = 2000 ∧ (Int64.ofInt 137438953472000000).toInt = 137438953472000000 := ⟨rfl, rfl, rfl, rfl, rfl, rfl, rfl, rfl, rfl, rfl, rfl⟩
set_option maxHeartbeats 4000000 in
/-- GraphHouse$Ways.gather -/
theorem f_208_49_32_r {Z : AmZ} {A : Nat → Nat} {ex : va_W} (kk : Nat) : ∀ {s : GS} {d : Nat} {X : AmX} {x2 : Int32} {x3 : Int32} {x4 : Int32} {x5 : Int64}, 6 + kk * 3 ≤ d → Inv s → In x2 0 31 → In x4 0 4 → TQD s → (((s).2.2.1 32 4).toInt = ((s).2.2.1 32 0).toInt) → NDQ (gvD s) → 4 - (x4).toInt < (kk : Int) → GC Z d 208 [.ref (A 49), .ref (A 32), .int x2, .int x3, .int x4, .long x5] (WW Z A s ++ ex) 0 0 (fun v u => ∃ t : GS, Inv t ∧ Fr fm_208_49_32 s t ∧ v = none ∧ u = WW Z A t ++ ex ∧ ((((t).2.2.1 49 11).toInt = cap ((s.2.2.1 49 11).toInt + shw (ARE (gvD s) 0) (ARE (gvD s) 1) (s.2.2.1 49 10).toInt (4 - (x4).toInt).toNat ((x2).toNatClampNeg : Int) (bt x3))))) X := by
  induction kk with
  | zero => intro s d X x2 x3 x4 x5 hd hI h2 h4 q_0 q_1 q_2 hm; exact m_no hm h4 rfl
  | succ kk ih =>
    intro s d X x2 x3 x4 x5 hd hI h2 h4 q_0 q_1 q_2 hm
    intro post xp hP hX
    obtain ⟨u_49_10, e_49_10⟩ : ∃ w, w = s.2.2.1 49 10 := ⟨_, rfl⟩
    have ro_49_10 := inv_F hI 0 31 rfl e_49_10
    have ct8 : ∀ (k8 : Nat) (sc8 : GS) (y8_7 : Int32), Inv sc8 → Fr fm_208_49_32 s sc8 → (In y8_7 0 160) → ((((sc8).2.2.1 49 11).toInt = cap ((s.2.2.1 49 11).toInt + shz (ARE (gvD s) 0) (ARE (gvD s) 1) (s.2.2.1 49 10).toInt (3 - (x4).toInt).toNat (x2).toNatClampNeg (bt x3) ((y8_7).toInt - (s.1 42 (x2).toNatClampNeg).toInt)))) → (((s.1 42 (x2).toNatClampNeg).toInt ≤ (y8_7).toInt)) → ((4 ≤ (x4).toInt → (y8_7).toInt = (s.1 42 (x2).toNatClampNeg).toInt)) → 160 - (y8_7).toInt < (k8 : Int) → GG Z (d - 1) 208 post (gx xp) (1 + k8 * 900) 8 (fun j => xlook j [(0, .ref (A 49)), (1, .ref (A 32)), (2, .int x2), (3, .int x3), (4, .int x4), (5, .long x5), (7, .int y8_7)]) [] (WW Z A sc8 ++ ex) 0 0 := by
      intro k8
      induction k8 with
      | zero => intro sc8 y8_7 hIc8 hFc8 j8_7 g8_0 g8_1 g8_2 mm8; exact m_no mm8 j8_7 rfl
      | succ k8 ih8 =>
        intro sc8 y8_7 hIc8 hFc8 j8_7 g8_0 g8_1 g8_2 mm8
        refine gg_w (M := 1 + k8 * 900 + 900) gws ?_
        refine g_iload 10 (gd rfl) rfl rfl ?_
        refine g_aload_n 11 (gd rfl) rfl rfl ?_
        refine g_getA (q2 := 42) 14 (gd rfl) rfl rfl rfl rfl ?_
        refine g_iload_n 15 (gd rfl) rfl rfl ?_
        refine g_iconst 1 16 (gd rfl) rfl rfl ?_
        refine g_iadd 17 (gd rfl) rfl (fun z16 e16 => ?_)
        have i16 := in_add 1 32 e16 h2 (in_c 1 rfl) rfl rfl
        refine g_iaload 18 (gd rfl) rfl (n := 33) rfl (in_ix i16 rfl) (fun z17 e17 => ?_)
        have i17 := inv_I hIc8 (n := 33) (t := 0) 0 160 rfl (in_ix i16 rfl) rfl e17
        refine g_cmp_ge 21 184 (gd rfl) rfl rfl (fun c18 => ?_) (fun c18 => ?_)
        · skip
          have n184 : (((sc8).2.2.1 49 11).toInt = cap ((s.2.2.1 49 11).toInt + shw (ARE (gvD s) 0) (ARE (gvD s) 1) (s.2.2.1 49 10).toInt (4 - (x4).toInt).toNat ((x2).toNatClampNeg : Int) (bt x3))) := by by_cases c4 : 4 ≤ (x4).toInt; (rw [show (4 - (x4).toInt).toNat = 0 from (by (first | have a0 := in_u h4 | (have a0 := h4; unfold In at a0)); (first | have a1 := in_u h2 | (have a1 := h2; unfold In at a1)); (first | have a2 := in_u ro_49_10 | (have a2 := ro_49_10; unfold In at a2)); (first | have a3 := in_u j8_7 | (have a3 := j8_7; unfold In at a3)); (first | have a4 := in_u i16 | (have a4 := i16; unfold In at a4)); have a5 := t_add e16 h2 (in_c 1 rfl) rfl; (first | have a6 := in_u ((in_c 1 rfl)) | (have a6 := (in_c 1 rfl); unfold In at a6)); have oc := oc_208_49_32; omega)]; show _ = cap ((s.2.2.1 49 11).toInt + 0); have h9 := g8_0; rw [shz_0 (by have h8 := g8_2 (by (first | have a0 := in_u h4 | (have a0 := h4; unfold In at a0)); (first | have a1 := in_u h2 | (have a1 := h2; unfold In at a1)); (first | have a2 := in_u ro_49_10 | (have a2 := ro_49_10; unfold In at a2)); (first | have a3 := in_u j8_7 | (have a3 := j8_7; unfold In at a3)); (first | have a4 := in_u i16 | (have a4 := i16; unfold In at a4)); have a5 := t_add e16 h2 (in_c 1 rfl) rfl; (first | have a6 := in_u ((in_c 1 rfl)) | (have a6 := (in_c 1 rfl); unfold In at a6)); have oc := oc_208_49_32; omega); omega)] at h9; exact h9); (have vx := (show ((x2).toNatClampNeg : Int) = (x2).toInt from clx h2.1); have rx := row_32_0 (a1 := z17) hIc8 hFc8 rfl rfl rfl (by rw [hFc8.2.2.1 32 4 rfl, hFc8.2.2.1 32 0 rfl]; exact q_1) q_0 h2 rfl (e17.trans (congrArg (sc8.1 42) (show z16.toInt.toNat = (x2.toInt + 1).toNat from (by rw [show z16.toInt = x2.toInt + 1 from (by (first | have a0 := in_u h4 | (have a0 := h4; unfold In at a0)); (first | have a1 := in_u h2 | (have a1 := h2; unfold In at a1)); (first | have a2 := in_u ro_49_10 | (have a2 := ro_49_10; unfold In at a2)); (first | have a3 := in_u j8_7 | (have a3 := j8_7; unfold In at a3)); (first | have a4 := in_u i16 | (have a4 := i16; unfold In at a4)); have a5 := t_add e16 h2 (in_c 1 rfl) rfl; (first | have a6 := in_u ((in_c 1 rfl)) | (have a6 := (in_c 1 rfl); unfold In at a6)); have oc := oc_208_49_32; omega)])))); rw [hFc8.1 42 rfl, ← vx] at rx; rw [(show (4 - (x4).toInt).toNat = (3 - (x4).toInt).toNat + 1 from (by (first | have a0 := in_u h4 | (have a0 := h4; unfold In at a0)); (first | have a1 := in_u h2 | (have a1 := h2; unfold In at a1)); (first | have a2 := in_u ro_49_10 | (have a2 := ro_49_10; unfold In at a2)); (first | have a3 := in_u j8_7 | (have a3 := j8_7; unfold In at a3)); (first | have a4 := in_u i16 | (have a4 := i16; unfold In at a4)); have a5 := t_add e16 h2 (in_c 1 rfl) rfl; (first | have a6 := in_u ((in_c 1 rfl)) | (have a6 := (in_c 1 rfl); unfold In at a6)); have oc := oc_208_49_32; omega)), ← shz_e (k := (y8_7).toInt - (s.1 42 (x2).toNatClampNeg).toInt) (fun p hp hf => by have h9 := rx.2.1 p hp hf; (first | have a0 := in_u h4 | (have a0 := h4; unfold In at a0)); (first | have a1 := in_u h2 | (have a1 := h2; unfold In at a1)); (first | have a2 := in_u ro_49_10 | (have a2 := ro_49_10; unfold In at a2)); (first | have a3 := in_u j8_7 | (have a3 := j8_7; unfold In at a3)); (first | have a4 := in_u i16 | (have a4 := i16; unfold In at a4)); have a5 := t_add e16 h2 (in_c 1 rfl) rfl; (first | have a6 := in_u ((in_c 1 rfl)) | (have a6 := (in_c 1 rfl); unfold In at a6)); have oc := oc_208_49_32; omega)]; exact g8_0)
          exact g_return (gd rfl) rfl (hP _ _ ⟨sc8, hIc8, hFc8, rfl, rfl, n184⟩)
        · skip
          have i18 := r_lt1 0 159 c18 j8_7 i17 rfl
          have i18a := r_lt2 1 160 c18 j8_7 i17 rfl
          refine g_aload_n 22 (gd rfl) rfl rfl ?_
          refine g_getI 25 (gd rfl) rfl rfl rfl (fun z22 e22 => ?_)
          have i22 := inv_F hIc8 0 2001 rfl e22
          refine g_sipush 2000 28 (gd rfl) rfl rfl ?_
          refine g_cmp_gt 31 184 (gd rfl) rfl rfl (fun c28 => ?_) (fun c28 => ?_)
          · skip
            have i28 := r_lt2 2001 2001 c28 (in_c 2000 rfl) i22 rfl
            have n184 : (((sc8).2.2.1 49 11).toInt = cap ((s.2.2.1 49 11).toInt + shw (ARE (gvD s) 0) (ARE (gvD s) 1) (s.2.2.1 49 10).toInt (4 - (x4).toInt).toNat ((x2).toNatClampNeg : Int) (bt x3))) := by by_cases c4 : 4 ≤ (x4).toInt; (rw [show (4 - (x4).toInt).toNat = 0 from (by (first | have a0 := oa6 h4 h2 ro_49_10 i18 i28 i16 | ((first | have a0 := in_u h4 | (have a0 := h4; unfold In at a0)); (first | have a1 := in_u h2 | (have a1 := h2; unfold In at a1)); (first | have a2 := in_u ro_49_10 | (have a2 := ro_49_10; unfold In at a2)); (first | have a3 := in_u i18 | (have a3 := i18; unfold In at a3)); (first | have a4 := in_u i28 | (have a4 := i28; unfold In at a4)); (first | have a5 := in_u i16 | (have a5 := i16; unfold In at a5)))); have a6 := t_add e16 h2 (in_c 1 rfl) rfl; (first | have a7 := in_u ((in_c 1 rfl)) | (have a7 := (in_c 1 rfl); unfold In at a7)); have oc := oc_208_49_32; omega)]; show _ = cap ((s.2.2.1 49 11).toInt + 0); have h9 := g8_0; rw [shz_0 (by have h8 := g8_2 (by (first | have a0 := oa6 h4 h2 ro_49_10 i18 i28 i16 | ((first | have a0 := in_u h4 | (have a0 := h4; unfold In at a0)); (first | have a1 := in_u h2 | (have a1 := h2; unfold In at a1)); (first | have a2 := in_u ro_49_10 | (have a2 := ro_49_10; unfold In at a2)); (first | have a3 := in_u i18 | (have a3 := i18; unfold In at a3)); (first | have a4 := in_u i28 | (have a4 := i28; unfold In at a4)); (first | have a5 := in_u i16 | (have a5 := i16; unfold In at a5)))); have a6 := t_add e16 h2 (in_c 1 rfl) rfl; (first | have a7 := in_u ((in_c 1 rfl)) | (have a7 := (in_c 1 rfl); unfold In at a7)); have oc := oc_208_49_32; omega); omega)] at h9; exact h9); (rw [(show (4 - (x4).toInt).toNat = (3 - (x4).toInt).toNat + 1 from (by (first | have a0 := oa6 h4 h2 ro_49_10 i18 i28 i16 | ((first | have a0 := in_u h4 | (have a0 := h4; unfold In at a0)); (first | have a1 := in_u h2 | (have a1 := h2; unfold In at a1)); (first | have a2 := in_u ro_49_10 | (have a2 := ro_49_10; unfold In at a2)); (first | have a3 := in_u i18 | (have a3 := i18; unfold In at a3)); (first | have a4 := in_u i28 | (have a4 := i28; unfold In at a4)); (first | have a5 := in_u i16 | (have a5 := i16; unfold In at a5)))); have a6 := t_add e16 h2 (in_c 1 rfl) rfl; (first | have a7 := in_u ((in_c 1 rfl)) | (have a7 := (in_c 1 rfl); unfold In at a7)); have oc := oc_208_49_32; omega))]; exact cap_f g8_0 (by have h9 := (shz_l (F := (ARE (gvD s) 0)) (T := (ARE (gvD s) 1)) (t := (s.2.2.1 49 10).toInt) (d := (3 - (x4).toInt).toNat) (u := (x2).toNatClampNeg) (V := (bt x3)) (k := (y8_7).toInt - (s.1 42 (x2).toNatClampNeg).toInt)).2; omega) (by rw [← e22]; (first | have a0 := oa6 h4 h2 ro_49_10 i18 i28 i16 | ((first | have a0 := in_u h4 | (have a0 := h4; unfold In at a0)); (first | have a1 := in_u h2 | (have a1 := h2; unfold In at a1)); (first | have a2 := in_u ro_49_10 | (have a2 := ro_49_10; unfold In at a2)); (first | have a3 := in_u i18 | (have a3 := i18; unfold In at a3)); (first | have a4 := in_u i28 | (have a4 := i28; unfold In at a4)); (first | have a5 := in_u i16 | (have a5 := i16; unfold In at a5)))); have a6 := t_add e16 h2 (in_c 1 rfl) rfl; (first | have a7 := in_u ((in_c 1 rfl)) | (have a7 := (in_c 1 rfl); unfold In at a7)); have oc := oc_208_49_32; omega))
            exact g_return (gd rfl) rfl (hP _ _ ⟨sc8, hIc8, hFc8, rfl, rfl, n184⟩)
          · skip
            have i28 := r_le1 0 2000 c28 i22 (in_c 2000 rfl) rfl
            refine g_iload 33 (gd rfl) rfl rfl ?_
            refine g_iconst 4 34 (gd rfl) rfl rfl ?_
            refine g_cmp_ge 37 184 (gd rfl) rfl rfl (fun c34 => ?_) (fun c34 => ?_)
            · skip
              have i34 := r_le2 4 4 c34 (in_c 4 rfl) h4 rfl
              have n184 : (((sc8).2.2.1 49 11).toInt = cap ((s.2.2.1 49 11).toInt + shw (ARE (gvD s) 0) (ARE (gvD s) 1) (s.2.2.1 49 10).toInt (4 - (x4).toInt).toNat ((x2).toNatClampNeg : Int) (bt x3))) := by rw [show (4 - (x4).toInt).toNat = 0 from (by (first | have a0 := oa6 i34 h2 ro_49_10 i18 i28 i16 | ((first | have a0 := in_u i34 | (have a0 := i34; unfold In at a0)); (first | have a1 := in_u h2 | (have a1 := h2; unfold In at a1)); (first | have a2 := in_u ro_49_10 | (have a2 := ro_49_10; unfold In at a2)); (first | have a3 := in_u i18 | (have a3 := i18; unfold In at a3)); (first | have a4 := in_u i28 | (have a4 := i28; unfold In at a4)); (first | have a5 := in_u i16 | (have a5 := i16; unfold In at a5)))); have a6 := t_add e16 h2 (in_c 1 rfl) rfl; (first | have a7 := in_u ((in_c 1 rfl)) | (have a7 := (in_c 1 rfl); unfold In at a7)); have oc := oc_208_49_32; omega)]; show _ = cap ((s.2.2.1 49 11).toInt + 0); have h9 := g8_0; rw [shz_0 (by have h8 := g8_2 (by (first | have a0 := oa6 i34 h2 ro_49_10 i18 i28 i16 | ((first | have a0 := in_u i34 | (have a0 := i34; unfold In at a0)); (first | have a1 := in_u h2 | (have a1 := h2; unfold In at a1)); (first | have a2 := in_u ro_49_10 | (have a2 := ro_49_10; unfold In at a2)); (first | have a3 := in_u i18 | (have a3 := i18; unfold In at a3)); (first | have a4 := in_u i28 | (have a4 := i28; unfold In at a4)); (first | have a5 := in_u i16 | (have a5 := i16; unfold In at a5)))); have a6 := t_add e16 h2 (in_c 1 rfl) rfl; (first | have a7 := in_u ((in_c 1 rfl)) | (have a7 := (in_c 1 rfl); unfold In at a7)); have oc := oc_208_49_32; omega); omega)] at h9; exact h9
              exact g_return (gd rfl) rfl (hP _ _ ⟨sc8, hIc8, hFc8, rfl, rfl, n184⟩)
            · skip
              have i34 := r_lt1 0 3 c34 h4 (in_c 4 rfl) rfl
              refine g_aload_n 38 (gd rfl) rfl rfl ?_
              refine g_getA (q2 := 43) 41 (gd rfl) rfl rfl rfl rfl ?_
              refine g_iload 43 (gd rfl) rfl rfl ?_
              refine g_iaload 44 (gd rfl) rfl (n := 160) rfl (in_ix i18 rfl) (fun z43 e43 => ?_)
              have i43 := inv_I hIc8 (n := 160) (t := 0) 0 159 rfl (in_ix i18 rfl) rfl e43
              refine g_istore 46 (gd rfl) rfl (Nat.le_of_ble_eq_true rfl) ?_
              refine g_aload_n 47 (gd rfl) rfl rfl ?_
              refine g_getA (q2 := 35) 50 (gd rfl) rfl rfl rfl rfl ?_
              refine g_iload 52 (gd rfl) rfl rfl ?_
              refine g_iaload 53 (gd rfl) rfl (n := 160) rfl (in_ix i43 rfl) (fun z52 e52 => ?_)
              have i52 := inv_I hIc8 (n := 160) (t := 0) 0 31 rfl (in_ix i43 rfl) rfl e52
              refine g_istore 55 (gd rfl) rfl (Nat.le_of_ble_eq_true rfl) ?_
              refine g_lload 57 (gd rfl) rfl rfl ?_
              refine g_aload_n 58 (gd rfl) rfl rfl ?_
              refine g_getA (q2 := 36) 61 (gd rfl) rfl rfl rfl rfl ?_
              refine g_iload 63 (gd rfl) rfl rfl ?_
              refine g_iaload 64 (gd rfl) rfl (n := 160) rfl (in_ix i43 rfl) (fun z63 e63 => ?_)
              have i63 := inv_I hIc8 (n := 160) (t := 0) (-1000000) 1000000 rfl (in_ix i43 rfl) rfl e63
              refine g_i2l 65 (gd rfl) rfl (fun z64 e64 => ?_)
              have i64 := l_i e64 i63
              refine g_bipush 35 67 (gd rfl) rfl rfl ?_
              refine g_lshl 68 (gd rfl) rfl (fun z67 e67 => ?_)
              refine g_ladd 69 (gd rfl) rfl (fun z68 e68 => ?_)
              refine g_iload 71 (gd rfl) rfl rfl ?_
              refine g_i2l 72 (gd rfl) rfl (fun z71 e71 => ?_)
              have i71 := l_i e71 i43
              refine g_bipush 24 74 (gd rfl) rfl rfl ?_
              refine g_bipush 8 76 (gd rfl) rfl rfl ?_
              refine g_iload 78 (gd rfl) rfl rfl ?_
              refine g_imul 79 (gd rfl) rfl (fun z78 e78 => ?_)
              have i78 := in_mulc 8 0 24 (Or.inl e78) i34 rfl rfl
              refine g_isub 80 (gd rfl) rfl (fun z79 e79 => ?_)
              have i79 := in_sub 0 24 e79 (in_c 24 rfl) i78 rfl rfl
              refine g_lshl 81 (gd rfl) rfl (fun z80 e80 => ?_)
              refine g_ladd 82 (gd rfl) rfl (fun z81 e81 => ?_)
              refine g_lstore 84 (gd rfl) rfl (Nat.le_of_ble_eq_true rfl) ?_
              refine g_iload 86 (gd rfl) rfl rfl ?_
              refine g_aload_n 87 (gd rfl) rfl rfl ?_
              refine g_getI 90 (gd rfl) rfl rfl rfl (fun z87 e87 => ?_)
              have q87 : u_49_10 = z87 := (fr_F e_49_10 hFc8 rfl).trans e87.symm
              subst q87
              refine g_cmp_ne 93 130 (gd rfl) rfl rfl (fun c90 => ?_) (fun c90 => ?_)
              · skip
                refine g_iload_n 131 (gd rfl) rfl rfl ?_
                refine g_iload 133 (gd rfl) rfl rfl ?_
                refine g_ishr 134 (gd rfl) rfl (fun z133 e133 => ?_)
                refine g_iconst 1 135 (gd rfl) rfl rfl ?_
                refine g_iand 136 (gd rfl) rfl (fun z135 e135 => ?_)
                have i135 := in_and2 e135 (in_c 1 rfl) rfl
                refine g_if_ne 139 178 (gd rfl) rfl rfl (fun c136 => ?_) (fun c136 => ?_)
                · skip
                  have i136 := z_ne 1 1 c136 i135 rfl
                  refine g_iinc 181 (gd rfl) rfl rfl (Nat.le_of_ble_eq_true rfl) (fun z178 e178 => ?_)
                  have i178 := in_add 1 160 e178 i18 (in_c 1 rfl) rfl rfl
                  refine g_goto 8 (gd rfl) rfl ?_
                  have n8 : (((sc8).2.2.1 49 11).toInt = cap ((s.2.2.1 49 11).toInt + shz (ARE (gvD s) 0) (ARE (gvD s) 1) (s.2.2.1 49 10).toInt (3 - (x4).toInt).toNat (x2).toNatClampNeg (bt x3) ((z178).toInt - (s.1 42 (x2).toNatClampNeg).toInt))) := by have vx := (show ((x2).toNatClampNeg : Int) = (x2).toInt from clx h2.1); have rx := row_32_0 (a1 := z17) hIc8 hFc8 rfl rfl rfl (by rw [hFc8.2.2.1 32 4 rfl, hFc8.2.2.1 32 0 rfl]; exact q_1) q_0 h2 rfl (e17.trans (congrArg (sc8.1 42) (show z16.toInt.toNat = (x2.toInt + 1).toNat from (by rw [show z16.toInt = x2.toInt + 1 from (by (first | have a0 := in_u i34 | (have a0 := i34; unfold In at a0)); (first | have a1 := in_u h2 | (have a1 := h2; unfold In at a1)); (first | have a2 := in_u ro_49_10 | (have a2 := ro_49_10; unfold In at a2)); (first | have a3 := in_u i18 | (have a3 := i18; unfold In at a3)); (first | have a4 := in_u i52 | (have a4 := i52; unfold In at a4)); (first | have a5 := in_u i43 | (have a5 := i43; unfold In at a5)); (first | have a6 := in_u i178 | (have a6 := i178; unfold In at a6)); have a7 := t_add e178 i18 (in_c 1 rfl) rfl; (first | have a8 := in_u ((in_c 1 rfl)) | (have a8 := (in_c 1 rfl); unfold In at a8)); (first | have a9 := in_u i28 | (have a9 := i28; unfold In at a9)); (first | have a10 := in_u i79 | (have a10 := i79; unfold In at a10)); have a11 := t_sub e79 (in_c 24 rfl) i78 rfl; (first | have a12 := in_u i78 | (have a12 := i78; unfold In at a12)); have a13 := (t_mulc 8 (Or.inl e78) i34 rfl).1; (first | have a14 := in_u ((in_c 24 rfl)) | (have a14 := (in_c 24 rfl); unfold In at a14)); have a15 := tx_i2l e71; have a16 := tx_i2l e64; (first | have a17 := in_u i63 | (have a17 := i63; unfold In at a17)); (first | have a18 := in_u i16 | (have a18 := i16; unfold In at a18)); have a19 := t_add e16 h2 (in_c 1 rfl) rfl; have oc := oc_208_49_32; omega)])))); rw [hFc8.1 42 rfl, ← vx] at rx; obtain ⟨p, p1, p2, p3, p4⟩ := rx.1 y8_7 z43 (by have h9 := g8_1; (first | have a0 := in_u i34 | (have a0 := i34; unfold In at a0)); (first | have a1 := in_u h2 | (have a1 := h2; unfold In at a1)); (first | have a2 := in_u ro_49_10 | (have a2 := ro_49_10; unfold In at a2)); (first | have a3 := in_u i18 | (have a3 := i18; unfold In at a3)); (first | have a4 := in_u i52 | (have a4 := i52; unfold In at a4)); (first | have a5 := in_u i43 | (have a5 := i43; unfold In at a5)); (first | have a6 := in_u i178 | (have a6 := i178; unfold In at a6)); have a7 := t_add e178 i18 (in_c 1 rfl) rfl; (first | have a8 := in_u ((in_c 1 rfl)) | (have a8 := (in_c 1 rfl); unfold In at a8)); (first | have a9 := in_u i28 | (have a9 := i28; unfold In at a9)); (first | have a10 := in_u i79 | (have a10 := i79; unfold In at a10)); have a11 := t_sub e79 (in_c 24 rfl) i78 rfl; (first | have a12 := in_u i78 | (have a12 := i78; unfold In at a12)); have a13 := (t_mulc 8 (Or.inl e78) i34 rfl).1; (first | have a14 := in_u ((in_c 24 rfl)) | (have a14 := (in_c 24 rfl); unfold In at a14)); have a15 := tx_i2l e71; have a16 := tx_i2l e64; (first | have a17 := in_u i63 | (have a17 := i63; unfold In at a17)); (first | have a18 := in_u i16 | (have a18 := i16; unfold In at a18)); have a19 := t_add e16 h2 (in_c 1 rfl) rfl; have oc := oc_208_49_32; omega) (by (first | have a0 := in_u i34 | (have a0 := i34; unfold In at a0)); (first | have a1 := in_u h2 | (have a1 := h2; unfold In at a1)); (first | have a2 := in_u ro_49_10 | (have a2 := ro_49_10; unfold In at a2)); (first | have a3 := in_u i18 | (have a3 := i18; unfold In at a3)); (first | have a4 := in_u i52 | (have a4 := i52; unfold In at a4)); (first | have a5 := in_u i43 | (have a5 := i43; unfold In at a5)); (first | have a6 := in_u i178 | (have a6 := i178; unfold In at a6)); have a7 := t_add e178 i18 (in_c 1 rfl) rfl; (first | have a8 := in_u ((in_c 1 rfl)) | (have a8 := (in_c 1 rfl); unfold In at a8)); (first | have a9 := in_u i28 | (have a9 := i28; unfold In at a9)); (first | have a10 := in_u i79 | (have a10 := i79; unfold In at a10)); have a11 := t_sub e79 (in_c 24 rfl) i78 rfl; (first | have a12 := in_u i78 | (have a12 := i78; unfold In at a12)); have a13 := (t_mulc 8 (Or.inl e78) i34 rfl).1; (first | have a14 := in_u ((in_c 24 rfl)) | (have a14 := (in_c 24 rfl); unfold In at a14)); have a15 := tx_i2l e71; have a16 := tx_i2l e64; (first | have a17 := in_u i63 | (have a17 := i63; unfold In at a17)); (first | have a18 := in_u i16 | (have a18 := i16; unfold In at a18)); have a19 := t_add e16 h2 (in_c 1 rfl) rfl; have oc := oc_208_49_32; omega) e43; have pz : z43.toNatClampNeg = p := (by show z43.toInt.toNat = p; omega); have hv : z52 = s.1 35 p := (by rw [← pz]; exact e52.trans (congrFun (hFc8.1 35 rfl) _)); have ne : ((gvD s).2.1 p).toInt ≠ -1 := (fun z => by rw [are_no z] at p2; omega); have tp : (ARE (gvD s) 1) p = (z52).toInt := ((are_t p1 ne (by decide)).trans (congrArg Int32.toInt hv.symm)); have w9 : (((z52).toNatClampNeg : Nat) : Int) = (z52).toInt := clx i52.1; have u9 : (u_49_10).toInt = (s.2.2.1 49 10).toInt := congrArg Int32.toInt e_49_10; have k9 : (z178).toInt - (s.1 42 (x2).toNatClampNeg).toInt = (y8_7).toInt - (s.1 42 (x2).toNatClampNeg).toInt + 1 := (by (first | have a0 := in_u i34 | (have a0 := i34; unfold In at a0)); (first | have a1 := in_u h2 | (have a1 := h2; unfold In at a1)); (first | have a2 := in_u ro_49_10 | (have a2 := ro_49_10; unfold In at a2)); (first | have a3 := in_u i18 | (have a3 := i18; unfold In at a3)); (first | have a4 := in_u i52 | (have a4 := i52; unfold In at a4)); (first | have a5 := in_u i43 | (have a5 := i43; unfold In at a5)); (first | have a6 := in_u i178 | (have a6 := i178; unfold In at a6)); have a7 := t_add e178 i18 (in_c 1 rfl) rfl; (first | have a8 := in_u ((in_c 1 rfl)) | (have a8 := (in_c 1 rfl); unfold In at a8)); (first | have a9 := in_u i28 | (have a9 := i28; unfold In at a9)); (first | have a10 := in_u i79 | (have a10 := i79; unfold In at a10)); have a11 := t_sub e79 (in_c 24 rfl) i78 rfl; (first | have a12 := in_u i78 | (have a12 := i78; unfold In at a12)); have a13 := (t_mulc 8 (Or.inl e78) i34 rfl).1; (first | have a14 := in_u ((in_c 24 rfl)) | (have a14 := (in_c 24 rfl); unfold In at a14)); have a15 := tx_i2l e71; have a16 := tx_i2l e64; (first | have a17 := in_u i63 | (have a17 := i63; unfold In at a17)); (first | have a18 := in_u i16 | (have a18 := i16; unfold In at a18)); have a19 := t_add e16 h2 (in_c 1 rfl) rfl; have oc := oc_208_49_32; omega); rw [shz_s (d := (3 - (x4).toInt).toNat) (V := (bt x3)) (t := (s.2.2.1 49 10).toInt) p1 p2 p3 k9]; rw [shp_v (by rw [tp]; (first | have a0 := in_u i34 | (have a0 := i34; unfold In at a0)); (first | have a1 := in_u h2 | (have a1 := h2; unfold In at a1)); (first | have a2 := in_u ro_49_10 | (have a2 := ro_49_10; unfold In at a2)); (first | have a3 := in_u i18 | (have a3 := i18; unfold In at a3)); (first | have a4 := in_u i52 | (have a4 := i52; unfold In at a4)); (first | have a5 := in_u i43 | (have a5 := i43; unfold In at a5)); (first | have a6 := in_u i178 | (have a6 := i178; unfold In at a6)); have a7 := t_add e178 i18 (in_c 1 rfl) rfl; (first | have a8 := in_u ((in_c 1 rfl)) | (have a8 := (in_c 1 rfl); unfold In at a8)); (first | have a9 := in_u i28 | (have a9 := i28; unfold In at a9)); (first | have a10 := in_u i79 | (have a10 := i79; unfold In at a10)); have a11 := t_sub e79 (in_c 24 rfl) i78 rfl; (first | have a12 := in_u i78 | (have a12 := i78; unfold In at a12)); have a13 := (t_mulc 8 (Or.inl e78) i34 rfl).1; (first | have a14 := in_u ((in_c 24 rfl)) | (have a14 := (in_c 24 rfl); unfold In at a14)); have a15 := tx_i2l e71; have a16 := tx_i2l e64; (first | have a17 := in_u i63 | (have a17 := i63; unfold In at a17)); (first | have a18 := in_u i16 | (have a18 := i16; unfold In at a18)); have a19 := t_add e16 h2 (in_c 1 rfl) rfl; have oc := oc_208_49_32; omega) (by rw [tp, ← w9]; exact bt_t1 (bt_ask e133 e135 i52) c136), Int.add_zero]; exact g8_0
                  have n8a : ((s.1 42 (x2).toNatClampNeg).toInt ≤ (z178).toInt) := by have h9 := g8_1; (first | have a0 := oa7 i34 h2 ro_49_10 i18 i52 i43 i178 | ((first | have a0 := in_u i34 | (have a0 := i34; unfold In at a0)); (first | have a1 := in_u h2 | (have a1 := h2; unfold In at a1)); (first | have a2 := in_u ro_49_10 | (have a2 := ro_49_10; unfold In at a2)); (first | have a3 := in_u i18 | (have a3 := i18; unfold In at a3)); (first | have a4 := in_u i52 | (have a4 := i52; unfold In at a4)); (first | have a5 := in_u i43 | (have a5 := i43; unfold In at a5)); (first | have a6 := in_u i178 | (have a6 := i178; unfold In at a6)))); have a7 := t_add e178 i18 (in_c 1 rfl) rfl; (first | have a8 := oa3 ((in_c 1 rfl)) i28 i79 | ((first | have a8 := in_u ((in_c 1 rfl)) | (have a8 := (in_c 1 rfl); unfold In at a8)); (first | have a9 := in_u i28 | (have a9 := i28; unfold In at a9)); (first | have a10 := in_u i79 | (have a10 := i79; unfold In at a10)))); have a11 := t_sub e79 (in_c 24 rfl) i78 rfl; (first | have a12 := in_u i78 | (have a12 := i78; unfold In at a12)); have a13 := (t_mulc 8 (Or.inl e78) i34 rfl).1; (first | have a14 := in_u ((in_c 24 rfl)) | (have a14 := (in_c 24 rfl); unfold In at a14)); have a15 := tx_i2l e71; have a16 := tx_i2l e64; (first | have a17 := oa2 i63 i16 | ((first | have a17 := in_u i63 | (have a17 := i63; unfold In at a17)); (first | have a18 := in_u i16 | (have a18 := i16; unfold In at a18)))); have a19 := t_add e16 h2 (in_c 1 rfl) rfl; have oc := oc_208_49_32; omega
                  have n8b : (4 ≤ (x4).toInt → (z178).toInt = (s.1 42 (x2).toNatClampNeg).toInt) := by intro h; exfalso; (first | have a0 := oa7 i34 h2 ro_49_10 i18 i52 i43 i178 | ((first | have a0 := in_u i34 | (have a0 := i34; unfold In at a0)); (first | have a1 := in_u h2 | (have a1 := h2; unfold In at a1)); (first | have a2 := in_u ro_49_10 | (have a2 := ro_49_10; unfold In at a2)); (first | have a3 := in_u i18 | (have a3 := i18; unfold In at a3)); (first | have a4 := in_u i52 | (have a4 := i52; unfold In at a4)); (first | have a5 := in_u i43 | (have a5 := i43; unfold In at a5)); (first | have a6 := in_u i178 | (have a6 := i178; unfold In at a6)))); have a7 := t_add e178 i18 (in_c 1 rfl) rfl; (first | have a8 := oa3 ((in_c 1 rfl)) i28 i79 | ((first | have a8 := in_u ((in_c 1 rfl)) | (have a8 := (in_c 1 rfl); unfold In at a8)); (first | have a9 := in_u i28 | (have a9 := i28; unfold In at a9)); (first | have a10 := in_u i79 | (have a10 := i79; unfold In at a10)))); have a11 := t_sub e79 (in_c 24 rfl) i78 rfl; (first | have a12 := in_u i78 | (have a12 := i78; unfold In at a12)); have a13 := (t_mulc 8 (Or.inl e78) i34 rfl).1; (first | have a14 := in_u ((in_c 24 rfl)) | (have a14 := (in_c 24 rfl); unfold In at a14)); have a15 := tx_i2l e71; have a16 := tx_i2l e64; (first | have a17 := oa2 i63 i16 | ((first | have a17 := in_u i63 | (have a17 := i63; unfold In at a17)); (first | have a18 := in_u i16 | (have a18 := i16; unfold In at a18)))); have a19 := t_add e16 h2 (in_c 1 rfl) rfl; have oc := oc_208_49_32; omega
                  exact gg_w (by first | exact Nat.le_add_right _ _ | exact gw2 | exact gw3 | exact gwe rfl | exact gwf rfl | exact gwg rfl | exact gwh rfl | omega) (gg_f (gf_cons rfl (gf_cons rfl (gf_cons rfl (gf_cons rfl (gf_cons rfl (gf_cons rfl (gf_cons rfl gf_nil))))))) (ih8 sc8 z178 hIc8 hFc8 (in_w 0 160 i178 rfl) n8 n8a n8b (m_up mm8 (t_add e178 i18 (in_c 1 rfl) rfl) (in_w 1 1 (in_c 1 rfl) rfl))))
                · skip
                  have i136 := z_eq 0 0 c136 i135 rfl
                  refine g_aload_n 140 (gd rfl) rfl rfl ?_
                  refine g_aload_n 141 (gd rfl) rfl rfl ?_
                  refine g_iload 143 (gd rfl) rfl rfl ?_
                  refine g_iload_n 144 (gd rfl) rfl rfl ?_
                  refine g_iconst 1 145 (gd rfl) rfl rfl ?_
                  refine g_iload 147 (gd rfl) rfl rfl ?_
                  refine g_ishl 148 (gd rfl) rfl (fun z147 e147 => ?_)
                  refine g_ior 149 (gd rfl) rfl (fun z148 e148 => ?_)
                  refine g_iconst 3 150 (gd rfl) rfl rfl ?_
                  refine g_iload 152 (gd rfl) rfl rfl ?_
                  refine g_isub 153 (gd rfl) rfl (fun z152 e152 => ?_)
                  have i152 := in_sub 0 3 e152 (in_c 3 rfl) i34 rfl rfl
                  have p153 : TQD sc8 := by exact tqd_fr q_0 hFc8 rfl
                  have p153a : (((sc8).2.2.1 32 4).toInt = ((sc8).2.2.1 32 0).toInt) := by exact (by rw [hFc8.2.2.1 32 4 rfl, hFc8.2.2.1 32 0 rfl]; exact q_1)
                  have p153b : NDQ (gvD sc8) := by rw [(gvD_fr hFc8 rfl)]; exact q_2
                  refine g_callv (X := _) (As := [.ref (A 32), .int z52, .int z148, .int z152]) (r := []) (b := A 49) (q := 49) 156 (gd rfl) rfl rfl rfl rfl rfl (ww_o rfl) (Nat.le_of_ble_eq_true rfl) (Nat.zero_le _) (Nat.zero_le _) (f_209_49_32 (by first | exact dq1 hd rfl | exact dq0 hd rfl | exact dq2 hd rfl | exact dq3 hd rfl | omega) hIc8 (in_w 0 31 i52 rfl) (in_w 0 3 i152 rfl) p153 p153a p153b) (fun e u h => h) (fun v u h => ?_)
                  obtain ⟨z153, rfl, rfl, i153, p153c⟩ := h
                  show GG _ _ _ _ _ _ _ _ [.int z153] _ _ _
                  refine g_if_eq 159 178 (gd rfl) rfl rfl (fun c156 => ?_) (fun c156 => ?_)
                  · skip
                    have i156 := z_eq 0 0 c156 i153 rfl
                    refine g_iinc 181 (gd rfl) rfl rfl (Nat.le_of_ble_eq_true rfl) (fun z178 e178 => ?_)
                    have i178 := in_add 1 160 e178 i18 (in_c 1 rfl) rfl rfl
                    refine g_goto 8 (gd rfl) rfl ?_
                    have n8 : (((sc8).2.2.1 49 11).toInt = cap ((s.2.2.1 49 11).toInt + shz (ARE (gvD s) 0) (ARE (gvD s) 1) (s.2.2.1 49 10).toInt (3 - (x4).toInt).toNat (x2).toNatClampNeg (bt x3) ((z178).toInt - (s.1 42 (x2).toNatClampNeg).toInt))) := by have vx := (show ((x2).toNatClampNeg : Int) = (x2).toInt from clx h2.1); have rx := row_32_0 (a1 := z17) hIc8 hFc8 rfl rfl rfl (by rw [hFc8.2.2.1 32 4 rfl, hFc8.2.2.1 32 0 rfl]; exact q_1) q_0 h2 rfl (e17.trans (congrArg (sc8.1 42) (show z16.toInt.toNat = (x2.toInt + 1).toNat from (by rw [show z16.toInt = x2.toInt + 1 from (by (first | have a0 := in_u i34 | (have a0 := i34; unfold In at a0)); (first | have a1 := in_u h2 | (have a1 := h2; unfold In at a1)); (first | have a2 := in_u ro_49_10 | (have a2 := ro_49_10; unfold In at a2)); (first | have a3 := in_u i18 | (have a3 := i18; unfold In at a3)); (first | have a4 := in_u i52 | (have a4 := i52; unfold In at a4)); (first | have a5 := in_u i43 | (have a5 := i43; unfold In at a5)); (first | have a6 := in_u i178 | (have a6 := i178; unfold In at a6)); have a7 := t_add e178 i18 (in_c 1 rfl) rfl; (first | have a8 := in_u ((in_c 1 rfl)) | (have a8 := (in_c 1 rfl); unfold In at a8)); (first | have a9 := in_u i28 | (have a9 := i28; unfold In at a9)); (first | have a10 := in_u i152 | (have a10 := i152; unfold In at a10)); have a11 := t_sub e152 (in_c 3 rfl) i34 rfl; (first | have a12 := in_u ((in_c 3 rfl)) | (have a12 := (in_c 3 rfl); unfold In at a12)); (first | have a13 := in_u i79 | (have a13 := i79; unfold In at a13)); have a14 := t_sub e79 (in_c 24 rfl) i78 rfl; (first | have a15 := in_u i78 | (have a15 := i78; unfold In at a15)); have a16 := (t_mulc 8 (Or.inl e78) i34 rfl).1; (first | have a17 := in_u ((in_c 24 rfl)) | (have a17 := (in_c 24 rfl); unfold In at a17)); have a18 := tx_i2l e71; have a19 := tx_i2l e64; (first | have a20 := in_u i63 | (have a20 := i63; unfold In at a20)); (first | have a21 := in_u i16 | (have a21 := i16; unfold In at a21)); have a22 := t_add e16 h2 (in_c 1 rfl) rfl; have oc := oc_208_49_32; omega)])))); rw [hFc8.1 42 rfl, ← vx] at rx; obtain ⟨p, p1, p2, p3, p4⟩ := rx.1 y8_7 z43 (by have h9 := g8_1; (first | have a0 := in_u i34 | (have a0 := i34; unfold In at a0)); (first | have a1 := in_u h2 | (have a1 := h2; unfold In at a1)); (first | have a2 := in_u ro_49_10 | (have a2 := ro_49_10; unfold In at a2)); (first | have a3 := in_u i18 | (have a3 := i18; unfold In at a3)); (first | have a4 := in_u i52 | (have a4 := i52; unfold In at a4)); (first | have a5 := in_u i43 | (have a5 := i43; unfold In at a5)); (first | have a6 := in_u i178 | (have a6 := i178; unfold In at a6)); have a7 := t_add e178 i18 (in_c 1 rfl) rfl; (first | have a8 := in_u ((in_c 1 rfl)) | (have a8 := (in_c 1 rfl); unfold In at a8)); (first | have a9 := in_u i28 | (have a9 := i28; unfold In at a9)); (first | have a10 := in_u i152 | (have a10 := i152; unfold In at a10)); have a11 := t_sub e152 (in_c 3 rfl) i34 rfl; (first | have a12 := in_u ((in_c 3 rfl)) | (have a12 := (in_c 3 rfl); unfold In at a12)); (first | have a13 := in_u i79 | (have a13 := i79; unfold In at a13)); have a14 := t_sub e79 (in_c 24 rfl) i78 rfl; (first | have a15 := in_u i78 | (have a15 := i78; unfold In at a15)); have a16 := (t_mulc 8 (Or.inl e78) i34 rfl).1; (first | have a17 := in_u ((in_c 24 rfl)) | (have a17 := (in_c 24 rfl); unfold In at a17)); have a18 := tx_i2l e71; have a19 := tx_i2l e64; (first | have a20 := in_u i63 | (have a20 := i63; unfold In at a20)); (first | have a21 := in_u i16 | (have a21 := i16; unfold In at a21)); have a22 := t_add e16 h2 (in_c 1 rfl) rfl; have oc := oc_208_49_32; omega) (by (first | have a0 := in_u i34 | (have a0 := i34; unfold In at a0)); (first | have a1 := in_u h2 | (have a1 := h2; unfold In at a1)); (first | have a2 := in_u ro_49_10 | (have a2 := ro_49_10; unfold In at a2)); (first | have a3 := in_u i18 | (have a3 := i18; unfold In at a3)); (first | have a4 := in_u i52 | (have a4 := i52; unfold In at a4)); (first | have a5 := in_u i43 | (have a5 := i43; unfold In at a5)); (first | have a6 := in_u i178 | (have a6 := i178; unfold In at a6)); have a7 := t_add e178 i18 (in_c 1 rfl) rfl; (first | have a8 := in_u ((in_c 1 rfl)) | (have a8 := (in_c 1 rfl); unfold In at a8)); (first | have a9 := in_u i28 | (have a9 := i28; unfold In at a9)); (first | have a10 := in_u i152 | (have a10 := i152; unfold In at a10)); have a11 := t_sub e152 (in_c 3 rfl) i34 rfl; (first | have a12 := in_u ((in_c 3 rfl)) | (have a12 := (in_c 3 rfl); unfold In at a12)); (first | have a13 := in_u i79 | (have a13 := i79; unfold In at a13)); have a14 := t_sub e79 (in_c 24 rfl) i78 rfl; (first | have a15 := in_u i78 | (have a15 := i78; unfold In at a15)); have a16 := (t_mulc 8 (Or.inl e78) i34 rfl).1; (first | have a17 := in_u ((in_c 24 rfl)) | (have a17 := (in_c 24 rfl); unfold In at a17)); have a18 := tx_i2l e71; have a19 := tx_i2l e64; (first | have a20 := in_u i63 | (have a20 := i63; unfold In at a20)); (first | have a21 := in_u i16 | (have a21 := i16; unfold In at a21)); have a22 := t_add e16 h2 (in_c 1 rfl) rfl; have oc := oc_208_49_32; omega) e43; have pz : z43.toNatClampNeg = p := (by show z43.toInt.toNat = p; omega); have hv : z52 = s.1 35 p := (by rw [← pz]; exact e52.trans (congrFun (hFc8.1 35 rfl) _)); have ne : ((gvD s).2.1 p).toInt ≠ -1 := (fun z => by rw [are_no z] at p2; omega); have tp : (ARE (gvD s) 1) p = (z52).toInt := ((are_t p1 ne (by decide)).trans (congrArg Int32.toInt hv.symm)); have w9 : (((z52).toNatClampNeg : Nat) : Int) = (z52).toInt := clx i52.1; have u9 : (u_49_10).toInt = (s.2.2.1 49 10).toInt := congrArg Int32.toInt e_49_10; have k9 : (z178).toInt - (s.1 42 (x2).toNatClampNeg).toInt = (y8_7).toInt - (s.1 42 (x2).toNatClampNeg).toInt + 1 := (by (first | have a0 := in_u i34 | (have a0 := i34; unfold In at a0)); (first | have a1 := in_u h2 | (have a1 := h2; unfold In at a1)); (first | have a2 := in_u ro_49_10 | (have a2 := ro_49_10; unfold In at a2)); (first | have a3 := in_u i18 | (have a3 := i18; unfold In at a3)); (first | have a4 := in_u i52 | (have a4 := i52; unfold In at a4)); (first | have a5 := in_u i43 | (have a5 := i43; unfold In at a5)); (first | have a6 := in_u i178 | (have a6 := i178; unfold In at a6)); have a7 := t_add e178 i18 (in_c 1 rfl) rfl; (first | have a8 := in_u ((in_c 1 rfl)) | (have a8 := (in_c 1 rfl); unfold In at a8)); (first | have a9 := in_u i28 | (have a9 := i28; unfold In at a9)); (first | have a10 := in_u i152 | (have a10 := i152; unfold In at a10)); have a11 := t_sub e152 (in_c 3 rfl) i34 rfl; (first | have a12 := in_u ((in_c 3 rfl)) | (have a12 := (in_c 3 rfl); unfold In at a12)); (first | have a13 := in_u i79 | (have a13 := i79; unfold In at a13)); have a14 := t_sub e79 (in_c 24 rfl) i78 rfl; (first | have a15 := in_u i78 | (have a15 := i78; unfold In at a15)); have a16 := (t_mulc 8 (Or.inl e78) i34 rfl).1; (first | have a17 := in_u ((in_c 24 rfl)) | (have a17 := (in_c 24 rfl); unfold In at a17)); have a18 := tx_i2l e71; have a19 := tx_i2l e64; (first | have a20 := in_u i63 | (have a20 := i63; unfold In at a20)); (first | have a21 := in_u i16 | (have a21 := i16; unfold In at a21)); have a22 := t_add e16 h2 (in_c 1 rfl) rfl; have oc := oc_208_49_32; omega); rw [shz_s (d := (3 - (x4).toInt).toNat) (V := (bt x3)) (t := (s.2.2.1 49 10).toInt) p1 p2 p3 k9]; rw [shp_w (by rw [tp]; (first | have a0 := in_u i34 | (have a0 := i34; unfold In at a0)); (first | have a1 := in_u h2 | (have a1 := h2; unfold In at a1)); (first | have a2 := in_u ro_49_10 | (have a2 := ro_49_10; unfold In at a2)); (first | have a3 := in_u i18 | (have a3 := i18; unfold In at a3)); (first | have a4 := in_u i52 | (have a4 := i52; unfold In at a4)); (first | have a5 := in_u i43 | (have a5 := i43; unfold In at a5)); (first | have a6 := in_u i178 | (have a6 := i178; unfold In at a6)); have a7 := t_add e178 i18 (in_c 1 rfl) rfl; (first | have a8 := in_u ((in_c 1 rfl)) | (have a8 := (in_c 1 rfl); unfold In at a8)); (first | have a9 := in_u i28 | (have a9 := i28; unfold In at a9)); (first | have a10 := in_u i152 | (have a10 := i152; unfold In at a10)); have a11 := t_sub e152 (in_c 3 rfl) i34 rfl; (first | have a12 := in_u ((in_c 3 rfl)) | (have a12 := (in_c 3 rfl); unfold In at a12)); (first | have a13 := in_u i79 | (have a13 := i79; unfold In at a13)); have a14 := t_sub e79 (in_c 24 rfl) i78 rfl; (first | have a15 := in_u i78 | (have a15 := i78; unfold In at a15)); have a16 := (t_mulc 8 (Or.inl e78) i34 rfl).1; (first | have a17 := in_u ((in_c 24 rfl)) | (have a17 := (in_c 24 rfl); unfold In at a17)); have a18 := tx_i2l e71; have a19 := tx_i2l e64; (first | have a20 := in_u i63 | (have a20 := i63; unfold In at a20)); (first | have a21 := in_u i16 | (have a21 := i16; unfold In at a21)); have a22 := t_add e16 h2 (in_c 1 rfl) rfl; have oc := oc_208_49_32; omega) (by rw [tp, w9]) (bt_f0 (bt_ask e133 e135 i52) c136) (W := bt z148) (fun x => bt_set e147 e148 i52), (show shw (ARE (gvD s) 0) (ARE (gvD s) 1) (s.2.2.1 49 10).toInt (3 - (x4).toInt).toNat (((z52).toNatClampNeg : Nat) : Int) (bt z148) = 0 from (by have h9 := p153c c156; rw [(gvD_fr hFc8 rfl), hFc8.2.2.1 49 10 rfl, show (z152).toInt.toNat = (3 - (x4).toInt).toNat from (by (first | have a0 := in_u i34 | (have a0 := i34; unfold In at a0)); (first | have a1 := in_u h2 | (have a1 := h2; unfold In at a1)); (first | have a2 := in_u ro_49_10 | (have a2 := ro_49_10; unfold In at a2)); (first | have a3 := in_u i18 | (have a3 := i18; unfold In at a3)); (first | have a4 := in_u i52 | (have a4 := i52; unfold In at a4)); (first | have a5 := in_u i43 | (have a5 := i43; unfold In at a5)); (first | have a6 := in_u i178 | (have a6 := i178; unfold In at a6)); have a7 := t_add e178 i18 (in_c 1 rfl) rfl; (first | have a8 := in_u ((in_c 1 rfl)) | (have a8 := (in_c 1 rfl); unfold In at a8)); (first | have a9 := in_u i28 | (have a9 := i28; unfold In at a9)); (first | have a10 := in_u i152 | (have a10 := i152; unfold In at a10)); have a11 := t_sub e152 (in_c 3 rfl) i34 rfl; (first | have a12 := in_u ((in_c 3 rfl)) | (have a12 := (in_c 3 rfl); unfold In at a12)); (first | have a13 := in_u i79 | (have a13 := i79; unfold In at a13)); have a14 := t_sub e79 (in_c 24 rfl) i78 rfl; (first | have a15 := in_u i78 | (have a15 := i78; unfold In at a15)); have a16 := (t_mulc 8 (Or.inl e78) i34 rfl).1; (first | have a17 := in_u ((in_c 24 rfl)) | (have a17 := (in_c 24 rfl); unfold In at a17)); have a18 := tx_i2l e71; have a19 := tx_i2l e64; (first | have a20 := in_u i63 | (have a20 := i63; unfold In at a20)); (first | have a21 := in_u i16 | (have a21 := i16; unfold In at a21)); have a22 := t_add e16 h2 (in_c 1 rfl) rfl; have oc := oc_208_49_32; omega)] at h9; exact h9)), Int.add_zero]; exact g8_0
                    have n8a : ((s.1 42 (x2).toNatClampNeg).toInt ≤ (z178).toInt) := by have h9 := g8_1; (first | have a0 := oa7 i34 h2 ro_49_10 i18 i52 i43 i178 | ((first | have a0 := in_u i34 | (have a0 := i34; unfold In at a0)); (first | have a1 := in_u h2 | (have a1 := h2; unfold In at a1)); (first | have a2 := in_u ro_49_10 | (have a2 := ro_49_10; unfold In at a2)); (first | have a3 := in_u i18 | (have a3 := i18; unfold In at a3)); (first | have a4 := in_u i52 | (have a4 := i52; unfold In at a4)); (first | have a5 := in_u i43 | (have a5 := i43; unfold In at a5)); (first | have a6 := in_u i178 | (have a6 := i178; unfold In at a6)))); have a7 := t_add e178 i18 (in_c 1 rfl) rfl; (first | have a8 := oa3 ((in_c 1 rfl)) i28 i152 | ((first | have a8 := in_u ((in_c 1 rfl)) | (have a8 := (in_c 1 rfl); unfold In at a8)); (first | have a9 := in_u i28 | (have a9 := i28; unfold In at a9)); (first | have a10 := in_u i152 | (have a10 := i152; unfold In at a10)))); have a11 := t_sub e152 (in_c 3 rfl) i34 rfl; (first | have a12 := oa2 ((in_c 3 rfl)) i79 | ((first | have a12 := in_u ((in_c 3 rfl)) | (have a12 := (in_c 3 rfl); unfold In at a12)); (first | have a13 := in_u i79 | (have a13 := i79; unfold In at a13)))); have a14 := t_sub e79 (in_c 24 rfl) i78 rfl; (first | have a15 := in_u i78 | (have a15 := i78; unfold In at a15)); have a16 := (t_mulc 8 (Or.inl e78) i34 rfl).1; (first | have a17 := in_u ((in_c 24 rfl)) | (have a17 := (in_c 24 rfl); unfold In at a17)); have a18 := tx_i2l e71; have a19 := tx_i2l e64; (first | have a20 := oa2 i63 i16 | ((first | have a20 := in_u i63 | (have a20 := i63; unfold In at a20)); (first | have a21 := in_u i16 | (have a21 := i16; unfold In at a21)))); have a22 := t_add e16 h2 (in_c 1 rfl) rfl; have oc := oc_208_49_32; omega
                    have n8b : (4 ≤ (x4).toInt → (z178).toInt = (s.1 42 (x2).toNatClampNeg).toInt) := by intro h; exfalso; (first | have a0 := oa7 i34 h2 ro_49_10 i18 i52 i43 i178 | ((first | have a0 := in_u i34 | (have a0 := i34; unfold In at a0)); (first | have a1 := in_u h2 | (have a1 := h2; unfold In at a1)); (first | have a2 := in_u ro_49_10 | (have a2 := ro_49_10; unfold In at a2)); (first | have a3 := in_u i18 | (have a3 := i18; unfold In at a3)); (first | have a4 := in_u i52 | (have a4 := i52; unfold In at a4)); (first | have a5 := in_u i43 | (have a5 := i43; unfold In at a5)); (first | have a6 := in_u i178 | (have a6 := i178; unfold In at a6)))); have a7 := t_add e178 i18 (in_c 1 rfl) rfl; (first | have a8 := oa3 ((in_c 1 rfl)) i28 i152 | ((first | have a8 := in_u ((in_c 1 rfl)) | (have a8 := (in_c 1 rfl); unfold In at a8)); (first | have a9 := in_u i28 | (have a9 := i28; unfold In at a9)); (first | have a10 := in_u i152 | (have a10 := i152; unfold In at a10)))); have a11 := t_sub e152 (in_c 3 rfl) i34 rfl; (first | have a12 := oa2 ((in_c 3 rfl)) i79 | ((first | have a12 := in_u ((in_c 3 rfl)) | (have a12 := (in_c 3 rfl); unfold In at a12)); (first | have a13 := in_u i79 | (have a13 := i79; unfold In at a13)))); have a14 := t_sub e79 (in_c 24 rfl) i78 rfl; (first | have a15 := in_u i78 | (have a15 := i78; unfold In at a15)); have a16 := (t_mulc 8 (Or.inl e78) i34 rfl).1; (first | have a17 := in_u ((in_c 24 rfl)) | (have a17 := (in_c 24 rfl); unfold In at a17)); have a18 := tx_i2l e71; have a19 := tx_i2l e64; (first | have a20 := oa2 i63 i16 | ((first | have a20 := in_u i63 | (have a20 := i63; unfold In at a20)); (first | have a21 := in_u i16 | (have a21 := i16; unfold In at a21)))); have a22 := t_add e16 h2 (in_c 1 rfl) rfl; have oc := oc_208_49_32; omega
                    exact gg_w (by first | exact Nat.le_add_right _ _ | exact gw2 | exact gw3 | exact gwe rfl | exact gwf rfl | exact gwg rfl | exact gwh rfl | omega) (gg_f (gf_cons rfl (gf_cons rfl (gf_cons rfl (gf_cons rfl (gf_cons rfl (gf_cons rfl (gf_cons rfl gf_nil))))))) (ih8 sc8 z178 hIc8 hFc8 (in_w 0 160 i178 rfl) n8 n8a n8b (m_up mm8 (t_add e178 i18 (in_c 1 rfl) rfl) (in_w 1 1 (in_c 1 rfl) rfl))))
                  · skip
                    have i156 := z_ne 1 1 c156 i153 rfl
                    refine g_aload_n 160 (gd rfl) rfl rfl ?_
                    refine g_aload_n 161 (gd rfl) rfl rfl ?_
                    refine g_iload 163 (gd rfl) rfl rfl ?_
                    refine g_iload_n 164 (gd rfl) rfl rfl ?_
                    refine g_iconst 1 165 (gd rfl) rfl rfl ?_
                    refine g_iload 167 (gd rfl) rfl rfl ?_
                    refine g_ishl 168 (gd rfl) rfl (fun z167 e167 => ?_)
                    refine g_ior 169 (gd rfl) rfl (fun z168 e168 => ?_)
                    refine g_iload 171 (gd rfl) rfl rfl ?_
                    refine g_iconst 1 172 (gd rfl) rfl rfl ?_
                    refine g_iadd 173 (gd rfl) rfl (fun z172 e172 => ?_)
                    have i172 := in_add 1 4 e172 i34 (in_c 1 rfl) rfl rfl
                    refine g_lload 175 (gd rfl) rfl rfl ?_
                    have p175 : TQD sc8 := by exact tqd_fr q_0 hFc8 rfl
                    have p175a : (((sc8).2.2.1 32 4).toInt = ((sc8).2.2.1 32 0).toInt) := by exact (by rw [hFc8.2.2.1 32 4 rfl, hFc8.2.2.1 32 0 rfl]; exact q_1)
                    have p175b : NDQ (gvD sc8) := by rw [(gvD_fr hFc8 rfl)]; exact q_2
                    have n175 : 4 - (z172).toInt < ((kk : Nat) : Int) := by (first | have a0 := oa8 i34 h2 ro_49_10 i18 i52 i43 i28 i172 | ((first | have a0 := in_u i34 | (have a0 := i34; unfold In at a0)); (first | have a1 := in_u h2 | (have a1 := h2; unfold In at a1)); (first | have a2 := in_u ro_49_10 | (have a2 := ro_49_10; unfold In at a2)); (first | have a3 := in_u i18 | (have a3 := i18; unfold In at a3)); (first | have a4 := in_u i52 | (have a4 := i52; unfold In at a4)); (first | have a5 := in_u i43 | (have a5 := i43; unfold In at a5)); (first | have a6 := in_u i28 | (have a6 := i28; unfold In at a6)); (first | have a7 := in_u i172 | (have a7 := i172; unfold In at a7)))); have a8 := t_add e172 i34 (in_c 1 rfl) rfl; (first | have a9 := oa2 ((in_c 1 rfl)) i152 | ((first | have a9 := in_u ((in_c 1 rfl)) | (have a9 := (in_c 1 rfl); unfold In at a9)); (first | have a10 := in_u i152 | (have a10 := i152; unfold In at a10)))); have a11 := t_sub e152 (in_c 3 rfl) i34 rfl; (first | have a12 := oa2 ((in_c 3 rfl)) i79 | ((first | have a12 := in_u ((in_c 3 rfl)) | (have a12 := (in_c 3 rfl); unfold In at a12)); (first | have a13 := in_u i79 | (have a13 := i79; unfold In at a13)))); have a14 := t_sub e79 (in_c 24 rfl) i78 rfl; (first | have a15 := in_u i78 | (have a15 := i78; unfold In at a15)); have a16 := (t_mulc 8 (Or.inl e78) i34 rfl).1; (first | have a17 := in_u ((in_c 24 rfl)) | (have a17 := (in_c 24 rfl); unfold In at a17)); have a18 := tx_i2l e71; have a19 := tx_i2l e64; (first | have a20 := oa2 i63 i16 | ((first | have a20 := in_u i63 | (have a20 := i63; unfold In at a20)); (first | have a21 := in_u i16 | (have a21 := i16; unfold In at a21)))); have a22 := t_add e16 h2 (in_c 1 rfl) rfl; have oc := oc_208_49_32; omega
                    refine g_callv (X := _) (As := [.ref (A 32), .int z52, .int z168, .int z172, .long z81]) (r := []) (b := A 49) (q := 49) 178 (gd rfl) rfl rfl rfl rfl rfl (ww_o rfl) (Nat.le_of_ble_eq_true rfl) (Nat.zero_le _) (Nat.zero_le _) (ih (by omega) hIc8 (in_w 0 31 i52 rfl) (in_w 0 4 i172 rfl) p175 p175a p175b n175) (fun e u h => h) (fun v u h => ?_)
                    obtain ⟨s175, hI175, hF175, rfl, rfl, p175c⟩ := h
                    show GG _ _ _ _ _ _ _ _ [] _ _ _
                    refine g_iinc 181 (gd rfl) rfl rfl (Nat.le_of_ble_eq_true rfl) (fun z178 e178 => ?_)
                    have i178 := in_add 1 160 e178 i18 (in_c 1 rfl) rfl rfl
                    refine g_goto 8 (gd rfl) rfl ?_
                    have n8 : (((s175).2.2.1 49 11).toInt = cap ((s.2.2.1 49 11).toInt + shz (ARE (gvD s) 0) (ARE (gvD s) 1) (s.2.2.1 49 10).toInt (3 - (x4).toInt).toNat (x2).toNatClampNeg (bt x3) ((z178).toInt - (s.1 42 (x2).toNatClampNeg).toInt))) := by have vx := (show ((x2).toNatClampNeg : Int) = (x2).toInt from clx h2.1); have rx := row_32_0 (a1 := z17) hIc8 hFc8 rfl rfl rfl (by rw [hFc8.2.2.1 32 4 rfl, hFc8.2.2.1 32 0 rfl]; exact q_1) q_0 h2 rfl (e17.trans (congrArg (sc8.1 42) (show z16.toInt.toNat = (x2.toInt + 1).toNat from (by rw [show z16.toInt = x2.toInt + 1 from (by (first | have a0 := in_u i34 | (have a0 := i34; unfold In at a0)); (first | have a1 := in_u h2 | (have a1 := h2; unfold In at a1)); (first | have a2 := in_u ro_49_10 | (have a2 := ro_49_10; unfold In at a2)); (first | have a3 := in_u i18 | (have a3 := i18; unfold In at a3)); (first | have a4 := in_u i52 | (have a4 := i52; unfold In at a4)); (first | have a5 := in_u i43 | (have a5 := i43; unfold In at a5)); (first | have a6 := in_u i178 | (have a6 := i178; unfold In at a6)); have a7 := t_add e178 i18 (in_c 1 rfl) rfl; (first | have a8 := in_u ((in_c 1 rfl)) | (have a8 := (in_c 1 rfl); unfold In at a8)); (first | have a9 := in_u i172 | (have a9 := i172; unfold In at a9)); have a10 := t_add e172 i34 (in_c 1 rfl) rfl; (first | have a11 := in_u i152 | (have a11 := i152; unfold In at a11)); have a12 := t_sub e152 (in_c 3 rfl) i34 rfl; (first | have a13 := in_u ((in_c 3 rfl)) | (have a13 := (in_c 3 rfl); unfold In at a13)); (first | have a14 := in_u i79 | (have a14 := i79; unfold In at a14)); have a15 := t_sub e79 (in_c 24 rfl) i78 rfl; (first | have a16 := in_u i78 | (have a16 := i78; unfold In at a16)); have a17 := (t_mulc 8 (Or.inl e78) i34 rfl).1; (first | have a18 := in_u ((in_c 24 rfl)) | (have a18 := (in_c 24 rfl); unfold In at a18)); have a19 := tx_i2l e71; have a20 := tx_i2l e64; (first | have a21 := in_u i63 | (have a21 := i63; unfold In at a21)); (first | have a22 := in_u i16 | (have a22 := i16; unfold In at a22)); have a23 := t_add e16 h2 (in_c 1 rfl) rfl; have oc := oc_208_49_32; omega)])))); rw [hFc8.1 42 rfl, ← vx] at rx; obtain ⟨p, p1, p2, p3, p4⟩ := rx.1 y8_7 z43 (by have h9 := g8_1; (first | have a0 := in_u i34 | (have a0 := i34; unfold In at a0)); (first | have a1 := in_u h2 | (have a1 := h2; unfold In at a1)); (first | have a2 := in_u ro_49_10 | (have a2 := ro_49_10; unfold In at a2)); (first | have a3 := in_u i18 | (have a3 := i18; unfold In at a3)); (first | have a4 := in_u i52 | (have a4 := i52; unfold In at a4)); (first | have a5 := in_u i43 | (have a5 := i43; unfold In at a5)); (first | have a6 := in_u i178 | (have a6 := i178; unfold In at a6)); have a7 := t_add e178 i18 (in_c 1 rfl) rfl; (first | have a8 := in_u ((in_c 1 rfl)) | (have a8 := (in_c 1 rfl); unfold In at a8)); (first | have a9 := in_u i172 | (have a9 := i172; unfold In at a9)); have a10 := t_add e172 i34 (in_c 1 rfl) rfl; (first | have a11 := in_u i152 | (have a11 := i152; unfold In at a11)); have a12 := t_sub e152 (in_c 3 rfl) i34 rfl; (first | have a13 := in_u ((in_c 3 rfl)) | (have a13 := (in_c 3 rfl); unfold In at a13)); (first | have a14 := in_u i79 | (have a14 := i79; unfold In at a14)); have a15 := t_sub e79 (in_c 24 rfl) i78 rfl; (first | have a16 := in_u i78 | (have a16 := i78; unfold In at a16)); have a17 := (t_mulc 8 (Or.inl e78) i34 rfl).1; (first | have a18 := in_u ((in_c 24 rfl)) | (have a18 := (in_c 24 rfl); unfold In at a18)); have a19 := tx_i2l e71; have a20 := tx_i2l e64; (first | have a21 := in_u i63 | (have a21 := i63; unfold In at a21)); (first | have a22 := in_u i16 | (have a22 := i16; unfold In at a22)); have a23 := t_add e16 h2 (in_c 1 rfl) rfl; have oc := oc_208_49_32; omega) (by (first | have a0 := in_u i34 | (have a0 := i34; unfold In at a0)); (first | have a1 := in_u h2 | (have a1 := h2; unfold In at a1)); (first | have a2 := in_u ro_49_10 | (have a2 := ro_49_10; unfold In at a2)); (first | have a3 := in_u i18 | (have a3 := i18; unfold In at a3)); (first | have a4 := in_u i52 | (have a4 := i52; unfold In at a4)); (first | have a5 := in_u i43 | (have a5 := i43; unfold In at a5)); (first | have a6 := in_u i178 | (have a6 := i178; unfold In at a6)); have a7 := t_add e178 i18 (in_c 1 rfl) rfl; (first | have a8 := in_u ((in_c 1 rfl)) | (have a8 := (in_c 1 rfl); unfold In at a8)); (first | have a9 := in_u i172 | (have a9 := i172; unfold In at a9)); have a10 := t_add e172 i34 (in_c 1 rfl) rfl; (first | have a11 := in_u i152 | (have a11 := i152; unfold In at a11)); have a12 := t_sub e152 (in_c 3 rfl) i34 rfl; (first | have a13 := in_u ((in_c 3 rfl)) | (have a13 := (in_c 3 rfl); unfold In at a13)); (first | have a14 := in_u i79 | (have a14 := i79; unfold In at a14)); have a15 := t_sub e79 (in_c 24 rfl) i78 rfl; (first | have a16 := in_u i78 | (have a16 := i78; unfold In at a16)); have a17 := (t_mulc 8 (Or.inl e78) i34 rfl).1; (first | have a18 := in_u ((in_c 24 rfl)) | (have a18 := (in_c 24 rfl); unfold In at a18)); have a19 := tx_i2l e71; have a20 := tx_i2l e64; (first | have a21 := in_u i63 | (have a21 := i63; unfold In at a21)); (first | have a22 := in_u i16 | (have a22 := i16; unfold In at a22)); have a23 := t_add e16 h2 (in_c 1 rfl) rfl; have oc := oc_208_49_32; omega) e43; have pz : z43.toNatClampNeg = p := (by show z43.toInt.toNat = p; omega); have hv : z52 = s.1 35 p := (by rw [← pz]; exact e52.trans (congrFun (hFc8.1 35 rfl) _)); have ne : ((gvD s).2.1 p).toInt ≠ -1 := (fun z => by rw [are_no z] at p2; omega); have tp : (ARE (gvD s) 1) p = (z52).toInt := ((are_t p1 ne (by decide)).trans (congrArg Int32.toInt hv.symm)); have w9 : (((z52).toNatClampNeg : Nat) : Int) = (z52).toInt := clx i52.1; have u9 : (u_49_10).toInt = (s.2.2.1 49 10).toInt := congrArg Int32.toInt e_49_10; have k9 : (z178).toInt - (s.1 42 (x2).toNatClampNeg).toInt = (y8_7).toInt - (s.1 42 (x2).toNatClampNeg).toInt + 1 := (by (first | have a0 := in_u i34 | (have a0 := i34; unfold In at a0)); (first | have a1 := in_u h2 | (have a1 := h2; unfold In at a1)); (first | have a2 := in_u ro_49_10 | (have a2 := ro_49_10; unfold In at a2)); (first | have a3 := in_u i18 | (have a3 := i18; unfold In at a3)); (first | have a4 := in_u i52 | (have a4 := i52; unfold In at a4)); (first | have a5 := in_u i43 | (have a5 := i43; unfold In at a5)); (first | have a6 := in_u i178 | (have a6 := i178; unfold In at a6)); have a7 := t_add e178 i18 (in_c 1 rfl) rfl; (first | have a8 := in_u ((in_c 1 rfl)) | (have a8 := (in_c 1 rfl); unfold In at a8)); (first | have a9 := in_u i172 | (have a9 := i172; unfold In at a9)); have a10 := t_add e172 i34 (in_c 1 rfl) rfl; (first | have a11 := in_u i152 | (have a11 := i152; unfold In at a11)); have a12 := t_sub e152 (in_c 3 rfl) i34 rfl; (first | have a13 := in_u ((in_c 3 rfl)) | (have a13 := (in_c 3 rfl); unfold In at a13)); (first | have a14 := in_u i79 | (have a14 := i79; unfold In at a14)); have a15 := t_sub e79 (in_c 24 rfl) i78 rfl; (first | have a16 := in_u i78 | (have a16 := i78; unfold In at a16)); have a17 := (t_mulc 8 (Or.inl e78) i34 rfl).1; (first | have a18 := in_u ((in_c 24 rfl)) | (have a18 := (in_c 24 rfl); unfold In at a18)); have a19 := tx_i2l e71; have a20 := tx_i2l e64; (first | have a21 := in_u i63 | (have a21 := i63; unfold In at a21)); (first | have a22 := in_u i16 | (have a22 := i16; unfold In at a22)); have a23 := t_add e16 h2 (in_c 1 rfl) rfl; have oc := oc_208_49_32; omega); rw [shz_s (d := (3 - (x4).toInt).toNat) (V := (bt x3)) (t := (s.2.2.1 49 10).toInt) p1 p2 p3 k9]; have h9 := p175c; rw [(gvD_fr hFc8 rfl), hFc8.2.2.1 49 10 rfl, show (4 - (z172).toInt).toNat = (3 - (x4).toInt).toNat from (by (first | have a0 := in_u i34 | (have a0 := i34; unfold In at a0)); (first | have a1 := in_u h2 | (have a1 := h2; unfold In at a1)); (first | have a2 := in_u ro_49_10 | (have a2 := ro_49_10; unfold In at a2)); (first | have a3 := in_u i18 | (have a3 := i18; unfold In at a3)); (first | have a4 := in_u i52 | (have a4 := i52; unfold In at a4)); (first | have a5 := in_u i43 | (have a5 := i43; unfold In at a5)); (first | have a6 := in_u i178 | (have a6 := i178; unfold In at a6)); have a7 := t_add e178 i18 (in_c 1 rfl) rfl; (first | have a8 := in_u ((in_c 1 rfl)) | (have a8 := (in_c 1 rfl); unfold In at a8)); (first | have a9 := in_u i172 | (have a9 := i172; unfold In at a9)); have a10 := t_add e172 i34 (in_c 1 rfl) rfl; (first | have a11 := in_u i152 | (have a11 := i152; unfold In at a11)); have a12 := t_sub e152 (in_c 3 rfl) i34 rfl; (first | have a13 := in_u ((in_c 3 rfl)) | (have a13 := (in_c 3 rfl); unfold In at a13)); (first | have a14 := in_u i79 | (have a14 := i79; unfold In at a14)); have a15 := t_sub e79 (in_c 24 rfl) i78 rfl; (first | have a16 := in_u i78 | (have a16 := i78; unfold In at a16)); have a17 := (t_mulc 8 (Or.inl e78) i34 rfl).1; (first | have a18 := in_u ((in_c 24 rfl)) | (have a18 := (in_c 24 rfl); unfold In at a18)); have a19 := tx_i2l e71; have a20 := tx_i2l e64; (first | have a21 := in_u i63 | (have a21 := i63; unfold In at a21)); (first | have a22 := in_u i16 | (have a22 := i16; unfold In at a22)); have a23 := t_add e16 h2 (in_c 1 rfl) rfl; have oc := oc_208_49_32; omega)] at h9; rw [h9, g8_0, cap_a (shw_0 _ _ _), shp_w (by rw [tp]; (first | have a0 := in_u i34 | (have a0 := i34; unfold In at a0)); (first | have a1 := in_u h2 | (have a1 := h2; unfold In at a1)); (first | have a2 := in_u ro_49_10 | (have a2 := ro_49_10; unfold In at a2)); (first | have a3 := in_u i18 | (have a3 := i18; unfold In at a3)); (first | have a4 := in_u i52 | (have a4 := i52; unfold In at a4)); (first | have a5 := in_u i43 | (have a5 := i43; unfold In at a5)); (first | have a6 := in_u i178 | (have a6 := i178; unfold In at a6)); have a7 := t_add e178 i18 (in_c 1 rfl) rfl; (first | have a8 := in_u ((in_c 1 rfl)) | (have a8 := (in_c 1 rfl); unfold In at a8)); (first | have a9 := in_u i172 | (have a9 := i172; unfold In at a9)); have a10 := t_add e172 i34 (in_c 1 rfl) rfl; (first | have a11 := in_u i152 | (have a11 := i152; unfold In at a11)); have a12 := t_sub e152 (in_c 3 rfl) i34 rfl; (first | have a13 := in_u ((in_c 3 rfl)) | (have a13 := (in_c 3 rfl); unfold In at a13)); (first | have a14 := in_u i79 | (have a14 := i79; unfold In at a14)); have a15 := t_sub e79 (in_c 24 rfl) i78 rfl; (first | have a16 := in_u i78 | (have a16 := i78; unfold In at a16)); have a17 := (t_mulc 8 (Or.inl e78) i34 rfl).1; (first | have a18 := in_u ((in_c 24 rfl)) | (have a18 := (in_c 24 rfl); unfold In at a18)); have a19 := tx_i2l e71; have a20 := tx_i2l e64; (first | have a21 := in_u i63 | (have a21 := i63; unfold In at a21)); (first | have a22 := in_u i16 | (have a22 := i16; unfold In at a22)); have a23 := t_add e16 h2 (in_c 1 rfl) rfl; have oc := oc_208_49_32; omega) (by rw [tp, w9]) (bt_f0 (bt_ask e133 e135 i52) c136) (W := bt z168) (fun x => bt_set e167 e168 i52), Int.add_assoc]
                    have n8a : ((s.1 42 (x2).toNatClampNeg).toInt ≤ (z178).toInt) := by have h9 := g8_1; (first | have a0 := oa7 i34 h2 ro_49_10 i18 i52 i43 i178 | ((first | have a0 := in_u i34 | (have a0 := i34; unfold In at a0)); (first | have a1 := in_u h2 | (have a1 := h2; unfold In at a1)); (first | have a2 := in_u ro_49_10 | (have a2 := ro_49_10; unfold In at a2)); (first | have a3 := in_u i18 | (have a3 := i18; unfold In at a3)); (first | have a4 := in_u i52 | (have a4 := i52; unfold In at a4)); (first | have a5 := in_u i43 | (have a5 := i43; unfold In at a5)); (first | have a6 := in_u i178 | (have a6 := i178; unfold In at a6)))); have a7 := t_add e178 i18 (in_c 1 rfl) rfl; (first | have a8 := oa2 ((in_c 1 rfl)) i172 | ((first | have a8 := in_u ((in_c 1 rfl)) | (have a8 := (in_c 1 rfl); unfold In at a8)); (first | have a9 := in_u i172 | (have a9 := i172; unfold In at a9)))); have a10 := t_add e172 i34 (in_c 1 rfl) rfl; (first | have a11 := in_u i152 | (have a11 := i152; unfold In at a11)); have a12 := t_sub e152 (in_c 3 rfl) i34 rfl; (first | have a13 := oa2 ((in_c 3 rfl)) i79 | ((first | have a13 := in_u ((in_c 3 rfl)) | (have a13 := (in_c 3 rfl); unfold In at a13)); (first | have a14 := in_u i79 | (have a14 := i79; unfold In at a14)))); have a15 := t_sub e79 (in_c 24 rfl) i78 rfl; (first | have a16 := in_u i78 | (have a16 := i78; unfold In at a16)); have a17 := (t_mulc 8 (Or.inl e78) i34 rfl).1; (first | have a18 := in_u ((in_c 24 rfl)) | (have a18 := (in_c 24 rfl); unfold In at a18)); have a19 := tx_i2l e71; have a20 := tx_i2l e64; (first | have a21 := oa2 i63 i16 | ((first | have a21 := in_u i63 | (have a21 := i63; unfold In at a21)); (first | have a22 := in_u i16 | (have a22 := i16; unfold In at a22)))); have a23 := t_add e16 h2 (in_c 1 rfl) rfl; have oc := oc_208_49_32; omega
                    have n8b : (4 ≤ (x4).toInt → (z178).toInt = (s.1 42 (x2).toNatClampNeg).toInt) := by intro h; exfalso; (first | have a0 := oa7 i34 h2 ro_49_10 i18 i52 i43 i178 | ((first | have a0 := in_u i34 | (have a0 := i34; unfold In at a0)); (first | have a1 := in_u h2 | (have a1 := h2; unfold In at a1)); (first | have a2 := in_u ro_49_10 | (have a2 := ro_49_10; unfold In at a2)); (first | have a3 := in_u i18 | (have a3 := i18; unfold In at a3)); (first | have a4 := in_u i52 | (have a4 := i52; unfold In at a4)); (first | have a5 := in_u i43 | (have a5 := i43; unfold In at a5)); (first | have a6 := in_u i178 | (have a6 := i178; unfold In at a6)))); have a7 := t_add e178 i18 (in_c 1 rfl) rfl; (first | have a8 := oa2 ((in_c 1 rfl)) i172 | ((first | have a8 := in_u ((in_c 1 rfl)) | (have a8 := (in_c 1 rfl); unfold In at a8)); (first | have a9 := in_u i172 | (have a9 := i172; unfold In at a9)))); have a10 := t_add e172 i34 (in_c 1 rfl) rfl; (first | have a11 := in_u i152 | (have a11 := i152; unfold In at a11)); have a12 := t_sub e152 (in_c 3 rfl) i34 rfl; (first | have a13 := oa2 ((in_c 3 rfl)) i79 | ((first | have a13 := in_u ((in_c 3 rfl)) | (have a13 := (in_c 3 rfl); unfold In at a13)); (first | have a14 := in_u i79 | (have a14 := i79; unfold In at a14)))); have a15 := t_sub e79 (in_c 24 rfl) i78 rfl; (first | have a16 := in_u i78 | (have a16 := i78; unfold In at a16)); have a17 := (t_mulc 8 (Or.inl e78) i34 rfl).1; (first | have a18 := in_u ((in_c 24 rfl)) | (have a18 := (in_c 24 rfl); unfold In at a18)); have a19 := tx_i2l e71; have a20 := tx_i2l e64; (first | have a21 := oa2 i63 i16 | ((first | have a21 := in_u i63 | (have a21 := i63; unfold In at a21)); (first | have a22 := in_u i16 | (have a22 := i16; unfold In at a22)))); have a23 := t_add e16 h2 (in_c 1 rfl) rfl; have oc := oc_208_49_32; omega
                    exact gg_w (by first | exact Nat.le_add_right _ _ | exact gw2 | exact gw3 | exact gwe rfl | exact gwf rfl | exact gwg rfl | exact gwh rfl | omega) (gg_f (gf_cons rfl (gf_cons rfl (gf_cons rfl (gf_cons rfl (gf_cons rfl (gf_cons rfl (gf_cons rfl gf_nil))))))) (ih8 s175 z178 hI175 (fr_tr rfl hFc8 hF175) (in_w 0 160 i178 rfl) n8 n8a n8b (m_up mm8 (t_add e178 i18 (in_c 1 rfl) rfl) (in_w 1 1 (in_c 1 rfl) rfl))))
              · skip
                refine g_aload_n 94 (gd rfl) rfl rfl ?_
                refine g_getA (q2 := 55) 97 (gd rfl) rfl rfl rfl rfl ?_
                refine g_aload_n 98 (gd rfl) rfl rfl ?_
                refine g_getI 101 (gd rfl) rfl rfl rfl (fun z98 e98 => ?_)
                have q98 : z22 = z98 := (e22).trans e98.symm
                subst q98
                refine g_lload 103 (gd rfl) rfl rfl ?_
                refine g_ldc2_w 137438953472000000 106 (gd rfl) rfl rfl ?_
                refine g_ladd 107 (gd rfl) rfl (fun z106 e106 => ?_)
                refine g_iload 109 (gd rfl) rfl rfl ?_
                refine g_iconst 1 110 (gd rfl) rfl rfl ?_
                refine g_iadd 111 (gd rfl) rfl (fun z110 e110 => ?_)
                have i110 := in_add 1 4 e110 i34 (in_c 1 rfl) rfl rfl
                refine g_i2l 112 (gd rfl) rfl (fun z111 e111 => ?_)
                have i111 := l_i e111 i110
                refine g_bipush 32 114 (gd rfl) rfl rfl ?_
                refine g_lshl 115 (gd rfl) rfl (fun z114 e114 => ?_)
                refine g_ladd 116 (gd rfl) rfl (fun z115 e115 => ?_)
                refine g_lastore 117 (gd rfl) rfl (n := 2001) rfl (in_ix i28 rfl) ?_
                have hI116 := inv_sL (q := 55) (j := z22.toNatClampNeg) (x := z115) hIc8 rfl (l_rng z115)
                refine g_aload_n 118 (gd rfl) rfl rfl ?_
                refine g_dup 119 (gd rfl) rfl rfl ?_
                refine g_getI 122 (gd rfl) rfl rfl rfl (fun z119 e119 => ?_)
                have q119 : z22 = z119 := (sL_F (e22)).trans e119.symm
                subst q119
                refine g_iconst 1 123 (gd rfl) rfl rfl ?_
                refine g_iadd 124 (gd rfl) rfl (fun z123 e123 => ?_)
                have i123 := in_add 1 2001 e123 i28 (in_c 1 rfl) rfl rfl
                refine g_putI 127 (gd rfl) rfl rfl rfl rfl ?_
                have hI124 := inv_sF (q := 49) (j := 11) hI116 rfl (in_w 0 2001 i123 rfl)
                refine g_goto 178 (gd rfl) rfl ?_
                refine g_iinc 181 (gd rfl) rfl rfl (Nat.le_of_ble_eq_true rfl) (fun z178 e178 => ?_)
                have i178 := in_add 1 160 e178 i18 (in_c 1 rfl) rfl rfl
                refine g_goto 8 (gd rfl) rfl ?_
                have n8 : ((((sF (sL sc8 55 z22.toNatClampNeg z115) 49 11 z123)).2.2.1 49 11).toInt = cap ((s.2.2.1 49 11).toInt + shz (ARE (gvD s) 0) (ARE (gvD s) 1) (s.2.2.1 49 10).toInt (3 - (x4).toInt).toNat (x2).toNatClampNeg (bt x3) ((z178).toInt - (s.1 42 (x2).toNatClampNeg).toInt))) := by have vx := (show ((x2).toNatClampNeg : Int) = (x2).toInt from clx h2.1); have rx := row_32_0 (a1 := z17) hIc8 hFc8 rfl rfl rfl (by rw [hFc8.2.2.1 32 4 rfl, hFc8.2.2.1 32 0 rfl]; exact q_1) q_0 h2 rfl (e17.trans (congrArg (sc8.1 42) (show z16.toInt.toNat = (x2.toInt + 1).toNat from (by rw [show z16.toInt = x2.toInt + 1 from (by (first | have a0 := in_u i34 | (have a0 := i34; unfold In at a0)); (first | have a1 := in_u h2 | (have a1 := h2; unfold In at a1)); (first | have a2 := in_u ro_49_10 | (have a2 := ro_49_10; unfold In at a2)); (first | have a3 := in_u i18 | (have a3 := i18; unfold In at a3)); (first | have a4 := in_u i52 | (have a4 := i52; unfold In at a4)); (first | have a5 := in_u i43 | (have a5 := i43; unfold In at a5)); (first | have a6 := in_u i178 | (have a6 := i178; unfold In at a6)); have a7 := t_add e178 i18 (in_c 1 rfl) rfl; (first | have a8 := in_u ((in_c 1 rfl)) | (have a8 := (in_c 1 rfl); unfold In at a8)); (first | have a9 := in_u i123 | (have a9 := i123; unfold In at a9)); have a10 := t_add e123 i28 (in_c 1 rfl) rfl; (first | have a11 := in_u i28 | (have a11 := i28; unfold In at a11)); have a12 := tx_i2l e111; (first | have a13 := in_u i110 | (have a13 := i110; unfold In at a13)); have a14 := t_add e110 i34 (in_c 1 rfl) rfl; (first | have a15 := in_u i79 | (have a15 := i79; unfold In at a15)); have a16 := t_sub e79 (in_c 24 rfl) i78 rfl; (first | have a17 := in_u i78 | (have a17 := i78; unfold In at a17)); have a18 := (t_mulc 8 (Or.inl e78) i34 rfl).1; (first | have a19 := in_u ((in_c 24 rfl)) | (have a19 := (in_c 24 rfl); unfold In at a19)); have a20 := tx_i2l e71; have a21 := tx_i2l e64; (first | have a22 := in_u i63 | (have a22 := i63; unfold In at a22)); (first | have a23 := in_u i16 | (have a23 := i16; unfold In at a23)); have a24 := t_add e16 h2 (in_c 1 rfl) rfl; have oc := oc_208_49_32; omega)])))); rw [hFc8.1 42 rfl, ← vx] at rx; obtain ⟨p, p1, p2, p3, p4⟩ := rx.1 y8_7 z43 (by have h9 := g8_1; (first | have a0 := in_u i34 | (have a0 := i34; unfold In at a0)); (first | have a1 := in_u h2 | (have a1 := h2; unfold In at a1)); (first | have a2 := in_u ro_49_10 | (have a2 := ro_49_10; unfold In at a2)); (first | have a3 := in_u i18 | (have a3 := i18; unfold In at a3)); (first | have a4 := in_u i52 | (have a4 := i52; unfold In at a4)); (first | have a5 := in_u i43 | (have a5 := i43; unfold In at a5)); (first | have a6 := in_u i178 | (have a6 := i178; unfold In at a6)); have a7 := t_add e178 i18 (in_c 1 rfl) rfl; (first | have a8 := in_u ((in_c 1 rfl)) | (have a8 := (in_c 1 rfl); unfold In at a8)); (first | have a9 := in_u i123 | (have a9 := i123; unfold In at a9)); have a10 := t_add e123 i28 (in_c 1 rfl) rfl; (first | have a11 := in_u i28 | (have a11 := i28; unfold In at a11)); have a12 := tx_i2l e111; (first | have a13 := in_u i110 | (have a13 := i110; unfold In at a13)); have a14 := t_add e110 i34 (in_c 1 rfl) rfl; (first | have a15 := in_u i79 | (have a15 := i79; unfold In at a15)); have a16 := t_sub e79 (in_c 24 rfl) i78 rfl; (first | have a17 := in_u i78 | (have a17 := i78; unfold In at a17)); have a18 := (t_mulc 8 (Or.inl e78) i34 rfl).1; (first | have a19 := in_u ((in_c 24 rfl)) | (have a19 := (in_c 24 rfl); unfold In at a19)); have a20 := tx_i2l e71; have a21 := tx_i2l e64; (first | have a22 := in_u i63 | (have a22 := i63; unfold In at a22)); (first | have a23 := in_u i16 | (have a23 := i16; unfold In at a23)); have a24 := t_add e16 h2 (in_c 1 rfl) rfl; have oc := oc_208_49_32; omega) (by (first | have a0 := in_u i34 | (have a0 := i34; unfold In at a0)); (first | have a1 := in_u h2 | (have a1 := h2; unfold In at a1)); (first | have a2 := in_u ro_49_10 | (have a2 := ro_49_10; unfold In at a2)); (first | have a3 := in_u i18 | (have a3 := i18; unfold In at a3)); (first | have a4 := in_u i52 | (have a4 := i52; unfold In at a4)); (first | have a5 := in_u i43 | (have a5 := i43; unfold In at a5)); (first | have a6 := in_u i178 | (have a6 := i178; unfold In at a6)); have a7 := t_add e178 i18 (in_c 1 rfl) rfl; (first | have a8 := in_u ((in_c 1 rfl)) | (have a8 := (in_c 1 rfl); unfold In at a8)); (first | have a9 := in_u i123 | (have a9 := i123; unfold In at a9)); have a10 := t_add e123 i28 (in_c 1 rfl) rfl; (first | have a11 := in_u i28 | (have a11 := i28; unfold In at a11)); have a12 := tx_i2l e111; (first | have a13 := in_u i110 | (have a13 := i110; unfold In at a13)); have a14 := t_add e110 i34 (in_c 1 rfl) rfl; (first | have a15 := in_u i79 | (have a15 := i79; unfold In at a15)); have a16 := t_sub e79 (in_c 24 rfl) i78 rfl; (first | have a17 := in_u i78 | (have a17 := i78; unfold In at a17)); have a18 := (t_mulc 8 (Or.inl e78) i34 rfl).1; (first | have a19 := in_u ((in_c 24 rfl)) | (have a19 := (in_c 24 rfl); unfold In at a19)); have a20 := tx_i2l e71; have a21 := tx_i2l e64; (first | have a22 := in_u i63 | (have a22 := i63; unfold In at a22)); (first | have a23 := in_u i16 | (have a23 := i16; unfold In at a23)); have a24 := t_add e16 h2 (in_c 1 rfl) rfl; have oc := oc_208_49_32; omega) e43; have pz : z43.toNatClampNeg = p := (by show z43.toInt.toNat = p; omega); have hv : z52 = s.1 35 p := (by rw [← pz]; exact e52.trans (congrFun (hFc8.1 35 rfl) _)); have ne : ((gvD s).2.1 p).toInt ≠ -1 := (fun z => by rw [are_no z] at p2; omega); have tp : (ARE (gvD s) 1) p = (z52).toInt := ((are_t p1 ne (by decide)).trans (congrArg Int32.toInt hv.symm)); have w9 : (((z52).toNatClampNeg : Nat) : Int) = (z52).toInt := clx i52.1; have u9 : (u_49_10).toInt = (s.2.2.1 49 10).toInt := congrArg Int32.toInt e_49_10; have k9 : (z178).toInt - (s.1 42 (x2).toNatClampNeg).toInt = (y8_7).toInt - (s.1 42 (x2).toNatClampNeg).toInt + 1 := (by (first | have a0 := in_u i34 | (have a0 := i34; unfold In at a0)); (first | have a1 := in_u h2 | (have a1 := h2; unfold In at a1)); (first | have a2 := in_u ro_49_10 | (have a2 := ro_49_10; unfold In at a2)); (first | have a3 := in_u i18 | (have a3 := i18; unfold In at a3)); (first | have a4 := in_u i52 | (have a4 := i52; unfold In at a4)); (first | have a5 := in_u i43 | (have a5 := i43; unfold In at a5)); (first | have a6 := in_u i178 | (have a6 := i178; unfold In at a6)); have a7 := t_add e178 i18 (in_c 1 rfl) rfl; (first | have a8 := in_u ((in_c 1 rfl)) | (have a8 := (in_c 1 rfl); unfold In at a8)); (first | have a9 := in_u i123 | (have a9 := i123; unfold In at a9)); have a10 := t_add e123 i28 (in_c 1 rfl) rfl; (first | have a11 := in_u i28 | (have a11 := i28; unfold In at a11)); have a12 := tx_i2l e111; (first | have a13 := in_u i110 | (have a13 := i110; unfold In at a13)); have a14 := t_add e110 i34 (in_c 1 rfl) rfl; (first | have a15 := in_u i79 | (have a15 := i79; unfold In at a15)); have a16 := t_sub e79 (in_c 24 rfl) i78 rfl; (first | have a17 := in_u i78 | (have a17 := i78; unfold In at a17)); have a18 := (t_mulc 8 (Or.inl e78) i34 rfl).1; (first | have a19 := in_u ((in_c 24 rfl)) | (have a19 := (in_c 24 rfl); unfold In at a19)); have a20 := tx_i2l e71; have a21 := tx_i2l e64; (first | have a22 := in_u i63 | (have a22 := i63; unfold In at a22)); (first | have a23 := in_u i16 | (have a23 := i16; unfold In at a23)); have a24 := t_add e16 h2 (in_c 1 rfl) rfl; have oc := oc_208_49_32; omega); rw [shz_s (d := (3 - (x4).toInt).toNat) (V := (bt x3)) (t := (s.2.2.1 49 10).toInt) p1 p2 p3 k9]; rw [shp_t (by rw [tp]; (first | have a0 := in_u i34 | (have a0 := i34; unfold In at a0)); (first | have a1 := in_u h2 | (have a1 := h2; unfold In at a1)); (first | have a2 := in_u ro_49_10 | (have a2 := ro_49_10; unfold In at a2)); (first | have a3 := in_u i18 | (have a3 := i18; unfold In at a3)); (first | have a4 := in_u i52 | (have a4 := i52; unfold In at a4)); (first | have a5 := in_u i43 | (have a5 := i43; unfold In at a5)); (first | have a6 := in_u i178 | (have a6 := i178; unfold In at a6)); have a7 := t_add e178 i18 (in_c 1 rfl) rfl; (first | have a8 := in_u ((in_c 1 rfl)) | (have a8 := (in_c 1 rfl); unfold In at a8)); (first | have a9 := in_u i123 | (have a9 := i123; unfold In at a9)); have a10 := t_add e123 i28 (in_c 1 rfl) rfl; (first | have a11 := in_u i28 | (have a11 := i28; unfold In at a11)); have a12 := tx_i2l e111; (first | have a13 := in_u i110 | (have a13 := i110; unfold In at a13)); have a14 := t_add e110 i34 (in_c 1 rfl) rfl; (first | have a15 := in_u i79 | (have a15 := i79; unfold In at a15)); have a16 := t_sub e79 (in_c 24 rfl) i78 rfl; (first | have a17 := in_u i78 | (have a17 := i78; unfold In at a17)); have a18 := (t_mulc 8 (Or.inl e78) i34 rfl).1; (first | have a19 := in_u ((in_c 24 rfl)) | (have a19 := (in_c 24 rfl); unfold In at a19)); have a20 := tx_i2l e71; have a21 := tx_i2l e64; (first | have a22 := in_u i63 | (have a22 := i63; unfold In at a22)); (first | have a23 := in_u i16 | (have a23 := i16; unfold In at a23)); have a24 := t_add e16 h2 (in_c 1 rfl) rfl; have oc := oc_208_49_32; omega), ← Int.add_assoc, ← cap_1 (z := (z22).toInt) (by rw [e22]; exact g8_0) (by (first | have a0 := in_u i34 | (have a0 := i34; unfold In at a0)); (first | have a1 := in_u h2 | (have a1 := h2; unfold In at a1)); (first | have a2 := in_u ro_49_10 | (have a2 := ro_49_10; unfold In at a2)); (first | have a3 := in_u i18 | (have a3 := i18; unfold In at a3)); (first | have a4 := in_u i52 | (have a4 := i52; unfold In at a4)); (first | have a5 := in_u i43 | (have a5 := i43; unfold In at a5)); (first | have a6 := in_u i178 | (have a6 := i178; unfold In at a6)); have a7 := t_add e178 i18 (in_c 1 rfl) rfl; (first | have a8 := in_u ((in_c 1 rfl)) | (have a8 := (in_c 1 rfl); unfold In at a8)); (first | have a9 := in_u i123 | (have a9 := i123; unfold In at a9)); have a10 := t_add e123 i28 (in_c 1 rfl) rfl; (first | have a11 := in_u i28 | (have a11 := i28; unfold In at a11)); have a12 := tx_i2l e111; (first | have a13 := in_u i110 | (have a13 := i110; unfold In at a13)); have a14 := t_add e110 i34 (in_c 1 rfl) rfl; (first | have a15 := in_u i79 | (have a15 := i79; unfold In at a15)); have a16 := t_sub e79 (in_c 24 rfl) i78 rfl; (first | have a17 := in_u i78 | (have a17 := i78; unfold In at a17)); have a18 := (t_mulc 8 (Or.inl e78) i34 rfl).1; (first | have a19 := in_u ((in_c 24 rfl)) | (have a19 := (in_c 24 rfl); unfold In at a19)); have a20 := tx_i2l e71; have a21 := tx_i2l e64; (first | have a22 := in_u i63 | (have a22 := i63; unfold In at a22)); (first | have a23 := in_u i16 | (have a23 := i16; unfold In at a23)); have a24 := t_add e16 h2 (in_c 1 rfl) rfl; have oc := oc_208_49_32; omega), ← (show z123 = (sF (sL sc8 55 z22.toNatClampNeg z115) 49 11 z123).2.2.1 49 11 from sF_get)]; (first | have a0 := in_u i34 | (have a0 := i34; unfold In at a0)); (first | have a1 := in_u h2 | (have a1 := h2; unfold In at a1)); (first | have a2 := in_u ro_49_10 | (have a2 := ro_49_10; unfold In at a2)); (first | have a3 := in_u i18 | (have a3 := i18; unfold In at a3)); (first | have a4 := in_u i52 | (have a4 := i52; unfold In at a4)); (first | have a5 := in_u i43 | (have a5 := i43; unfold In at a5)); (first | have a6 := in_u i178 | (have a6 := i178; unfold In at a6)); have a7 := t_add e178 i18 (in_c 1 rfl) rfl; (first | have a8 := in_u ((in_c 1 rfl)) | (have a8 := (in_c 1 rfl); unfold In at a8)); (first | have a9 := in_u i123 | (have a9 := i123; unfold In at a9)); have a10 := t_add e123 i28 (in_c 1 rfl) rfl; (first | have a11 := in_u i28 | (have a11 := i28; unfold In at a11)); have a12 := tx_i2l e111; (first | have a13 := in_u i110 | (have a13 := i110; unfold In at a13)); have a14 := t_add e110 i34 (in_c 1 rfl) rfl; (first | have a15 := in_u i79 | (have a15 := i79; unfold In at a15)); have a16 := t_sub e79 (in_c 24 rfl) i78 rfl; (first | have a17 := in_u i78 | (have a17 := i78; unfold In at a17)); have a18 := (t_mulc 8 (Or.inl e78) i34 rfl).1; (first | have a19 := in_u ((in_c 24 rfl)) | (have a19 := (in_c 24 rfl); unfold In at a19)); have a20 := tx_i2l e71; have a21 := tx_i2l e64; (first | have a22 := in_u i63 | (have a22 := i63; unfold In at a22)); (first | have a23 := in_u i16 | (have a23 := i16; unfold In at a23)); have a24 := t_add e16 h2 (in_c 1 rfl) rfl; have oc := oc_208_49_32; omega
                have n8a : ((s.1 42 (x2).toNatClampNeg).toInt ≤ (z178).toInt) := by have h9 := g8_1; (first | have a0 := oa7 i34 h2 ro_49_10 i18 i52 i43 i178 | ((first | have a0 := in_u i34 | (have a0 := i34; unfold In at a0)); (first | have a1 := in_u h2 | (have a1 := h2; unfold In at a1)); (first | have a2 := in_u ro_49_10 | (have a2 := ro_49_10; unfold In at a2)); (first | have a3 := in_u i18 | (have a3 := i18; unfold In at a3)); (first | have a4 := in_u i52 | (have a4 := i52; unfold In at a4)); (first | have a5 := in_u i43 | (have a5 := i43; unfold In at a5)); (first | have a6 := in_u i178 | (have a6 := i178; unfold In at a6)))); have a7 := t_add e178 i18 (in_c 1 rfl) rfl; (first | have a8 := oa2 ((in_c 1 rfl)) i123 | ((first | have a8 := in_u ((in_c 1 rfl)) | (have a8 := (in_c 1 rfl); unfold In at a8)); (first | have a9 := in_u i123 | (have a9 := i123; unfold In at a9)))); have a10 := t_add e123 i28 (in_c 1 rfl) rfl; (first | have a11 := in_u i28 | (have a11 := i28; unfold In at a11)); have a12 := tx_i2l e111; (first | have a13 := in_u i110 | (have a13 := i110; unfold In at a13)); have a14 := t_add e110 i34 (in_c 1 rfl) rfl; (first | have a15 := in_u i79 | (have a15 := i79; unfold In at a15)); have a16 := t_sub e79 (in_c 24 rfl) i78 rfl; (first | have a17 := in_u i78 | (have a17 := i78; unfold In at a17)); have a18 := (t_mulc 8 (Or.inl e78) i34 rfl).1; (first | have a19 := in_u ((in_c 24 rfl)) | (have a19 := (in_c 24 rfl); unfold In at a19)); have a20 := tx_i2l e71; have a21 := tx_i2l e64; (first | have a22 := oa2 i63 i16 | ((first | have a22 := in_u i63 | (have a22 := i63; unfold In at a22)); (first | have a23 := in_u i16 | (have a23 := i16; unfold In at a23)))); have a24 := t_add e16 h2 (in_c 1 rfl) rfl; have oc := oc_208_49_32; omega
                have n8b : (4 ≤ (x4).toInt → (z178).toInt = (s.1 42 (x2).toNatClampNeg).toInt) := by intro h; exfalso; (first | have a0 := oa7 i34 h2 ro_49_10 i18 i52 i43 i178 | ((first | have a0 := in_u i34 | (have a0 := i34; unfold In at a0)); (first | have a1 := in_u h2 | (have a1 := h2; unfold In at a1)); (first | have a2 := in_u ro_49_10 | (have a2 := ro_49_10; unfold In at a2)); (first | have a3 := in_u i18 | (have a3 := i18; unfold In at a3)); (first | have a4 := in_u i52 | (have a4 := i52; unfold In at a4)); (first | have a5 := in_u i43 | (have a5 := i43; unfold In at a5)); (first | have a6 := in_u i178 | (have a6 := i178; unfold In at a6)))); have a7 := t_add e178 i18 (in_c 1 rfl) rfl; (first | have a8 := oa2 ((in_c 1 rfl)) i123 | ((first | have a8 := in_u ((in_c 1 rfl)) | (have a8 := (in_c 1 rfl); unfold In at a8)); (first | have a9 := in_u i123 | (have a9 := i123; unfold In at a9)))); have a10 := t_add e123 i28 (in_c 1 rfl) rfl; (first | have a11 := in_u i28 | (have a11 := i28; unfold In at a11)); have a12 := tx_i2l e111; (first | have a13 := in_u i110 | (have a13 := i110; unfold In at a13)); have a14 := t_add e110 i34 (in_c 1 rfl) rfl; (first | have a15 := in_u i79 | (have a15 := i79; unfold In at a15)); have a16 := t_sub e79 (in_c 24 rfl) i78 rfl; (first | have a17 := in_u i78 | (have a17 := i78; unfold In at a17)); have a18 := (t_mulc 8 (Or.inl e78) i34 rfl).1; (first | have a19 := in_u ((in_c 24 rfl)) | (have a19 := (in_c 24 rfl); unfold In at a19)); have a20 := tx_i2l e71; have a21 := tx_i2l e64; (first | have a22 := oa2 i63 i16 | ((first | have a22 := in_u i63 | (have a22 := i63; unfold In at a22)); (first | have a23 := in_u i16 | (have a23 := i16; unfold In at a23)))); have a24 := t_add e16 h2 (in_c 1 rfl) rfl; have oc := oc_208_49_32; omega
                exact gg_w (by first | exact Nat.le_add_right _ _ | exact gw2 | exact gw3 | exact gwe rfl | exact gwf rfl | exact gwg rfl | exact gwh rfl | omega) (gg_f (gf_cons rfl (gf_cons rfl (gf_cons rfl (gf_cons rfl (gf_cons rfl (gf_cons rfl (gf_cons rfl gf_nil))))))) (ih8 (sF (sL sc8 55 z22.toNatClampNeg z115) 49 11 z123) z178 hI124 (fr_sF rfl (fr_sL rfl hFc8)) (in_w 0 160 i178 rfl) n8 n8a n8b (m_up mm8 (t_add e178 i18 (in_c 1 rfl) rfl) (in_w 1 1 (in_c 1 rfl) rfl))))
    refine g_enter2 (k := 208) (N := 145801) (by first | exact dq1 hd rfl | exact dq0 hd rfl | exact dq2 hd rfl | exact dq3 hd rfl | omega) rfl (Nat.le_of_ble_eq_true rfl) ?_
    refine g_aload_n 1 (gd rfl) rfl rfl ?_
    refine g_getA (q2 := 42) 4 (gd rfl) rfl rfl rfl rfl ?_
    refine g_iload_n 5 (gd rfl) rfl rfl ?_
    refine g_iaload 6 (gd rfl) rfl (n := 33) rfl (in_ix h2 rfl) (fun z5 e5 => ?_)
    have i5 := inv_I hI (n := 33) (t := 0) 0 160 rfl (in_ix h2 rfl) rfl e5
    refine g_istore 8 (gd rfl) rfl (Nat.le_of_ble_eq_true rfl) ?_
    have n8 : (((s).2.2.1 49 11).toInt = cap ((s.2.2.1 49 11).toInt + shz (ARE (gvD s) 0) (ARE (gvD s) 1) (s.2.2.1 49 10).toInt (3 - (x4).toInt).toNat (x2).toNatClampNeg (bt x3) ((z5).toInt - (s.1 42 (x2).toNatClampNeg).toInt))) := by rw [shz_0 (by rw [← e5]; omega), Int.add_zero]; have h9 := inv_F hI (z := s.2.2.1 49 11) 0 2001 rfl rfl; exact (cap_i h9.1 h9.2).symm
    have n8a : ((s.1 42 (x2).toNatClampNeg).toInt ≤ (z5).toInt) := by rw [← e5]; exact Int.le_refl _
    have n8b : (4 ≤ (x4).toInt → (z5).toInt = (s.1 42 (x2).toNatClampNeg).toInt) := by intro _; rw [← e5]
    exact gg_w (by first | exact Nat.le_of_ble_eq_true rfl | omega) (gg_f (gf_cons rfl (gf_cons rfl (gf_cons rfl (gf_cons rfl (gf_cons rfl (gf_cons rfl (gf_cons rfl gf_nil))))))) (ct8 161 s z5 hI fr_rf (in_w 0 160 i5 rfl) n8 n8a n8b (m_in 161 (in_w 0 160 i5 rfl) rfl)))
theorem f_208_49_32 {Z : AmZ} {A : Nat → Nat} {s : GS} {ex : va_W} {d : Nat} {X : AmX} {x2 : Int32} {x3 : Int32} {x4 : Int32} {x5 : Int64} (hd : 21 ≤ d) (hI : Inv s) (h2 : In x2 0 31) (h4 : In x4 0 4) (q_0 : TQD s) (q_1 : (((s).2.2.1 32 4).toInt = ((s).2.2.1 32 0).toInt)) (q_2 : NDQ (gvD s)) : GC Z d 208 [.ref (A 49), .ref (A 32), .int x2, .int x3, .int x4, .long x5] (WW Z A s ++ ex) 0 0 (fun v u => ∃ t : GS, Inv t ∧ Fr fm_208_49_32 s t ∧ v = none ∧ u = WW Z A t ++ ex ∧ ((((t).2.2.1 49 11).toInt = cap ((s.2.2.1 49 11).toInt + shw (ARE (gvD s) 0) (ARE (gvD s) 1) (s.2.2.1 49 10).toInt (4 - (x4).toInt).toNat ((x2).toNatClampNeg : Int) (bt x3))))) X := f_208_49_32_r 5 (by omega) hI h2 h4 q_0 q_1 q_2 (m_in 5 h4 rfl)

/-- GraphHouse$Ways.collect -/
theorem f_207_49_2 {Z : AmZ} {A : Nat → Nat} {s : GS} {ex : va_W} {d : Nat} {X : AmX} {x2 : Int32} {x3 : Int32} (hd : 22 ≤ d) (hI : Inv s) (h2 : In x2 0 31) (h3 : In x3 0 31) (q_0 : TQ s) (q_1 : NDQ (gvC s)) (q_2 : SHB (gvC s) s) : GC Z d 207 [.ref (A 49), .ref (A 2), .int x2, .int x3] (WW Z A s ++ ex) 0 0 (fun v u => ∃ t : GS, Inv t ∧ Fr fm_207_49_2 s t ∧ v = none ∧ u = WW Z A t ++ ex ∧ ((SHG (gvC s) t ∧ (t).2.2.1 49 9 = x2 ∧ (t).2.2.1 49 10 = x3))) X := by
  intro post xp hP hX
  obtain ⟨u_2_0, e_2_0⟩ : ∃ w, w = s.2.2.1 2 0 := ⟨_, rfl⟩
  have ro_2_0 := inv_F hI 0 4000 rfl e_2_0
  refine g_enter2 (k := 207) (N := 900) (by first | exact dq1 hd rfl | exact dq0 hd rfl | exact dq2 hd rfl | exact dq3 hd rfl | omega) rfl (Nat.le_of_ble_eq_true rfl) ?_
  refine g_aload_n 1 (gd rfl) rfl rfl ?_
  refine g_getI 4 (gd rfl) rfl rfl rfl (fun z1 e1 => ?_)
  have i1 := inv_F hI (-1) 4000 rfl e1
  refine g_aload_n 5 (gd rfl) rfl rfl ?_
  refine g_getI 8 (gd rfl) rfl rfl rfl (fun z5 e5 => ?_)
  have q5 : u_2_0 = z5 := (e_2_0).trans e5.symm
  subst q5
  refine g_cmp_ne 11 28 (gd rfl) rfl rfl (fun c8 => ?_) (fun c8 => ?_)
  · skip
    refine g_aload_n 29 (gd rfl) rfl rfl ?_
    refine g_callv (X := _) (As := []) (r := []) (b := A 2) (q := 2) 32 (gd rfl) rfl rfl rfl rfl rfl (ww_o rfl) (Nat.le_of_ble_eq_true rfl) (Nat.zero_le _) (Nat.zero_le _) (k_106_2 (by first | exact dq1 hd rfl | exact dq0 hd rfl | exact dq2 hd rfl | exact dq3 hd rfl | omega) hI ) (fun e u h => h) (fun v u h => ?_)
    obtain ⟨s29, hI29, hF29, n29, rfl, rfl⟩ := h
    obtain ⟨z29a, e29⟩ : ∃ w, w = s29.2.2.1 2 4 := ⟨_, rfl⟩
    have i29a := inv_F hI29 (-1) 4000 rfl e29
    rw [← (show z29a = s29.2.2.1 2 4 from e29)] at n29
    rw [← (show u_2_0 = s29.2.2.1 2 0 from fr_F (e_2_0) hF29 rfl)] at n29
    show GG _ _ _ _ _ _ _ _ [] _ _ _
    refine g_aload_n 33 (gd rfl) rfl rfl ?_
    refine g_aload_n 34 (gd rfl) rfl rfl ?_
    refine g_getI 37 (gd rfl) rfl rfl rfl (fun z34 e34 => ?_)
    have q34 : u_2_0 = z34 := (fr_F (e_2_0) hF29 rfl).trans e34.symm
    subst q34
    refine g_putI 40 (gd rfl) rfl rfl rfl rfl ?_
    have hI37 := inv_sF (q := 49) (j := 8) hI29 rfl (in_w (-1) 4000 ro_2_0 rfl)
    refine g_aload_n 41 (gd rfl) rfl rfl ?_
    refine g_iload_n 42 (gd rfl) rfl rfl ?_
    refine g_putI 45 (gd rfl) rfl rfl rfl rfl ?_
    have hI42 := inv_sF (q := 49) (j := 9) hI37 rfl (in_w 0 31 h2 rfl)
    refine g_aload_n 46 (gd rfl) rfl rfl ?_
    refine g_iload_n 47 (gd rfl) rfl rfl ?_
    refine g_putI 50 (gd rfl) rfl rfl rfl rfl ?_
    have hI47 := inv_sF (q := 49) (j := 10) hI42 rfl (in_w 0 31 h3 rfl)
    refine g_aload_n 51 (gd rfl) rfl rfl ?_
    refine g_iconst 0 52 (gd rfl) rfl rfl ?_
    refine g_putI 55 (gd rfl) rfl rfl rfl rfl ?_
    have hI52 := inv_sF (q := 49) (j := 11) hI47 rfl (in_w 0 2001 (in_c 0 rfl) rfl)
    refine g_aload_n 56 (gd rfl) rfl rfl ?_
    refine g_aload_n 57 (gd rfl) rfl rfl ?_
    refine g_iload_n 58 (gd rfl) rfl rfl ?_
    refine g_iconst 1 59 (gd rfl) rfl rfl ?_
    refine g_iload_n 60 (gd rfl) rfl rfl ?_
    refine g_ishl 61 (gd rfl) rfl (fun z60 e60 => ?_)
    refine g_iconst 0 62 (gd rfl) rfl rfl ?_
    refine g_lconst 0 63 (gd rfl) rfl rfl ?_
    have p63 : TQ (sF (sF (sF (sF s29 49 8 u_2_0) 49 9 x2) 49 10 x3) 49 11 (Int32.ofInt 0)) := by exact tq_fr q_0 (show Fr fm_207_49_2 s (sF (sF (sF (sF s29 49 8 u_2_0) 49 9 x2) 49 10 x3) 49 11 (Int32.ofInt 0)) from (fr_sF rfl (fr_sF rfl (fr_sF rfl (fr_sF rfl (fr_tr rfl fr_rf hF29)))))) rfl
    have p63a : ((((sF (sF (sF (sF s29 49 8 u_2_0) 49 9 x2) 49 10 x3) 49 11 (Int32.ofInt 0))).2.2.1 2 4).toInt = (((sF (sF (sF (sF s29 49 8 u_2_0) 49 9 x2) 49 10 x3) 49 11 (Int32.ofInt 0))).2.2.1 2 0).toInt) := by exact (by show (s29.2.2.1 2 4).toInt = (s29.2.2.1 2 0).toInt; rw [← (show z29a = s29.2.2.1 2 4 from e29), ← (show u_2_0 = s29.2.2.1 2 0 from fr_F (e_2_0) hF29 rfl)]; exact n29)
    have p63b : NDQ (gvC (sF (sF (sF (sF s29 49 8 u_2_0) 49 9 x2) 49 10 x3) 49 11 (Int32.ofInt 0))) := by rw [gvC_cg (show Fr fm_207_49_2 s (sF (sF (sF (sF s29 49 8 u_2_0) 49 9 x2) 49 10 x3) 49 11 (Int32.ofInt 0)) from (fr_sF rfl (fr_sF rfl (fr_sF rfl (fr_sF rfl (fr_tr rfl fr_rf hF29)))))) rfl]; exact q_1
    refine g_callv (X := _) (As := [.ref (A 2), .int x2, .int z60, .int (Int32.ofInt 0), .long (Int64.ofInt 0)]) (r := []) (b := A 49) (q := 49) 66 (gd rfl) rfl rfl rfl rfl rfl (ww_o rfl) (Nat.le_of_ble_eq_true rfl) (Nat.zero_le _) (Nat.zero_le _) (f_208_49_2 (by first | exact dq1 hd rfl | exact dq0 hd rfl | exact dq2 hd rfl | exact dq3 hd rfl | omega) hI52 (in_w 0 31 h2 rfl) (in_w 0 4 (in_c 0 rfl) rfl) p63 p63a p63b) (fun e u h => h) (fun v u h => ?_)
    obtain ⟨s63, hI63, hF63, rfl, rfl, p63c⟩ := h
    show GG _ _ _ _ _ _ _ _ [] _ _ _
    refine g_aload_n 67 (gd rfl) rfl rfl ?_
    refine g_getI 70 (gd rfl) rfl rfl rfl (fun z67 e67 => ?_)
    have i67 := inv_F hI63 0 2001 rfl e67
    refine g_sipush 2000 73 (gd rfl) rfl rfl ?_
    refine g_cmp_gt 76 80 (gd rfl) rfl rfl (fun c73 => ?_) (fun c73 => ?_)
    · skip
      have i73 := r_lt2 2001 2001 c73 (in_c 2000 rfl) i67 rfl
      have n80 : (SHG (gvC s) s63 ∧ (s63).2.2.1 49 9 = x2 ∧ (s63).2.2.1 49 10 = x3) := by exact ⟨shg_of (by rw [(((hF63.2.2.1 49 8 rfl).trans (show (sF (sF (sF (sF s29 49 8 u_2_0) 49 9 x2) 49 10 x3) 49 11 (Int32.ofInt 0)).2.2.1 49 8 = u_2_0 from rfl))), e_2_0]; rfl) (((hF63.2.2.1 49 9 rfl).trans (show (sF (sF (sF (sF s29 49 8 u_2_0) 49 9 x2) 49 10 x3) 49 11 (Int32.ofInt 0)).2.2.1 49 9 = x2 from rfl))) (((hF63.2.2.1 49 10 rfl).trans (show (sF (sF (sF (sF s29 49 8 u_2_0) 49 9 x2) 49 10 x3) 49 11 (Int32.ofInt 0)).2.2.1 49 10 = x3 from rfl))) h2 h3 e60 (by have h9 := p63c; rw [gvC_cg (show Fr fm_207_49_2 s (sF (sF (sF (sF s29 49 8 u_2_0) 49 9 x2) 49 10 x3) 49 11 (Int32.ofInt 0)) from fr_sF rfl (fr_sF rfl (fr_sF rfl (fr_sF rfl (fr_tr rfl fr_rf hF29))))) rfl] at h9; exact h9), (((hF63.2.2.1 49 9 rfl).trans (show (sF (sF (sF (sF s29 49 8 u_2_0) 49 9 x2) 49 10 x3) 49 11 (Int32.ofInt 0)).2.2.1 49 9 = x2 from rfl))), (((hF63.2.2.1 49 10 rfl).trans (show (sF (sF (sF (sF s29 49 8 u_2_0) 49 9 x2) 49 10 x3) 49 11 (Int32.ofInt 0)).2.2.1 49 10 = x3 from rfl)))⟩
      exact g_return (gd rfl) rfl (hP _ _ ⟨s63, hI63, (fr_tr rfl (fr_sF rfl (fr_sF rfl (fr_sF rfl (fr_sF rfl (fr_tr rfl fr_rf hF29))))) hF63), rfl, rfl, n80⟩)
    · skip
      have i73 := r_le1 0 2000 c73 i67 (in_c 2000 rfl) rfl
      refine g_aload_n 77 (gd rfl) rfl rfl ?_
      refine g_callv (X := _) (As := []) (r := []) (b := A 49) (q := 49) 80 (gd rfl) rfl rfl rfl rfl rfl (ww_o rfl) (Nat.le_of_ble_eq_true rfl) (Nat.zero_le _) (Nat.zero_le _) (k_210_49 (by first | exact dq1 hd rfl | exact dq0 hd rfl | exact dq2 hd rfl | exact dq3 hd rfl | omega) hI63 ) (fun e u h => h) (fun v u h => ?_)
      obtain ⟨s77, hI77, hF77, rfl, rfl⟩ := h
      show GG _ _ _ _ _ _ _ _ [] _ _ _
      have n80 : (SHG (gvC s) s77 ∧ (s77).2.2.1 49 9 = x2 ∧ (s77).2.2.1 49 10 = x3) := by exact ⟨shg_of (by rw [((hF77.2.2.1 49 8 rfl).trans ((hF63.2.2.1 49 8 rfl).trans (show (sF (sF (sF (sF s29 49 8 u_2_0) 49 9 x2) 49 10 x3) 49 11 (Int32.ofInt 0)).2.2.1 49 8 = u_2_0 from rfl))), e_2_0]; rfl) ((hF77.2.2.1 49 9 rfl).trans ((hF63.2.2.1 49 9 rfl).trans (show (sF (sF (sF (sF s29 49 8 u_2_0) 49 9 x2) 49 10 x3) 49 11 (Int32.ofInt 0)).2.2.1 49 9 = x2 from rfl))) ((hF77.2.2.1 49 10 rfl).trans ((hF63.2.2.1 49 10 rfl).trans (show (sF (sF (sF (sF s29 49 8 u_2_0) 49 9 x2) 49 10 x3) 49 11 (Int32.ofInt 0)).2.2.1 49 10 = x3 from rfl))) h2 h3 e60 (by rw [hF77.2.2.1 49 11 rfl]; have h9 := p63c; rw [gvC_cg (show Fr fm_207_49_2 s (sF (sF (sF (sF s29 49 8 u_2_0) 49 9 x2) 49 10 x3) 49 11 (Int32.ofInt 0)) from fr_sF rfl (fr_sF rfl (fr_sF rfl (fr_sF rfl (fr_tr rfl fr_rf hF29))))) rfl] at h9; exact h9), ((hF77.2.2.1 49 9 rfl).trans ((hF63.2.2.1 49 9 rfl).trans (show (sF (sF (sF (sF s29 49 8 u_2_0) 49 9 x2) 49 10 x3) 49 11 (Int32.ofInt 0)).2.2.1 49 9 = x2 from rfl))), ((hF77.2.2.1 49 10 rfl).trans ((hF63.2.2.1 49 10 rfl).trans (show (sF (sF (sF (sF s29 49 8 u_2_0) 49 9 x2) 49 10 x3) 49 11 (Int32.ofInt 0)).2.2.1 49 10 = x3 from rfl)))⟩
      exact g_return (gd rfl) rfl (hP _ _ ⟨s77, hI77, (fr_tr rfl (fr_tr rfl (fr_sF rfl (fr_sF rfl (fr_sF rfl (fr_sF rfl (fr_tr rfl fr_rf hF29))))) hF63) hF77), rfl, rfl, n80⟩)
  · skip
    have i8 := r_eq1 0 4000 c8 i1 ro_2_0 rfl
    refine g_aload_n 12 (gd rfl) rfl rfl ?_
    refine g_getI 15 (gd rfl) rfl rfl rfl (fun z12 e12 => ?_)
    have i12 := inv_F hI 0 31 rfl e12
    refine g_iload_n 16 (gd rfl) rfl rfl ?_
    refine g_cmp_ne 19 28 (gd rfl) rfl rfl (fun c16 => ?_) (fun c16 => ?_)
    · skip
      refine g_aload_n 29 (gd rfl) rfl rfl ?_
      refine g_callv (X := _) (As := []) (r := []) (b := A 2) (q := 2) 32 (gd rfl) rfl rfl rfl rfl rfl (ww_o rfl) (Nat.le_of_ble_eq_true rfl) (Nat.zero_le _) (Nat.zero_le _) (k_106_2 (by first | exact dq1 hd rfl | exact dq0 hd rfl | exact dq2 hd rfl | exact dq3 hd rfl | omega) hI ) (fun e u h => h) (fun v u h => ?_)
      obtain ⟨s29, hI29, hF29, n29, rfl, rfl⟩ := h
      obtain ⟨z29a, e29⟩ : ∃ w, w = s29.2.2.1 2 4 := ⟨_, rfl⟩
      have i29a := inv_F hI29 (-1) 4000 rfl e29
      rw [← (show z29a = s29.2.2.1 2 4 from e29)] at n29
      rw [← (show u_2_0 = s29.2.2.1 2 0 from fr_F (e_2_0) hF29 rfl)] at n29
      show GG _ _ _ _ _ _ _ _ [] _ _ _
      refine g_aload_n 33 (gd rfl) rfl rfl ?_
      refine g_aload_n 34 (gd rfl) rfl rfl ?_
      refine g_getI 37 (gd rfl) rfl rfl rfl (fun z34 e34 => ?_)
      have q34 : u_2_0 = z34 := (fr_F (e_2_0) hF29 rfl).trans e34.symm
      subst q34
      refine g_putI 40 (gd rfl) rfl rfl rfl rfl ?_
      have hI37 := inv_sF (q := 49) (j := 8) hI29 rfl (in_w (-1) 4000 ro_2_0 rfl)
      refine g_aload_n 41 (gd rfl) rfl rfl ?_
      refine g_iload_n 42 (gd rfl) rfl rfl ?_
      refine g_putI 45 (gd rfl) rfl rfl rfl rfl ?_
      have hI42 := inv_sF (q := 49) (j := 9) hI37 rfl (in_w 0 31 h2 rfl)
      refine g_aload_n 46 (gd rfl) rfl rfl ?_
      refine g_iload_n 47 (gd rfl) rfl rfl ?_
      refine g_putI 50 (gd rfl) rfl rfl rfl rfl ?_
      have hI47 := inv_sF (q := 49) (j := 10) hI42 rfl (in_w 0 31 h3 rfl)
      refine g_aload_n 51 (gd rfl) rfl rfl ?_
      refine g_iconst 0 52 (gd rfl) rfl rfl ?_
      refine g_putI 55 (gd rfl) rfl rfl rfl rfl ?_
      have hI52 := inv_sF (q := 49) (j := 11) hI47 rfl (in_w 0 2001 (in_c 0 rfl) rfl)
      refine g_aload_n 56 (gd rfl) rfl rfl ?_
      refine g_aload_n 57 (gd rfl) rfl rfl ?_
      refine g_iload_n 58 (gd rfl) rfl rfl ?_
      refine g_iconst 1 59 (gd rfl) rfl rfl ?_
      refine g_iload_n 60 (gd rfl) rfl rfl ?_
      refine g_ishl 61 (gd rfl) rfl (fun z60 e60 => ?_)
      refine g_iconst 0 62 (gd rfl) rfl rfl ?_
      refine g_lconst 0 63 (gd rfl) rfl rfl ?_
      have p63 : TQ (sF (sF (sF (sF s29 49 8 u_2_0) 49 9 x2) 49 10 x3) 49 11 (Int32.ofInt 0)) := by exact tq_fr q_0 (show Fr fm_207_49_2 s (sF (sF (sF (sF s29 49 8 u_2_0) 49 9 x2) 49 10 x3) 49 11 (Int32.ofInt 0)) from (fr_sF rfl (fr_sF rfl (fr_sF rfl (fr_sF rfl (fr_tr rfl fr_rf hF29)))))) rfl
      have p63a : ((((sF (sF (sF (sF s29 49 8 u_2_0) 49 9 x2) 49 10 x3) 49 11 (Int32.ofInt 0))).2.2.1 2 4).toInt = (((sF (sF (sF (sF s29 49 8 u_2_0) 49 9 x2) 49 10 x3) 49 11 (Int32.ofInt 0))).2.2.1 2 0).toInt) := by exact (by show (s29.2.2.1 2 4).toInt = (s29.2.2.1 2 0).toInt; rw [← (show z29a = s29.2.2.1 2 4 from e29), ← (show u_2_0 = s29.2.2.1 2 0 from fr_F (e_2_0) hF29 rfl)]; exact n29)
      have p63b : NDQ (gvC (sF (sF (sF (sF s29 49 8 u_2_0) 49 9 x2) 49 10 x3) 49 11 (Int32.ofInt 0))) := by rw [gvC_cg (show Fr fm_207_49_2 s (sF (sF (sF (sF s29 49 8 u_2_0) 49 9 x2) 49 10 x3) 49 11 (Int32.ofInt 0)) from (fr_sF rfl (fr_sF rfl (fr_sF rfl (fr_sF rfl (fr_tr rfl fr_rf hF29)))))) rfl]; exact q_1
      refine g_callv (X := _) (As := [.ref (A 2), .int x2, .int z60, .int (Int32.ofInt 0), .long (Int64.ofInt 0)]) (r := []) (b := A 49) (q := 49) 66 (gd rfl) rfl rfl rfl rfl rfl (ww_o rfl) (Nat.le_of_ble_eq_true rfl) (Nat.zero_le _) (Nat.zero_le _) (f_208_49_2 (by first | exact dq1 hd rfl | exact dq0 hd rfl | exact dq2 hd rfl | exact dq3 hd rfl | omega) hI52 (in_w 0 31 h2 rfl) (in_w 0 4 (in_c 0 rfl) rfl) p63 p63a p63b) (fun e u h => h) (fun v u h => ?_)
      obtain ⟨s63, hI63, hF63, rfl, rfl, p63c⟩ := h
      show GG _ _ _ _ _ _ _ _ [] _ _ _
      refine g_aload_n 67 (gd rfl) rfl rfl ?_
      refine g_getI 70 (gd rfl) rfl rfl rfl (fun z67 e67 => ?_)
      have i67 := inv_F hI63 0 2001 rfl e67
      refine g_sipush 2000 73 (gd rfl) rfl rfl ?_
      refine g_cmp_gt 76 80 (gd rfl) rfl rfl (fun c73 => ?_) (fun c73 => ?_)
      · skip
        have i73 := r_lt2 2001 2001 c73 (in_c 2000 rfl) i67 rfl
        have n80 : (SHG (gvC s) s63 ∧ (s63).2.2.1 49 9 = x2 ∧ (s63).2.2.1 49 10 = x3) := by exact ⟨shg_of (by rw [(((hF63.2.2.1 49 8 rfl).trans (show (sF (sF (sF (sF s29 49 8 u_2_0) 49 9 x2) 49 10 x3) 49 11 (Int32.ofInt 0)).2.2.1 49 8 = u_2_0 from rfl))), e_2_0]; rfl) (((hF63.2.2.1 49 9 rfl).trans (show (sF (sF (sF (sF s29 49 8 u_2_0) 49 9 x2) 49 10 x3) 49 11 (Int32.ofInt 0)).2.2.1 49 9 = x2 from rfl))) (((hF63.2.2.1 49 10 rfl).trans (show (sF (sF (sF (sF s29 49 8 u_2_0) 49 9 x2) 49 10 x3) 49 11 (Int32.ofInt 0)).2.2.1 49 10 = x3 from rfl))) h2 h3 e60 (by have h9 := p63c; rw [gvC_cg (show Fr fm_207_49_2 s (sF (sF (sF (sF s29 49 8 u_2_0) 49 9 x2) 49 10 x3) 49 11 (Int32.ofInt 0)) from fr_sF rfl (fr_sF rfl (fr_sF rfl (fr_sF rfl (fr_tr rfl fr_rf hF29))))) rfl] at h9; exact h9), (((hF63.2.2.1 49 9 rfl).trans (show (sF (sF (sF (sF s29 49 8 u_2_0) 49 9 x2) 49 10 x3) 49 11 (Int32.ofInt 0)).2.2.1 49 9 = x2 from rfl))), (((hF63.2.2.1 49 10 rfl).trans (show (sF (sF (sF (sF s29 49 8 u_2_0) 49 9 x2) 49 10 x3) 49 11 (Int32.ofInt 0)).2.2.1 49 10 = x3 from rfl)))⟩
        exact g_return (gd rfl) rfl (hP _ _ ⟨s63, hI63, (fr_tr rfl (fr_sF rfl (fr_sF rfl (fr_sF rfl (fr_sF rfl (fr_tr rfl fr_rf hF29))))) hF63), rfl, rfl, n80⟩)
      · skip
        have i73 := r_le1 0 2000 c73 i67 (in_c 2000 rfl) rfl
        refine g_aload_n 77 (gd rfl) rfl rfl ?_
        refine g_callv (X := _) (As := []) (r := []) (b := A 49) (q := 49) 80 (gd rfl) rfl rfl rfl rfl rfl (ww_o rfl) (Nat.le_of_ble_eq_true rfl) (Nat.zero_le _) (Nat.zero_le _) (k_210_49 (by first | exact dq1 hd rfl | exact dq0 hd rfl | exact dq2 hd rfl | exact dq3 hd rfl | omega) hI63 ) (fun e u h => h) (fun v u h => ?_)
        obtain ⟨s77, hI77, hF77, rfl, rfl⟩ := h
        show GG _ _ _ _ _ _ _ _ [] _ _ _
        have n80 : (SHG (gvC s) s77 ∧ (s77).2.2.1 49 9 = x2 ∧ (s77).2.2.1 49 10 = x3) := by exact ⟨shg_of (by rw [((hF77.2.2.1 49 8 rfl).trans ((hF63.2.2.1 49 8 rfl).trans (show (sF (sF (sF (sF s29 49 8 u_2_0) 49 9 x2) 49 10 x3) 49 11 (Int32.ofInt 0)).2.2.1 49 8 = u_2_0 from rfl))), e_2_0]; rfl) ((hF77.2.2.1 49 9 rfl).trans ((hF63.2.2.1 49 9 rfl).trans (show (sF (sF (sF (sF s29 49 8 u_2_0) 49 9 x2) 49 10 x3) 49 11 (Int32.ofInt 0)).2.2.1 49 9 = x2 from rfl))) ((hF77.2.2.1 49 10 rfl).trans ((hF63.2.2.1 49 10 rfl).trans (show (sF (sF (sF (sF s29 49 8 u_2_0) 49 9 x2) 49 10 x3) 49 11 (Int32.ofInt 0)).2.2.1 49 10 = x3 from rfl))) h2 h3 e60 (by rw [hF77.2.2.1 49 11 rfl]; have h9 := p63c; rw [gvC_cg (show Fr fm_207_49_2 s (sF (sF (sF (sF s29 49 8 u_2_0) 49 9 x2) 49 10 x3) 49 11 (Int32.ofInt 0)) from fr_sF rfl (fr_sF rfl (fr_sF rfl (fr_sF rfl (fr_tr rfl fr_rf hF29))))) rfl] at h9; exact h9), ((hF77.2.2.1 49 9 rfl).trans ((hF63.2.2.1 49 9 rfl).trans (show (sF (sF (sF (sF s29 49 8 u_2_0) 49 9 x2) 49 10 x3) 49 11 (Int32.ofInt 0)).2.2.1 49 9 = x2 from rfl))), ((hF77.2.2.1 49 10 rfl).trans ((hF63.2.2.1 49 10 rfl).trans (show (sF (sF (sF (sF s29 49 8 u_2_0) 49 9 x2) 49 10 x3) 49 11 (Int32.ofInt 0)).2.2.1 49 10 = x3 from rfl)))⟩
        exact g_return (gd rfl) rfl (hP _ _ ⟨s77, hI77, (fr_tr rfl (fr_tr rfl (fr_sF rfl (fr_sF rfl (fr_sF rfl (fr_sF rfl (fr_tr rfl fr_rf hF29))))) hF63) hF77), rfl, rfl, n80⟩)
    · skip
      refine g_aload_n 20 (gd rfl) rfl rfl ?_
      refine g_getI 23 (gd rfl) rfl rfl rfl (fun z20 e20 => ?_)
      have i20 := inv_F hI 0 31 rfl e20
      refine g_iload_n 24 (gd rfl) rfl rfl ?_
      refine g_cmp_ne 27 28 (gd rfl) rfl rfl (fun c24 => ?_) (fun c24 => ?_)
      · skip
        refine g_aload_n 29 (gd rfl) rfl rfl ?_
        refine g_callv (X := _) (As := []) (r := []) (b := A 2) (q := 2) 32 (gd rfl) rfl rfl rfl rfl rfl (ww_o rfl) (Nat.le_of_ble_eq_true rfl) (Nat.zero_le _) (Nat.zero_le _) (k_106_2 (by first | exact dq1 hd rfl | exact dq0 hd rfl | exact dq2 hd rfl | exact dq3 hd rfl | omega) hI ) (fun e u h => h) (fun v u h => ?_)
        obtain ⟨s29, hI29, hF29, n29, rfl, rfl⟩ := h
        obtain ⟨z29a, e29⟩ : ∃ w, w = s29.2.2.1 2 4 := ⟨_, rfl⟩
        have i29a := inv_F hI29 (-1) 4000 rfl e29
        rw [← (show z29a = s29.2.2.1 2 4 from e29)] at n29
        rw [← (show u_2_0 = s29.2.2.1 2 0 from fr_F (e_2_0) hF29 rfl)] at n29
        show GG _ _ _ _ _ _ _ _ [] _ _ _
        refine g_aload_n 33 (gd rfl) rfl rfl ?_
        refine g_aload_n 34 (gd rfl) rfl rfl ?_
        refine g_getI 37 (gd rfl) rfl rfl rfl (fun z34 e34 => ?_)
        have q34 : u_2_0 = z34 := (fr_F (e_2_0) hF29 rfl).trans e34.symm
        subst q34
        refine g_putI 40 (gd rfl) rfl rfl rfl rfl ?_
        have hI37 := inv_sF (q := 49) (j := 8) hI29 rfl (in_w (-1) 4000 ro_2_0 rfl)
        refine g_aload_n 41 (gd rfl) rfl rfl ?_
        refine g_iload_n 42 (gd rfl) rfl rfl ?_
        refine g_putI 45 (gd rfl) rfl rfl rfl rfl ?_
        have hI42 := inv_sF (q := 49) (j := 9) hI37 rfl (in_w 0 31 h2 rfl)
        refine g_aload_n 46 (gd rfl) rfl rfl ?_
        refine g_iload_n 47 (gd rfl) rfl rfl ?_
        refine g_putI 50 (gd rfl) rfl rfl rfl rfl ?_
        have hI47 := inv_sF (q := 49) (j := 10) hI42 rfl (in_w 0 31 h3 rfl)
        refine g_aload_n 51 (gd rfl) rfl rfl ?_
        refine g_iconst 0 52 (gd rfl) rfl rfl ?_
        refine g_putI 55 (gd rfl) rfl rfl rfl rfl ?_
        have hI52 := inv_sF (q := 49) (j := 11) hI47 rfl (in_w 0 2001 (in_c 0 rfl) rfl)
        refine g_aload_n 56 (gd rfl) rfl rfl ?_
        refine g_aload_n 57 (gd rfl) rfl rfl ?_
        refine g_iload_n 58 (gd rfl) rfl rfl ?_
        refine g_iconst 1 59 (gd rfl) rfl rfl ?_
        refine g_iload_n 60 (gd rfl) rfl rfl ?_
        refine g_ishl 61 (gd rfl) rfl (fun z60 e60 => ?_)
        refine g_iconst 0 62 (gd rfl) rfl rfl ?_
        refine g_lconst 0 63 (gd rfl) rfl rfl ?_
        have p63 : TQ (sF (sF (sF (sF s29 49 8 u_2_0) 49 9 x2) 49 10 x3) 49 11 (Int32.ofInt 0)) := by exact tq_fr q_0 (show Fr fm_207_49_2 s (sF (sF (sF (sF s29 49 8 u_2_0) 49 9 x2) 49 10 x3) 49 11 (Int32.ofInt 0)) from (fr_sF rfl (fr_sF rfl (fr_sF rfl (fr_sF rfl (fr_tr rfl fr_rf hF29)))))) rfl
        have p63a : ((((sF (sF (sF (sF s29 49 8 u_2_0) 49 9 x2) 49 10 x3) 49 11 (Int32.ofInt 0))).2.2.1 2 4).toInt = (((sF (sF (sF (sF s29 49 8 u_2_0) 49 9 x2) 49 10 x3) 49 11 (Int32.ofInt 0))).2.2.1 2 0).toInt) := by exact (by show (s29.2.2.1 2 4).toInt = (s29.2.2.1 2 0).toInt; rw [← (show z29a = s29.2.2.1 2 4 from e29), ← (show u_2_0 = s29.2.2.1 2 0 from fr_F (e_2_0) hF29 rfl)]; exact n29)
        have p63b : NDQ (gvC (sF (sF (sF (sF s29 49 8 u_2_0) 49 9 x2) 49 10 x3) 49 11 (Int32.ofInt 0))) := by rw [gvC_cg (show Fr fm_207_49_2 s (sF (sF (sF (sF s29 49 8 u_2_0) 49 9 x2) 49 10 x3) 49 11 (Int32.ofInt 0)) from (fr_sF rfl (fr_sF rfl (fr_sF rfl (fr_sF rfl (fr_tr rfl fr_rf hF29)))))) rfl]; exact q_1
        refine g_callv (X := _) (As := [.ref (A 2), .int x2, .int z60, .int (Int32.ofInt 0), .long (Int64.ofInt 0)]) (r := []) (b := A 49) (q := 49) 66 (gd rfl) rfl rfl rfl rfl rfl (ww_o rfl) (Nat.le_of_ble_eq_true rfl) (Nat.zero_le _) (Nat.zero_le _) (f_208_49_2 (by first | exact dq1 hd rfl | exact dq0 hd rfl | exact dq2 hd rfl | exact dq3 hd rfl | omega) hI52 (in_w 0 31 h2 rfl) (in_w 0 4 (in_c 0 rfl) rfl) p63 p63a p63b) (fun e u h => h) (fun v u h => ?_)
        obtain ⟨s63, hI63, hF63, rfl, rfl, p63c⟩ := h
        show GG _ _ _ _ _ _ _ _ [] _ _ _
        refine g_aload_n 67 (gd rfl) rfl rfl ?_
        refine g_getI 70 (gd rfl) rfl rfl rfl (fun z67 e67 => ?_)
        have i67 := inv_F hI63 0 2001 rfl e67
        refine g_sipush 2000 73 (gd rfl) rfl rfl ?_
        refine g_cmp_gt 76 80 (gd rfl) rfl rfl (fun c73 => ?_) (fun c73 => ?_)
        · skip
          have i73 := r_lt2 2001 2001 c73 (in_c 2000 rfl) i67 rfl
          have n80 : (SHG (gvC s) s63 ∧ (s63).2.2.1 49 9 = x2 ∧ (s63).2.2.1 49 10 = x3) := by exact ⟨shg_of (by rw [(((hF63.2.2.1 49 8 rfl).trans (show (sF (sF (sF (sF s29 49 8 u_2_0) 49 9 x2) 49 10 x3) 49 11 (Int32.ofInt 0)).2.2.1 49 8 = u_2_0 from rfl))), e_2_0]; rfl) (((hF63.2.2.1 49 9 rfl).trans (show (sF (sF (sF (sF s29 49 8 u_2_0) 49 9 x2) 49 10 x3) 49 11 (Int32.ofInt 0)).2.2.1 49 9 = x2 from rfl))) (((hF63.2.2.1 49 10 rfl).trans (show (sF (sF (sF (sF s29 49 8 u_2_0) 49 9 x2) 49 10 x3) 49 11 (Int32.ofInt 0)).2.2.1 49 10 = x3 from rfl))) h2 h3 e60 (by have h9 := p63c; rw [gvC_cg (show Fr fm_207_49_2 s (sF (sF (sF (sF s29 49 8 u_2_0) 49 9 x2) 49 10 x3) 49 11 (Int32.ofInt 0)) from fr_sF rfl (fr_sF rfl (fr_sF rfl (fr_sF rfl (fr_tr rfl fr_rf hF29))))) rfl] at h9; exact h9), (((hF63.2.2.1 49 9 rfl).trans (show (sF (sF (sF (sF s29 49 8 u_2_0) 49 9 x2) 49 10 x3) 49 11 (Int32.ofInt 0)).2.2.1 49 9 = x2 from rfl))), (((hF63.2.2.1 49 10 rfl).trans (show (sF (sF (sF (sF s29 49 8 u_2_0) 49 9 x2) 49 10 x3) 49 11 (Int32.ofInt 0)).2.2.1 49 10 = x3 from rfl)))⟩
          exact g_return (gd rfl) rfl (hP _ _ ⟨s63, hI63, (fr_tr rfl (fr_sF rfl (fr_sF rfl (fr_sF rfl (fr_sF rfl (fr_tr rfl fr_rf hF29))))) hF63), rfl, rfl, n80⟩)
        · skip
          have i73 := r_le1 0 2000 c73 i67 (in_c 2000 rfl) rfl
          refine g_aload_n 77 (gd rfl) rfl rfl ?_
          refine g_callv (X := _) (As := []) (r := []) (b := A 49) (q := 49) 80 (gd rfl) rfl rfl rfl rfl rfl (ww_o rfl) (Nat.le_of_ble_eq_true rfl) (Nat.zero_le _) (Nat.zero_le _) (k_210_49 (by first | exact dq1 hd rfl | exact dq0 hd rfl | exact dq2 hd rfl | exact dq3 hd rfl | omega) hI63 ) (fun e u h => h) (fun v u h => ?_)
          obtain ⟨s77, hI77, hF77, rfl, rfl⟩ := h
          show GG _ _ _ _ _ _ _ _ [] _ _ _
          have n80 : (SHG (gvC s) s77 ∧ (s77).2.2.1 49 9 = x2 ∧ (s77).2.2.1 49 10 = x3) := by exact ⟨shg_of (by rw [((hF77.2.2.1 49 8 rfl).trans ((hF63.2.2.1 49 8 rfl).trans (show (sF (sF (sF (sF s29 49 8 u_2_0) 49 9 x2) 49 10 x3) 49 11 (Int32.ofInt 0)).2.2.1 49 8 = u_2_0 from rfl))), e_2_0]; rfl) ((hF77.2.2.1 49 9 rfl).trans ((hF63.2.2.1 49 9 rfl).trans (show (sF (sF (sF (sF s29 49 8 u_2_0) 49 9 x2) 49 10 x3) 49 11 (Int32.ofInt 0)).2.2.1 49 9 = x2 from rfl))) ((hF77.2.2.1 49 10 rfl).trans ((hF63.2.2.1 49 10 rfl).trans (show (sF (sF (sF (sF s29 49 8 u_2_0) 49 9 x2) 49 10 x3) 49 11 (Int32.ofInt 0)).2.2.1 49 10 = x3 from rfl))) h2 h3 e60 (by rw [hF77.2.2.1 49 11 rfl]; have h9 := p63c; rw [gvC_cg (show Fr fm_207_49_2 s (sF (sF (sF (sF s29 49 8 u_2_0) 49 9 x2) 49 10 x3) 49 11 (Int32.ofInt 0)) from fr_sF rfl (fr_sF rfl (fr_sF rfl (fr_sF rfl (fr_tr rfl fr_rf hF29))))) rfl] at h9; exact h9), ((hF77.2.2.1 49 9 rfl).trans ((hF63.2.2.1 49 9 rfl).trans (show (sF (sF (sF (sF s29 49 8 u_2_0) 49 9 x2) 49 10 x3) 49 11 (Int32.ofInt 0)).2.2.1 49 9 = x2 from rfl))), ((hF77.2.2.1 49 10 rfl).trans ((hF63.2.2.1 49 10 rfl).trans (show (sF (sF (sF (sF s29 49 8 u_2_0) 49 9 x2) 49 10 x3) 49 11 (Int32.ofInt 0)).2.2.1 49 10 = x3 from rfl)))⟩
          exact g_return (gd rfl) rfl (hP _ _ ⟨s77, hI77, (fr_tr rfl (fr_tr rfl (fr_sF rfl (fr_sF rfl (fr_sF rfl (fr_sF rfl (fr_tr rfl fr_rf hF29))))) hF63) hF77), rfl, rfl, n80⟩)
      · skip
        have n27 : (SHG (gvC s) s ∧ (s).2.2.1 49 9 = x2 ∧ (s).2.2.1 49 10 = x3) := by exact ⟨⟨(by show (s.2.2.1 49 8).toInt = (s.2.2.1 2 0).toInt; rw [← e1, ← e_2_0]; exact c8), q_2 (by show (s.2.2.1 49 8).toInt = (s.2.2.1 2 0).toInt; rw [← e1, ← e_2_0]; exact c8)⟩, (show s.2.2.1 49 9 = x2 from i_eq.mpr (by rw [← e12]; exact c16)), (show s.2.2.1 49 10 = x3 from i_eq.mpr (by rw [← e20]; exact c24))⟩
        exact g_return (gd rfl) rfl (hP _ _ ⟨s, hI, fr_rf, rfl, rfl, n27⟩)

/-- GraphHouse$Ways.collect -/
theorem f_207_49_32 {Z : AmZ} {A : Nat → Nat} {s : GS} {ex : va_W} {d : Nat} {X : AmX} {x2 : Int32} {x3 : Int32} (hd : 22 ≤ d) (hI : Inv s) (h2 : In x2 0 31) (h3 : In x3 0 31) (q_0 : TQD s) (q_1 : NDQ (gvD s)) (q_2 : SHB (gvD s) s) : GC Z d 207 [.ref (A 49), .ref (A 32), .int x2, .int x3] (WW Z A s ++ ex) 0 0 (fun v u => ∃ t : GS, Inv t ∧ Fr fm_207_49_32 s t ∧ v = none ∧ u = WW Z A t ++ ex ∧ ((SHG (gvD s) t ∧ (t).2.2.1 49 9 = x2 ∧ (t).2.2.1 49 10 = x3))) X := by
  intro post xp hP hX
  obtain ⟨u_32_0, e_32_0⟩ : ∃ w, w = s.2.2.1 32 0 := ⟨_, rfl⟩
  have ro_32_0 := inv_F hI 0 4000 rfl e_32_0
  refine g_enter2 (k := 207) (N := 900) (by first | exact dq1 hd rfl | exact dq0 hd rfl | exact dq2 hd rfl | exact dq3 hd rfl | omega) rfl (Nat.le_of_ble_eq_true rfl) ?_
  refine g_aload_n 1 (gd rfl) rfl rfl ?_
  refine g_getI 4 (gd rfl) rfl rfl rfl (fun z1 e1 => ?_)
  have i1 := inv_F hI (-1) 4000 rfl e1
  refine g_aload_n 5 (gd rfl) rfl rfl ?_
  refine g_getI 8 (gd rfl) rfl rfl rfl (fun z5 e5 => ?_)
  have q5 : u_32_0 = z5 := (e_32_0).trans e5.symm
  subst q5
  refine g_cmp_ne 11 28 (gd rfl) rfl rfl (fun c8 => ?_) (fun c8 => ?_)
  · skip
    refine g_aload_n 29 (gd rfl) rfl rfl ?_
    refine g_callv (X := _) (As := []) (r := []) (b := A 32) (q := 32) 32 (gd rfl) rfl rfl rfl rfl rfl (ww_o rfl) (Nat.le_of_ble_eq_true rfl) (Nat.zero_le _) (Nat.zero_le _) (k_106_32 (by first | exact dq1 hd rfl | exact dq0 hd rfl | exact dq2 hd rfl | exact dq3 hd rfl | omega) hI ) (fun e u h => h) (fun v u h => ?_)
    obtain ⟨s29, hI29, hF29, n29, rfl, rfl⟩ := h
    obtain ⟨z29a, e29⟩ : ∃ w, w = s29.2.2.1 32 4 := ⟨_, rfl⟩
    have i29a := inv_F hI29 (-1) 4000 rfl e29
    rw [← (show z29a = s29.2.2.1 32 4 from e29)] at n29
    rw [← (show u_32_0 = s29.2.2.1 32 0 from fr_F (e_32_0) hF29 rfl)] at n29
    show GG _ _ _ _ _ _ _ _ [] _ _ _
    refine g_aload_n 33 (gd rfl) rfl rfl ?_
    refine g_aload_n 34 (gd rfl) rfl rfl ?_
    refine g_getI 37 (gd rfl) rfl rfl rfl (fun z34 e34 => ?_)
    have q34 : u_32_0 = z34 := (fr_F (e_32_0) hF29 rfl).trans e34.symm
    subst q34
    refine g_putI 40 (gd rfl) rfl rfl rfl rfl ?_
    have hI37 := inv_sF (q := 49) (j := 8) hI29 rfl (in_w (-1) 4000 ro_32_0 rfl)
    refine g_aload_n 41 (gd rfl) rfl rfl ?_
    refine g_iload_n 42 (gd rfl) rfl rfl ?_
    refine g_putI 45 (gd rfl) rfl rfl rfl rfl ?_
    have hI42 := inv_sF (q := 49) (j := 9) hI37 rfl (in_w 0 31 h2 rfl)
    refine g_aload_n 46 (gd rfl) rfl rfl ?_
    refine g_iload_n 47 (gd rfl) rfl rfl ?_
    refine g_putI 50 (gd rfl) rfl rfl rfl rfl ?_
    have hI47 := inv_sF (q := 49) (j := 10) hI42 rfl (in_w 0 31 h3 rfl)
    refine g_aload_n 51 (gd rfl) rfl rfl ?_
    refine g_iconst 0 52 (gd rfl) rfl rfl ?_
    refine g_putI 55 (gd rfl) rfl rfl rfl rfl ?_
    have hI52 := inv_sF (q := 49) (j := 11) hI47 rfl (in_w 0 2001 (in_c 0 rfl) rfl)
    refine g_aload_n 56 (gd rfl) rfl rfl ?_
    refine g_aload_n 57 (gd rfl) rfl rfl ?_
    refine g_iload_n 58 (gd rfl) rfl rfl ?_
    refine g_iconst 1 59 (gd rfl) rfl rfl ?_
    refine g_iload_n 60 (gd rfl) rfl rfl ?_
    refine g_ishl 61 (gd rfl) rfl (fun z60 e60 => ?_)
    refine g_iconst 0 62 (gd rfl) rfl rfl ?_
    refine g_lconst 0 63 (gd rfl) rfl rfl ?_
    have p63 : TQD (sF (sF (sF (sF s29 49 8 u_32_0) 49 9 x2) 49 10 x3) 49 11 (Int32.ofInt 0)) := by exact tqd_fr q_0 (show Fr fm_207_49_32 s (sF (sF (sF (sF s29 49 8 u_32_0) 49 9 x2) 49 10 x3) 49 11 (Int32.ofInt 0)) from (fr_sF rfl (fr_sF rfl (fr_sF rfl (fr_sF rfl (fr_tr rfl fr_rf hF29)))))) rfl
    have p63a : ((((sF (sF (sF (sF s29 49 8 u_32_0) 49 9 x2) 49 10 x3) 49 11 (Int32.ofInt 0))).2.2.1 32 4).toInt = (((sF (sF (sF (sF s29 49 8 u_32_0) 49 9 x2) 49 10 x3) 49 11 (Int32.ofInt 0))).2.2.1 32 0).toInt) := by exact (by show (s29.2.2.1 32 4).toInt = (s29.2.2.1 32 0).toInt; rw [← (show z29a = s29.2.2.1 32 4 from e29), ← (show u_32_0 = s29.2.2.1 32 0 from fr_F (e_32_0) hF29 rfl)]; exact n29)
    have p63b : NDQ (gvD (sF (sF (sF (sF s29 49 8 u_32_0) 49 9 x2) 49 10 x3) 49 11 (Int32.ofInt 0))) := by rw [gvD_fr (show Fr fm_207_49_32 s (sF (sF (sF (sF s29 49 8 u_32_0) 49 9 x2) 49 10 x3) 49 11 (Int32.ofInt 0)) from (fr_sF rfl (fr_sF rfl (fr_sF rfl (fr_sF rfl (fr_tr rfl fr_rf hF29)))))) rfl]; exact q_1
    refine g_callv (X := _) (As := [.ref (A 32), .int x2, .int z60, .int (Int32.ofInt 0), .long (Int64.ofInt 0)]) (r := []) (b := A 49) (q := 49) 66 (gd rfl) rfl rfl rfl rfl rfl (ww_o rfl) (Nat.le_of_ble_eq_true rfl) (Nat.zero_le _) (Nat.zero_le _) (f_208_49_32 (by first | exact dq1 hd rfl | exact dq0 hd rfl | exact dq2 hd rfl | exact dq3 hd rfl | omega) hI52 (in_w 0 31 h2 rfl) (in_w 0 4 (in_c 0 rfl) rfl) p63 p63a p63b) (fun e u h => h) (fun v u h => ?_)
    obtain ⟨s63, hI63, hF63, rfl, rfl, p63c⟩ := h
    show GG _ _ _ _ _ _ _ _ [] _ _ _
    refine g_aload_n 67 (gd rfl) rfl rfl ?_
    refine g_getI 70 (gd rfl) rfl rfl rfl (fun z67 e67 => ?_)
    have i67 := inv_F hI63 0 2001 rfl e67
    refine g_sipush 2000 73 (gd rfl) rfl rfl ?_
    refine g_cmp_gt 76 80 (gd rfl) rfl rfl (fun c73 => ?_) (fun c73 => ?_)
    · skip
      have i73 := r_lt2 2001 2001 c73 (in_c 2000 rfl) i67 rfl
      have n80 : (SHG (gvD s) s63 ∧ (s63).2.2.1 49 9 = x2 ∧ (s63).2.2.1 49 10 = x3) := by exact ⟨shg_of (by rw [(((hF63.2.2.1 49 8 rfl).trans (show (sF (sF (sF (sF s29 49 8 u_32_0) 49 9 x2) 49 10 x3) 49 11 (Int32.ofInt 0)).2.2.1 49 8 = u_32_0 from rfl))), e_32_0]; rfl) (((hF63.2.2.1 49 9 rfl).trans (show (sF (sF (sF (sF s29 49 8 u_32_0) 49 9 x2) 49 10 x3) 49 11 (Int32.ofInt 0)).2.2.1 49 9 = x2 from rfl))) (((hF63.2.2.1 49 10 rfl).trans (show (sF (sF (sF (sF s29 49 8 u_32_0) 49 9 x2) 49 10 x3) 49 11 (Int32.ofInt 0)).2.2.1 49 10 = x3 from rfl))) h2 h3 e60 (by have h9 := p63c; rw [gvD_fr (show Fr fm_207_49_32 s (sF (sF (sF (sF s29 49 8 u_32_0) 49 9 x2) 49 10 x3) 49 11 (Int32.ofInt 0)) from fr_sF rfl (fr_sF rfl (fr_sF rfl (fr_sF rfl (fr_tr rfl fr_rf hF29))))) rfl] at h9; exact h9), (((hF63.2.2.1 49 9 rfl).trans (show (sF (sF (sF (sF s29 49 8 u_32_0) 49 9 x2) 49 10 x3) 49 11 (Int32.ofInt 0)).2.2.1 49 9 = x2 from rfl))), (((hF63.2.2.1 49 10 rfl).trans (show (sF (sF (sF (sF s29 49 8 u_32_0) 49 9 x2) 49 10 x3) 49 11 (Int32.ofInt 0)).2.2.1 49 10 = x3 from rfl)))⟩
      exact g_return (gd rfl) rfl (hP _ _ ⟨s63, hI63, (fr_tr rfl (fr_sF rfl (fr_sF rfl (fr_sF rfl (fr_sF rfl (fr_tr rfl fr_rf hF29))))) hF63), rfl, rfl, n80⟩)
    · skip
      have i73 := r_le1 0 2000 c73 i67 (in_c 2000 rfl) rfl
      refine g_aload_n 77 (gd rfl) rfl rfl ?_
      refine g_callv (X := _) (As := []) (r := []) (b := A 49) (q := 49) 80 (gd rfl) rfl rfl rfl rfl rfl (ww_o rfl) (Nat.le_of_ble_eq_true rfl) (Nat.zero_le _) (Nat.zero_le _) (k_210_49 (by first | exact dq1 hd rfl | exact dq0 hd rfl | exact dq2 hd rfl | exact dq3 hd rfl | omega) hI63 ) (fun e u h => h) (fun v u h => ?_)
      obtain ⟨s77, hI77, hF77, rfl, rfl⟩ := h
      show GG _ _ _ _ _ _ _ _ [] _ _ _
      have n80 : (SHG (gvD s) s77 ∧ (s77).2.2.1 49 9 = x2 ∧ (s77).2.2.1 49 10 = x3) := by exact ⟨shg_of (by rw [((hF77.2.2.1 49 8 rfl).trans ((hF63.2.2.1 49 8 rfl).trans (show (sF (sF (sF (sF s29 49 8 u_32_0) 49 9 x2) 49 10 x3) 49 11 (Int32.ofInt 0)).2.2.1 49 8 = u_32_0 from rfl))), e_32_0]; rfl) ((hF77.2.2.1 49 9 rfl).trans ((hF63.2.2.1 49 9 rfl).trans (show (sF (sF (sF (sF s29 49 8 u_32_0) 49 9 x2) 49 10 x3) 49 11 (Int32.ofInt 0)).2.2.1 49 9 = x2 from rfl))) ((hF77.2.2.1 49 10 rfl).trans ((hF63.2.2.1 49 10 rfl).trans (show (sF (sF (sF (sF s29 49 8 u_32_0) 49 9 x2) 49 10 x3) 49 11 (Int32.ofInt 0)).2.2.1 49 10 = x3 from rfl))) h2 h3 e60 (by rw [hF77.2.2.1 49 11 rfl]; have h9 := p63c; rw [gvD_fr (show Fr fm_207_49_32 s (sF (sF (sF (sF s29 49 8 u_32_0) 49 9 x2) 49 10 x3) 49 11 (Int32.ofInt 0)) from fr_sF rfl (fr_sF rfl (fr_sF rfl (fr_sF rfl (fr_tr rfl fr_rf hF29))))) rfl] at h9; exact h9), ((hF77.2.2.1 49 9 rfl).trans ((hF63.2.2.1 49 9 rfl).trans (show (sF (sF (sF (sF s29 49 8 u_32_0) 49 9 x2) 49 10 x3) 49 11 (Int32.ofInt 0)).2.2.1 49 9 = x2 from rfl))), ((hF77.2.2.1 49 10 rfl).trans ((hF63.2.2.1 49 10 rfl).trans (show (sF (sF (sF (sF s29 49 8 u_32_0) 49 9 x2) 49 10 x3) 49 11 (Int32.ofInt 0)).2.2.1 49 10 = x3 from rfl)))⟩
      exact g_return (gd rfl) rfl (hP _ _ ⟨s77, hI77, (fr_tr rfl (fr_tr rfl (fr_sF rfl (fr_sF rfl (fr_sF rfl (fr_sF rfl (fr_tr rfl fr_rf hF29))))) hF63) hF77), rfl, rfl, n80⟩)
  · skip
    have i8 := r_eq1 0 4000 c8 i1 ro_32_0 rfl
    refine g_aload_n 12 (gd rfl) rfl rfl ?_
    refine g_getI 15 (gd rfl) rfl rfl rfl (fun z12 e12 => ?_)
    have i12 := inv_F hI 0 31 rfl e12
    refine g_iload_n 16 (gd rfl) rfl rfl ?_
    refine g_cmp_ne 19 28 (gd rfl) rfl rfl (fun c16 => ?_) (fun c16 => ?_)
    · skip
      refine g_aload_n 29 (gd rfl) rfl rfl ?_
      refine g_callv (X := _) (As := []) (r := []) (b := A 32) (q := 32) 32 (gd rfl) rfl rfl rfl rfl rfl (ww_o rfl) (Nat.le_of_ble_eq_true rfl) (Nat.zero_le _) (Nat.zero_le _) (k_106_32 (by first | exact dq1 hd rfl | exact dq0 hd rfl | exact dq2 hd rfl | exact dq3 hd rfl | omega) hI ) (fun e u h => h) (fun v u h => ?_)
      obtain ⟨s29, hI29, hF29, n29, rfl, rfl⟩ := h
      obtain ⟨z29a, e29⟩ : ∃ w, w = s29.2.2.1 32 4 := ⟨_, rfl⟩
      have i29a := inv_F hI29 (-1) 4000 rfl e29
      rw [← (show z29a = s29.2.2.1 32 4 from e29)] at n29
      rw [← (show u_32_0 = s29.2.2.1 32 0 from fr_F (e_32_0) hF29 rfl)] at n29
      show GG _ _ _ _ _ _ _ _ [] _ _ _
      refine g_aload_n 33 (gd rfl) rfl rfl ?_
      refine g_aload_n 34 (gd rfl) rfl rfl ?_
      refine g_getI 37 (gd rfl) rfl rfl rfl (fun z34 e34 => ?_)
      have q34 : u_32_0 = z34 := (fr_F (e_32_0) hF29 rfl).trans e34.symm
      subst q34
      refine g_putI 40 (gd rfl) rfl rfl rfl rfl ?_
      have hI37 := inv_sF (q := 49) (j := 8) hI29 rfl (in_w (-1) 4000 ro_32_0 rfl)
      refine g_aload_n 41 (gd rfl) rfl rfl ?_
      refine g_iload_n 42 (gd rfl) rfl rfl ?_
      refine g_putI 45 (gd rfl) rfl rfl rfl rfl ?_
      have hI42 := inv_sF (q := 49) (j := 9) hI37 rfl (in_w 0 31 h2 rfl)
      refine g_aload_n 46 (gd rfl) rfl rfl ?_
      refine g_iload_n 47 (gd rfl) rfl rfl ?_
      refine g_putI 50 (gd rfl) rfl rfl rfl rfl ?_
      have hI47 := inv_sF (q := 49) (j := 10) hI42 rfl (in_w 0 31 h3 rfl)
      refine g_aload_n 51 (gd rfl) rfl rfl ?_
      refine g_iconst 0 52 (gd rfl) rfl rfl ?_
      refine g_putI 55 (gd rfl) rfl rfl rfl rfl ?_
      have hI52 := inv_sF (q := 49) (j := 11) hI47 rfl (in_w 0 2001 (in_c 0 rfl) rfl)
      refine g_aload_n 56 (gd rfl) rfl rfl ?_
      refine g_aload_n 57 (gd rfl) rfl rfl ?_
      refine g_iload_n 58 (gd rfl) rfl rfl ?_
      refine g_iconst 1 59 (gd rfl) rfl rfl ?_
      refine g_iload_n 60 (gd rfl) rfl rfl ?_
      refine g_ishl 61 (gd rfl) rfl (fun z60 e60 => ?_)
      refine g_iconst 0 62 (gd rfl) rfl rfl ?_
      refine g_lconst 0 63 (gd rfl) rfl rfl ?_
      have p63 : TQD (sF (sF (sF (sF s29 49 8 u_32_0) 49 9 x2) 49 10 x3) 49 11 (Int32.ofInt 0)) := by exact tqd_fr q_0 (show Fr fm_207_49_32 s (sF (sF (sF (sF s29 49 8 u_32_0) 49 9 x2) 49 10 x3) 49 11 (Int32.ofInt 0)) from (fr_sF rfl (fr_sF rfl (fr_sF rfl (fr_sF rfl (fr_tr rfl fr_rf hF29)))))) rfl
      have p63a : ((((sF (sF (sF (sF s29 49 8 u_32_0) 49 9 x2) 49 10 x3) 49 11 (Int32.ofInt 0))).2.2.1 32 4).toInt = (((sF (sF (sF (sF s29 49 8 u_32_0) 49 9 x2) 49 10 x3) 49 11 (Int32.ofInt 0))).2.2.1 32 0).toInt) := by exact (by show (s29.2.2.1 32 4).toInt = (s29.2.2.1 32 0).toInt; rw [← (show z29a = s29.2.2.1 32 4 from e29), ← (show u_32_0 = s29.2.2.1 32 0 from fr_F (e_32_0) hF29 rfl)]; exact n29)
      have p63b : NDQ (gvD (sF (sF (sF (sF s29 49 8 u_32_0) 49 9 x2) 49 10 x3) 49 11 (Int32.ofInt 0))) := by rw [gvD_fr (show Fr fm_207_49_32 s (sF (sF (sF (sF s29 49 8 u_32_0) 49 9 x2) 49 10 x3) 49 11 (Int32.ofInt 0)) from (fr_sF rfl (fr_sF rfl (fr_sF rfl (fr_sF rfl (fr_tr rfl fr_rf hF29)))))) rfl]; exact q_1
      refine g_callv (X := _) (As := [.ref (A 32), .int x2, .int z60, .int (Int32.ofInt 0), .long (Int64.ofInt 0)]) (r := []) (b := A 49) (q := 49) 66 (gd rfl) rfl rfl rfl rfl rfl (ww_o rfl) (Nat.le_of_ble_eq_true rfl) (Nat.zero_le _) (Nat.zero_le _) (f_208_49_32 (by first | exact dq1 hd rfl | exact dq0 hd rfl | exact dq2 hd rfl | exact dq3 hd rfl | omega) hI52 (in_w 0 31 h2 rfl) (in_w 0 4 (in_c 0 rfl) rfl) p63 p63a p63b) (fun e u h => h) (fun v u h => ?_)
      obtain ⟨s63, hI63, hF63, rfl, rfl, p63c⟩ := h
      show GG _ _ _ _ _ _ _ _ [] _ _ _
      refine g_aload_n 67 (gd rfl) rfl rfl ?_
      refine g_getI 70 (gd rfl) rfl rfl rfl (fun z67 e67 => ?_)
      have i67 := inv_F hI63 0 2001 rfl e67
      refine g_sipush 2000 73 (gd rfl) rfl rfl ?_
      refine g_cmp_gt 76 80 (gd rfl) rfl rfl (fun c73 => ?_) (fun c73 => ?_)
      · skip
        have i73 := r_lt2 2001 2001 c73 (in_c 2000 rfl) i67 rfl
        have n80 : (SHG (gvD s) s63 ∧ (s63).2.2.1 49 9 = x2 ∧ (s63).2.2.1 49 10 = x3) := by exact ⟨shg_of (by rw [(((hF63.2.2.1 49 8 rfl).trans (show (sF (sF (sF (sF s29 49 8 u_32_0) 49 9 x2) 49 10 x3) 49 11 (Int32.ofInt 0)).2.2.1 49 8 = u_32_0 from rfl))), e_32_0]; rfl) (((hF63.2.2.1 49 9 rfl).trans (show (sF (sF (sF (sF s29 49 8 u_32_0) 49 9 x2) 49 10 x3) 49 11 (Int32.ofInt 0)).2.2.1 49 9 = x2 from rfl))) (((hF63.2.2.1 49 10 rfl).trans (show (sF (sF (sF (sF s29 49 8 u_32_0) 49 9 x2) 49 10 x3) 49 11 (Int32.ofInt 0)).2.2.1 49 10 = x3 from rfl))) h2 h3 e60 (by have h9 := p63c; rw [gvD_fr (show Fr fm_207_49_32 s (sF (sF (sF (sF s29 49 8 u_32_0) 49 9 x2) 49 10 x3) 49 11 (Int32.ofInt 0)) from fr_sF rfl (fr_sF rfl (fr_sF rfl (fr_sF rfl (fr_tr rfl fr_rf hF29))))) rfl] at h9; exact h9), (((hF63.2.2.1 49 9 rfl).trans (show (sF (sF (sF (sF s29 49 8 u_32_0) 49 9 x2) 49 10 x3) 49 11 (Int32.ofInt 0)).2.2.1 49 9 = x2 from rfl))), (((hF63.2.2.1 49 10 rfl).trans (show (sF (sF (sF (sF s29 49 8 u_32_0) 49 9 x2) 49 10 x3) 49 11 (Int32.ofInt 0)).2.2.1 49 10 = x3 from rfl)))⟩
        exact g_return (gd rfl) rfl (hP _ _ ⟨s63, hI63, (fr_tr rfl (fr_sF rfl (fr_sF rfl (fr_sF rfl (fr_sF rfl (fr_tr rfl fr_rf hF29))))) hF63), rfl, rfl, n80⟩)
      · skip
        have i73 := r_le1 0 2000 c73 i67 (in_c 2000 rfl) rfl
        refine g_aload_n 77 (gd rfl) rfl rfl ?_
        refine g_callv (X := _) (As := []) (r := []) (b := A 49) (q := 49) 80 (gd rfl) rfl rfl rfl rfl rfl (ww_o rfl) (Nat.le_of_ble_eq_true rfl) (Nat.zero_le _) (Nat.zero_le _) (k_210_49 (by first | exact dq1 hd rfl | exact dq0 hd rfl | exact dq2 hd rfl | exact dq3 hd rfl | omega) hI63 ) (fun e u h => h) (fun v u h => ?_)
        obtain ⟨s77, hI77, hF77, rfl, rfl⟩ := h
        show GG _ _ _ _ _ _ _ _ [] _ _ _
        have n80 : (SHG (gvD s) s77 ∧ (s77).2.2.1 49 9 = x2 ∧ (s77).2.2.1 49 10 = x3) := by exact ⟨shg_of (by rw [((hF77.2.2.1 49 8 rfl).trans ((hF63.2.2.1 49 8 rfl).trans (show (sF (sF (sF (sF s29 49 8 u_32_0) 49 9 x2) 49 10 x3) 49 11 (Int32.ofInt 0)).2.2.1 49 8 = u_32_0 from rfl))), e_32_0]; rfl) ((hF77.2.2.1 49 9 rfl).trans ((hF63.2.2.1 49 9 rfl).trans (show (sF (sF (sF (sF s29 49 8 u_32_0) 49 9 x2) 49 10 x3) 49 11 (Int32.ofInt 0)).2.2.1 49 9 = x2 from rfl))) ((hF77.2.2.1 49 10 rfl).trans ((hF63.2.2.1 49 10 rfl).trans (show (sF (sF (sF (sF s29 49 8 u_32_0) 49 9 x2) 49 10 x3) 49 11 (Int32.ofInt 0)).2.2.1 49 10 = x3 from rfl))) h2 h3 e60 (by rw [hF77.2.2.1 49 11 rfl]; have h9 := p63c; rw [gvD_fr (show Fr fm_207_49_32 s (sF (sF (sF (sF s29 49 8 u_32_0) 49 9 x2) 49 10 x3) 49 11 (Int32.ofInt 0)) from fr_sF rfl (fr_sF rfl (fr_sF rfl (fr_sF rfl (fr_tr rfl fr_rf hF29))))) rfl] at h9; exact h9), ((hF77.2.2.1 49 9 rfl).trans ((hF63.2.2.1 49 9 rfl).trans (show (sF (sF (sF (sF s29 49 8 u_32_0) 49 9 x2) 49 10 x3) 49 11 (Int32.ofInt 0)).2.2.1 49 9 = x2 from rfl))), ((hF77.2.2.1 49 10 rfl).trans ((hF63.2.2.1 49 10 rfl).trans (show (sF (sF (sF (sF s29 49 8 u_32_0) 49 9 x2) 49 10 x3) 49 11 (Int32.ofInt 0)).2.2.1 49 10 = x3 from rfl)))⟩
        exact g_return (gd rfl) rfl (hP _ _ ⟨s77, hI77, (fr_tr rfl (fr_tr rfl (fr_sF rfl (fr_sF rfl (fr_sF rfl (fr_sF rfl (fr_tr rfl fr_rf hF29))))) hF63) hF77), rfl, rfl, n80⟩)
    · skip
      refine g_aload_n 20 (gd rfl) rfl rfl ?_
      refine g_getI 23 (gd rfl) rfl rfl rfl (fun z20 e20 => ?_)
      have i20 := inv_F hI 0 31 rfl e20
      refine g_iload_n 24 (gd rfl) rfl rfl ?_
      refine g_cmp_ne 27 28 (gd rfl) rfl rfl (fun c24 => ?_) (fun c24 => ?_)
      · skip
        refine g_aload_n 29 (gd rfl) rfl rfl ?_
        refine g_callv (X := _) (As := []) (r := []) (b := A 32) (q := 32) 32 (gd rfl) rfl rfl rfl rfl rfl (ww_o rfl) (Nat.le_of_ble_eq_true rfl) (Nat.zero_le _) (Nat.zero_le _) (k_106_32 (by first | exact dq1 hd rfl | exact dq0 hd rfl | exact dq2 hd rfl | exact dq3 hd rfl | omega) hI ) (fun e u h => h) (fun v u h => ?_)
        obtain ⟨s29, hI29, hF29, n29, rfl, rfl⟩ := h
        obtain ⟨z29a, e29⟩ : ∃ w, w = s29.2.2.1 32 4 := ⟨_, rfl⟩
        have i29a := inv_F hI29 (-1) 4000 rfl e29
        rw [← (show z29a = s29.2.2.1 32 4 from e29)] at n29
        rw [← (show u_32_0 = s29.2.2.1 32 0 from fr_F (e_32_0) hF29 rfl)] at n29
        show GG _ _ _ _ _ _ _ _ [] _ _ _
        refine g_aload_n 33 (gd rfl) rfl rfl ?_
        refine g_aload_n 34 (gd rfl) rfl rfl ?_
        refine g_getI 37 (gd rfl) rfl rfl rfl (fun z34 e34 => ?_)
        have q34 : u_32_0 = z34 := (fr_F (e_32_0) hF29 rfl).trans e34.symm
        subst q34
        refine g_putI 40 (gd rfl) rfl rfl rfl rfl ?_
        have hI37 := inv_sF (q := 49) (j := 8) hI29 rfl (in_w (-1) 4000 ro_32_0 rfl)
        refine g_aload_n 41 (gd rfl) rfl rfl ?_
        refine g_iload_n 42 (gd rfl) rfl rfl ?_
        refine g_putI 45 (gd rfl) rfl rfl rfl rfl ?_
        have hI42 := inv_sF (q := 49) (j := 9) hI37 rfl (in_w 0 31 h2 rfl)
        refine g_aload_n 46 (gd rfl) rfl rfl ?_
        refine g_iload_n 47 (gd rfl) rfl rfl ?_
        refine g_putI 50 (gd rfl) rfl rfl rfl rfl ?_
        have hI47 := inv_sF (q := 49) (j := 10) hI42 rfl (in_w 0 31 h3 rfl)
        refine g_aload_n 51 (gd rfl) rfl rfl ?_
        refine g_iconst 0 52 (gd rfl) rfl rfl ?_
        refine g_putI 55 (gd rfl) rfl rfl rfl rfl ?_
        have hI52 := inv_sF (q := 49) (j := 11) hI47 rfl (in_w 0 2001 (in_c 0 rfl) rfl)
        refine g_aload_n 56 (gd rfl) rfl rfl ?_
        refine g_aload_n 57 (gd rfl) rfl rfl ?_
        refine g_iload_n 58 (gd rfl) rfl rfl ?_
        refine g_iconst 1 59 (gd rfl) rfl rfl ?_
        refine g_iload_n 60 (gd rfl) rfl rfl ?_
        refine g_ishl 61 (gd rfl) rfl (fun z60 e60 => ?_)
        refine g_iconst 0 62 (gd rfl) rfl rfl ?_
        refine g_lconst 0 63 (gd rfl) rfl rfl ?_
        have p63 : TQD (sF (sF (sF (sF s29 49 8 u_32_0) 49 9 x2) 49 10 x3) 49 11 (Int32.ofInt 0)) := by exact tqd_fr q_0 (show Fr fm_207_49_32 s (sF (sF (sF (sF s29 49 8 u_32_0) 49 9 x2) 49 10 x3) 49 11 (Int32.ofInt 0)) from (fr_sF rfl (fr_sF rfl (fr_sF rfl (fr_sF rfl (fr_tr rfl fr_rf hF29)))))) rfl
        have p63a : ((((sF (sF (sF (sF s29 49 8 u_32_0) 49 9 x2) 49 10 x3) 49 11 (Int32.ofInt 0))).2.2.1 32 4).toInt = (((sF (sF (sF (sF s29 49 8 u_32_0) 49 9 x2) 49 10 x3) 49 11 (Int32.ofInt 0))).2.2.1 32 0).toInt) := by exact (by show (s29.2.2.1 32 4).toInt = (s29.2.2.1 32 0).toInt; rw [← (show z29a = s29.2.2.1 32 4 from e29), ← (show u_32_0 = s29.2.2.1 32 0 from fr_F (e_32_0) hF29 rfl)]; exact n29)
        have p63b : NDQ (gvD (sF (sF (sF (sF s29 49 8 u_32_0) 49 9 x2) 49 10 x3) 49 11 (Int32.ofInt 0))) := by rw [gvD_fr (show Fr fm_207_49_32 s (sF (sF (sF (sF s29 49 8 u_32_0) 49 9 x2) 49 10 x3) 49 11 (Int32.ofInt 0)) from (fr_sF rfl (fr_sF rfl (fr_sF rfl (fr_sF rfl (fr_tr rfl fr_rf hF29)))))) rfl]; exact q_1
        refine g_callv (X := _) (As := [.ref (A 32), .int x2, .int z60, .int (Int32.ofInt 0), .long (Int64.ofInt 0)]) (r := []) (b := A 49) (q := 49) 66 (gd rfl) rfl rfl rfl rfl rfl (ww_o rfl) (Nat.le_of_ble_eq_true rfl) (Nat.zero_le _) (Nat.zero_le _) (f_208_49_32 (by first | exact dq1 hd rfl | exact dq0 hd rfl | exact dq2 hd rfl | exact dq3 hd rfl | omega) hI52 (in_w 0 31 h2 rfl) (in_w 0 4 (in_c 0 rfl) rfl) p63 p63a p63b) (fun e u h => h) (fun v u h => ?_)
        obtain ⟨s63, hI63, hF63, rfl, rfl, p63c⟩ := h
        show GG _ _ _ _ _ _ _ _ [] _ _ _
        refine g_aload_n 67 (gd rfl) rfl rfl ?_
        refine g_getI 70 (gd rfl) rfl rfl rfl (fun z67 e67 => ?_)
        have i67 := inv_F hI63 0 2001 rfl e67
        refine g_sipush 2000 73 (gd rfl) rfl rfl ?_
        refine g_cmp_gt 76 80 (gd rfl) rfl rfl (fun c73 => ?_) (fun c73 => ?_)
        · skip
          have i73 := r_lt2 2001 2001 c73 (in_c 2000 rfl) i67 rfl
          have n80 : (SHG (gvD s) s63 ∧ (s63).2.2.1 49 9 = x2 ∧ (s63).2.2.1 49 10 = x3) := by exact ⟨shg_of (by rw [(((hF63.2.2.1 49 8 rfl).trans (show (sF (sF (sF (sF s29 49 8 u_32_0) 49 9 x2) 49 10 x3) 49 11 (Int32.ofInt 0)).2.2.1 49 8 = u_32_0 from rfl))), e_32_0]; rfl) (((hF63.2.2.1 49 9 rfl).trans (show (sF (sF (sF (sF s29 49 8 u_32_0) 49 9 x2) 49 10 x3) 49 11 (Int32.ofInt 0)).2.2.1 49 9 = x2 from rfl))) (((hF63.2.2.1 49 10 rfl).trans (show (sF (sF (sF (sF s29 49 8 u_32_0) 49 9 x2) 49 10 x3) 49 11 (Int32.ofInt 0)).2.2.1 49 10 = x3 from rfl))) h2 h3 e60 (by have h9 := p63c; rw [gvD_fr (show Fr fm_207_49_32 s (sF (sF (sF (sF s29 49 8 u_32_0) 49 9 x2) 49 10 x3) 49 11 (Int32.ofInt 0)) from fr_sF rfl (fr_sF rfl (fr_sF rfl (fr_sF rfl (fr_tr rfl fr_rf hF29))))) rfl] at h9; exact h9), (((hF63.2.2.1 49 9 rfl).trans (show (sF (sF (sF (sF s29 49 8 u_32_0) 49 9 x2) 49 10 x3) 49 11 (Int32.ofInt 0)).2.2.1 49 9 = x2 from rfl))), (((hF63.2.2.1 49 10 rfl).trans (show (sF (sF (sF (sF s29 49 8 u_32_0) 49 9 x2) 49 10 x3) 49 11 (Int32.ofInt 0)).2.2.1 49 10 = x3 from rfl)))⟩
          exact g_return (gd rfl) rfl (hP _ _ ⟨s63, hI63, (fr_tr rfl (fr_sF rfl (fr_sF rfl (fr_sF rfl (fr_sF rfl (fr_tr rfl fr_rf hF29))))) hF63), rfl, rfl, n80⟩)
        · skip
          have i73 := r_le1 0 2000 c73 i67 (in_c 2000 rfl) rfl
          refine g_aload_n 77 (gd rfl) rfl rfl ?_
          refine g_callv (X := _) (As := []) (r := []) (b := A 49) (q := 49) 80 (gd rfl) rfl rfl rfl rfl rfl (ww_o rfl) (Nat.le_of_ble_eq_true rfl) (Nat.zero_le _) (Nat.zero_le _) (k_210_49 (by first | exact dq1 hd rfl | exact dq0 hd rfl | exact dq2 hd rfl | exact dq3 hd rfl | omega) hI63 ) (fun e u h => h) (fun v u h => ?_)
          obtain ⟨s77, hI77, hF77, rfl, rfl⟩ := h
          show GG _ _ _ _ _ _ _ _ [] _ _ _
          have n80 : (SHG (gvD s) s77 ∧ (s77).2.2.1 49 9 = x2 ∧ (s77).2.2.1 49 10 = x3) := by exact ⟨shg_of (by rw [((hF77.2.2.1 49 8 rfl).trans ((hF63.2.2.1 49 8 rfl).trans (show (sF (sF (sF (sF s29 49 8 u_32_0) 49 9 x2) 49 10 x3) 49 11 (Int32.ofInt 0)).2.2.1 49 8 = u_32_0 from rfl))), e_32_0]; rfl) ((hF77.2.2.1 49 9 rfl).trans ((hF63.2.2.1 49 9 rfl).trans (show (sF (sF (sF (sF s29 49 8 u_32_0) 49 9 x2) 49 10 x3) 49 11 (Int32.ofInt 0)).2.2.1 49 9 = x2 from rfl))) ((hF77.2.2.1 49 10 rfl).trans ((hF63.2.2.1 49 10 rfl).trans (show (sF (sF (sF (sF s29 49 8 u_32_0) 49 9 x2) 49 10 x3) 49 11 (Int32.ofInt 0)).2.2.1 49 10 = x3 from rfl))) h2 h3 e60 (by rw [hF77.2.2.1 49 11 rfl]; have h9 := p63c; rw [gvD_fr (show Fr fm_207_49_32 s (sF (sF (sF (sF s29 49 8 u_32_0) 49 9 x2) 49 10 x3) 49 11 (Int32.ofInt 0)) from fr_sF rfl (fr_sF rfl (fr_sF rfl (fr_sF rfl (fr_tr rfl fr_rf hF29))))) rfl] at h9; exact h9), ((hF77.2.2.1 49 9 rfl).trans ((hF63.2.2.1 49 9 rfl).trans (show (sF (sF (sF (sF s29 49 8 u_32_0) 49 9 x2) 49 10 x3) 49 11 (Int32.ofInt 0)).2.2.1 49 9 = x2 from rfl))), ((hF77.2.2.1 49 10 rfl).trans ((hF63.2.2.1 49 10 rfl).trans (show (sF (sF (sF (sF s29 49 8 u_32_0) 49 9 x2) 49 10 x3) 49 11 (Int32.ofInt 0)).2.2.1 49 10 = x3 from rfl)))⟩
          exact g_return (gd rfl) rfl (hP _ _ ⟨s77, hI77, (fr_tr rfl (fr_tr rfl (fr_sF rfl (fr_sF rfl (fr_sF rfl (fr_sF rfl (fr_tr rfl fr_rf hF29))))) hF63) hF77), rfl, rfl, n80⟩)
      · skip
        have n27 : (SHG (gvD s) s ∧ (s).2.2.1 49 9 = x2 ∧ (s).2.2.1 49 10 = x3) := by exact ⟨⟨(by show (s.2.2.1 49 8).toInt = (s.2.2.1 32 0).toInt; rw [← e1, ← e_32_0]; exact c8), q_2 (by show (s.2.2.1 49 8).toInt = (s.2.2.1 32 0).toInt; rw [← e1, ← e_32_0]; exact c8)⟩, (show s.2.2.1 49 9 = x2 from i_eq.mpr (by rw [← e12]; exact c16)), (show s.2.2.1 49 10 = x3 from i_eq.mpr (by rw [← e20]; exact c24))⟩
        exact g_return (gd rfl) rfl (hP _ _ ⟨s, hI, fr_rf, rfl, rfl, n27⟩)

theorem oc_205_49_2 : (Int32.ofInt (-2)).toInt = (-2) ∧ (Int32.ofInt (-1)).toInt = (-1) ∧ (Int32.ofInt 0).toInt = 0 ∧ (Int32.ofInt 1).toInt = 1 ∧ (Int32.ofInt 2000).toInt = 2000 := ⟨rfl, rfl, rfl, rfl, rfl⟩
def fm_205_49_2 : FM := ([9, 10, 11, 12, 13, 14, 15], [55], [(2, 4), (49, 8), (49, 9), (49, 10), (49, 11)], [])
/-- GraphHouse$Ways.countShort -/
theorem f_205_49_2 {Z : AmZ} {A : Nat → Nat} {s : GS} {ex : va_W} {d : Nat} {X : AmX} {x2 : Int32} {x3 : Int32} (hd : 23 ≤ d) (hI : Inv s) (h2 : In x2 0 31) (h3 : In x3 0 31) (q_0 : TQ s) (q_1 : NDQ (gvC s)) (q_2 : SHB (gvC s) s) : GC Z d 205 [.ref (A 49), .ref (A 2), .int x2, .int x3] (WW Z A s ++ ex) 0 0 (fun v u => ∃ t : GS, Inv t ∧ Fr fm_205_49_2 s t ∧ ∃ z : Int32, v = some (.int z) ∧ u = WW Z A t ++ ex ∧ In z (-2) 2000 ∧ (SHV (gvC s) (x2).toNatClampNeg (x3).toNatClampNeg (z).toInt) ∧ (SHG (gvC s) t)) X := by
  intro post xp hP hX
  refine g_enter2 (k := 205) (N := 900) (by first | exact dq1 hd rfl | exact dq0 hd rfl | exact dq2 hd rfl | exact dq3 hd rfl | omega) rfl (Nat.le_of_ble_eq_true rfl) ?_
  refine g_aload_n 1 (gd rfl) rfl rfl ?_
  refine g_aload_n 2 (gd rfl) rfl rfl ?_
  refine g_iload_n 3 (gd rfl) rfl rfl ?_
  refine g_iload_n 4 (gd rfl) rfl rfl ?_
  have p4 : TQ s := by exact q_0
  have p4a : NDQ (gvC s) := by exact q_1
  have p4b : SHB (gvC s) s := by exact q_2
  refine g_callv (X := _) (As := [.ref (A 2), .int x2, .int x3]) (r := []) (b := A 49) (q := 49) 7 (gd rfl) rfl rfl rfl rfl rfl (ww_o rfl) (Nat.le_of_ble_eq_true rfl) (Nat.zero_le _) (Nat.zero_le _) (f_207_49_2 (by first | exact dq1 hd rfl | exact dq0 hd rfl | exact dq2 hd rfl | exact dq3 hd rfl | omega) hI (in_w 0 31 h2 rfl) (in_w 0 31 h3 rfl) p4 p4a p4b) (fun e u h => h) (fun v u h => ?_)
  obtain ⟨s4, hI4, hF4, rfl, rfl, p4c⟩ := h
  show GG _ _ _ _ _ _ _ _ [] _ _ _
  refine g_aload_n 8 (gd rfl) rfl rfl ?_
  refine g_getI 11 (gd rfl) rfl rfl rfl (fun z8 e8 => ?_)
  have i8 := inv_F hI4 0 2001 rfl e8
  refine g_sipush 2000 14 (gd rfl) rfl rfl ?_
  refine g_cmp_le 17 22 (gd rfl) rfl rfl (fun c14 => ?_) (fun c14 => ?_)
  · skip
    have i14 := r_le1 0 2000 c14 i8 (in_c 2000 rfl) rfl
    refine g_aload_n 23 (gd rfl) rfl rfl ?_
    refine g_getI 26 (gd rfl) rfl rfl rfl (fun z23 e23 => ?_)
    have q23 : z8 = z23 := (e8).trans e23.symm
    subst q23
    have n26 : SHV (gvC s) (x2).toNatClampNeg (x3).toNatClampNeg (z8).toInt := by first | (exact shv_of p4c.1 p4c.2.1 p4c.2.2 (by rw [← (show z8 = s4.2.2.1 49 11 from e8)]; exact Or.inr ⟨by (first | have a0 := oa3 h3 h2 i14 | ((first | have a0 := in_u h3 | (have a0 := h3; unfold In at a0)); (first | have a1 := in_u h2 | (have a1 := h2; unfold In at a1)); (first | have a2 := in_u i14 | (have a2 := i14; unfold In at a2)))); have oc := oc_205_49_2; omega, rfl⟩)) | (exact shv_of p4c.1 p4c.2.1 p4c.2.2 (by rw [← (show z8 = s4.2.2.1 49 11 from e8)]; exact Or.inl ⟨by (first | have a0 := oa3 h3 h2 i14 | ((first | have a0 := in_u h3 | (have a0 := h3; unfold In at a0)); (first | have a1 := in_u h2 | (have a1 := h2; unfold In at a1)); (first | have a2 := in_u i14 | (have a2 := i14; unfold In at a2)))); have oc := oc_205_49_2; omega, rfl⟩))
    have n26a : SHG (gvC s) s4 := by exact p4c.1
    exact g_ireturn (gd rfl) rfl rfl (hP _ _ ⟨s4, hI4, (fr_tr rfl fr_rf hF4), z8, rfl, rfl, in_w (-2) 2000 i14 rfl, n26, n26a⟩)
  · skip
    have i14 := r_lt2 2001 2001 c14 (in_c 2000 rfl) i8 rfl
    refine g_bipush (-2) 19 (gd rfl) rfl rfl ?_
    refine g_goto 26 (gd rfl) rfl ?_
    have n26 : SHV (gvC s) (x2).toNatClampNeg (x3).toNatClampNeg ((Int32.ofInt (-2))).toInt := by first | (exact shv_of p4c.1 p4c.2.1 p4c.2.2 (by rw [← (show z8 = s4.2.2.1 49 11 from e8)]; exact Or.inr ⟨by (first | have a0 := oa3 h3 h2 i14 | ((first | have a0 := in_u h3 | (have a0 := h3; unfold In at a0)); (first | have a1 := in_u h2 | (have a1 := h2; unfold In at a1)); (first | have a2 := in_u i14 | (have a2 := i14; unfold In at a2)))); have oc := oc_205_49_2; omega, rfl⟩)) | (exact shv_of p4c.1 p4c.2.1 p4c.2.2 (by rw [← (show z8 = s4.2.2.1 49 11 from e8)]; exact Or.inl ⟨by (first | have a0 := oa3 h3 h2 i14 | ((first | have a0 := in_u h3 | (have a0 := h3; unfold In at a0)); (first | have a1 := in_u h2 | (have a1 := h2; unfold In at a1)); (first | have a2 := in_u i14 | (have a2 := i14; unfold In at a2)))); have oc := oc_205_49_2; omega, rfl⟩))
    have n26a : SHG (gvC s) s4 := by exact p4c.1
    exact g_ireturn (gd rfl) rfl rfl (hP _ _ ⟨s4, hI4, (fr_tr rfl fr_rf hF4), (Int32.ofInt (-2)), rfl, rfl, in_w (-2) 2000 (in_c (-2) rfl) rfl, n26, n26a⟩)

theorem oc_205_49_32 : (Int32.ofInt (-2)).toInt = (-2) ∧ (Int32.ofInt (-1)).toInt = (-1) ∧ (Int32.ofInt 0).toInt = 0 ∧ (Int32.ofInt 1).toInt = 1 ∧ (Int32.ofInt 2000).toInt = 2000 := ⟨rfl, rfl, rfl, rfl, rfl⟩
def fm_205_49_32 : FM := ([39, 40, 41, 42, 43, 44, 45], [55], [(32, 4), (49, 8), (49, 9), (49, 10), (49, 11)], [])
/-- GraphHouse$Ways.countShort -/
theorem f_205_49_32 {Z : AmZ} {A : Nat → Nat} {s : GS} {ex : va_W} {d : Nat} {X : AmX} {x2 : Int32} {x3 : Int32} (hd : 23 ≤ d) (hI : Inv s) (h2 : In x2 0 31) (h3 : In x3 0 31) (q_0 : TQD s) (q_1 : NDQ (gvD s)) (q_2 : SHB (gvD s) s) : GC Z d 205 [.ref (A 49), .ref (A 32), .int x2, .int x3] (WW Z A s ++ ex) 0 0 (fun v u => ∃ t : GS, Inv t ∧ Fr fm_205_49_32 s t ∧ ∃ z : Int32, v = some (.int z) ∧ u = WW Z A t ++ ex ∧ In z (-2) 2000 ∧ (SHV (gvD s) (x2).toNatClampNeg (x3).toNatClampNeg (z).toInt) ∧ (SHG (gvD s) t)) X := by
  intro post xp hP hX
  refine g_enter2 (k := 205) (N := 900) (by first | exact dq1 hd rfl | exact dq0 hd rfl | exact dq2 hd rfl | exact dq3 hd rfl | omega) rfl (Nat.le_of_ble_eq_true rfl) ?_
  refine g_aload_n 1 (gd rfl) rfl rfl ?_
  refine g_aload_n 2 (gd rfl) rfl rfl ?_
  refine g_iload_n 3 (gd rfl) rfl rfl ?_
  refine g_iload_n 4 (gd rfl) rfl rfl ?_
  have p4 : TQD s := by exact q_0
  have p4a : NDQ (gvD s) := by exact q_1
  have p4b : SHB (gvD s) s := by exact q_2
  refine g_callv (X := _) (As := [.ref (A 32), .int x2, .int x3]) (r := []) (b := A 49) (q := 49) 7 (gd rfl) rfl rfl rfl rfl rfl (ww_o rfl) (Nat.le_of_ble_eq_true rfl) (Nat.zero_le _) (Nat.zero_le _) (f_207_49_32 (by first | exact dq1 hd rfl | exact dq0 hd rfl | exact dq2 hd rfl | exact dq3 hd rfl | omega) hI (in_w 0 31 h2 rfl) (in_w 0 31 h3 rfl) p4 p4a p4b) (fun e u h => h) (fun v u h => ?_)
  obtain ⟨s4, hI4, hF4, rfl, rfl, p4c⟩ := h
  show GG _ _ _ _ _ _ _ _ [] _ _ _
  refine g_aload_n 8 (gd rfl) rfl rfl ?_
  refine g_getI 11 (gd rfl) rfl rfl rfl (fun z8 e8 => ?_)
  have i8 := inv_F hI4 0 2001 rfl e8
  refine g_sipush 2000 14 (gd rfl) rfl rfl ?_
  refine g_cmp_le 17 22 (gd rfl) rfl rfl (fun c14 => ?_) (fun c14 => ?_)
  · skip
    have i14 := r_le1 0 2000 c14 i8 (in_c 2000 rfl) rfl
    refine g_aload_n 23 (gd rfl) rfl rfl ?_
    refine g_getI 26 (gd rfl) rfl rfl rfl (fun z23 e23 => ?_)
    have q23 : z8 = z23 := (e8).trans e23.symm
    subst q23
    have n26 : SHV (gvD s) (x2).toNatClampNeg (x3).toNatClampNeg (z8).toInt := by first | (exact shv_of p4c.1 p4c.2.1 p4c.2.2 (by rw [← (show z8 = s4.2.2.1 49 11 from e8)]; exact Or.inr ⟨by (first | have a0 := oa3 h3 h2 i14 | ((first | have a0 := in_u h3 | (have a0 := h3; unfold In at a0)); (first | have a1 := in_u h2 | (have a1 := h2; unfold In at a1)); (first | have a2 := in_u i14 | (have a2 := i14; unfold In at a2)))); have oc := oc_205_49_32; omega, rfl⟩)) | (exact shv_of p4c.1 p4c.2.1 p4c.2.2 (by rw [← (show z8 = s4.2.2.1 49 11 from e8)]; exact Or.inl ⟨by (first | have a0 := oa3 h3 h2 i14 | ((first | have a0 := in_u h3 | (have a0 := h3; unfold In at a0)); (first | have a1 := in_u h2 | (have a1 := h2; unfold In at a1)); (first | have a2 := in_u i14 | (have a2 := i14; unfold In at a2)))); have oc := oc_205_49_32; omega, rfl⟩))
    have n26a : SHG (gvD s) s4 := by exact p4c.1
    exact g_ireturn (gd rfl) rfl rfl (hP _ _ ⟨s4, hI4, (fr_tr rfl fr_rf hF4), z8, rfl, rfl, in_w (-2) 2000 i14 rfl, n26, n26a⟩)
  · skip
    have i14 := r_lt2 2001 2001 c14 (in_c 2000 rfl) i8 rfl
    refine g_bipush (-2) 19 (gd rfl) rfl rfl ?_
    refine g_goto 26 (gd rfl) rfl ?_
    have n26 : SHV (gvD s) (x2).toNatClampNeg (x3).toNatClampNeg ((Int32.ofInt (-2))).toInt := by first | (exact shv_of p4c.1 p4c.2.1 p4c.2.2 (by rw [← (show z8 = s4.2.2.1 49 11 from e8)]; exact Or.inr ⟨by (first | have a0 := oa3 h3 h2 i14 | ((first | have a0 := in_u h3 | (have a0 := h3; unfold In at a0)); (first | have a1 := in_u h2 | (have a1 := h2; unfold In at a1)); (first | have a2 := in_u i14 | (have a2 := i14; unfold In at a2)))); have oc := oc_205_49_32; omega, rfl⟩)) | (exact shv_of p4c.1 p4c.2.1 p4c.2.2 (by rw [← (show z8 = s4.2.2.1 49 11 from e8)]; exact Or.inl ⟨by (first | have a0 := oa3 h3 h2 i14 | ((first | have a0 := in_u h3 | (have a0 := h3; unfold In at a0)); (first | have a1 := in_u h2 | (have a1 := h2; unfold In at a1)); (first | have a2 := in_u i14 | (have a2 := i14; unfold In at a2)))); have oc := oc_205_49_32; omega, rfl⟩))
    have n26a : SHG (gvD s) s4 := by exact p4c.1
    exact g_ireturn (gd rfl) rfl rfl (hP _ _ ⟨s4, hI4, (fr_tr rfl fr_rf hF4), (Int32.ofInt (-2)), rfl, rfl, in_w (-2) 2000 (in_c (-2) rfl) rfl, n26, n26a⟩)

/-- GraphHouse$Ways.arcOfShort -/
theorem f_206_49_2 {Z : AmZ} {A : Nat → Nat} {s : GS} {ex : va_W} {d : Nat} {X : AmX} {x2 : Int32} {x3 : Int32} {x4 : Int32} {x5 : Int32} (hd : 23 ≤ d) (hI : Inv s) (h2 : In x2 0 31) (h3 : In x3 0 31) (h4 : In x4 0 2147483647) (h5 : In x5 0 2147483647) (q_0 : TQ s) (q_1 : NDQ (gvC s)) (q_2 : SHB (gvC s) s) : GC Z d 206 [.ref (A 49), .ref (A 2), .int x2, .int x3, .int x4, .int x5] (WW Z A s ++ ex) 0 0 (fun v u => ∃ t : GS, Inv t ∧ Fr fm_206_49_2 s t ∧ ∃ z : Int32, v = some (.int z) ∧ u = WW Z A t ++ ex ∧ In z (-2147483648) 2147483647 ∧ (SHG (gvC s) t)) X := by
  intro post xp hP hX
  refine g_enter2 (k := 206) (N := 900) (by first | exact dq1 hd rfl | exact dq0 hd rfl | exact dq2 hd rfl | exact dq3 hd rfl | omega) rfl (Nat.le_of_ble_eq_true rfl) ?_
  refine g_aload_n 1 (gd rfl) rfl rfl ?_
  refine g_aload_n 2 (gd rfl) rfl rfl ?_
  refine g_iload_n 3 (gd rfl) rfl rfl ?_
  refine g_iload_n 4 (gd rfl) rfl rfl ?_
  have p4 : TQ s := by exact q_0
  have p4a : NDQ (gvC s) := by exact q_1
  have p4b : SHB (gvC s) s := by exact q_2
  refine g_callv (X := _) (As := [.ref (A 2), .int x2, .int x3]) (r := []) (b := A 49) (q := 49) 7 (gd rfl) rfl rfl rfl rfl rfl (ww_o rfl) (Nat.le_of_ble_eq_true rfl) (Nat.zero_le _) (Nat.zero_le _) (f_207_49_2 (by first | exact dq1 hd rfl | exact dq0 hd rfl | exact dq2 hd rfl | exact dq3 hd rfl | omega) hI (in_w 0 31 h2 rfl) (in_w 0 31 h3 rfl) p4 p4a p4b) (fun e u h => h) (fun v u h => ?_)
  obtain ⟨s4, hI4, hF4, rfl, rfl, p4c⟩ := h
  show GG _ _ _ _ _ _ _ _ [] _ _ _
  refine g_aload_n 8 (gd rfl) rfl rfl ?_
  refine g_getI 11 (gd rfl) rfl rfl rfl (fun z8 e8 => ?_)
  have i8 := inv_F hI4 0 2001 rfl e8
  refine g_sipush 2000 14 (gd rfl) rfl rfl ?_
  refine g_cmp_gt 17 26 (gd rfl) rfl rfl (fun c14 => ?_) (fun c14 => ?_)
  · skip
    have i14 := r_lt2 2001 2001 c14 (in_c 2000 rfl) i8 rfl
    refine g_iconst (-1) 27 (gd rfl) rfl rfl ?_
    have n27 : SHG (gvC s) s4 := by exact p4c.1
    exact g_ireturn (gd rfl) rfl rfl (hP _ _ ⟨s4, hI4, (fr_tr rfl fr_rf hF4), (Int32.ofInt (-1)), rfl, rfl, in_w (-2147483648) 2147483647 (in_c (-1) rfl) rfl, n27⟩)
  · skip
    have i14 := r_le1 0 2000 c14 i8 (in_c 2000 rfl) rfl
    refine g_iload 19 (gd rfl) rfl rfl ?_
    refine g_aload_n 20 (gd rfl) rfl rfl ?_
    refine g_getI 23 (gd rfl) rfl rfl rfl (fun z20 e20 => ?_)
    have q20 : z8 = z20 := (e8).trans e20.symm
    subst q20
    refine g_cmp_lt 26 28 (gd rfl) rfl rfl (fun c23 => ?_) (fun c23 => ?_)
    · skip
      have i23 := r_lt1 0 1999 c23 h4 i14 rfl
      have i23a := r_lt2 1 2000 c23 h4 i14 rfl
      refine g_aload_n 29 (gd rfl) rfl rfl ?_
      refine g_getA (q2 := 55) 32 (gd rfl) rfl rfl rfl rfl ?_
      refine g_iload 34 (gd rfl) rfl rfl ?_
      refine g_laload 35 (gd rfl) rfl (n := 2001) rfl (in_ix i23 rfl) (fun z34 e34 => ?_)
      refine g_lstore 37 (gd rfl) rfl (Nat.le_of_ble_eq_true rfl) ?_
      refine g_iload 39 (gd rfl) rfl rfl ?_
      refine g_lload 41 (gd rfl) rfl rfl ?_
      refine g_bipush 32 43 (gd rfl) rfl rfl ?_
      refine g_lshr 44 (gd rfl) rfl (fun z43 e43 => ?_)
      refine g_ldc2_w 7 47 (gd rfl) rfl rfl ?_
      refine g_land 48 (gd rfl) rfl (fun z47 e47 => ?_)
      have i47 := inl_and2 e47 (l_c 7 rfl) rfl
      refine g_l2i 49 (gd rfl) rfl (fun z48 e48 => ?_)
      refine g_cmp_lt 52 54 (gd rfl) rfl rfl (fun c49 => ?_) (fun c49 => ?_)
      · skip
        have i49 := r_lt1 0 2147483646 c49 h5 (i_rng z48) rfl
        have i49a := r_lt2 1 2147483647 c49 h5 (i_rng z48) rfl
        refine g_lload 56 (gd rfl) rfl rfl ?_
        refine g_bipush 24 58 (gd rfl) rfl rfl ?_
        refine g_bipush 8 60 (gd rfl) rfl rfl ?_
        refine g_iload 62 (gd rfl) rfl rfl ?_
        refine g_imul 63 (gd rfl) rfl (fun z62 e62 => ?_)
        refine g_isub 64 (gd rfl) rfl (fun z63 e63 => ?_)
        refine g_lshr 65 (gd rfl) rfl (fun z64 e64 => ?_)
        refine g_ldc2_w 255 68 (gd rfl) rfl rfl ?_
        refine g_land 69 (gd rfl) rfl (fun z68 e68 => ?_)
        have i68 := inl_and2 e68 (l_c 255 rfl) rfl
        refine g_l2i 70 (gd rfl) rfl (fun z69 e69 => ?_)
        have n70 : SHG (gvC s) s4 := by exact p4c.1
        exact g_ireturn (gd rfl) rfl rfl (hP _ _ ⟨s4, hI4, (fr_tr rfl fr_rf hF4), z69, rfl, rfl, in_w (-2147483648) 2147483647 (i_rng z69) rfl, n70⟩)
      · skip
        refine g_iconst (-1) 53 (gd rfl) rfl rfl ?_
        have n53 : SHG (gvC s) s4 := by exact p4c.1
        exact g_ireturn (gd rfl) rfl rfl (hP _ _ ⟨s4, hI4, (fr_tr rfl fr_rf hF4), (Int32.ofInt (-1)), rfl, rfl, in_w (-2147483648) 2147483647 (in_c (-1) rfl) rfl, n53⟩)
    · skip
      refine g_iconst (-1) 27 (gd rfl) rfl rfl ?_
      have n27 : SHG (gvC s) s4 := by exact p4c.1
      exact g_ireturn (gd rfl) rfl rfl (hP _ _ ⟨s4, hI4, (fr_tr rfl fr_rf hF4), (Int32.ofInt (-1)), rfl, rfl, in_w (-2147483648) 2147483647 (in_c (-1) rfl) rfl, n27⟩)

/-- GraphHouse$Ways.arcOfShort -/
theorem f_206_49_32 {Z : AmZ} {A : Nat → Nat} {s : GS} {ex : va_W} {d : Nat} {X : AmX} {x2 : Int32} {x3 : Int32} {x4 : Int32} {x5 : Int32} (hd : 23 ≤ d) (hI : Inv s) (h2 : In x2 0 31) (h3 : In x3 0 31) (h4 : In x4 0 2147483647) (h5 : In x5 0 2147483647) (q_0 : TQD s) (q_1 : NDQ (gvD s)) (q_2 : SHB (gvD s) s) : GC Z d 206 [.ref (A 49), .ref (A 32), .int x2, .int x3, .int x4, .int x5] (WW Z A s ++ ex) 0 0 (fun v u => ∃ t : GS, Inv t ∧ Fr fm_206_49_32 s t ∧ ∃ z : Int32, v = some (.int z) ∧ u = WW Z A t ++ ex ∧ In z (-2147483648) 2147483647 ∧ (SHG (gvD s) t)) X := by
  intro post xp hP hX
  refine g_enter2 (k := 206) (N := 900) (by first | exact dq1 hd rfl | exact dq0 hd rfl | exact dq2 hd rfl | exact dq3 hd rfl | omega) rfl (Nat.le_of_ble_eq_true rfl) ?_
  refine g_aload_n 1 (gd rfl) rfl rfl ?_
  refine g_aload_n 2 (gd rfl) rfl rfl ?_
  refine g_iload_n 3 (gd rfl) rfl rfl ?_
  refine g_iload_n 4 (gd rfl) rfl rfl ?_
  have p4 : TQD s := by exact q_0
  have p4a : NDQ (gvD s) := by exact q_1
  have p4b : SHB (gvD s) s := by exact q_2
  refine g_callv (X := _) (As := [.ref (A 32), .int x2, .int x3]) (r := []) (b := A 49) (q := 49) 7 (gd rfl) rfl rfl rfl rfl rfl (ww_o rfl) (Nat.le_of_ble_eq_true rfl) (Nat.zero_le _) (Nat.zero_le _) (f_207_49_32 (by first | exact dq1 hd rfl | exact dq0 hd rfl | exact dq2 hd rfl | exact dq3 hd rfl | omega) hI (in_w 0 31 h2 rfl) (in_w 0 31 h3 rfl) p4 p4a p4b) (fun e u h => h) (fun v u h => ?_)
  obtain ⟨s4, hI4, hF4, rfl, rfl, p4c⟩ := h
  show GG _ _ _ _ _ _ _ _ [] _ _ _
  refine g_aload_n 8 (gd rfl) rfl rfl ?_
  refine g_getI 11 (gd rfl) rfl rfl rfl (fun z8 e8 => ?_)
  have i8 := inv_F hI4 0 2001 rfl e8
  refine g_sipush 2000 14 (gd rfl) rfl rfl ?_
  refine g_cmp_gt 17 26 (gd rfl) rfl rfl (fun c14 => ?_) (fun c14 => ?_)
  · skip
    have i14 := r_lt2 2001 2001 c14 (in_c 2000 rfl) i8 rfl
    refine g_iconst (-1) 27 (gd rfl) rfl rfl ?_
    have n27 : SHG (gvD s) s4 := by exact p4c.1
    exact g_ireturn (gd rfl) rfl rfl (hP _ _ ⟨s4, hI4, (fr_tr rfl fr_rf hF4), (Int32.ofInt (-1)), rfl, rfl, in_w (-2147483648) 2147483647 (in_c (-1) rfl) rfl, n27⟩)
  · skip
    have i14 := r_le1 0 2000 c14 i8 (in_c 2000 rfl) rfl
    refine g_iload 19 (gd rfl) rfl rfl ?_
    refine g_aload_n 20 (gd rfl) rfl rfl ?_
    refine g_getI 23 (gd rfl) rfl rfl rfl (fun z20 e20 => ?_)
    have q20 : z8 = z20 := (e8).trans e20.symm
    subst q20
    refine g_cmp_lt 26 28 (gd rfl) rfl rfl (fun c23 => ?_) (fun c23 => ?_)
    · skip
      have i23 := r_lt1 0 1999 c23 h4 i14 rfl
      have i23a := r_lt2 1 2000 c23 h4 i14 rfl
      refine g_aload_n 29 (gd rfl) rfl rfl ?_
      refine g_getA (q2 := 55) 32 (gd rfl) rfl rfl rfl rfl ?_
      refine g_iload 34 (gd rfl) rfl rfl ?_
      refine g_laload 35 (gd rfl) rfl (n := 2001) rfl (in_ix i23 rfl) (fun z34 e34 => ?_)
      refine g_lstore 37 (gd rfl) rfl (Nat.le_of_ble_eq_true rfl) ?_
      refine g_iload 39 (gd rfl) rfl rfl ?_
      refine g_lload 41 (gd rfl) rfl rfl ?_
      refine g_bipush 32 43 (gd rfl) rfl rfl ?_
      refine g_lshr 44 (gd rfl) rfl (fun z43 e43 => ?_)
      refine g_ldc2_w 7 47 (gd rfl) rfl rfl ?_
      refine g_land 48 (gd rfl) rfl (fun z47 e47 => ?_)
      have i47 := inl_and2 e47 (l_c 7 rfl) rfl
      refine g_l2i 49 (gd rfl) rfl (fun z48 e48 => ?_)
      refine g_cmp_lt 52 54 (gd rfl) rfl rfl (fun c49 => ?_) (fun c49 => ?_)
      · skip
        have i49 := r_lt1 0 2147483646 c49 h5 (i_rng z48) rfl
        have i49a := r_lt2 1 2147483647 c49 h5 (i_rng z48) rfl
        refine g_lload 56 (gd rfl) rfl rfl ?_
        refine g_bipush 24 58 (gd rfl) rfl rfl ?_
        refine g_bipush 8 60 (gd rfl) rfl rfl ?_
        refine g_iload 62 (gd rfl) rfl rfl ?_
        refine g_imul 63 (gd rfl) rfl (fun z62 e62 => ?_)
        refine g_isub 64 (gd rfl) rfl (fun z63 e63 => ?_)
        refine g_lshr 65 (gd rfl) rfl (fun z64 e64 => ?_)
        refine g_ldc2_w 255 68 (gd rfl) rfl rfl ?_
        refine g_land 69 (gd rfl) rfl (fun z68 e68 => ?_)
        have i68 := inl_and2 e68 (l_c 255 rfl) rfl
        refine g_l2i 70 (gd rfl) rfl (fun z69 e69 => ?_)
        have n70 : SHG (gvD s) s4 := by exact p4c.1
        exact g_ireturn (gd rfl) rfl rfl (hP _ _ ⟨s4, hI4, (fr_tr rfl fr_rf hF4), z69, rfl, rfl, in_w (-2147483648) 2147483647 (i_rng z69) rfl, n70⟩)
      · skip
        refine g_iconst (-1) 53 (gd rfl) rfl rfl ?_
        have n53 : SHG (gvD s) s4 := by exact p4c.1
        exact g_ireturn (gd rfl) rfl rfl (hP _ _ ⟨s4, hI4, (fr_tr rfl fr_rf hF4), (Int32.ofInt (-1)), rfl, rfl, in_w (-2147483648) 2147483647 (in_c (-1) rfl) rfl, n53⟩)
    · skip
      refine g_iconst (-1) 27 (gd rfl) rfl rfl ?_
      have n27 : SHG (gvD s) s4 := by exact p4c.1
      exact g_ireturn (gd rfl) rfl rfl (hP _ _ ⟨s4, hI4, (fr_tr rfl fr_rf hF4), (Int32.ofInt (-1)), rfl, rfl, in_w (-2147483648) 2147483647 (in_c (-1) rfl) rfl, n27⟩)

theorem oc_232_0 : (Int32.ofInt (-1)).toInt = (-1) ∧ (Int32.ofInt 0).toInt = 0 ∧ (Int32.ofInt 1).toInt = 1 := ⟨rfl, rfl, rfl⟩
/-- GraphHouse.shorts -/
theorem f_232_0 {Z : AmZ} {A : Nat → Nat} {s : GS} {ex : va_W} {d : Nat} {x1 : Int32} {x2 : Int32} (hd : 24 ≤ d) (hI : Inv s) (q_0 : TQ s) (q_1 : TQD s) (q_2 : NDC s) (q_3 : SHBC s) : GC Z d 232 [.ref (A 0), .int x1, .int x2] (WW Z A s ++ ex) 3 18 (fun v u => ∃ t : GS, Inv t ∧ Fr fm_232_0 s t ∧ ∃ z : Int32, v = some (.int z) ∧ u = WW Z A t ++ ex ∧ In z (-2) 2000 ∧ ((TWO (shC s).2.2.2.2.2.2.1 x1 x2) ∧ SHV (shC s) x1.toNatClampNeg x2.toNatClampNeg (z).toInt) ∧ (SHG (shC s) t)) (gEx Z A ex ([], [], [], []) s (¬ (TWO (shC s).2.2.2.2.2.2.1 x1 x2)) (False)) := by
  intro post xp hP hX
  obtain ⟨u_0_2, e_0_2⟩ : ∃ w, w = s.2.2.1 0 2 := ⟨_, rfl⟩
  have ro_0_2 := inv_F hI (-1) 4000 rfl e_0_2
  obtain ⟨u_2_1, e_2_1⟩ : ∃ w, w = s.2.2.1 2 1 := ⟨_, rfl⟩
  have ro_2_1 := inv_F hI 0 32 rfl e_2_1
  obtain ⟨u_32_1, e_32_1⟩ : ∃ w, w = s.2.2.1 32 1 := ⟨_, rfl⟩
  have ro_32_1 := inv_F hI 0 32 rfl e_32_1
  refine g_enter2 (k := 232) (N := 900) (by first | exact dq1 hd rfl | exact dq0 hd rfl | exact dq2 hd rfl | exact dq3 hd rfl | omega) rfl (Nat.le_of_ble_eq_true rfl) ?_
  refine g_aload_n 1 (gd rfl) rfl rfl ?_
  refine g_callv (X := _) (As := []) (r := []) (b := A 0) (q := 0) 4 (gd rfl) rfl rfl rfl rfl rfl (ww_o rfl) (Nat.le_of_ble_eq_true rfl) (mc := 0) (ms := 0) (Nat.zero_le _) (Nat.zero_le _) (P := fun v u => _) ?_ (fun e u h => h) (fun v u h => h)
  intro po1 xx1 hp1 hx1
  refine g_enter2 (k := 259) (N := 300) (by first | exact dq1 hd rfl | exact dq0 hd rfl | exact dq2 hd rfl | exact dq3 hd rfl | omega) rfl (Nat.le_of_ble_eq_true rfl) ?_
  refine g_aload_n 1 (gd rfl) rfl rfl ?_
  refine g_getI 4 (gd rfl) rfl rfl rfl (fun z1x1 e1x1 => ?_)
  have q1x1 : u_0_2 = z1x1 := (e_0_2).trans e1x1.symm
  subst q1x1
  refine g_iconst (-1) 5 (gd rfl) rfl rfl ?_
  refine g_cmp_ne 8 18 (gd rfl) rfl rfl (fun c1x5 => ?_) (fun c1x5 => ?_)
  · skip
    have i1x5 := r_ne1 0 4000 c1x5 ro_0_2 (in_c (-1) rfl) rfl
    refine g_aload_n 19 (gd rfl) rfl rfl ?_
    refine g_getA (q2 := 32) 22 (gd rfl) rfl rfl rfl rfl ?_
    refine g_areturn (gd rfl) rfl (hp1 _ _ ?_)
    show GG _ _ _ _ _ _ _ _ [.ref (A 32)] _ _ _
    refine g_astore_n 5 (gd rfl) rfl (Nat.le_of_ble_eq_true rfl) ?_
    refine g_aload_n 6 (gd rfl) rfl rfl ?_
    refine g_iload_n 7 (gd rfl) rfl rfl ?_
    refine g_iload_n 8 (gd rfl) rfl rfl ?_
    refine g_callv (X := _) (As := [.int x1, .int x2]) (r := []) (b := A 32) (q := 32) 11 (gd rfl) rfl rfl rfl rfl rfl (ww_o rfl) (Nat.le_of_ble_eq_true rfl) (mc := 0) (ms := 0) (Nat.zero_le _) (Nat.zero_le _) (P := fun v u => _) ?_ (fun e u h => h) (fun v u h => h)
    intro po8 xx8 hp8 hx8
    refine g_enter2 (k := 95) (N := 300) (by first | exact dq1 hd rfl | exact dq0 hd rfl | exact dq2 hd rfl | exact dq3 hd rfl | omega) rfl (Nat.le_of_ble_eq_true rfl) ?_
    refine g_aload_n 1 (gd rfl) rfl rfl ?_
    refine g_iload_n 2 (gd rfl) rfl rfl ?_
    refine g_callv (X := _) (As := [.int x1]) (r := []) (b := A 32) (q := 32) 5 (gd rfl) rfl rfl rfl rfl rfl (ww_o rfl) (Nat.le_of_ble_eq_true rfl) (mc := 0) (ms := 0) (Nat.zero_le _) (Nat.zero_le _) (P := fun v u => _) ?_ (fun e u h => h) (fun v u h => h)
    intro po8x2 xx8x2 hp8x2 hx8x2
    refine g_enter2 (k := 94) (N := 300) (by first | exact dq1 hd rfl | exact dq0 hd rfl | exact dq2 hd rfl | exact dq3 hd rfl | omega) rfl (Nat.le_of_ble_eq_true rfl) ?_
    refine g_iload_n 1 (gd rfl) rfl rfl ?_
    refine g_if_lt 4 16 (gd rfl) rfl rfl (fun c8x2x1 => ?_) (fun c8x2x1 => ?_)
    · skip
      have i8x2x1 := z_lt (-2147483648) (-1) c8x2x1 (i_rng x1) rfl
      refine g_iconst 0 17 (gd rfl) rfl rfl ?_
      refine g_ireturn (gd rfl) rfl (nb01 (in_w 0 1 (in_c 0 rfl) rfl)) (hp8x2 _ _ ?_)
      show GG _ _ _ _ _ _ _ _ [.int (Int32.ofInt 0)] _ _ _
      refine g_if_eq 8 25 (gd rfl) rfl rfl (fun c8x5 => ?_) (fun c8x5 => ?_)
      · skip
        refine g_iconst 0 26 (gd rfl) rfl rfl ?_
        refine g_ireturn (gd rfl) rfl (nb01 (in_w 0 1 (in_c 0 rfl) rfl)) (hp8 _ _ ?_)
        show GG _ _ _ _ _ _ _ _ [.int (Int32.ofInt 0)] _ _ _
        refine g_thr (E := am_IA) (y := yX11_allow) 14 (gd rfl) rfl rfl (Or.inl ⟨rfl, rfl, rfl⟩) (by first | exact dq1 hd rfl | exact dq0 hd rfl | exact dq2 hd rfl | exact dq3 hd rfl | omega) (Nat.le_of_ble_eq_true rfl) (Nat.le_of_ble_eq_true rfl) (Nat.le_of_ble_eq_true rfl) (fun c11 => ?_) (fun c11 => ?_)
        · skip
          exact zn_ne c11 (in_c 0 rfl) rfl
        · skip
          have n11 : ¬ (TWO (shC s).2.2.2.2.2.2.1 x1 x2) := by first | (rw [shC_n (by rw [← e1x1]; exact c1x5)]; show ¬ TWO (s.2.2.1 2 1).toInt x1 x2; rw [← e_2_1]; (first | have a0 := oa4 ro_32_1 ro_2_1 i1x5 i8x2x1 | ((first | have a0 := in_u ro_32_1 | (have a0 := ro_32_1; unfold In at a0)); (first | have a1 := in_u ro_2_1 | (have a1 := ro_2_1; unfold In at a1)); (first | have a2 := in_u i1x5 | (have a2 := i1x5; unfold In at a2)); (first | have a3 := in_u i8x2x1 | (have a3 := i8x2x1; unfold In at a3)))); have oc := oc_232_0; omega) | (rw [shC_d (by rw [← e1x1]; exact c1x5)]; show ¬ TWO (s.2.2.1 32 1).toInt x1 x2; rw [← e_32_1]; (first | have a0 := oa4 ro_32_1 ro_2_1 i1x5 i8x2x1 | ((first | have a0 := in_u ro_32_1 | (have a0 := ro_32_1; unfold In at a0)); (first | have a1 := in_u ro_2_1 | (have a1 := ro_2_1; unfold In at a1)); (first | have a2 := in_u i1x5 | (have a2 := i1x5; unfold In at a2)); (first | have a3 := in_u i8x2x1 | (have a3 := i8x2x1; unfold In at a3)))); have oc := oc_232_0; omega)
          exact (hX _ _ ⟨Or.inl ⟨rfl, n11⟩, s, hI, fr_rf, rfl⟩)
      · skip
        exact zn_ne c8x5 (in_c 0 rfl) rfl
    · skip
      have i8x2x1 := z_ge 0 2147483647 c8x2x1 (i_rng x1) rfl
      refine g_iload_n 5 (gd rfl) rfl rfl ?_
      refine g_aload_n 6 (gd rfl) rfl rfl ?_
      refine g_getI 9 (gd rfl) rfl rfl rfl (fun z8x2x6 e8x2x6 => ?_)
      have q8x2x6 : u_32_1 = z8x2x6 := (e_32_1).trans e8x2x6.symm
      subst q8x2x6
      refine g_cmp_ge 12 16 (gd rfl) rfl rfl (fun c8x2x9 => ?_) (fun c8x2x9 => ?_)
      · skip
        refine g_iconst 0 17 (gd rfl) rfl rfl ?_
        refine g_ireturn (gd rfl) rfl (nb01 (in_w 0 1 (in_c 0 rfl) rfl)) (hp8x2 _ _ ?_)
        show GG _ _ _ _ _ _ _ _ [.int (Int32.ofInt 0)] _ _ _
        refine g_if_eq 8 25 (gd rfl) rfl rfl (fun c8x5 => ?_) (fun c8x5 => ?_)
        · skip
          refine g_iconst 0 26 (gd rfl) rfl rfl ?_
          refine g_ireturn (gd rfl) rfl (nb01 (in_w 0 1 (in_c 0 rfl) rfl)) (hp8 _ _ ?_)
          show GG _ _ _ _ _ _ _ _ [.int (Int32.ofInt 0)] _ _ _
          refine g_thr (E := am_IA) (y := yX11_allow) 14 (gd rfl) rfl rfl (Or.inl ⟨rfl, rfl, rfl⟩) (by first | exact dq1 hd rfl | exact dq0 hd rfl | exact dq2 hd rfl | exact dq3 hd rfl | omega) (Nat.le_of_ble_eq_true rfl) (Nat.le_of_ble_eq_true rfl) (Nat.le_of_ble_eq_true rfl) (fun c11 => ?_) (fun c11 => ?_)
          · skip
            exact zn_ne c11 (in_c 0 rfl) rfl
          · skip
            have n11 : ¬ (TWO (shC s).2.2.2.2.2.2.1 x1 x2) := by first | (rw [shC_n (by rw [← e1x1]; exact c1x5)]; show ¬ TWO (s.2.2.1 2 1).toInt x1 x2; rw [← e_2_1]; (first | have a0 := oa4 ro_32_1 ro_2_1 i1x5 i8x2x1 | ((first | have a0 := in_u ro_32_1 | (have a0 := ro_32_1; unfold In at a0)); (first | have a1 := in_u ro_2_1 | (have a1 := ro_2_1; unfold In at a1)); (first | have a2 := in_u i1x5 | (have a2 := i1x5; unfold In at a2)); (first | have a3 := in_u i8x2x1 | (have a3 := i8x2x1; unfold In at a3)))); have oc := oc_232_0; omega) | (rw [shC_d (by rw [← e1x1]; exact c1x5)]; show ¬ TWO (s.2.2.1 32 1).toInt x1 x2; rw [← e_32_1]; (first | have a0 := oa4 ro_32_1 ro_2_1 i1x5 i8x2x1 | ((first | have a0 := in_u ro_32_1 | (have a0 := ro_32_1; unfold In at a0)); (first | have a1 := in_u ro_2_1 | (have a1 := ro_2_1; unfold In at a1)); (first | have a2 := in_u i1x5 | (have a2 := i1x5; unfold In at a2)); (first | have a3 := in_u i8x2x1 | (have a3 := i8x2x1; unfold In at a3)))); have oc := oc_232_0; omega)
            exact (hX _ _ ⟨Or.inl ⟨rfl, n11⟩, s, hI, fr_rf, rfl⟩)
        · skip
          exact zn_ne c8x5 (in_c 0 rfl) rfl
      · skip
        have i8x2x9 := r_lt1 0 31 c8x2x9 i8x2x1 ro_32_1 rfl
        have i8x2x9a := r_lt2 1 32 c8x2x9 i8x2x1 ro_32_1 rfl
        refine g_iconst 1 13 (gd rfl) rfl rfl ?_
        refine g_goto 17 (gd rfl) rfl ?_
        refine g_ireturn (gd rfl) rfl (nb01 (in_w 0 1 (in_c 1 rfl) rfl)) (hp8x2 _ _ ?_)
        show GG _ _ _ _ _ _ _ _ [.int (Int32.ofInt 1)] _ _ _
        refine g_if_eq 8 25 (gd rfl) rfl rfl (fun c8x5 => ?_) (fun c8x5 => ?_)
        · skip
          exact zn_eq c8x5 (in_c 1 rfl) rfl
        · skip
          refine g_aload_n 9 (gd rfl) rfl rfl ?_
          refine g_iload_n 10 (gd rfl) rfl rfl ?_
          refine g_callv (X := _) (As := [.int x2]) (r := []) (b := A 32) (q := 32) 13 (gd rfl) rfl rfl rfl rfl rfl (ww_o rfl) (Nat.le_of_ble_eq_true rfl) (mc := 0) (ms := 0) (Nat.zero_le _) (Nat.zero_le _) (P := fun v u => _) ?_ (fun e u h => h) (fun v u h => h)
          intro po8x10 xx8x10 hp8x10 hx8x10
          refine g_enter2 (k := 94) (N := 300) (by first | exact dq1 hd rfl | exact dq0 hd rfl | exact dq2 hd rfl | exact dq3 hd rfl | omega) rfl (Nat.le_of_ble_eq_true rfl) ?_
          refine g_iload_n 1 (gd rfl) rfl rfl ?_
          refine g_if_lt 4 16 (gd rfl) rfl rfl (fun c8x10x1 => ?_) (fun c8x10x1 => ?_)
          · skip
            have i8x10x1 := z_lt (-2147483648) (-1) c8x10x1 (i_rng x2) rfl
            refine g_iconst 0 17 (gd rfl) rfl rfl ?_
            refine g_ireturn (gd rfl) rfl (nb01 (in_w 0 1 (in_c 0 rfl) rfl)) (hp8x10 _ _ ?_)
            show GG _ _ _ _ _ _ _ _ [.int (Int32.ofInt 0)] _ _ _
            refine g_if_eq 16 25 (gd rfl) rfl rfl (fun c8x13 => ?_) (fun c8x13 => ?_)
            · skip
              refine g_iconst 0 26 (gd rfl) rfl rfl ?_
              refine g_ireturn (gd rfl) rfl (nb01 (in_w 0 1 (in_c 0 rfl) rfl)) (hp8 _ _ ?_)
              show GG _ _ _ _ _ _ _ _ [.int (Int32.ofInt 0)] _ _ _
              refine g_thr (E := am_IA) (y := yX11_allow) 14 (gd rfl) rfl rfl (Or.inl ⟨rfl, rfl, rfl⟩) (by first | exact dq1 hd rfl | exact dq0 hd rfl | exact dq2 hd rfl | exact dq3 hd rfl | omega) (Nat.le_of_ble_eq_true rfl) (Nat.le_of_ble_eq_true rfl) (Nat.le_of_ble_eq_true rfl) (fun c11 => ?_) (fun c11 => ?_)
              · skip
                exact zn_ne c11 (in_c 0 rfl) rfl
              · skip
                have n11 : ¬ (TWO (shC s).2.2.2.2.2.2.1 x1 x2) := by first | (rw [shC_n (by rw [← e1x1]; exact c1x5)]; show ¬ TWO (s.2.2.1 2 1).toInt x1 x2; rw [← e_2_1]; (first | have a0 := oa5 i8x2x9 i8x2x9a ro_2_1 i1x5 i8x10x1 | ((first | have a0 := in_u i8x2x9 | (have a0 := i8x2x9; unfold In at a0)); (first | have a1 := in_u i8x2x9a | (have a1 := i8x2x9a; unfold In at a1)); (first | have a2 := in_u ro_2_1 | (have a2 := ro_2_1; unfold In at a2)); (first | have a3 := in_u i1x5 | (have a3 := i1x5; unfold In at a3)); (first | have a4 := in_u i8x10x1 | (have a4 := i8x10x1; unfold In at a4)))); have oc := oc_232_0; omega) | (rw [shC_d (by rw [← e1x1]; exact c1x5)]; show ¬ TWO (s.2.2.1 32 1).toInt x1 x2; rw [← e_32_1]; (first | have a0 := oa5 i8x2x9 i8x2x9a ro_2_1 i1x5 i8x10x1 | ((first | have a0 := in_u i8x2x9 | (have a0 := i8x2x9; unfold In at a0)); (first | have a1 := in_u i8x2x9a | (have a1 := i8x2x9a; unfold In at a1)); (first | have a2 := in_u ro_2_1 | (have a2 := ro_2_1; unfold In at a2)); (first | have a3 := in_u i1x5 | (have a3 := i1x5; unfold In at a3)); (first | have a4 := in_u i8x10x1 | (have a4 := i8x10x1; unfold In at a4)))); have oc := oc_232_0; omega)
                exact (hX _ _ ⟨Or.inl ⟨rfl, n11⟩, s, hI, fr_rf, rfl⟩)
            · skip
              exact zn_ne c8x13 (in_c 0 rfl) rfl
          · skip
            have i8x10x1 := z_ge 0 2147483647 c8x10x1 (i_rng x2) rfl
            refine g_iload_n 5 (gd rfl) rfl rfl ?_
            refine g_aload_n 6 (gd rfl) rfl rfl ?_
            refine g_getI 9 (gd rfl) rfl rfl rfl (fun z8x10x6 e8x10x6 => ?_)
            have q8x10x6 : u_32_1 = z8x10x6 := (e_32_1).trans e8x10x6.symm
            subst q8x10x6
            refine g_cmp_ge 12 16 (gd rfl) rfl rfl (fun c8x10x9 => ?_) (fun c8x10x9 => ?_)
            · skip
              have i8x10x9 := r_le2 1 2147483647 c8x10x9 i8x2x9a i8x10x1 rfl
              refine g_iconst 0 17 (gd rfl) rfl rfl ?_
              refine g_ireturn (gd rfl) rfl (nb01 (in_w 0 1 (in_c 0 rfl) rfl)) (hp8x10 _ _ ?_)
              show GG _ _ _ _ _ _ _ _ [.int (Int32.ofInt 0)] _ _ _
              refine g_if_eq 16 25 (gd rfl) rfl rfl (fun c8x13 => ?_) (fun c8x13 => ?_)
              · skip
                refine g_iconst 0 26 (gd rfl) rfl rfl ?_
                refine g_ireturn (gd rfl) rfl (nb01 (in_w 0 1 (in_c 0 rfl) rfl)) (hp8 _ _ ?_)
                show GG _ _ _ _ _ _ _ _ [.int (Int32.ofInt 0)] _ _ _
                refine g_thr (E := am_IA) (y := yX11_allow) 14 (gd rfl) rfl rfl (Or.inl ⟨rfl, rfl, rfl⟩) (by first | exact dq1 hd rfl | exact dq0 hd rfl | exact dq2 hd rfl | exact dq3 hd rfl | omega) (Nat.le_of_ble_eq_true rfl) (Nat.le_of_ble_eq_true rfl) (Nat.le_of_ble_eq_true rfl) (fun c11 => ?_) (fun c11 => ?_)
                · skip
                  exact zn_ne c11 (in_c 0 rfl) rfl
                · skip
                  have n11 : ¬ (TWO (shC s).2.2.2.2.2.2.1 x1 x2) := by first | (rw [shC_n (by rw [← e1x1]; exact c1x5)]; show ¬ TWO (s.2.2.1 2 1).toInt x1 x2; rw [← e_2_1]; (first | have a0 := oa5 i8x2x9 i8x2x9a ro_2_1 i1x5 i8x10x9 | ((first | have a0 := in_u i8x2x9 | (have a0 := i8x2x9; unfold In at a0)); (first | have a1 := in_u i8x2x9a | (have a1 := i8x2x9a; unfold In at a1)); (first | have a2 := in_u ro_2_1 | (have a2 := ro_2_1; unfold In at a2)); (first | have a3 := in_u i1x5 | (have a3 := i1x5; unfold In at a3)); (first | have a4 := in_u i8x10x9 | (have a4 := i8x10x9; unfold In at a4)))); have oc := oc_232_0; omega) | (rw [shC_d (by rw [← e1x1]; exact c1x5)]; show ¬ TWO (s.2.2.1 32 1).toInt x1 x2; rw [← e_32_1]; (first | have a0 := oa5 i8x2x9 i8x2x9a ro_2_1 i1x5 i8x10x9 | ((first | have a0 := in_u i8x2x9 | (have a0 := i8x2x9; unfold In at a0)); (first | have a1 := in_u i8x2x9a | (have a1 := i8x2x9a; unfold In at a1)); (first | have a2 := in_u ro_2_1 | (have a2 := ro_2_1; unfold In at a2)); (first | have a3 := in_u i1x5 | (have a3 := i1x5; unfold In at a3)); (first | have a4 := in_u i8x10x9 | (have a4 := i8x10x9; unfold In at a4)))); have oc := oc_232_0; omega)
                  exact (hX _ _ ⟨Or.inl ⟨rfl, n11⟩, s, hI, fr_rf, rfl⟩)
              · skip
                exact zn_ne c8x13 (in_c 0 rfl) rfl
            · skip
              have i8x10x9 := r_lt1 0 31 c8x10x9 i8x10x1 i8x2x9a rfl
              refine g_iconst 1 13 (gd rfl) rfl rfl ?_
              refine g_goto 17 (gd rfl) rfl ?_
              refine g_ireturn (gd rfl) rfl (nb01 (in_w 0 1 (in_c 1 rfl) rfl)) (hp8x10 _ _ ?_)
              show GG _ _ _ _ _ _ _ _ [.int (Int32.ofInt 1)] _ _ _
              refine g_if_eq 16 25 (gd rfl) rfl rfl (fun c8x13 => ?_) (fun c8x13 => ?_)
              · skip
                exact zn_eq c8x13 (in_c 1 rfl) rfl
              · skip
                refine g_iload_n 17 (gd rfl) rfl rfl ?_
                refine g_iload_n 18 (gd rfl) rfl rfl ?_
                refine g_cmp_eq 21 25 (gd rfl) rfl rfl (fun c8x18 => ?_) (fun c8x18 => ?_)
                · skip
                  refine g_iconst 0 26 (gd rfl) rfl rfl ?_
                  refine g_ireturn (gd rfl) rfl (nb01 (in_w 0 1 (in_c 0 rfl) rfl)) (hp8 _ _ ?_)
                  show GG _ _ _ _ _ _ _ _ [.int (Int32.ofInt 0)] _ _ _
                  refine g_thr (E := am_IA) (y := yX11_allow) 14 (gd rfl) rfl rfl (Or.inl ⟨rfl, rfl, rfl⟩) (by first | exact dq1 hd rfl | exact dq0 hd rfl | exact dq2 hd rfl | exact dq3 hd rfl | omega) (Nat.le_of_ble_eq_true rfl) (Nat.le_of_ble_eq_true rfl) (Nat.le_of_ble_eq_true rfl) (fun c11 => ?_) (fun c11 => ?_)
                  · skip
                    exact zn_ne c11 (in_c 0 rfl) rfl
                  · skip
                    have n11 : ¬ (TWO (shC s).2.2.2.2.2.2.1 x1 x2) := by first | (rw [shC_n (by rw [← e1x1]; exact c1x5)]; show ¬ TWO (s.2.2.1 2 1).toInt x1 x2; rw [← e_2_1]; (first | have a0 := oa5 i8x10x9 i8x2x9 i8x2x9a ro_2_1 i1x5 | ((first | have a0 := in_u i8x10x9 | (have a0 := i8x10x9; unfold In at a0)); (first | have a1 := in_u i8x2x9 | (have a1 := i8x2x9; unfold In at a1)); (first | have a2 := in_u i8x2x9a | (have a2 := i8x2x9a; unfold In at a2)); (first | have a3 := in_u ro_2_1 | (have a3 := ro_2_1; unfold In at a3)); (first | have a4 := in_u i1x5 | (have a4 := i1x5; unfold In at a4)))); have oc := oc_232_0; omega) | (rw [shC_d (by rw [← e1x1]; exact c1x5)]; show ¬ TWO (s.2.2.1 32 1).toInt x1 x2; rw [← e_32_1]; (first | have a0 := oa5 i8x10x9 i8x2x9 i8x2x9a ro_2_1 i1x5 | ((first | have a0 := in_u i8x10x9 | (have a0 := i8x10x9; unfold In at a0)); (first | have a1 := in_u i8x2x9 | (have a1 := i8x2x9; unfold In at a1)); (first | have a2 := in_u i8x2x9a | (have a2 := i8x2x9a; unfold In at a2)); (first | have a3 := in_u ro_2_1 | (have a3 := ro_2_1; unfold In at a3)); (first | have a4 := in_u i1x5 | (have a4 := i1x5; unfold In at a4)))); have oc := oc_232_0; omega)
                    exact (hX _ _ ⟨Or.inl ⟨rfl, n11⟩, s, hI, fr_rf, rfl⟩)
                · skip
                  refine g_iconst 1 22 (gd rfl) rfl rfl ?_
                  refine g_goto 26 (gd rfl) rfl ?_
                  refine g_ireturn (gd rfl) rfl (nb01 (in_w 0 1 (in_c 1 rfl) rfl)) (hp8 _ _ ?_)
                  show GG _ _ _ _ _ _ _ _ [.int (Int32.ofInt 1)] _ _ _
                  refine g_thr (E := am_IA) (y := yX11_allow) 14 (gd rfl) rfl rfl (Or.inl ⟨rfl, rfl, rfl⟩) (by first | exact dq1 hd rfl | exact dq0 hd rfl | exact dq2 hd rfl | exact dq3 hd rfl | omega) (Nat.le_of_ble_eq_true rfl) (Nat.le_of_ble_eq_true rfl) (Nat.le_of_ble_eq_true rfl) (fun c11 => ?_) (fun c11 => ?_)
                  · skip
                    refine g_aload_n 15 (gd rfl) rfl rfl ?_
                    refine g_getA (q2 := 49) 18 (gd rfl) rfl rfl rfl rfl ?_
                    refine g_aload_n 19 (gd rfl) rfl rfl ?_
                    refine g_iload_n 20 (gd rfl) rfl rfl ?_
                    refine g_iload_n 21 (gd rfl) rfl rfl ?_
                    have p21 : TQD s := by first | exact q_0 | exact q_1
                    have p21a : NDQ (gvD s) := by first | (rw [← shC_n (by rw [← e1x1]; exact c1x5)]; exact q_2) | (rw [← shC_d (by rw [← e1x1]; exact c1x5)]; exact q_2)
                    have p21b : SHB (gvD s) s := by first | (rw [← shC_n (by rw [← e1x1]; exact c1x5)]; exact q_3) | (rw [← shC_d (by rw [← e1x1]; exact c1x5)]; exact q_3)
                    refine g_callv (X := _) (As := [.ref (A 32), .int x1, .int x2]) (r := []) (b := A 49) (q := 49) 24 (gd rfl) rfl rfl rfl rfl rfl (ww_o rfl) (Nat.le_of_ble_eq_true rfl) (Nat.zero_le _) (Nat.zero_le _) (f_205_49_32 (by first | exact dq1 hd rfl | exact dq0 hd rfl | exact dq2 hd rfl | exact dq3 hd rfl | omega) hI (in_w 0 31 i8x2x9 rfl) (in_w 0 31 i8x10x9 rfl) p21 p21a p21b) (fun e u h => h) (fun v u h => ?_)
                    obtain ⟨s21, hI21, hF21, z21, rfl, rfl, i21, p21c, p21d⟩ := h
                    show GG _ _ _ _ _ _ _ _ [.int z21] _ _ _
                    have n24 : (TWO (shC s).2.2.2.2.2.2.1 x1 x2) ∧ SHV (shC s) x1.toNatClampNeg x2.toNatClampNeg (z21).toInt := by first | (rw [shC_n (by rw [← e1x1]; exact c1x5)]; exact ⟨⟨⟨by (first | have a0 := oa5 i8x10x9 i8x2x9 i8x2x9a ro_2_1 i1x5 | ((first | have a0 := in_u i8x10x9 | (have a0 := i8x10x9; unfold In at a0)); (first | have a1 := in_u i8x2x9 | (have a1 := i8x2x9; unfold In at a1)); (first | have a2 := in_u i8x2x9a | (have a2 := i8x2x9a; unfold In at a2)); (first | have a3 := in_u ro_2_1 | (have a3 := ro_2_1; unfold In at a3)); (first | have a4 := in_u i1x5 | (have a4 := i1x5; unfold In at a4)))); have oc := oc_232_0; omega, by show x1.toInt < (s.2.2.1 2 1).toInt; rw [← e_2_1]; (first | have a0 := oa5 i8x10x9 i8x2x9 i8x2x9a ro_2_1 i1x5 | ((first | have a0 := in_u i8x10x9 | (have a0 := i8x10x9; unfold In at a0)); (first | have a1 := in_u i8x2x9 | (have a1 := i8x2x9; unfold In at a1)); (first | have a2 := in_u i8x2x9a | (have a2 := i8x2x9a; unfold In at a2)); (first | have a3 := in_u ro_2_1 | (have a3 := ro_2_1; unfold In at a3)); (first | have a4 := in_u i1x5 | (have a4 := i1x5; unfold In at a4)))); have oc := oc_232_0; omega⟩, ⟨by (first | have a0 := oa5 i8x10x9 i8x2x9 i8x2x9a ro_2_1 i1x5 | ((first | have a0 := in_u i8x10x9 | (have a0 := i8x10x9; unfold In at a0)); (first | have a1 := in_u i8x2x9 | (have a1 := i8x2x9; unfold In at a1)); (first | have a2 := in_u i8x2x9a | (have a2 := i8x2x9a; unfold In at a2)); (first | have a3 := in_u ro_2_1 | (have a3 := ro_2_1; unfold In at a3)); (first | have a4 := in_u i1x5 | (have a4 := i1x5; unfold In at a4)))); have oc := oc_232_0; omega, by show x2.toInt < (s.2.2.1 2 1).toInt; rw [← e_2_1]; (first | have a0 := oa5 i8x10x9 i8x2x9 i8x2x9a ro_2_1 i1x5 | ((first | have a0 := in_u i8x10x9 | (have a0 := i8x10x9; unfold In at a0)); (first | have a1 := in_u i8x2x9 | (have a1 := i8x2x9; unfold In at a1)); (first | have a2 := in_u i8x2x9a | (have a2 := i8x2x9a; unfold In at a2)); (first | have a3 := in_u ro_2_1 | (have a3 := ro_2_1; unfold In at a3)); (first | have a4 := in_u i1x5 | (have a4 := i1x5; unfold In at a4)))); have oc := oc_232_0; omega⟩, by (first | have a0 := oa5 i8x10x9 i8x2x9 i8x2x9a ro_2_1 i1x5 | ((first | have a0 := in_u i8x10x9 | (have a0 := i8x10x9; unfold In at a0)); (first | have a1 := in_u i8x2x9 | (have a1 := i8x2x9; unfold In at a1)); (first | have a2 := in_u i8x2x9a | (have a2 := i8x2x9a; unfold In at a2)); (first | have a3 := in_u ro_2_1 | (have a3 := ro_2_1; unfold In at a3)); (first | have a4 := in_u i1x5 | (have a4 := i1x5; unfold In at a4)))); have oc := oc_232_0; omega⟩, p21c⟩) | (rw [shC_d (by rw [← e1x1]; exact c1x5)]; exact ⟨⟨⟨by (first | have a0 := oa5 i8x10x9 i8x2x9 i8x2x9a ro_2_1 i1x5 | ((first | have a0 := in_u i8x10x9 | (have a0 := i8x10x9; unfold In at a0)); (first | have a1 := in_u i8x2x9 | (have a1 := i8x2x9; unfold In at a1)); (first | have a2 := in_u i8x2x9a | (have a2 := i8x2x9a; unfold In at a2)); (first | have a3 := in_u ro_2_1 | (have a3 := ro_2_1; unfold In at a3)); (first | have a4 := in_u i1x5 | (have a4 := i1x5; unfold In at a4)))); have oc := oc_232_0; omega, by show x1.toInt < (s.2.2.1 32 1).toInt; rw [← e_32_1]; (first | have a0 := oa5 i8x10x9 i8x2x9 i8x2x9a ro_2_1 i1x5 | ((first | have a0 := in_u i8x10x9 | (have a0 := i8x10x9; unfold In at a0)); (first | have a1 := in_u i8x2x9 | (have a1 := i8x2x9; unfold In at a1)); (first | have a2 := in_u i8x2x9a | (have a2 := i8x2x9a; unfold In at a2)); (first | have a3 := in_u ro_2_1 | (have a3 := ro_2_1; unfold In at a3)); (first | have a4 := in_u i1x5 | (have a4 := i1x5; unfold In at a4)))); have oc := oc_232_0; omega⟩, ⟨by (first | have a0 := oa5 i8x10x9 i8x2x9 i8x2x9a ro_2_1 i1x5 | ((first | have a0 := in_u i8x10x9 | (have a0 := i8x10x9; unfold In at a0)); (first | have a1 := in_u i8x2x9 | (have a1 := i8x2x9; unfold In at a1)); (first | have a2 := in_u i8x2x9a | (have a2 := i8x2x9a; unfold In at a2)); (first | have a3 := in_u ro_2_1 | (have a3 := ro_2_1; unfold In at a3)); (first | have a4 := in_u i1x5 | (have a4 := i1x5; unfold In at a4)))); have oc := oc_232_0; omega, by show x2.toInt < (s.2.2.1 32 1).toInt; rw [← e_32_1]; (first | have a0 := oa5 i8x10x9 i8x2x9 i8x2x9a ro_2_1 i1x5 | ((first | have a0 := in_u i8x10x9 | (have a0 := i8x10x9; unfold In at a0)); (first | have a1 := in_u i8x2x9 | (have a1 := i8x2x9; unfold In at a1)); (first | have a2 := in_u i8x2x9a | (have a2 := i8x2x9a; unfold In at a2)); (first | have a3 := in_u ro_2_1 | (have a3 := ro_2_1; unfold In at a3)); (first | have a4 := in_u i1x5 | (have a4 := i1x5; unfold In at a4)))); have oc := oc_232_0; omega⟩, by (first | have a0 := oa5 i8x10x9 i8x2x9 i8x2x9a ro_2_1 i1x5 | ((first | have a0 := in_u i8x10x9 | (have a0 := i8x10x9; unfold In at a0)); (first | have a1 := in_u i8x2x9 | (have a1 := i8x2x9; unfold In at a1)); (first | have a2 := in_u i8x2x9a | (have a2 := i8x2x9a; unfold In at a2)); (first | have a3 := in_u ro_2_1 | (have a3 := ro_2_1; unfold In at a3)); (first | have a4 := in_u i1x5 | (have a4 := i1x5; unfold In at a4)))); have oc := oc_232_0; omega⟩, p21c⟩)
                    have n24a : SHG (shC s) s21 := by first | (rw [shC_n (by rw [← e1x1]; exact c1x5)]; exact p21d) | (rw [shC_d (by rw [← e1x1]; exact c1x5)]; exact p21d)
                    exact g_ireturn (gd rfl) rfl rfl (hP _ _ ⟨s21, hI21, (fr_tr rfl fr_rf hF21), z21, rfl, rfl, in_w (-2) 2000 i21 rfl, n24, n24a⟩)
                  · skip
                    exact zn_eq c11 (in_c 1 rfl) rfl
  · skip
    have i1x5 := r_eq1 (-1) (-1) c1x5 ro_0_2 (in_c (-1) rfl) rfl
    refine g_aload_n 9 (gd rfl) rfl rfl ?_
    refine g_getA (q2 := 1) 12 (gd rfl) rfl rfl rfl rfl ?_
    refine g_getA (q2 := 2) 15 (gd rfl) rfl rfl rfl rfl ?_
    refine g_goto 22 (gd rfl) rfl ?_
    refine g_areturn (gd rfl) rfl (hp1 _ _ ?_)
    show GG _ _ _ _ _ _ _ _ [.ref (A 2)] _ _ _
    refine g_astore_n 5 (gd rfl) rfl (Nat.le_of_ble_eq_true rfl) ?_
    refine g_aload_n 6 (gd rfl) rfl rfl ?_
    refine g_iload_n 7 (gd rfl) rfl rfl ?_
    refine g_iload_n 8 (gd rfl) rfl rfl ?_
    refine g_callv (X := _) (As := [.int x1, .int x2]) (r := []) (b := A 2) (q := 2) 11 (gd rfl) rfl rfl rfl rfl rfl (ww_o rfl) (Nat.le_of_ble_eq_true rfl) (mc := 0) (ms := 0) (Nat.zero_le _) (Nat.zero_le _) (P := fun v u => _) ?_ (fun e u h => h) (fun v u h => h)
    intro po8 xx8 hp8 hx8
    refine g_enter2 (k := 95) (N := 300) (by first | exact dq1 hd rfl | exact dq0 hd rfl | exact dq2 hd rfl | exact dq3 hd rfl | omega) rfl (Nat.le_of_ble_eq_true rfl) ?_
    refine g_aload_n 1 (gd rfl) rfl rfl ?_
    refine g_iload_n 2 (gd rfl) rfl rfl ?_
    refine g_callv (X := _) (As := [.int x1]) (r := []) (b := A 2) (q := 2) 5 (gd rfl) rfl rfl rfl rfl rfl (ww_o rfl) (Nat.le_of_ble_eq_true rfl) (mc := 0) (ms := 0) (Nat.zero_le _) (Nat.zero_le _) (P := fun v u => _) ?_ (fun e u h => h) (fun v u h => h)
    intro po8x2 xx8x2 hp8x2 hx8x2
    refine g_enter2 (k := 94) (N := 300) (by first | exact dq1 hd rfl | exact dq0 hd rfl | exact dq2 hd rfl | exact dq3 hd rfl | omega) rfl (Nat.le_of_ble_eq_true rfl) ?_
    refine g_iload_n 1 (gd rfl) rfl rfl ?_
    refine g_if_lt 4 16 (gd rfl) rfl rfl (fun c8x2x1 => ?_) (fun c8x2x1 => ?_)
    · skip
      have i8x2x1 := z_lt (-2147483648) (-1) c8x2x1 (i_rng x1) rfl
      refine g_iconst 0 17 (gd rfl) rfl rfl ?_
      refine g_ireturn (gd rfl) rfl (nb01 (in_w 0 1 (in_c 0 rfl) rfl)) (hp8x2 _ _ ?_)
      show GG _ _ _ _ _ _ _ _ [.int (Int32.ofInt 0)] _ _ _
      refine g_if_eq 8 25 (gd rfl) rfl rfl (fun c8x5 => ?_) (fun c8x5 => ?_)
      · skip
        refine g_iconst 0 26 (gd rfl) rfl rfl ?_
        refine g_ireturn (gd rfl) rfl (nb01 (in_w 0 1 (in_c 0 rfl) rfl)) (hp8 _ _ ?_)
        show GG _ _ _ _ _ _ _ _ [.int (Int32.ofInt 0)] _ _ _
        refine g_thr (E := am_IA) (y := yX11_allow) 14 (gd rfl) rfl rfl (Or.inl ⟨rfl, rfl, rfl⟩) (by first | exact dq1 hd rfl | exact dq0 hd rfl | exact dq2 hd rfl | exact dq3 hd rfl | omega) (Nat.le_of_ble_eq_true rfl) (Nat.le_of_ble_eq_true rfl) (Nat.le_of_ble_eq_true rfl) (fun c11 => ?_) (fun c11 => ?_)
        · skip
          exact zn_ne c11 (in_c 0 rfl) rfl
        · skip
          have n11 : ¬ (TWO (shC s).2.2.2.2.2.2.1 x1 x2) := by first | (rw [shC_n (by rw [← e1x1]; exact c1x5)]; show ¬ TWO (s.2.2.1 2 1).toInt x1 x2; rw [← e_2_1]; (first | have a0 := oa4 ro_32_1 ro_2_1 i1x5 i8x2x1 | ((first | have a0 := in_u ro_32_1 | (have a0 := ro_32_1; unfold In at a0)); (first | have a1 := in_u ro_2_1 | (have a1 := ro_2_1; unfold In at a1)); (first | have a2 := in_u i1x5 | (have a2 := i1x5; unfold In at a2)); (first | have a3 := in_u i8x2x1 | (have a3 := i8x2x1; unfold In at a3)))); have oc := oc_232_0; omega) | (rw [shC_d (by rw [← e1x1]; exact c1x5)]; show ¬ TWO (s.2.2.1 32 1).toInt x1 x2; rw [← e_32_1]; (first | have a0 := oa4 ro_32_1 ro_2_1 i1x5 i8x2x1 | ((first | have a0 := in_u ro_32_1 | (have a0 := ro_32_1; unfold In at a0)); (first | have a1 := in_u ro_2_1 | (have a1 := ro_2_1; unfold In at a1)); (first | have a2 := in_u i1x5 | (have a2 := i1x5; unfold In at a2)); (first | have a3 := in_u i8x2x1 | (have a3 := i8x2x1; unfold In at a3)))); have oc := oc_232_0; omega)
          exact (hX _ _ ⟨Or.inl ⟨rfl, n11⟩, s, hI, fr_rf, rfl⟩)
      · skip
        exact zn_ne c8x5 (in_c 0 rfl) rfl
    · skip
      have i8x2x1 := z_ge 0 2147483647 c8x2x1 (i_rng x1) rfl
      refine g_iload_n 5 (gd rfl) rfl rfl ?_
      refine g_aload_n 6 (gd rfl) rfl rfl ?_
      refine g_getI 9 (gd rfl) rfl rfl rfl (fun z8x2x6 e8x2x6 => ?_)
      have q8x2x6 : u_2_1 = z8x2x6 := (e_2_1).trans e8x2x6.symm
      subst q8x2x6
      refine g_cmp_ge 12 16 (gd rfl) rfl rfl (fun c8x2x9 => ?_) (fun c8x2x9 => ?_)
      · skip
        refine g_iconst 0 17 (gd rfl) rfl rfl ?_
        refine g_ireturn (gd rfl) rfl (nb01 (in_w 0 1 (in_c 0 rfl) rfl)) (hp8x2 _ _ ?_)
        show GG _ _ _ _ _ _ _ _ [.int (Int32.ofInt 0)] _ _ _
        refine g_if_eq 8 25 (gd rfl) rfl rfl (fun c8x5 => ?_) (fun c8x5 => ?_)
        · skip
          refine g_iconst 0 26 (gd rfl) rfl rfl ?_
          refine g_ireturn (gd rfl) rfl (nb01 (in_w 0 1 (in_c 0 rfl) rfl)) (hp8 _ _ ?_)
          show GG _ _ _ _ _ _ _ _ [.int (Int32.ofInt 0)] _ _ _
          refine g_thr (E := am_IA) (y := yX11_allow) 14 (gd rfl) rfl rfl (Or.inl ⟨rfl, rfl, rfl⟩) (by first | exact dq1 hd rfl | exact dq0 hd rfl | exact dq2 hd rfl | exact dq3 hd rfl | omega) (Nat.le_of_ble_eq_true rfl) (Nat.le_of_ble_eq_true rfl) (Nat.le_of_ble_eq_true rfl) (fun c11 => ?_) (fun c11 => ?_)
          · skip
            exact zn_ne c11 (in_c 0 rfl) rfl
          · skip
            have n11 : ¬ (TWO (shC s).2.2.2.2.2.2.1 x1 x2) := by first | (rw [shC_n (by rw [← e1x1]; exact c1x5)]; show ¬ TWO (s.2.2.1 2 1).toInt x1 x2; rw [← e_2_1]; (first | have a0 := oa4 ro_32_1 ro_2_1 i1x5 i8x2x1 | ((first | have a0 := in_u ro_32_1 | (have a0 := ro_32_1; unfold In at a0)); (first | have a1 := in_u ro_2_1 | (have a1 := ro_2_1; unfold In at a1)); (first | have a2 := in_u i1x5 | (have a2 := i1x5; unfold In at a2)); (first | have a3 := in_u i8x2x1 | (have a3 := i8x2x1; unfold In at a3)))); have oc := oc_232_0; omega) | (rw [shC_d (by rw [← e1x1]; exact c1x5)]; show ¬ TWO (s.2.2.1 32 1).toInt x1 x2; rw [← e_32_1]; (first | have a0 := oa4 ro_32_1 ro_2_1 i1x5 i8x2x1 | ((first | have a0 := in_u ro_32_1 | (have a0 := ro_32_1; unfold In at a0)); (first | have a1 := in_u ro_2_1 | (have a1 := ro_2_1; unfold In at a1)); (first | have a2 := in_u i1x5 | (have a2 := i1x5; unfold In at a2)); (first | have a3 := in_u i8x2x1 | (have a3 := i8x2x1; unfold In at a3)))); have oc := oc_232_0; omega)
            exact (hX _ _ ⟨Or.inl ⟨rfl, n11⟩, s, hI, fr_rf, rfl⟩)
        · skip
          exact zn_ne c8x5 (in_c 0 rfl) rfl
      · skip
        have i8x2x9 := r_lt1 0 31 c8x2x9 i8x2x1 ro_2_1 rfl
        have i8x2x9a := r_lt2 1 32 c8x2x9 i8x2x1 ro_2_1 rfl
        refine g_iconst 1 13 (gd rfl) rfl rfl ?_
        refine g_goto 17 (gd rfl) rfl ?_
        refine g_ireturn (gd rfl) rfl (nb01 (in_w 0 1 (in_c 1 rfl) rfl)) (hp8x2 _ _ ?_)
        show GG _ _ _ _ _ _ _ _ [.int (Int32.ofInt 1)] _ _ _
        refine g_if_eq 8 25 (gd rfl) rfl rfl (fun c8x5 => ?_) (fun c8x5 => ?_)
        · skip
          exact zn_eq c8x5 (in_c 1 rfl) rfl
        · skip
          refine g_aload_n 9 (gd rfl) rfl rfl ?_
          refine g_iload_n 10 (gd rfl) rfl rfl ?_
          refine g_callv (X := _) (As := [.int x2]) (r := []) (b := A 2) (q := 2) 13 (gd rfl) rfl rfl rfl rfl rfl (ww_o rfl) (Nat.le_of_ble_eq_true rfl) (mc := 0) (ms := 0) (Nat.zero_le _) (Nat.zero_le _) (P := fun v u => _) ?_ (fun e u h => h) (fun v u h => h)
          intro po8x10 xx8x10 hp8x10 hx8x10
          refine g_enter2 (k := 94) (N := 300) (by first | exact dq1 hd rfl | exact dq0 hd rfl | exact dq2 hd rfl | exact dq3 hd rfl | omega) rfl (Nat.le_of_ble_eq_true rfl) ?_
          refine g_iload_n 1 (gd rfl) rfl rfl ?_
          refine g_if_lt 4 16 (gd rfl) rfl rfl (fun c8x10x1 => ?_) (fun c8x10x1 => ?_)
          · skip
            have i8x10x1 := z_lt (-2147483648) (-1) c8x10x1 (i_rng x2) rfl
            refine g_iconst 0 17 (gd rfl) rfl rfl ?_
            refine g_ireturn (gd rfl) rfl (nb01 (in_w 0 1 (in_c 0 rfl) rfl)) (hp8x10 _ _ ?_)
            show GG _ _ _ _ _ _ _ _ [.int (Int32.ofInt 0)] _ _ _
            refine g_if_eq 16 25 (gd rfl) rfl rfl (fun c8x13 => ?_) (fun c8x13 => ?_)
            · skip
              refine g_iconst 0 26 (gd rfl) rfl rfl ?_
              refine g_ireturn (gd rfl) rfl (nb01 (in_w 0 1 (in_c 0 rfl) rfl)) (hp8 _ _ ?_)
              show GG _ _ _ _ _ _ _ _ [.int (Int32.ofInt 0)] _ _ _
              refine g_thr (E := am_IA) (y := yX11_allow) 14 (gd rfl) rfl rfl (Or.inl ⟨rfl, rfl, rfl⟩) (by first | exact dq1 hd rfl | exact dq0 hd rfl | exact dq2 hd rfl | exact dq3 hd rfl | omega) (Nat.le_of_ble_eq_true rfl) (Nat.le_of_ble_eq_true rfl) (Nat.le_of_ble_eq_true rfl) (fun c11 => ?_) (fun c11 => ?_)
              · skip
                exact zn_ne c11 (in_c 0 rfl) rfl
              · skip
                have n11 : ¬ (TWO (shC s).2.2.2.2.2.2.1 x1 x2) := by first | (rw [shC_n (by rw [← e1x1]; exact c1x5)]; show ¬ TWO (s.2.2.1 2 1).toInt x1 x2; rw [← e_2_1]; (first | have a0 := oa5 i8x2x9 ro_32_1 i8x2x9a i1x5 i8x10x1 | ((first | have a0 := in_u i8x2x9 | (have a0 := i8x2x9; unfold In at a0)); (first | have a1 := in_u ro_32_1 | (have a1 := ro_32_1; unfold In at a1)); (first | have a2 := in_u i8x2x9a | (have a2 := i8x2x9a; unfold In at a2)); (first | have a3 := in_u i1x5 | (have a3 := i1x5; unfold In at a3)); (first | have a4 := in_u i8x10x1 | (have a4 := i8x10x1; unfold In at a4)))); have oc := oc_232_0; omega) | (rw [shC_d (by rw [← e1x1]; exact c1x5)]; show ¬ TWO (s.2.2.1 32 1).toInt x1 x2; rw [← e_32_1]; (first | have a0 := oa5 i8x2x9 ro_32_1 i8x2x9a i1x5 i8x10x1 | ((first | have a0 := in_u i8x2x9 | (have a0 := i8x2x9; unfold In at a0)); (first | have a1 := in_u ro_32_1 | (have a1 := ro_32_1; unfold In at a1)); (first | have a2 := in_u i8x2x9a | (have a2 := i8x2x9a; unfold In at a2)); (first | have a3 := in_u i1x5 | (have a3 := i1x5; unfold In at a3)); (first | have a4 := in_u i8x10x1 | (have a4 := i8x10x1; unfold In at a4)))); have oc := oc_232_0; omega)
                exact (hX _ _ ⟨Or.inl ⟨rfl, n11⟩, s, hI, fr_rf, rfl⟩)
            · skip
              exact zn_ne c8x13 (in_c 0 rfl) rfl
          · skip
            have i8x10x1 := z_ge 0 2147483647 c8x10x1 (i_rng x2) rfl
            refine g_iload_n 5 (gd rfl) rfl rfl ?_
            refine g_aload_n 6 (gd rfl) rfl rfl ?_
            refine g_getI 9 (gd rfl) rfl rfl rfl (fun z8x10x6 e8x10x6 => ?_)
            have q8x10x6 : u_2_1 = z8x10x6 := (e_2_1).trans e8x10x6.symm
            subst q8x10x6
            refine g_cmp_ge 12 16 (gd rfl) rfl rfl (fun c8x10x9 => ?_) (fun c8x10x9 => ?_)
            · skip
              have i8x10x9 := r_le2 1 2147483647 c8x10x9 i8x2x9a i8x10x1 rfl
              refine g_iconst 0 17 (gd rfl) rfl rfl ?_
              refine g_ireturn (gd rfl) rfl (nb01 (in_w 0 1 (in_c 0 rfl) rfl)) (hp8x10 _ _ ?_)
              show GG _ _ _ _ _ _ _ _ [.int (Int32.ofInt 0)] _ _ _
              refine g_if_eq 16 25 (gd rfl) rfl rfl (fun c8x13 => ?_) (fun c8x13 => ?_)
              · skip
                refine g_iconst 0 26 (gd rfl) rfl rfl ?_
                refine g_ireturn (gd rfl) rfl (nb01 (in_w 0 1 (in_c 0 rfl) rfl)) (hp8 _ _ ?_)
                show GG _ _ _ _ _ _ _ _ [.int (Int32.ofInt 0)] _ _ _
                refine g_thr (E := am_IA) (y := yX11_allow) 14 (gd rfl) rfl rfl (Or.inl ⟨rfl, rfl, rfl⟩) (by first | exact dq1 hd rfl | exact dq0 hd rfl | exact dq2 hd rfl | exact dq3 hd rfl | omega) (Nat.le_of_ble_eq_true rfl) (Nat.le_of_ble_eq_true rfl) (Nat.le_of_ble_eq_true rfl) (fun c11 => ?_) (fun c11 => ?_)
                · skip
                  exact zn_ne c11 (in_c 0 rfl) rfl
                · skip
                  have n11 : ¬ (TWO (shC s).2.2.2.2.2.2.1 x1 x2) := by first | (rw [shC_n (by rw [← e1x1]; exact c1x5)]; show ¬ TWO (s.2.2.1 2 1).toInt x1 x2; rw [← e_2_1]; (first | have a0 := oa5 i8x2x9 ro_32_1 i8x2x9a i1x5 i8x10x9 | ((first | have a0 := in_u i8x2x9 | (have a0 := i8x2x9; unfold In at a0)); (first | have a1 := in_u ro_32_1 | (have a1 := ro_32_1; unfold In at a1)); (first | have a2 := in_u i8x2x9a | (have a2 := i8x2x9a; unfold In at a2)); (first | have a3 := in_u i1x5 | (have a3 := i1x5; unfold In at a3)); (first | have a4 := in_u i8x10x9 | (have a4 := i8x10x9; unfold In at a4)))); have oc := oc_232_0; omega) | (rw [shC_d (by rw [← e1x1]; exact c1x5)]; show ¬ TWO (s.2.2.1 32 1).toInt x1 x2; rw [← e_32_1]; (first | have a0 := oa5 i8x2x9 ro_32_1 i8x2x9a i1x5 i8x10x9 | ((first | have a0 := in_u i8x2x9 | (have a0 := i8x2x9; unfold In at a0)); (first | have a1 := in_u ro_32_1 | (have a1 := ro_32_1; unfold In at a1)); (first | have a2 := in_u i8x2x9a | (have a2 := i8x2x9a; unfold In at a2)); (first | have a3 := in_u i1x5 | (have a3 := i1x5; unfold In at a3)); (first | have a4 := in_u i8x10x9 | (have a4 := i8x10x9; unfold In at a4)))); have oc := oc_232_0; omega)
                  exact (hX _ _ ⟨Or.inl ⟨rfl, n11⟩, s, hI, fr_rf, rfl⟩)
              · skip
                exact zn_ne c8x13 (in_c 0 rfl) rfl
            · skip
              have i8x10x9 := r_lt1 0 31 c8x10x9 i8x10x1 i8x2x9a rfl
              refine g_iconst 1 13 (gd rfl) rfl rfl ?_
              refine g_goto 17 (gd rfl) rfl ?_
              refine g_ireturn (gd rfl) rfl (nb01 (in_w 0 1 (in_c 1 rfl) rfl)) (hp8x10 _ _ ?_)
              show GG _ _ _ _ _ _ _ _ [.int (Int32.ofInt 1)] _ _ _
              refine g_if_eq 16 25 (gd rfl) rfl rfl (fun c8x13 => ?_) (fun c8x13 => ?_)
              · skip
                exact zn_eq c8x13 (in_c 1 rfl) rfl
              · skip
                refine g_iload_n 17 (gd rfl) rfl rfl ?_
                refine g_iload_n 18 (gd rfl) rfl rfl ?_
                refine g_cmp_eq 21 25 (gd rfl) rfl rfl (fun c8x18 => ?_) (fun c8x18 => ?_)
                · skip
                  refine g_iconst 0 26 (gd rfl) rfl rfl ?_
                  refine g_ireturn (gd rfl) rfl (nb01 (in_w 0 1 (in_c 0 rfl) rfl)) (hp8 _ _ ?_)
                  show GG _ _ _ _ _ _ _ _ [.int (Int32.ofInt 0)] _ _ _
                  refine g_thr (E := am_IA) (y := yX11_allow) 14 (gd rfl) rfl rfl (Or.inl ⟨rfl, rfl, rfl⟩) (by first | exact dq1 hd rfl | exact dq0 hd rfl | exact dq2 hd rfl | exact dq3 hd rfl | omega) (Nat.le_of_ble_eq_true rfl) (Nat.le_of_ble_eq_true rfl) (Nat.le_of_ble_eq_true rfl) (fun c11 => ?_) (fun c11 => ?_)
                  · skip
                    exact zn_ne c11 (in_c 0 rfl) rfl
                  · skip
                    have n11 : ¬ (TWO (shC s).2.2.2.2.2.2.1 x1 x2) := by first | (rw [shC_n (by rw [← e1x1]; exact c1x5)]; show ¬ TWO (s.2.2.1 2 1).toInt x1 x2; rw [← e_2_1]; (first | have a0 := oa5 i8x10x9 i8x2x9 ro_32_1 i8x2x9a i1x5 | ((first | have a0 := in_u i8x10x9 | (have a0 := i8x10x9; unfold In at a0)); (first | have a1 := in_u i8x2x9 | (have a1 := i8x2x9; unfold In at a1)); (first | have a2 := in_u ro_32_1 | (have a2 := ro_32_1; unfold In at a2)); (first | have a3 := in_u i8x2x9a | (have a3 := i8x2x9a; unfold In at a3)); (first | have a4 := in_u i1x5 | (have a4 := i1x5; unfold In at a4)))); have oc := oc_232_0; omega) | (rw [shC_d (by rw [← e1x1]; exact c1x5)]; show ¬ TWO (s.2.2.1 32 1).toInt x1 x2; rw [← e_32_1]; (first | have a0 := oa5 i8x10x9 i8x2x9 ro_32_1 i8x2x9a i1x5 | ((first | have a0 := in_u i8x10x9 | (have a0 := i8x10x9; unfold In at a0)); (first | have a1 := in_u i8x2x9 | (have a1 := i8x2x9; unfold In at a1)); (first | have a2 := in_u ro_32_1 | (have a2 := ro_32_1; unfold In at a2)); (first | have a3 := in_u i8x2x9a | (have a3 := i8x2x9a; unfold In at a3)); (first | have a4 := in_u i1x5 | (have a4 := i1x5; unfold In at a4)))); have oc := oc_232_0; omega)
                    exact (hX _ _ ⟨Or.inl ⟨rfl, n11⟩, s, hI, fr_rf, rfl⟩)
                · skip
                  refine g_iconst 1 22 (gd rfl) rfl rfl ?_
                  refine g_goto 26 (gd rfl) rfl ?_
                  refine g_ireturn (gd rfl) rfl (nb01 (in_w 0 1 (in_c 1 rfl) rfl)) (hp8 _ _ ?_)
                  show GG _ _ _ _ _ _ _ _ [.int (Int32.ofInt 1)] _ _ _
                  refine g_thr (E := am_IA) (y := yX11_allow) 14 (gd rfl) rfl rfl (Or.inl ⟨rfl, rfl, rfl⟩) (by first | exact dq1 hd rfl | exact dq0 hd rfl | exact dq2 hd rfl | exact dq3 hd rfl | omega) (Nat.le_of_ble_eq_true rfl) (Nat.le_of_ble_eq_true rfl) (Nat.le_of_ble_eq_true rfl) (fun c11 => ?_) (fun c11 => ?_)
                  · skip
                    refine g_aload_n 15 (gd rfl) rfl rfl ?_
                    refine g_getA (q2 := 49) 18 (gd rfl) rfl rfl rfl rfl ?_
                    refine g_aload_n 19 (gd rfl) rfl rfl ?_
                    refine g_iload_n 20 (gd rfl) rfl rfl ?_
                    refine g_iload_n 21 (gd rfl) rfl rfl ?_
                    have p21 : TQ s := by first | exact q_0 | exact q_1
                    have p21a : NDQ (gvC s) := by first | (rw [← shC_n (by rw [← e1x1]; exact c1x5)]; exact q_2) | (rw [← shC_d (by rw [← e1x1]; exact c1x5)]; exact q_2)
                    have p21b : SHB (gvC s) s := by first | (rw [← shC_n (by rw [← e1x1]; exact c1x5)]; exact q_3) | (rw [← shC_d (by rw [← e1x1]; exact c1x5)]; exact q_3)
                    refine g_callv (X := _) (As := [.ref (A 2), .int x1, .int x2]) (r := []) (b := A 49) (q := 49) 24 (gd rfl) rfl rfl rfl rfl rfl (ww_o rfl) (Nat.le_of_ble_eq_true rfl) (Nat.zero_le _) (Nat.zero_le _) (f_205_49_2 (by first | exact dq1 hd rfl | exact dq0 hd rfl | exact dq2 hd rfl | exact dq3 hd rfl | omega) hI (in_w 0 31 i8x2x9 rfl) (in_w 0 31 i8x10x9 rfl) p21 p21a p21b) (fun e u h => h) (fun v u h => ?_)
                    obtain ⟨s21, hI21, hF21, z21, rfl, rfl, i21, p21c, p21d⟩ := h
                    show GG _ _ _ _ _ _ _ _ [.int z21] _ _ _
                    have n24 : (TWO (shC s).2.2.2.2.2.2.1 x1 x2) ∧ SHV (shC s) x1.toNatClampNeg x2.toNatClampNeg (z21).toInt := by first | (rw [shC_n (by rw [← e1x1]; exact c1x5)]; exact ⟨⟨⟨by (first | have a0 := oa5 i8x10x9 i8x2x9 ro_32_1 i8x2x9a i1x5 | ((first | have a0 := in_u i8x10x9 | (have a0 := i8x10x9; unfold In at a0)); (first | have a1 := in_u i8x2x9 | (have a1 := i8x2x9; unfold In at a1)); (first | have a2 := in_u ro_32_1 | (have a2 := ro_32_1; unfold In at a2)); (first | have a3 := in_u i8x2x9a | (have a3 := i8x2x9a; unfold In at a3)); (first | have a4 := in_u i1x5 | (have a4 := i1x5; unfold In at a4)))); have oc := oc_232_0; omega, by show x1.toInt < (s.2.2.1 2 1).toInt; rw [← e_2_1]; (first | have a0 := oa5 i8x10x9 i8x2x9 ro_32_1 i8x2x9a i1x5 | ((first | have a0 := in_u i8x10x9 | (have a0 := i8x10x9; unfold In at a0)); (first | have a1 := in_u i8x2x9 | (have a1 := i8x2x9; unfold In at a1)); (first | have a2 := in_u ro_32_1 | (have a2 := ro_32_1; unfold In at a2)); (first | have a3 := in_u i8x2x9a | (have a3 := i8x2x9a; unfold In at a3)); (first | have a4 := in_u i1x5 | (have a4 := i1x5; unfold In at a4)))); have oc := oc_232_0; omega⟩, ⟨by (first | have a0 := oa5 i8x10x9 i8x2x9 ro_32_1 i8x2x9a i1x5 | ((first | have a0 := in_u i8x10x9 | (have a0 := i8x10x9; unfold In at a0)); (first | have a1 := in_u i8x2x9 | (have a1 := i8x2x9; unfold In at a1)); (first | have a2 := in_u ro_32_1 | (have a2 := ro_32_1; unfold In at a2)); (first | have a3 := in_u i8x2x9a | (have a3 := i8x2x9a; unfold In at a3)); (first | have a4 := in_u i1x5 | (have a4 := i1x5; unfold In at a4)))); have oc := oc_232_0; omega, by show x2.toInt < (s.2.2.1 2 1).toInt; rw [← e_2_1]; (first | have a0 := oa5 i8x10x9 i8x2x9 ro_32_1 i8x2x9a i1x5 | ((first | have a0 := in_u i8x10x9 | (have a0 := i8x10x9; unfold In at a0)); (first | have a1 := in_u i8x2x9 | (have a1 := i8x2x9; unfold In at a1)); (first | have a2 := in_u ro_32_1 | (have a2 := ro_32_1; unfold In at a2)); (first | have a3 := in_u i8x2x9a | (have a3 := i8x2x9a; unfold In at a3)); (first | have a4 := in_u i1x5 | (have a4 := i1x5; unfold In at a4)))); have oc := oc_232_0; omega⟩, by (first | have a0 := oa5 i8x10x9 i8x2x9 ro_32_1 i8x2x9a i1x5 | ((first | have a0 := in_u i8x10x9 | (have a0 := i8x10x9; unfold In at a0)); (first | have a1 := in_u i8x2x9 | (have a1 := i8x2x9; unfold In at a1)); (first | have a2 := in_u ro_32_1 | (have a2 := ro_32_1; unfold In at a2)); (first | have a3 := in_u i8x2x9a | (have a3 := i8x2x9a; unfold In at a3)); (first | have a4 := in_u i1x5 | (have a4 := i1x5; unfold In at a4)))); have oc := oc_232_0; omega⟩, p21c⟩) | (rw [shC_d (by rw [← e1x1]; exact c1x5)]; exact ⟨⟨⟨by (first | have a0 := oa5 i8x10x9 i8x2x9 ro_32_1 i8x2x9a i1x5 | ((first | have a0 := in_u i8x10x9 | (have a0 := i8x10x9; unfold In at a0)); (first | have a1 := in_u i8x2x9 | (have a1 := i8x2x9; unfold In at a1)); (first | have a2 := in_u ro_32_1 | (have a2 := ro_32_1; unfold In at a2)); (first | have a3 := in_u i8x2x9a | (have a3 := i8x2x9a; unfold In at a3)); (first | have a4 := in_u i1x5 | (have a4 := i1x5; unfold In at a4)))); have oc := oc_232_0; omega, by show x1.toInt < (s.2.2.1 32 1).toInt; rw [← e_32_1]; (first | have a0 := oa5 i8x10x9 i8x2x9 ro_32_1 i8x2x9a i1x5 | ((first | have a0 := in_u i8x10x9 | (have a0 := i8x10x9; unfold In at a0)); (first | have a1 := in_u i8x2x9 | (have a1 := i8x2x9; unfold In at a1)); (first | have a2 := in_u ro_32_1 | (have a2 := ro_32_1; unfold In at a2)); (first | have a3 := in_u i8x2x9a | (have a3 := i8x2x9a; unfold In at a3)); (first | have a4 := in_u i1x5 | (have a4 := i1x5; unfold In at a4)))); have oc := oc_232_0; omega⟩, ⟨by (first | have a0 := oa5 i8x10x9 i8x2x9 ro_32_1 i8x2x9a i1x5 | ((first | have a0 := in_u i8x10x9 | (have a0 := i8x10x9; unfold In at a0)); (first | have a1 := in_u i8x2x9 | (have a1 := i8x2x9; unfold In at a1)); (first | have a2 := in_u ro_32_1 | (have a2 := ro_32_1; unfold In at a2)); (first | have a3 := in_u i8x2x9a | (have a3 := i8x2x9a; unfold In at a3)); (first | have a4 := in_u i1x5 | (have a4 := i1x5; unfold In at a4)))); have oc := oc_232_0; omega, by show x2.toInt < (s.2.2.1 32 1).toInt; rw [← e_32_1]; (first | have a0 := oa5 i8x10x9 i8x2x9 ro_32_1 i8x2x9a i1x5 | ((first | have a0 := in_u i8x10x9 | (have a0 := i8x10x9; unfold In at a0)); (first | have a1 := in_u i8x2x9 | (have a1 := i8x2x9; unfold In at a1)); (first | have a2 := in_u ro_32_1 | (have a2 := ro_32_1; unfold In at a2)); (first | have a3 := in_u i8x2x9a | (have a3 := i8x2x9a; unfold In at a3)); (first | have a4 := in_u i1x5 | (have a4 := i1x5; unfold In at a4)))); have oc := oc_232_0; omega⟩, by (first | have a0 := oa5 i8x10x9 i8x2x9 ro_32_1 i8x2x9a i1x5 | ((first | have a0 := in_u i8x10x9 | (have a0 := i8x10x9; unfold In at a0)); (first | have a1 := in_u i8x2x9 | (have a1 := i8x2x9; unfold In at a1)); (first | have a2 := in_u ro_32_1 | (have a2 := ro_32_1; unfold In at a2)); (first | have a3 := in_u i8x2x9a | (have a3 := i8x2x9a; unfold In at a3)); (first | have a4 := in_u i1x5 | (have a4 := i1x5; unfold In at a4)))); have oc := oc_232_0; omega⟩, p21c⟩)
                    have n24a : SHG (shC s) s21 := by first | (rw [shC_n (by rw [← e1x1]; exact c1x5)]; exact p21d) | (rw [shC_d (by rw [← e1x1]; exact c1x5)]; exact p21d)
                    exact g_ireturn (gd rfl) rfl rfl (hP _ _ ⟨s21, hI21, (fr_tr rfl fr_rf hF21), z21, rfl, rfl, in_w (-2) 2000 i21 rfl, n24, n24a⟩)
                  · skip
                    exact zn_eq c11 (in_c 1 rfl) rfl

theorem oc_233_0 : (Int32.ofInt (-1)).toInt = (-1) ∧ (Int32.ofInt 0).toInt = 0 ∧ (Int32.ofInt 1).toInt = 1 := ⟨rfl, rfl, rfl⟩
/-- GraphHouse.shortArc -/
theorem f_233_0 {Z : AmZ} {A : Nat → Nat} {s : GS} {ex : va_W} {d : Nat} {x1 : Int32} {x2 : Int32} {x3 : Int32} {x4 : Int32} (hd : 24 ≤ d) (hI : Inv s) (q_0 : TQ s) (q_1 : TQD s) (q_2 : NDC s) (q_3 : SHBC s) : GC Z d 233 [.ref (A 0), .int x1, .int x2, .int x3, .int x4] (WW Z A s ++ ex) 3 18 (fun v u => ∃ t : GS, Inv t ∧ Fr fm_233_0 s t ∧ ∃ z : Int32, v = some (.int z) ∧ u = WW Z A t ++ ex ∧ In z (-2147483648) 2147483647 ∧ (((TWO (shC s).2.2.2.2.2.2.1 x1 x2) ∧ 0 ≤ x3.toInt ∧ 0 ≤ x4.toInt) ∧ True) ∧ (SHG (shC s) t)) (gEx Z A ex ([], [], [], []) s (¬ ((TWO (shC s).2.2.2.2.2.2.1 x1 x2) ∧ 0 ≤ x3.toInt ∧ 0 ≤ x4.toInt)) (False)) := by
  intro post xp hP hX
  obtain ⟨u_0_2, e_0_2⟩ : ∃ w, w = s.2.2.1 0 2 := ⟨_, rfl⟩
  have ro_0_2 := inv_F hI (-1) 4000 rfl e_0_2
  obtain ⟨u_2_1, e_2_1⟩ : ∃ w, w = s.2.2.1 2 1 := ⟨_, rfl⟩
  have ro_2_1 := inv_F hI 0 32 rfl e_2_1
  obtain ⟨u_32_1, e_32_1⟩ : ∃ w, w = s.2.2.1 32 1 := ⟨_, rfl⟩
  have ro_32_1 := inv_F hI 0 32 rfl e_32_1
  refine g_enter2 (k := 233) (N := 900) (by first | exact dq1 hd rfl | exact dq0 hd rfl | exact dq2 hd rfl | exact dq3 hd rfl | omega) rfl (Nat.le_of_ble_eq_true rfl) ?_
  refine g_aload_n 1 (gd rfl) rfl rfl ?_
  refine g_callv (X := _) (As := []) (r := []) (b := A 0) (q := 0) 4 (gd rfl) rfl rfl rfl rfl rfl (ww_o rfl) (Nat.le_of_ble_eq_true rfl) (mc := 0) (ms := 0) (Nat.zero_le _) (Nat.zero_le _) (P := fun v u => _) ?_ (fun e u h => h) (fun v u h => h)
  intro po1 xx1 hp1 hx1
  refine g_enter2 (k := 259) (N := 300) (by first | exact dq1 hd rfl | exact dq0 hd rfl | exact dq2 hd rfl | exact dq3 hd rfl | omega) rfl (Nat.le_of_ble_eq_true rfl) ?_
  refine g_aload_n 1 (gd rfl) rfl rfl ?_
  refine g_getI 4 (gd rfl) rfl rfl rfl (fun z1x1 e1x1 => ?_)
  have q1x1 : u_0_2 = z1x1 := (e_0_2).trans e1x1.symm
  subst q1x1
  refine g_iconst (-1) 5 (gd rfl) rfl rfl ?_
  refine g_cmp_ne 8 18 (gd rfl) rfl rfl (fun c1x5 => ?_) (fun c1x5 => ?_)
  · skip
    have i1x5 := r_ne1 0 4000 c1x5 ro_0_2 (in_c (-1) rfl) rfl
    refine g_aload_n 19 (gd rfl) rfl rfl ?_
    refine g_getA (q2 := 32) 22 (gd rfl) rfl rfl rfl rfl ?_
    refine g_areturn (gd rfl) rfl (hp1 _ _ ?_)
    show GG _ _ _ _ _ _ _ _ [.ref (A 32)] _ _ _
    refine g_astore 6 (gd rfl) rfl (Nat.le_of_ble_eq_true rfl) ?_
    refine g_aload 8 (gd rfl) rfl rfl ?_
    refine g_iload_n 9 (gd rfl) rfl rfl ?_
    refine g_iload_n 10 (gd rfl) rfl rfl ?_
    refine g_callv (X := _) (As := [.int x1, .int x2]) (r := []) (b := A 32) (q := 32) 13 (gd rfl) rfl rfl rfl rfl rfl (ww_o rfl) (Nat.le_of_ble_eq_true rfl) (mc := 0) (ms := 0) (Nat.zero_le _) (Nat.zero_le _) (P := fun v u => _) ?_ (fun e u h => h) (fun v u h => h)
    intro po10 xx10 hp10 hx10
    refine g_enter2 (k := 95) (N := 300) (by first | exact dq1 hd rfl | exact dq0 hd rfl | exact dq2 hd rfl | exact dq3 hd rfl | omega) rfl (Nat.le_of_ble_eq_true rfl) ?_
    refine g_aload_n 1 (gd rfl) rfl rfl ?_
    refine g_iload_n 2 (gd rfl) rfl rfl ?_
    refine g_callv (X := _) (As := [.int x1]) (r := []) (b := A 32) (q := 32) 5 (gd rfl) rfl rfl rfl rfl rfl (ww_o rfl) (Nat.le_of_ble_eq_true rfl) (mc := 0) (ms := 0) (Nat.zero_le _) (Nat.zero_le _) (P := fun v u => _) ?_ (fun e u h => h) (fun v u h => h)
    intro po10x2 xx10x2 hp10x2 hx10x2
    refine g_enter2 (k := 94) (N := 300) (by first | exact dq1 hd rfl | exact dq0 hd rfl | exact dq2 hd rfl | exact dq3 hd rfl | omega) rfl (Nat.le_of_ble_eq_true rfl) ?_
    refine g_iload_n 1 (gd rfl) rfl rfl ?_
    refine g_if_lt 4 16 (gd rfl) rfl rfl (fun c10x2x1 => ?_) (fun c10x2x1 => ?_)
    · skip
      have i10x2x1 := z_lt (-2147483648) (-1) c10x2x1 (i_rng x1) rfl
      refine g_iconst 0 17 (gd rfl) rfl rfl ?_
      refine g_ireturn (gd rfl) rfl (nb01 (in_w 0 1 (in_c 0 rfl) rfl)) (hp10x2 _ _ ?_)
      show GG _ _ _ _ _ _ _ _ [.int (Int32.ofInt 0)] _ _ _
      refine g_if_eq 8 25 (gd rfl) rfl rfl (fun c10x5 => ?_) (fun c10x5 => ?_)
      · skip
        refine g_iconst 0 26 (gd rfl) rfl rfl ?_
        refine g_ireturn (gd rfl) rfl (nb01 (in_w 0 1 (in_c 0 rfl) rfl)) (hp10 _ _ ?_)
        show GG _ _ _ _ _ _ _ _ [.int (Int32.ofInt 0)] _ _ _
        refine g_if_eq 16 29 (gd rfl) rfl rfl (fun c13 => ?_) (fun c13 => ?_)
        · skip
          refine g_iconst 0 30 (gd rfl) rfl rfl ?_
          refine g_thr (E := am_IA) (y := yX11_allow) 33 (gd rfl) rfl rfl (Or.inl ⟨rfl, rfl, rfl⟩) (by first | exact dq1 hd rfl | exact dq0 hd rfl | exact dq2 hd rfl | exact dq3 hd rfl | omega) (Nat.le_of_ble_eq_true rfl) (Nat.le_of_ble_eq_true rfl) (Nat.le_of_ble_eq_true rfl) (fun c30 => ?_) (fun c30 => ?_)
          · skip
            exact zn_ne c30 (in_c 0 rfl) rfl
          · skip
            have n30 : ¬ ((TWO (shC s).2.2.2.2.2.2.1 x1 x2) ∧ 0 ≤ x3.toInt ∧ 0 ≤ x4.toInt) := by first | (rw [shC_n (by rw [← e1x1]; exact c1x5)]; show ¬ (TWO (s.2.2.1 2 1).toInt x1 x2 ∧ 0 ≤ x3.toInt ∧ 0 ≤ x4.toInt); rw [← e_2_1]; (first | have a0 := oa4 ro_32_1 ro_2_1 i1x5 i10x2x1 | ((first | have a0 := in_u ro_32_1 | (have a0 := ro_32_1; unfold In at a0)); (first | have a1 := in_u ro_2_1 | (have a1 := ro_2_1; unfold In at a1)); (first | have a2 := in_u i1x5 | (have a2 := i1x5; unfold In at a2)); (first | have a3 := in_u i10x2x1 | (have a3 := i10x2x1; unfold In at a3)))); have oc := oc_233_0; omega) | (rw [shC_d (by rw [← e1x1]; exact c1x5)]; show ¬ (TWO (s.2.2.1 32 1).toInt x1 x2 ∧ 0 ≤ x3.toInt ∧ 0 ≤ x4.toInt); rw [← e_32_1]; (first | have a0 := oa4 ro_32_1 ro_2_1 i1x5 i10x2x1 | ((first | have a0 := in_u ro_32_1 | (have a0 := ro_32_1; unfold In at a0)); (first | have a1 := in_u ro_2_1 | (have a1 := ro_2_1; unfold In at a1)); (first | have a2 := in_u i1x5 | (have a2 := i1x5; unfold In at a2)); (first | have a3 := in_u i10x2x1 | (have a3 := i10x2x1; unfold In at a3)))); have oc := oc_233_0; omega)
            exact (hX _ _ ⟨Or.inl ⟨rfl, n30⟩, s, hI, fr_rf, rfl⟩)
        · skip
          exact zn_ne c13 (in_c 0 rfl) rfl
      · skip
        exact zn_ne c10x5 (in_c 0 rfl) rfl
    · skip
      have i10x2x1 := z_ge 0 2147483647 c10x2x1 (i_rng x1) rfl
      refine g_iload_n 5 (gd rfl) rfl rfl ?_
      refine g_aload_n 6 (gd rfl) rfl rfl ?_
      refine g_getI 9 (gd rfl) rfl rfl rfl (fun z10x2x6 e10x2x6 => ?_)
      have q10x2x6 : u_32_1 = z10x2x6 := (e_32_1).trans e10x2x6.symm
      subst q10x2x6
      refine g_cmp_ge 12 16 (gd rfl) rfl rfl (fun c10x2x9 => ?_) (fun c10x2x9 => ?_)
      · skip
        refine g_iconst 0 17 (gd rfl) rfl rfl ?_
        refine g_ireturn (gd rfl) rfl (nb01 (in_w 0 1 (in_c 0 rfl) rfl)) (hp10x2 _ _ ?_)
        show GG _ _ _ _ _ _ _ _ [.int (Int32.ofInt 0)] _ _ _
        refine g_if_eq 8 25 (gd rfl) rfl rfl (fun c10x5 => ?_) (fun c10x5 => ?_)
        · skip
          refine g_iconst 0 26 (gd rfl) rfl rfl ?_
          refine g_ireturn (gd rfl) rfl (nb01 (in_w 0 1 (in_c 0 rfl) rfl)) (hp10 _ _ ?_)
          show GG _ _ _ _ _ _ _ _ [.int (Int32.ofInt 0)] _ _ _
          refine g_if_eq 16 29 (gd rfl) rfl rfl (fun c13 => ?_) (fun c13 => ?_)
          · skip
            refine g_iconst 0 30 (gd rfl) rfl rfl ?_
            refine g_thr (E := am_IA) (y := yX11_allow) 33 (gd rfl) rfl rfl (Or.inl ⟨rfl, rfl, rfl⟩) (by first | exact dq1 hd rfl | exact dq0 hd rfl | exact dq2 hd rfl | exact dq3 hd rfl | omega) (Nat.le_of_ble_eq_true rfl) (Nat.le_of_ble_eq_true rfl) (Nat.le_of_ble_eq_true rfl) (fun c30 => ?_) (fun c30 => ?_)
            · skip
              exact zn_ne c30 (in_c 0 rfl) rfl
            · skip
              have n30 : ¬ ((TWO (shC s).2.2.2.2.2.2.1 x1 x2) ∧ 0 ≤ x3.toInt ∧ 0 ≤ x4.toInt) := by first | (rw [shC_n (by rw [← e1x1]; exact c1x5)]; show ¬ (TWO (s.2.2.1 2 1).toInt x1 x2 ∧ 0 ≤ x3.toInt ∧ 0 ≤ x4.toInt); rw [← e_2_1]; (first | have a0 := oa4 ro_32_1 ro_2_1 i1x5 i10x2x1 | ((first | have a0 := in_u ro_32_1 | (have a0 := ro_32_1; unfold In at a0)); (first | have a1 := in_u ro_2_1 | (have a1 := ro_2_1; unfold In at a1)); (first | have a2 := in_u i1x5 | (have a2 := i1x5; unfold In at a2)); (first | have a3 := in_u i10x2x1 | (have a3 := i10x2x1; unfold In at a3)))); have oc := oc_233_0; omega) | (rw [shC_d (by rw [← e1x1]; exact c1x5)]; show ¬ (TWO (s.2.2.1 32 1).toInt x1 x2 ∧ 0 ≤ x3.toInt ∧ 0 ≤ x4.toInt); rw [← e_32_1]; (first | have a0 := oa4 ro_32_1 ro_2_1 i1x5 i10x2x1 | ((first | have a0 := in_u ro_32_1 | (have a0 := ro_32_1; unfold In at a0)); (first | have a1 := in_u ro_2_1 | (have a1 := ro_2_1; unfold In at a1)); (first | have a2 := in_u i1x5 | (have a2 := i1x5; unfold In at a2)); (first | have a3 := in_u i10x2x1 | (have a3 := i10x2x1; unfold In at a3)))); have oc := oc_233_0; omega)
              exact (hX _ _ ⟨Or.inl ⟨rfl, n30⟩, s, hI, fr_rf, rfl⟩)
          · skip
            exact zn_ne c13 (in_c 0 rfl) rfl
        · skip
          exact zn_ne c10x5 (in_c 0 rfl) rfl
      · skip
        have i10x2x9 := r_lt1 0 31 c10x2x9 i10x2x1 ro_32_1 rfl
        have i10x2x9a := r_lt2 1 32 c10x2x9 i10x2x1 ro_32_1 rfl
        refine g_iconst 1 13 (gd rfl) rfl rfl ?_
        refine g_goto 17 (gd rfl) rfl ?_
        refine g_ireturn (gd rfl) rfl (nb01 (in_w 0 1 (in_c 1 rfl) rfl)) (hp10x2 _ _ ?_)
        show GG _ _ _ _ _ _ _ _ [.int (Int32.ofInt 1)] _ _ _
        refine g_if_eq 8 25 (gd rfl) rfl rfl (fun c10x5 => ?_) (fun c10x5 => ?_)
        · skip
          exact zn_eq c10x5 (in_c 1 rfl) rfl
        · skip
          refine g_aload_n 9 (gd rfl) rfl rfl ?_
          refine g_iload_n 10 (gd rfl) rfl rfl ?_
          refine g_callv (X := _) (As := [.int x2]) (r := []) (b := A 32) (q := 32) 13 (gd rfl) rfl rfl rfl rfl rfl (ww_o rfl) (Nat.le_of_ble_eq_true rfl) (mc := 0) (ms := 0) (Nat.zero_le _) (Nat.zero_le _) (P := fun v u => _) ?_ (fun e u h => h) (fun v u h => h)
          intro po10x10 xx10x10 hp10x10 hx10x10
          refine g_enter2 (k := 94) (N := 300) (by first | exact dq1 hd rfl | exact dq0 hd rfl | exact dq2 hd rfl | exact dq3 hd rfl | omega) rfl (Nat.le_of_ble_eq_true rfl) ?_
          refine g_iload_n 1 (gd rfl) rfl rfl ?_
          refine g_if_lt 4 16 (gd rfl) rfl rfl (fun c10x10x1 => ?_) (fun c10x10x1 => ?_)
          · skip
            have i10x10x1 := z_lt (-2147483648) (-1) c10x10x1 (i_rng x2) rfl
            refine g_iconst 0 17 (gd rfl) rfl rfl ?_
            refine g_ireturn (gd rfl) rfl (nb01 (in_w 0 1 (in_c 0 rfl) rfl)) (hp10x10 _ _ ?_)
            show GG _ _ _ _ _ _ _ _ [.int (Int32.ofInt 0)] _ _ _
            refine g_if_eq 16 25 (gd rfl) rfl rfl (fun c10x13 => ?_) (fun c10x13 => ?_)
            · skip
              refine g_iconst 0 26 (gd rfl) rfl rfl ?_
              refine g_ireturn (gd rfl) rfl (nb01 (in_w 0 1 (in_c 0 rfl) rfl)) (hp10 _ _ ?_)
              show GG _ _ _ _ _ _ _ _ [.int (Int32.ofInt 0)] _ _ _
              refine g_if_eq 16 29 (gd rfl) rfl rfl (fun c13 => ?_) (fun c13 => ?_)
              · skip
                refine g_iconst 0 30 (gd rfl) rfl rfl ?_
                refine g_thr (E := am_IA) (y := yX11_allow) 33 (gd rfl) rfl rfl (Or.inl ⟨rfl, rfl, rfl⟩) (by first | exact dq1 hd rfl | exact dq0 hd rfl | exact dq2 hd rfl | exact dq3 hd rfl | omega) (Nat.le_of_ble_eq_true rfl) (Nat.le_of_ble_eq_true rfl) (Nat.le_of_ble_eq_true rfl) (fun c30 => ?_) (fun c30 => ?_)
                · skip
                  exact zn_ne c30 (in_c 0 rfl) rfl
                · skip
                  have n30 : ¬ ((TWO (shC s).2.2.2.2.2.2.1 x1 x2) ∧ 0 ≤ x3.toInt ∧ 0 ≤ x4.toInt) := by first | (rw [shC_n (by rw [← e1x1]; exact c1x5)]; show ¬ (TWO (s.2.2.1 2 1).toInt x1 x2 ∧ 0 ≤ x3.toInt ∧ 0 ≤ x4.toInt); rw [← e_2_1]; (first | have a0 := oa5 i10x2x9 i10x2x9a ro_2_1 i1x5 i10x10x1 | ((first | have a0 := in_u i10x2x9 | (have a0 := i10x2x9; unfold In at a0)); (first | have a1 := in_u i10x2x9a | (have a1 := i10x2x9a; unfold In at a1)); (first | have a2 := in_u ro_2_1 | (have a2 := ro_2_1; unfold In at a2)); (first | have a3 := in_u i1x5 | (have a3 := i1x5; unfold In at a3)); (first | have a4 := in_u i10x10x1 | (have a4 := i10x10x1; unfold In at a4)))); have oc := oc_233_0; omega) | (rw [shC_d (by rw [← e1x1]; exact c1x5)]; show ¬ (TWO (s.2.2.1 32 1).toInt x1 x2 ∧ 0 ≤ x3.toInt ∧ 0 ≤ x4.toInt); rw [← e_32_1]; (first | have a0 := oa5 i10x2x9 i10x2x9a ro_2_1 i1x5 i10x10x1 | ((first | have a0 := in_u i10x2x9 | (have a0 := i10x2x9; unfold In at a0)); (first | have a1 := in_u i10x2x9a | (have a1 := i10x2x9a; unfold In at a1)); (first | have a2 := in_u ro_2_1 | (have a2 := ro_2_1; unfold In at a2)); (first | have a3 := in_u i1x5 | (have a3 := i1x5; unfold In at a3)); (first | have a4 := in_u i10x10x1 | (have a4 := i10x10x1; unfold In at a4)))); have oc := oc_233_0; omega)
                  exact (hX _ _ ⟨Or.inl ⟨rfl, n30⟩, s, hI, fr_rf, rfl⟩)
              · skip
                exact zn_ne c13 (in_c 0 rfl) rfl
            · skip
              exact zn_ne c10x13 (in_c 0 rfl) rfl
          · skip
            have i10x10x1 := z_ge 0 2147483647 c10x10x1 (i_rng x2) rfl
            refine g_iload_n 5 (gd rfl) rfl rfl ?_
            refine g_aload_n 6 (gd rfl) rfl rfl ?_
            refine g_getI 9 (gd rfl) rfl rfl rfl (fun z10x10x6 e10x10x6 => ?_)
            have q10x10x6 : u_32_1 = z10x10x6 := (e_32_1).trans e10x10x6.symm
            subst q10x10x6
            refine g_cmp_ge 12 16 (gd rfl) rfl rfl (fun c10x10x9 => ?_) (fun c10x10x9 => ?_)
            · skip
              have i10x10x9 := r_le2 1 2147483647 c10x10x9 i10x2x9a i10x10x1 rfl
              refine g_iconst 0 17 (gd rfl) rfl rfl ?_
              refine g_ireturn (gd rfl) rfl (nb01 (in_w 0 1 (in_c 0 rfl) rfl)) (hp10x10 _ _ ?_)
              show GG _ _ _ _ _ _ _ _ [.int (Int32.ofInt 0)] _ _ _
              refine g_if_eq 16 25 (gd rfl) rfl rfl (fun c10x13 => ?_) (fun c10x13 => ?_)
              · skip
                refine g_iconst 0 26 (gd rfl) rfl rfl ?_
                refine g_ireturn (gd rfl) rfl (nb01 (in_w 0 1 (in_c 0 rfl) rfl)) (hp10 _ _ ?_)
                show GG _ _ _ _ _ _ _ _ [.int (Int32.ofInt 0)] _ _ _
                refine g_if_eq 16 29 (gd rfl) rfl rfl (fun c13 => ?_) (fun c13 => ?_)
                · skip
                  refine g_iconst 0 30 (gd rfl) rfl rfl ?_
                  refine g_thr (E := am_IA) (y := yX11_allow) 33 (gd rfl) rfl rfl (Or.inl ⟨rfl, rfl, rfl⟩) (by first | exact dq1 hd rfl | exact dq0 hd rfl | exact dq2 hd rfl | exact dq3 hd rfl | omega) (Nat.le_of_ble_eq_true rfl) (Nat.le_of_ble_eq_true rfl) (Nat.le_of_ble_eq_true rfl) (fun c30 => ?_) (fun c30 => ?_)
                  · skip
                    exact zn_ne c30 (in_c 0 rfl) rfl
                  · skip
                    have n30 : ¬ ((TWO (shC s).2.2.2.2.2.2.1 x1 x2) ∧ 0 ≤ x3.toInt ∧ 0 ≤ x4.toInt) := by first | (rw [shC_n (by rw [← e1x1]; exact c1x5)]; show ¬ (TWO (s.2.2.1 2 1).toInt x1 x2 ∧ 0 ≤ x3.toInt ∧ 0 ≤ x4.toInt); rw [← e_2_1]; (first | have a0 := oa5 i10x2x9 i10x2x9a ro_2_1 i1x5 i10x10x9 | ((first | have a0 := in_u i10x2x9 | (have a0 := i10x2x9; unfold In at a0)); (first | have a1 := in_u i10x2x9a | (have a1 := i10x2x9a; unfold In at a1)); (first | have a2 := in_u ro_2_1 | (have a2 := ro_2_1; unfold In at a2)); (first | have a3 := in_u i1x5 | (have a3 := i1x5; unfold In at a3)); (first | have a4 := in_u i10x10x9 | (have a4 := i10x10x9; unfold In at a4)))); have oc := oc_233_0; omega) | (rw [shC_d (by rw [← e1x1]; exact c1x5)]; show ¬ (TWO (s.2.2.1 32 1).toInt x1 x2 ∧ 0 ≤ x3.toInt ∧ 0 ≤ x4.toInt); rw [← e_32_1]; (first | have a0 := oa5 i10x2x9 i10x2x9a ro_2_1 i1x5 i10x10x9 | ((first | have a0 := in_u i10x2x9 | (have a0 := i10x2x9; unfold In at a0)); (first | have a1 := in_u i10x2x9a | (have a1 := i10x2x9a; unfold In at a1)); (first | have a2 := in_u ro_2_1 | (have a2 := ro_2_1; unfold In at a2)); (first | have a3 := in_u i1x5 | (have a3 := i1x5; unfold In at a3)); (first | have a4 := in_u i10x10x9 | (have a4 := i10x10x9; unfold In at a4)))); have oc := oc_233_0; omega)
                    exact (hX _ _ ⟨Or.inl ⟨rfl, n30⟩, s, hI, fr_rf, rfl⟩)
                · skip
                  exact zn_ne c13 (in_c 0 rfl) rfl
              · skip
                exact zn_ne c10x13 (in_c 0 rfl) rfl
            · skip
              have i10x10x9 := r_lt1 0 31 c10x10x9 i10x10x1 i10x2x9a rfl
              refine g_iconst 1 13 (gd rfl) rfl rfl ?_
              refine g_goto 17 (gd rfl) rfl ?_
              refine g_ireturn (gd rfl) rfl (nb01 (in_w 0 1 (in_c 1 rfl) rfl)) (hp10x10 _ _ ?_)
              show GG _ _ _ _ _ _ _ _ [.int (Int32.ofInt 1)] _ _ _
              refine g_if_eq 16 25 (gd rfl) rfl rfl (fun c10x13 => ?_) (fun c10x13 => ?_)
              · skip
                exact zn_eq c10x13 (in_c 1 rfl) rfl
              · skip
                refine g_iload_n 17 (gd rfl) rfl rfl ?_
                refine g_iload_n 18 (gd rfl) rfl rfl ?_
                refine g_cmp_eq 21 25 (gd rfl) rfl rfl (fun c10x18 => ?_) (fun c10x18 => ?_)
                · skip
                  refine g_iconst 0 26 (gd rfl) rfl rfl ?_
                  refine g_ireturn (gd rfl) rfl (nb01 (in_w 0 1 (in_c 0 rfl) rfl)) (hp10 _ _ ?_)
                  show GG _ _ _ _ _ _ _ _ [.int (Int32.ofInt 0)] _ _ _
                  refine g_if_eq 16 29 (gd rfl) rfl rfl (fun c13 => ?_) (fun c13 => ?_)
                  · skip
                    refine g_iconst 0 30 (gd rfl) rfl rfl ?_
                    refine g_thr (E := am_IA) (y := yX11_allow) 33 (gd rfl) rfl rfl (Or.inl ⟨rfl, rfl, rfl⟩) (by first | exact dq1 hd rfl | exact dq0 hd rfl | exact dq2 hd rfl | exact dq3 hd rfl | omega) (Nat.le_of_ble_eq_true rfl) (Nat.le_of_ble_eq_true rfl) (Nat.le_of_ble_eq_true rfl) (fun c30 => ?_) (fun c30 => ?_)
                    · skip
                      exact zn_ne c30 (in_c 0 rfl) rfl
                    · skip
                      have n30 : ¬ ((TWO (shC s).2.2.2.2.2.2.1 x1 x2) ∧ 0 ≤ x3.toInt ∧ 0 ≤ x4.toInt) := by first | (rw [shC_n (by rw [← e1x1]; exact c1x5)]; show ¬ (TWO (s.2.2.1 2 1).toInt x1 x2 ∧ 0 ≤ x3.toInt ∧ 0 ≤ x4.toInt); rw [← e_2_1]; (first | have a0 := oa5 i10x10x9 i10x2x9 i10x2x9a ro_2_1 i1x5 | ((first | have a0 := in_u i10x10x9 | (have a0 := i10x10x9; unfold In at a0)); (first | have a1 := in_u i10x2x9 | (have a1 := i10x2x9; unfold In at a1)); (first | have a2 := in_u i10x2x9a | (have a2 := i10x2x9a; unfold In at a2)); (first | have a3 := in_u ro_2_1 | (have a3 := ro_2_1; unfold In at a3)); (first | have a4 := in_u i1x5 | (have a4 := i1x5; unfold In at a4)))); have oc := oc_233_0; omega) | (rw [shC_d (by rw [← e1x1]; exact c1x5)]; show ¬ (TWO (s.2.2.1 32 1).toInt x1 x2 ∧ 0 ≤ x3.toInt ∧ 0 ≤ x4.toInt); rw [← e_32_1]; (first | have a0 := oa5 i10x10x9 i10x2x9 i10x2x9a ro_2_1 i1x5 | ((first | have a0 := in_u i10x10x9 | (have a0 := i10x10x9; unfold In at a0)); (first | have a1 := in_u i10x2x9 | (have a1 := i10x2x9; unfold In at a1)); (first | have a2 := in_u i10x2x9a | (have a2 := i10x2x9a; unfold In at a2)); (first | have a3 := in_u ro_2_1 | (have a3 := ro_2_1; unfold In at a3)); (first | have a4 := in_u i1x5 | (have a4 := i1x5; unfold In at a4)))); have oc := oc_233_0; omega)
                      exact (hX _ _ ⟨Or.inl ⟨rfl, n30⟩, s, hI, fr_rf, rfl⟩)
                  · skip
                    exact zn_ne c13 (in_c 0 rfl) rfl
                · skip
                  refine g_iconst 1 22 (gd rfl) rfl rfl ?_
                  refine g_goto 26 (gd rfl) rfl ?_
                  refine g_ireturn (gd rfl) rfl (nb01 (in_w 0 1 (in_c 1 rfl) rfl)) (hp10 _ _ ?_)
                  show GG _ _ _ _ _ _ _ _ [.int (Int32.ofInt 1)] _ _ _
                  refine g_if_eq 16 29 (gd rfl) rfl rfl (fun c13 => ?_) (fun c13 => ?_)
                  · skip
                    exact zn_eq c13 (in_c 1 rfl) rfl
                  · skip
                    refine g_iload_n 17 (gd rfl) rfl rfl ?_
                    refine g_if_lt 20 29 (gd rfl) rfl rfl (fun c17 => ?_) (fun c17 => ?_)
                    · skip
                      have i17 := z_lt (-2147483648) (-1) c17 (i_rng x3) rfl
                      refine g_iconst 0 30 (gd rfl) rfl rfl ?_
                      refine g_thr (E := am_IA) (y := yX11_allow) 33 (gd rfl) rfl rfl (Or.inl ⟨rfl, rfl, rfl⟩) (by first | exact dq1 hd rfl | exact dq0 hd rfl | exact dq2 hd rfl | exact dq3 hd rfl | omega) (Nat.le_of_ble_eq_true rfl) (Nat.le_of_ble_eq_true rfl) (Nat.le_of_ble_eq_true rfl) (fun c30 => ?_) (fun c30 => ?_)
                      · skip
                        exact zn_ne c30 (in_c 0 rfl) rfl
                      · skip
                        have n30 : ¬ ((TWO (shC s).2.2.2.2.2.2.1 x1 x2) ∧ 0 ≤ x3.toInt ∧ 0 ≤ x4.toInt) := by first | (rw [shC_n (by rw [← e1x1]; exact c1x5)]; show ¬ (TWO (s.2.2.1 2 1).toInt x1 x2 ∧ 0 ≤ x3.toInt ∧ 0 ≤ x4.toInt); rw [← e_2_1]; (first | have a0 := oa6 i10x10x9 i10x2x9 i10x2x9a ro_2_1 i1x5 i17 | ((first | have a0 := in_u i10x10x9 | (have a0 := i10x10x9; unfold In at a0)); (first | have a1 := in_u i10x2x9 | (have a1 := i10x2x9; unfold In at a1)); (first | have a2 := in_u i10x2x9a | (have a2 := i10x2x9a; unfold In at a2)); (first | have a3 := in_u ro_2_1 | (have a3 := ro_2_1; unfold In at a3)); (first | have a4 := in_u i1x5 | (have a4 := i1x5; unfold In at a4)); (first | have a5 := in_u i17 | (have a5 := i17; unfold In at a5)))); have oc := oc_233_0; omega) | (rw [shC_d (by rw [← e1x1]; exact c1x5)]; show ¬ (TWO (s.2.2.1 32 1).toInt x1 x2 ∧ 0 ≤ x3.toInt ∧ 0 ≤ x4.toInt); rw [← e_32_1]; (first | have a0 := oa6 i10x10x9 i10x2x9 i10x2x9a ro_2_1 i1x5 i17 | ((first | have a0 := in_u i10x10x9 | (have a0 := i10x10x9; unfold In at a0)); (first | have a1 := in_u i10x2x9 | (have a1 := i10x2x9; unfold In at a1)); (first | have a2 := in_u i10x2x9a | (have a2 := i10x2x9a; unfold In at a2)); (first | have a3 := in_u ro_2_1 | (have a3 := ro_2_1; unfold In at a3)); (first | have a4 := in_u i1x5 | (have a4 := i1x5; unfold In at a4)); (first | have a5 := in_u i17 | (have a5 := i17; unfold In at a5)))); have oc := oc_233_0; omega)
                        exact (hX _ _ ⟨Or.inl ⟨rfl, n30⟩, s, hI, fr_rf, rfl⟩)
                    · skip
                      have i17 := z_ge 0 2147483647 c17 (i_rng x3) rfl
                      refine g_iload 22 (gd rfl) rfl rfl ?_
                      refine g_if_lt 25 29 (gd rfl) rfl rfl (fun c22 => ?_) (fun c22 => ?_)
                      · skip
                        have i22 := z_lt (-2147483648) (-1) c22 (i_rng x4) rfl
                        refine g_iconst 0 30 (gd rfl) rfl rfl ?_
                        refine g_thr (E := am_IA) (y := yX11_allow) 33 (gd rfl) rfl rfl (Or.inl ⟨rfl, rfl, rfl⟩) (by first | exact dq1 hd rfl | exact dq0 hd rfl | exact dq2 hd rfl | exact dq3 hd rfl | omega) (Nat.le_of_ble_eq_true rfl) (Nat.le_of_ble_eq_true rfl) (Nat.le_of_ble_eq_true rfl) (fun c30 => ?_) (fun c30 => ?_)
                        · skip
                          exact zn_ne c30 (in_c 0 rfl) rfl
                        · skip
                          have n30 : ¬ ((TWO (shC s).2.2.2.2.2.2.1 x1 x2) ∧ 0 ≤ x3.toInt ∧ 0 ≤ x4.toInt) := by first | (rw [shC_n (by rw [← e1x1]; exact c1x5)]; show ¬ (TWO (s.2.2.1 2 1).toInt x1 x2 ∧ 0 ≤ x3.toInt ∧ 0 ≤ x4.toInt); rw [← e_2_1]; (first | have a0 := oa7 i10x10x9 i10x2x9 i10x2x9a ro_2_1 i1x5 i22 i17 | ((first | have a0 := in_u i10x10x9 | (have a0 := i10x10x9; unfold In at a0)); (first | have a1 := in_u i10x2x9 | (have a1 := i10x2x9; unfold In at a1)); (first | have a2 := in_u i10x2x9a | (have a2 := i10x2x9a; unfold In at a2)); (first | have a3 := in_u ro_2_1 | (have a3 := ro_2_1; unfold In at a3)); (first | have a4 := in_u i1x5 | (have a4 := i1x5; unfold In at a4)); (first | have a5 := in_u i22 | (have a5 := i22; unfold In at a5)); (first | have a6 := in_u i17 | (have a6 := i17; unfold In at a6)))); have oc := oc_233_0; omega) | (rw [shC_d (by rw [← e1x1]; exact c1x5)]; show ¬ (TWO (s.2.2.1 32 1).toInt x1 x2 ∧ 0 ≤ x3.toInt ∧ 0 ≤ x4.toInt); rw [← e_32_1]; (first | have a0 := oa7 i10x10x9 i10x2x9 i10x2x9a ro_2_1 i1x5 i22 i17 | ((first | have a0 := in_u i10x10x9 | (have a0 := i10x10x9; unfold In at a0)); (first | have a1 := in_u i10x2x9 | (have a1 := i10x2x9; unfold In at a1)); (first | have a2 := in_u i10x2x9a | (have a2 := i10x2x9a; unfold In at a2)); (first | have a3 := in_u ro_2_1 | (have a3 := ro_2_1; unfold In at a3)); (first | have a4 := in_u i1x5 | (have a4 := i1x5; unfold In at a4)); (first | have a5 := in_u i22 | (have a5 := i22; unfold In at a5)); (first | have a6 := in_u i17 | (have a6 := i17; unfold In at a6)))); have oc := oc_233_0; omega)
                          exact (hX _ _ ⟨Or.inl ⟨rfl, n30⟩, s, hI, fr_rf, rfl⟩)
                      · skip
                        have i22 := z_ge 0 2147483647 c22 (i_rng x4) rfl
                        refine g_iconst 1 26 (gd rfl) rfl rfl ?_
                        refine g_goto 30 (gd rfl) rfl ?_
                        refine g_thr (E := am_IA) (y := yX11_allow) 33 (gd rfl) rfl rfl (Or.inl ⟨rfl, rfl, rfl⟩) (by first | exact dq1 hd rfl | exact dq0 hd rfl | exact dq2 hd rfl | exact dq3 hd rfl | omega) (Nat.le_of_ble_eq_true rfl) (Nat.le_of_ble_eq_true rfl) (Nat.le_of_ble_eq_true rfl) (fun c30 => ?_) (fun c30 => ?_)
                        · skip
                          refine g_aload_n 34 (gd rfl) rfl rfl ?_
                          refine g_getA (q2 := 49) 37 (gd rfl) rfl rfl rfl rfl ?_
                          refine g_aload 39 (gd rfl) rfl rfl ?_
                          refine g_iload_n 40 (gd rfl) rfl rfl ?_
                          refine g_iload_n 41 (gd rfl) rfl rfl ?_
                          refine g_iload_n 42 (gd rfl) rfl rfl ?_
                          refine g_iload 44 (gd rfl) rfl rfl ?_
                          have p44 : TQD s := by first | exact q_0 | exact q_1
                          have p44a : NDQ (gvD s) := by first | (rw [← shC_n (by rw [← e1x1]; exact c1x5)]; exact q_2) | (rw [← shC_d (by rw [← e1x1]; exact c1x5)]; exact q_2)
                          have p44b : SHB (gvD s) s := by first | (rw [← shC_n (by rw [← e1x1]; exact c1x5)]; exact q_3) | (rw [← shC_d (by rw [← e1x1]; exact c1x5)]; exact q_3)
                          refine g_callv (X := _) (As := [.ref (A 32), .int x1, .int x2, .int x3, .int x4]) (r := []) (b := A 49) (q := 49) 47 (gd rfl) rfl rfl rfl rfl rfl (ww_o rfl) (Nat.le_of_ble_eq_true rfl) (Nat.zero_le _) (Nat.zero_le _) (f_206_49_32 (by first | exact dq1 hd rfl | exact dq0 hd rfl | exact dq2 hd rfl | exact dq3 hd rfl | omega) hI (in_w 0 31 i10x2x9 rfl) (in_w 0 31 i10x10x9 rfl) (in_w 0 2147483647 i17 rfl) (in_w 0 2147483647 i22 rfl) p44 p44a p44b) (fun e u h => h) (fun v u h => ?_)
                          obtain ⟨s44, hI44, hF44, z44, rfl, rfl, i44, p44c⟩ := h
                          show GG _ _ _ _ _ _ _ _ [.int z44] _ _ _
                          have n47 : ((TWO (shC s).2.2.2.2.2.2.1 x1 x2) ∧ 0 ≤ x3.toInt ∧ 0 ≤ x4.toInt) ∧ True := by first | (rw [shC_n (by rw [← e1x1]; exact c1x5)]; exact ⟨⟨⟨⟨by (first | have a0 := oa7 i10x10x9 i10x2x9 i10x2x9a ro_2_1 i1x5 i22 i17 | ((first | have a0 := in_u i10x10x9 | (have a0 := i10x10x9; unfold In at a0)); (first | have a1 := in_u i10x2x9 | (have a1 := i10x2x9; unfold In at a1)); (first | have a2 := in_u i10x2x9a | (have a2 := i10x2x9a; unfold In at a2)); (first | have a3 := in_u ro_2_1 | (have a3 := ro_2_1; unfold In at a3)); (first | have a4 := in_u i1x5 | (have a4 := i1x5; unfold In at a4)); (first | have a5 := in_u i22 | (have a5 := i22; unfold In at a5)); (first | have a6 := in_u i17 | (have a6 := i17; unfold In at a6)))); have oc := oc_233_0; omega, by show x1.toInt < (s.2.2.1 2 1).toInt; rw [← e_2_1]; (first | have a0 := oa7 i10x10x9 i10x2x9 i10x2x9a ro_2_1 i1x5 i22 i17 | ((first | have a0 := in_u i10x10x9 | (have a0 := i10x10x9; unfold In at a0)); (first | have a1 := in_u i10x2x9 | (have a1 := i10x2x9; unfold In at a1)); (first | have a2 := in_u i10x2x9a | (have a2 := i10x2x9a; unfold In at a2)); (first | have a3 := in_u ro_2_1 | (have a3 := ro_2_1; unfold In at a3)); (first | have a4 := in_u i1x5 | (have a4 := i1x5; unfold In at a4)); (first | have a5 := in_u i22 | (have a5 := i22; unfold In at a5)); (first | have a6 := in_u i17 | (have a6 := i17; unfold In at a6)))); have oc := oc_233_0; omega⟩, ⟨by (first | have a0 := oa7 i10x10x9 i10x2x9 i10x2x9a ro_2_1 i1x5 i22 i17 | ((first | have a0 := in_u i10x10x9 | (have a0 := i10x10x9; unfold In at a0)); (first | have a1 := in_u i10x2x9 | (have a1 := i10x2x9; unfold In at a1)); (first | have a2 := in_u i10x2x9a | (have a2 := i10x2x9a; unfold In at a2)); (first | have a3 := in_u ro_2_1 | (have a3 := ro_2_1; unfold In at a3)); (first | have a4 := in_u i1x5 | (have a4 := i1x5; unfold In at a4)); (first | have a5 := in_u i22 | (have a5 := i22; unfold In at a5)); (first | have a6 := in_u i17 | (have a6 := i17; unfold In at a6)))); have oc := oc_233_0; omega, by show x2.toInt < (s.2.2.1 2 1).toInt; rw [← e_2_1]; (first | have a0 := oa7 i10x10x9 i10x2x9 i10x2x9a ro_2_1 i1x5 i22 i17 | ((first | have a0 := in_u i10x10x9 | (have a0 := i10x10x9; unfold In at a0)); (first | have a1 := in_u i10x2x9 | (have a1 := i10x2x9; unfold In at a1)); (first | have a2 := in_u i10x2x9a | (have a2 := i10x2x9a; unfold In at a2)); (first | have a3 := in_u ro_2_1 | (have a3 := ro_2_1; unfold In at a3)); (first | have a4 := in_u i1x5 | (have a4 := i1x5; unfold In at a4)); (first | have a5 := in_u i22 | (have a5 := i22; unfold In at a5)); (first | have a6 := in_u i17 | (have a6 := i17; unfold In at a6)))); have oc := oc_233_0; omega⟩, by (first | have a0 := oa7 i10x10x9 i10x2x9 i10x2x9a ro_2_1 i1x5 i22 i17 | ((first | have a0 := in_u i10x10x9 | (have a0 := i10x10x9; unfold In at a0)); (first | have a1 := in_u i10x2x9 | (have a1 := i10x2x9; unfold In at a1)); (first | have a2 := in_u i10x2x9a | (have a2 := i10x2x9a; unfold In at a2)); (first | have a3 := in_u ro_2_1 | (have a3 := ro_2_1; unfold In at a3)); (first | have a4 := in_u i1x5 | (have a4 := i1x5; unfold In at a4)); (first | have a5 := in_u i22 | (have a5 := i22; unfold In at a5)); (first | have a6 := in_u i17 | (have a6 := i17; unfold In at a6)))); have oc := oc_233_0; omega⟩, by (first | have a0 := oa7 i10x10x9 i10x2x9 i10x2x9a ro_2_1 i1x5 i22 i17 | ((first | have a0 := in_u i10x10x9 | (have a0 := i10x10x9; unfold In at a0)); (first | have a1 := in_u i10x2x9 | (have a1 := i10x2x9; unfold In at a1)); (first | have a2 := in_u i10x2x9a | (have a2 := i10x2x9a; unfold In at a2)); (first | have a3 := in_u ro_2_1 | (have a3 := ro_2_1; unfold In at a3)); (first | have a4 := in_u i1x5 | (have a4 := i1x5; unfold In at a4)); (first | have a5 := in_u i22 | (have a5 := i22; unfold In at a5)); (first | have a6 := in_u i17 | (have a6 := i17; unfold In at a6)))); have oc := oc_233_0; omega, by (first | have a0 := oa7 i10x10x9 i10x2x9 i10x2x9a ro_2_1 i1x5 i22 i17 | ((first | have a0 := in_u i10x10x9 | (have a0 := i10x10x9; unfold In at a0)); (first | have a1 := in_u i10x2x9 | (have a1 := i10x2x9; unfold In at a1)); (first | have a2 := in_u i10x2x9a | (have a2 := i10x2x9a; unfold In at a2)); (first | have a3 := in_u ro_2_1 | (have a3 := ro_2_1; unfold In at a3)); (first | have a4 := in_u i1x5 | (have a4 := i1x5; unfold In at a4)); (first | have a5 := in_u i22 | (have a5 := i22; unfold In at a5)); (first | have a6 := in_u i17 | (have a6 := i17; unfold In at a6)))); have oc := oc_233_0; omega⟩, trivial⟩) | (rw [shC_d (by rw [← e1x1]; exact c1x5)]; exact ⟨⟨⟨⟨by (first | have a0 := oa7 i10x10x9 i10x2x9 i10x2x9a ro_2_1 i1x5 i22 i17 | ((first | have a0 := in_u i10x10x9 | (have a0 := i10x10x9; unfold In at a0)); (first | have a1 := in_u i10x2x9 | (have a1 := i10x2x9; unfold In at a1)); (first | have a2 := in_u i10x2x9a | (have a2 := i10x2x9a; unfold In at a2)); (first | have a3 := in_u ro_2_1 | (have a3 := ro_2_1; unfold In at a3)); (first | have a4 := in_u i1x5 | (have a4 := i1x5; unfold In at a4)); (first | have a5 := in_u i22 | (have a5 := i22; unfold In at a5)); (first | have a6 := in_u i17 | (have a6 := i17; unfold In at a6)))); have oc := oc_233_0; omega, by show x1.toInt < (s.2.2.1 32 1).toInt; rw [← e_32_1]; (first | have a0 := oa7 i10x10x9 i10x2x9 i10x2x9a ro_2_1 i1x5 i22 i17 | ((first | have a0 := in_u i10x10x9 | (have a0 := i10x10x9; unfold In at a0)); (first | have a1 := in_u i10x2x9 | (have a1 := i10x2x9; unfold In at a1)); (first | have a2 := in_u i10x2x9a | (have a2 := i10x2x9a; unfold In at a2)); (first | have a3 := in_u ro_2_1 | (have a3 := ro_2_1; unfold In at a3)); (first | have a4 := in_u i1x5 | (have a4 := i1x5; unfold In at a4)); (first | have a5 := in_u i22 | (have a5 := i22; unfold In at a5)); (first | have a6 := in_u i17 | (have a6 := i17; unfold In at a6)))); have oc := oc_233_0; omega⟩, ⟨by (first | have a0 := oa7 i10x10x9 i10x2x9 i10x2x9a ro_2_1 i1x5 i22 i17 | ((first | have a0 := in_u i10x10x9 | (have a0 := i10x10x9; unfold In at a0)); (first | have a1 := in_u i10x2x9 | (have a1 := i10x2x9; unfold In at a1)); (first | have a2 := in_u i10x2x9a | (have a2 := i10x2x9a; unfold In at a2)); (first | have a3 := in_u ro_2_1 | (have a3 := ro_2_1; unfold In at a3)); (first | have a4 := in_u i1x5 | (have a4 := i1x5; unfold In at a4)); (first | have a5 := in_u i22 | (have a5 := i22; unfold In at a5)); (first | have a6 := in_u i17 | (have a6 := i17; unfold In at a6)))); have oc := oc_233_0; omega, by show x2.toInt < (s.2.2.1 32 1).toInt; rw [← e_32_1]; (first | have a0 := oa7 i10x10x9 i10x2x9 i10x2x9a ro_2_1 i1x5 i22 i17 | ((first | have a0 := in_u i10x10x9 | (have a0 := i10x10x9; unfold In at a0)); (first | have a1 := in_u i10x2x9 | (have a1 := i10x2x9; unfold In at a1)); (first | have a2 := in_u i10x2x9a | (have a2 := i10x2x9a; unfold In at a2)); (first | have a3 := in_u ro_2_1 | (have a3 := ro_2_1; unfold In at a3)); (first | have a4 := in_u i1x5 | (have a4 := i1x5; unfold In at a4)); (first | have a5 := in_u i22 | (have a5 := i22; unfold In at a5)); (first | have a6 := in_u i17 | (have a6 := i17; unfold In at a6)))); have oc := oc_233_0; omega⟩, by (first | have a0 := oa7 i10x10x9 i10x2x9 i10x2x9a ro_2_1 i1x5 i22 i17 | ((first | have a0 := in_u i10x10x9 | (have a0 := i10x10x9; unfold In at a0)); (first | have a1 := in_u i10x2x9 | (have a1 := i10x2x9; unfold In at a1)); (first | have a2 := in_u i10x2x9a | (have a2 := i10x2x9a; unfold In at a2)); (first | have a3 := in_u ro_2_1 | (have a3 := ro_2_1; unfold In at a3)); (first | have a4 := in_u i1x5 | (have a4 := i1x5; unfold In at a4)); (first | have a5 := in_u i22 | (have a5 := i22; unfold In at a5)); (first | have a6 := in_u i17 | (have a6 := i17; unfold In at a6)))); have oc := oc_233_0; omega⟩, by (first | have a0 := oa7 i10x10x9 i10x2x9 i10x2x9a ro_2_1 i1x5 i22 i17 | ((first | have a0 := in_u i10x10x9 | (have a0 := i10x10x9; unfold In at a0)); (first | have a1 := in_u i10x2x9 | (have a1 := i10x2x9; unfold In at a1)); (first | have a2 := in_u i10x2x9a | (have a2 := i10x2x9a; unfold In at a2)); (first | have a3 := in_u ro_2_1 | (have a3 := ro_2_1; unfold In at a3)); (first | have a4 := in_u i1x5 | (have a4 := i1x5; unfold In at a4)); (first | have a5 := in_u i22 | (have a5 := i22; unfold In at a5)); (first | have a6 := in_u i17 | (have a6 := i17; unfold In at a6)))); have oc := oc_233_0; omega, by (first | have a0 := oa7 i10x10x9 i10x2x9 i10x2x9a ro_2_1 i1x5 i22 i17 | ((first | have a0 := in_u i10x10x9 | (have a0 := i10x10x9; unfold In at a0)); (first | have a1 := in_u i10x2x9 | (have a1 := i10x2x9; unfold In at a1)); (first | have a2 := in_u i10x2x9a | (have a2 := i10x2x9a; unfold In at a2)); (first | have a3 := in_u ro_2_1 | (have a3 := ro_2_1; unfold In at a3)); (first | have a4 := in_u i1x5 | (have a4 := i1x5; unfold In at a4)); (first | have a5 := in_u i22 | (have a5 := i22; unfold In at a5)); (first | have a6 := in_u i17 | (have a6 := i17; unfold In at a6)))); have oc := oc_233_0; omega⟩, trivial⟩)
                          have n47a : SHG (shC s) s44 := by first | (rw [shC_n (by rw [← e1x1]; exact c1x5)]; exact p44c) | (rw [shC_d (by rw [← e1x1]; exact c1x5)]; exact p44c)
                          exact g_ireturn (gd rfl) rfl rfl (hP _ _ ⟨s44, hI44, (fr_tr rfl fr_rf hF44), z44, rfl, rfl, in_w (-2147483648) 2147483647 i44 rfl, n47, n47a⟩)
                        · skip
                          exact zn_eq c30 (in_c 1 rfl) rfl
  · skip
    have i1x5 := r_eq1 (-1) (-1) c1x5 ro_0_2 (in_c (-1) rfl) rfl
    refine g_aload_n 9 (gd rfl) rfl rfl ?_
    refine g_getA (q2 := 1) 12 (gd rfl) rfl rfl rfl rfl ?_
    refine g_getA (q2 := 2) 15 (gd rfl) rfl rfl rfl rfl ?_
    refine g_goto 22 (gd rfl) rfl ?_
    refine g_areturn (gd rfl) rfl (hp1 _ _ ?_)
    show GG _ _ _ _ _ _ _ _ [.ref (A 2)] _ _ _
    refine g_astore 6 (gd rfl) rfl (Nat.le_of_ble_eq_true rfl) ?_
    refine g_aload 8 (gd rfl) rfl rfl ?_
    refine g_iload_n 9 (gd rfl) rfl rfl ?_
    refine g_iload_n 10 (gd rfl) rfl rfl ?_
    refine g_callv (X := _) (As := [.int x1, .int x2]) (r := []) (b := A 2) (q := 2) 13 (gd rfl) rfl rfl rfl rfl rfl (ww_o rfl) (Nat.le_of_ble_eq_true rfl) (mc := 0) (ms := 0) (Nat.zero_le _) (Nat.zero_le _) (P := fun v u => _) ?_ (fun e u h => h) (fun v u h => h)
    intro po10 xx10 hp10 hx10
    refine g_enter2 (k := 95) (N := 300) (by first | exact dq1 hd rfl | exact dq0 hd rfl | exact dq2 hd rfl | exact dq3 hd rfl | omega) rfl (Nat.le_of_ble_eq_true rfl) ?_
    refine g_aload_n 1 (gd rfl) rfl rfl ?_
    refine g_iload_n 2 (gd rfl) rfl rfl ?_
    refine g_callv (X := _) (As := [.int x1]) (r := []) (b := A 2) (q := 2) 5 (gd rfl) rfl rfl rfl rfl rfl (ww_o rfl) (Nat.le_of_ble_eq_true rfl) (mc := 0) (ms := 0) (Nat.zero_le _) (Nat.zero_le _) (P := fun v u => _) ?_ (fun e u h => h) (fun v u h => h)
    intro po10x2 xx10x2 hp10x2 hx10x2
    refine g_enter2 (k := 94) (N := 300) (by first | exact dq1 hd rfl | exact dq0 hd rfl | exact dq2 hd rfl | exact dq3 hd rfl | omega) rfl (Nat.le_of_ble_eq_true rfl) ?_
    refine g_iload_n 1 (gd rfl) rfl rfl ?_
    refine g_if_lt 4 16 (gd rfl) rfl rfl (fun c10x2x1 => ?_) (fun c10x2x1 => ?_)
    · skip
      have i10x2x1 := z_lt (-2147483648) (-1) c10x2x1 (i_rng x1) rfl
      refine g_iconst 0 17 (gd rfl) rfl rfl ?_
      refine g_ireturn (gd rfl) rfl (nb01 (in_w 0 1 (in_c 0 rfl) rfl)) (hp10x2 _ _ ?_)
      show GG _ _ _ _ _ _ _ _ [.int (Int32.ofInt 0)] _ _ _
      refine g_if_eq 8 25 (gd rfl) rfl rfl (fun c10x5 => ?_) (fun c10x5 => ?_)
      · skip
        refine g_iconst 0 26 (gd rfl) rfl rfl ?_
        refine g_ireturn (gd rfl) rfl (nb01 (in_w 0 1 (in_c 0 rfl) rfl)) (hp10 _ _ ?_)
        show GG _ _ _ _ _ _ _ _ [.int (Int32.ofInt 0)] _ _ _
        refine g_if_eq 16 29 (gd rfl) rfl rfl (fun c13 => ?_) (fun c13 => ?_)
        · skip
          refine g_iconst 0 30 (gd rfl) rfl rfl ?_
          refine g_thr (E := am_IA) (y := yX11_allow) 33 (gd rfl) rfl rfl (Or.inl ⟨rfl, rfl, rfl⟩) (by first | exact dq1 hd rfl | exact dq0 hd rfl | exact dq2 hd rfl | exact dq3 hd rfl | omega) (Nat.le_of_ble_eq_true rfl) (Nat.le_of_ble_eq_true rfl) (Nat.le_of_ble_eq_true rfl) (fun c30 => ?_) (fun c30 => ?_)
          · skip
            exact zn_ne c30 (in_c 0 rfl) rfl
          · skip
            have n30 : ¬ ((TWO (shC s).2.2.2.2.2.2.1 x1 x2) ∧ 0 ≤ x3.toInt ∧ 0 ≤ x4.toInt) := by first | (rw [shC_n (by rw [← e1x1]; exact c1x5)]; show ¬ (TWO (s.2.2.1 2 1).toInt x1 x2 ∧ 0 ≤ x3.toInt ∧ 0 ≤ x4.toInt); rw [← e_2_1]; (first | have a0 := oa4 ro_32_1 ro_2_1 i1x5 i10x2x1 | ((first | have a0 := in_u ro_32_1 | (have a0 := ro_32_1; unfold In at a0)); (first | have a1 := in_u ro_2_1 | (have a1 := ro_2_1; unfold In at a1)); (first | have a2 := in_u i1x5 | (have a2 := i1x5; unfold In at a2)); (first | have a3 := in_u i10x2x1 | (have a3 := i10x2x1; unfold In at a3)))); have oc := oc_233_0; omega) | (rw [shC_d (by rw [← e1x1]; exact c1x5)]; show ¬ (TWO (s.2.2.1 32 1).toInt x1 x2 ∧ 0 ≤ x3.toInt ∧ 0 ≤ x4.toInt); rw [← e_32_1]; (first | have a0 := oa4 ro_32_1 ro_2_1 i1x5 i10x2x1 | ((first | have a0 := in_u ro_32_1 | (have a0 := ro_32_1; unfold In at a0)); (first | have a1 := in_u ro_2_1 | (have a1 := ro_2_1; unfold In at a1)); (first | have a2 := in_u i1x5 | (have a2 := i1x5; unfold In at a2)); (first | have a3 := in_u i10x2x1 | (have a3 := i10x2x1; unfold In at a3)))); have oc := oc_233_0; omega)
            exact (hX _ _ ⟨Or.inl ⟨rfl, n30⟩, s, hI, fr_rf, rfl⟩)
        · skip
          exact zn_ne c13 (in_c 0 rfl) rfl
      · skip
        exact zn_ne c10x5 (in_c 0 rfl) rfl
    · skip
      have i10x2x1 := z_ge 0 2147483647 c10x2x1 (i_rng x1) rfl
      refine g_iload_n 5 (gd rfl) rfl rfl ?_
      refine g_aload_n 6 (gd rfl) rfl rfl ?_
      refine g_getI 9 (gd rfl) rfl rfl rfl (fun z10x2x6 e10x2x6 => ?_)
      have q10x2x6 : u_2_1 = z10x2x6 := (e_2_1).trans e10x2x6.symm
      subst q10x2x6
      refine g_cmp_ge 12 16 (gd rfl) rfl rfl (fun c10x2x9 => ?_) (fun c10x2x9 => ?_)
      · skip
        refine g_iconst 0 17 (gd rfl) rfl rfl ?_
        refine g_ireturn (gd rfl) rfl (nb01 (in_w 0 1 (in_c 0 rfl) rfl)) (hp10x2 _ _ ?_)
        show GG _ _ _ _ _ _ _ _ [.int (Int32.ofInt 0)] _ _ _
        refine g_if_eq 8 25 (gd rfl) rfl rfl (fun c10x5 => ?_) (fun c10x5 => ?_)
        · skip
          refine g_iconst 0 26 (gd rfl) rfl rfl ?_
          refine g_ireturn (gd rfl) rfl (nb01 (in_w 0 1 (in_c 0 rfl) rfl)) (hp10 _ _ ?_)
          show GG _ _ _ _ _ _ _ _ [.int (Int32.ofInt 0)] _ _ _
          refine g_if_eq 16 29 (gd rfl) rfl rfl (fun c13 => ?_) (fun c13 => ?_)
          · skip
            refine g_iconst 0 30 (gd rfl) rfl rfl ?_
            refine g_thr (E := am_IA) (y := yX11_allow) 33 (gd rfl) rfl rfl (Or.inl ⟨rfl, rfl, rfl⟩) (by first | exact dq1 hd rfl | exact dq0 hd rfl | exact dq2 hd rfl | exact dq3 hd rfl | omega) (Nat.le_of_ble_eq_true rfl) (Nat.le_of_ble_eq_true rfl) (Nat.le_of_ble_eq_true rfl) (fun c30 => ?_) (fun c30 => ?_)
            · skip
              exact zn_ne c30 (in_c 0 rfl) rfl
            · skip
              have n30 : ¬ ((TWO (shC s).2.2.2.2.2.2.1 x1 x2) ∧ 0 ≤ x3.toInt ∧ 0 ≤ x4.toInt) := by first | (rw [shC_n (by rw [← e1x1]; exact c1x5)]; show ¬ (TWO (s.2.2.1 2 1).toInt x1 x2 ∧ 0 ≤ x3.toInt ∧ 0 ≤ x4.toInt); rw [← e_2_1]; (first | have a0 := oa4 ro_32_1 ro_2_1 i1x5 i10x2x1 | ((first | have a0 := in_u ro_32_1 | (have a0 := ro_32_1; unfold In at a0)); (first | have a1 := in_u ro_2_1 | (have a1 := ro_2_1; unfold In at a1)); (first | have a2 := in_u i1x5 | (have a2 := i1x5; unfold In at a2)); (first | have a3 := in_u i10x2x1 | (have a3 := i10x2x1; unfold In at a3)))); have oc := oc_233_0; omega) | (rw [shC_d (by rw [← e1x1]; exact c1x5)]; show ¬ (TWO (s.2.2.1 32 1).toInt x1 x2 ∧ 0 ≤ x3.toInt ∧ 0 ≤ x4.toInt); rw [← e_32_1]; (first | have a0 := oa4 ro_32_1 ro_2_1 i1x5 i10x2x1 | ((first | have a0 := in_u ro_32_1 | (have a0 := ro_32_1; unfold In at a0)); (first | have a1 := in_u ro_2_1 | (have a1 := ro_2_1; unfold In at a1)); (first | have a2 := in_u i1x5 | (have a2 := i1x5; unfold In at a2)); (first | have a3 := in_u i10x2x1 | (have a3 := i10x2x1; unfold In at a3)))); have oc := oc_233_0; omega)
              exact (hX _ _ ⟨Or.inl ⟨rfl, n30⟩, s, hI, fr_rf, rfl⟩)
          · skip
            exact zn_ne c13 (in_c 0 rfl) rfl
        · skip
          exact zn_ne c10x5 (in_c 0 rfl) rfl
      · skip
        have i10x2x9 := r_lt1 0 31 c10x2x9 i10x2x1 ro_2_1 rfl
        have i10x2x9a := r_lt2 1 32 c10x2x9 i10x2x1 ro_2_1 rfl
        refine g_iconst 1 13 (gd rfl) rfl rfl ?_
        refine g_goto 17 (gd rfl) rfl ?_
        refine g_ireturn (gd rfl) rfl (nb01 (in_w 0 1 (in_c 1 rfl) rfl)) (hp10x2 _ _ ?_)
        show GG _ _ _ _ _ _ _ _ [.int (Int32.ofInt 1)] _ _ _
        refine g_if_eq 8 25 (gd rfl) rfl rfl (fun c10x5 => ?_) (fun c10x5 => ?_)
        · skip
          exact zn_eq c10x5 (in_c 1 rfl) rfl
        · skip
          refine g_aload_n 9 (gd rfl) rfl rfl ?_
          refine g_iload_n 10 (gd rfl) rfl rfl ?_
          refine g_callv (X := _) (As := [.int x2]) (r := []) (b := A 2) (q := 2) 13 (gd rfl) rfl rfl rfl rfl rfl (ww_o rfl) (Nat.le_of_ble_eq_true rfl) (mc := 0) (ms := 0) (Nat.zero_le _) (Nat.zero_le _) (P := fun v u => _) ?_ (fun e u h => h) (fun v u h => h)
          intro po10x10 xx10x10 hp10x10 hx10x10
          refine g_enter2 (k := 94) (N := 300) (by first | exact dq1 hd rfl | exact dq0 hd rfl | exact dq2 hd rfl | exact dq3 hd rfl | omega) rfl (Nat.le_of_ble_eq_true rfl) ?_
          refine g_iload_n 1 (gd rfl) rfl rfl ?_
          refine g_if_lt 4 16 (gd rfl) rfl rfl (fun c10x10x1 => ?_) (fun c10x10x1 => ?_)
          · skip
            have i10x10x1 := z_lt (-2147483648) (-1) c10x10x1 (i_rng x2) rfl
            refine g_iconst 0 17 (gd rfl) rfl rfl ?_
            refine g_ireturn (gd rfl) rfl (nb01 (in_w 0 1 (in_c 0 rfl) rfl)) (hp10x10 _ _ ?_)
            show GG _ _ _ _ _ _ _ _ [.int (Int32.ofInt 0)] _ _ _
            refine g_if_eq 16 25 (gd rfl) rfl rfl (fun c10x13 => ?_) (fun c10x13 => ?_)
            · skip
              refine g_iconst 0 26 (gd rfl) rfl rfl ?_
              refine g_ireturn (gd rfl) rfl (nb01 (in_w 0 1 (in_c 0 rfl) rfl)) (hp10 _ _ ?_)
              show GG _ _ _ _ _ _ _ _ [.int (Int32.ofInt 0)] _ _ _
              refine g_if_eq 16 29 (gd rfl) rfl rfl (fun c13 => ?_) (fun c13 => ?_)
              · skip
                refine g_iconst 0 30 (gd rfl) rfl rfl ?_
                refine g_thr (E := am_IA) (y := yX11_allow) 33 (gd rfl) rfl rfl (Or.inl ⟨rfl, rfl, rfl⟩) (by first | exact dq1 hd rfl | exact dq0 hd rfl | exact dq2 hd rfl | exact dq3 hd rfl | omega) (Nat.le_of_ble_eq_true rfl) (Nat.le_of_ble_eq_true rfl) (Nat.le_of_ble_eq_true rfl) (fun c30 => ?_) (fun c30 => ?_)
                · skip
                  exact zn_ne c30 (in_c 0 rfl) rfl
                · skip
                  have n30 : ¬ ((TWO (shC s).2.2.2.2.2.2.1 x1 x2) ∧ 0 ≤ x3.toInt ∧ 0 ≤ x4.toInt) := by first | (rw [shC_n (by rw [← e1x1]; exact c1x5)]; show ¬ (TWO (s.2.2.1 2 1).toInt x1 x2 ∧ 0 ≤ x3.toInt ∧ 0 ≤ x4.toInt); rw [← e_2_1]; (first | have a0 := oa5 i10x2x9 ro_32_1 i10x2x9a i1x5 i10x10x1 | ((first | have a0 := in_u i10x2x9 | (have a0 := i10x2x9; unfold In at a0)); (first | have a1 := in_u ro_32_1 | (have a1 := ro_32_1; unfold In at a1)); (first | have a2 := in_u i10x2x9a | (have a2 := i10x2x9a; unfold In at a2)); (first | have a3 := in_u i1x5 | (have a3 := i1x5; unfold In at a3)); (first | have a4 := in_u i10x10x1 | (have a4 := i10x10x1; unfold In at a4)))); have oc := oc_233_0; omega) | (rw [shC_d (by rw [← e1x1]; exact c1x5)]; show ¬ (TWO (s.2.2.1 32 1).toInt x1 x2 ∧ 0 ≤ x3.toInt ∧ 0 ≤ x4.toInt); rw [← e_32_1]; (first | have a0 := oa5 i10x2x9 ro_32_1 i10x2x9a i1x5 i10x10x1 | ((first | have a0 := in_u i10x2x9 | (have a0 := i10x2x9; unfold In at a0)); (first | have a1 := in_u ro_32_1 | (have a1 := ro_32_1; unfold In at a1)); (first | have a2 := in_u i10x2x9a | (have a2 := i10x2x9a; unfold In at a2)); (first | have a3 := in_u i1x5 | (have a3 := i1x5; unfold In at a3)); (first | have a4 := in_u i10x10x1 | (have a4 := i10x10x1; unfold In at a4)))); have oc := oc_233_0; omega)
                  exact (hX _ _ ⟨Or.inl ⟨rfl, n30⟩, s, hI, fr_rf, rfl⟩)
              · skip
                exact zn_ne c13 (in_c 0 rfl) rfl
            · skip
              exact zn_ne c10x13 (in_c 0 rfl) rfl
          · skip
            have i10x10x1 := z_ge 0 2147483647 c10x10x1 (i_rng x2) rfl
            refine g_iload_n 5 (gd rfl) rfl rfl ?_
            refine g_aload_n 6 (gd rfl) rfl rfl ?_
            refine g_getI 9 (gd rfl) rfl rfl rfl (fun z10x10x6 e10x10x6 => ?_)
            have q10x10x6 : u_2_1 = z10x10x6 := (e_2_1).trans e10x10x6.symm
            subst q10x10x6
            refine g_cmp_ge 12 16 (gd rfl) rfl rfl (fun c10x10x9 => ?_) (fun c10x10x9 => ?_)
            · skip
              have i10x10x9 := r_le2 1 2147483647 c10x10x9 i10x2x9a i10x10x1 rfl
              refine g_iconst 0 17 (gd rfl) rfl rfl ?_
              refine g_ireturn (gd rfl) rfl (nb01 (in_w 0 1 (in_c 0 rfl) rfl)) (hp10x10 _ _ ?_)
              show GG _ _ _ _ _ _ _ _ [.int (Int32.ofInt 0)] _ _ _
              refine g_if_eq 16 25 (gd rfl) rfl rfl (fun c10x13 => ?_) (fun c10x13 => ?_)
              · skip
                refine g_iconst 0 26 (gd rfl) rfl rfl ?_
                refine g_ireturn (gd rfl) rfl (nb01 (in_w 0 1 (in_c 0 rfl) rfl)) (hp10 _ _ ?_)
                show GG _ _ _ _ _ _ _ _ [.int (Int32.ofInt 0)] _ _ _
                refine g_if_eq 16 29 (gd rfl) rfl rfl (fun c13 => ?_) (fun c13 => ?_)
                · skip
                  refine g_iconst 0 30 (gd rfl) rfl rfl ?_
                  refine g_thr (E := am_IA) (y := yX11_allow) 33 (gd rfl) rfl rfl (Or.inl ⟨rfl, rfl, rfl⟩) (by first | exact dq1 hd rfl | exact dq0 hd rfl | exact dq2 hd rfl | exact dq3 hd rfl | omega) (Nat.le_of_ble_eq_true rfl) (Nat.le_of_ble_eq_true rfl) (Nat.le_of_ble_eq_true rfl) (fun c30 => ?_) (fun c30 => ?_)
                  · skip
                    exact zn_ne c30 (in_c 0 rfl) rfl
                  · skip
                    have n30 : ¬ ((TWO (shC s).2.2.2.2.2.2.1 x1 x2) ∧ 0 ≤ x3.toInt ∧ 0 ≤ x4.toInt) := by first | (rw [shC_n (by rw [← e1x1]; exact c1x5)]; show ¬ (TWO (s.2.2.1 2 1).toInt x1 x2 ∧ 0 ≤ x3.toInt ∧ 0 ≤ x4.toInt); rw [← e_2_1]; (first | have a0 := oa5 i10x2x9 ro_32_1 i10x2x9a i1x5 i10x10x9 | ((first | have a0 := in_u i10x2x9 | (have a0 := i10x2x9; unfold In at a0)); (first | have a1 := in_u ro_32_1 | (have a1 := ro_32_1; unfold In at a1)); (first | have a2 := in_u i10x2x9a | (have a2 := i10x2x9a; unfold In at a2)); (first | have a3 := in_u i1x5 | (have a3 := i1x5; unfold In at a3)); (first | have a4 := in_u i10x10x9 | (have a4 := i10x10x9; unfold In at a4)))); have oc := oc_233_0; omega) | (rw [shC_d (by rw [← e1x1]; exact c1x5)]; show ¬ (TWO (s.2.2.1 32 1).toInt x1 x2 ∧ 0 ≤ x3.toInt ∧ 0 ≤ x4.toInt); rw [← e_32_1]; (first | have a0 := oa5 i10x2x9 ro_32_1 i10x2x9a i1x5 i10x10x9 | ((first | have a0 := in_u i10x2x9 | (have a0 := i10x2x9; unfold In at a0)); (first | have a1 := in_u ro_32_1 | (have a1 := ro_32_1; unfold In at a1)); (first | have a2 := in_u i10x2x9a | (have a2 := i10x2x9a; unfold In at a2)); (first | have a3 := in_u i1x5 | (have a3 := i1x5; unfold In at a3)); (first | have a4 := in_u i10x10x9 | (have a4 := i10x10x9; unfold In at a4)))); have oc := oc_233_0; omega)
                    exact (hX _ _ ⟨Or.inl ⟨rfl, n30⟩, s, hI, fr_rf, rfl⟩)
                · skip
                  exact zn_ne c13 (in_c 0 rfl) rfl
              · skip
                exact zn_ne c10x13 (in_c 0 rfl) rfl
            · skip
              have i10x10x9 := r_lt1 0 31 c10x10x9 i10x10x1 i10x2x9a rfl
              refine g_iconst 1 13 (gd rfl) rfl rfl ?_
              refine g_goto 17 (gd rfl) rfl ?_
              refine g_ireturn (gd rfl) rfl (nb01 (in_w 0 1 (in_c 1 rfl) rfl)) (hp10x10 _ _ ?_)
              show GG _ _ _ _ _ _ _ _ [.int (Int32.ofInt 1)] _ _ _
              refine g_if_eq 16 25 (gd rfl) rfl rfl (fun c10x13 => ?_) (fun c10x13 => ?_)
              · skip
                exact zn_eq c10x13 (in_c 1 rfl) rfl
              · skip
                refine g_iload_n 17 (gd rfl) rfl rfl ?_
                refine g_iload_n 18 (gd rfl) rfl rfl ?_
                refine g_cmp_eq 21 25 (gd rfl) rfl rfl (fun c10x18 => ?_) (fun c10x18 => ?_)
                · skip
                  refine g_iconst 0 26 (gd rfl) rfl rfl ?_
                  refine g_ireturn (gd rfl) rfl (nb01 (in_w 0 1 (in_c 0 rfl) rfl)) (hp10 _ _ ?_)
                  show GG _ _ _ _ _ _ _ _ [.int (Int32.ofInt 0)] _ _ _
                  refine g_if_eq 16 29 (gd rfl) rfl rfl (fun c13 => ?_) (fun c13 => ?_)
                  · skip
                    refine g_iconst 0 30 (gd rfl) rfl rfl ?_
                    refine g_thr (E := am_IA) (y := yX11_allow) 33 (gd rfl) rfl rfl (Or.inl ⟨rfl, rfl, rfl⟩) (by first | exact dq1 hd rfl | exact dq0 hd rfl | exact dq2 hd rfl | exact dq3 hd rfl | omega) (Nat.le_of_ble_eq_true rfl) (Nat.le_of_ble_eq_true rfl) (Nat.le_of_ble_eq_true rfl) (fun c30 => ?_) (fun c30 => ?_)
                    · skip
                      exact zn_ne c30 (in_c 0 rfl) rfl
                    · skip
                      have n30 : ¬ ((TWO (shC s).2.2.2.2.2.2.1 x1 x2) ∧ 0 ≤ x3.toInt ∧ 0 ≤ x4.toInt) := by first | (rw [shC_n (by rw [← e1x1]; exact c1x5)]; show ¬ (TWO (s.2.2.1 2 1).toInt x1 x2 ∧ 0 ≤ x3.toInt ∧ 0 ≤ x4.toInt); rw [← e_2_1]; (first | have a0 := oa5 i10x10x9 i10x2x9 ro_32_1 i10x2x9a i1x5 | ((first | have a0 := in_u i10x10x9 | (have a0 := i10x10x9; unfold In at a0)); (first | have a1 := in_u i10x2x9 | (have a1 := i10x2x9; unfold In at a1)); (first | have a2 := in_u ro_32_1 | (have a2 := ro_32_1; unfold In at a2)); (first | have a3 := in_u i10x2x9a | (have a3 := i10x2x9a; unfold In at a3)); (first | have a4 := in_u i1x5 | (have a4 := i1x5; unfold In at a4)))); have oc := oc_233_0; omega) | (rw [shC_d (by rw [← e1x1]; exact c1x5)]; show ¬ (TWO (s.2.2.1 32 1).toInt x1 x2 ∧ 0 ≤ x3.toInt ∧ 0 ≤ x4.toInt); rw [← e_32_1]; (first | have a0 := oa5 i10x10x9 i10x2x9 ro_32_1 i10x2x9a i1x5 | ((first | have a0 := in_u i10x10x9 | (have a0 := i10x10x9; unfold In at a0)); (first | have a1 := in_u i10x2x9 | (have a1 := i10x2x9; unfold In at a1)); (first | have a2 := in_u ro_32_1 | (have a2 := ro_32_1; unfold In at a2)); (first | have a3 := in_u i10x2x9a | (have a3 := i10x2x9a; unfold In at a3)); (first | have a4 := in_u i1x5 | (have a4 := i1x5; unfold In at a4)))); have oc := oc_233_0; omega)
                      exact (hX _ _ ⟨Or.inl ⟨rfl, n30⟩, s, hI, fr_rf, rfl⟩)
                  · skip
                    exact zn_ne c13 (in_c 0 rfl) rfl
                · skip
                  refine g_iconst 1 22 (gd rfl) rfl rfl ?_
                  refine g_goto 26 (gd rfl) rfl ?_
                  refine g_ireturn (gd rfl) rfl (nb01 (in_w 0 1 (in_c 1 rfl) rfl)) (hp10 _ _ ?_)
                  show GG _ _ _ _ _ _ _ _ [.int (Int32.ofInt 1)] _ _ _
                  refine g_if_eq 16 29 (gd rfl) rfl rfl (fun c13 => ?_) (fun c13 => ?_)
                  · skip
                    exact zn_eq c13 (in_c 1 rfl) rfl
                  · skip
                    refine g_iload_n 17 (gd rfl) rfl rfl ?_
                    refine g_if_lt 20 29 (gd rfl) rfl rfl (fun c17 => ?_) (fun c17 => ?_)
                    · skip
                      have i17 := z_lt (-2147483648) (-1) c17 (i_rng x3) rfl
                      refine g_iconst 0 30 (gd rfl) rfl rfl ?_
                      refine g_thr (E := am_IA) (y := yX11_allow) 33 (gd rfl) rfl rfl (Or.inl ⟨rfl, rfl, rfl⟩) (by first | exact dq1 hd rfl | exact dq0 hd rfl | exact dq2 hd rfl | exact dq3 hd rfl | omega) (Nat.le_of_ble_eq_true rfl) (Nat.le_of_ble_eq_true rfl) (Nat.le_of_ble_eq_true rfl) (fun c30 => ?_) (fun c30 => ?_)
                      · skip
                        exact zn_ne c30 (in_c 0 rfl) rfl
                      · skip
                        have n30 : ¬ ((TWO (shC s).2.2.2.2.2.2.1 x1 x2) ∧ 0 ≤ x3.toInt ∧ 0 ≤ x4.toInt) := by first | (rw [shC_n (by rw [← e1x1]; exact c1x5)]; show ¬ (TWO (s.2.2.1 2 1).toInt x1 x2 ∧ 0 ≤ x3.toInt ∧ 0 ≤ x4.toInt); rw [← e_2_1]; (first | have a0 := oa6 i10x10x9 i10x2x9 ro_32_1 i10x2x9a i1x5 i17 | ((first | have a0 := in_u i10x10x9 | (have a0 := i10x10x9; unfold In at a0)); (first | have a1 := in_u i10x2x9 | (have a1 := i10x2x9; unfold In at a1)); (first | have a2 := in_u ro_32_1 | (have a2 := ro_32_1; unfold In at a2)); (first | have a3 := in_u i10x2x9a | (have a3 := i10x2x9a; unfold In at a3)); (first | have a4 := in_u i1x5 | (have a4 := i1x5; unfold In at a4)); (first | have a5 := in_u i17 | (have a5 := i17; unfold In at a5)))); have oc := oc_233_0; omega) | (rw [shC_d (by rw [← e1x1]; exact c1x5)]; show ¬ (TWO (s.2.2.1 32 1).toInt x1 x2 ∧ 0 ≤ x3.toInt ∧ 0 ≤ x4.toInt); rw [← e_32_1]; (first | have a0 := oa6 i10x10x9 i10x2x9 ro_32_1 i10x2x9a i1x5 i17 | ((first | have a0 := in_u i10x10x9 | (have a0 := i10x10x9; unfold In at a0)); (first | have a1 := in_u i10x2x9 | (have a1 := i10x2x9; unfold In at a1)); (first | have a2 := in_u ro_32_1 | (have a2 := ro_32_1; unfold In at a2)); (first | have a3 := in_u i10x2x9a | (have a3 := i10x2x9a; unfold In at a3)); (first | have a4 := in_u i1x5 | (have a4 := i1x5; unfold In at a4)); (first | have a5 := in_u i17 | (have a5 := i17; unfold In at a5)))); have oc := oc_233_0; omega)
                        exact (hX _ _ ⟨Or.inl ⟨rfl, n30⟩, s, hI, fr_rf, rfl⟩)
                    · skip
                      have i17 := z_ge 0 2147483647 c17 (i_rng x3) rfl
                      refine g_iload 22 (gd rfl) rfl rfl ?_
                      refine g_if_lt 25 29 (gd rfl) rfl rfl (fun c22 => ?_) (fun c22 => ?_)
                      · skip
                        have i22 := z_lt (-2147483648) (-1) c22 (i_rng x4) rfl
                        refine g_iconst 0 30 (gd rfl) rfl rfl ?_
                        refine g_thr (E := am_IA) (y := yX11_allow) 33 (gd rfl) rfl rfl (Or.inl ⟨rfl, rfl, rfl⟩) (by first | exact dq1 hd rfl | exact dq0 hd rfl | exact dq2 hd rfl | exact dq3 hd rfl | omega) (Nat.le_of_ble_eq_true rfl) (Nat.le_of_ble_eq_true rfl) (Nat.le_of_ble_eq_true rfl) (fun c30 => ?_) (fun c30 => ?_)
                        · skip
                          exact zn_ne c30 (in_c 0 rfl) rfl
                        · skip
                          have n30 : ¬ ((TWO (shC s).2.2.2.2.2.2.1 x1 x2) ∧ 0 ≤ x3.toInt ∧ 0 ≤ x4.toInt) := by first | (rw [shC_n (by rw [← e1x1]; exact c1x5)]; show ¬ (TWO (s.2.2.1 2 1).toInt x1 x2 ∧ 0 ≤ x3.toInt ∧ 0 ≤ x4.toInt); rw [← e_2_1]; (first | have a0 := oa7 i10x10x9 i10x2x9 ro_32_1 i10x2x9a i1x5 i22 i17 | ((first | have a0 := in_u i10x10x9 | (have a0 := i10x10x9; unfold In at a0)); (first | have a1 := in_u i10x2x9 | (have a1 := i10x2x9; unfold In at a1)); (first | have a2 := in_u ro_32_1 | (have a2 := ro_32_1; unfold In at a2)); (first | have a3 := in_u i10x2x9a | (have a3 := i10x2x9a; unfold In at a3)); (first | have a4 := in_u i1x5 | (have a4 := i1x5; unfold In at a4)); (first | have a5 := in_u i22 | (have a5 := i22; unfold In at a5)); (first | have a6 := in_u i17 | (have a6 := i17; unfold In at a6)))); have oc := oc_233_0; omega) | (rw [shC_d (by rw [← e1x1]; exact c1x5)]; show ¬ (TWO (s.2.2.1 32 1).toInt x1 x2 ∧ 0 ≤ x3.toInt ∧ 0 ≤ x4.toInt); rw [← e_32_1]; (first | have a0 := oa7 i10x10x9 i10x2x9 ro_32_1 i10x2x9a i1x5 i22 i17 | ((first | have a0 := in_u i10x10x9 | (have a0 := i10x10x9; unfold In at a0)); (first | have a1 := in_u i10x2x9 | (have a1 := i10x2x9; unfold In at a1)); (first | have a2 := in_u ro_32_1 | (have a2 := ro_32_1; unfold In at a2)); (first | have a3 := in_u i10x2x9a | (have a3 := i10x2x9a; unfold In at a3)); (first | have a4 := in_u i1x5 | (have a4 := i1x5; unfold In at a4)); (first | have a5 := in_u i22 | (have a5 := i22; unfold In at a5)); (first | have a6 := in_u i17 | (have a6 := i17; unfold In at a6)))); have oc := oc_233_0; omega)
                          exact (hX _ _ ⟨Or.inl ⟨rfl, n30⟩, s, hI, fr_rf, rfl⟩)
                      · skip
                        have i22 := z_ge 0 2147483647 c22 (i_rng x4) rfl
                        refine g_iconst 1 26 (gd rfl) rfl rfl ?_
                        refine g_goto 30 (gd rfl) rfl ?_
                        refine g_thr (E := am_IA) (y := yX11_allow) 33 (gd rfl) rfl rfl (Or.inl ⟨rfl, rfl, rfl⟩) (by first | exact dq1 hd rfl | exact dq0 hd rfl | exact dq2 hd rfl | exact dq3 hd rfl | omega) (Nat.le_of_ble_eq_true rfl) (Nat.le_of_ble_eq_true rfl) (Nat.le_of_ble_eq_true rfl) (fun c30 => ?_) (fun c30 => ?_)
                        · skip
                          refine g_aload_n 34 (gd rfl) rfl rfl ?_
                          refine g_getA (q2 := 49) 37 (gd rfl) rfl rfl rfl rfl ?_
                          refine g_aload 39 (gd rfl) rfl rfl ?_
                          refine g_iload_n 40 (gd rfl) rfl rfl ?_
                          refine g_iload_n 41 (gd rfl) rfl rfl ?_
                          refine g_iload_n 42 (gd rfl) rfl rfl ?_
                          refine g_iload 44 (gd rfl) rfl rfl ?_
                          have p44 : TQ s := by first | exact q_0 | exact q_1
                          have p44a : NDQ (gvC s) := by first | (rw [← shC_n (by rw [← e1x1]; exact c1x5)]; exact q_2) | (rw [← shC_d (by rw [← e1x1]; exact c1x5)]; exact q_2)
                          have p44b : SHB (gvC s) s := by first | (rw [← shC_n (by rw [← e1x1]; exact c1x5)]; exact q_3) | (rw [← shC_d (by rw [← e1x1]; exact c1x5)]; exact q_3)
                          refine g_callv (X := _) (As := [.ref (A 2), .int x1, .int x2, .int x3, .int x4]) (r := []) (b := A 49) (q := 49) 47 (gd rfl) rfl rfl rfl rfl rfl (ww_o rfl) (Nat.le_of_ble_eq_true rfl) (Nat.zero_le _) (Nat.zero_le _) (f_206_49_2 (by first | exact dq1 hd rfl | exact dq0 hd rfl | exact dq2 hd rfl | exact dq3 hd rfl | omega) hI (in_w 0 31 i10x2x9 rfl) (in_w 0 31 i10x10x9 rfl) (in_w 0 2147483647 i17 rfl) (in_w 0 2147483647 i22 rfl) p44 p44a p44b) (fun e u h => h) (fun v u h => ?_)
                          obtain ⟨s44, hI44, hF44, z44, rfl, rfl, i44, p44c⟩ := h
                          show GG _ _ _ _ _ _ _ _ [.int z44] _ _ _
                          have n47 : ((TWO (shC s).2.2.2.2.2.2.1 x1 x2) ∧ 0 ≤ x3.toInt ∧ 0 ≤ x4.toInt) ∧ True := by first | (rw [shC_n (by rw [← e1x1]; exact c1x5)]; exact ⟨⟨⟨⟨by (first | have a0 := oa7 i10x10x9 i10x2x9 ro_32_1 i10x2x9a i1x5 i22 i17 | ((first | have a0 := in_u i10x10x9 | (have a0 := i10x10x9; unfold In at a0)); (first | have a1 := in_u i10x2x9 | (have a1 := i10x2x9; unfold In at a1)); (first | have a2 := in_u ro_32_1 | (have a2 := ro_32_1; unfold In at a2)); (first | have a3 := in_u i10x2x9a | (have a3 := i10x2x9a; unfold In at a3)); (first | have a4 := in_u i1x5 | (have a4 := i1x5; unfold In at a4)); (first | have a5 := in_u i22 | (have a5 := i22; unfold In at a5)); (first | have a6 := in_u i17 | (have a6 := i17; unfold In at a6)))); have oc := oc_233_0; omega, by show x1.toInt < (s.2.2.1 2 1).toInt; rw [← e_2_1]; (first | have a0 := oa7 i10x10x9 i10x2x9 ro_32_1 i10x2x9a i1x5 i22 i17 | ((first | have a0 := in_u i10x10x9 | (have a0 := i10x10x9; unfold In at a0)); (first | have a1 := in_u i10x2x9 | (have a1 := i10x2x9; unfold In at a1)); (first | have a2 := in_u ro_32_1 | (have a2 := ro_32_1; unfold In at a2)); (first | have a3 := in_u i10x2x9a | (have a3 := i10x2x9a; unfold In at a3)); (first | have a4 := in_u i1x5 | (have a4 := i1x5; unfold In at a4)); (first | have a5 := in_u i22 | (have a5 := i22; unfold In at a5)); (first | have a6 := in_u i17 | (have a6 := i17; unfold In at a6)))); have oc := oc_233_0; omega⟩, ⟨by (first | have a0 := oa7 i10x10x9 i10x2x9 ro_32_1 i10x2x9a i1x5 i22 i17 | ((first | have a0 := in_u i10x10x9 | (have a0 := i10x10x9; unfold In at a0)); (first | have a1 := in_u i10x2x9 | (have a1 := i10x2x9; unfold In at a1)); (first | have a2 := in_u ro_32_1 | (have a2 := ro_32_1; unfold In at a2)); (first | have a3 := in_u i10x2x9a | (have a3 := i10x2x9a; unfold In at a3)); (first | have a4 := in_u i1x5 | (have a4 := i1x5; unfold In at a4)); (first | have a5 := in_u i22 | (have a5 := i22; unfold In at a5)); (first | have a6 := in_u i17 | (have a6 := i17; unfold In at a6)))); have oc := oc_233_0; omega, by show x2.toInt < (s.2.2.1 2 1).toInt; rw [← e_2_1]; (first | have a0 := oa7 i10x10x9 i10x2x9 ro_32_1 i10x2x9a i1x5 i22 i17 | ((first | have a0 := in_u i10x10x9 | (have a0 := i10x10x9; unfold In at a0)); (first | have a1 := in_u i10x2x9 | (have a1 := i10x2x9; unfold In at a1)); (first | have a2 := in_u ro_32_1 | (have a2 := ro_32_1; unfold In at a2)); (first | have a3 := in_u i10x2x9a | (have a3 := i10x2x9a; unfold In at a3)); (first | have a4 := in_u i1x5 | (have a4 := i1x5; unfold In at a4)); (first | have a5 := in_u i22 | (have a5 := i22; unfold In at a5)); (first | have a6 := in_u i17 | (have a6 := i17; unfold In at a6)))); have oc := oc_233_0; omega⟩, by (first | have a0 := oa7 i10x10x9 i10x2x9 ro_32_1 i10x2x9a i1x5 i22 i17 | ((first | have a0 := in_u i10x10x9 | (have a0 := i10x10x9; unfold In at a0)); (first | have a1 := in_u i10x2x9 | (have a1 := i10x2x9; unfold In at a1)); (first | have a2 := in_u ro_32_1 | (have a2 := ro_32_1; unfold In at a2)); (first | have a3 := in_u i10x2x9a | (have a3 := i10x2x9a; unfold In at a3)); (first | have a4 := in_u i1x5 | (have a4 := i1x5; unfold In at a4)); (first | have a5 := in_u i22 | (have a5 := i22; unfold In at a5)); (first | have a6 := in_u i17 | (have a6 := i17; unfold In at a6)))); have oc := oc_233_0; omega⟩, by (first | have a0 := oa7 i10x10x9 i10x2x9 ro_32_1 i10x2x9a i1x5 i22 i17 | ((first | have a0 := in_u i10x10x9 | (have a0 := i10x10x9; unfold In at a0)); (first | have a1 := in_u i10x2x9 | (have a1 := i10x2x9; unfold In at a1)); (first | have a2 := in_u ro_32_1 | (have a2 := ro_32_1; unfold In at a2)); (first | have a3 := in_u i10x2x9a | (have a3 := i10x2x9a; unfold In at a3)); (first | have a4 := in_u i1x5 | (have a4 := i1x5; unfold In at a4)); (first | have a5 := in_u i22 | (have a5 := i22; unfold In at a5)); (first | have a6 := in_u i17 | (have a6 := i17; unfold In at a6)))); have oc := oc_233_0; omega, by (first | have a0 := oa7 i10x10x9 i10x2x9 ro_32_1 i10x2x9a i1x5 i22 i17 | ((first | have a0 := in_u i10x10x9 | (have a0 := i10x10x9; unfold In at a0)); (first | have a1 := in_u i10x2x9 | (have a1 := i10x2x9; unfold In at a1)); (first | have a2 := in_u ro_32_1 | (have a2 := ro_32_1; unfold In at a2)); (first | have a3 := in_u i10x2x9a | (have a3 := i10x2x9a; unfold In at a3)); (first | have a4 := in_u i1x5 | (have a4 := i1x5; unfold In at a4)); (first | have a5 := in_u i22 | (have a5 := i22; unfold In at a5)); (first | have a6 := in_u i17 | (have a6 := i17; unfold In at a6)))); have oc := oc_233_0; omega⟩, trivial⟩) | (rw [shC_d (by rw [← e1x1]; exact c1x5)]; exact ⟨⟨⟨⟨by (first | have a0 := oa7 i10x10x9 i10x2x9 ro_32_1 i10x2x9a i1x5 i22 i17 | ((first | have a0 := in_u i10x10x9 | (have a0 := i10x10x9; unfold In at a0)); (first | have a1 := in_u i10x2x9 | (have a1 := i10x2x9; unfold In at a1)); (first | have a2 := in_u ro_32_1 | (have a2 := ro_32_1; unfold In at a2)); (first | have a3 := in_u i10x2x9a | (have a3 := i10x2x9a; unfold In at a3)); (first | have a4 := in_u i1x5 | (have a4 := i1x5; unfold In at a4)); (first | have a5 := in_u i22 | (have a5 := i22; unfold In at a5)); (first | have a6 := in_u i17 | (have a6 := i17; unfold In at a6)))); have oc := oc_233_0; omega, by show x1.toInt < (s.2.2.1 32 1).toInt; rw [← e_32_1]; (first | have a0 := oa7 i10x10x9 i10x2x9 ro_32_1 i10x2x9a i1x5 i22 i17 | ((first | have a0 := in_u i10x10x9 | (have a0 := i10x10x9; unfold In at a0)); (first | have a1 := in_u i10x2x9 | (have a1 := i10x2x9; unfold In at a1)); (first | have a2 := in_u ro_32_1 | (have a2 := ro_32_1; unfold In at a2)); (first | have a3 := in_u i10x2x9a | (have a3 := i10x2x9a; unfold In at a3)); (first | have a4 := in_u i1x5 | (have a4 := i1x5; unfold In at a4)); (first | have a5 := in_u i22 | (have a5 := i22; unfold In at a5)); (first | have a6 := in_u i17 | (have a6 := i17; unfold In at a6)))); have oc := oc_233_0; omega⟩, ⟨by (first | have a0 := oa7 i10x10x9 i10x2x9 ro_32_1 i10x2x9a i1x5 i22 i17 | ((first | have a0 := in_u i10x10x9 | (have a0 := i10x10x9; unfold In at a0)); (first | have a1 := in_u i10x2x9 | (have a1 := i10x2x9; unfold In at a1)); (first | have a2 := in_u ro_32_1 | (have a2 := ro_32_1; unfold In at a2)); (first | have a3 := in_u i10x2x9a | (have a3 := i10x2x9a; unfold In at a3)); (first | have a4 := in_u i1x5 | (have a4 := i1x5; unfold In at a4)); (first | have a5 := in_u i22 | (have a5 := i22; unfold In at a5)); (first | have a6 := in_u i17 | (have a6 := i17; unfold In at a6)))); have oc := oc_233_0; omega, by show x2.toInt < (s.2.2.1 32 1).toInt; rw [← e_32_1]; (first | have a0 := oa7 i10x10x9 i10x2x9 ro_32_1 i10x2x9a i1x5 i22 i17 | ((first | have a0 := in_u i10x10x9 | (have a0 := i10x10x9; unfold In at a0)); (first | have a1 := in_u i10x2x9 | (have a1 := i10x2x9; unfold In at a1)); (first | have a2 := in_u ro_32_1 | (have a2 := ro_32_1; unfold In at a2)); (first | have a3 := in_u i10x2x9a | (have a3 := i10x2x9a; unfold In at a3)); (first | have a4 := in_u i1x5 | (have a4 := i1x5; unfold In at a4)); (first | have a5 := in_u i22 | (have a5 := i22; unfold In at a5)); (first | have a6 := in_u i17 | (have a6 := i17; unfold In at a6)))); have oc := oc_233_0; omega⟩, by (first | have a0 := oa7 i10x10x9 i10x2x9 ro_32_1 i10x2x9a i1x5 i22 i17 | ((first | have a0 := in_u i10x10x9 | (have a0 := i10x10x9; unfold In at a0)); (first | have a1 := in_u i10x2x9 | (have a1 := i10x2x9; unfold In at a1)); (first | have a2 := in_u ro_32_1 | (have a2 := ro_32_1; unfold In at a2)); (first | have a3 := in_u i10x2x9a | (have a3 := i10x2x9a; unfold In at a3)); (first | have a4 := in_u i1x5 | (have a4 := i1x5; unfold In at a4)); (first | have a5 := in_u i22 | (have a5 := i22; unfold In at a5)); (first | have a6 := in_u i17 | (have a6 := i17; unfold In at a6)))); have oc := oc_233_0; omega⟩, by (first | have a0 := oa7 i10x10x9 i10x2x9 ro_32_1 i10x2x9a i1x5 i22 i17 | ((first | have a0 := in_u i10x10x9 | (have a0 := i10x10x9; unfold In at a0)); (first | have a1 := in_u i10x2x9 | (have a1 := i10x2x9; unfold In at a1)); (first | have a2 := in_u ro_32_1 | (have a2 := ro_32_1; unfold In at a2)); (first | have a3 := in_u i10x2x9a | (have a3 := i10x2x9a; unfold In at a3)); (first | have a4 := in_u i1x5 | (have a4 := i1x5; unfold In at a4)); (first | have a5 := in_u i22 | (have a5 := i22; unfold In at a5)); (first | have a6 := in_u i17 | (have a6 := i17; unfold In at a6)))); have oc := oc_233_0; omega, by (first | have a0 := oa7 i10x10x9 i10x2x9 ro_32_1 i10x2x9a i1x5 i22 i17 | ((first | have a0 := in_u i10x10x9 | (have a0 := i10x10x9; unfold In at a0)); (first | have a1 := in_u i10x2x9 | (have a1 := i10x2x9; unfold In at a1)); (first | have a2 := in_u ro_32_1 | (have a2 := ro_32_1; unfold In at a2)); (first | have a3 := in_u i10x2x9a | (have a3 := i10x2x9a; unfold In at a3)); (first | have a4 := in_u i1x5 | (have a4 := i1x5; unfold In at a4)); (first | have a5 := in_u i22 | (have a5 := i22; unfold In at a5)); (first | have a6 := in_u i17 | (have a6 := i17; unfold In at a6)))); have oc := oc_233_0; omega⟩, trivial⟩)
                          have n47a : SHG (shC s) s44 := by first | (rw [shC_n (by rw [← e1x1]; exact c1x5)]; exact p44c) | (rw [shC_d (by rw [← e1x1]; exact c1x5)]; exact p44c)
                          exact g_ireturn (gd rfl) rfl rfl (hP _ _ ⟨s44, hI44, (fr_tr rfl fr_rf hF44), z44, rfl, rfl, in_w (-2147483648) 2147483647 i44 rfl, n47, n47a⟩)
                        · skip
                          exact zn_eq c30 (in_c 1 rfl) rfl

theorem oc_318_109 : (Int32.ofInt (-1)).toInt = (-1) ∧ (Int32.ofInt 0).toInt = 0 ∧ (Int32.ofInt 1).toInt = 1 ∧ (Int32.ofInt 2).toInt = 2 ∧ (Int32.ofInt 3).toInt = 3 ∧ (Int32.ofInt 4).toInt = 4 ∧ (Int32.ofInt 5).toInt = 5 ∧ (Int32.ofInt 2000).toInt = 2000 ∧ (Int64.ofInt 0).toInt = 0 := ⟨rfl, rfl, rfl, rfl, rfl, rfl, rfl, rfl, rfl⟩
/-- GraphHouseModel.addShort -/
theorem f_318 {Z : AmZ} {A : Nat → Nat} {s : GS} {ex : va_W} {d : Nat} {X : AmX} {x1 : Int32} {x2 : Int32} {x3 : Int32} {x4 : Int32} {x5 : Int32} (hd : 1 ≤ d) (hI : Inv s) (h1 : In x1 1 4) (h2 : In x2 0 159) (h3 : In x3 0 159) (h4 : In x4 0 159) (h5 : In x5 0 159) : GC Z d 318 [.ref (A 109), .int x1, .int x2, .int x3, .int x4, .int x5] (WW Z A s ++ ex) 0 0 (fun v u => ∃ t : GS, Inv t ∧ Fr fm_318 s t ∧ v = none ∧ u = WW Z A t ++ ex ∧ ((((t).2.2.1 109 40).toInt = cap ((s.2.2.1 109 40).toInt + 1)))) X := by
  intro post xp hP hX
  obtain ⟨u_109_19, e_109_19⟩ : ∃ w, w = s.2.2.1 109 19 := ⟨_, rfl⟩
  have ro_109_19 := inv_F hI 0 160 rfl e_109_19
  have ct74 : ∀ (k74 : Nat) (sc74 : GS) (y74_6 : Int32) (y74_7 : Int64) (y74_9 : Int32) (w74_109_40 : Int32), Inv sc74 → Fr fm_318 s sc74 → (In y74_6 0 10000) → (In y74_9 1 5) → (w74_109_40 = sc74.2.2.1 109 40) → ((w74_109_40).toInt ≤ 2000) → ((((sc74).2.2.1 109 40) = s.2.2.1 109 40)) → 5 - (y74_9).toInt < (k74 : Int) → GG Z (d - 1) 318 post (gx xp) (1 + k74 * 900) 74 (fun j => xlook j [(0, .ref (A 109)), (1, .int x1), (2, .int x2), (3, .int x3), (4, .int x4), (5, .int x5), (6, .int y74_6), (7, .long y74_7), (9, .int y74_9)]) [] (WW Z A sc74 ++ ex) 0 0 := by
    intro k74
    induction k74 with
    | zero => intro sc74 y74_6 y74_7 y74_9 w74_109_40 hIc74 hFc74 j74_6 j74_9 v74_109_40 n74_0 g74_0 mm74; exact m_no mm74 j74_9 rfl
    | succ k74 ih74 =>
      intro sc74 y74_6 y74_7 y74_9 w74_109_40 hIc74 hFc74 j74_6 j74_9 v74_109_40 n74_0 g74_0 mm74
      refine gg_w (M := 1 + k74 * 900 + 900) gws ?_
      refine g_iload 76 (gd rfl) rfl rfl ?_
      refine g_iload_n 77 (gd rfl) rfl rfl ?_
      refine g_cmp_gt 80 112 (gd rfl) rfl rfl (fun c77 => ?_) (fun c77 => ?_)
      · skip
        have i77 := r_lt2 2 5 c77 h1 j74_9 rfl
        refine g_aload_n 113 (gd rfl) rfl rfl ?_
        refine g_getA (q2 := 135) 116 (gd rfl) rfl rfl rfl rfl ?_
        refine g_aload_n 117 (gd rfl) rfl rfl ?_
        refine g_getI 120 (gd rfl) rfl rfl rfl (fun z117 e117 => ?_)
        have q117 : w74_109_40 = z117 := (v74_109_40).trans e117.symm
        subst q117
        refine g_lload 122 (gd rfl) rfl rfl ?_
        have i122 : In w74_109_40 0 2000 := by (first | have a0 := oa9 h5 h4 h3 h2 h1 ro_109_19 ((inv_F hIc74 0 2001 rfl v74_109_40)) i77 j74_6 | ((first | have a0 := in_u h5 | (have a0 := h5; unfold In at a0)); (first | have a1 := in_u h4 | (have a1 := h4; unfold In at a1)); (first | have a2 := in_u h3 | (have a2 := h3; unfold In at a2)); (first | have a3 := in_u h2 | (have a3 := h2; unfold In at a3)); (first | have a4 := in_u h1 | (have a4 := h1; unfold In at a4)); (first | have a5 := in_u ro_109_19 | (have a5 := ro_109_19; unfold In at a5)); (first | have a6 := in_u ((inv_F hIc74 0 2001 rfl v74_109_40)) | (have a6 := (inv_F hIc74 0 2001 rfl v74_109_40); unfold In at a6)); (first | have a7 := in_u i77 | (have a7 := i77; unfold In at a7)); (first | have a8 := in_u j74_6 | (have a8 := j74_6; unfold In at a8)))); have oc := oc_318_109; exact ⟨by omega, by omega⟩
        refine g_lastore 123 (gd rfl) rfl (n := 2001) rfl (in_ix i122 rfl) ?_
        have hI122 := inv_sL (q := 135) (j := w74_109_40.toNatClampNeg) (x := y74_7) hIc74 rfl (l_rng y74_7)
        refine g_aload_n 124 (gd rfl) rfl rfl ?_
        refine g_dup 125 (gd rfl) rfl rfl ?_
        refine g_getI 128 (gd rfl) rfl rfl rfl (fun z125 e125 => ?_)
        have q125 : w74_109_40 = z125 := (sL_F (v74_109_40)).trans e125.symm
        subst q125
        refine g_iconst 1 129 (gd rfl) rfl rfl ?_
        refine g_iadd 130 (gd rfl) rfl (fun z129 e129 => ?_)
        have i129 := in_add 1 2001 e129 i122 (in_c 1 rfl) rfl rfl
        refine g_putI 133 (gd rfl) rfl rfl rfl rfl ?_
        have hI130 := inv_sF (q := 109) (j := 40) hI122 rfl (in_w 0 2001 i129 rfl)
        have n133 : ((((sF (sL sc74 135 w74_109_40.toNatClampNeg y74_7) 109 40 z129)).2.2.1 109 40).toInt = cap ((s.2.2.1 109 40).toInt + 1)) := by have h8 : (w74_109_40).toInt = (s.2.2.1 109 40).toInt := (by rw [show w74_109_40 = sc74.2.2.1 109 40 from v74_109_40, g74_0]); rw [← sF_get, ← cap_1 (z := (s.2.2.1 109 40).toInt) (cap_i (by (first | have a0 := oa10 h5 h4 h3 h2 h1 ro_109_19 i122 i77 j74_6 i129 | ((first | have a0 := in_u h5 | (have a0 := h5; unfold In at a0)); (first | have a1 := in_u h4 | (have a1 := h4; unfold In at a1)); (first | have a2 := in_u h3 | (have a2 := h3; unfold In at a2)); (first | have a3 := in_u h2 | (have a3 := h2; unfold In at a3)); (first | have a4 := in_u h1 | (have a4 := h1; unfold In at a4)); (first | have a5 := in_u ro_109_19 | (have a5 := ro_109_19; unfold In at a5)); (first | have a6 := in_u i122 | (have a6 := i122; unfold In at a6)); (first | have a7 := in_u i77 | (have a7 := i77; unfold In at a7)); (first | have a8 := in_u j74_6 | (have a8 := j74_6; unfold In at a8)); (first | have a9 := in_u i129 | (have a9 := i129; unfold In at a9)))); have a10 := t_add e129 i122 (in_c 1 rfl) rfl; (first | have a11 := in_u ((in_c 1 rfl)) | (have a11 := (in_c 1 rfl); unfold In at a11)); have oc := oc_318_109; omega) (by (first | have a0 := oa10 h5 h4 h3 h2 h1 ro_109_19 i122 i77 j74_6 i129 | ((first | have a0 := in_u h5 | (have a0 := h5; unfold In at a0)); (first | have a1 := in_u h4 | (have a1 := h4; unfold In at a1)); (first | have a2 := in_u h3 | (have a2 := h3; unfold In at a2)); (first | have a3 := in_u h2 | (have a3 := h2; unfold In at a3)); (first | have a4 := in_u h1 | (have a4 := h1; unfold In at a4)); (first | have a5 := in_u ro_109_19 | (have a5 := ro_109_19; unfold In at a5)); (first | have a6 := in_u i122 | (have a6 := i122; unfold In at a6)); (first | have a7 := in_u i77 | (have a7 := i77; unfold In at a7)); (first | have a8 := in_u j74_6 | (have a8 := j74_6; unfold In at a8)); (first | have a9 := in_u i129 | (have a9 := i129; unfold In at a9)))); have a10 := t_add e129 i122 (in_c 1 rfl) rfl; (first | have a11 := in_u ((in_c 1 rfl)) | (have a11 := (in_c 1 rfl); unfold In at a11)); have oc := oc_318_109; omega)).symm (by (first | have a0 := oa10 h5 h4 h3 h2 h1 ro_109_19 i122 i77 j74_6 i129 | ((first | have a0 := in_u h5 | (have a0 := h5; unfold In at a0)); (first | have a1 := in_u h4 | (have a1 := h4; unfold In at a1)); (first | have a2 := in_u h3 | (have a2 := h3; unfold In at a2)); (first | have a3 := in_u h2 | (have a3 := h2; unfold In at a3)); (first | have a4 := in_u h1 | (have a4 := h1; unfold In at a4)); (first | have a5 := in_u ro_109_19 | (have a5 := ro_109_19; unfold In at a5)); (first | have a6 := in_u i122 | (have a6 := i122; unfold In at a6)); (first | have a7 := in_u i77 | (have a7 := i77; unfold In at a7)); (first | have a8 := in_u j74_6 | (have a8 := j74_6; unfold In at a8)); (first | have a9 := in_u i129 | (have a9 := i129; unfold In at a9)))); have a10 := t_add e129 i122 (in_c 1 rfl) rfl; (first | have a11 := in_u ((in_c 1 rfl)) | (have a11 := (in_c 1 rfl); unfold In at a11)); have oc := oc_318_109; omega)]; (first | have a0 := oa10 h5 h4 h3 h2 h1 ro_109_19 i122 i77 j74_6 i129 | ((first | have a0 := in_u h5 | (have a0 := h5; unfold In at a0)); (first | have a1 := in_u h4 | (have a1 := h4; unfold In at a1)); (first | have a2 := in_u h3 | (have a2 := h3; unfold In at a2)); (first | have a3 := in_u h2 | (have a3 := h2; unfold In at a3)); (first | have a4 := in_u h1 | (have a4 := h1; unfold In at a4)); (first | have a5 := in_u ro_109_19 | (have a5 := ro_109_19; unfold In at a5)); (first | have a6 := in_u i122 | (have a6 := i122; unfold In at a6)); (first | have a7 := in_u i77 | (have a7 := i77; unfold In at a7)); (first | have a8 := in_u j74_6 | (have a8 := j74_6; unfold In at a8)); (first | have a9 := in_u i129 | (have a9 := i129; unfold In at a9)))); have a10 := t_add e129 i122 (in_c 1 rfl) rfl; (first | have a11 := in_u ((in_c 1 rfl)) | (have a11 := (in_c 1 rfl); unfold In at a11)); have oc := oc_318_109; omega
        exact g_return (gd rfl) rfl (hP _ _ ⟨(sF (sL sc74 135 w74_109_40.toNatClampNeg y74_7) 109 40 z129), hI130, (fr_sF rfl (fr_sL rfl hFc74)), rfl, rfl, n133⟩)
      · skip
        have i77 := r_le1 1 4 c77 j74_9 h1 rfl
        refine g_lload 82 (gd rfl) rfl rfl ?_
        refine g_aload_n 83 (gd rfl) rfl rfl ?_
        refine g_getA (q2 := 115) 86 (gd rfl) rfl rfl rfl rfl ?_
        refine g_aload_n 87 (gd rfl) rfl rfl ?_
        refine g_getI 90 (gd rfl) rfl rfl rfl (fun z87 e87 => ?_)
        have q87 : u_109_19 = z87 := (fr_F e_109_19 hFc74 rfl).trans e87.symm
        subst q87
        refine g_aload_n 91 (gd rfl) rfl rfl ?_
        refine g_getA (q2 := 134) 94 (gd rfl) rfl rfl rfl rfl ?_
        refine g_iload 96 (gd rfl) rfl rfl ?_
        refine g_iload 98 (gd rfl) rfl rfl ?_
        refine g_iadd 99 (gd rfl) rfl (fun z98 e98 => ?_)
        have i98 := in_add 1 10004 e98 j74_6 i77 rfl rfl
        refine g_iaload 100 (gd rfl) rfl (n := 10005) rfl (in_ix i98 rfl) (fun z99 e99 => ?_)
        have i99 := inv_I hIc74 (n := 10005) (t := 0) 0 159 rfl (in_ix i98 rfl) rfl e99
        refine g_iadd 101 (gd rfl) rfl (fun z100 e100 => ?_)
        have i100 := in_add 0 319 e100 ro_109_19 i99 rfl rfl
        refine g_iaload 102 (gd rfl) rfl (n := 480) rfl (in_ix i100 rfl) (fun z101 e101 => ?_)
        have i101 := inv_I hIc74 (n := 480) (t := 0) (-1000000) 1000000 rfl (in_ix i100 rfl) rfl e101
        refine g_i2l 103 (gd rfl) rfl (fun z102 e102 => ?_)
        have i102 := l_i e102 i101
        refine g_ladd 104 (gd rfl) rfl (fun z103 e103 => ?_)
        refine g_lstore 106 (gd rfl) rfl (Nat.le_of_ble_eq_true rfl) ?_
        refine g_iinc 109 (gd rfl) rfl rfl (Nat.le_of_ble_eq_true rfl) (fun z106 e106 => ?_)
        have i106 := in_add 2 5 e106 i77 (in_c 1 rfl) rfl rfl
        refine g_goto 74 (gd rfl) rfl ?_
        have n74 : (w74_109_40).toInt ≤ 2000 := by first | exact n74_0 | ((first | have a0 := oa10 h5 h4 h3 h2 h1 ro_109_19 ((inv_F hIc74 0 2001 rfl v74_109_40)) i77 j74_6 i106 | ((first | have a0 := in_u h5 | (have a0 := h5; unfold In at a0)); (first | have a1 := in_u h4 | (have a1 := h4; unfold In at a1)); (first | have a2 := in_u h3 | (have a2 := h3; unfold In at a2)); (first | have a3 := in_u h2 | (have a3 := h2; unfold In at a3)); (first | have a4 := in_u h1 | (have a4 := h1; unfold In at a4)); (first | have a5 := in_u ro_109_19 | (have a5 := ro_109_19; unfold In at a5)); (first | have a6 := in_u ((inv_F hIc74 0 2001 rfl v74_109_40)) | (have a6 := (inv_F hIc74 0 2001 rfl v74_109_40); unfold In at a6)); (first | have a7 := in_u i77 | (have a7 := i77; unfold In at a7)); (first | have a8 := in_u j74_6 | (have a8 := j74_6; unfold In at a8)); (first | have a9 := in_u i106 | (have a9 := i106; unfold In at a9)))); have a10 := t_add e106 i77 (in_c 1 rfl) rfl; (first | have a11 := in_u ((in_c 1 rfl)) | (have a11 := (in_c 1 rfl); unfold In at a11)); have a12 := tx_i2l e102; (first | have a13 := oa2 i101 i100 | ((first | have a13 := in_u i101 | (have a13 := i101; unfold In at a13)); (first | have a14 := in_u i100 | (have a14 := i100; unfold In at a14)))); have a15 := t_add e100 ro_109_19 i99 rfl; (first | have a16 := oa2 i99 i98 | ((first | have a16 := in_u i99 | (have a16 := i99; unfold In at a16)); (first | have a17 := in_u i98 | (have a17 := i98; unfold In at a17)))); have a18 := t_add e98 j74_6 i77 rfl; have oc := oc_318_109; omega)
        have n74a : (((sc74).2.2.1 109 40) = s.2.2.1 109 40) := by exact g74_0
        exact gg_w (by first | exact Nat.le_add_right _ _ | exact gw2 | exact gw3 | exact gwe rfl | exact gwf rfl | exact gwg rfl | exact gwh rfl | omega) (gg_f (gf_cons rfl (gf_cons rfl (gf_cons rfl (gf_cons rfl (gf_cons rfl (gf_cons rfl (gf_cons rfl (gf_cons rfl (gf_cons rfl gf_nil))))))))) (ih74 sc74 y74_6 z103 z106 w74_109_40 hIc74 hFc74 (in_w 0 10000 j74_6 rfl) (in_w 1 5 i106 rfl) v74_109_40 n74 n74a (m_up mm74 (t_add e106 i77 (in_c 1 rfl) rfl) (in_w 1 1 (in_c 1 rfl) rfl))))
  refine g_enter2 (k := 318) (N := 5401) (by first | exact dq1 hd rfl | exact dq0 hd rfl | exact dq2 hd rfl | exact dq3 hd rfl | omega) rfl (Nat.le_of_ble_eq_true rfl) ?_
  refine g_aload_n 1 (gd rfl) rfl rfl ?_
  refine g_getI 4 (gd rfl) rfl rfl rfl (fun z1 e1 => ?_)
  have i1 := inv_F hI 0 2001 rfl e1
  refine g_sipush 2000 7 (gd rfl) rfl rfl ?_
  refine g_cmp_gt 10 133 (gd rfl) rfl rfl (fun c7 => ?_) (fun c7 => ?_)
  · skip
    have i7 := r_lt2 2001 2001 c7 (in_c 2000 rfl) i1 rfl
    have n133 : (((s).2.2.1 109 40).toInt = cap ((s.2.2.1 109 40).toInt + 1)) := by have h9 := inv_F hI (z := s.2.2.1 109 40) 0 2001 rfl rfl; unfold In at h9; have h8 : (z1).toInt = (s.2.2.1 109 40).toInt := congrArg Int32.toInt e1; rw [cap_g (by (first | have a0 := oa7 ro_109_19 h5 h4 h3 h2 h1 i7 | ((first | have a0 := in_u ro_109_19 | (have a0 := ro_109_19; unfold In at a0)); (first | have a1 := in_u h5 | (have a1 := h5; unfold In at a1)); (first | have a2 := in_u h4 | (have a2 := h4; unfold In at a2)); (first | have a3 := in_u h3 | (have a3 := h3; unfold In at a3)); (first | have a4 := in_u h2 | (have a4 := h2; unfold In at a4)); (first | have a5 := in_u h1 | (have a5 := h1; unfold In at a5)); (first | have a6 := in_u i7 | (have a6 := i7; unfold In at a6)))); have oc := oc_318_109; omega)]; (first | have a0 := oa7 ro_109_19 h5 h4 h3 h2 h1 i7 | ((first | have a0 := in_u ro_109_19 | (have a0 := ro_109_19; unfold In at a0)); (first | have a1 := in_u h5 | (have a1 := h5; unfold In at a1)); (first | have a2 := in_u h4 | (have a2 := h4; unfold In at a2)); (first | have a3 := in_u h3 | (have a3 := h3; unfold In at a3)); (first | have a4 := in_u h2 | (have a4 := h2; unfold In at a4)); (first | have a5 := in_u h1 | (have a5 := h1; unfold In at a5)); (first | have a6 := in_u i7 | (have a6 := i7; unfold In at a6)))); have oc := oc_318_109; omega
    exact g_return (gd rfl) rfl (hP _ _ ⟨s, hI, fr_rf, rfl, rfl, n133⟩)
  · skip
    have i7 := r_le1 0 2000 c7 i1 (in_c 2000 rfl) rfl
    refine g_iconst 5 11 (gd rfl) rfl rfl ?_
    refine g_aload_n 12 (gd rfl) rfl rfl ?_
    refine g_getI 15 (gd rfl) rfl rfl rfl (fun z12 e12 => ?_)
    have q12 : z1 = z12 := (e1).trans e12.symm
    subst q12
    refine g_imul 16 (gd rfl) rfl (fun z15 e15 => ?_)
    have i15 := in_mulc 5 0 10000 (Or.inl e15) i7 rfl rfl
    refine g_istore 18 (gd rfl) rfl (Nat.le_of_ble_eq_true rfl) ?_
    refine g_aload_n 19 (gd rfl) rfl rfl ?_
    refine g_getA (q2 := 134) 22 (gd rfl) rfl rfl rfl rfl ?_
    refine g_iload 24 (gd rfl) rfl rfl ?_
    refine g_iload_n 25 (gd rfl) rfl rfl ?_
    refine g_iastore 26 (gd rfl) rfl (n := 10005) rfl (in_ix i15 rfl) ?_
    have hI25 : Inv (sI s 134 z15.toNatClampNeg x1) := by exact inv_sS hI (in_w 0 159 h1 rfl) (fun _ => by (first | have a0 := oa7 ro_109_19 h5 h4 h3 h2 h1 i15 | ((first | have a0 := in_u ro_109_19 | (have a0 := ro_109_19; unfold In at a0)); (first | have a1 := in_u h5 | (have a1 := h5; unfold In at a1)); (first | have a2 := in_u h4 | (have a2 := h4; unfold In at a2)); (first | have a3 := in_u h3 | (have a3 := h3; unfold In at a3)); (first | have a4 := in_u h2 | (have a4 := h2; unfold In at a4)); (first | have a5 := in_u h1 | (have a5 := h1; unfold In at a5)); (first | have a6 := in_u i15 | (have a6 := i15; unfold In at a6)))); have a7 := (t_mulc 5 (Or.inl e15) i7 rfl).1; (first | have a8 := in_u i7 | (have a8 := i7; unfold In at a8)); have oc := oc_318_109; omega)
    refine g_aload_n 27 (gd rfl) rfl rfl ?_
    refine g_getA (q2 := 134) 30 (gd rfl) rfl rfl rfl rfl ?_
    refine g_iload 32 (gd rfl) rfl rfl ?_
    refine g_iconst 1 33 (gd rfl) rfl rfl ?_
    refine g_iadd 34 (gd rfl) rfl (fun z33 e33 => ?_)
    have i33 := in_add 1 10001 e33 i15 (in_c 1 rfl) rfl rfl
    refine g_iload_n 35 (gd rfl) rfl rfl ?_
    refine g_iastore 36 (gd rfl) rfl (n := 10005) rfl (in_ix i33 rfl) ?_
    have hI35 : Inv (sI (sI s 134 z15.toNatClampNeg x1) 134 z33.toNatClampNeg x2) := by exact inv_sS hI25 (in_w 0 159 h2 rfl) (fun h5 => by exfalso; revert h5; show (z33.toInt.toNat) % 5 = 0 → False; intro h5; (first | have a0 := in_u ro_109_19 | (have a0 := ro_109_19; unfold In at a0)); have a1 := h5; unfold In at a1; (first | have a2 := oa5 h4 h3 h2 h1 i15 | ((first | have a2 := in_u h4 | (have a2 := h4; unfold In at a2)); (first | have a3 := in_u h3 | (have a3 := h3; unfold In at a3)); (first | have a4 := in_u h2 | (have a4 := h2; unfold In at a4)); (first | have a5 := in_u h1 | (have a5 := h1; unfold In at a5)); (first | have a6 := in_u i15 | (have a6 := i15; unfold In at a6)))); have a7 := (t_mulc 5 (Or.inl e15) i7 rfl).1; (first | have a8 := oa2 i7 i33 | ((first | have a8 := in_u i7 | (have a8 := i7; unfold In at a8)); (first | have a9 := in_u i33 | (have a9 := i33; unfold In at a9)))); have a10 := t_add e33 i15 (in_c 1 rfl) rfl; (first | have a11 := in_u ((in_c 1 rfl)) | (have a11 := (in_c 1 rfl); unfold In at a11)); have oc := oc_318_109; omega)
    refine g_aload_n 37 (gd rfl) rfl rfl ?_
    refine g_getA (q2 := 134) 40 (gd rfl) rfl rfl rfl rfl ?_
    refine g_iload 42 (gd rfl) rfl rfl ?_
    refine g_iconst 2 43 (gd rfl) rfl rfl ?_
    refine g_iadd 44 (gd rfl) rfl (fun z43 e43 => ?_)
    have i43 := in_add 2 10002 e43 i15 (in_c 2 rfl) rfl rfl
    refine g_iload_n 45 (gd rfl) rfl rfl ?_
    refine g_iastore 46 (gd rfl) rfl (n := 10005) rfl (in_ix i43 rfl) ?_
    have hI45 : Inv (sI (sI (sI s 134 z15.toNatClampNeg x1) 134 z33.toNatClampNeg x2) 134 z43.toNatClampNeg x3) := by exact inv_sS hI35 (in_w 0 159 h3 rfl) (fun h5 => by exfalso; revert h5; show (z43.toInt.toNat) % 5 = 0 → False; intro h5; (first | have a0 := in_u ro_109_19 | (have a0 := ro_109_19; unfold In at a0)); have a1 := h5; unfold In at a1; (first | have a2 := oa5 h4 h3 h2 h1 i15 | ((first | have a2 := in_u h4 | (have a2 := h4; unfold In at a2)); (first | have a3 := in_u h3 | (have a3 := h3; unfold In at a3)); (first | have a4 := in_u h2 | (have a4 := h2; unfold In at a4)); (first | have a5 := in_u h1 | (have a5 := h1; unfold In at a5)); (first | have a6 := in_u i15 | (have a6 := i15; unfold In at a6)))); have a7 := (t_mulc 5 (Or.inl e15) i7 rfl).1; (first | have a8 := oa2 i7 i43 | ((first | have a8 := in_u i7 | (have a8 := i7; unfold In at a8)); (first | have a9 := in_u i43 | (have a9 := i43; unfold In at a9)))); have a10 := t_add e43 i15 (in_c 2 rfl) rfl; (first | have a11 := oa2 ((in_c 2 rfl)) i33 | ((first | have a11 := in_u ((in_c 2 rfl)) | (have a11 := (in_c 2 rfl); unfold In at a11)); (first | have a12 := in_u i33 | (have a12 := i33; unfold In at a12)))); have a13 := t_add e33 i15 (in_c 1 rfl) rfl; (first | have a14 := in_u ((in_c 1 rfl)) | (have a14 := (in_c 1 rfl); unfold In at a14)); have oc := oc_318_109; omega)
    refine g_aload_n 47 (gd rfl) rfl rfl ?_
    refine g_getA (q2 := 134) 50 (gd rfl) rfl rfl rfl rfl ?_
    refine g_iload 52 (gd rfl) rfl rfl ?_
    refine g_iconst 3 53 (gd rfl) rfl rfl ?_
    refine g_iadd 54 (gd rfl) rfl (fun z53 e53 => ?_)
    have i53 := in_add 3 10003 e53 i15 (in_c 3 rfl) rfl rfl
    refine g_iload 56 (gd rfl) rfl rfl ?_
    refine g_iastore 57 (gd rfl) rfl (n := 10005) rfl (in_ix i53 rfl) ?_
    have hI56 : Inv (sI (sI (sI (sI s 134 z15.toNatClampNeg x1) 134 z33.toNatClampNeg x2) 134 z43.toNatClampNeg x3) 134 z53.toNatClampNeg x4) := by exact inv_sS hI45 (in_w 0 159 h4 rfl) (fun h5 => by exfalso; revert h5; show (z53.toInt.toNat) % 5 = 0 → False; intro h5; (first | have a0 := in_u ro_109_19 | (have a0 := ro_109_19; unfold In at a0)); have a1 := h5; unfold In at a1; (first | have a2 := oa5 h4 h3 h2 h1 i15 | ((first | have a2 := in_u h4 | (have a2 := h4; unfold In at a2)); (first | have a3 := in_u h3 | (have a3 := h3; unfold In at a3)); (first | have a4 := in_u h2 | (have a4 := h2; unfold In at a4)); (first | have a5 := in_u h1 | (have a5 := h1; unfold In at a5)); (first | have a6 := in_u i15 | (have a6 := i15; unfold In at a6)))); have a7 := (t_mulc 5 (Or.inl e15) i7 rfl).1; (first | have a8 := oa2 i7 i53 | ((first | have a8 := in_u i7 | (have a8 := i7; unfold In at a8)); (first | have a9 := in_u i53 | (have a9 := i53; unfold In at a9)))); have a10 := t_add e53 i15 (in_c 3 rfl) rfl; (first | have a11 := oa2 ((in_c 3 rfl)) i43 | ((first | have a11 := in_u ((in_c 3 rfl)) | (have a11 := (in_c 3 rfl); unfold In at a11)); (first | have a12 := in_u i43 | (have a12 := i43; unfold In at a12)))); have a13 := t_add e43 i15 (in_c 2 rfl) rfl; (first | have a14 := oa2 ((in_c 2 rfl)) i33 | ((first | have a14 := in_u ((in_c 2 rfl)) | (have a14 := (in_c 2 rfl); unfold In at a14)); (first | have a15 := in_u i33 | (have a15 := i33; unfold In at a15)))); have a16 := t_add e33 i15 (in_c 1 rfl) rfl; (first | have a17 := in_u ((in_c 1 rfl)) | (have a17 := (in_c 1 rfl); unfold In at a17)); have oc := oc_318_109; omega)
    refine g_aload_n 58 (gd rfl) rfl rfl ?_
    refine g_getA (q2 := 134) 61 (gd rfl) rfl rfl rfl rfl ?_
    refine g_iload 63 (gd rfl) rfl rfl ?_
    refine g_iconst 4 64 (gd rfl) rfl rfl ?_
    refine g_iadd 65 (gd rfl) rfl (fun z64 e64 => ?_)
    have i64 := in_add 4 10004 e64 i15 (in_c 4 rfl) rfl rfl
    refine g_iload 67 (gd rfl) rfl rfl ?_
    refine g_iastore 68 (gd rfl) rfl (n := 10005) rfl (in_ix i64 rfl) ?_
    have hI67 : Inv (sI (sI (sI (sI (sI s 134 z15.toNatClampNeg x1) 134 z33.toNatClampNeg x2) 134 z43.toNatClampNeg x3) 134 z53.toNatClampNeg x4) 134 z64.toNatClampNeg x5) := by exact inv_sS hI56 (in_w 0 159 h5 rfl) (fun h5 => by exfalso; revert h5; show (z64.toInt.toNat) % 5 = 0 → False; intro h5; (first | have a0 := in_u ro_109_19 | (have a0 := ro_109_19; unfold In at a0)); have a1 := h5; unfold In at a1; (first | have a2 := oa5 h4 h3 h2 h1 i15 | ((first | have a2 := in_u h4 | (have a2 := h4; unfold In at a2)); (first | have a3 := in_u h3 | (have a3 := h3; unfold In at a3)); (first | have a4 := in_u h2 | (have a4 := h2; unfold In at a4)); (first | have a5 := in_u h1 | (have a5 := h1; unfold In at a5)); (first | have a6 := in_u i15 | (have a6 := i15; unfold In at a6)))); have a7 := (t_mulc 5 (Or.inl e15) i7 rfl).1; (first | have a8 := oa2 i7 i64 | ((first | have a8 := in_u i7 | (have a8 := i7; unfold In at a8)); (first | have a9 := in_u i64 | (have a9 := i64; unfold In at a9)))); have a10 := t_add e64 i15 (in_c 4 rfl) rfl; (first | have a11 := oa2 ((in_c 4 rfl)) i53 | ((first | have a11 := in_u ((in_c 4 rfl)) | (have a11 := (in_c 4 rfl); unfold In at a11)); (first | have a12 := in_u i53 | (have a12 := i53; unfold In at a12)))); have a13 := t_add e53 i15 (in_c 3 rfl) rfl; (first | have a14 := oa2 ((in_c 3 rfl)) i43 | ((first | have a14 := in_u ((in_c 3 rfl)) | (have a14 := (in_c 3 rfl); unfold In at a14)); (first | have a15 := in_u i43 | (have a15 := i43; unfold In at a15)))); have a16 := t_add e43 i15 (in_c 2 rfl) rfl; (first | have a17 := oa2 ((in_c 2 rfl)) i33 | ((first | have a17 := in_u ((in_c 2 rfl)) | (have a17 := (in_c 2 rfl); unfold In at a17)); (first | have a18 := in_u i33 | (have a18 := i33; unfold In at a18)))); have a19 := t_add e33 i15 (in_c 1 rfl) rfl; (first | have a20 := in_u ((in_c 1 rfl)) | (have a20 := (in_c 1 rfl); unfold In at a20)); have oc := oc_318_109; omega)
    refine g_lconst 0 69 (gd rfl) rfl rfl ?_
    refine g_lstore 71 (gd rfl) rfl (Nat.le_of_ble_eq_true rfl) ?_
    refine g_iconst 1 72 (gd rfl) rfl rfl ?_
    refine g_istore 74 (gd rfl) rfl (Nat.le_of_ble_eq_true rfl) ?_
    have v74 : z1 = (sI (sI (sI (sI (sI s 134 z15.toNatClampNeg x1) 134 z33.toNatClampNeg x2) 134 z43.toNatClampNeg x3) 134 z53.toNatClampNeg x4) 134 z64.toNatClampNeg x5).2.2.1 109 40 := sI_F (sI_F (sI_F (sI_F (sI_F (e1)))))
    have n74 : (z1).toInt ≤ 2000 := by (first | have a0 := oa8 ro_109_19 h5 h4 h3 h2 h1 ((in_c 1 rfl)) i15 | ((first | have a0 := in_u ro_109_19 | (have a0 := ro_109_19; unfold In at a0)); (first | have a1 := in_u h5 | (have a1 := h5; unfold In at a1)); (first | have a2 := in_u h4 | (have a2 := h4; unfold In at a2)); (first | have a3 := in_u h3 | (have a3 := h3; unfold In at a3)); (first | have a4 := in_u h2 | (have a4 := h2; unfold In at a4)); (first | have a5 := in_u h1 | (have a5 := h1; unfold In at a5)); (first | have a6 := in_u ((in_c 1 rfl)) | (have a6 := (in_c 1 rfl); unfold In at a6)); (first | have a7 := in_u i15 | (have a7 := i15; unfold In at a7)))); have a8 := (t_mulc 5 (Or.inl e15) i7 rfl).1; (first | have a9 := oa2 i7 i64 | ((first | have a9 := in_u i7 | (have a9 := i7; unfold In at a9)); (first | have a10 := in_u i64 | (have a10 := i64; unfold In at a10)))); have a11 := t_add e64 i15 (in_c 4 rfl) rfl; (first | have a12 := oa2 ((in_c 4 rfl)) i53 | ((first | have a12 := in_u ((in_c 4 rfl)) | (have a12 := (in_c 4 rfl); unfold In at a12)); (first | have a13 := in_u i53 | (have a13 := i53; unfold In at a13)))); have a14 := t_add e53 i15 (in_c 3 rfl) rfl; (first | have a15 := oa2 ((in_c 3 rfl)) i43 | ((first | have a15 := in_u ((in_c 3 rfl)) | (have a15 := (in_c 3 rfl); unfold In at a15)); (first | have a16 := in_u i43 | (have a16 := i43; unfold In at a16)))); have a17 := t_add e43 i15 (in_c 2 rfl) rfl; (first | have a18 := oa2 ((in_c 2 rfl)) i33 | ((first | have a18 := in_u ((in_c 2 rfl)) | (have a18 := (in_c 2 rfl); unfold In at a18)); (first | have a19 := in_u i33 | (have a19 := i33; unfold In at a19)))); have a20 := t_add e33 i15 (in_c 1 rfl) rfl; have oc := oc_318_109; omega
    have n74a : ((((sI (sI (sI (sI (sI s 134 z15.toNatClampNeg x1) 134 z33.toNatClampNeg x2) 134 z43.toNatClampNeg x3) 134 z53.toNatClampNeg x4) 134 z64.toNatClampNeg x5)).2.2.1 109 40) = s.2.2.1 109 40) := by rfl
    exact gg_w (by first | exact Nat.le_of_ble_eq_true rfl | omega) (gg_f (gf_cons rfl (gf_cons rfl (gf_cons rfl (gf_cons rfl (gf_cons rfl (gf_cons rfl (gf_cons rfl (gf_cons rfl (gf_cons rfl gf_nil))))))))) (ct74 5 (sI (sI (sI (sI (sI s 134 z15.toNatClampNeg x1) 134 z33.toNatClampNeg x2) 134 z43.toNatClampNeg x3) 134 z53.toNatClampNeg x4) 134 z64.toNatClampNeg x5) z15 (Int64.ofInt 0) (Int32.ofInt 1) z1 hI67 (fr_sI rfl (fr_sI rfl (fr_sI rfl (fr_sI rfl (fr_sI rfl fr_rf))))) (in_w 0 10000 i15 rfl) (in_w 1 5 (in_c 1 rfl) rfl) v74 n74 n74a (m_in 5 (in_w 1 5 (in_c 1 rfl) rfl) rfl)))
