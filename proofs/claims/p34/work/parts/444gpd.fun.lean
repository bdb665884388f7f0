theorem oc_362_109 : (Int32.ofInt (-1)).toInt = (-1) ∧ (Int32.ofInt 0).toInt = 0 ∧ (Int32.ofInt 1).toInt = 1 ∧ (Int32.ofInt 32).toInt = 32 ∧ (Int64.ofInt 0).toInt = 0 ∧ (Int64.ofInt 1).toInt = 1 := ⟨rfl, rfl, rfl, rfl, rfl, rfl⟩
/-- GraphHouseModel.pairing -/
theorem f_362 {Z : AmZ} {A : Nat → Nat} {s : GS} {ex : va_W} {d : Nat} {X : AmX} {x1 : Int32} (hd : 4 ≤ d) (hI : Inv s)  : GC Z d 362 [.ref (A 109), .int x1] (WW Z A s ++ ex) 0 0 (fun v u => ∃ t : GS, Inv t ∧ Fr fm_362 s t ∧ ∃ z : Int64, v = some (.long z) ∧ u = WW Z A t ++ ex ∧ (PAZ s t x1 z)) X := by
  intro post xp hP hX
  obtain ⟨u_109_20, e_109_20⟩ : ∃ w, w = s.2.2.1 109 20 := ⟨_, rfl⟩
  have ro_109_20 := inv_F hI 0 32 rfl e_109_20
  have ct28 : ∀ (k28 : Nat) (sc28 : GS) (y28_2 : Int64) (y28_4 : Int64) (y28_6 : Int32), Inv sc28 → Fr fm_362 s sc28 → (In x1 0 1) → (In y28_6 0 32) → (PP sc28 ∧ PEE sc28 ∧ PWM (gvZ s) sc28 160) → (MSM sc28 (y28_2).toInt (y28_4).toInt (y28_6).toNatClampNeg) → (((sc28).2.2.1 109 0).toInt = 0) → 32 - (y28_6).toInt < (k28 : Int) → GG Z (d - 1) 362 post (gx xp) (1 + k28 * 900) 28 (fun j => xlook j [(0, .ref (A 109)), (1, .int x1), (2, .long y28_2), (4, .long y28_4), (6, .int y28_6)]) [] (WW Z A sc28 ++ ex) 0 0 := by
    intro k28
    induction k28 with
    | zero => intro sc28 y28_2 y28_4 y28_6 hIc28 hFc28 j28_1 j28_6 g28_0 g28_1 g28_2 mm28; exact m_no mm28 j28_6 rfl
    | succ k28 ih28 =>
      intro sc28 y28_2 y28_4 y28_6 hIc28 hFc28 j28_1 j28_6 g28_0 g28_1 g28_2 mm28
      refine gg_w (M := 1 + k28 * 900 + 900) gws ?_
      refine g_iload 30 (gd rfl) rfl rfl ?_
      refine g_aload_n 31 (gd rfl) rfl rfl ?_
      refine g_getI 34 (gd rfl) rfl rfl rfl (fun z31 e31 => ?_)
      have q31 : u_109_20 = z31 := (fr_F e_109_20 hFc28 rfl).trans e31.symm
      subst q31
      refine g_cmp_ge 37 89 (gd rfl) rfl rfl (fun c34 => ?_) (fun c34 => ?_)
      · skip
        refine g_iload_n 90 (gd rfl) rfl rfl ?_
        refine g_if_ne 93 97 (gd rfl) rfl rfl (fun c90 => ?_) (fun c90 => ?_)
        · skip
          have i90 := z_ne 1 1 c90 j28_1 rfl
          refine g_lload 99 (gd rfl) rfl rfl ?_
          have n99 : PAZ s sc28 x1 y28_4 := by first | (exact Or.inr ⟨g28_2, j28_1, _, _, ref_e hI (hFc28.1 111 rfl) (hFc28.2.2.1 109 18 rfl) (hFc28.2.2.1 109 20 rfl) g28_0.1 g28_0.2.1 g28_0.2.2 g28_1 (by unfold nnq; rw [hFc28.2.2.1 109 20 rfl, ← e_109_20]; show _ ≤ (((y28_6).toInt.toNat : Nat) : Int); exact (have a0 := in_u i90; have a1 := in_u ro_109_20; have a2 := in_u j28_6; have oc := oc_362_109; by omega)) (by show (y28_6).toInt.toNat ≤ 32; exact (have a0 := in_u i90; have a1 := in_u ro_109_20; have a2 := in_u j28_6; have oc := oc_362_109; by omega)), fun h9 => absurd h9 c90, fun _ => rfl⟩) | (exact Or.inr ⟨g28_2, j28_1, _, _, ref_e hI (hFc28.1 111 rfl) (hFc28.2.2.1 109 18 rfl) (hFc28.2.2.1 109 20 rfl) g28_0.1 g28_0.2.1 g28_0.2.2 g28_1 (by unfold nnq; rw [hFc28.2.2.1 109 20 rfl, ← e_109_20]; show _ ≤ (((y28_6).toInt.toNat : Nat) : Int); exact (have a0 := in_u i90; have a1 := in_u ro_109_20; have a2 := in_u j28_6; have oc := oc_362_109; by omega)) (by show (y28_6).toInt.toNat ≤ 32; exact (have a0 := in_u i90; have a1 := in_u ro_109_20; have a2 := in_u j28_6; have oc := oc_362_109; by omega)), fun _ => rfl, fun h9 => absurd c90 h9⟩)
          exact g_lreturn (gd rfl) rfl (hP _ _ ⟨sc28, hIc28, hFc28, y28_4, rfl, rfl, n99⟩)
        · skip
          have i90 := z_eq 0 0 c90 j28_1 rfl
          refine g_lload_n 94 (gd rfl) rfl rfl ?_
          refine g_goto 99 (gd rfl) rfl ?_
          have n99 : PAZ s sc28 x1 y28_2 := by first | (exact Or.inr ⟨g28_2, j28_1, _, _, ref_e hI (hFc28.1 111 rfl) (hFc28.2.2.1 109 18 rfl) (hFc28.2.2.1 109 20 rfl) g28_0.1 g28_0.2.1 g28_0.2.2 g28_1 (by unfold nnq; rw [hFc28.2.2.1 109 20 rfl, ← e_109_20]; show _ ≤ (((y28_6).toInt.toNat : Nat) : Int); exact (have a0 := in_u i90; have a1 := in_u ro_109_20; have a2 := in_u j28_6; have oc := oc_362_109; by omega)) (by show (y28_6).toInt.toNat ≤ 32; exact (have a0 := in_u i90; have a1 := in_u ro_109_20; have a2 := in_u j28_6; have oc := oc_362_109; by omega)), fun h9 => absurd h9 c90, fun _ => rfl⟩) | (exact Or.inr ⟨g28_2, j28_1, _, _, ref_e hI (hFc28.1 111 rfl) (hFc28.2.2.1 109 18 rfl) (hFc28.2.2.1 109 20 rfl) g28_0.1 g28_0.2.1 g28_0.2.2 g28_1 (by unfold nnq; rw [hFc28.2.2.1 109 20 rfl, ← e_109_20]; show _ ≤ (((y28_6).toInt.toNat : Nat) : Int); exact (have a0 := in_u i90; have a1 := in_u ro_109_20; have a2 := in_u j28_6; have oc := oc_362_109; by omega)) (by show (y28_6).toInt.toNat ≤ 32; exact (have a0 := in_u i90; have a1 := in_u ro_109_20; have a2 := in_u j28_6; have oc := oc_362_109; by omega)), fun _ => rfl, fun h9 => absurd c90 h9⟩)
          exact g_lreturn (gd rfl) rfl (hP _ _ ⟨sc28, hIc28, hFc28, y28_2, rfl, rfl, n99⟩)
      · skip
        have i34 := r_lt1 0 31 c34 j28_6 ro_109_20 rfl
        have i34a := r_lt2 1 32 c34 j28_6 ro_109_20 rfl
        refine g_aload_n 38 (gd rfl) rfl rfl ?_
        refine g_iload 40 (gd rfl) rfl rfl ?_
        refine g_callv (X := _) (As := [.int y28_6]) (r := []) (b := A 109) (q := 109) 43 (gd rfl) rfl rfl rfl rfl rfl (ww_o rfl) (Nat.le_of_ble_eq_true rfl) (Nat.zero_le _) (Nat.zero_le _) (k_359 (by first | exact dq1 hd rfl | exact dq0 hd rfl | exact dq2 hd rfl | exact dq3 hd rfl | omega) hIc28 (in_w 0 31 i34 rfl)) (fun e u h => h) (fun v u h => ?_)
        obtain ⟨z40, rfl, rfl, i40, p40⟩ := h
        show GG _ _ _ _ _ _ _ _ [.int z40] _ _ _
        refine g_if_eq 46 83 (gd rfl) rfl rfl (fun c43 => ?_) (fun c43 => ?_)
        · skip
          have i43 := z_eq 0 0 c43 i40 rfl
          refine g_iinc 86 (gd rfl) rfl rfl (Nat.le_of_ble_eq_true rfl) (fun z83 e83 => ?_)
          have i83 := in_add 1 32 e83 i34 (in_c 1 rfl) rfl rfl
          refine g_goto 28 (gd rfl) rfl ?_
          have n28 : PP sc28 ∧ PEE sc28 ∧ PWM (gvZ s) sc28 160 := by exact g28_0
          have n28a : MSM sc28 (y28_2).toInt (y28_4).toInt (z83).toNatClampNeg := by rw [(show (z83).toNatClampNeg = (y28_6).toNatClampNeg + 1 from (by show (z83).toInt.toNat = (y28_6).toInt.toNat + 1; exact (have a0 := in_u j28_1; have a1 := in_u i34a; have a2 := in_u i34; have a3 := in_u i83; have a4 := t_add e83 i34 (in_c 1 rfl) rfl; have a5 := in_u ((in_c 1 rfl)); have oc := oc_362_109; by omega)))]; exact msm_n g28_1 (show ¬ FMU sc28 (y28_6).toNatClampNeg from fun h => by have h9 := p40.mpr h.2.1; have h8 := c43; omega)
          have n28b : ((sc28).2.2.1 109 0).toInt = 0 := by exact g28_2
          exact gg_w (by first | exact Nat.le_add_right _ _ | exact gw2 | exact gw3 | exact gwe rfl | exact gwf rfl | exact gwg rfl | exact gwh rfl | omega) (gg_f (gf_cons rfl (gf_cons rfl (gf_cons rfl (gf_cons rfl (gf_cons rfl gf_nil))))) (ih28 sc28 y28_2 y28_4 z83 hIc28 hFc28 (in_w 0 1 j28_1 rfl) (in_w 0 32 i83 rfl) n28 n28a n28b (m_up mm28 (t_add e83 i34 (in_c 1 rfl) rfl) (in_w 1 1 (in_c 1 rfl) rfl))))
        · skip
          have i43 := z_ne 1 1 c43 i40 rfl
          refine g_aload_n 47 (gd rfl) rfl rfl ?_
          refine g_getA (q2 := 151) 50 (gd rfl) rfl rfl rfl rfl ?_
          refine g_iload 52 (gd rfl) rfl rfl ?_
          refine g_iaload 53 (gd rfl) rfl (n := 32) rfl (in_ix i34 rfl) (fun z52 e52 => ?_)
          have i52 := inv_I hIc28 (n := 32) (t := 0) (-1) 31 rfl (in_ix i34 rfl) rfl e52
          refine g_if_lt 56 83 (gd rfl) rfl rfl (fun c53 => ?_) (fun c53 => ?_)
          · skip
            have i53 := z_lt (-1) (-1) c53 i52 rfl
            refine g_iinc 86 (gd rfl) rfl rfl (Nat.le_of_ble_eq_true rfl) (fun z83 e83 => ?_)
            have i83 := in_add 1 32 e83 i34 (in_c 1 rfl) rfl rfl
            refine g_goto 28 (gd rfl) rfl ?_
            have n28 : PP sc28 ∧ PEE sc28 ∧ PWM (gvZ s) sc28 160 := by exact g28_0
            have n28a : MSM sc28 (y28_2).toInt (y28_4).toInt (z83).toNatClampNeg := by rw [(show (z83).toNatClampNeg = (y28_6).toNatClampNeg + 1 from (by show (z83).toInt.toNat = (y28_6).toInt.toNat + 1; exact (have a0 := in_u j28_1; have a1 := in_u i34a; have a2 := in_u i34; have a3 := in_u i83; have a4 := t_add e83 i34 (in_c 1 rfl) rfl; have a5 := in_u ((in_c 1 rfl)); have oc := oc_362_109; by omega)))]; exact msm_n g28_1 (show ¬ FMU sc28 (y28_6).toNatClampNeg from fun h => by have h9 := h.2.2; rw [← e52] at h9; have h8 := c53; omega)
            have n28b : ((sc28).2.2.1 109 0).toInt = 0 := by exact g28_2
            exact gg_w (by first | exact Nat.le_add_right _ _ | exact gw2 | exact gw3 | exact gwe rfl | exact gwf rfl | exact gwg rfl | exact gwh rfl | omega) (gg_f (gf_cons rfl (gf_cons rfl (gf_cons rfl (gf_cons rfl (gf_cons rfl gf_nil))))) (ih28 sc28 y28_2 y28_4 z83 hIc28 hFc28 (in_w 0 1 j28_1 rfl) (in_w 0 32 i83 rfl) n28 n28a n28b (m_up mm28 (t_add e83 i34 (in_c 1 rfl) rfl) (in_w 1 1 (in_c 1 rfl) rfl))))
          · skip
            have i53 := z_ge 0 31 c53 i52 rfl
            refine g_lload_n 57 (gd rfl) rfl rfl ?_
            refine g_lconst 1 58 (gd rfl) rfl rfl ?_
            refine g_ladd 59 (gd rfl) rfl (fun z58 e58 => ?_)
            refine g_lstore_n 60 (gd rfl) rfl (Nat.le_of_ble_eq_true rfl) ?_
            refine g_lload 62 (gd rfl) rfl rfl ?_
            refine g_aload_n 63 (gd rfl) rfl rfl ?_
            refine g_getA (q2 := 152) 66 (gd rfl) rfl rfl rfl rfl ?_
            refine g_bipush 32 68 (gd rfl) rfl rfl ?_
            refine g_iload 70 (gd rfl) rfl rfl ?_
            refine g_imul 71 (gd rfl) rfl (fun z70 e70 => ?_)
            have i70 := in_mulc 32 0 992 (Or.inl e70) i34 rfl rfl
            refine g_aload_n 72 (gd rfl) rfl rfl ?_
            refine g_getA (q2 := 151) 75 (gd rfl) rfl rfl rfl rfl ?_
            refine g_iload 77 (gd rfl) rfl rfl ?_
            refine g_iaload 78 (gd rfl) rfl (n := 32) rfl (in_ix i34 rfl) (fun z77 e77 => ?_)
            have q77 : z52 = z77 := (e52).trans e77.symm
            subst q77
            refine g_iadd 79 (gd rfl) rfl (fun z78 e78 => ?_)
            have i78 := in_add 0 1023 e78 i70 i53 rfl rfl
            refine g_laload 80 (gd rfl) rfl (n := 1024) rfl (in_ix i78 rfl) (fun z79 e79 => ?_)
            refine g_ladd 81 (gd rfl) rfl (fun z80 e80 => ?_)
            refine g_lstore 83 (gd rfl) rfl (Nat.le_of_ble_eq_true rfl) ?_
            refine g_iinc 86 (gd rfl) rfl rfl (Nat.le_of_ble_eq_true rfl) (fun z83 e83 => ?_)
            have i83 := in_add 1 32 e83 i34 (in_c 1 rfl) rfl rfl
            refine g_goto 28 (gd rfl) rfl ?_
            have n28 : PP sc28 ∧ PEE sc28 ∧ PWM (gvZ s) sc28 160 := by exact g28_0
            have n28a : MSM sc28 (z58).toInt (z80).toInt (z83).toNatClampNeg := by rw [(show (z83).toNatClampNeg = (y28_6).toNatClampNeg + 1 from (by show (z83).toInt.toNat = (y28_6).toInt.toNat + 1; exact (have a0 := in_u j28_1; have a1 := in_u i34a; have a2 := in_u i34; have a3 := in_u i83; have a4 := t_add e83 i34 (in_c 1 rfl) rfl; have a5 := in_u ((in_c 1 rfl)); have a6 := in_u i78; have a7 := t_add e78 i70 i53 rfl; have a8 := in_u i53; have a9 := in_u i70; have a10 := (t_mulc 32 (Or.inl e70) i34 rfl).1; have oc := oc_362_109; by omega)))]; exact msm_y g28_0.1 g28_1 (show (y28_6).toNatClampNeg < 32 from (by show (y28_6).toInt.toNat < 32; exact (have a0 := in_u j28_1; have a1 := in_u i34a; have a2 := in_u i34; have a3 := in_u i83; have a4 := t_add e83 i34 (in_c 1 rfl) rfl; have a5 := in_u ((in_c 1 rfl)); have a6 := in_u i78; have a7 := t_add e78 i70 i53 rfl; have a8 := in_u i53; have a9 := in_u i70; have a10 := (t_mulc 32 (Or.inl e70) i34 rfl).1; have oc := oc_362_109; by omega))) ⟨(show (((y28_6).toNatClampNeg : Nat) : Int) < nnq sc28 from (by unfold nnq; rw [hFc28.2.2.1 109 20 rfl, ← e_109_20]; show (((y28_6).toInt.toNat : Nat) : Int) < _; exact (have a0 := in_u j28_1; have a1 := in_u i34a; have a2 := in_u i34; have a3 := in_u i83; have a4 := t_add e83 i34 (in_c 1 rfl) rfl; have a5 := in_u ((in_c 1 rfl)); have a6 := in_u i78; have a7 := t_add e78 i70 i53 rfl; have a8 := in_u i53; have a9 := in_u i70; have a10 := (t_mulc 32 (Or.inl e70) i34 rfl).1; have oc := oc_362_109; by omega))), p40.mp c43, (by rw [← e52]; exact c53)⟩ e52 (show z78.toNatClampNeg = 32 * (y28_6).toNatClampNeg + z52.toNatClampNeg from (by show z78.toInt.toNat = 32 * (y28_6).toInt.toNat + z52.toInt.toNat; exact (have a0 := in_u j28_1; have a1 := in_u i34a; have a2 := in_u i34; have a3 := in_u i83; have a4 := t_add e83 i34 (in_c 1 rfl) rfl; have a5 := in_u ((in_c 1 rfl)); have a6 := in_u i78; have a7 := t_add e78 i70 i53 rfl; have a8 := in_u i53; have a9 := in_u i70; have a10 := (t_mulc 32 (Or.inl e70) i34 rfl).1; have oc := oc_362_109; by omega))) e58 e79 e80
            have n28b : ((sc28).2.2.1 109 0).toInt = 0 := by exact g28_2
            exact gg_w (by first | exact Nat.le_add_right _ _ | exact gw2 | exact gw3 | exact gwe rfl | exact gwf rfl | exact gwg rfl | exact gwh rfl | omega) (gg_f (gf_cons rfl (gf_cons rfl (gf_cons rfl (gf_cons rfl (gf_cons rfl gf_nil))))) (ih28 sc28 z58 z80 z83 hIc28 hFc28 (in_w 0 1 j28_1 rfl) (in_w 0 32 i83 rfl) n28 n28a n28b (m_up mm28 (t_add e83 i34 (in_c 1 rfl) rfl) (in_w 1 1 (in_c 1 rfl) rfl))))
  refine g_enter2 (k := 362) (N := 30601) (by first | exact dq1 hd rfl | exact dq0 hd rfl | exact dq2 hd rfl | exact dq3 hd rfl | omega) rfl (Nat.le_of_ble_eq_true rfl) ?_
  refine g_aload_n 1 (gd rfl) rfl rfl ?_
  refine g_iload_n 2 (gd rfl) rfl rfl ?_
  refine g_i2l 3 (gd rfl) rfl (fun z2 e2 => ?_)
  have i2 := l_i e2 (i_rng x1)
  refine g_lconst 0 4 (gd rfl) rfl rfl ?_
  refine g_lconst 1 5 (gd rfl) rfl rfl ?_
  refine g_calls (As := [.long z2, .long (Int64.ofInt 0), .long (Int64.ofInt 1)]) (r := [.ref (A 109)]) 8 (gd rfl) rfl rfl rfl rfl rfl (Nat.le_of_ble_eq_true rfl) (mc := 0) (ms := 0) (Nat.zero_le _) (Nat.zero_le _) (P := fun v u => _) ?_ (fun v u h => h)
  intro po5 xx5 hp5 hx5
  refine g_enter2 (k := 269) (N := 300) (by first | exact dq1 hd rfl | exact dq0 hd rfl | exact dq2 hd rfl | exact dq3 hd rfl | omega) rfl (Nat.le_of_ble_eq_true rfl) ?_
  refine g_lload_n 1 (gd rfl) rfl rfl ?_
  refine g_lload_n 2 (gd rfl) rfl rfl ?_
  refine g_lcmp 3 (gd rfl) rfl (fun z5x2 e5x2 => ?_)
  have i5x2 := lc_in e5x2
  refine g_if_lt 6 17 (gd rfl) rfl rfl (fun c5x3 => ?_) (fun c5x3 => ?_)
  · skip
    have i5x3 := z_lt (-1) (-1) c5x3 i5x2 rfl
    have c5x3a := lc_lt e5x2 c5x3
    have i5x3a := lr_lt1 (-2147483648) (-1) c5x3a i2 (l_c 0 rfl) rfl
    have i5x3b := l_b e2 i5x3a
    refine g_iconst 0 18 (gd rfl) rfl rfl ?_
    refine g_ireturn (gd rfl) rfl (nb01 (in_w 0 1 (in_c 0 rfl) rfl)) (hp5 _ _ ?_)
    show GG _ _ _ _ _ _ _ _ [.int (Int32.ofInt 0), .ref (A 109)] _ _ _
    refine g_callv (X := _) (As := [.int (Int32.ofInt 0)]) (r := []) (b := A 109) (q := 109) 11 (gd rfl) rfl rfl rfl rfl rfl (ww_o rfl) (Nat.le_of_ble_eq_true rfl) (mc := 0) (ms := 0) (Nat.zero_le _) (Nat.zero_le _) (P := fun v u => _) ?_ (fun e u h => h) (fun v u h => h)
    intro po8 xx8 hp8 hx8
    refine g_enter2 (k := 271) (N := 300) (by first | exact dq1 hd rfl | exact dq0 hd rfl | exact dq2 hd rfl | exact dq3 hd rfl | omega) rfl (Nat.le_of_ble_eq_true rfl) ?_
    refine g_aload_n 1 (gd rfl) rfl rfl ?_
    refine g_iload_n 2 (gd rfl) rfl rfl ?_
    refine g_iconst 1 3 (gd rfl) rfl rfl ?_
    refine g_callv (X := _) (As := [.int (Int32.ofInt 0), .int (Int32.ofInt 1)]) (r := []) (b := A 109) (q := 109) 6 (gd rfl) rfl rfl rfl rfl rfl (ww_o rfl) (Nat.le_of_ble_eq_true rfl) (mc := 0) (ms := 0) (Nat.zero_le _) (Nat.zero_le _) (P := fun v u => _) ?_ (fun e u h => h) (fun v u h => h)
    intro po8x3 xx8x3 hp8x3 hx8x3
    refine g_enter2 (k := 270) (N := 300) (by first | exact dq1 hd rfl | exact dq0 hd rfl | exact dq2 hd rfl | exact dq3 hd rfl | omega) rfl (Nat.le_of_ble_eq_true rfl) ?_
    refine g_aload_n 1 (gd rfl) rfl rfl ?_
    refine g_iload_n 2 (gd rfl) rfl rfl ?_
    refine g_if_ne 5 9 (gd rfl) rfl rfl (fun c8x3x2 => ?_) (fun c8x3x2 => ?_)
    · skip
      exact zn_ne c8x3x2 (in_c 0 rfl) rfl
    · skip
      refine g_iconst 1 6 (gd rfl) rfl rfl ?_
      refine g_goto 18 (gd rfl) rfl ?_
      refine g_putI 21 (gd rfl) rfl rfl rfl rfl ?_
      have hI8x3x18 := inv_sF (q := 109) (j := 0) hI rfl (in_w 0 2 (in_c 1 rfl) rfl)
      refine g_aload_n 22 (gd rfl) rfl rfl ?_
      refine g_getI 25 (gd rfl) rfl rfl rfl (fun z8x3x22 e8x3x22 => ?_)
      have q8x3x22 : (Int32.ofInt 1) = z8x3x22 := (sF_get).trans e8x3x22.symm
      subst q8x3x22
      refine g_if_le 28 32 (gd rfl) rfl rfl (fun c8x3x25 => ?_) (fun c8x3x25 => ?_)
      · skip
        exact zn_le c8x3x25 (in_c 1 rfl) rfl
      · skip
        refine g_iconst 1 29 (gd rfl) rfl rfl ?_
        refine g_goto 33 (gd rfl) rfl ?_
        refine g_ireturn (gd rfl) rfl (nb01 (in_w 0 1 (in_c 1 rfl) rfl)) (hp8x3 _ _ ?_)
        show GG _ _ _ _ _ _ _ _ [.int (Int32.ofInt 1)] _ _ _
        refine g_ireturn (gd rfl) rfl (nb01 (in_w 0 1 (in_c 1 rfl) rfl)) (hp8 _ _ ?_)
        show GG _ _ _ _ _ _ _ _ [.int (Int32.ofInt 1)] _ _ _
        refine g_if_eq 14 16 (gd rfl) rfl rfl (fun c11 => ?_) (fun c11 => ?_)
        · skip
          exact zn_eq c11 (in_c 1 rfl) rfl
        · skip
          refine g_lconst 0 15 (gd rfl) rfl rfl ?_
          have n15 : PAZ s (sF s 109 0 (Int32.ofInt 1)) x1 (Int64.ofInt 0) := by exact Or.inl ⟨rfl, by unfold In; exact (have a0 := in_u ro_109_20; have a1 := in_u i5x3b; have a2 := in_u ((in_c 1 rfl)); have a3 := tx_i2l e2; have oc := oc_362_109; by omega)⟩
          exact g_lreturn (gd rfl) rfl (hP _ _ ⟨(sF s 109 0 (Int32.ofInt 1)), hI8x3x18, (fr_sF rfl fr_rf), (Int64.ofInt 0), rfl, rfl, n15⟩)
  · skip
    have i5x3 := z_ge 0 1 c5x3 i5x2 rfl
    have c5x3a := lc_ge e5x2 c5x3
    have i5x3a := lr_le2 0 2147483647 c5x3a (l_c 0 rfl) i2 rfl
    have i5x3b := l_b e2 i5x3a
    refine g_lload_n 7 (gd rfl) rfl rfl ?_
    refine g_lload 9 (gd rfl) rfl rfl ?_
    refine g_lcmp 10 (gd rfl) rfl (fun z5x9 e5x9 => ?_)
    have i5x9 := lc_in e5x9
    refine g_if_gt 13 17 (gd rfl) rfl rfl (fun c5x10 => ?_) (fun c5x10 => ?_)
    · skip
      have i5x10 := z_gt 1 1 c5x10 i5x9 rfl
      have c5x10a := lc_gt e5x9 c5x10
      have i5x10a := lr_lt2 2 2147483647 c5x10a (l_c 1 rfl) i5x3a rfl
      have i5x10b := l_b e2 i5x10a
      refine g_iconst 0 18 (gd rfl) rfl rfl ?_
      refine g_ireturn (gd rfl) rfl (nb01 (in_w 0 1 (in_c 0 rfl) rfl)) (hp5 _ _ ?_)
      show GG _ _ _ _ _ _ _ _ [.int (Int32.ofInt 0), .ref (A 109)] _ _ _
      refine g_callv (X := _) (As := [.int (Int32.ofInt 0)]) (r := []) (b := A 109) (q := 109) 11 (gd rfl) rfl rfl rfl rfl rfl (ww_o rfl) (Nat.le_of_ble_eq_true rfl) (mc := 0) (ms := 0) (Nat.zero_le _) (Nat.zero_le _) (P := fun v u => _) ?_ (fun e u h => h) (fun v u h => h)
      intro po8 xx8 hp8 hx8
      refine g_enter2 (k := 271) (N := 300) (by first | exact dq1 hd rfl | exact dq0 hd rfl | exact dq2 hd rfl | exact dq3 hd rfl | omega) rfl (Nat.le_of_ble_eq_true rfl) ?_
      refine g_aload_n 1 (gd rfl) rfl rfl ?_
      refine g_iload_n 2 (gd rfl) rfl rfl ?_
      refine g_iconst 1 3 (gd rfl) rfl rfl ?_
      refine g_callv (X := _) (As := [.int (Int32.ofInt 0), .int (Int32.ofInt 1)]) (r := []) (b := A 109) (q := 109) 6 (gd rfl) rfl rfl rfl rfl rfl (ww_o rfl) (Nat.le_of_ble_eq_true rfl) (mc := 0) (ms := 0) (Nat.zero_le _) (Nat.zero_le _) (P := fun v u => _) ?_ (fun e u h => h) (fun v u h => h)
      intro po8x3 xx8x3 hp8x3 hx8x3
      refine g_enter2 (k := 270) (N := 300) (by first | exact dq1 hd rfl | exact dq0 hd rfl | exact dq2 hd rfl | exact dq3 hd rfl | omega) rfl (Nat.le_of_ble_eq_true rfl) ?_
      refine g_aload_n 1 (gd rfl) rfl rfl ?_
      refine g_iload_n 2 (gd rfl) rfl rfl ?_
      refine g_if_ne 5 9 (gd rfl) rfl rfl (fun c8x3x2 => ?_) (fun c8x3x2 => ?_)
      · skip
        exact zn_ne c8x3x2 (in_c 0 rfl) rfl
      · skip
        refine g_iconst 1 6 (gd rfl) rfl rfl ?_
        refine g_goto 18 (gd rfl) rfl ?_
        refine g_putI 21 (gd rfl) rfl rfl rfl rfl ?_
        have hI8x3x18 := inv_sF (q := 109) (j := 0) hI rfl (in_w 0 2 (in_c 1 rfl) rfl)
        refine g_aload_n 22 (gd rfl) rfl rfl ?_
        refine g_getI 25 (gd rfl) rfl rfl rfl (fun z8x3x22 e8x3x22 => ?_)
        have q8x3x22 : (Int32.ofInt 1) = z8x3x22 := (sF_get).trans e8x3x22.symm
        subst q8x3x22
        refine g_if_le 28 32 (gd rfl) rfl rfl (fun c8x3x25 => ?_) (fun c8x3x25 => ?_)
        · skip
          exact zn_le c8x3x25 (in_c 1 rfl) rfl
        · skip
          refine g_iconst 1 29 (gd rfl) rfl rfl ?_
          refine g_goto 33 (gd rfl) rfl ?_
          refine g_ireturn (gd rfl) rfl (nb01 (in_w 0 1 (in_c 1 rfl) rfl)) (hp8x3 _ _ ?_)
          show GG _ _ _ _ _ _ _ _ [.int (Int32.ofInt 1)] _ _ _
          refine g_ireturn (gd rfl) rfl (nb01 (in_w 0 1 (in_c 1 rfl) rfl)) (hp8 _ _ ?_)
          show GG _ _ _ _ _ _ _ _ [.int (Int32.ofInt 1)] _ _ _
          refine g_if_eq 14 16 (gd rfl) rfl rfl (fun c11 => ?_) (fun c11 => ?_)
          · skip
            exact zn_eq c11 (in_c 1 rfl) rfl
          · skip
            refine g_lconst 0 15 (gd rfl) rfl rfl ?_
            have n15 : PAZ s (sF s 109 0 (Int32.ofInt 1)) x1 (Int64.ofInt 0) := by exact Or.inl ⟨rfl, by unfold In; exact (have a0 := in_u ro_109_20; have a1 := in_u i5x10b; have a2 := in_u ((in_c 1 rfl)); have a3 := tx_i2l e2; have oc := oc_362_109; by omega)⟩
            exact g_lreturn (gd rfl) rfl (hP _ _ ⟨(sF s 109 0 (Int32.ofInt 1)), hI8x3x18, (fr_sF rfl fr_rf), (Int64.ofInt 0), rfl, rfl, n15⟩)
    · skip
      have i5x10 := z_le (-1) 0 c5x10 i5x9 rfl
      have c5x10a := lc_le e5x9 c5x10
      have i5x10a := lr_le1 0 1 c5x10a i5x3a (l_c 1 rfl) rfl
      have i5x10b := l_b e2 i5x10a
      refine g_iconst 1 14 (gd rfl) rfl rfl ?_
      refine g_goto 18 (gd rfl) rfl ?_
      refine g_ireturn (gd rfl) rfl (nb01 (in_w 0 1 (in_c 1 rfl) rfl)) (hp5 _ _ ?_)
      show GG _ _ _ _ _ _ _ _ [.int (Int32.ofInt 1), .ref (A 109)] _ _ _
      refine g_callv (X := _) (As := [.int (Int32.ofInt 1)]) (r := []) (b := A 109) (q := 109) 11 (gd rfl) rfl rfl rfl rfl rfl (ww_o rfl) (Nat.le_of_ble_eq_true rfl) (mc := 0) (ms := 0) (Nat.zero_le _) (Nat.zero_le _) (P := fun v u => _) ?_ (fun e u h => h) (fun v u h => h)
      intro po8 xx8 hp8 hx8
      refine g_enter2 (k := 271) (N := 300) (by first | exact dq1 hd rfl | exact dq0 hd rfl | exact dq2 hd rfl | exact dq3 hd rfl | omega) rfl (Nat.le_of_ble_eq_true rfl) ?_
      refine g_aload_n 1 (gd rfl) rfl rfl ?_
      refine g_iload_n 2 (gd rfl) rfl rfl ?_
      refine g_iconst 1 3 (gd rfl) rfl rfl ?_
      refine g_callv (X := _) (As := [.int (Int32.ofInt 1), .int (Int32.ofInt 1)]) (r := []) (b := A 109) (q := 109) 6 (gd rfl) rfl rfl rfl rfl rfl (ww_o rfl) (Nat.le_of_ble_eq_true rfl) (mc := 0) (ms := 0) (Nat.zero_le _) (Nat.zero_le _) (P := fun v u => _) ?_ (fun e u h => h) (fun v u h => h)
      intro po8x3 xx8x3 hp8x3 hx8x3
      refine g_enter2 (k := 270) (N := 300) (by first | exact dq1 hd rfl | exact dq0 hd rfl | exact dq2 hd rfl | exact dq3 hd rfl | omega) rfl (Nat.le_of_ble_eq_true rfl) ?_
      refine g_aload_n 1 (gd rfl) rfl rfl ?_
      refine g_iload_n 2 (gd rfl) rfl rfl ?_
      refine g_if_ne 5 9 (gd rfl) rfl rfl (fun c8x3x2 => ?_) (fun c8x3x2 => ?_)
      · skip
        refine g_iload_n 10 (gd rfl) rfl rfl ?_
        refine g_if_ne 13 17 (gd rfl) rfl rfl (fun c8x3x10 => ?_) (fun c8x3x10 => ?_)
        · skip
          refine g_iconst 0 18 (gd rfl) rfl rfl ?_
          refine g_putI 21 (gd rfl) rfl rfl rfl rfl ?_
          have hI8x3x18 := inv_sF (q := 109) (j := 0) hI rfl (in_w 0 2 (in_c 0 rfl) rfl)
          refine g_aload_n 22 (gd rfl) rfl rfl ?_
          refine g_getI 25 (gd rfl) rfl rfl rfl (fun z8x3x22 e8x3x22 => ?_)
          have q8x3x22 : (Int32.ofInt 0) = z8x3x22 := (sF_get).trans e8x3x22.symm
          subst q8x3x22
          refine g_if_le 28 32 (gd rfl) rfl rfl (fun c8x3x25 => ?_) (fun c8x3x25 => ?_)
          · skip
            refine g_iconst 0 33 (gd rfl) rfl rfl ?_
            refine g_ireturn (gd rfl) rfl (nb01 (in_w 0 1 (in_c 0 rfl) rfl)) (hp8x3 _ _ ?_)
            show GG _ _ _ _ _ _ _ _ [.int (Int32.ofInt 0)] _ _ _
            refine g_ireturn (gd rfl) rfl (nb01 (in_w 0 1 (in_c 0 rfl) rfl)) (hp8 _ _ ?_)
            show GG _ _ _ _ _ _ _ _ [.int (Int32.ofInt 0)] _ _ _
            refine g_if_eq 14 16 (gd rfl) rfl rfl (fun c11 => ?_) (fun c11 => ?_)
            · skip
              refine g_aload_n 17 (gd rfl) rfl rfl ?_
              refine g_callv (X := _) (As := []) (r := []) (b := A 109) (q := 109) 20 (gd rfl) rfl rfl rfl rfl rfl (ww_o rfl) (Nat.le_of_ble_eq_true rfl) (Nat.zero_le _) (Nat.zero_le _) (f_360 (by first | exact dq1 hd rfl | exact dq0 hd rfl | exact dq2 hd rfl | exact dq3 hd rfl | omega) hI8x3x18 ) (fun e u h => h) (fun v u h => ?_)
              obtain ⟨s17, hI17, hF17, rfl, rfl, p17⟩ := h
              show GG _ _ _ _ _ _ _ _ [] _ _ _
              refine g_lconst 0 21 (gd rfl) rfl rfl ?_
              refine g_lstore_n 22 (gd rfl) rfl (Nat.le_of_ble_eq_true rfl) ?_
              refine g_lconst 0 23 (gd rfl) rfl rfl ?_
              refine g_lstore 25 (gd rfl) rfl (Nat.le_of_ble_eq_true rfl) ?_
              refine g_iconst 0 26 (gd rfl) rfl rfl ?_
              refine g_istore 28 (gd rfl) rfl (Nat.le_of_ble_eq_true rfl) ?_
              have n28 : PP s17 ∧ PEE s17 ∧ PWM (gvZ s) s17 160 := by have h9 := p17; rw [gvz_cg (show Fr ([], [], [(109, 0)], []) s (sF s 109 0 (Int32.ofInt 0)) from fr_sF rfl fr_rf) rfl] at h9; exact h9
              have n28a : MSM s17 ((Int64.ofInt 0)).toInt ((Int64.ofInt 0)).toInt ((Int32.ofInt 0)).toNatClampNeg := by exact (show MSM _ 0 0 0 from msm_0)
              have n28b : ((s17).2.2.1 109 0).toInt = 0 := by rw [hF17.2.2.1 109 0 rfl]; rfl
              exact gg_w (by first | exact Nat.le_of_ble_eq_true rfl | omega) (gg_f (gf_cons rfl (gf_cons rfl (gf_cons rfl (gf_cons rfl (gf_cons rfl gf_nil))))) (ct28 33 s17 (Int64.ofInt 0) (Int64.ofInt 0) (Int32.ofInt 0) hI17 (fr_tr rfl (fr_sF rfl fr_rf) hF17) (in_w 0 1 i5x10b rfl) (in_w 0 32 (in_c 0 rfl) rfl) n28 n28a n28b (m_in 33 (in_w 0 32 (in_c 0 rfl) rfl) rfl)))
            · skip
              exact zn_ne c11 (in_c 0 rfl) rfl
          · skip
            exact zn_gt c8x3x25 (in_c 0 rfl) rfl
        · skip
          exact zn_eq c8x3x10 (in_c 1 rfl) rfl
      · skip
        exact zn_eq c8x3x2 (in_c 1 rfl) rfl
