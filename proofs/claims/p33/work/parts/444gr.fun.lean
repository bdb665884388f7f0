/-! FUNCTIONAL CONTRACTS, by fgen.py -/
theorem oc_243_0 : (Int32.ofInt (-1)).toInt = (-1) ∧ (Int32.ofInt 0).toInt = 0 ∧ (Int32.ofInt 1).toInt = 1 ∧ (Int32.ofInt 200000000).toInt = 200000000 := ⟨rfl, rfl, rfl, rfl⟩
/-- GraphHouse.cost -/
theorem f_243_0 {Z : AmZ} {A : Nat → Nat} {s : GS} {ex : va_W} {d : Nat} {x1 : Int32} {x2 : Int32} {x3 : Int32} (hd : 7 ≤ d) (hI : Inv s) (q_0 : TQ s) (q_1 : TQD s) (q_2 : NDC s) (q_3 : FLC s) : GC Z d 243 [.ref (A 0), .int x1, .int x2, .int x3] (WW Z A s ++ ex) 3 18 (fun v u => ∃ t : GS, Inv t ∧ Fr fm_243_0 s t ∧ ∃ z : Int64, v = some (.long z) ∧ u = WW Z A t ++ ex ∧ (((TWO (shC s).2.2.2.2.2.2.1 x1 x2) ∧ 0 ≤ x3.toInt ∧ x3.toInt ≤ 200000000) ∧ CSX (shC s) x1.toNatClampNeg x2.toNatClampNeg x3.toInt (z).toInt) ∧ (FLQ (shC s) t)) (gEx Z A ex ([], [], [], []) s (¬ ((TWO (shC s).2.2.2.2.2.2.1 x1 x2) ∧ 0 ≤ x3.toInt ∧ x3.toInt ≤ 200000000)) (False)) := by
  intro post xp hP hX
  obtain ⟨u_0_2, e_0_2⟩ : ∃ w, w = s.2.2.1 0 2 := ⟨_, rfl⟩
  have ro_0_2 := inv_F hI (-1) 4000 rfl e_0_2
  obtain ⟨u_2_1, e_2_1⟩ : ∃ w, w = s.2.2.1 2 1 := ⟨_, rfl⟩
  have ro_2_1 := inv_F hI 0 32 rfl e_2_1
  obtain ⟨u_32_1, e_32_1⟩ : ∃ w, w = s.2.2.1 32 1 := ⟨_, rfl⟩
  have ro_32_1 := inv_F hI 0 32 rfl e_32_1
  refine g_enter2 (k := 243) (N := 900) (by first | exact dq1 hd rfl | exact dq0 hd rfl | exact dq2 hd rfl | exact dq3 hd rfl | omega) rfl (Nat.le_of_ble_eq_true rfl) ?_
  refine g_aload_n 1 (gd rfl) rfl rfl ?_
  refine g_callv (X := _) (As := []) (r := []) (b := A 0) (q := 0) 4 (gd rfl) rfl rfl rfl rfl rfl (ww_o rfl) (Nat.le_of_ble_eq_true rfl) (mc := 0) (ms := 0) (Nat.zero_le _) (Nat.zero_le _) (P := fun v u => _) ?_ (fun e u h => h) (fun v u h => h)
  intro po1 xx1 hp1 hx1
  refine g_enter2 (k := 259) (N := 300) (by first | exact dq1 hd rfl | exact dq0 hd rfl | exact dq2 hd rfl | exact dq3 hd rfl | omega) rfl (Nat.le_of_ble_eq_true rfl) ?_
  refine g_aload_n 1 (gd rfl) rfl rfl ?_
  refine g_getI 4 (gd rfl) rfl rfl rfl (fun z1x1 e1x1 => ?_)
  have q1x1 : u_0_2 = z1x1 := (e_0_2).trans e1x1.symm
  subst q1x1
  refine g_iconst (-1) 5 (gd rfl) rfl rfl ?_
  refine g_cmp_ne 8 18 (gd rfl) rfl rfl (fun c1x5 => ?_) (fun c1x5 => ?_)
  · skip
    have i1x5 := r_ne1 0 4000 c1x5 ro_0_2 (in_c (-1) rfl) rfl
    refine g_aload_n 19 (gd rfl) rfl rfl ?_
    refine g_getA (q2 := 32) 22 (gd rfl) rfl rfl rfl rfl ?_
    refine g_areturn (gd rfl) rfl (hp1 _ _ ?_)
    show GG _ _ _ _ _ _ _ _ [.ref (A 32)] _ _ _
    refine g_astore 6 (gd rfl) rfl (Nat.le_of_ble_eq_true rfl) ?_
    refine g_aload 8 (gd rfl) rfl rfl ?_
    refine g_iload_n 9 (gd rfl) rfl rfl ?_
    refine g_iload_n 10 (gd rfl) rfl rfl ?_
    refine g_callv (X := _) (As := [.int x1, .int x2]) (r := []) (b := A 32) (q := 32) 13 (gd rfl) rfl rfl rfl rfl rfl (ww_o rfl) (Nat.le_of_ble_eq_true rfl) (mc := 0) (ms := 0) (Nat.zero_le _) (Nat.zero_le _) (P := fun v u => _) ?_ (fun e u h => h) (fun v u h => h)
    intro po10 xx10 hp10 hx10
    refine g_enter2 (k := 95) (N := 300) (by first | exact dq1 hd rfl | exact dq0 hd rfl | exact dq2 hd rfl | exact dq3 hd rfl | omega) rfl (Nat.le_of_ble_eq_true rfl) ?_
    refine g_aload_n 1 (gd rfl) rfl rfl ?_
    refine g_iload_n 2 (gd rfl) rfl rfl ?_
    refine g_callv (X := _) (As := [.int x1]) (r := []) (b := A 32) (q := 32) 5 (gd rfl) rfl rfl rfl rfl rfl (ww_o rfl) (Nat.le_of_ble_eq_true rfl) (mc := 0) (ms := 0) (Nat.zero_le _) (Nat.zero_le _) (P := fun v u => _) ?_ (fun e u h => h) (fun v u h => h)
    intro po10x2 xx10x2 hp10x2 hx10x2
    refine g_enter2 (k := 94) (N := 300) (by first | exact dq1 hd rfl | exact dq0 hd rfl | exact dq2 hd rfl | exact dq3 hd rfl | omega) rfl (Nat.le_of_ble_eq_true rfl) ?_
    refine g_iload_n 1 (gd rfl) rfl rfl ?_
    refine g_if_lt 4 16 (gd rfl) rfl rfl (fun c10x2x1 => ?_) (fun c10x2x1 => ?_)
    · skip
      have i10x2x1 := z_lt (-2147483648) (-1) c10x2x1 (i_rng x1) rfl
      refine g_iconst 0 17 (gd rfl) rfl rfl ?_
      refine g_ireturn (gd rfl) rfl (nb01 (in_w 0 1 (in_c 0 rfl) rfl)) (hp10x2 _ _ ?_)
      show GG _ _ _ _ _ _ _ _ [.int (Int32.ofInt 0)] _ _ _
      refine g_if_eq 8 25 (gd rfl) rfl rfl (fun c10x5 => ?_) (fun c10x5 => ?_)
      · skip
        refine g_iconst 0 26 (gd rfl) rfl rfl ?_
        refine g_ireturn (gd rfl) rfl (nb01 (in_w 0 1 (in_c 0 rfl) rfl)) (hp10 _ _ ?_)
        show GG _ _ _ _ _ _ _ _ [.int (Int32.ofInt 0)] _ _ _
        refine g_if_eq 16 31 (gd rfl) rfl rfl (fun c13 => ?_) (fun c13 => ?_)
        · skip
          refine g_iconst 0 32 (gd rfl) rfl rfl ?_
          refine g_thr (E := am_IA) (y := yX11_allow) 35 (gd rfl) rfl rfl (Or.inl ⟨rfl, rfl, rfl⟩) (by first | exact dq1 hd rfl | exact dq0 hd rfl | exact dq2 hd rfl | exact dq3 hd rfl | omega) (Nat.le_of_ble_eq_true rfl) (Nat.le_of_ble_eq_true rfl) (Nat.le_of_ble_eq_true rfl) (fun c32 => ?_) (fun c32 => ?_)
          · skip
            exact zn_ne c32 (in_c 0 rfl) rfl
          · skip
            have n32 : ¬ ((TWO (shC s).2.2.2.2.2.2.1 x1 x2) ∧ 0 ≤ x3.toInt ∧ x3.toInt ≤ 200000000) := by first | (rw [shC_n (by rw [← e1x1]; exact c1x5)]; show ¬ (TWO (s.2.2.1 2 1).toInt x1 x2 ∧ 0 ≤ x3.toInt ∧ x3.toInt ≤ 200000000); rw [← e_2_1]; (first | have a0 := in_u ro_32_1 | (have a0 := ro_32_1; unfold In at a0)); (first | have a1 := in_u ro_2_1 | (have a1 := ro_2_1; unfold In at a1)); (first | have a2 := in_u i1x5 | (have a2 := i1x5; unfold In at a2)); (first | have a3 := in_u i10x2x1 | (have a3 := i10x2x1; unfold In at a3)); have oc := oc_243_0; omega) | (rw [shC_d (by rw [← e1x1]; exact c1x5)]; show ¬ (TWO (s.2.2.1 32 1).toInt x1 x2 ∧ 0 ≤ x3.toInt ∧ x3.toInt ≤ 200000000); rw [← e_32_1]; (first | have a0 := in_u ro_32_1 | (have a0 := ro_32_1; unfold In at a0)); (first | have a1 := in_u ro_2_1 | (have a1 := ro_2_1; unfold In at a1)); (first | have a2 := in_u i1x5 | (have a2 := i1x5; unfold In at a2)); (first | have a3 := in_u i10x2x1 | (have a3 := i10x2x1; unfold In at a3)); have oc := oc_243_0; omega)
            exact (hX _ _ ⟨Or.inl ⟨rfl, n32⟩, s, hI, fr_rf, rfl⟩)
        · skip
          exact zn_ne c13 (in_c 0 rfl) rfl
      · skip
        exact zn_ne c10x5 (in_c 0 rfl) rfl
    · skip
      have i10x2x1 := z_ge 0 2147483647 c10x2x1 (i_rng x1) rfl
      refine g_iload_n 5 (gd rfl) rfl rfl ?_
      refine g_aload_n 6 (gd rfl) rfl rfl ?_
      refine g_getI 9 (gd rfl) rfl rfl rfl (fun z10x2x6 e10x2x6 => ?_)
      have q10x2x6 : u_32_1 = z10x2x6 := (e_32_1).trans e10x2x6.symm
      subst q10x2x6
      refine g_cmp_ge 12 16 (gd rfl) rfl rfl (fun c10x2x9 => ?_) (fun c10x2x9 => ?_)
      · skip
        refine g_iconst 0 17 (gd rfl) rfl rfl ?_
        refine g_ireturn (gd rfl) rfl (nb01 (in_w 0 1 (in_c 0 rfl) rfl)) (hp10x2 _ _ ?_)
        show GG _ _ _ _ _ _ _ _ [.int (Int32.ofInt 0)] _ _ _
        refine g_if_eq 8 25 (gd rfl) rfl rfl (fun c10x5 => ?_) (fun c10x5 => ?_)
        · skip
          refine g_iconst 0 26 (gd rfl) rfl rfl ?_
          refine g_ireturn (gd rfl) rfl (nb01 (in_w 0 1 (in_c 0 rfl) rfl)) (hp10 _ _ ?_)
          show GG _ _ _ _ _ _ _ _ [.int (Int32.ofInt 0)] _ _ _
          refine g_if_eq 16 31 (gd rfl) rfl rfl (fun c13 => ?_) (fun c13 => ?_)
          · skip
            refine g_iconst 0 32 (gd rfl) rfl rfl ?_
            refine g_thr (E := am_IA) (y := yX11_allow) 35 (gd rfl) rfl rfl (Or.inl ⟨rfl, rfl, rfl⟩) (by first | exact dq1 hd rfl | exact dq0 hd rfl | exact dq2 hd rfl | exact dq3 hd rfl | omega) (Nat.le_of_ble_eq_true rfl) (Nat.le_of_ble_eq_true rfl) (Nat.le_of_ble_eq_true rfl) (fun c32 => ?_) (fun c32 => ?_)
            · skip
              exact zn_ne c32 (in_c 0 rfl) rfl
            · skip
              have n32 : ¬ ((TWO (shC s).2.2.2.2.2.2.1 x1 x2) ∧ 0 ≤ x3.toInt ∧ x3.toInt ≤ 200000000) := by first | (rw [shC_n (by rw [← e1x1]; exact c1x5)]; show ¬ (TWO (s.2.2.1 2 1).toInt x1 x2 ∧ 0 ≤ x3.toInt ∧ x3.toInt ≤ 200000000); rw [← e_2_1]; (first | have a0 := in_u ro_32_1 | (have a0 := ro_32_1; unfold In at a0)); (first | have a1 := in_u ro_2_1 | (have a1 := ro_2_1; unfold In at a1)); (first | have a2 := in_u i1x5 | (have a2 := i1x5; unfold In at a2)); (first | have a3 := in_u i10x2x1 | (have a3 := i10x2x1; unfold In at a3)); have oc := oc_243_0; omega) | (rw [shC_d (by rw [← e1x1]; exact c1x5)]; show ¬ (TWO (s.2.2.1 32 1).toInt x1 x2 ∧ 0 ≤ x3.toInt ∧ x3.toInt ≤ 200000000); rw [← e_32_1]; (first | have a0 := in_u ro_32_1 | (have a0 := ro_32_1; unfold In at a0)); (first | have a1 := in_u ro_2_1 | (have a1 := ro_2_1; unfold In at a1)); (first | have a2 := in_u i1x5 | (have a2 := i1x5; unfold In at a2)); (first | have a3 := in_u i10x2x1 | (have a3 := i10x2x1; unfold In at a3)); have oc := oc_243_0; omega)
              exact (hX _ _ ⟨Or.inl ⟨rfl, n32⟩, s, hI, fr_rf, rfl⟩)
          · skip
            exact zn_ne c13 (in_c 0 rfl) rfl
        · skip
          exact zn_ne c10x5 (in_c 0 rfl) rfl
      · skip
        have i10x2x9 := r_lt1 0 31 c10x2x9 i10x2x1 ro_32_1 rfl
        have i10x2x9a := r_lt2 1 32 c10x2x9 i10x2x1 ro_32_1 rfl
        refine g_iconst 1 13 (gd rfl) rfl rfl ?_
        refine g_goto 17 (gd rfl) rfl ?_
        refine g_ireturn (gd rfl) rfl (nb01 (in_w 0 1 (in_c 1 rfl) rfl)) (hp10x2 _ _ ?_)
        show GG _ _ _ _ _ _ _ _ [.int (Int32.ofInt 1)] _ _ _
        refine g_if_eq 8 25 (gd rfl) rfl rfl (fun c10x5 => ?_) (fun c10x5 => ?_)
        · skip
          exact zn_eq c10x5 (in_c 1 rfl) rfl
        · skip
          refine g_aload_n 9 (gd rfl) rfl rfl ?_
          refine g_iload_n 10 (gd rfl) rfl rfl ?_
          refine g_callv (X := _) (As := [.int x2]) (r := []) (b := A 32) (q := 32) 13 (gd rfl) rfl rfl rfl rfl rfl (ww_o rfl) (Nat.le_of_ble_eq_true rfl) (mc := 0) (ms := 0) (Nat.zero_le _) (Nat.zero_le _) (P := fun v u => _) ?_ (fun e u h => h) (fun v u h => h)
          intro po10x10 xx10x10 hp10x10 hx10x10
          refine g_enter2 (k := 94) (N := 300) (by first | exact dq1 hd rfl | exact dq0 hd rfl | exact dq2 hd rfl | exact dq3 hd rfl | omega) rfl (Nat.le_of_ble_eq_true rfl) ?_
          refine g_iload_n 1 (gd rfl) rfl rfl ?_
          refine g_if_lt 4 16 (gd rfl) rfl rfl (fun c10x10x1 => ?_) (fun c10x10x1 => ?_)
          · skip
            have i10x10x1 := z_lt (-2147483648) (-1) c10x10x1 (i_rng x2) rfl
            refine g_iconst 0 17 (gd rfl) rfl rfl ?_
            refine g_ireturn (gd rfl) rfl (nb01 (in_w 0 1 (in_c 0 rfl) rfl)) (hp10x10 _ _ ?_)
            show GG _ _ _ _ _ _ _ _ [.int (Int32.ofInt 0)] _ _ _
            refine g_if_eq 16 25 (gd rfl) rfl rfl (fun c10x13 => ?_) (fun c10x13 => ?_)
            · skip
              refine g_iconst 0 26 (gd rfl) rfl rfl ?_
              refine g_ireturn (gd rfl) rfl (nb01 (in_w 0 1 (in_c 0 rfl) rfl)) (hp10 _ _ ?_)
              show GG _ _ _ _ _ _ _ _ [.int (Int32.ofInt 0)] _ _ _
              refine g_if_eq 16 31 (gd rfl) rfl rfl (fun c13 => ?_) (fun c13 => ?_)
              · skip
                refine g_iconst 0 32 (gd rfl) rfl rfl ?_
                refine g_thr (E := am_IA) (y := yX11_allow) 35 (gd rfl) rfl rfl (Or.inl ⟨rfl, rfl, rfl⟩) (by first | exact dq1 hd rfl | exact dq0 hd rfl | exact dq2 hd rfl | exact dq3 hd rfl | omega) (Nat.le_of_ble_eq_true rfl) (Nat.le_of_ble_eq_true rfl) (Nat.le_of_ble_eq_true rfl) (fun c32 => ?_) (fun c32 => ?_)
                · skip
                  exact zn_ne c32 (in_c 0 rfl) rfl
                · skip
                  have n32 : ¬ ((TWO (shC s).2.2.2.2.2.2.1 x1 x2) ∧ 0 ≤ x3.toInt ∧ x3.toInt ≤ 200000000) := by first | (rw [shC_n (by rw [← e1x1]; exact c1x5)]; show ¬ (TWO (s.2.2.1 2 1).toInt x1 x2 ∧ 0 ≤ x3.toInt ∧ x3.toInt ≤ 200000000); rw [← e_2_1]; (first | have a0 := in_u i10x2x9 | (have a0 := i10x2x9; unfold In at a0)); (first | have a1 := in_u i10x2x9a | (have a1 := i10x2x9a; unfold In at a1)); (first | have a2 := in_u ro_2_1 | (have a2 := ro_2_1; unfold In at a2)); (first | have a3 := in_u i1x5 | (have a3 := i1x5; unfold In at a3)); (first | have a4 := in_u i10x10x1 | (have a4 := i10x10x1; unfold In at a4)); have oc := oc_243_0; omega) | (rw [shC_d (by rw [← e1x1]; exact c1x5)]; show ¬ (TWO (s.2.2.1 32 1).toInt x1 x2 ∧ 0 ≤ x3.toInt ∧ x3.toInt ≤ 200000000); rw [← e_32_1]; (first | have a0 := in_u i10x2x9 | (have a0 := i10x2x9; unfold In at a0)); (first | have a1 := in_u i10x2x9a | (have a1 := i10x2x9a; unfold In at a1)); (first | have a2 := in_u ro_2_1 | (have a2 := ro_2_1; unfold In at a2)); (first | have a3 := in_u i1x5 | (have a3 := i1x5; unfold In at a3)); (first | have a4 := in_u i10x10x1 | (have a4 := i10x10x1; unfold In at a4)); have oc := oc_243_0; omega)
                  exact (hX _ _ ⟨Or.inl ⟨rfl, n32⟩, s, hI, fr_rf, rfl⟩)
              · skip
                exact zn_ne c13 (in_c 0 rfl) rfl
            · skip
              exact zn_ne c10x13 (in_c 0 rfl) rfl
          · skip
            have i10x10x1 := z_ge 0 2147483647 c10x10x1 (i_rng x2) rfl
            refine g_iload_n 5 (gd rfl) rfl rfl ?_
            refine g_aload_n 6 (gd rfl) rfl rfl ?_
            refine g_getI 9 (gd rfl) rfl rfl rfl (fun z10x10x6 e10x10x6 => ?_)
            have q10x10x6 : u_32_1 = z10x10x6 := (e_32_1).trans e10x10x6.symm
            subst q10x10x6
            refine g_cmp_ge 12 16 (gd rfl) rfl rfl (fun c10x10x9 => ?_) (fun c10x10x9 => ?_)
            · skip
              have i10x10x9 := r_le2 1 2147483647 c10x10x9 i10x2x9a i10x10x1 rfl
              refine g_iconst 0 17 (gd rfl) rfl rfl ?_
              refine g_ireturn (gd rfl) rfl (nb01 (in_w 0 1 (in_c 0 rfl) rfl)) (hp10x10 _ _ ?_)
              show GG _ _ _ _ _ _ _ _ [.int (Int32.ofInt 0)] _ _ _
              refine g_if_eq 16 25 (gd rfl) rfl rfl (fun c10x13 => ?_) (fun c10x13 => ?_)
              · skip
                refine g_iconst 0 26 (gd rfl) rfl rfl ?_
                refine g_ireturn (gd rfl) rfl (nb01 (in_w 0 1 (in_c 0 rfl) rfl)) (hp10 _ _ ?_)
                show GG _ _ _ _ _ _ _ _ [.int (Int32.ofInt 0)] _ _ _
                refine g_if_eq 16 31 (gd rfl) rfl rfl (fun c13 => ?_) (fun c13 => ?_)
                · skip
                  refine g_iconst 0 32 (gd rfl) rfl rfl ?_
                  refine g_thr (E := am_IA) (y := yX11_allow) 35 (gd rfl) rfl rfl (Or.inl ⟨rfl, rfl, rfl⟩) (by first | exact dq1 hd rfl | exact dq0 hd rfl | exact dq2 hd rfl | exact dq3 hd rfl | omega) (Nat.le_of_ble_eq_true rfl) (Nat.le_of_ble_eq_true rfl) (Nat.le_of_ble_eq_true rfl) (fun c32 => ?_) (fun c32 => ?_)
                  · skip
                    exact zn_ne c32 (in_c 0 rfl) rfl
                  · skip
                    have n32 : ¬ ((TWO (shC s).2.2.2.2.2.2.1 x1 x2) ∧ 0 ≤ x3.toInt ∧ x3.toInt ≤ 200000000) := by first | (rw [shC_n (by rw [← e1x1]; exact c1x5)]; show ¬ (TWO (s.2.2.1 2 1).toInt x1 x2 ∧ 0 ≤ x3.toInt ∧ x3.toInt ≤ 200000000); rw [← e_2_1]; (first | have a0 := in_u i10x2x9 | (have a0 := i10x2x9; unfold In at a0)); (first | have a1 := in_u i10x2x9a | (have a1 := i10x2x9a; unfold In at a1)); (first | have a2 := in_u ro_2_1 | (have a2 := ro_2_1; unfold In at a2)); (first | have a3 := in_u i1x5 | (have a3 := i1x5; unfold In at a3)); (first | have a4 := in_u i10x10x9 | (have a4 := i10x10x9; unfold In at a4)); have oc := oc_243_0; omega) | (rw [shC_d (by rw [← e1x1]; exact c1x5)]; show ¬ (TWO (s.2.2.1 32 1).toInt x1 x2 ∧ 0 ≤ x3.toInt ∧ x3.toInt ≤ 200000000); rw [← e_32_1]; (first | have a0 := in_u i10x2x9 | (have a0 := i10x2x9; unfold In at a0)); (first | have a1 := in_u i10x2x9a | (have a1 := i10x2x9a; unfold In at a1)); (first | have a2 := in_u ro_2_1 | (have a2 := ro_2_1; unfold In at a2)); (first | have a3 := in_u i1x5 | (have a3 := i1x5; unfold In at a3)); (first | have a4 := in_u i10x10x9 | (have a4 := i10x10x9; unfold In at a4)); have oc := oc_243_0; omega)
                    exact (hX _ _ ⟨Or.inl ⟨rfl, n32⟩, s, hI, fr_rf, rfl⟩)
                · skip
                  exact zn_ne c13 (in_c 0 rfl) rfl
              · skip
                exact zn_ne c10x13 (in_c 0 rfl) rfl
            · skip
              have i10x10x9 := r_lt1 0 31 c10x10x9 i10x10x1 i10x2x9a rfl
              refine g_iconst 1 13 (gd rfl) rfl rfl ?_
              refine g_goto 17 (gd rfl) rfl ?_
              refine g_ireturn (gd rfl) rfl (nb01 (in_w 0 1 (in_c 1 rfl) rfl)) (hp10x10 _ _ ?_)
              show GG _ _ _ _ _ _ _ _ [.int (Int32.ofInt 1)] _ _ _
              refine g_if_eq 16 25 (gd rfl) rfl rfl (fun c10x13 => ?_) (fun c10x13 => ?_)
              · skip
                exact zn_eq c10x13 (in_c 1 rfl) rfl
              · skip
                refine g_iload_n 17 (gd rfl) rfl rfl ?_
                refine g_iload_n 18 (gd rfl) rfl rfl ?_
                refine g_cmp_eq 21 25 (gd rfl) rfl rfl (fun c10x18 => ?_) (fun c10x18 => ?_)
                · skip
                  refine g_iconst 0 26 (gd rfl) rfl rfl ?_
                  refine g_ireturn (gd rfl) rfl (nb01 (in_w 0 1 (in_c 0 rfl) rfl)) (hp10 _ _ ?_)
                  show GG _ _ _ _ _ _ _ _ [.int (Int32.ofInt 0)] _ _ _
                  refine g_if_eq 16 31 (gd rfl) rfl rfl (fun c13 => ?_) (fun c13 => ?_)
                  · skip
                    refine g_iconst 0 32 (gd rfl) rfl rfl ?_
                    refine g_thr (E := am_IA) (y := yX11_allow) 35 (gd rfl) rfl rfl (Or.inl ⟨rfl, rfl, rfl⟩) (by first | exact dq1 hd rfl | exact dq0 hd rfl | exact dq2 hd rfl | exact dq3 hd rfl | omega) (Nat.le_of_ble_eq_true rfl) (Nat.le_of_ble_eq_true rfl) (Nat.le_of_ble_eq_true rfl) (fun c32 => ?_) (fun c32 => ?_)
                    · skip
                      exact zn_ne c32 (in_c 0 rfl) rfl
                    · skip
                      have n32 : ¬ ((TWO (shC s).2.2.2.2.2.2.1 x1 x2) ∧ 0 ≤ x3.toInt ∧ x3.toInt ≤ 200000000) := by first | (rw [shC_n (by rw [← e1x1]; exact c1x5)]; show ¬ (TWO (s.2.2.1 2 1).toInt x1 x2 ∧ 0 ≤ x3.toInt ∧ x3.toInt ≤ 200000000); rw [← e_2_1]; (first | have a0 := in_u i10x10x9 | (have a0 := i10x10x9; unfold In at a0)); (first | have a1 := in_u i10x2x9 | (have a1 := i10x2x9; unfold In at a1)); (first | have a2 := in_u i10x2x9a | (have a2 := i10x2x9a; unfold In at a2)); (first | have a3 := in_u ro_2_1 | (have a3 := ro_2_1; unfold In at a3)); (first | have a4 := in_u i1x5 | (have a4 := i1x5; unfold In at a4)); have oc := oc_243_0; omega) | (rw [shC_d (by rw [← e1x1]; exact c1x5)]; show ¬ (TWO (s.2.2.1 32 1).toInt x1 x2 ∧ 0 ≤ x3.toInt ∧ x3.toInt ≤ 200000000); rw [← e_32_1]; (first | have a0 := in_u i10x10x9 | (have a0 := i10x10x9; unfold In at a0)); (first | have a1 := in_u i10x2x9 | (have a1 := i10x2x9; unfold In at a1)); (first | have a2 := in_u i10x2x9a | (have a2 := i10x2x9a; unfold In at a2)); (first | have a3 := in_u ro_2_1 | (have a3 := ro_2_1; unfold In at a3)); (first | have a4 := in_u i1x5 | (have a4 := i1x5; unfold In at a4)); have oc := oc_243_0; omega)
                      exact (hX _ _ ⟨Or.inl ⟨rfl, n32⟩, s, hI, fr_rf, rfl⟩)
                  · skip
                    exact zn_ne c13 (in_c 0 rfl) rfl
                · skip
                  refine g_iconst 1 22 (gd rfl) rfl rfl ?_
                  refine g_goto 26 (gd rfl) rfl ?_
                  refine g_ireturn (gd rfl) rfl (nb01 (in_w 0 1 (in_c 1 rfl) rfl)) (hp10 _ _ ?_)
                  show GG _ _ _ _ _ _ _ _ [.int (Int32.ofInt 1)] _ _ _
                  refine g_if_eq 16 31 (gd rfl) rfl rfl (fun c13 => ?_) (fun c13 => ?_)
                  · skip
                    exact zn_eq c13 (in_c 1 rfl) rfl
                  · skip
                    refine g_iload_n 17 (gd rfl) rfl rfl ?_
                    refine g_if_lt 20 31 (gd rfl) rfl rfl (fun c17 => ?_) (fun c17 => ?_)
                    · skip
                      have i17 := z_lt (-2147483648) (-1) c17 (i_rng x3) rfl
                      refine g_iconst 0 32 (gd rfl) rfl rfl ?_
                      refine g_thr (E := am_IA) (y := yX11_allow) 35 (gd rfl) rfl rfl (Or.inl ⟨rfl, rfl, rfl⟩) (by first | exact dq1 hd rfl | exact dq0 hd rfl | exact dq2 hd rfl | exact dq3 hd rfl | omega) (Nat.le_of_ble_eq_true rfl) (Nat.le_of_ble_eq_true rfl) (Nat.le_of_ble_eq_true rfl) (fun c32 => ?_) (fun c32 => ?_)
                      · skip
                        exact zn_ne c32 (in_c 0 rfl) rfl
                      · skip
                        have n32 : ¬ ((TWO (shC s).2.2.2.2.2.2.1 x1 x2) ∧ 0 ≤ x3.toInt ∧ x3.toInt ≤ 200000000) := by first | (rw [shC_n (by rw [← e1x1]; exact c1x5)]; show ¬ (TWO (s.2.2.1 2 1).toInt x1 x2 ∧ 0 ≤ x3.toInt ∧ x3.toInt ≤ 200000000); rw [← e_2_1]; (first | have a0 := in_u i10x10x9 | (have a0 := i10x10x9; unfold In at a0)); (first | have a1 := in_u i10x2x9 | (have a1 := i10x2x9; unfold In at a1)); (first | have a2 := in_u i10x2x9a | (have a2 := i10x2x9a; unfold In at a2)); (first | have a3 := in_u ro_2_1 | (have a3 := ro_2_1; unfold In at a3)); (first | have a4 := in_u i1x5 | (have a4 := i1x5; unfold In at a4)); (first | have a5 := in_u i17 | (have a5 := i17; unfold In at a5)); have oc := oc_243_0; omega) | (rw [shC_d (by rw [← e1x1]; exact c1x5)]; show ¬ (TWO (s.2.2.1 32 1).toInt x1 x2 ∧ 0 ≤ x3.toInt ∧ x3.toInt ≤ 200000000); rw [← e_32_1]; (first | have a0 := in_u i10x10x9 | (have a0 := i10x10x9; unfold In at a0)); (first | have a1 := in_u i10x2x9 | (have a1 := i10x2x9; unfold In at a1)); (first | have a2 := in_u i10x2x9a | (have a2 := i10x2x9a; unfold In at a2)); (first | have a3 := in_u ro_2_1 | (have a3 := ro_2_1; unfold In at a3)); (first | have a4 := in_u i1x5 | (have a4 := i1x5; unfold In at a4)); (first | have a5 := in_u i17 | (have a5 := i17; unfold In at a5)); have oc := oc_243_0; omega)
                        exact (hX _ _ ⟨Or.inl ⟨rfl, n32⟩, s, hI, fr_rf, rfl⟩)
                    · skip
                      have i17 := z_ge 0 2147483647 c17 (i_rng x3) rfl
                      refine g_iload_n 21 (gd rfl) rfl rfl ?_
                      refine g_ldc_w 200000000 24 (gd rfl) rfl rfl ?_
                      refine g_cmp_gt 27 31 (gd rfl) rfl rfl (fun c24 => ?_) (fun c24 => ?_)
                      · skip
                        have i24 := r_lt2 200000001 2147483647 c24 (in_c 200000000 rfl) i17 rfl
                        refine g_iconst 0 32 (gd rfl) rfl rfl ?_
                        refine g_thr (E := am_IA) (y := yX11_allow) 35 (gd rfl) rfl rfl (Or.inl ⟨rfl, rfl, rfl⟩) (by first | exact dq1 hd rfl | exact dq0 hd rfl | exact dq2 hd rfl | exact dq3 hd rfl | omega) (Nat.le_of_ble_eq_true rfl) (Nat.le_of_ble_eq_true rfl) (Nat.le_of_ble_eq_true rfl) (fun c32 => ?_) (fun c32 => ?_)
                        · skip
                          exact zn_ne c32 (in_c 0 rfl) rfl
                        · skip
                          have n32 : ¬ ((TWO (shC s).2.2.2.2.2.2.1 x1 x2) ∧ 0 ≤ x3.toInt ∧ x3.toInt ≤ 200000000) := by first | (rw [shC_n (by rw [← e1x1]; exact c1x5)]; show ¬ (TWO (s.2.2.1 2 1).toInt x1 x2 ∧ 0 ≤ x3.toInt ∧ x3.toInt ≤ 200000000); rw [← e_2_1]; (first | have a0 := in_u i10x10x9 | (have a0 := i10x10x9; unfold In at a0)); (first | have a1 := in_u i10x2x9 | (have a1 := i10x2x9; unfold In at a1)); (first | have a2 := in_u i10x2x9a | (have a2 := i10x2x9a; unfold In at a2)); (first | have a3 := in_u ro_2_1 | (have a3 := ro_2_1; unfold In at a3)); (first | have a4 := in_u i1x5 | (have a4 := i1x5; unfold In at a4)); (first | have a5 := in_u i24 | (have a5 := i24; unfold In at a5)); have oc := oc_243_0; omega) | (rw [shC_d (by rw [← e1x1]; exact c1x5)]; show ¬ (TWO (s.2.2.1 32 1).toInt x1 x2 ∧ 0 ≤ x3.toInt ∧ x3.toInt ≤ 200000000); rw [← e_32_1]; (first | have a0 := in_u i10x10x9 | (have a0 := i10x10x9; unfold In at a0)); (first | have a1 := in_u i10x2x9 | (have a1 := i10x2x9; unfold In at a1)); (first | have a2 := in_u i10x2x9a | (have a2 := i10x2x9a; unfold In at a2)); (first | have a3 := in_u ro_2_1 | (have a3 := ro_2_1; unfold In at a3)); (first | have a4 := in_u i1x5 | (have a4 := i1x5; unfold In at a4)); (first | have a5 := in_u i24 | (have a5 := i24; unfold In at a5)); have oc := oc_243_0; omega)
                          exact (hX _ _ ⟨Or.inl ⟨rfl, n32⟩, s, hI, fr_rf, rfl⟩)
                      · skip
                        have i24 := r_le1 0 200000000 c24 i17 (in_c 200000000 rfl) rfl
                        refine g_iconst 1 28 (gd rfl) rfl rfl ?_
                        refine g_goto 32 (gd rfl) rfl ?_
                        refine g_thr (E := am_IA) (y := yX11_allow) 35 (gd rfl) rfl rfl (Or.inl ⟨rfl, rfl, rfl⟩) (by first | exact dq1 hd rfl | exact dq0 hd rfl | exact dq2 hd rfl | exact dq3 hd rfl | omega) (Nat.le_of_ble_eq_true rfl) (Nat.le_of_ble_eq_true rfl) (Nat.le_of_ble_eq_true rfl) (fun c32 => ?_) (fun c32 => ?_)
                        · skip
                          refine g_aload_n 36 (gd rfl) rfl rfl ?_
                          refine g_getA (q2 := 65) 39 (gd rfl) rfl rfl rfl rfl ?_
                          refine g_aload 41 (gd rfl) rfl rfl ?_
                          refine g_iload_n 42 (gd rfl) rfl rfl ?_
                          refine g_iload_n 43 (gd rfl) rfl rfl ?_
                          refine g_iload_n 44 (gd rfl) rfl rfl ?_
                          have p44 : TQD s := by first | exact q_0 | exact q_1
                          have p44a : FLB (gvD s) s := by first | (rw [← shC_n (by rw [← e1x1]; exact c1x5)]; exact q_3) | (rw [← shC_d (by rw [← e1x1]; exact c1x5)]; exact q_3)
                          have p44b : (x1).toInt ≠ (x2).toInt := by (first | have a0 := in_u i10x10x9 | (have a0 := i10x10x9; unfold In at a0)); (first | have a1 := in_u i10x2x9 | (have a1 := i10x2x9; unfold In at a1)); (first | have a2 := in_u i10x2x9a | (have a2 := i10x2x9a; unfold In at a2)); (first | have a3 := in_u ro_2_1 | (have a3 := ro_2_1; unfold In at a3)); (first | have a4 := in_u i1x5 | (have a4 := i1x5; unfold In at a4)); (first | have a5 := in_u i24 | (have a5 := i24; unfold In at a5)); have oc := oc_243_0; omega
                          have p44c : NDQ (gvD s) := by first | (rw [← shC_n (by rw [← e1x1]; exact c1x5)]; exact q_2) | (rw [← shC_d (by rw [← e1x1]; exact c1x5)]; exact q_2)
                          have p44d : (x1).toInt < (s.2.2.1 32 1).toInt ∧ (x2).toInt < (s.2.2.1 32 1).toInt := by first | exact ⟨by rw [← e_2_1]; (first | have a0 := in_u i10x10x9 | (have a0 := i10x10x9; unfold In at a0)); (first | have a1 := in_u i10x2x9 | (have a1 := i10x2x9; unfold In at a1)); (first | have a2 := in_u i10x2x9a | (have a2 := i10x2x9a; unfold In at a2)); (first | have a3 := in_u ro_2_1 | (have a3 := ro_2_1; unfold In at a3)); (first | have a4 := in_u i1x5 | (have a4 := i1x5; unfold In at a4)); (first | have a5 := in_u i24 | (have a5 := i24; unfold In at a5)); have oc := oc_243_0; omega, by rw [← e_2_1]; (first | have a0 := in_u i10x10x9 | (have a0 := i10x10x9; unfold In at a0)); (first | have a1 := in_u i10x2x9 | (have a1 := i10x2x9; unfold In at a1)); (first | have a2 := in_u i10x2x9a | (have a2 := i10x2x9a; unfold In at a2)); (first | have a3 := in_u ro_2_1 | (have a3 := ro_2_1; unfold In at a3)); (first | have a4 := in_u i1x5 | (have a4 := i1x5; unfold In at a4)); (first | have a5 := in_u i24 | (have a5 := i24; unfold In at a5)); have oc := oc_243_0; omega⟩ | exact ⟨by rw [← e_32_1]; (first | have a0 := in_u i10x10x9 | (have a0 := i10x10x9; unfold In at a0)); (first | have a1 := in_u i10x2x9 | (have a1 := i10x2x9; unfold In at a1)); (first | have a2 := in_u i10x2x9a | (have a2 := i10x2x9a; unfold In at a2)); (first | have a3 := in_u ro_2_1 | (have a3 := ro_2_1; unfold In at a3)); (first | have a4 := in_u i1x5 | (have a4 := i1x5; unfold In at a4)); (first | have a5 := in_u i24 | (have a5 := i24; unfold In at a5)); have oc := oc_243_0; omega, by rw [← e_32_1]; (first | have a0 := in_u i10x10x9 | (have a0 := i10x10x9; unfold In at a0)); (first | have a1 := in_u i10x2x9 | (have a1 := i10x2x9; unfold In at a1)); (first | have a2 := in_u i10x2x9a | (have a2 := i10x2x9a; unfold In at a2)); (first | have a3 := in_u ro_2_1 | (have a3 := ro_2_1; unfold In at a3)); (first | have a4 := in_u i1x5 | (have a4 := i1x5; unfold In at a4)); (first | have a5 := in_u i24 | (have a5 := i24; unfold In at a5)); have oc := oc_243_0; omega⟩
                          refine g_callv (X := _) (As := [.ref (A 32), .int x1, .int x2, .int x3]) (r := []) (b := A 65) (q := 65) 47 (gd rfl) rfl rfl rfl rfl rfl (ww_o rfl) (Nat.le_of_ble_eq_true rfl) (Nat.zero_le _) (Nat.zero_le _) (f_79_65_32 (by first | exact dq1 hd rfl | exact dq0 hd rfl | exact dq2 hd rfl | exact dq3 hd rfl | omega) hI (in_w 0 31 i10x2x9 rfl) (in_w 0 31 i10x10x9 rfl) (in_w 0 200000000 i24 rfl) p44 p44a p44b p44c p44d) (fun e u h => h) (fun v u h => ?_)
                          obtain ⟨s44, hI44, hF44, z44, rfl, rfl, p44e, p44f⟩ := h
                          show GG _ _ _ _ _ _ _ _ [.long z44] _ _ _
                          have n47 : ((TWO (shC s).2.2.2.2.2.2.1 x1 x2) ∧ 0 ≤ x3.toInt ∧ x3.toInt ≤ 200000000) ∧ CSX (shC s) x1.toNatClampNeg x2.toNatClampNeg x3.toInt (z44).toInt := by first | (rw [shC_n (by rw [← e1x1]; exact c1x5)]; exact ⟨⟨⟨⟨by (first | have a0 := in_u i10x10x9 | (have a0 := i10x10x9; unfold In at a0)); (first | have a1 := in_u i10x2x9 | (have a1 := i10x2x9; unfold In at a1)); (first | have a2 := in_u i10x2x9a | (have a2 := i10x2x9a; unfold In at a2)); (first | have a3 := in_u ro_2_1 | (have a3 := ro_2_1; unfold In at a3)); (first | have a4 := in_u i1x5 | (have a4 := i1x5; unfold In at a4)); (first | have a5 := in_u i24 | (have a5 := i24; unfold In at a5)); have oc := oc_243_0; omega, by show x1.toInt < (s.2.2.1 2 1).toInt; rw [← e_2_1]; (first | have a0 := in_u i10x10x9 | (have a0 := i10x10x9; unfold In at a0)); (first | have a1 := in_u i10x2x9 | (have a1 := i10x2x9; unfold In at a1)); (first | have a2 := in_u i10x2x9a | (have a2 := i10x2x9a; unfold In at a2)); (first | have a3 := in_u ro_2_1 | (have a3 := ro_2_1; unfold In at a3)); (first | have a4 := in_u i1x5 | (have a4 := i1x5; unfold In at a4)); (first | have a5 := in_u i24 | (have a5 := i24; unfold In at a5)); have oc := oc_243_0; omega⟩, ⟨by (first | have a0 := in_u i10x10x9 | (have a0 := i10x10x9; unfold In at a0)); (first | have a1 := in_u i10x2x9 | (have a1 := i10x2x9; unfold In at a1)); (first | have a2 := in_u i10x2x9a | (have a2 := i10x2x9a; unfold In at a2)); (first | have a3 := in_u ro_2_1 | (have a3 := ro_2_1; unfold In at a3)); (first | have a4 := in_u i1x5 | (have a4 := i1x5; unfold In at a4)); (first | have a5 := in_u i24 | (have a5 := i24; unfold In at a5)); have oc := oc_243_0; omega, by show x2.toInt < (s.2.2.1 2 1).toInt; rw [← e_2_1]; (first | have a0 := in_u i10x10x9 | (have a0 := i10x10x9; unfold In at a0)); (first | have a1 := in_u i10x2x9 | (have a1 := i10x2x9; unfold In at a1)); (first | have a2 := in_u i10x2x9a | (have a2 := i10x2x9a; unfold In at a2)); (first | have a3 := in_u ro_2_1 | (have a3 := ro_2_1; unfold In at a3)); (first | have a4 := in_u i1x5 | (have a4 := i1x5; unfold In at a4)); (first | have a5 := in_u i24 | (have a5 := i24; unfold In at a5)); have oc := oc_243_0; omega⟩, by (first | have a0 := in_u i10x10x9 | (have a0 := i10x10x9; unfold In at a0)); (first | have a1 := in_u i10x2x9 | (have a1 := i10x2x9; unfold In at a1)); (first | have a2 := in_u i10x2x9a | (have a2 := i10x2x9a; unfold In at a2)); (first | have a3 := in_u ro_2_1 | (have a3 := ro_2_1; unfold In at a3)); (first | have a4 := in_u i1x5 | (have a4 := i1x5; unfold In at a4)); (first | have a5 := in_u i24 | (have a5 := i24; unfold In at a5)); have oc := oc_243_0; omega⟩, by (first | have a0 := in_u i10x10x9 | (have a0 := i10x10x9; unfold In at a0)); (first | have a1 := in_u i10x2x9 | (have a1 := i10x2x9; unfold In at a1)); (first | have a2 := in_u i10x2x9a | (have a2 := i10x2x9a; unfold In at a2)); (first | have a3 := in_u ro_2_1 | (have a3 := ro_2_1; unfold In at a3)); (first | have a4 := in_u i1x5 | (have a4 := i1x5; unfold In at a4)); (first | have a5 := in_u i24 | (have a5 := i24; unfold In at a5)); have oc := oc_243_0; omega, by (first | have a0 := in_u i10x10x9 | (have a0 := i10x10x9; unfold In at a0)); (first | have a1 := in_u i10x2x9 | (have a1 := i10x2x9; unfold In at a1)); (first | have a2 := in_u i10x2x9a | (have a2 := i10x2x9a; unfold In at a2)); (first | have a3 := in_u ro_2_1 | (have a3 := ro_2_1; unfold In at a3)); (first | have a4 := in_u i1x5 | (have a4 := i1x5; unfold In at a4)); (first | have a5 := in_u i24 | (have a5 := i24; unfold In at a5)); have oc := oc_243_0; omega⟩, p44e⟩) | (rw [shC_d (by rw [← e1x1]; exact c1x5)]; exact ⟨⟨⟨⟨by (first | have a0 := in_u i10x10x9 | (have a0 := i10x10x9; unfold In at a0)); (first | have a1 := in_u i10x2x9 | (have a1 := i10x2x9; unfold In at a1)); (first | have a2 := in_u i10x2x9a | (have a2 := i10x2x9a; unfold In at a2)); (first | have a3 := in_u ro_2_1 | (have a3 := ro_2_1; unfold In at a3)); (first | have a4 := in_u i1x5 | (have a4 := i1x5; unfold In at a4)); (first | have a5 := in_u i24 | (have a5 := i24; unfold In at a5)); have oc := oc_243_0; omega, by show x1.toInt < (s.2.2.1 32 1).toInt; rw [← e_32_1]; (first | have a0 := in_u i10x10x9 | (have a0 := i10x10x9; unfold In at a0)); (first | have a1 := in_u i10x2x9 | (have a1 := i10x2x9; unfold In at a1)); (first | have a2 := in_u i10x2x9a | (have a2 := i10x2x9a; unfold In at a2)); (first | have a3 := in_u ro_2_1 | (have a3 := ro_2_1; unfold In at a3)); (first | have a4 := in_u i1x5 | (have a4 := i1x5; unfold In at a4)); (first | have a5 := in_u i24 | (have a5 := i24; unfold In at a5)); have oc := oc_243_0; omega⟩, ⟨by (first | have a0 := in_u i10x10x9 | (have a0 := i10x10x9; unfold In at a0)); (first | have a1 := in_u i10x2x9 | (have a1 := i10x2x9; unfold In at a1)); (first | have a2 := in_u i10x2x9a | (have a2 := i10x2x9a; unfold In at a2)); (first | have a3 := in_u ro_2_1 | (have a3 := ro_2_1; unfold In at a3)); (first | have a4 := in_u i1x5 | (have a4 := i1x5; unfold In at a4)); (first | have a5 := in_u i24 | (have a5 := i24; unfold In at a5)); have oc := oc_243_0; omega, by show x2.toInt < (s.2.2.1 32 1).toInt; rw [← e_32_1]; (first | have a0 := in_u i10x10x9 | (have a0 := i10x10x9; unfold In at a0)); (first | have a1 := in_u i10x2x9 | (have a1 := i10x2x9; unfold In at a1)); (first | have a2 := in_u i10x2x9a | (have a2 := i10x2x9a; unfold In at a2)); (first | have a3 := in_u ro_2_1 | (have a3 := ro_2_1; unfold In at a3)); (first | have a4 := in_u i1x5 | (have a4 := i1x5; unfold In at a4)); (first | have a5 := in_u i24 | (have a5 := i24; unfold In at a5)); have oc := oc_243_0; omega⟩, by (first | have a0 := in_u i10x10x9 | (have a0 := i10x10x9; unfold In at a0)); (first | have a1 := in_u i10x2x9 | (have a1 := i10x2x9; unfold In at a1)); (first | have a2 := in_u i10x2x9a | (have a2 := i10x2x9a; unfold In at a2)); (first | have a3 := in_u ro_2_1 | (have a3 := ro_2_1; unfold In at a3)); (first | have a4 := in_u i1x5 | (have a4 := i1x5; unfold In at a4)); (first | have a5 := in_u i24 | (have a5 := i24; unfold In at a5)); have oc := oc_243_0; omega⟩, by (first | have a0 := in_u i10x10x9 | (have a0 := i10x10x9; unfold In at a0)); (first | have a1 := in_u i10x2x9 | (have a1 := i10x2x9; unfold In at a1)); (first | have a2 := in_u i10x2x9a | (have a2 := i10x2x9a; unfold In at a2)); (first | have a3 := in_u ro_2_1 | (have a3 := ro_2_1; unfold In at a3)); (first | have a4 := in_u i1x5 | (have a4 := i1x5; unfold In at a4)); (first | have a5 := in_u i24 | (have a5 := i24; unfold In at a5)); have oc := oc_243_0; omega, by (first | have a0 := in_u i10x10x9 | (have a0 := i10x10x9; unfold In at a0)); (first | have a1 := in_u i10x2x9 | (have a1 := i10x2x9; unfold In at a1)); (first | have a2 := in_u i10x2x9a | (have a2 := i10x2x9a; unfold In at a2)); (first | have a3 := in_u ro_2_1 | (have a3 := ro_2_1; unfold In at a3)); (first | have a4 := in_u i1x5 | (have a4 := i1x5; unfold In at a4)); (first | have a5 := in_u i24 | (have a5 := i24; unfold In at a5)); have oc := oc_243_0; omega⟩, p44e⟩)
                          have n47a : FLQ (shC s) s44 := by first | (rw [shC_n (by rw [← e1x1]; exact c1x5)]; exact p44f) | (rw [shC_d (by rw [← e1x1]; exact c1x5)]; exact p44f)
                          exact g_lreturn (gd rfl) rfl (hP _ _ ⟨s44, hI44, (fr_tr rfl fr_rf hF44), z44, rfl, rfl, n47, n47a⟩)
                        · skip
                          exact zn_eq c32 (in_c 1 rfl) rfl
  · skip
    have i1x5 := r_eq1 (-1) (-1) c1x5 ro_0_2 (in_c (-1) rfl) rfl
    refine g_aload_n 9 (gd rfl) rfl rfl ?_
    refine g_getA (q2 := 1) 12 (gd rfl) rfl rfl rfl rfl ?_
    refine g_getA (q2 := 2) 15 (gd rfl) rfl rfl rfl rfl ?_
    refine g_goto 22 (gd rfl) rfl ?_
    refine g_areturn (gd rfl) rfl (hp1 _ _ ?_)
    show GG _ _ _ _ _ _ _ _ [.ref (A 2)] _ _ _
    refine g_astore 6 (gd rfl) rfl (Nat.le_of_ble_eq_true rfl) ?_
    refine g_aload 8 (gd rfl) rfl rfl ?_
    refine g_iload_n 9 (gd rfl) rfl rfl ?_
    refine g_iload_n 10 (gd rfl) rfl rfl ?_
    refine g_callv (X := _) (As := [.int x1, .int x2]) (r := []) (b := A 2) (q := 2) 13 (gd rfl) rfl rfl rfl rfl rfl (ww_o rfl) (Nat.le_of_ble_eq_true rfl) (mc := 0) (ms := 0) (Nat.zero_le _) (Nat.zero_le _) (P := fun v u => _) ?_ (fun e u h => h) (fun v u h => h)
    intro po10 xx10 hp10 hx10
    refine g_enter2 (k := 95) (N := 300) (by first | exact dq1 hd rfl | exact dq0 hd rfl | exact dq2 hd rfl | exact dq3 hd rfl | omega) rfl (Nat.le_of_ble_eq_true rfl) ?_
    refine g_aload_n 1 (gd rfl) rfl rfl ?_
    refine g_iload_n 2 (gd rfl) rfl rfl ?_
    refine g_callv (X := _) (As := [.int x1]) (r := []) (b := A 2) (q := 2) 5 (gd rfl) rfl rfl rfl rfl rfl (ww_o rfl) (Nat.le_of_ble_eq_true rfl) (mc := 0) (ms := 0) (Nat.zero_le _) (Nat.zero_le _) (P := fun v u => _) ?_ (fun e u h => h) (fun v u h => h)
    intro po10x2 xx10x2 hp10x2 hx10x2
    refine g_enter2 (k := 94) (N := 300) (by first | exact dq1 hd rfl | exact dq0 hd rfl | exact dq2 hd rfl | exact dq3 hd rfl | omega) rfl (Nat.le_of_ble_eq_true rfl) ?_
    refine g_iload_n 1 (gd rfl) rfl rfl ?_
    refine g_if_lt 4 16 (gd rfl) rfl rfl (fun c10x2x1 => ?_) (fun c10x2x1 => ?_)
    · skip
      have i10x2x1 := z_lt (-2147483648) (-1) c10x2x1 (i_rng x1) rfl
      refine g_iconst 0 17 (gd rfl) rfl rfl ?_
      refine g_ireturn (gd rfl) rfl (nb01 (in_w 0 1 (in_c 0 rfl) rfl)) (hp10x2 _ _ ?_)
      show GG _ _ _ _ _ _ _ _ [.int (Int32.ofInt 0)] _ _ _
      refine g_if_eq 8 25 (gd rfl) rfl rfl (fun c10x5 => ?_) (fun c10x5 => ?_)
      · skip
        refine g_iconst 0 26 (gd rfl) rfl rfl ?_
        refine g_ireturn (gd rfl) rfl (nb01 (in_w 0 1 (in_c 0 rfl) rfl)) (hp10 _ _ ?_)
        show GG _ _ _ _ _ _ _ _ [.int (Int32.ofInt 0)] _ _ _
        refine g_if_eq 16 31 (gd rfl) rfl rfl (fun c13 => ?_) (fun c13 => ?_)
        · skip
          refine g_iconst 0 32 (gd rfl) rfl rfl ?_
          refine g_thr (E := am_IA) (y := yX11_allow) 35 (gd rfl) rfl rfl (Or.inl ⟨rfl, rfl, rfl⟩) (by first | exact dq1 hd rfl | exact dq0 hd rfl | exact dq2 hd rfl | exact dq3 hd rfl | omega) (Nat.le_of_ble_eq_true rfl) (Nat.le_of_ble_eq_true rfl) (Nat.le_of_ble_eq_true rfl) (fun c32 => ?_) (fun c32 => ?_)
          · skip
            exact zn_ne c32 (in_c 0 rfl) rfl
          · skip
            have n32 : ¬ ((TWO (shC s).2.2.2.2.2.2.1 x1 x2) ∧ 0 ≤ x3.toInt ∧ x3.toInt ≤ 200000000) := by first | (rw [shC_n (by rw [← e1x1]; exact c1x5)]; show ¬ (TWO (s.2.2.1 2 1).toInt x1 x2 ∧ 0 ≤ x3.toInt ∧ x3.toInt ≤ 200000000); rw [← e_2_1]; (first | have a0 := in_u ro_32_1 | (have a0 := ro_32_1; unfold In at a0)); (first | have a1 := in_u ro_2_1 | (have a1 := ro_2_1; unfold In at a1)); (first | have a2 := in_u i1x5 | (have a2 := i1x5; unfold In at a2)); (first | have a3 := in_u i10x2x1 | (have a3 := i10x2x1; unfold In at a3)); have oc := oc_243_0; omega) | (rw [shC_d (by rw [← e1x1]; exact c1x5)]; show ¬ (TWO (s.2.2.1 32 1).toInt x1 x2 ∧ 0 ≤ x3.toInt ∧ x3.toInt ≤ 200000000); rw [← e_32_1]; (first | have a0 := in_u ro_32_1 | (have a0 := ro_32_1; unfold In at a0)); (first | have a1 := in_u ro_2_1 | (have a1 := ro_2_1; unfold In at a1)); (first | have a2 := in_u i1x5 | (have a2 := i1x5; unfold In at a2)); (first | have a3 := in_u i10x2x1 | (have a3 := i10x2x1; unfold In at a3)); have oc := oc_243_0; omega)
            exact (hX _ _ ⟨Or.inl ⟨rfl, n32⟩, s, hI, fr_rf, rfl⟩)
        · skip
          exact zn_ne c13 (in_c 0 rfl) rfl
      · skip
        exact zn_ne c10x5 (in_c 0 rfl) rfl
    · skip
      have i10x2x1 := z_ge 0 2147483647 c10x2x1 (i_rng x1) rfl
      refine g_iload_n 5 (gd rfl) rfl rfl ?_
      refine g_aload_n 6 (gd rfl) rfl rfl ?_
      refine g_getI 9 (gd rfl) rfl rfl rfl (fun z10x2x6 e10x2x6 => ?_)
      have q10x2x6 : u_2_1 = z10x2x6 := (e_2_1).trans e10x2x6.symm
      subst q10x2x6
      refine g_cmp_ge 12 16 (gd rfl) rfl rfl (fun c10x2x9 => ?_) (fun c10x2x9 => ?_)
      · skip
        refine g_iconst 0 17 (gd rfl) rfl rfl ?_
        refine g_ireturn (gd rfl) rfl (nb01 (in_w 0 1 (in_c 0 rfl) rfl)) (hp10x2 _ _ ?_)
        show GG _ _ _ _ _ _ _ _ [.int (Int32.ofInt 0)] _ _ _
        refine g_if_eq 8 25 (gd rfl) rfl rfl (fun c10x5 => ?_) (fun c10x5 => ?_)
        · skip
          refine g_iconst 0 26 (gd rfl) rfl rfl ?_
          refine g_ireturn (gd rfl) rfl (nb01 (in_w 0 1 (in_c 0 rfl) rfl)) (hp10 _ _ ?_)
          show GG _ _ _ _ _ _ _ _ [.int (Int32.ofInt 0)] _ _ _
          refine g_if_eq 16 31 (gd rfl) rfl rfl (fun c13 => ?_) (fun c13 => ?_)
          · skip
            refine g_iconst 0 32 (gd rfl) rfl rfl ?_
            refine g_thr (E := am_IA) (y := yX11_allow) 35 (gd rfl) rfl rfl (Or.inl ⟨rfl, rfl, rfl⟩) (by first | exact dq1 hd rfl | exact dq0 hd rfl | exact dq2 hd rfl | exact dq3 hd rfl | omega) (Nat.le_of_ble_eq_true rfl) (Nat.le_of_ble_eq_true rfl) (Nat.le_of_ble_eq_true rfl) (fun c32 => ?_) (fun c32 => ?_)
            · skip
              exact zn_ne c32 (in_c 0 rfl) rfl
            · skip
              have n32 : ¬ ((TWO (shC s).2.2.2.2.2.2.1 x1 x2) ∧ 0 ≤ x3.toInt ∧ x3.toInt ≤ 200000000) := by first | (rw [shC_n (by rw [← e1x1]; exact c1x5)]; show ¬ (TWO (s.2.2.1 2 1).toInt x1 x2 ∧ 0 ≤ x3.toInt ∧ x3.toInt ≤ 200000000); rw [← e_2_1]; (first | have a0 := in_u ro_32_1 | (have a0 := ro_32_1; unfold In at a0)); (first | have a1 := in_u ro_2_1 | (have a1 := ro_2_1; unfold In at a1)); (first | have a2 := in_u i1x5 | (have a2 := i1x5; unfold In at a2)); (first | have a3 := in_u i10x2x1 | (have a3 := i10x2x1; unfold In at a3)); have oc := oc_243_0; omega) | (rw [shC_d (by rw [← e1x1]; exact c1x5)]; show ¬ (TWO (s.2.2.1 32 1).toInt x1 x2 ∧ 0 ≤ x3.toInt ∧ x3.toInt ≤ 200000000); rw [← e_32_1]; (first | have a0 := in_u ro_32_1 | (have a0 := ro_32_1; unfold In at a0)); (first | have a1 := in_u ro_2_1 | (have a1 := ro_2_1; unfold In at a1)); (first | have a2 := in_u i1x5 | (have a2 := i1x5; unfold In at a2)); (first | have a3 := in_u i10x2x1 | (have a3 := i10x2x1; unfold In at a3)); have oc := oc_243_0; omega)
              exact (hX _ _ ⟨Or.inl ⟨rfl, n32⟩, s, hI, fr_rf, rfl⟩)
          · skip
            exact zn_ne c13 (in_c 0 rfl) rfl
        · skip
          exact zn_ne c10x5 (in_c 0 rfl) rfl
      · skip
        have i10x2x9 := r_lt1 0 31 c10x2x9 i10x2x1 ro_2_1 rfl
        have i10x2x9a := r_lt2 1 32 c10x2x9 i10x2x1 ro_2_1 rfl
        refine g_iconst 1 13 (gd rfl) rfl rfl ?_
        refine g_goto 17 (gd rfl) rfl ?_
        refine g_ireturn (gd rfl) rfl (nb01 (in_w 0 1 (in_c 1 rfl) rfl)) (hp10x2 _ _ ?_)
        show GG _ _ _ _ _ _ _ _ [.int (Int32.ofInt 1)] _ _ _
        refine g_if_eq 8 25 (gd rfl) rfl rfl (fun c10x5 => ?_) (fun c10x5 => ?_)
        · skip
          exact zn_eq c10x5 (in_c 1 rfl) rfl
        · skip
          refine g_aload_n 9 (gd rfl) rfl rfl ?_
          refine g_iload_n 10 (gd rfl) rfl rfl ?_
          refine g_callv (X := _) (As := [.int x2]) (r := []) (b := A 2) (q := 2) 13 (gd rfl) rfl rfl rfl rfl rfl (ww_o rfl) (Nat.le_of_ble_eq_true rfl) (mc := 0) (ms := 0) (Nat.zero_le _) (Nat.zero_le _) (P := fun v u => _) ?_ (fun e u h => h) (fun v u h => h)
          intro po10x10 xx10x10 hp10x10 hx10x10
          refine g_enter2 (k := 94) (N := 300) (by first | exact dq1 hd rfl | exact dq0 hd rfl | exact dq2 hd rfl | exact dq3 hd rfl | omega) rfl (Nat.le_of_ble_eq_true rfl) ?_
          refine g_iload_n 1 (gd rfl) rfl rfl ?_
          refine g_if_lt 4 16 (gd rfl) rfl rfl (fun c10x10x1 => ?_) (fun c10x10x1 => ?_)
          · skip
            have i10x10x1 := z_lt (-2147483648) (-1) c10x10x1 (i_rng x2) rfl
            refine g_iconst 0 17 (gd rfl) rfl rfl ?_
            refine g_ireturn (gd rfl) rfl (nb01 (in_w 0 1 (in_c 0 rfl) rfl)) (hp10x10 _ _ ?_)
            show GG _ _ _ _ _ _ _ _ [.int (Int32.ofInt 0)] _ _ _
            refine g_if_eq 16 25 (gd rfl) rfl rfl (fun c10x13 => ?_) (fun c10x13 => ?_)
            · skip
              refine g_iconst 0 26 (gd rfl) rfl rfl ?_
              refine g_ireturn (gd rfl) rfl (nb01 (in_w 0 1 (in_c 0 rfl) rfl)) (hp10 _ _ ?_)
              show GG _ _ _ _ _ _ _ _ [.int (Int32.ofInt 0)] _ _ _
              refine g_if_eq 16 31 (gd rfl) rfl rfl (fun c13 => ?_) (fun c13 => ?_)
              · skip
                refine g_iconst 0 32 (gd rfl) rfl rfl ?_
                refine g_thr (E := am_IA) (y := yX11_allow) 35 (gd rfl) rfl rfl (Or.inl ⟨rfl, rfl, rfl⟩) (by first | exact dq1 hd rfl | exact dq0 hd rfl | exact dq2 hd rfl | exact dq3 hd rfl | omega) (Nat.le_of_ble_eq_true rfl) (Nat.le_of_ble_eq_true rfl) (Nat.le_of_ble_eq_true rfl) (fun c32 => ?_) (fun c32 => ?_)
                · skip
                  exact zn_ne c32 (in_c 0 rfl) rfl
                · skip
                  have n32 : ¬ ((TWO (shC s).2.2.2.2.2.2.1 x1 x2) ∧ 0 ≤ x3.toInt ∧ x3.toInt ≤ 200000000) := by first | (rw [shC_n (by rw [← e1x1]; exact c1x5)]; show ¬ (TWO (s.2.2.1 2 1).toInt x1 x2 ∧ 0 ≤ x3.toInt ∧ x3.toInt ≤ 200000000); rw [← e_2_1]; (first | have a0 := in_u i10x2x9 | (have a0 := i10x2x9; unfold In at a0)); (first | have a1 := in_u ro_32_1 | (have a1 := ro_32_1; unfold In at a1)); (first | have a2 := in_u i10x2x9a | (have a2 := i10x2x9a; unfold In at a2)); (first | have a3 := in_u i1x5 | (have a3 := i1x5; unfold In at a3)); (first | have a4 := in_u i10x10x1 | (have a4 := i10x10x1; unfold In at a4)); have oc := oc_243_0; omega) | (rw [shC_d (by rw [← e1x1]; exact c1x5)]; show ¬ (TWO (s.2.2.1 32 1).toInt x1 x2 ∧ 0 ≤ x3.toInt ∧ x3.toInt ≤ 200000000); rw [← e_32_1]; (first | have a0 := in_u i10x2x9 | (have a0 := i10x2x9; unfold In at a0)); (first | have a1 := in_u ro_32_1 | (have a1 := ro_32_1; unfold In at a1)); (first | have a2 := in_u i10x2x9a | (have a2 := i10x2x9a; unfold In at a2)); (first | have a3 := in_u i1x5 | (have a3 := i1x5; unfold In at a3)); (first | have a4 := in_u i10x10x1 | (have a4 := i10x10x1; unfold In at a4)); have oc := oc_243_0; omega)
                  exact (hX _ _ ⟨Or.inl ⟨rfl, n32⟩, s, hI, fr_rf, rfl⟩)
              · skip
                exact zn_ne c13 (in_c 0 rfl) rfl
            · skip
              exact zn_ne c10x13 (in_c 0 rfl) rfl
          · skip
            have i10x10x1 := z_ge 0 2147483647 c10x10x1 (i_rng x2) rfl
            refine g_iload_n 5 (gd rfl) rfl rfl ?_
            refine g_aload_n 6 (gd rfl) rfl rfl ?_
            refine g_getI 9 (gd rfl) rfl rfl rfl (fun z10x10x6 e10x10x6 => ?_)
            have q10x10x6 : u_2_1 = z10x10x6 := (e_2_1).trans e10x10x6.symm
            subst q10x10x6
            refine g_cmp_ge 12 16 (gd rfl) rfl rfl (fun c10x10x9 => ?_) (fun c10x10x9 => ?_)
            · skip
              have i10x10x9 := r_le2 1 2147483647 c10x10x9 i10x2x9a i10x10x1 rfl
              refine g_iconst 0 17 (gd rfl) rfl rfl ?_
              refine g_ireturn (gd rfl) rfl (nb01 (in_w 0 1 (in_c 0 rfl) rfl)) (hp10x10 _ _ ?_)
              show GG _ _ _ _ _ _ _ _ [.int (Int32.ofInt 0)] _ _ _
              refine g_if_eq 16 25 (gd rfl) rfl rfl (fun c10x13 => ?_) (fun c10x13 => ?_)
              · skip
                refine g_iconst 0 26 (gd rfl) rfl rfl ?_
                refine g_ireturn (gd rfl) rfl (nb01 (in_w 0 1 (in_c 0 rfl) rfl)) (hp10 _ _ ?_)
                show GG _ _ _ _ _ _ _ _ [.int (Int32.ofInt 0)] _ _ _
                refine g_if_eq 16 31 (gd rfl) rfl rfl (fun c13 => ?_) (fun c13 => ?_)
                · skip
                  refine g_iconst 0 32 (gd rfl) rfl rfl ?_
                  refine g_thr (E := am_IA) (y := yX11_allow) 35 (gd rfl) rfl rfl (Or.inl ⟨rfl, rfl, rfl⟩) (by first | exact dq1 hd rfl | exact dq0 hd rfl | exact dq2 hd rfl | exact dq3 hd rfl | omega) (Nat.le_of_ble_eq_true rfl) (Nat.le_of_ble_eq_true rfl) (Nat.le_of_ble_eq_true rfl) (fun c32 => ?_) (fun c32 => ?_)
                  · skip
                    exact zn_ne c32 (in_c 0 rfl) rfl
                  · skip
                    have n32 : ¬ ((TWO (shC s).2.2.2.2.2.2.1 x1 x2) ∧ 0 ≤ x3.toInt ∧ x3.toInt ≤ 200000000) := by first | (rw [shC_n (by rw [← e1x1]; exact c1x5)]; show ¬ (TWO (s.2.2.1 2 1).toInt x1 x2 ∧ 0 ≤ x3.toInt ∧ x3.toInt ≤ 200000000); rw [← e_2_1]; (first | have a0 := in_u i10x2x9 | (have a0 := i10x2x9; unfold In at a0)); (first | have a1 := in_u ro_32_1 | (have a1 := ro_32_1; unfold In at a1)); (first | have a2 := in_u i10x2x9a | (have a2 := i10x2x9a; unfold In at a2)); (first | have a3 := in_u i1x5 | (have a3 := i1x5; unfold In at a3)); (first | have a4 := in_u i10x10x9 | (have a4 := i10x10x9; unfold In at a4)); have oc := oc_243_0; omega) | (rw [shC_d (by rw [← e1x1]; exact c1x5)]; show ¬ (TWO (s.2.2.1 32 1).toInt x1 x2 ∧ 0 ≤ x3.toInt ∧ x3.toInt ≤ 200000000); rw [← e_32_1]; (first | have a0 := in_u i10x2x9 | (have a0 := i10x2x9; unfold In at a0)); (first | have a1 := in_u ro_32_1 | (have a1 := ro_32_1; unfold In at a1)); (first | have a2 := in_u i10x2x9a | (have a2 := i10x2x9a; unfold In at a2)); (first | have a3 := in_u i1x5 | (have a3 := i1x5; unfold In at a3)); (first | have a4 := in_u i10x10x9 | (have a4 := i10x10x9; unfold In at a4)); have oc := oc_243_0; omega)
                    exact (hX _ _ ⟨Or.inl ⟨rfl, n32⟩, s, hI, fr_rf, rfl⟩)
                · skip
                  exact zn_ne c13 (in_c 0 rfl) rfl
              · skip
                exact zn_ne c10x13 (in_c 0 rfl) rfl
            · skip
              have i10x10x9 := r_lt1 0 31 c10x10x9 i10x10x1 i10x2x9a rfl
              refine g_iconst 1 13 (gd rfl) rfl rfl ?_
              refine g_goto 17 (gd rfl) rfl ?_
              refine g_ireturn (gd rfl) rfl (nb01 (in_w 0 1 (in_c 1 rfl) rfl)) (hp10x10 _ _ ?_)
              show GG _ _ _ _ _ _ _ _ [.int (Int32.ofInt 1)] _ _ _
              refine g_if_eq 16 25 (gd rfl) rfl rfl (fun c10x13 => ?_) (fun c10x13 => ?_)
              · skip
                exact zn_eq c10x13 (in_c 1 rfl) rfl
              · skip
                refine g_iload_n 17 (gd rfl) rfl rfl ?_
                refine g_iload_n 18 (gd rfl) rfl rfl ?_
                refine g_cmp_eq 21 25 (gd rfl) rfl rfl (fun c10x18 => ?_) (fun c10x18 => ?_)
                · skip
                  refine g_iconst 0 26 (gd rfl) rfl rfl ?_
                  refine g_ireturn (gd rfl) rfl (nb01 (in_w 0 1 (in_c 0 rfl) rfl)) (hp10 _ _ ?_)
                  show GG _ _ _ _ _ _ _ _ [.int (Int32.ofInt 0)] _ _ _
                  refine g_if_eq 16 31 (gd rfl) rfl rfl (fun c13 => ?_) (fun c13 => ?_)
                  · skip
                    refine g_iconst 0 32 (gd rfl) rfl rfl ?_
                    refine g_thr (E := am_IA) (y := yX11_allow) 35 (gd rfl) rfl rfl (Or.inl ⟨rfl, rfl, rfl⟩) (by first | exact dq1 hd rfl | exact dq0 hd rfl | exact dq2 hd rfl | exact dq3 hd rfl | omega) (Nat.le_of_ble_eq_true rfl) (Nat.le_of_ble_eq_true rfl) (Nat.le_of_ble_eq_true rfl) (fun c32 => ?_) (fun c32 => ?_)
                    · skip
                      exact zn_ne c32 (in_c 0 rfl) rfl
                    · skip
                      have n32 : ¬ ((TWO (shC s).2.2.2.2.2.2.1 x1 x2) ∧ 0 ≤ x3.toInt ∧ x3.toInt ≤ 200000000) := by first | (rw [shC_n (by rw [← e1x1]; exact c1x5)]; show ¬ (TWO (s.2.2.1 2 1).toInt x1 x2 ∧ 0 ≤ x3.toInt ∧ x3.toInt ≤ 200000000); rw [← e_2_1]; (first | have a0 := in_u i10x10x9 | (have a0 := i10x10x9; unfold In at a0)); (first | have a1 := in_u i10x2x9 | (have a1 := i10x2x9; unfold In at a1)); (first | have a2 := in_u ro_32_1 | (have a2 := ro_32_1; unfold In at a2)); (first | have a3 := in_u i10x2x9a | (have a3 := i10x2x9a; unfold In at a3)); (first | have a4 := in_u i1x5 | (have a4 := i1x5; unfold In at a4)); have oc := oc_243_0; omega) | (rw [shC_d (by rw [← e1x1]; exact c1x5)]; show ¬ (TWO (s.2.2.1 32 1).toInt x1 x2 ∧ 0 ≤ x3.toInt ∧ x3.toInt ≤ 200000000); rw [← e_32_1]; (first | have a0 := in_u i10x10x9 | (have a0 := i10x10x9; unfold In at a0)); (first | have a1 := in_u i10x2x9 | (have a1 := i10x2x9; unfold In at a1)); (first | have a2 := in_u ro_32_1 | (have a2 := ro_32_1; unfold In at a2)); (first | have a3 := in_u i10x2x9a | (have a3 := i10x2x9a; unfold In at a3)); (first | have a4 := in_u i1x5 | (have a4 := i1x5; unfold In at a4)); have oc := oc_243_0; omega)
                      exact (hX _ _ ⟨Or.inl ⟨rfl, n32⟩, s, hI, fr_rf, rfl⟩)
                  · skip
                    exact zn_ne c13 (in_c 0 rfl) rfl
                · skip
                  refine g_iconst 1 22 (gd rfl) rfl rfl ?_
                  refine g_goto 26 (gd rfl) rfl ?_
                  refine g_ireturn (gd rfl) rfl (nb01 (in_w 0 1 (in_c 1 rfl) rfl)) (hp10 _ _ ?_)
                  show GG _ _ _ _ _ _ _ _ [.int (Int32.ofInt 1)] _ _ _
                  refine g_if_eq 16 31 (gd rfl) rfl rfl (fun c13 => ?_) (fun c13 => ?_)
                  · skip
                    exact zn_eq c13 (in_c 1 rfl) rfl
                  · skip
                    refine g_iload_n 17 (gd rfl) rfl rfl ?_
                    refine g_if_lt 20 31 (gd rfl) rfl rfl (fun c17 => ?_) (fun c17 => ?_)
                    · skip
                      have i17 := z_lt (-2147483648) (-1) c17 (i_rng x3) rfl
                      refine g_iconst 0 32 (gd rfl) rfl rfl ?_
                      refine g_thr (E := am_IA) (y := yX11_allow) 35 (gd rfl) rfl rfl (Or.inl ⟨rfl, rfl, rfl⟩) (by first | exact dq1 hd rfl | exact dq0 hd rfl | exact dq2 hd rfl | exact dq3 hd rfl | omega) (Nat.le_of_ble_eq_true rfl) (Nat.le_of_ble_eq_true rfl) (Nat.le_of_ble_eq_true rfl) (fun c32 => ?_) (fun c32 => ?_)
                      · skip
                        exact zn_ne c32 (in_c 0 rfl) rfl
                      · skip
                        have n32 : ¬ ((TWO (shC s).2.2.2.2.2.2.1 x1 x2) ∧ 0 ≤ x3.toInt ∧ x3.toInt ≤ 200000000) := by first | (rw [shC_n (by rw [← e1x1]; exact c1x5)]; show ¬ (TWO (s.2.2.1 2 1).toInt x1 x2 ∧ 0 ≤ x3.toInt ∧ x3.toInt ≤ 200000000); rw [← e_2_1]; (first | have a0 := in_u i10x10x9 | (have a0 := i10x10x9; unfold In at a0)); (first | have a1 := in_u i10x2x9 | (have a1 := i10x2x9; unfold In at a1)); (first | have a2 := in_u ro_32_1 | (have a2 := ro_32_1; unfold In at a2)); (first | have a3 := in_u i10x2x9a | (have a3 := i10x2x9a; unfold In at a3)); (first | have a4 := in_u i1x5 | (have a4 := i1x5; unfold In at a4)); (first | have a5 := in_u i17 | (have a5 := i17; unfold In at a5)); have oc := oc_243_0; omega) | (rw [shC_d (by rw [← e1x1]; exact c1x5)]; show ¬ (TWO (s.2.2.1 32 1).toInt x1 x2 ∧ 0 ≤ x3.toInt ∧ x3.toInt ≤ 200000000); rw [← e_32_1]; (first | have a0 := in_u i10x10x9 | (have a0 := i10x10x9; unfold In at a0)); (first | have a1 := in_u i10x2x9 | (have a1 := i10x2x9; unfold In at a1)); (first | have a2 := in_u ro_32_1 | (have a2 := ro_32_1; unfold In at a2)); (first | have a3 := in_u i10x2x9a | (have a3 := i10x2x9a; unfold In at a3)); (first | have a4 := in_u i1x5 | (have a4 := i1x5; unfold In at a4)); (first | have a5 := in_u i17 | (have a5 := i17; unfold In at a5)); have oc := oc_243_0; omega)
                        exact (hX _ _ ⟨Or.inl ⟨rfl, n32⟩, s, hI, fr_rf, rfl⟩)
                    · skip
                      have i17 := z_ge 0 2147483647 c17 (i_rng x3) rfl
                      refine g_iload_n 21 (gd rfl) rfl rfl ?_
                      refine g_ldc_w 200000000 24 (gd rfl) rfl rfl ?_
                      refine g_cmp_gt 27 31 (gd rfl) rfl rfl (fun c24 => ?_) (fun c24 => ?_)
                      · skip
                        have i24 := r_lt2 200000001 2147483647 c24 (in_c 200000000 rfl) i17 rfl
                        refine g_iconst 0 32 (gd rfl) rfl rfl ?_
                        refine g_thr (E := am_IA) (y := yX11_allow) 35 (gd rfl) rfl rfl (Or.inl ⟨rfl, rfl, rfl⟩) (by first | exact dq1 hd rfl | exact dq0 hd rfl | exact dq2 hd rfl | exact dq3 hd rfl | omega) (Nat.le_of_ble_eq_true rfl) (Nat.le_of_ble_eq_true rfl) (Nat.le_of_ble_eq_true rfl) (fun c32 => ?_) (fun c32 => ?_)
                        · skip
                          exact zn_ne c32 (in_c 0 rfl) rfl
                        · skip
                          have n32 : ¬ ((TWO (shC s).2.2.2.2.2.2.1 x1 x2) ∧ 0 ≤ x3.toInt ∧ x3.toInt ≤ 200000000) := by first | (rw [shC_n (by rw [← e1x1]; exact c1x5)]; show ¬ (TWO (s.2.2.1 2 1).toInt x1 x2 ∧ 0 ≤ x3.toInt ∧ x3.toInt ≤ 200000000); rw [← e_2_1]; (first | have a0 := in_u i10x10x9 | (have a0 := i10x10x9; unfold In at a0)); (first | have a1 := in_u i10x2x9 | (have a1 := i10x2x9; unfold In at a1)); (first | have a2 := in_u ro_32_1 | (have a2 := ro_32_1; unfold In at a2)); (first | have a3 := in_u i10x2x9a | (have a3 := i10x2x9a; unfold In at a3)); (first | have a4 := in_u i1x5 | (have a4 := i1x5; unfold In at a4)); (first | have a5 := in_u i24 | (have a5 := i24; unfold In at a5)); have oc := oc_243_0; omega) | (rw [shC_d (by rw [← e1x1]; exact c1x5)]; show ¬ (TWO (s.2.2.1 32 1).toInt x1 x2 ∧ 0 ≤ x3.toInt ∧ x3.toInt ≤ 200000000); rw [← e_32_1]; (first | have a0 := in_u i10x10x9 | (have a0 := i10x10x9; unfold In at a0)); (first | have a1 := in_u i10x2x9 | (have a1 := i10x2x9; unfold In at a1)); (first | have a2 := in_u ro_32_1 | (have a2 := ro_32_1; unfold In at a2)); (first | have a3 := in_u i10x2x9a | (have a3 := i10x2x9a; unfold In at a3)); (first | have a4 := in_u i1x5 | (have a4 := i1x5; unfold In at a4)); (first | have a5 := in_u i24 | (have a5 := i24; unfold In at a5)); have oc := oc_243_0; omega)
                          exact (hX _ _ ⟨Or.inl ⟨rfl, n32⟩, s, hI, fr_rf, rfl⟩)
                      · skip
                        have i24 := r_le1 0 200000000 c24 i17 (in_c 200000000 rfl) rfl
                        refine g_iconst 1 28 (gd rfl) rfl rfl ?_
                        refine g_goto 32 (gd rfl) rfl ?_
                        refine g_thr (E := am_IA) (y := yX11_allow) 35 (gd rfl) rfl rfl (Or.inl ⟨rfl, rfl, rfl⟩) (by first | exact dq1 hd rfl | exact dq0 hd rfl | exact dq2 hd rfl | exact dq3 hd rfl | omega) (Nat.le_of_ble_eq_true rfl) (Nat.le_of_ble_eq_true rfl) (Nat.le_of_ble_eq_true rfl) (fun c32 => ?_) (fun c32 => ?_)
                        · skip
                          refine g_aload_n 36 (gd rfl) rfl rfl ?_
                          refine g_getA (q2 := 65) 39 (gd rfl) rfl rfl rfl rfl ?_
                          refine g_aload 41 (gd rfl) rfl rfl ?_
                          refine g_iload_n 42 (gd rfl) rfl rfl ?_
                          refine g_iload_n 43 (gd rfl) rfl rfl ?_
                          refine g_iload_n 44 (gd rfl) rfl rfl ?_
                          have p44 : TQ s := by first | exact q_0 | exact q_1
                          have p44a : FLB (gvC s) s := by first | (rw [← shC_n (by rw [← e1x1]; exact c1x5)]; exact q_3) | (rw [← shC_d (by rw [← e1x1]; exact c1x5)]; exact q_3)
                          have p44b : (x1).toInt ≠ (x2).toInt := by (first | have a0 := in_u i10x10x9 | (have a0 := i10x10x9; unfold In at a0)); (first | have a1 := in_u i10x2x9 | (have a1 := i10x2x9; unfold In at a1)); (first | have a2 := in_u ro_32_1 | (have a2 := ro_32_1; unfold In at a2)); (first | have a3 := in_u i10x2x9a | (have a3 := i10x2x9a; unfold In at a3)); (first | have a4 := in_u i1x5 | (have a4 := i1x5; unfold In at a4)); (first | have a5 := in_u i24 | (have a5 := i24; unfold In at a5)); have oc := oc_243_0; omega
                          have p44c : NDQ (gvC s) := by first | (rw [← shC_n (by rw [← e1x1]; exact c1x5)]; exact q_2) | (rw [← shC_d (by rw [← e1x1]; exact c1x5)]; exact q_2)
                          have p44d : (x1).toInt < (s.2.2.1 2 1).toInt ∧ (x2).toInt < (s.2.2.1 2 1).toInt := by first | exact ⟨by rw [← e_2_1]; (first | have a0 := in_u i10x10x9 | (have a0 := i10x10x9; unfold In at a0)); (first | have a1 := in_u i10x2x9 | (have a1 := i10x2x9; unfold In at a1)); (first | have a2 := in_u ro_32_1 | (have a2 := ro_32_1; unfold In at a2)); (first | have a3 := in_u i10x2x9a | (have a3 := i10x2x9a; unfold In at a3)); (first | have a4 := in_u i1x5 | (have a4 := i1x5; unfold In at a4)); (first | have a5 := in_u i24 | (have a5 := i24; unfold In at a5)); have oc := oc_243_0; omega, by rw [← e_2_1]; (first | have a0 := in_u i10x10x9 | (have a0 := i10x10x9; unfold In at a0)); (first | have a1 := in_u i10x2x9 | (have a1 := i10x2x9; unfold In at a1)); (first | have a2 := in_u ro_32_1 | (have a2 := ro_32_1; unfold In at a2)); (first | have a3 := in_u i10x2x9a | (have a3 := i10x2x9a; unfold In at a3)); (first | have a4 := in_u i1x5 | (have a4 := i1x5; unfold In at a4)); (first | have a5 := in_u i24 | (have a5 := i24; unfold In at a5)); have oc := oc_243_0; omega⟩ | exact ⟨by rw [← e_32_1]; (first | have a0 := in_u i10x10x9 | (have a0 := i10x10x9; unfold In at a0)); (first | have a1 := in_u i10x2x9 | (have a1 := i10x2x9; unfold In at a1)); (first | have a2 := in_u ro_32_1 | (have a2 := ro_32_1; unfold In at a2)); (first | have a3 := in_u i10x2x9a | (have a3 := i10x2x9a; unfold In at a3)); (first | have a4 := in_u i1x5 | (have a4 := i1x5; unfold In at a4)); (first | have a5 := in_u i24 | (have a5 := i24; unfold In at a5)); have oc := oc_243_0; omega, by rw [← e_32_1]; (first | have a0 := in_u i10x10x9 | (have a0 := i10x10x9; unfold In at a0)); (first | have a1 := in_u i10x2x9 | (have a1 := i10x2x9; unfold In at a1)); (first | have a2 := in_u ro_32_1 | (have a2 := ro_32_1; unfold In at a2)); (first | have a3 := in_u i10x2x9a | (have a3 := i10x2x9a; unfold In at a3)); (first | have a4 := in_u i1x5 | (have a4 := i1x5; unfold In at a4)); (first | have a5 := in_u i24 | (have a5 := i24; unfold In at a5)); have oc := oc_243_0; omega⟩
                          refine g_callv (X := _) (As := [.ref (A 2), .int x1, .int x2, .int x3]) (r := []) (b := A 65) (q := 65) 47 (gd rfl) rfl rfl rfl rfl rfl (ww_o rfl) (Nat.le_of_ble_eq_true rfl) (Nat.zero_le _) (Nat.zero_le _) (f_79_65_2 (by first | exact dq1 hd rfl | exact dq0 hd rfl | exact dq2 hd rfl | exact dq3 hd rfl | omega) hI (in_w 0 31 i10x2x9 rfl) (in_w 0 31 i10x10x9 rfl) (in_w 0 200000000 i24 rfl) p44 p44a p44b p44c p44d) (fun e u h => h) (fun v u h => ?_)
                          obtain ⟨s44, hI44, hF44, z44, rfl, rfl, p44e, p44f⟩ := h
                          show GG _ _ _ _ _ _ _ _ [.long z44] _ _ _
                          have n47 : ((TWO (shC s).2.2.2.2.2.2.1 x1 x2) ∧ 0 ≤ x3.toInt ∧ x3.toInt ≤ 200000000) ∧ CSX (shC s) x1.toNatClampNeg x2.toNatClampNeg x3.toInt (z44).toInt := by first | (rw [shC_n (by rw [← e1x1]; exact c1x5)]; exact ⟨⟨⟨⟨by (first | have a0 := in_u i10x10x9 | (have a0 := i10x10x9; unfold In at a0)); (first | have a1 := in_u i10x2x9 | (have a1 := i10x2x9; unfold In at a1)); (first | have a2 := in_u ro_32_1 | (have a2 := ro_32_1; unfold In at a2)); (first | have a3 := in_u i10x2x9a | (have a3 := i10x2x9a; unfold In at a3)); (first | have a4 := in_u i1x5 | (have a4 := i1x5; unfold In at a4)); (first | have a5 := in_u i24 | (have a5 := i24; unfold In at a5)); have oc := oc_243_0; omega, by show x1.toInt < (s.2.2.1 2 1).toInt; rw [← e_2_1]; (first | have a0 := in_u i10x10x9 | (have a0 := i10x10x9; unfold In at a0)); (first | have a1 := in_u i10x2x9 | (have a1 := i10x2x9; unfold In at a1)); (first | have a2 := in_u ro_32_1 | (have a2 := ro_32_1; unfold In at a2)); (first | have a3 := in_u i10x2x9a | (have a3 := i10x2x9a; unfold In at a3)); (first | have a4 := in_u i1x5 | (have a4 := i1x5; unfold In at a4)); (first | have a5 := in_u i24 | (have a5 := i24; unfold In at a5)); have oc := oc_243_0; omega⟩, ⟨by (first | have a0 := in_u i10x10x9 | (have a0 := i10x10x9; unfold In at a0)); (first | have a1 := in_u i10x2x9 | (have a1 := i10x2x9; unfold In at a1)); (first | have a2 := in_u ro_32_1 | (have a2 := ro_32_1; unfold In at a2)); (first | have a3 := in_u i10x2x9a | (have a3 := i10x2x9a; unfold In at a3)); (first | have a4 := in_u i1x5 | (have a4 := i1x5; unfold In at a4)); (first | have a5 := in_u i24 | (have a5 := i24; unfold In at a5)); have oc := oc_243_0; omega, by show x2.toInt < (s.2.2.1 2 1).toInt; rw [← e_2_1]; (first | have a0 := in_u i10x10x9 | (have a0 := i10x10x9; unfold In at a0)); (first | have a1 := in_u i10x2x9 | (have a1 := i10x2x9; unfold In at a1)); (first | have a2 := in_u ro_32_1 | (have a2 := ro_32_1; unfold In at a2)); (first | have a3 := in_u i10x2x9a | (have a3 := i10x2x9a; unfold In at a3)); (first | have a4 := in_u i1x5 | (have a4 := i1x5; unfold In at a4)); (first | have a5 := in_u i24 | (have a5 := i24; unfold In at a5)); have oc := oc_243_0; omega⟩, by (first | have a0 := in_u i10x10x9 | (have a0 := i10x10x9; unfold In at a0)); (first | have a1 := in_u i10x2x9 | (have a1 := i10x2x9; unfold In at a1)); (first | have a2 := in_u ro_32_1 | (have a2 := ro_32_1; unfold In at a2)); (first | have a3 := in_u i10x2x9a | (have a3 := i10x2x9a; unfold In at a3)); (first | have a4 := in_u i1x5 | (have a4 := i1x5; unfold In at a4)); (first | have a5 := in_u i24 | (have a5 := i24; unfold In at a5)); have oc := oc_243_0; omega⟩, by (first | have a0 := in_u i10x10x9 | (have a0 := i10x10x9; unfold In at a0)); (first | have a1 := in_u i10x2x9 | (have a1 := i10x2x9; unfold In at a1)); (first | have a2 := in_u ro_32_1 | (have a2 := ro_32_1; unfold In at a2)); (first | have a3 := in_u i10x2x9a | (have a3 := i10x2x9a; unfold In at a3)); (first | have a4 := in_u i1x5 | (have a4 := i1x5; unfold In at a4)); (first | have a5 := in_u i24 | (have a5 := i24; unfold In at a5)); have oc := oc_243_0; omega, by (first | have a0 := in_u i10x10x9 | (have a0 := i10x10x9; unfold In at a0)); (first | have a1 := in_u i10x2x9 | (have a1 := i10x2x9; unfold In at a1)); (first | have a2 := in_u ro_32_1 | (have a2 := ro_32_1; unfold In at a2)); (first | have a3 := in_u i10x2x9a | (have a3 := i10x2x9a; unfold In at a3)); (first | have a4 := in_u i1x5 | (have a4 := i1x5; unfold In at a4)); (first | have a5 := in_u i24 | (have a5 := i24; unfold In at a5)); have oc := oc_243_0; omega⟩, p44e⟩) | (rw [shC_d (by rw [← e1x1]; exact c1x5)]; exact ⟨⟨⟨⟨by (first | have a0 := in_u i10x10x9 | (have a0 := i10x10x9; unfold In at a0)); (first | have a1 := in_u i10x2x9 | (have a1 := i10x2x9; unfold In at a1)); (first | have a2 := in_u ro_32_1 | (have a2 := ro_32_1; unfold In at a2)); (first | have a3 := in_u i10x2x9a | (have a3 := i10x2x9a; unfold In at a3)); (first | have a4 := in_u i1x5 | (have a4 := i1x5; unfold In at a4)); (first | have a5 := in_u i24 | (have a5 := i24; unfold In at a5)); have oc := oc_243_0; omega, by show x1.toInt < (s.2.2.1 32 1).toInt; rw [← e_32_1]; (first | have a0 := in_u i10x10x9 | (have a0 := i10x10x9; unfold In at a0)); (first | have a1 := in_u i10x2x9 | (have a1 := i10x2x9; unfold In at a1)); (first | have a2 := in_u ro_32_1 | (have a2 := ro_32_1; unfold In at a2)); (first | have a3 := in_u i10x2x9a | (have a3 := i10x2x9a; unfold In at a3)); (first | have a4 := in_u i1x5 | (have a4 := i1x5; unfold In at a4)); (first | have a5 := in_u i24 | (have a5 := i24; unfold In at a5)); have oc := oc_243_0; omega⟩, ⟨by (first | have a0 := in_u i10x10x9 | (have a0 := i10x10x9; unfold In at a0)); (first | have a1 := in_u i10x2x9 | (have a1 := i10x2x9; unfold In at a1)); (first | have a2 := in_u ro_32_1 | (have a2 := ro_32_1; unfold In at a2)); (first | have a3 := in_u i10x2x9a | (have a3 := i10x2x9a; unfold In at a3)); (first | have a4 := in_u i1x5 | (have a4 := i1x5; unfold In at a4)); (first | have a5 := in_u i24 | (have a5 := i24; unfold In at a5)); have oc := oc_243_0; omega, by show x2.toInt < (s.2.2.1 32 1).toInt; rw [← e_32_1]; (first | have a0 := in_u i10x10x9 | (have a0 := i10x10x9; unfold In at a0)); (first | have a1 := in_u i10x2x9 | (have a1 := i10x2x9; unfold In at a1)); (first | have a2 := in_u ro_32_1 | (have a2 := ro_32_1; unfold In at a2)); (first | have a3 := in_u i10x2x9a | (have a3 := i10x2x9a; unfold In at a3)); (first | have a4 := in_u i1x5 | (have a4 := i1x5; unfold In at a4)); (first | have a5 := in_u i24 | (have a5 := i24; unfold In at a5)); have oc := oc_243_0; omega⟩, by (first | have a0 := in_u i10x10x9 | (have a0 := i10x10x9; unfold In at a0)); (first | have a1 := in_u i10x2x9 | (have a1 := i10x2x9; unfold In at a1)); (first | have a2 := in_u ro_32_1 | (have a2 := ro_32_1; unfold In at a2)); (first | have a3 := in_u i10x2x9a | (have a3 := i10x2x9a; unfold In at a3)); (first | have a4 := in_u i1x5 | (have a4 := i1x5; unfold In at a4)); (first | have a5 := in_u i24 | (have a5 := i24; unfold In at a5)); have oc := oc_243_0; omega⟩, by (first | have a0 := in_u i10x10x9 | (have a0 := i10x10x9; unfold In at a0)); (first | have a1 := in_u i10x2x9 | (have a1 := i10x2x9; unfold In at a1)); (first | have a2 := in_u ro_32_1 | (have a2 := ro_32_1; unfold In at a2)); (first | have a3 := in_u i10x2x9a | (have a3 := i10x2x9a; unfold In at a3)); (first | have a4 := in_u i1x5 | (have a4 := i1x5; unfold In at a4)); (first | have a5 := in_u i24 | (have a5 := i24; unfold In at a5)); have oc := oc_243_0; omega, by (first | have a0 := in_u i10x10x9 | (have a0 := i10x10x9; unfold In at a0)); (first | have a1 := in_u i10x2x9 | (have a1 := i10x2x9; unfold In at a1)); (first | have a2 := in_u ro_32_1 | (have a2 := ro_32_1; unfold In at a2)); (first | have a3 := in_u i10x2x9a | (have a3 := i10x2x9a; unfold In at a3)); (first | have a4 := in_u i1x5 | (have a4 := i1x5; unfold In at a4)); (first | have a5 := in_u i24 | (have a5 := i24; unfold In at a5)); have oc := oc_243_0; omega⟩, p44e⟩)
                          have n47a : FLQ (shC s) s44 := by first | (rw [shC_n (by rw [← e1x1]; exact c1x5)]; exact p44f) | (rw [shC_d (by rw [← e1x1]; exact c1x5)]; exact p44f)
                          exact g_lreturn (gd rfl) rfl (hP _ _ ⟨s44, hI44, (fr_tr rfl fr_rf hF44), z44, rfl, rfl, n47, n47a⟩)
                        · skip
                          exact zn_eq c32 (in_c 1 rfl) rfl

theorem oc_356_109 : (Int32.ofInt (-1)).toInt = (-1) ∧ (Int32.ofInt 0).toInt = 0 ∧ (Int32.ofInt 1).toInt = 1 ∧ (Int32.ofInt 160).toInt = 160 ∧ (Int32.ofInt 200).toInt = 200 ∧ (Int32.ofInt 1000).toInt = 1000 ∧ (Int64.ofInt 0).toInt = 0 ∧ (Int64.ofInt 9000000000000000).toInt = 9000000000000000 := ⟨rfl, rfl, rfl, rfl, rfl, rfl, rfl, rfl⟩
/-- GraphHouseModel.cheapest -/
theorem f_356 {Z : AmZ} {A : Nat → Nat} {s : GS} {ex : va_W} {d : Nat} {X : AmX} {x1 : Int32} (hd : 1 ≤ d) (hI : Inv s) (h1 : In x1 0 31) (q_0 : CP s) (q_1 : (x1).toInt < (s.2.2.1 109 20).toInt) : GC Z d 356 [.ref (A 109), .int x1] (WW Z A s ++ ex) 0 0 (fun v u => ∃ t : GS, Inv t ∧ Fr fm_356 s t ∧ v = none ∧ u = WW Z A t ++ ex ∧ (CHE t (x1).toInt) ∧ (RCL s t (x1).toNatClampNeg)) X := by
  intro post xp hP hX
  obtain ⟨u_109_19, e_109_19⟩ : ∃ w, w = s.2.2.1 109 19 := ⟨_, rfl⟩
  have ro_109_19 := inv_F hI 0 160 rfl e_109_19
  obtain ⟨u_109_20, e_109_20⟩ : ∃ w, w = s.2.2.1 109 20 := ⟨_, rfl⟩
  have ro_109_20 := inv_F hI 0 32 rfl e_109_20
  have ct50 : ∀ (k50 : Nat) (sc50 : GS) (y50_2 : Int32), Inv sc50 → Fr fm_356 s sc50 → (In y50_2 0 1) → (CI s (x1).toInt sc50) → ((y50_2).toInt = 0 → CLQ s sc50 160) → 2 * mq s (x1).toInt sc50 + (y50_2).toInt.toNat < k50 → GG Z (d - 1) 356 post (gx xp) (1 + k50 * 439525) 50 (fun j => xlook j [(0, .ref (A 109)), (1, .int x1), (2, .int y50_2)]) [] (WW Z A sc50 ++ ex) 0 0 := by
    intro k50
    induction k50 with
    | zero => intro sc50 y50_2 hIc50 hFc50 j50_2 g50_0 g50_1 mm50; exact absurd mm50 (Nat.not_lt_zero _)
    | succ k50 ih50 =>
      intro sc50 y50_2 hIc50 hFc50 j50_2 g50_0 g50_1 mm50
      refine gg_w (M := 1 + k50 * 439525 + 439525) gws ?_
      have ct58 : ∀ (k58 : Nat) (sc58 : GS) (y58_2 : Int32) (y58_3 : Int32), Inv sc58 → Fr fm_356 s sc58 → (In y58_2 0 1) → (In y58_3 0 160) → (WK s (x1).toInt (mq s (x1).toInt sc50) sc58 (y58_2).toInt (y58_3).toNatClampNeg) → (y50_2.toInt = 1) → 160 - (y58_3).toInt < (k58 : Int) → GG Z (d - 1) 356 post (gx xp) (1 + k50 * 439525 + 1 + k58 * 2702) 58 (fun j => xlook j [(0, .ref (A 109)), (1, .int x1), (2, .int y58_2), (3, .int y58_3)]) [] (WW Z A sc58 ++ ex) 0 0 := by
        intro k58
        induction k58 with
        | zero => intro sc58 y58_2 y58_3 hIc58 hFc58 j58_2 j58_3 g58_0 g58_1 mm58; exact m_no mm58 j58_3 rfl
        | succ k58 ih58 =>
          intro sc58 y58_2 y58_3 hIc58 hFc58 j58_2 j58_3 g58_0 g58_1 mm58
          refine gg_w (M := 1 + k50 * 439525 + 1 + k58 * 2702 + 2702) gws ?_
          have ct324 : ∀ (sc324 : GS) (y324_2 : Int32) (y324_4 : Int32), Inv sc324 → Fr fm_356 s sc324 → (In y324_2 0 1) → (In y58_3 0 159) → (In y324_4 0 400) → (WK s (x1).toInt (mq s (x1).toInt sc50) sc324 (y324_2).toInt ((y58_3).toNatClampNeg + 1)) → GG Z (d - 1) 356 post (gx xp) (1 + k50 * 439525 + 1 + k58 * 2702 + 901) 324 (fun j => xlook j [(0, .ref (A 109)), (1, .int x1), (2, .int y324_2), (3, .int y58_3), (4, .int y324_4)]) [] (WW Z A sc324 ++ ex) 0 0 := by
            intro sc324 y324_2 y324_4 hIc324 hFc324 j324_2 j324_3 j324_4 g324_0
            refine g_iinc 327 (gd rfl) rfl rfl (Nat.le_of_ble_eq_true rfl) (fun z324 e324 => ?_)
            have i324 := in_add 1 160 e324 j324_3 (in_c 1 rfl) rfl rfl
            refine g_goto 58 (gd rfl) rfl ?_
            have n58 : WK s (x1).toInt (mq s (x1).toInt sc50) sc324 (y324_2).toInt (z324).toNatClampNeg := by first | exact wk_0 g50_0 | (rw [show (z324).toNatClampNeg = y58_3.toNatClampNeg + 1 from (by show z324.toInt.toNat = y58_3.toInt.toNat + 1; (first | have a0 := in_u j324_3 | (have a0 := j324_3; unfold In at a0)); (first | have a1 := in_u h1 | (have a1 := h1; unfold In at a1)); (first | have a2 := in_u ro_109_20 | (have a2 := ro_109_20; unfold In at a2)); (first | have a3 := in_u ro_109_19 | (have a3 := ro_109_19; unfold In at a3)); (first | have a4 := in_u j324_4 | (have a4 := j324_4; unfold In at a4)); (first | have a5 := in_u j324_2 | (have a5 := j324_2; unfold In at a5)); (first | have a6 := in_u i324 | (have a6 := i324; unfold In at a6)); have a7 := t_add e324 j324_3 (in_c 1 rfl) rfl; (first | have a8 := in_u ((in_c 1 rfl)) | (have a8 := (in_c 1 rfl); unfold In at a8)); have oc := oc_356_109; omega)]; exact g324_0)
            have n58a : y50_2.toInt = 1 := by first | exact g58_1 | (first | exact g58_1 | (have hj := j50_2; unfold In at hj; have hc := c51; omega))
            exact gg_w (by first | exact Nat.le_add_right _ _ | exact gw2 | exact gw3 | exact gwe rfl | exact gwf rfl | exact gwg rfl | exact gwh rfl | omega) (gg_f (gf_cons rfl (gf_cons rfl (gf_cons rfl (gf_cons rfl gf_nil)))) (ih58 sc324 y324_2 z324 hIc324 hFc324 (in_w 0 1 j324_2 rfl) (in_w 0 160 i324 rfl) n58 n58a (m_up mm58 (t_add e324 j324_3 (in_c 1 rfl) rfl) (in_w 1 1 (in_c 1 rfl) rfl))))
          have ct205 : ∀ (sc205 : GS) (y205_2 : Int32) (y205_4 : Int32), Inv sc205 → Fr fm_356 s sc205 → (In y205_2 0 1) → (In y58_3 0 159) → (In y205_4 0 400) → ((y205_4).toInt = (u_109_19).toInt + (y58_3).toInt) → (WK s (x1).toInt (mq s (x1).toInt sc50) sc205 (y205_2).toInt (y58_3).toNatClampNeg) → ((s.1 112 (y205_4).toNatClampNeg).toInt ≠ 0) → ((y205_2).toInt = 0 → FWQ s sc205 (y58_3).toNatClampNeg) → GG Z (d - 1) 356 post (gx xp) (1 + k50 * 439525 + 1 + k58 * 2702 + 1802) 205 (fun j => xlook j [(0, .ref (A 109)), (1, .int x1), (2, .int y205_2), (3, .int y58_3), (4, .int y205_4)]) [] (WW Z A sc205 ++ ex) 0 0 := by
            intro sc205 y205_2 y205_4 hIc205 hFc205 j205_2 j205_3 j205_4 n205_0 g205_0 g205_1 g205_2
            refine g_aload_n 206 (gd rfl) rfl rfl ?_
            refine g_getA (q2 := 147) 209 (gd rfl) rfl rfl rfl rfl ?_
            refine g_iload_n 210 (gd rfl) rfl rfl ?_
            refine g_laload 211 (gd rfl) rfl (n := 160) rfl (in_ix j205_3 rfl) (fun z210 e210 => ?_)
            refine g_lconst 0 212 (gd rfl) rfl rfl ?_
            refine g_lcmp 213 (gd rfl) rfl (fun z212 e212 => ?_)
            have i212 := lc_in e212
            refine g_if_le 216 324 (gd rfl) rfl rfl (fun c213 => ?_) (fun c213 => ?_)
            · skip
              have i213 := z_le (-1) 0 c213 i212 rfl
              have c213a := lc_le e212 c213
              have i213a := lr_le1 (-9223372036854775808) 0 c213a (l_rng z210) (l_c 0 rfl) rfl
              have n324 : WK s (x1).toInt (mq s (x1).toInt sc50) sc205 (y205_2).toInt ((y58_3).toNatClampNeg + 1) := by exact wk_bw g205_0 g205_2 (fun h0 _ => by exfalso; rw [← hFc205.2.1 147 rfl, ← e210] at h0; have hc := i213a.2; omega)
              exact gg_w (by first | exact Nat.le_add_right _ _ | exact gw2 | exact gw3 | exact gwe rfl | exact gwf rfl | exact gwg rfl | exact gwh rfl | omega) (gg_f (gf_cons rfl (gf_cons rfl (gf_cons rfl (gf_cons rfl (gf_cons rfl gf_nil))))) (ct324 sc205 y205_2 y205_4 hIc205 hFc205 (in_w 0 1 j205_2 rfl) (in_w 0 159 j205_3 rfl) (in_w 0 400 j205_4 rfl) n324))
            · skip
              have i213 := z_gt 1 1 c213 i212 rfl
              have c213a := lc_gt e212 c213
              have i213a := lr_lt2 1 9223372036854775807 c213a (l_c 0 rfl) (l_rng z210) rfl
              refine g_aload_n 217 (gd rfl) rfl rfl ?_
              refine g_getA (q2 := 149) 220 (gd rfl) rfl rfl rfl rfl ?_
              refine g_aload_n 221 (gd rfl) rfl rfl ?_
              refine g_getA (q2 := 114) 224 (gd rfl) rfl rfl rfl rfl ?_
              refine g_iload 226 (gd rfl) rfl rfl ?_
              refine g_iaload 227 (gd rfl) rfl (n := 480) rfl (in_ix j205_4 rfl) (fun z226 e226 => ?_)
              have i226 := inv_I hIc205 (n := 480) (t := 0) 0 31 rfl (in_ix j205_4 rfl) rfl e226
              refine g_laload 228 (gd rfl) rfl (n := 34) rfl (in_ix i226 rfl) (fun z227 e227 => ?_)
              refine g_ldc2_w 9000000000000000 231 (gd rfl) rfl rfl ?_
              refine g_lcmp 232 (gd rfl) rfl (fun z231 e231 => ?_)
              have i231 := lc_in e231
              refine g_if_ge 235 324 (gd rfl) rfl rfl (fun c232 => ?_) (fun c232 => ?_)
              · skip
                have i232 := z_ge 0 1 c232 i231 rfl
                have c232a := lc_ge e231 c232
                have i232a := lr_le2 9000000000000000 9223372036854775807 c232a (l_c 9000000000000000 rfl) (l_rng z227) rfl
                have n324 : WK s (x1).toInt (mq s (x1).toInt sc50) sc205 (y205_2).toInt ((y58_3).toNatClampNeg + 1) := by exact wk_bw g205_0 g205_2 (fun _ h9 => by exfalso; rw [← hFc205.1 114 rfl, (bs_x (x := y205_4) (a := y58_3) e_109_19 (by (first | have a0 := in_u j205_3 | (have a0 := j205_3; unfold In at a0)); (first | have a1 := in_u h1 | (have a1 := h1; unfold In at a1)); (first | have a2 := in_u ro_109_20 | (have a2 := ro_109_20; unfold In at a2)); (first | have a3 := in_u ro_109_19 | (have a3 := ro_109_19; unfold In at a3)); (first | have a4 := in_u j205_4 | (have a4 := j205_4; unfold In at a4)); (first | have a5 := in_u j205_2 | (have a5 := j205_2; unfold In at a5)); have oc := oc_356_109; omega) (by (first | have a0 := in_u j205_3 | (have a0 := j205_3; unfold In at a0)); (first | have a1 := in_u h1 | (have a1 := h1; unfold In at a1)); (first | have a2 := in_u ro_109_20 | (have a2 := ro_109_20; unfold In at a2)); (first | have a3 := in_u ro_109_19 | (have a3 := ro_109_19; unfold In at a3)); (first | have a4 := in_u j205_4 | (have a4 := j205_4; unfold In at a4)); (first | have a5 := in_u j205_2 | (have a5 := j205_2; unfold In at a5)); have oc := oc_356_109; omega) (by (first | have a0 := in_u j205_3 | (have a0 := j205_3; unfold In at a0)); (first | have a1 := in_u h1 | (have a1 := h1; unfold In at a1)); (first | have a2 := in_u ro_109_20 | (have a2 := ro_109_20; unfold In at a2)); (first | have a3 := in_u ro_109_19 | (have a3 := ro_109_19; unfold In at a3)); (first | have a4 := in_u j205_4 | (have a4 := j205_4; unfold In at a4)); (first | have a5 := in_u j205_2 | (have a5 := j205_2; unfold In at a5)); have oc := oc_356_109; omega)), ← e226, ← e227] at h9; have hc := i232a.1; omega)
                exact gg_w (by first | exact Nat.le_add_right _ _ | exact gw2 | exact gw3 | exact gwe rfl | exact gwf rfl | exact gwg rfl | exact gwh rfl | omega) (gg_f (gf_cons rfl (gf_cons rfl (gf_cons rfl (gf_cons rfl (gf_cons rfl gf_nil))))) (ct324 sc205 y205_2 y205_4 hIc205 hFc205 (in_w 0 1 j205_2 rfl) (in_w 0 159 j205_3 rfl) (in_w 0 400 j205_4 rfl) n324))
              · skip
                have i232 := z_lt (-1) (-1) c232 i231 rfl
                have c232a := lc_lt e231 c232
                have i232a := lr_lt1 (-9223372036854775808) 8999999999999999 c232a (l_rng z227) (l_c 9000000000000000 rfl) rfl
                refine g_aload_n 236 (gd rfl) rfl rfl ?_
                refine g_getA (q2 := 149) 239 (gd rfl) rfl rfl rfl rfl ?_
                refine g_aload_n 240 (gd rfl) rfl rfl ?_
                refine g_getA (q2 := 114) 243 (gd rfl) rfl rfl rfl rfl ?_
                refine g_iload 245 (gd rfl) rfl rfl ?_
                refine g_iaload 246 (gd rfl) rfl (n := 480) rfl (in_ix j205_4 rfl) (fun z245 e245 => ?_)
                have q245 : z226 = z245 := (e226).trans e245.symm
                subst q245
                refine g_laload 247 (gd rfl) rfl (n := 34) rfl (in_ix i226 rfl) (fun z246 e246 => ?_)
                refine g_aload_n 248 (gd rfl) rfl rfl ?_
                refine g_getA (q2 := 115) 251 (gd rfl) rfl rfl rfl rfl ?_
                refine g_iload 253 (gd rfl) rfl rfl ?_
                refine g_iaload 254 (gd rfl) rfl (n := 480) rfl (in_ix j205_4 rfl) (fun z253 e253 => ?_)
                have i253 := inv_I hIc205 (n := 480) (t := 0) (-1000000) 1000000 rfl (in_ix j205_4 rfl) rfl e253
                refine g_i2l 255 (gd rfl) rfl (fun z254 e254 => ?_)
                have i254 := l_i e254 i253
                refine g_lsub 256 (gd rfl) rfl (fun z255 e255 => ?_)
                refine g_aload_n 257 (gd rfl) rfl rfl ?_
                refine g_getA (q2 := 149) 260 (gd rfl) rfl rfl rfl rfl ?_
                refine g_aload_n 261 (gd rfl) rfl rfl ?_
                refine g_getA (q2 := 113) 264 (gd rfl) rfl rfl rfl rfl ?_
                refine g_iload 266 (gd rfl) rfl rfl ?_
                refine g_iaload 267 (gd rfl) rfl (n := 480) rfl (in_ix j205_4 rfl) (fun z266 e266 => ?_)
                have i266 := inv_I hIc205 (n := 480) (t := 0) 0 31 rfl (in_ix j205_4 rfl) rfl e266
                refine g_laload 268 (gd rfl) rfl (n := 34) rfl (in_ix i266 rfl) (fun z267 e267 => ?_)
                refine g_lcmp 269 (gd rfl) rfl (fun z268 e268 => ?_)
                have i268 := lc_in e268
                refine g_if_ge 272 324 (gd rfl) rfl rfl (fun c269 => ?_) (fun c269 => ?_)
                · skip
                  have i269 := z_ge 0 1 c269 i268 rfl
                  have c269a := lc_ge e268 c269
                  have n324 : WK s (x1).toInt (mq s (x1).toInt sc50) sc205 (y205_2).toInt ((y58_3).toNatClampNeg + 1) := by exact wk_bw g205_0 g205_2 (bwq_i hI q_0 (by (first | have a0 := in_u j205_3 | (have a0 := j205_3; unfold In at a0)); (first | have a1 := in_u h1 | (have a1 := h1; unfold In at a1)); (first | have a2 := in_u ro_109_20 | (have a2 := ro_109_20; unfold In at a2)); (first | have a3 := in_u ro_109_19 | (have a3 := ro_109_19; unfold In at a3)); (first | have a4 := in_u j205_4 | (have a4 := j205_4; unfold In at a4)); (first | have a5 := in_u j205_2 | (have a5 := j205_2; unfold In at a5)); have a6 := tx_i2l e254; (first | have a7 := in_u i253 | (have a7 := i253; unfold In at a7)); have oc := oc_356_109; omega) ⟨hFc205.1 112 rfl, hFc205.1 113 rfl, hFc205.1 114 rfl, hFc205.1 115 rfl, hFc205.1 116 rfl, hFc205.2.1 147 rfl, hFc205.2.2.1 109 19 rfl, hFc205.2.2.1 109 20 rfl⟩ g205_0.1 j205_3 (bs_x e_109_19 (by (first | have a0 := in_u j205_3 | (have a0 := j205_3; unfold In at a0)); (first | have a1 := in_u h1 | (have a1 := h1; unfold In at a1)); (first | have a2 := in_u ro_109_20 | (have a2 := ro_109_20; unfold In at a2)); (first | have a3 := in_u ro_109_19 | (have a3 := ro_109_19; unfold In at a3)); (first | have a4 := in_u j205_4 | (have a4 := j205_4; unfold In at a4)); (first | have a5 := in_u j205_2 | (have a5 := j205_2; unfold In at a5)); have a6 := tx_i2l e254; (first | have a7 := in_u i253 | (have a7 := i253; unfold In at a7)); have oc := oc_356_109; omega) (by (first | have a0 := in_u j205_3 | (have a0 := j205_3; unfold In at a0)); (first | have a1 := in_u h1 | (have a1 := h1; unfold In at a1)); (first | have a2 := in_u ro_109_20 | (have a2 := ro_109_20; unfold In at a2)); (first | have a3 := in_u ro_109_19 | (have a3 := ro_109_19; unfold In at a3)); (first | have a4 := in_u j205_4 | (have a4 := j205_4; unfold In at a4)); (first | have a5 := in_u j205_2 | (have a5 := j205_2; unfold In at a5)); have a6 := tx_i2l e254; (first | have a7 := in_u i253 | (have a7 := i253; unfold In at a7)); have oc := oc_356_109; omega) (by (first | have a0 := in_u j205_3 | (have a0 := j205_3; unfold In at a0)); (first | have a1 := in_u h1 | (have a1 := h1; unfold In at a1)); (first | have a2 := in_u ro_109_20 | (have a2 := ro_109_20; unfold In at a2)); (first | have a3 := in_u ro_109_19 | (have a3 := ro_109_19; unfold In at a3)); (first | have a4 := in_u j205_4 | (have a4 := j205_4; unfold In at a4)); (first | have a5 := in_u j205_2 | (have a5 := j205_2; unfold In at a5)); have a6 := tx_i2l e254; (first | have a7 := in_u i253 | (have a7 := i253; unfold In at a7)); have oc := oc_356_109; omega)).symm g205_1 e226 e266 e253 e246 (by rw [e246, ← e227]; have h := i232a.2; omega) e255 (tx_i2l e254) e267 c269a)
                  exact gg_w (by first | exact Nat.le_add_right _ _ | exact gw2 | exact gw3 | exact gwe rfl | exact gwf rfl | exact gwg rfl | exact gwh rfl | omega) (gg_f (gf_cons rfl (gf_cons rfl (gf_cons rfl (gf_cons rfl (gf_cons rfl gf_nil))))) (ct324 sc205 y205_2 y205_4 hIc205 hFc205 (in_w 0 1 j205_2 rfl) (in_w 0 159 j205_3 rfl) (in_w 0 400 j205_4 rfl) n324))
                · skip
                  have i269 := z_lt (-1) (-1) c269 i268 rfl
                  have c269a := lc_lt e268 c269
                  have i269a := lr_lt1 (-9223372036854775808) 9223372036854775806 c269a (l_rng z255) (l_rng z267) rfl
                  have i269b := lr_lt2 (-9223372036854775807) 9223372036854775807 c269a (l_rng z255) (l_rng z267) rfl
                  refine g_aload_n 273 (gd rfl) rfl rfl ?_
                  refine g_getA (q2 := 149) 276 (gd rfl) rfl rfl rfl rfl ?_
                  refine g_aload_n 277 (gd rfl) rfl rfl ?_
                  refine g_getA (q2 := 113) 280 (gd rfl) rfl rfl rfl rfl ?_
                  refine g_iload 282 (gd rfl) rfl rfl ?_
                  refine g_iaload 283 (gd rfl) rfl (n := 480) rfl (in_ix j205_4 rfl) (fun z282 e282 => ?_)
                  have q282 : z266 = z282 := (e266).trans e282.symm
                  subst q282
                  refine g_aload_n 284 (gd rfl) rfl rfl ?_
                  refine g_getA (q2 := 149) 287 (gd rfl) rfl rfl rfl rfl ?_
                  refine g_aload_n 288 (gd rfl) rfl rfl ?_
                  refine g_getA (q2 := 114) 291 (gd rfl) rfl rfl rfl rfl ?_
                  refine g_iload 293 (gd rfl) rfl rfl ?_
                  refine g_iaload 294 (gd rfl) rfl (n := 480) rfl (in_ix j205_4 rfl) (fun z293 e293 => ?_)
                  have q293 : z226 = z293 := (e226).trans e293.symm
                  subst q293
                  refine g_laload 295 (gd rfl) rfl (n := 34) rfl (in_ix i226 rfl) (fun z294 e294 => ?_)
                  refine g_aload_n 296 (gd rfl) rfl rfl ?_
                  refine g_getA (q2 := 115) 299 (gd rfl) rfl rfl rfl rfl ?_
                  refine g_iload 301 (gd rfl) rfl rfl ?_
                  refine g_iaload 302 (gd rfl) rfl (n := 480) rfl (in_ix j205_4 rfl) (fun z301 e301 => ?_)
                  have q301 : z253 = z301 := (e253).trans e301.symm
                  subst q301
                  refine g_i2l 303 (gd rfl) rfl (fun z302 e302 => ?_)
                  have i302 := l_i e302 i253
                  refine g_lsub 304 (gd rfl) rfl (fun z303 e303 => ?_)
                  refine g_lastore 305 (gd rfl) rfl (n := 34) rfl (in_ix i266 rfl) ?_
                  have hI304 := inv_sL (q := 149) (j := z266.toNatClampNeg) (x := z303) hIc205 rfl (l_rng z303)
                  refine g_aload_n 306 (gd rfl) rfl rfl ?_
                  refine g_getA (q2 := 148) 309 (gd rfl) rfl rfl rfl rfl ?_
                  refine g_aload_n 310 (gd rfl) rfl rfl ?_
                  refine g_getA (q2 := 113) 313 (gd rfl) rfl rfl rfl rfl ?_
                  refine g_iload 315 (gd rfl) rfl rfl ?_
                  refine g_iaload 316 (gd rfl) rfl (n := 480) rfl (in_ix j205_4 rfl) (fun z315 e315 => ?_)
                  have q315 : z266 = z315 := (sL_I (e266)).trans e315.symm
                  subst q315
                  refine g_sipush 200 319 (gd rfl) rfl rfl ?_
                  refine g_iload_n 320 (gd rfl) rfl rfl ?_
                  refine g_iadd 321 (gd rfl) rfl (fun z320 e320 => ?_)
                  have i320 := in_add 200 359 e320 (in_c 200 rfl) j205_3 rfl rfl
                  refine g_iastore 322 (gd rfl) rfl (n := 34) rfl (in_ix i266 rfl) ?_
                  have hI321 := inv_sI (q := 148) (j := z266.toNatClampNeg) hI304 rfl (in_w (-1) 1000 i320 rfl)
                  refine g_iconst 1 323 (gd rfl) rfl rfl ?_
                  refine g_istore_n 324 (gd rfl) rfl (Nat.le_of_ble_eq_true rfl) ?_
                  have n324 : WK s (x1).toInt (mq s (x1).toInt sc50) (sI (sL sc205 149 z266.toNatClampNeg z303) 148 z266.toNatClampNeg z320) ((Int32.ofInt 1)).toInt ((y58_3).toNatClampNeg + 1) := by exact (wk_ch g205_0 (ci_bw hI q_0 (by (first | have a0 := in_u j205_3 | (have a0 := j205_3; unfold In at a0)); (first | have a1 := in_u h1 | (have a1 := h1; unfold In at a1)); (first | have a2 := in_u ro_109_20 | (have a2 := ro_109_20; unfold In at a2)); (first | have a3 := in_u ro_109_19 | (have a3 := ro_109_19; unfold In at a3)); (first | have a4 := in_u j205_4 | (have a4 := j205_4; unfold In at a4)); (first | have a5 := in_u j205_2 | (have a5 := j205_2; unfold In at a5)); (first | have a6 := in_u ((in_c 1 rfl)) | (have a6 := (in_c 1 rfl); unfold In at a6)); (first | have a7 := in_u i320 | (have a7 := i320; unfold In at a7)); have a8 := t_add e320 (in_c 200 rfl) j205_3 rfl; (first | have a9 := in_u ((in_c 200 rfl)) | (have a9 := (in_c 200 rfl); unfold In at a9)); have a10 := tx_i2l e302; (first | have a11 := in_u i253 | (have a11 := i253; unfold In at a11)); have a12 := tx_i2l e254; have oc := oc_356_109; omega) (by (first | have a0 := in_u j205_3 | (have a0 := j205_3; unfold In at a0)); (first | have a1 := in_u h1 | (have a1 := h1; unfold In at a1)); (first | have a2 := in_u ro_109_20 | (have a2 := ro_109_20; unfold In at a2)); (first | have a3 := in_u ro_109_19 | (have a3 := ro_109_19; unfold In at a3)); (first | have a4 := in_u j205_4 | (have a4 := j205_4; unfold In at a4)); (first | have a5 := in_u j205_2 | (have a5 := j205_2; unfold In at a5)); (first | have a6 := in_u ((in_c 1 rfl)) | (have a6 := (in_c 1 rfl); unfold In at a6)); (first | have a7 := in_u i320 | (have a7 := i320; unfold In at a7)); have a8 := t_add e320 (in_c 200 rfl) j205_3 rfl; (first | have a9 := in_u ((in_c 200 rfl)) | (have a9 := (in_c 200 rfl); unfold In at a9)); have a10 := tx_i2l e302; (first | have a11 := in_u i253 | (have a11 := i253; unfold In at a11)); have a12 := tx_i2l e254; have oc := oc_356_109; omega) ⟨hFc205.1 112 rfl, hFc205.1 113 rfl, hFc205.1 114 rfl, hFc205.1 115 rfl, hFc205.1 116 rfl, hFc205.2.1 147 rfl, hFc205.2.2.1 109 19 rfl, hFc205.2.2.1 109 20 rfl⟩ g205_0.1 j205_3 (by (first | have a0 := in_u j205_3 | (have a0 := j205_3; unfold In at a0)); (first | have a1 := in_u h1 | (have a1 := h1; unfold In at a1)); (first | have a2 := in_u ro_109_20 | (have a2 := ro_109_20; unfold In at a2)); (first | have a3 := in_u ro_109_19 | (have a3 := ro_109_19; unfold In at a3)); (first | have a4 := in_u j205_4 | (have a4 := j205_4; unfold In at a4)); (first | have a5 := in_u j205_2 | (have a5 := j205_2; unfold In at a5)); (first | have a6 := in_u ((in_c 1 rfl)) | (have a6 := (in_c 1 rfl); unfold In at a6)); (first | have a7 := in_u i320 | (have a7 := i320; unfold In at a7)); have a8 := t_add e320 (in_c 200 rfl) j205_3 rfl; (first | have a9 := in_u ((in_c 200 rfl)) | (have a9 := (in_c 200 rfl); unfold In at a9)); have a10 := tx_i2l e302; (first | have a11 := in_u i253 | (have a11 := i253; unfold In at a11)); have a12 := tx_i2l e254; have oc := oc_356_109; omega) (bs_x e_109_19 (by (first | have a0 := in_u j205_3 | (have a0 := j205_3; unfold In at a0)); (first | have a1 := in_u h1 | (have a1 := h1; unfold In at a1)); (first | have a2 := in_u ro_109_20 | (have a2 := ro_109_20; unfold In at a2)); (first | have a3 := in_u ro_109_19 | (have a3 := ro_109_19; unfold In at a3)); (first | have a4 := in_u j205_4 | (have a4 := j205_4; unfold In at a4)); (first | have a5 := in_u j205_2 | (have a5 := j205_2; unfold In at a5)); (first | have a6 := in_u ((in_c 1 rfl)) | (have a6 := (in_c 1 rfl); unfold In at a6)); (first | have a7 := in_u i320 | (have a7 := i320; unfold In at a7)); have a8 := t_add e320 (in_c 200 rfl) j205_3 rfl; (first | have a9 := in_u ((in_c 200 rfl)) | (have a9 := (in_c 200 rfl); unfold In at a9)); have a10 := tx_i2l e302; (first | have a11 := in_u i253 | (have a11 := i253; unfold In at a11)); have a12 := tx_i2l e254; have oc := oc_356_109; omega) (by (first | have a0 := in_u j205_3 | (have a0 := j205_3; unfold In at a0)); (first | have a1 := in_u h1 | (have a1 := h1; unfold In at a1)); (first | have a2 := in_u ro_109_20 | (have a2 := ro_109_20; unfold In at a2)); (first | have a3 := in_u ro_109_19 | (have a3 := ro_109_19; unfold In at a3)); (first | have a4 := in_u j205_4 | (have a4 := j205_4; unfold In at a4)); (first | have a5 := in_u j205_2 | (have a5 := j205_2; unfold In at a5)); (first | have a6 := in_u ((in_c 1 rfl)) | (have a6 := (in_c 1 rfl); unfold In at a6)); (first | have a7 := in_u i320 | (have a7 := i320; unfold In at a7)); have a8 := t_add e320 (in_c 200 rfl) j205_3 rfl; (first | have a9 := in_u ((in_c 200 rfl)) | (have a9 := (in_c 200 rfl); unfold In at a9)); have a10 := tx_i2l e302; (first | have a11 := in_u i253 | (have a11 := i253; unfold In at a11)); have a12 := tx_i2l e254; have oc := oc_356_109; omega) (by (first | have a0 := in_u j205_3 | (have a0 := j205_3; unfold In at a0)); (first | have a1 := in_u h1 | (have a1 := h1; unfold In at a1)); (first | have a2 := in_u ro_109_20 | (have a2 := ro_109_20; unfold In at a2)); (first | have a3 := in_u ro_109_19 | (have a3 := ro_109_19; unfold In at a3)); (first | have a4 := in_u j205_4 | (have a4 := j205_4; unfold In at a4)); (first | have a5 := in_u j205_2 | (have a5 := j205_2; unfold In at a5)); (first | have a6 := in_u ((in_c 1 rfl)) | (have a6 := (in_c 1 rfl); unfold In at a6)); (first | have a7 := in_u i320 | (have a7 := i320; unfold In at a7)); have a8 := t_add e320 (in_c 200 rfl) j205_3 rfl; (first | have a9 := in_u ((in_c 200 rfl)) | (have a9 := (in_c 200 rfl); unfold In at a9)); have a10 := tx_i2l e302; (first | have a11 := in_u i253 | (have a11 := i253; unfold In at a11)); have a12 := tx_i2l e254; have oc := oc_356_109; omega)).symm g205_1 (by rw [← e210]; have h := i213a.1; omega) e226 e266 e253 e294 (by rw [e294, ← e227]; have h := i232a.2; omega) e303 (tx_i2l e302) (by rw [show z303 = z255 from (by rw [e303, e255, e294, e246, e302, e254]), ← e267]; exact c269a)) _)
                  exact gg_w (by first | exact Nat.le_add_right _ _ | exact gw2 | exact gw3 | exact gwe rfl | exact gwf rfl | exact gwg rfl | exact gwh rfl | omega) (gg_f (gf_cons rfl (gf_cons rfl (gf_cons rfl (gf_cons rfl (gf_cons rfl gf_nil))))) (ct324 (sI (sL sc205 149 z266.toNatClampNeg z303) 148 z266.toNatClampNeg z320) (Int32.ofInt 1) y205_4 hI321 (fr_sI rfl (fr_sL rfl hFc205)) (in_w 0 1 (in_c 1 rfl) rfl) (in_w 0 159 j205_3 rfl) (in_w 0 400 j205_4 rfl) n324))
          refine g_iload_n 59 (gd rfl) rfl rfl ?_
          refine g_sipush 160 62 (gd rfl) rfl rfl ?_
          refine g_cmp_ge 65 330 (gd rfl) rfl rfl (fun c62 => ?_) (fun c62 => ?_)
          · skip
            have i62 := r_le2 160 160 c62 (in_c 160 rfl) j58_3 rfl
            refine g_goto 50 (gd rfl) rfl ?_
            have n50 : CI s (x1).toInt sc58 := by first | exact g58_0.1 | exact ci_0 hI q_0 h1 q_1 ⟨hFc2.1 112 rfl, hFc2.1 113 rfl, hFc2.1 114 rfl, hFc2.1 115 rfl, hFc2.1 116 rfl, hFc2.2.1 147 rfl, hFc2.2.2.1 109 19 rfl, hFc2.2.2.1 109 20 rfl⟩ (fun k hk => g2_0 k (by rw [← e_109_20] at hk; (first | have a0 := in_u h1 | (have a0 := h1; unfold In at a0)); (first | have a1 := in_u ro_109_20 | (have a1 := ro_109_20; unfold In at a1)); (first | have a2 := in_u ro_109_19 | (have a2 := ro_109_19; unfold In at a2)); (first | have a3 := in_u i62 | (have a3 := i62; unfold In at a3)); (first | have a4 := in_u j58_2 | (have a4 := j58_2; unfold In at a4)); have oc := oc_356_109; omega))
            have n50a : (y58_2).toInt = 0 → CLQ s sc58 160 := by first | (intro hz; exfalso; have h0 : (Int32.ofInt 1).toInt = 1 := rfl; omega) | (intro hz; have hc := g58_0.2.2.2 hz; rw [show y58_3.toNatClampNeg = 160 from (by show y58_3.toInt.toNat = 160; (first | have a0 := in_u h1 | (have a0 := h1; unfold In at a0)); (first | have a1 := in_u ro_109_20 | (have a1 := ro_109_20; unfold In at a1)); (first | have a2 := in_u ro_109_19 | (have a2 := ro_109_19; unfold In at a2)); (first | have a3 := in_u i62 | (have a3 := i62; unfold In at a3)); (first | have a4 := in_u j58_2 | (have a4 := j58_2; unfold In at a4)); have oc := oc_356_109; omega)] at hc; exact hc)
            have m50 : 2 * mq s (x1).toInt sc58 + (y58_2).toInt.toNat < k50 := by have hm := mm50; have hj := g58_1; have hm1 := g58_0.2.1; have hm2 := g58_0.2.2.1; by_cases hz : y58_2.toInt = 0; ((first | have a0 := in_u h1 | (have a0 := h1; unfold In at a0)); (first | have a1 := in_u ro_109_20 | (have a1 := ro_109_20; unfold In at a1)); (first | have a2 := in_u ro_109_19 | (have a2 := ro_109_19; unfold In at a2)); (first | have a3 := in_u i62 | (have a3 := i62; unfold In at a3)); (first | have a4 := in_u j58_2 | (have a4 := j58_2; unfold In at a4)); have oc := oc_356_109; omega); (have hm3 := hm2 hz; have hjj := j58_2; unfold In at hjj; (first | have a0 := in_u h1 | (have a0 := h1; unfold In at a0)); (first | have a1 := in_u ro_109_20 | (have a1 := ro_109_20; unfold In at a1)); (first | have a2 := in_u ro_109_19 | (have a2 := ro_109_19; unfold In at a2)); (first | have a3 := in_u i62 | (have a3 := i62; unfold In at a3)); (first | have a4 := in_u j58_2 | (have a4 := j58_2; unfold In at a4)); have oc := oc_356_109; omega)
            exact gg_w (by first | exact Nat.le_add_right _ _ | exact gw2 | exact gw3 | exact gwe rfl | exact gwf rfl | exact gwg rfl | exact gwh rfl | omega) (gg_f (gf_cons rfl (gf_cons rfl (gf_cons rfl gf_nil))) (ih50  sc58 y58_2 hIc58 hFc58 (in_w 0 1 j58_2 rfl) n50 n50a m50))
          · skip
            have i62 := r_lt1 0 159 c62 j58_3 (in_c 160 rfl) rfl
            refine g_aload_n 66 (gd rfl) rfl rfl ?_
            refine g_getI 69 (gd rfl) rfl rfl rfl (fun z66 e66 => ?_)
            have q66 : u_109_19 = z66 := (fr_F e_109_19 hFc58 rfl).trans e66.symm
            subst q66
            refine g_iload_n 70 (gd rfl) rfl rfl ?_
            refine g_iadd 71 (gd rfl) rfl (fun z70 e70 => ?_)
            have i70 := in_add 0 319 e70 ro_109_19 i62 rfl rfl
            refine g_istore 73 (gd rfl) rfl (Nat.le_of_ble_eq_true rfl) ?_
            refine g_aload_n 74 (gd rfl) rfl rfl ?_
            refine g_getA (q2 := 112) 77 (gd rfl) rfl rfl rfl rfl ?_
            refine g_iload 79 (gd rfl) rfl rfl ?_
            refine g_baload 80 (gd rfl) rfl (n := 480) rfl (in_ix i70 rfl) (fun z79 e79 => ?_)
            have i79 := inv_I hIc58 (n := 480) (t := 3) 0 1 rfl (in_ix i70 rfl) rfl e79
            refine g_if_eq 83 324 (gd rfl) rfl rfl (fun c80 => ?_) (fun c80 => ?_)
            · skip
              have i80 := z_eq 0 0 c80 i79 rfl
              have n324 : WK s (x1).toInt (mq s (x1).toInt sc50) sc58 (y58_2).toInt ((y58_3).toNatClampNeg + 1) := by exact wk_no g58_0 (by rw [(bs_x (x := z70) (a := y58_3) e_109_19 (by (first | have a0 := in_u h1 | (have a0 := h1; unfold In at a0)); (first | have a1 := in_u ro_109_20 | (have a1 := ro_109_20; unfold In at a1)); (first | have a2 := in_u ro_109_19 | (have a2 := ro_109_19; unfold In at a2)); (first | have a3 := in_u i62 | (have a3 := i62; unfold In at a3)); (first | have a4 := in_u j58_2 | (have a4 := j58_2; unfold In at a4)); (first | have a5 := in_u i70 | (have a5 := i70; unfold In at a5)); have a6 := t_add e70 ro_109_19 i62 rfl; have oc := oc_356_109; omega) (by (first | have a0 := in_u h1 | (have a0 := h1; unfold In at a0)); (first | have a1 := in_u ro_109_20 | (have a1 := ro_109_20; unfold In at a1)); (first | have a2 := in_u ro_109_19 | (have a2 := ro_109_19; unfold In at a2)); (first | have a3 := in_u i62 | (have a3 := i62; unfold In at a3)); (first | have a4 := in_u j58_2 | (have a4 := j58_2; unfold In at a4)); (first | have a5 := in_u i70 | (have a5 := i70; unfold In at a5)); have a6 := t_add e70 ro_109_19 i62 rfl; have oc := oc_356_109; omega) (by (first | have a0 := in_u h1 | (have a0 := h1; unfold In at a0)); (first | have a1 := in_u ro_109_20 | (have a1 := ro_109_20; unfold In at a1)); (first | have a2 := in_u ro_109_19 | (have a2 := ro_109_19; unfold In at a2)); (first | have a3 := in_u i62 | (have a3 := i62; unfold In at a3)); (first | have a4 := in_u j58_2 | (have a4 := j58_2; unfold In at a4)); (first | have a5 := in_u i70 | (have a5 := i70; unfold In at a5)); have a6 := t_add e70 ro_109_19 i62 rfl; have oc := oc_356_109; omega)), ← hFc58.1 112 rfl, ← e79]; exact c80)
              exact gg_w (by first | exact Nat.le_add_right _ _ | exact gw2 | exact gw3 | exact gwe rfl | exact gwf rfl | exact gwg rfl | exact gwh rfl | omega) (gg_f (gf_cons rfl (gf_cons rfl (gf_cons rfl (gf_cons rfl (gf_cons rfl gf_nil))))) (ct324 sc58 y58_2 z70 hIc58 hFc58 (in_w 0 1 j58_2 rfl) (in_w 0 159 i62 rfl) (in_w 0 400 i70 rfl) n324))
            · skip
              have i80 := z_ne 1 1 c80 i79 rfl
              refine g_aload_n 84 (gd rfl) rfl rfl ?_
              refine g_getA (q2 := 147) 87 (gd rfl) rfl rfl rfl rfl ?_
              refine g_iload_n 88 (gd rfl) rfl rfl ?_
              refine g_laload 89 (gd rfl) rfl (n := 160) rfl (in_ix i62 rfl) (fun z88 e88 => ?_)
              refine g_aload_n 90 (gd rfl) rfl rfl ?_
              refine g_getA (q2 := 116) 93 (gd rfl) rfl rfl rfl rfl ?_
              refine g_iload 95 (gd rfl) rfl rfl ?_
              refine g_iaload 96 (gd rfl) rfl (n := 480) rfl (in_ix i70 rfl) (fun z95 e95 => ?_)
              have i95 := inv_I hIc58 (n := 480) (t := 0) 0 1000000 rfl (in_ix i70 rfl) rfl e95
              refine g_i2l 97 (gd rfl) rfl (fun z96 e96 => ?_)
              have i96 := l_i e96 i95
              refine g_lcmp 98 (gd rfl) rfl (fun z97 e97 => ?_)
              have i97 := lc_in e97
              refine g_if_ge 101 205 (gd rfl) rfl rfl (fun c98 => ?_) (fun c98 => ?_)
              · skip
                have i98 := z_ge 0 1 c98 i97 rfl
                have c98a := lc_ge e97 c98
                have i98a := lr_le2 0 9223372036854775807 c98a i96 (l_rng z88) rfl
                have n205 : (z70).toInt = (u_109_19).toInt + (y58_3).toInt := by (first | have a0 := in_u h1 | (have a0 := h1; unfold In at a0)); (first | have a1 := in_u ro_109_20 | (have a1 := ro_109_20; unfold In at a1)); (first | have a2 := in_u ro_109_19 | (have a2 := ro_109_19; unfold In at a2)); (first | have a3 := in_u i62 | (have a3 := i62; unfold In at a3)); (first | have a4 := in_u j58_2 | (have a4 := j58_2; unfold In at a4)); (first | have a5 := in_u i70 | (have a5 := i70; unfold In at a5)); have a6 := t_add e70 ro_109_19 i62 rfl; have a7 := tx_i2l e96; (first | have a8 := in_u i95 | (have a8 := i95; unfold In at a8)); have oc := oc_356_109; omega
                have n205a : WK s (x1).toInt (mq s (x1).toInt sc50) sc58 (y58_2).toInt (y58_3).toNatClampNeg := by exact g58_0
                have n205b : (s.1 112 (z70).toNatClampNeg).toInt ≠ 0 := by rw [← hFc58.1 112 rfl, ← e79]; exact c80
                have n205c : (y58_2).toInt = 0 → FWQ s sc58 (y58_3).toNatClampNeg := by (intro _ h0 _; exfalso; rw [← hFc58.2.1 147 rfl, ← hFc58.1 116 rfl, (bs_x (x := z70) (a := y58_3) e_109_19 (by have a0 := h1; unfold In at a0; (first | have a1 := in_u ro_109_20 | (have a1 := ro_109_20; unfold In at a1)); (first | have a2 := in_u ro_109_19 | (have a2 := ro_109_19; unfold In at a2)); (first | have a3 := in_u i62 | (have a3 := i62; unfold In at a3)); (first | have a4 := in_u j58_2 | (have a4 := j58_2; unfold In at a4)); (first | have a5 := in_u i70 | (have a5 := i70; unfold In at a5)); have a6 := t_add e70 ro_109_19 i62 rfl; have a7 := tx_i2l e96; (first | have a8 := in_u i95 | (have a8 := i95; unfold In at a8)); have oc := oc_356_109; omega) (by have a0 := h1; unfold In at a0; (first | have a1 := in_u ro_109_20 | (have a1 := ro_109_20; unfold In at a1)); (first | have a2 := in_u ro_109_19 | (have a2 := ro_109_19; unfold In at a2)); (first | have a3 := in_u i62 | (have a3 := i62; unfold In at a3)); (first | have a4 := in_u j58_2 | (have a4 := j58_2; unfold In at a4)); (first | have a5 := in_u i70 | (have a5 := i70; unfold In at a5)); have a6 := t_add e70 ro_109_19 i62 rfl; have a7 := tx_i2l e96; (first | have a8 := in_u i95 | (have a8 := i95; unfold In at a8)); have oc := oc_356_109; omega) (by have a0 := h1; unfold In at a0; (first | have a1 := in_u ro_109_20 | (have a1 := ro_109_20; unfold In at a1)); (first | have a2 := in_u ro_109_19 | (have a2 := ro_109_19; unfold In at a2)); (first | have a3 := in_u i62 | (have a3 := i62; unfold In at a3)); (first | have a4 := in_u j58_2 | (have a4 := j58_2; unfold In at a4)); (first | have a5 := in_u i70 | (have a5 := i70; unfold In at a5)); have a6 := t_add e70 ro_109_19 i62 rfl; have a7 := tx_i2l e96; (first | have a8 := in_u i95 | (have a8 := i95; unfold In at a8)); have oc := oc_356_109; omega)), ← e88, ← e95] at h0; have h1 := tx_i2l e96; have h2 := c98a; omega)
                exact gg_w (by first | exact Nat.le_add_right _ _ | exact gw2 | exact gw3 | exact gwe rfl | exact gwf rfl | exact gwg rfl | exact gwh rfl | omega) (gg_f (gf_cons rfl (gf_cons rfl (gf_cons rfl (gf_cons rfl (gf_cons rfl gf_nil))))) (ct205 sc58 y58_2 z70 hIc58 hFc58 (in_w 0 1 j58_2 rfl) (in_w 0 159 i62 rfl) (in_w 0 400 i70 rfl) n205 n205a n205b n205c))
              · skip
                have i98 := z_lt (-1) (-1) c98 i97 rfl
                have c98a := lc_lt e97 c98
                have i98a := lr_lt1 (-9223372036854775808) 999999 c98a (l_rng z88) i96 rfl
                refine g_aload_n 102 (gd rfl) rfl rfl ?_
                refine g_getA (q2 := 149) 105 (gd rfl) rfl rfl rfl rfl ?_
                refine g_aload_n 106 (gd rfl) rfl rfl ?_
                refine g_getA (q2 := 113) 109 (gd rfl) rfl rfl rfl rfl ?_
                refine g_iload 111 (gd rfl) rfl rfl ?_
                refine g_iaload 112 (gd rfl) rfl (n := 480) rfl (in_ix i70 rfl) (fun z111 e111 => ?_)
                have i111 := inv_I hIc58 (n := 480) (t := 0) 0 31 rfl (in_ix i70 rfl) rfl e111
                refine g_laload 113 (gd rfl) rfl (n := 34) rfl (in_ix i111 rfl) (fun z112 e112 => ?_)
                refine g_ldc2_w 9000000000000000 116 (gd rfl) rfl rfl ?_
                refine g_lcmp 117 (gd rfl) rfl (fun z116 e116 => ?_)
                have i116 := lc_in e116
                refine g_if_ge 120 205 (gd rfl) rfl rfl (fun c117 => ?_) (fun c117 => ?_)
                · skip
                  have i117 := z_ge 0 1 c117 i116 rfl
                  have c117a := lc_ge e116 c117
                  have i117a := lr_le2 9000000000000000 9223372036854775807 c117a (l_c 9000000000000000 rfl) (l_rng z112) rfl
                  have n205 : (z70).toInt = (u_109_19).toInt + (y58_3).toInt := by (first | have a0 := in_u h1 | (have a0 := h1; unfold In at a0)); (first | have a1 := in_u ro_109_20 | (have a1 := ro_109_20; unfold In at a1)); (first | have a2 := in_u ro_109_19 | (have a2 := ro_109_19; unfold In at a2)); (first | have a3 := in_u i62 | (have a3 := i62; unfold In at a3)); (first | have a4 := in_u j58_2 | (have a4 := j58_2; unfold In at a4)); (first | have a5 := in_u i70 | (have a5 := i70; unfold In at a5)); have a6 := t_add e70 ro_109_19 i62 rfl; have a7 := tx_i2l e96; (first | have a8 := in_u i95 | (have a8 := i95; unfold In at a8)); have oc := oc_356_109; omega
                  have n205a : WK s (x1).toInt (mq s (x1).toInt sc50) sc58 (y58_2).toInt (y58_3).toNatClampNeg := by exact g58_0
                  have n205b : (s.1 112 (z70).toNatClampNeg).toInt ≠ 0 := by rw [← hFc58.1 112 rfl, ← e79]; exact c80
                  have n205c : (y58_2).toInt = 0 → FWQ s sc58 (y58_3).toNatClampNeg := by (intro _ _ h9; exfalso; rw [← hFc58.1 113 rfl, (bs_x (x := z70) (a := y58_3) e_109_19 (by (first | have a0 := in_u h1 | (have a0 := h1; unfold In at a0)); (first | have a1 := in_u ro_109_20 | (have a1 := ro_109_20; unfold In at a1)); (first | have a2 := in_u ro_109_19 | (have a2 := ro_109_19; unfold In at a2)); (first | have a3 := in_u i62 | (have a3 := i62; unfold In at a3)); (first | have a4 := in_u j58_2 | (have a4 := j58_2; unfold In at a4)); (first | have a5 := in_u i70 | (have a5 := i70; unfold In at a5)); have a6 := t_add e70 ro_109_19 i62 rfl; have a7 := tx_i2l e96; (first | have a8 := in_u i95 | (have a8 := i95; unfold In at a8)); have oc := oc_356_109; omega) (by (first | have a0 := in_u h1 | (have a0 := h1; unfold In at a0)); (first | have a1 := in_u ro_109_20 | (have a1 := ro_109_20; unfold In at a1)); (first | have a2 := in_u ro_109_19 | (have a2 := ro_109_19; unfold In at a2)); (first | have a3 := in_u i62 | (have a3 := i62; unfold In at a3)); (first | have a4 := in_u j58_2 | (have a4 := j58_2; unfold In at a4)); (first | have a5 := in_u i70 | (have a5 := i70; unfold In at a5)); have a6 := t_add e70 ro_109_19 i62 rfl; have a7 := tx_i2l e96; (first | have a8 := in_u i95 | (have a8 := i95; unfold In at a8)); have oc := oc_356_109; omega) (by (first | have a0 := in_u h1 | (have a0 := h1; unfold In at a0)); (first | have a1 := in_u ro_109_20 | (have a1 := ro_109_20; unfold In at a1)); (first | have a2 := in_u ro_109_19 | (have a2 := ro_109_19; unfold In at a2)); (first | have a3 := in_u i62 | (have a3 := i62; unfold In at a3)); (first | have a4 := in_u j58_2 | (have a4 := j58_2; unfold In at a4)); (first | have a5 := in_u i70 | (have a5 := i70; unfold In at a5)); have a6 := t_add e70 ro_109_19 i62 rfl; have a7 := tx_i2l e96; (first | have a8 := in_u i95 | (have a8 := i95; unfold In at a8)); have oc := oc_356_109; omega)), ← e111, ← e112] at h9; have h2 := i117a.1; omega)
                  exact gg_w (by first | exact Nat.le_add_right _ _ | exact gw2 | exact gw3 | exact gwe rfl | exact gwf rfl | exact gwg rfl | exact gwh rfl | omega) (gg_f (gf_cons rfl (gf_cons rfl (gf_cons rfl (gf_cons rfl (gf_cons rfl gf_nil))))) (ct205 sc58 y58_2 z70 hIc58 hFc58 (in_w 0 1 j58_2 rfl) (in_w 0 159 i62 rfl) (in_w 0 400 i70 rfl) n205 n205a n205b n205c))
                · skip
                  have i117 := z_lt (-1) (-1) c117 i116 rfl
                  have c117a := lc_lt e116 c117
                  have i117a := lr_lt1 (-9223372036854775808) 8999999999999999 c117a (l_rng z112) (l_c 9000000000000000 rfl) rfl
                  refine g_aload_n 121 (gd rfl) rfl rfl ?_
                  refine g_getA (q2 := 149) 124 (gd rfl) rfl rfl rfl rfl ?_
                  refine g_aload_n 125 (gd rfl) rfl rfl ?_
                  refine g_getA (q2 := 113) 128 (gd rfl) rfl rfl rfl rfl ?_
                  refine g_iload 130 (gd rfl) rfl rfl ?_
                  refine g_iaload 131 (gd rfl) rfl (n := 480) rfl (in_ix i70 rfl) (fun z130 e130 => ?_)
                  have q130 : z111 = z130 := (e111).trans e130.symm
                  subst q130
                  refine g_laload 132 (gd rfl) rfl (n := 34) rfl (in_ix i111 rfl) (fun z131 e131 => ?_)
                  refine g_aload_n 133 (gd rfl) rfl rfl ?_
                  refine g_getA (q2 := 115) 136 (gd rfl) rfl rfl rfl rfl ?_
                  refine g_iload 138 (gd rfl) rfl rfl ?_
                  refine g_iaload 139 (gd rfl) rfl (n := 480) rfl (in_ix i70 rfl) (fun z138 e138 => ?_)
                  have i138 := inv_I hIc58 (n := 480) (t := 0) (-1000000) 1000000 rfl (in_ix i70 rfl) rfl e138
                  refine g_i2l 140 (gd rfl) rfl (fun z139 e139 => ?_)
                  have i139 := l_i e139 i138
                  refine g_ladd 141 (gd rfl) rfl (fun z140 e140 => ?_)
                  refine g_aload_n 142 (gd rfl) rfl rfl ?_
                  refine g_getA (q2 := 149) 145 (gd rfl) rfl rfl rfl rfl ?_
                  refine g_aload_n 146 (gd rfl) rfl rfl ?_
                  refine g_getA (q2 := 114) 149 (gd rfl) rfl rfl rfl rfl ?_
                  refine g_iload 151 (gd rfl) rfl rfl ?_
                  refine g_iaload 152 (gd rfl) rfl (n := 480) rfl (in_ix i70 rfl) (fun z151 e151 => ?_)
                  have i151 := inv_I hIc58 (n := 480) (t := 0) 0 31 rfl (in_ix i70 rfl) rfl e151
                  refine g_laload 153 (gd rfl) rfl (n := 34) rfl (in_ix i151 rfl) (fun z152 e152 => ?_)
                  refine g_lcmp 154 (gd rfl) rfl (fun z153 e153 => ?_)
                  have i153 := lc_in e153
                  refine g_if_ge 157 205 (gd rfl) rfl rfl (fun c154 => ?_) (fun c154 => ?_)
                  · skip
                    have i154 := z_ge 0 1 c154 i153 rfl
                    have c154a := lc_ge e153 c154
                    have n205 : (z70).toInt = (u_109_19).toInt + (y58_3).toInt := by (first | have a0 := in_u h1 | (have a0 := h1; unfold In at a0)); (first | have a1 := in_u ro_109_20 | (have a1 := ro_109_20; unfold In at a1)); (first | have a2 := in_u ro_109_19 | (have a2 := ro_109_19; unfold In at a2)); (first | have a3 := in_u i62 | (have a3 := i62; unfold In at a3)); (first | have a4 := in_u j58_2 | (have a4 := j58_2; unfold In at a4)); (first | have a5 := in_u i70 | (have a5 := i70; unfold In at a5)); have a6 := t_add e70 ro_109_19 i62 rfl; have a7 := tx_i2l e139; (first | have a8 := in_u i138 | (have a8 := i138; unfold In at a8)); have a9 := tx_i2l e96; (first | have a10 := in_u i95 | (have a10 := i95; unfold In at a10)); have oc := oc_356_109; omega
                    have n205a : WK s (x1).toInt (mq s (x1).toInt sc50) sc58 (y58_2).toInt (y58_3).toNatClampNeg := by exact g58_0
                    have n205b : (s.1 112 (z70).toNatClampNeg).toInt ≠ 0 := by rw [← hFc58.1 112 rfl, ← e79]; exact c80
                    have n205c : (y58_2).toInt = 0 → FWQ s sc58 (y58_3).toNatClampNeg := by exact fun _ => fwq_i hI q_0 (by (first | have a0 := in_u h1 | (have a0 := h1; unfold In at a0)); (first | have a1 := in_u ro_109_20 | (have a1 := ro_109_20; unfold In at a1)); (first | have a2 := in_u ro_109_19 | (have a2 := ro_109_19; unfold In at a2)); (first | have a3 := in_u i62 | (have a3 := i62; unfold In at a3)); (first | have a4 := in_u j58_2 | (have a4 := j58_2; unfold In at a4)); (first | have a5 := in_u i70 | (have a5 := i70; unfold In at a5)); have a6 := t_add e70 ro_109_19 i62 rfl; have a7 := tx_i2l e139; (first | have a8 := in_u i138 | (have a8 := i138; unfold In at a8)); have a9 := tx_i2l e96; (first | have a10 := in_u i95 | (have a10 := i95; unfold In at a10)); have oc := oc_356_109; omega) ⟨hFc58.1 112 rfl, hFc58.1 113 rfl, hFc58.1 114 rfl, hFc58.1 115 rfl, hFc58.1 116 rfl, hFc58.2.1 147 rfl, hFc58.2.2.1 109 19 rfl, hFc58.2.2.1 109 20 rfl⟩ g58_0.1 i62 (bs_x e_109_19 (by (first | have a0 := in_u h1 | (have a0 := h1; unfold In at a0)); (first | have a1 := in_u ro_109_20 | (have a1 := ro_109_20; unfold In at a1)); (first | have a2 := in_u ro_109_19 | (have a2 := ro_109_19; unfold In at a2)); (first | have a3 := in_u i62 | (have a3 := i62; unfold In at a3)); (first | have a4 := in_u j58_2 | (have a4 := j58_2; unfold In at a4)); (first | have a5 := in_u i70 | (have a5 := i70; unfold In at a5)); have a6 := t_add e70 ro_109_19 i62 rfl; have a7 := tx_i2l e139; (first | have a8 := in_u i138 | (have a8 := i138; unfold In at a8)); have a9 := tx_i2l e96; (first | have a10 := in_u i95 | (have a10 := i95; unfold In at a10)); have oc := oc_356_109; omega) (by (first | have a0 := in_u h1 | (have a0 := h1; unfold In at a0)); (first | have a1 := in_u ro_109_20 | (have a1 := ro_109_20; unfold In at a1)); (first | have a2 := in_u ro_109_19 | (have a2 := ro_109_19; unfold In at a2)); (first | have a3 := in_u i62 | (have a3 := i62; unfold In at a3)); (first | have a4 := in_u j58_2 | (have a4 := j58_2; unfold In at a4)); (first | have a5 := in_u i70 | (have a5 := i70; unfold In at a5)); have a6 := t_add e70 ro_109_19 i62 rfl; have a7 := tx_i2l e139; (first | have a8 := in_u i138 | (have a8 := i138; unfold In at a8)); have a9 := tx_i2l e96; (first | have a10 := in_u i95 | (have a10 := i95; unfold In at a10)); have oc := oc_356_109; omega) (by (first | have a0 := in_u h1 | (have a0 := h1; unfold In at a0)); (first | have a1 := in_u ro_109_20 | (have a1 := ro_109_20; unfold In at a1)); (first | have a2 := in_u ro_109_19 | (have a2 := ro_109_19; unfold In at a2)); (first | have a3 := in_u i62 | (have a3 := i62; unfold In at a3)); (first | have a4 := in_u j58_2 | (have a4 := j58_2; unfold In at a4)); (first | have a5 := in_u i70 | (have a5 := i70; unfold In at a5)); have a6 := t_add e70 ro_109_19 i62 rfl; have a7 := tx_i2l e139; (first | have a8 := in_u i138 | (have a8 := i138; unfold In at a8)); have a9 := tx_i2l e96; (first | have a10 := in_u i95 | (have a10 := i95; unfold In at a10)); have oc := oc_356_109; omega)).symm (by rw [← hFc58.1 112 rfl, ← e79]; exact c80) e111 e151 e138 e131 (by rw [e131, ← e112]; have h := i117a.2; omega) e140 (tx_i2l e139) e152 c154a
                    exact gg_w (by first | exact Nat.le_add_right _ _ | exact gw2 | exact gw3 | exact gwe rfl | exact gwf rfl | exact gwg rfl | exact gwh rfl | omega) (gg_f (gf_cons rfl (gf_cons rfl (gf_cons rfl (gf_cons rfl (gf_cons rfl gf_nil))))) (ct205 sc58 y58_2 z70 hIc58 hFc58 (in_w 0 1 j58_2 rfl) (in_w 0 159 i62 rfl) (in_w 0 400 i70 rfl) n205 n205a n205b n205c))
                  · skip
                    have i154 := z_lt (-1) (-1) c154 i153 rfl
                    have c154a := lc_lt e153 c154
                    have i154a := lr_lt1 (-9223372036854775808) 9223372036854775806 c154a (l_rng z140) (l_rng z152) rfl
                    have i154b := lr_lt2 (-9223372036854775807) 9223372036854775807 c154a (l_rng z140) (l_rng z152) rfl
                    refine g_aload_n 158 (gd rfl) rfl rfl ?_
                    refine g_getA (q2 := 149) 161 (gd rfl) rfl rfl rfl rfl ?_
                    refine g_aload_n 162 (gd rfl) rfl rfl ?_
                    refine g_getA (q2 := 114) 165 (gd rfl) rfl rfl rfl rfl ?_
                    refine g_iload 167 (gd rfl) rfl rfl ?_
                    refine g_iaload 168 (gd rfl) rfl (n := 480) rfl (in_ix i70 rfl) (fun z167 e167 => ?_)
                    have q167 : z151 = z167 := (e151).trans e167.symm
                    subst q167
                    refine g_aload_n 169 (gd rfl) rfl rfl ?_
                    refine g_getA (q2 := 149) 172 (gd rfl) rfl rfl rfl rfl ?_
                    refine g_aload_n 173 (gd rfl) rfl rfl ?_
                    refine g_getA (q2 := 113) 176 (gd rfl) rfl rfl rfl rfl ?_
                    refine g_iload 178 (gd rfl) rfl rfl ?_
                    refine g_iaload 179 (gd rfl) rfl (n := 480) rfl (in_ix i70 rfl) (fun z178 e178 => ?_)
                    have q178 : z111 = z178 := (e111).trans e178.symm
                    subst q178
                    refine g_laload 180 (gd rfl) rfl (n := 34) rfl (in_ix i111 rfl) (fun z179 e179 => ?_)
                    refine g_aload_n 181 (gd rfl) rfl rfl ?_
                    refine g_getA (q2 := 115) 184 (gd rfl) rfl rfl rfl rfl ?_
                    refine g_iload 186 (gd rfl) rfl rfl ?_
                    refine g_iaload 187 (gd rfl) rfl (n := 480) rfl (in_ix i70 rfl) (fun z186 e186 => ?_)
                    have q186 : z138 = z186 := (e138).trans e186.symm
                    subst q186
                    refine g_i2l 188 (gd rfl) rfl (fun z187 e187 => ?_)
                    have i187 := l_i e187 i138
                    refine g_ladd 189 (gd rfl) rfl (fun z188 e188 => ?_)
                    refine g_lastore 190 (gd rfl) rfl (n := 34) rfl (in_ix i151 rfl) ?_
                    have hI189 := inv_sL (q := 149) (j := z151.toNatClampNeg) (x := z188) hIc58 rfl (l_rng z188)
                    refine g_aload_n 191 (gd rfl) rfl rfl ?_
                    refine g_getA (q2 := 148) 194 (gd rfl) rfl rfl rfl rfl ?_
                    refine g_aload_n 195 (gd rfl) rfl rfl ?_
                    refine g_getA (q2 := 114) 198 (gd rfl) rfl rfl rfl rfl ?_
                    refine g_iload 200 (gd rfl) rfl rfl ?_
                    refine g_iaload 201 (gd rfl) rfl (n := 480) rfl (in_ix i70 rfl) (fun z200 e200 => ?_)
                    have q200 : z151 = z200 := (sL_I (e151)).trans e200.symm
                    subst q200
                    refine g_iload_n 202 (gd rfl) rfl rfl ?_
                    refine g_iastore 203 (gd rfl) rfl (n := 34) rfl (in_ix i151 rfl) ?_
                    have hI202 := inv_sI (q := 148) (j := z151.toNatClampNeg) hI189 rfl (in_w (-1) 1000 i62 rfl)
                    refine g_iconst 1 204 (gd rfl) rfl rfl ?_
                    refine g_istore_n 205 (gd rfl) rfl (Nat.le_of_ble_eq_true rfl) ?_
                    have n205 : (z70).toInt = (u_109_19).toInt + (y58_3).toInt := by (first | have a0 := in_u h1 | (have a0 := h1; unfold In at a0)); (first | have a1 := in_u ro_109_20 | (have a1 := ro_109_20; unfold In at a1)); (first | have a2 := in_u ro_109_19 | (have a2 := ro_109_19; unfold In at a2)); (first | have a3 := in_u i62 | (have a3 := i62; unfold In at a3)); (first | have a4 := in_u j58_2 | (have a4 := j58_2; unfold In at a4)); (first | have a5 := in_u i70 | (have a5 := i70; unfold In at a5)); have a6 := t_add e70 ro_109_19 i62 rfl; (first | have a7 := in_u ((in_c 1 rfl)) | (have a7 := (in_c 1 rfl); unfold In at a7)); have a8 := tx_i2l e187; (first | have a9 := in_u i138 | (have a9 := i138; unfold In at a9)); have a10 := tx_i2l e139; have a11 := tx_i2l e96; (first | have a12 := in_u i95 | (have a12 := i95; unfold In at a12)); have oc := oc_356_109; omega
                    have n205a : WK s (x1).toInt (mq s (x1).toInt sc50) (sI (sL sc58 149 z151.toNatClampNeg z188) 148 z151.toNatClampNeg y58_3) ((Int32.ofInt 1)).toInt (y58_3).toNatClampNeg := by exact (wk_ch g58_0 (ci_fw hI q_0 (by have a0 := h1; unfold In at a0; (first | have a1 := in_u ro_109_20 | (have a1 := ro_109_20; unfold In at a1)); (first | have a2 := in_u ro_109_19 | (have a2 := ro_109_19; unfold In at a2)); (first | have a3 := in_u i62 | (have a3 := i62; unfold In at a3)); (first | have a4 := in_u j58_2 | (have a4 := j58_2; unfold In at a4)); (first | have a5 := in_u i70 | (have a5 := i70; unfold In at a5)); have a6 := t_add e70 ro_109_19 i62 rfl; (first | have a7 := in_u ((in_c 1 rfl)) | (have a7 := (in_c 1 rfl); unfold In at a7)); have a8 := tx_i2l e187; (first | have a9 := in_u i138 | (have a9 := i138; unfold In at a9)); have a10 := tx_i2l e139; have a11 := tx_i2l e96; (first | have a12 := in_u i95 | (have a12 := i95; unfold In at a12)); have oc := oc_356_109; omega) (by have a0 := h1; unfold In at a0; (first | have a1 := in_u ro_109_20 | (have a1 := ro_109_20; unfold In at a1)); (first | have a2 := in_u ro_109_19 | (have a2 := ro_109_19; unfold In at a2)); (first | have a3 := in_u i62 | (have a3 := i62; unfold In at a3)); (first | have a4 := in_u j58_2 | (have a4 := j58_2; unfold In at a4)); (first | have a5 := in_u i70 | (have a5 := i70; unfold In at a5)); have a6 := t_add e70 ro_109_19 i62 rfl; (first | have a7 := in_u ((in_c 1 rfl)) | (have a7 := (in_c 1 rfl); unfold In at a7)); have a8 := tx_i2l e187; (first | have a9 := in_u i138 | (have a9 := i138; unfold In at a9)); have a10 := tx_i2l e139; have a11 := tx_i2l e96; (first | have a12 := in_u i95 | (have a12 := i95; unfold In at a12)); have oc := oc_356_109; omega) ⟨hFc58.1 112 rfl, hFc58.1 113 rfl, hFc58.1 114 rfl, hFc58.1 115 rfl, hFc58.1 116 rfl, hFc58.2.1 147 rfl, hFc58.2.2.1 109 19 rfl, hFc58.2.2.1 109 20 rfl⟩ g58_0.1 i62 (bs_x e_109_19 (by have a0 := h1; unfold In at a0; (first | have a1 := in_u ro_109_20 | (have a1 := ro_109_20; unfold In at a1)); (first | have a2 := in_u ro_109_19 | (have a2 := ro_109_19; unfold In at a2)); (first | have a3 := in_u i62 | (have a3 := i62; unfold In at a3)); (first | have a4 := in_u j58_2 | (have a4 := j58_2; unfold In at a4)); (first | have a5 := in_u i70 | (have a5 := i70; unfold In at a5)); have a6 := t_add e70 ro_109_19 i62 rfl; (first | have a7 := in_u ((in_c 1 rfl)) | (have a7 := (in_c 1 rfl); unfold In at a7)); have a8 := tx_i2l e187; (first | have a9 := in_u i138 | (have a9 := i138; unfold In at a9)); have a10 := tx_i2l e139; have a11 := tx_i2l e96; (first | have a12 := in_u i95 | (have a12 := i95; unfold In at a12)); have oc := oc_356_109; omega) (by have a0 := h1; unfold In at a0; (first | have a1 := in_u ro_109_20 | (have a1 := ro_109_20; unfold In at a1)); (first | have a2 := in_u ro_109_19 | (have a2 := ro_109_19; unfold In at a2)); (first | have a3 := in_u i62 | (have a3 := i62; unfold In at a3)); (first | have a4 := in_u j58_2 | (have a4 := j58_2; unfold In at a4)); (first | have a5 := in_u i70 | (have a5 := i70; unfold In at a5)); have a6 := t_add e70 ro_109_19 i62 rfl; (first | have a7 := in_u ((in_c 1 rfl)) | (have a7 := (in_c 1 rfl); unfold In at a7)); have a8 := tx_i2l e187; (first | have a9 := in_u i138 | (have a9 := i138; unfold In at a9)); have a10 := tx_i2l e139; have a11 := tx_i2l e96; (first | have a12 := in_u i95 | (have a12 := i95; unfold In at a12)); have oc := oc_356_109; omega) (by have a0 := h1; unfold In at a0; (first | have a1 := in_u ro_109_20 | (have a1 := ro_109_20; unfold In at a1)); (first | have a2 := in_u ro_109_19 | (have a2 := ro_109_19; unfold In at a2)); (first | have a3 := in_u i62 | (have a3 := i62; unfold In at a3)); (first | have a4 := in_u j58_2 | (have a4 := j58_2; unfold In at a4)); (first | have a5 := in_u i70 | (have a5 := i70; unfold In at a5)); have a6 := t_add e70 ro_109_19 i62 rfl; (first | have a7 := in_u ((in_c 1 rfl)) | (have a7 := (in_c 1 rfl); unfold In at a7)); have a8 := tx_i2l e187; (first | have a9 := in_u i138 | (have a9 := i138; unfold In at a9)); have a10 := tx_i2l e139; have a11 := tx_i2l e96; (first | have a12 := in_u i95 | (have a12 := i95; unfold In at a12)); have oc := oc_356_109; omega)).symm (by rw [← hFc58.1 112 rfl, ← e79]; exact c80) (by rw [← e88, ← e95]; have h1 := tx_i2l e96; have h2 := c98a; omega) e111 e151 e138 e179 (by rw [e179, ← e112]; have h := i117a.2; omega) e188 (tx_i2l e187) (by rw [show z188 = z140 from (by rw [e188, e140, e179, e131, e187, e139]), ← e152]; exact c154a)) _)
                    have n205b : (s.1 112 (z70).toNatClampNeg).toInt ≠ 0 := by rw [← hFc58.1 112 rfl, ← e79]; exact c80
                    have n205c : ((Int32.ofInt 1)).toInt = 0 → FWQ s (sI (sL sc58 149 z151.toNatClampNeg z188) 148 z151.toNatClampNeg y58_3) (y58_3).toNatClampNeg := by (intro hz; exfalso; have h1 : (Int32.ofInt 1).toInt = 1 := rfl; omega)
                    exact gg_w (by first | exact Nat.le_add_right _ _ | exact gw2 | exact gw3 | exact gwe rfl | exact gwf rfl | exact gwg rfl | exact gwh rfl | omega) (gg_f (gf_cons rfl (gf_cons rfl (gf_cons rfl (gf_cons rfl (gf_cons rfl gf_nil))))) (ct205 (sI (sL sc58 149 z151.toNatClampNeg z188) 148 z151.toNatClampNeg y58_3) (Int32.ofInt 1) z70 hI202 (fr_sI rfl (fr_sL rfl hFc58)) (in_w 0 1 (in_c 1 rfl) rfl) (in_w 0 159 i62 rfl) (in_w 0 400 i70 rfl) n205 n205a n205b n205c))
      refine g_iload_n 51 (gd rfl) rfl rfl ?_
      refine g_if_eq 54 333 (gd rfl) rfl rfl (fun c51 => ?_) (fun c51 => ?_)
      · skip
        have i51 := z_eq 0 0 c51 j50_2 rfl
        have n333 : CHE sc50 (x1).toInt := by exact che_e hI q_0 (by (first | have a0 := in_u h1 | (have a0 := h1; unfold In at a0)); (first | have a1 := in_u ro_109_20 | (have a1 := ro_109_20; unfold In at a1)); (first | have a2 := in_u ro_109_19 | (have a2 := ro_109_19; unfold In at a2)); (first | have a3 := in_u i51 | (have a3 := i51; unfold In at a3)); have oc := oc_356_109; omega) (by (first | have a0 := in_u h1 | (have a0 := h1; unfold In at a0)); (first | have a1 := in_u ro_109_20 | (have a1 := ro_109_20; unfold In at a1)); (first | have a2 := in_u ro_109_19 | (have a2 := ro_109_19; unfold In at a2)); (first | have a3 := in_u i51 | (have a3 := i51; unfold In at a3)); have oc := oc_356_109; omega) ⟨hFc50.1 112 rfl, hFc50.1 113 rfl, hFc50.1 114 rfl, hFc50.1 115 rfl, hFc50.1 116 rfl, hFc50.2.1 147 rfl, hFc50.2.2.1 109 19 rfl, hFc50.2.2.1 109 20 rfl⟩ ⟨g50_0, Nat.le_refl _, fun z => absurd rfl z, fun _ => g50_1 c51⟩
        have n333a : RCL s sc50 (x1).toNatClampNeg := by exact (show RCL s _ (x1).toInt.toNat from rcl_i hI q_0 (by (first | have a0 := in_u h1 | (have a0 := h1; unfold In at a0)); (first | have a1 := in_u ro_109_20 | (have a1 := ro_109_20; unfold In at a1)); (first | have a2 := in_u ro_109_19 | (have a2 := ro_109_19; unfold In at a2)); (first | have a3 := in_u i51 | (have a3 := i51; unfold In at a3)); have oc := oc_356_109; omega) (by (first | have a0 := in_u h1 | (have a0 := h1; unfold In at a0)); (first | have a1 := in_u ro_109_20 | (have a1 := ro_109_20; unfold In at a1)); (first | have a2 := in_u ro_109_19 | (have a2 := ro_109_19; unfold In at a2)); (first | have a3 := in_u i51 | (have a3 := i51; unfold In at a3)); have oc := oc_356_109; omega) q_1 ⟨hFc50.1 112 rfl, hFc50.1 113 rfl, hFc50.1 114 rfl, hFc50.1 115 rfl, hFc50.1 116 rfl, hFc50.2.1 147 rfl, hFc50.2.2.1 109 19 rfl, hFc50.2.2.1 109 20 rfl⟩ g50_0 (g50_1 c51))
        exact g_return (gd rfl) rfl (hP _ _ ⟨sc50, hIc50, hFc50, rfl, rfl, n333, n333a⟩)
      · skip
        have i51 := z_ne 1 1 c51 j50_2 rfl
        refine g_iconst 0 55 (gd rfl) rfl rfl ?_
        refine g_istore_n 56 (gd rfl) rfl (Nat.le_of_ble_eq_true rfl) ?_
        refine g_iconst 0 57 (gd rfl) rfl rfl ?_
        refine g_istore_n 58 (gd rfl) rfl (Nat.le_of_ble_eq_true rfl) ?_
        have n58 : WK s (x1).toInt (mq s (x1).toInt sc50) sc50 ((Int32.ofInt 0)).toInt ((Int32.ofInt 0)).toNatClampNeg := by first | exact wk_0 g50_0 | (rw [show (z324).toNatClampNeg = y58_3.toNatClampNeg + 1 from (by show z324.toInt.toNat = y58_3.toInt.toNat + 1; (first | have a0 := in_u h1 | (have a0 := h1; unfold In at a0)); (first | have a1 := in_u ro_109_20 | (have a1 := ro_109_20; unfold In at a1)); (first | have a2 := in_u ro_109_19 | (have a2 := ro_109_19; unfold In at a2)); (first | have a3 := in_u i51 | (have a3 := i51; unfold In at a3)); (first | have a4 := in_u ((in_c 0 rfl)) | (have a4 := (in_c 0 rfl); unfold In at a4)); have oc := oc_356_109; omega)]; exact g324_0)
        have n58a : y50_2.toInt = 1 := by first | exact g58_1 | (have hj := j50_2; unfold In at hj; have hc := c51; omega)
        exact gg_w (by first | exact Nat.le_add_right _ _ | exact gw2 | exact gw3 | exact gwe rfl | exact gwf rfl | exact gwg rfl | exact gwh rfl | omega) (gg_f (gf_cons rfl (gf_cons rfl (gf_cons rfl (gf_cons rfl gf_nil)))) (ct58 161 sc50 (Int32.ofInt 0) (Int32.ofInt 0) hIc50 hFc50 (in_w 0 1 (in_c 0 rfl) rfl) (in_w 0 160 (in_c 0 rfl) rfl) n58 n58a (m_in 161 (in_w 0 160 (in_c 0 rfl) rfl) rfl)))
  have ct2 : ∀ (k2 : Nat) (sc2 : GS) (y2_2 : Int32), Inv sc2 → Fr fm_356 s sc2 → (In y2_2 0 32) → (∀ k : Nat, (k : Int) < (y2_2).toInt → (sc2.1 148 k).toInt < 0 ∧ (sc2.2.1 149 k).toInt = 9000000000000000) → 32 - (y2_2).toInt < (k2 : Int) → GG Z (d - 1) 356 post (gx xp) (2812960000879052 + k2 * 900) 2 (fun j => xlook j [(0, .ref (A 109)), (1, .int x1), (2, .int y2_2)]) [] (WW Z A sc2 ++ ex) 0 0 := by
    intro k2
    induction k2 with
    | zero => intro sc2 y2_2 hIc2 hFc2 j2_2 g2_0 mm2; exact m_no mm2 j2_2 rfl
    | succ k2 ih2 =>
      intro sc2 y2_2 hIc2 hFc2 j2_2 g2_0 mm2
      refine gg_w (M := 2812960000879052 + k2 * 900 + 900) gws ?_
      refine g_iload_n 3 (gd rfl) rfl rfl ?_
      refine g_aload_n 4 (gd rfl) rfl rfl ?_
      refine g_getI 7 (gd rfl) rfl rfl rfl (fun z4 e4 => ?_)
      have q4 : u_109_20 = z4 := (fr_F e_109_20 hFc2 rfl).trans e4.symm
      subst q4
      refine g_cmp_ge 10 32 (gd rfl) rfl rfl (fun c7 => ?_) (fun c7 => ?_)
      · skip
        refine g_aload_n 33 (gd rfl) rfl rfl ?_
        refine g_getA (q2 := 149) 36 (gd rfl) rfl rfl rfl rfl ?_
        refine g_iload_n 37 (gd rfl) rfl rfl ?_
        refine g_lconst 0 38 (gd rfl) rfl rfl ?_
        refine g_lastore 39 (gd rfl) rfl (n := 34) rfl (in_ix h1 rfl) ?_
        have hI38 := inv_sL (q := 149) (j := x1.toNatClampNeg) (x := (Int64.ofInt 0)) hIc2 rfl (l_rng (Int64.ofInt 0))
        refine g_aload_n 40 (gd rfl) rfl rfl ?_
        refine g_getA (q2 := 148) 43 (gd rfl) rfl rfl rfl rfl ?_
        refine g_iload_n 44 (gd rfl) rfl rfl ?_
        refine g_sipush 1000 47 (gd rfl) rfl rfl ?_
        refine g_iastore 48 (gd rfl) rfl (n := 34) rfl (in_ix h1 rfl) ?_
        have hI47 := inv_sI (q := 148) (j := x1.toNatClampNeg) hI38 rfl (in_w (-1) 1000 (in_c 1000 rfl) rfl)
        refine g_iconst 1 49 (gd rfl) rfl rfl ?_
        refine g_istore_n 50 (gd rfl) rfl (Nat.le_of_ble_eq_true rfl) ?_
        have n50 : CI s (x1).toInt (sI (sL sc2 149 x1.toNatClampNeg (Int64.ofInt 0)) 148 x1.toNatClampNeg (Int32.ofInt 1000)) := by first | exact g58_0.1 | exact ci_0 hI q_0 h1 q_1 ⟨hFc2.1 112 rfl, hFc2.1 113 rfl, hFc2.1 114 rfl, hFc2.1 115 rfl, hFc2.1 116 rfl, hFc2.2.1 147 rfl, hFc2.2.2.1 109 19 rfl, hFc2.2.2.1 109 20 rfl⟩ (fun k hk => g2_0 k (by rw [← e_109_20] at hk; (first | have a0 := in_u h1 | (have a0 := h1; unfold In at a0)); (first | have a1 := in_u ro_109_20 | (have a1 := ro_109_20; unfold In at a1)); (first | have a2 := in_u ro_109_19 | (have a2 := ro_109_19; unfold In at a2)); (first | have a3 := in_u j2_2 | (have a3 := j2_2; unfold In at a3)); (first | have a4 := in_u ((in_c 1 rfl)) | (have a4 := (in_c 1 rfl); unfold In at a4)); have oc := oc_356_109; omega))
        have n50a : ((Int32.ofInt 1)).toInt = 0 → CLQ s (sI (sL sc2 149 x1.toNatClampNeg (Int64.ofInt 0)) 148 x1.toNatClampNeg (Int32.ofInt 1000)) 160 := by first | (intro hz; exfalso; have h0 : (Int32.ofInt 1).toInt = 1 := rfl; omega) | (intro hz; have hc := g58_0.2.2.2 hz; rw [show y58_3.toNatClampNeg = 160 from (by show y58_3.toInt.toNat = 160; (first | have a0 := in_u h1 | (have a0 := h1; unfold In at a0)); (first | have a1 := in_u ro_109_20 | (have a1 := ro_109_20; unfold In at a1)); (first | have a2 := in_u ro_109_19 | (have a2 := ro_109_19; unfold In at a2)); (first | have a3 := in_u j2_2 | (have a3 := j2_2; unfold In at a3)); (first | have a4 := in_u ((in_c 1 rfl)) | (have a4 := (in_c 1 rfl); unfold In at a4)); have oc := oc_356_109; omega)] at hc; exact hc)
        have m50 : 2 * mq s (x1).toInt (sI (sL sc2 149 x1.toNatClampNeg (Int64.ofInt 0)) 148 x1.toNatClampNeg (Int32.ofInt 1000)) + ((Int32.ofInt 1)).toInt.toNat < 6400000002 := by have hm := ci_m n50; have h1 : (Int32.ofInt 1).toInt.toNat = 1 := rfl; omega
        exact gg_w (by first | exact Nat.le_add_right _ _ | exact gw2 | exact gw3 | exact gwe rfl | exact gwf rfl | exact gwg rfl | exact gwh rfl | omega) (gg_f (gf_cons rfl (gf_cons rfl (gf_cons rfl gf_nil))) (ct50 (6400000002) (sI (sL sc2 149 x1.toNatClampNeg (Int64.ofInt 0)) 148 x1.toNatClampNeg (Int32.ofInt 1000)) (Int32.ofInt 1) hI47 (fr_sI rfl (fr_sL rfl hFc2)) (in_w 0 1 (in_c 1 rfl) rfl) n50 n50a m50))
      · skip
        have i7 := r_lt1 0 31 c7 j2_2 ro_109_20 rfl
        have i7a := r_lt2 1 32 c7 j2_2 ro_109_20 rfl
        refine g_aload_n 11 (gd rfl) rfl rfl ?_
        refine g_getA (q2 := 149) 14 (gd rfl) rfl rfl rfl rfl ?_
        refine g_iload_n 15 (gd rfl) rfl rfl ?_
        refine g_ldc2_w 9000000000000000 18 (gd rfl) rfl rfl ?_
        refine g_lastore 19 (gd rfl) rfl (n := 34) rfl (in_ix i7 rfl) ?_
        have hI18 := inv_sL (q := 149) (j := y2_2.toNatClampNeg) (x := (Int64.ofInt 9000000000000000)) hIc2 rfl (l_rng (Int64.ofInt 9000000000000000))
        refine g_aload_n 20 (gd rfl) rfl rfl ?_
        refine g_getA (q2 := 148) 23 (gd rfl) rfl rfl rfl rfl ?_
        refine g_iload_n 24 (gd rfl) rfl rfl ?_
        refine g_iconst (-1) 25 (gd rfl) rfl rfl ?_
        refine g_iastore 26 (gd rfl) rfl (n := 34) rfl (in_ix i7 rfl) ?_
        have hI25 := inv_sI (q := 148) (j := y2_2.toNatClampNeg) hI18 rfl (in_w (-1) 1000 (in_c (-1) rfl) rfl)
        refine g_iinc 29 (gd rfl) rfl rfl (Nat.le_of_ble_eq_true rfl) (fun z26 e26 => ?_)
        have i26 := in_add 1 32 e26 i7 (in_c 1 rfl) rfl rfl
        refine g_goto 2 (gd rfl) rfl ?_
        have n2 : ∀ k : Nat, (k : Int) < (z26).toInt → ((sI (sL sc2 149 y2_2.toNatClampNeg (Int64.ofInt 9000000000000000)) 148 y2_2.toNatClampNeg (Int32.ofInt (-1))).1 148 k).toInt < 0 ∧ ((sI (sL sc2 149 y2_2.toNatClampNeg (Int64.ofInt 9000000000000000)) 148 y2_2.toNatClampNeg (Int32.ofInt (-1))).2.1 149 k).toInt = 9000000000000000 := by first | (intro k hk; exfalso; have h0 : (Int32.ofInt 0).toInt = 0 := rfl; omega) | (intro k hk; have e2 : y2_2.toNatClampNeg = y2_2.toInt.toNat := rfl; rw [sI_q, show ((sI (sL sc2 149 y2_2.toNatClampNeg (Int64.ofInt 9000000000000000)) 148 y2_2.toNatClampNeg (Int32.ofInt (-1)))).2.1 149 = vp_updL (sc2.2.1 149) y2_2.toNatClampNeg (Int64.ofInt 9000000000000000) from (by simp [sI, sL])]; by_cases c : k = y2_2.toNatClampNeg; (rw [c, ul_eq]; unfold upd; rw [if_pos rfl]; exact ⟨by decide, by have hl : InL (Int64.ofInt 9000000000000000) 9000000000000000 9000000000000000 := l_c 9000000000000000 rfl; exact Int.le_antisymm hl.2 hl.1⟩); (rw [ul_ne c]; unfold upd; rw [if_neg c]; exact g2_0 k (by (first | have a0 := in_u h1 | (have a0 := h1; unfold In at a0)); (first | have a1 := in_u i7a | (have a1 := i7a; unfold In at a1)); (first | have a2 := in_u ro_109_19 | (have a2 := ro_109_19; unfold In at a2)); (first | have a3 := in_u i7 | (have a3 := i7; unfold In at a3)); (first | have a4 := in_u i26 | (have a4 := i26; unfold In at a4)); have a5 := t_add e26 i7 (in_c 1 rfl) rfl; (first | have a6 := in_u ((in_c 1 rfl)) | (have a6 := (in_c 1 rfl); unfold In at a6)); have oc := oc_356_109; omega)))
        exact gg_w (by first | exact Nat.le_add_right _ _ | exact gw2 | exact gw3 | exact gwe rfl | exact gwf rfl | exact gwg rfl | exact gwh rfl | omega) (gg_f (gf_cons rfl (gf_cons rfl (gf_cons rfl gf_nil))) (ih2 (sI (sL sc2 149 y2_2.toNatClampNeg (Int64.ofInt 9000000000000000)) 148 y2_2.toNatClampNeg (Int32.ofInt (-1))) z26 hI25 (fr_sI rfl (fr_sL rfl hFc2)) (in_w 0 32 i26 rfl) n2 (m_up mm2 (t_add e26 i7 (in_c 1 rfl) rfl) (in_w 1 1 (in_c 1 rfl) rfl))))
  refine g_enter2 (k := 356) (N := 2812960000909652) (by first | exact dq1 hd rfl | exact dq0 hd rfl | exact dq2 hd rfl | exact dq3 hd rfl | omega) rfl (Nat.le_of_ble_eq_true rfl) ?_
  refine g_iconst 0 1 (gd rfl) rfl rfl ?_
  refine g_istore_n 2 (gd rfl) rfl (Nat.le_of_ble_eq_true rfl) ?_
  have n2 : ∀ k : Nat, (k : Int) < ((Int32.ofInt 0)).toInt → (s.1 148 k).toInt < 0 ∧ (s.2.1 149 k).toInt = 9000000000000000 := by first | (intro k hk; exfalso; have h0 : (Int32.ofInt 0).toInt = 0 := rfl; omega) | (intro k hk; have e2 : y2_2.toNatClampNeg = y2_2.toInt.toNat := rfl; rw [sI_q, show (s).2.1 149 = vp_updL (sc2.2.1 149) y2_2.toNatClampNeg (Int64.ofInt 9000000000000000) from (by simp [sI, sL])]; by_cases c : k = y2_2.toNatClampNeg; (rw [c, ul_eq]; unfold upd; rw [if_pos rfl]; exact ⟨by decide, by have hl : InL (Int64.ofInt 9000000000000000) 9000000000000000 9000000000000000 := l_c 9000000000000000 rfl; exact Int.le_antisymm hl.2 hl.1⟩); (rw [ul_ne c]; unfold upd; rw [if_neg c]; exact g2_0 k (by (first | have a0 := in_u ro_109_20 | (have a0 := ro_109_20; unfold In at a0)); (first | have a1 := in_u ro_109_19 | (have a1 := ro_109_19; unfold In at a1)); (first | have a2 := in_u h1 | (have a2 := h1; unfold In at a2)); (first | have a3 := in_u ((in_c 0 rfl)) | (have a3 := (in_c 0 rfl); unfold In at a3)); have oc := oc_356_109; omega)))
  exact gg_w (by first | exact Nat.le_of_ble_eq_true rfl | omega) (gg_f (gf_cons rfl (gf_cons rfl (gf_cons rfl gf_nil))) (ct2 33 s (Int32.ofInt 0) hI fr_rf (in_w 0 32 (in_c 0 rfl) rfl) n2 (m_in 33 (in_w 0 32 (in_c 0 rfl) rfl) rfl)))

theorem oc_358_109 : (Int32.ofInt (-1)).toInt = (-1) ∧ (Int32.ofInt 0).toInt = 0 ∧ (Int32.ofInt 1).toInt = 1 ∧ (Int64.ofInt 0).toInt = 0 ∧ (Int64.ofInt 9000000000000000).toInt = 9000000000000000 := ⟨rfl, rfl, rfl, rfl, rfl⟩
/-- GraphHouseModel.sends -/
theorem f_358 {Z : AmZ} {A : Nat → Nat} {s : GS} {ex : va_W} {d : Nat} {X : AmX} {x1 : Int32} (hd : 2 ≤ d) (hI : Inv s) (h1 : In x1 0 31) (q_0 : CO s) (q_1 : SU s) (q_2 : (x1).toInt < (s.2.2.1 109 20).toInt ∧ 0 < (s.2.1 150 (x1).toNatClampNeg).toInt) : GC Z d 358 [.ref (A 109), .int x1] (WW Z A s ++ ex) 0 0 (fun v u => ∃ t : GS, Inv t ∧ Fr fm_358 s t ∧ ∃ z : Int32, v = some (.int z) ∧ u = WW Z A t ++ ex ∧ In z 0 1 ∧ (CO t) ∧ (SU t) ∧ (((z).toInt ≠ 0 → (t.2.1 150 (x1).toNatClampNeg).toInt < (s.2.1 150 (x1).toNatClampNeg).toInt ∧ 0 ≤ (t.2.1 150 (x1).toNatClampNeg).toInt) ∧ ((z).toInt = 0 → t.2.1 150 = s.2.1 150)) ∧ ((z).toInt ≠ 0 → SNE s t (x1).toNatClampNeg) ∧ ((z).toInt = 0 → INF s (x1).toNatClampNeg ∧ (t).2.1 147 = s.2.1 147)) X := by
  intro post xp hP hX
  obtain ⟨u_109_20, e_109_20⟩ : ∃ w, w = s.2.2.1 109 20 := ⟨_, rfl⟩
  have ro_109_20 := inv_F hI 0 32 rfl e_109_20
  have ct158 : ∀ (k158 : Nat) (sc158 : GS) (y158_2 : Int32) (y158_3 : Int64) (y158_5 : Int32), Inv sc158 → Fr fm_358 s sc158 → (In y158_2 0 31) → (In y158_5 0 31) → (PL sc158 (x1).toInt (y158_3).toInt (y158_2).toNatClampNeg (y158_5).toNatClampNeg) → (sc158.2.1 150 = s.2.1 150) → (MO s (x1).toNatClampNeg (y158_2).toNatClampNeg (y158_3).toInt) → ((((y158_2).toNatClampNeg : Nat) : Int) ≠ (x1).toInt) → ((y158_2).toInt < (s.2.2.1 109 20).toInt) → (∀ w, ZD s ((sc158).2.1 147) w = ZD s (s.2.1 147) w + (y158_3).toInt * dl (y158_2).toNatClampNeg w - (y158_3).toInt * dl (y158_5).toNatClampNeg w) → rkb sc158.1 sc158.2.2.1 (x1).toInt (y158_5).toNatClampNeg < k158 → GG Z (d - 1) 358 post (gx xp) (1 + k158 * 900) 158 (fun j => xlook j [(0, .ref (A 109)), (1, .int x1), (2, .int y158_2), (3, .long y158_3), (5, .int y158_5)]) [] (WW Z A sc158 ++ ex) 0 0 := by
    intro k158
    induction k158 with
    | zero => intro sc158 y158_2 y158_3 y158_5 hIc158 hFc158 j158_2 j158_5 g158_0 g158_1 g158_2 g158_3 g158_4 g158_5 mm158; exact absurd mm158 (Nat.not_lt_zero _)
    | succ k158 ih158 =>
      intro sc158 y158_2 y158_3 y158_5 hIc158 hFc158 j158_2 j158_5 g158_0 g158_1 g158_2 g158_3 g158_4 g158_5 mm158
      refine gg_w (M := 1 + k158 * 900 + 900) gws ?_
      refine g_iload 160 (gd rfl) rfl rfl ?_
      refine g_iload_n 161 (gd rfl) rfl rfl ?_
      refine g_cmp_eq 164 186 (gd rfl) rfl rfl (fun c161 => ?_) (fun c161 => ?_)
      · skip
        refine g_aload_n 187 (gd rfl) rfl rfl ?_
        refine g_getA (q2 := 150) 190 (gd rfl) rfl rfl rfl rfl ?_
        refine g_iload_n 191 (gd rfl) rfl rfl ?_
        refine g_dup2 192 (gd rfl) rfl rfl rfl ?_
        refine g_laload 193 (gd rfl) rfl (n := 32) rfl (in_ix h1 rfl) (fun z192 e192 => ?_)
        refine g_lload_n 194 (gd rfl) rfl rfl ?_
        refine g_lsub 195 (gd rfl) rfl (fun z194 e194 => ?_)
        refine g_lastore 196 (gd rfl) rfl (n := 32) rfl (in_ix h1 rfl) ?_
        have hI195 := inv_sL (q := 150) (j := x1.toNatClampNeg) (x := z194) hIc158 rfl (l_rng z194)
        refine g_aload_n 197 (gd rfl) rfl rfl ?_
        refine g_getA (q2 := 150) 200 (gd rfl) rfl rfl rfl rfl ?_
        refine g_iload_n 201 (gd rfl) rfl rfl ?_
        refine g_dup2 202 (gd rfl) rfl rfl rfl ?_
        refine g_laload 203 (gd rfl) rfl (n := 32) rfl (in_ix j158_2 rfl) (fun z202 e202 => ?_)
        refine g_lload_n 204 (gd rfl) rfl rfl ?_
        refine g_ladd 205 (gd rfl) rfl (fun z204 e204 => ?_)
        refine g_lastore 206 (gd rfl) rfl (n := 32) rfl (in_ix j158_2 rfl) ?_
        have hI205 := inv_sL (q := 150) (j := y158_2.toNatClampNeg) (x := z204) hI195 rfl (l_rng z204)
        refine g_iconst 1 207 (gd rfl) rfl rfl ?_
        have n207 : CO (sL (sL sc158 150 x1.toNatClampNeg z194) 150 y158_2.toNatClampNeg z204) := by first | exact g9_1 | exact co_cg (pl_e g158_0 (by show ((y158_5.toInt.toNat : Nat) : Int) = _; (first | have a0 := in_u h1 | (have a0 := h1; unfold In at a0)); (first | have a1 := in_u ro_109_20 | (have a1 := ro_109_20; unfold In at a1)); (first | have a2 := in_u j158_5 | (have a2 := j158_5; unfold In at a2)); (first | have a3 := in_u j158_2 | (have a3 := j158_2; unfold In at a3)); have oc := oc_358_109; omega)) ⟨rfl, rfl, rfl, rfl, rfl, by simp [sL], rfl, rfl⟩
        have n207a : SU (sL (sL sc158 150 x1.toNatClampNeg z194) 150 y158_2.toNatClampNeg z204) := by first | (intro v hv hvn; rw [g9_2]; rw [hFc9.2.2.1 109 20 rfl] at hvn; exact q_1 v hv hvn) | exact (su_t (T := (sL (sL sc158 150 x1.toNatClampNeg z194) 150 y158_2.toNatClampNeg z204)) (m := y158_3) q_1 (nat_in h1 q_2.1).1 (nat_in h1 q_2.1).2 (nat_in j158_2 g158_4).1 (nat_in j158_2 g158_4).2 (fun e => g158_3 (by rw [e]; show ((x1.toInt.toNat : Nat) : Int) = _; (first | have a0 := in_u h1 | (have a0 := h1; unfold In at a0)); (first | have a1 := in_u ro_109_20 | (have a1 := ro_109_20; unfold In at a1)); (first | have a2 := in_u j158_5 | (have a2 := j158_5; unfold In at a2)); (first | have a3 := in_u j158_2 | (have a3 := j158_2; unfold In at a3)); have oc := oc_358_109; omega)) g158_2 (by rw [← g158_1]; exact e192) e194 (by rw [e202, show (sL sc158 150 x1.toNatClampNeg z194).2.1 150 = vp_updL (sc158.2.1 150) x1.toNatClampNeg z194 from (by simp [sL]), g158_1]) e204 (by rw [show ((sL (sL sc158 150 x1.toNatClampNeg z194) 150 y158_2.toNatClampNeg z204)).2.1 150 = vp_updL (vp_updL (sc158.2.1 150) x1.toNatClampNeg z194) y158_2.toNatClampNeg z204 from (by simp [sL]), g158_1]) (hFc158.2.2.1 109 20 rfl)).1
        have n207b : (((Int32.ofInt 1)).toInt ≠ 0 → ((sL (sL sc158 150 x1.toNatClampNeg z194) 150 y158_2.toNatClampNeg z204).2.1 150 (x1).toNatClampNeg).toInt < (s.2.1 150 (x1).toNatClampNeg).toInt ∧ 0 ≤ ((sL (sL sc158 150 x1.toNatClampNeg z194) 150 y158_2.toNatClampNeg z204).2.1 150 (x1).toNatClampNeg).toInt) ∧ (((Int32.ofInt 1)).toInt = 0 → (sL (sL sc158 150 x1.toNatClampNeg z194) 150 y158_2.toNatClampNeg z204).2.1 150 = s.2.1 150) := by first | exact ⟨fun hz => absurd (by decide) hz, fun _ => g9_2⟩ | exact ⟨fun _ => (su_t (T := (sL (sL sc158 150 x1.toNatClampNeg z194) 150 y158_2.toNatClampNeg z204)) (m := y158_3) q_1 (nat_in h1 q_2.1).1 (nat_in h1 q_2.1).2 (nat_in j158_2 g158_4).1 (nat_in j158_2 g158_4).2 (fun e => g158_3 (by rw [e]; show ((x1.toInt.toNat : Nat) : Int) = _; (first | have a0 := in_u h1 | (have a0 := h1; unfold In at a0)); (first | have a1 := in_u ro_109_20 | (have a1 := ro_109_20; unfold In at a1)); (first | have a2 := in_u j158_5 | (have a2 := j158_5; unfold In at a2)); (first | have a3 := in_u j158_2 | (have a3 := j158_2; unfold In at a3)); have oc := oc_358_109; omega)) g158_2 (by rw [← g158_1]; exact e192) e194 (by rw [e202, show (sL sc158 150 x1.toNatClampNeg z194).2.1 150 = vp_updL (sc158.2.1 150) x1.toNatClampNeg z194 from (by simp [sL]), g158_1]) e204 (by rw [show ((sL (sL sc158 150 x1.toNatClampNeg z194) 150 y158_2.toNatClampNeg z204)).2.1 150 = vp_updL (vp_updL (sc158.2.1 150) x1.toNatClampNeg z194) y158_2.toNatClampNeg z204 from (by simp [sL]), g158_1]) (hFc158.2.2.1 109 20 rfl)).2, fun hz => absurd hz (by decide)⟩
        have n207c : ((Int32.ofInt 1)).toInt ≠ 0 → SNE s (sL (sL sc158 150 x1.toNatClampNeg z194) 150 y158_2.toNatClampNeg z204) (x1).toNatClampNeg := by intro _; exact sne_i q_1 h1 q_2.1 j158_2 g158_4 g158_3 g158_2 g158_1 e192 e194 e202 e204 rfl (fun w => by have d9 := g158_5 w; rw [(show (y158_5).toNatClampNeg = (x1).toNatClampNeg from (by show (y158_5).toInt.toNat = (x1).toInt.toNat; (first | have a0 := in_u h1 | (have a0 := h1; unfold In at a0)); (first | have a1 := in_u ro_109_20 | (have a1 := ro_109_20; unfold In at a1)); (first | have a2 := in_u j158_5 | (have a2 := j158_5; unfold In at a2)); (first | have a3 := in_u j158_2 | (have a3 := j158_2; unfold In at a3)); have oc := oc_358_109; omega))] at d9; exact d9)
        have n207d : ((Int32.ofInt 1)).toInt = 0 → INF s (x1).toNatClampNeg ∧ ((sL (sL sc158 150 x1.toNatClampNeg z194) 150 y158_2.toNatClampNeg z204)).2.1 147 = s.2.1 147 := by intro hz; exact absurd hz (by decide)
        exact g_ireturn (gd rfl) rfl (nb01 (in_w 0 1 (in_c 1 rfl) rfl)) (hP _ _ ⟨(sL (sL sc158 150 x1.toNatClampNeg z194) 150 y158_2.toNatClampNeg z204), hI205, (fr_sL rfl (fr_sL rfl hFc158)), (Int32.ofInt 1), rfl, rfl, in_w 0 1 (in_c 1 rfl) rfl, n207, n207a, n207b, n207c, n207d⟩)
      · skip
        have hx158 : ((y158_5.toNatClampNeg : Nat) : Int) ≠ x1.toInt := (by show ((y158_5.toInt.toNat : Nat) : Int) ≠ _; (first | have a0 := in_u h1 | (have a0 := h1; unfold In at a0)); (first | have a1 := in_u ro_109_20 | (have a1 := ro_109_20; unfold In at a1)); (first | have a2 := in_u j158_5 | (have a2 := j158_5; unfold In at a2)); (first | have a3 := in_u j158_2 | (have a3 := j158_2; unfold In at a3)); have oc := oc_358_109; omega)
        have hpi := pl_i g158_0 hx158
        refine g_aload_n 165 (gd rfl) rfl rfl ?_
        refine g_iload 167 (gd rfl) rfl rfl ?_
        have p167 : BE sc158 (y158_5).toNatClampNeg := by exact hpi.1
        refine g_callv (X := _) (As := [.int y158_5]) (r := []) (b := A 109) (q := 109) 170 (gd rfl) rfl rfl rfl rfl rfl (ww_o rfl) (Nat.le_of_ble_eq_true rfl) (Nat.zero_le _) (Nat.zero_le _) (k_349 (by first | exact dq1 hd rfl | exact dq0 hd rfl | exact dq2 hd rfl | exact dq3 hd rfl | omega) hIc158 (in_w 0 31 j158_5 rfl) p167) (fun e u h => h) (fun v u h => ?_)
        obtain ⟨z167, rfl, rfl, i167, p167a⟩ := h
        show GG _ _ _ _ _ _ _ _ [.int z167] _ _ _
        refine g_istore 172 (gd rfl) rfl (Nat.le_of_ble_eq_true rfl) ?_
        refine g_aload_n 173 (gd rfl) rfl rfl ?_
        refine g_iload 175 (gd rfl) rfl rfl ?_
        refine g_lload_n 176 (gd rfl) rfl rfl ?_
        have p176 : BE sc158 (y158_5).toNatClampNeg := by exact hpi.1
        refine g_callv (X := _) (As := [.int y158_5, .long y158_3]) (r := []) (b := A 109) (q := 109) 179 (gd rfl) rfl rfl rfl rfl rfl (ww_o rfl) (Nat.le_of_ble_eq_true rfl) (Nat.zero_le _) (Nat.zero_le _) (k_351 (by first | exact dq1 hd rfl | exact dq0 hd rfl | exact dq2 hd rfl | exact dq3 hd rfl | omega) hIc158 (in_w 0 31 j158_5 rfl) p176) (fun e u h => h) (fun v u h => ?_)
        obtain ⟨s176, hI176, hF176, rfl, rfl, p176a⟩ := h
        show GG _ _ _ _ _ _ _ _ [] _ _ _
        refine g_iload 181 (gd rfl) rfl rfl ?_
        refine g_istore 183 (gd rfl) rfl (Nat.le_of_ble_eq_true rfl) ?_
        refine g_goto 158 (gd rfl) rfl ?_
        have n158 : PL s176 (x1).toInt (y158_3).toInt (y158_2).toNatClampNeg (z167).toNatClampNeg := by first | exact pl_s g158_0 hx158 g158_2.1 (by have h := g158_2.2.2.2; omega) p176a p167a (funext fun q => hF176.1 q rfl) (funext fun q => funext fun k => hF176.2.2.1 q k rfl) | (obtain ⟨k, hk1, hk2⟩ := g116_4; exact pl_0 hI176 g116_0 g116_1.1 hk2 hk1 (by show ((y116_5.toInt.toNat : Nat) : Int) = _; (first | have a0 := in_u h1 | (have a0 := h1; unfold In at a0)); (first | have a1 := in_u ro_109_20 | (have a1 := ro_109_20; unfold In at a1)); (first | have a2 := in_u j158_5 | (have a2 := j158_5; unfold In at a2)); (first | have a3 := in_u j158_2 | (have a3 := j158_2; unfold In at a3)); (first | have a4 := in_u i167 | (have a4 := i167; unfold In at a4)); have oc := oc_358_109; omega) g116_3.2 g116_3.1)
        have n158a : s176.2.1 150 = s.2.1 150 := by first | exact (hF176.2.1 150 rfl).trans g158_1 | exact g116_2
        have n158b : MO s (x1).toNatClampNeg (y158_2).toNatClampNeg (y158_3).toInt := by first | exact g158_2 | exact g116_6
        have n158c : (((y158_2).toNatClampNeg : Nat) : Int) ≠ (x1).toInt := by first | exact g158_3 | exact g116_3.2
        have n158d : (y158_2).toInt < (s.2.2.1 109 20).toInt := by first | exact g158_4 | (first | exact g158_4 | (have h := g116_3.1.2.1; rw [hFc116.2.2.1 109 20 rfl] at h; have e : ((y116_2.toNatClampNeg : Nat) : Int) = y116_2.toInt := (by show ((y116_2.toInt.toNat : Nat) : Int) = _; (first | have a0 := in_u h1 | (have a0 := h1; unfold In at a0)); (first | have a1 := in_u ro_109_20 | (have a1 := ro_109_20; unfold In at a1)); (first | have a2 := in_u j158_5 | (have a2 := j158_5; unfold In at a2)); (first | have a3 := in_u j158_2 | (have a3 := j158_2; unfold In at a3)); (first | have a4 := in_u i167 | (have a4 := i167; unfold In at a4)); have oc := oc_358_109; omega); rw [← e]; exact h))
        have n158e : ∀ w, ZD s ((s176).2.1 147) w = ZD s (s.2.1 147) w + (y158_3).toInt * dl (y158_2).toNatClampNeg w - (y158_3).toInt * dl (z167).toNatClampNeg w := by intro w; have d9 := zd_pl g158_0 hx158 g158_2.1 (by have h := g158_2.2.2.2; omega) p176a w; rw [zsm_d (show ZSM s sc158 from ⟨hFc158.1 112 rfl, hFc158.1 113 rfl, hFc158.1 114 rfl, hFc158.1 115 rfl, hFc158.1 116 rfl, hFc158.2.2.1 109 19 rfl, hFc158.2.2.1 109 20 rfl⟩), zsm_d (show ZSM s sc158 from ⟨hFc158.1 112 rfl, hFc158.1 113 rfl, hFc158.1 114 rfl, hFc158.1 115 rfl, hFc158.1 116 rfl, hFc158.2.2.1 109 19 rfl, hFc158.2.2.1 109 20 rfl⟩)] at d9; rw [d9, g158_5 w, p167a]; omega
        have m158 : rkb s176.1 s176.2.2.1 (x1).toInt (z167).toNatClampNeg < k158 := by rw [p167a, show (s176).1 = sc158.1 from (funext fun q => hF176.1 q rfl), show (s176).2.2.1 = sc158.2.2.1 from (funext fun q => funext fun k => hF176.2.2.1 q k rfl)]; have hl := hpi.2; have hm := mm158; omega
        exact gg_w (by first | exact Nat.le_add_right _ _ | exact gw2 | exact gw3 | exact gwe rfl | exact gwf rfl | exact gwg rfl | exact gwh rfl | omega) (gg_f (gf_cons rfl (gf_cons rfl (gf_cons rfl (gf_cons rfl (gf_cons rfl gf_nil))))) (ih158  s176 y158_2 y158_3 z167 hI176 (fr_tr rfl hFc158 hF176) (in_w 0 31 j158_2 rfl) (in_w 0 31 i167 rfl) n158 n158a n158b n158c n158d n158e m158))
  have ct116 : ∀ (k116 : Nat) (sc116 : GS) (y116_2 : Int32) (y116_3 : Int64) (y116_5 : Int32), Inv sc116 → Fr fm_358 s sc116 → (In y116_2 0 31) → (In y116_5 0 31) → (CHE sc116 (x1).toInt) → (CO sc116) → (sc116.2.1 150 = s.2.1 150) → (ND sc116 (y116_2).toNatClampNeg ∧ (((y116_2).toNatClampNeg : Nat) : Int) ≠ (x1).toInt) → (∃ k, (y116_5).toNatClampNeg = it sc116 (y116_2).toNatClampNeg k ∧ WY sc116 (x1).toInt (y116_3).toInt (y116_2).toNatClampNeg k) → (ND sc116 (y116_5).toNatClampNeg) → (MO s (x1).toNatClampNeg (y116_2).toNatClampNeg (y116_3).toInt) → ((sc116).2.1 147 = s.2.1 147) → rkb sc116.1 sc116.2.2.1 (x1).toInt (y116_5).toNatClampNeg < k116 → GG Z (d - 1) 358 post (gx xp) (28802 + k116 * 900) 116 (fun j => xlook j [(0, .ref (A 109)), (1, .int x1), (2, .int y116_2), (3, .long y116_3), (5, .int y116_5)]) [] (WW Z A sc116 ++ ex) 0 0 := by
    intro k116
    induction k116 with
    | zero => intro sc116 y116_2 y116_3 y116_5 hIc116 hFc116 j116_2 j116_5 g116_0 g116_1 g116_2 g116_3 g116_4 g116_5 g116_6 g116_7 mm116; exact absurd mm116 (Nat.not_lt_zero _)
    | succ k116 ih116 =>
      intro sc116 y116_2 y116_3 y116_5 hIc116 hFc116 j116_2 j116_5 g116_0 g116_1 g116_2 g116_3 g116_4 g116_5 g116_6 g116_7 mm116
      refine gg_w (M := 28802 + k116 * 900 + 900) gws ?_
      refine g_iload 118 (gd rfl) rfl rfl ?_
      refine g_iload_n 119 (gd rfl) rfl rfl ?_
      refine g_cmp_eq 122 155 (gd rfl) rfl rfl (fun c119 => ?_) (fun c119 => ?_)
      · skip
        refine g_iload_n 156 (gd rfl) rfl rfl ?_
        refine g_istore 158 (gd rfl) rfl (Nat.le_of_ble_eq_true rfl) ?_
        have n158 : PL sc116 (x1).toInt (y116_3).toInt (y116_2).toNatClampNeg (y116_2).toNatClampNeg := by first | exact pl_s g158_0 hx158 g158_2.1 (by have h := g158_2.2.2.2; omega) p176a p167a (funext fun q => hF176.1 q rfl) (funext fun q => funext fun k => hF176.2.2.1 q k rfl) | (obtain ⟨k, hk1, hk2⟩ := g116_4; exact pl_0 hIc116 g116_0 g116_1.1 hk2 hk1 (by show ((y116_5.toInt.toNat : Nat) : Int) = _; (first | have a0 := in_u h1 | (have a0 := h1; unfold In at a0)); (first | have a1 := in_u ro_109_20 | (have a1 := ro_109_20; unfold In at a1)); (first | have a2 := in_u j116_5 | (have a2 := j116_5; unfold In at a2)); (first | have a3 := in_u j116_2 | (have a3 := j116_2; unfold In at a3)); have oc := oc_358_109; omega) g116_3.2 g116_3.1)
        have n158a : sc116.2.1 150 = s.2.1 150 := by first | exact (hF176.2.1 150 rfl).trans g158_1 | exact g116_2
        have n158b : MO s (x1).toNatClampNeg (y116_2).toNatClampNeg (y116_3).toInt := by first | exact g158_2 | exact g116_6
        have n158c : (((y116_2).toNatClampNeg : Nat) : Int) ≠ (x1).toInt := by first | exact g158_3 | exact g116_3.2
        have n158d : (y116_2).toInt < (s.2.2.1 109 20).toInt := by first | exact g158_4 | (have h := g116_3.1.2.1; rw [hFc116.2.2.1 109 20 rfl] at h; have e : ((y116_2.toNatClampNeg : Nat) : Int) = y116_2.toInt := (by show ((y116_2.toInt.toNat : Nat) : Int) = _; (first | have a0 := in_u h1 | (have a0 := h1; unfold In at a0)); (first | have a1 := in_u ro_109_20 | (have a1 := ro_109_20; unfold In at a1)); (first | have a2 := in_u j116_5 | (have a2 := j116_5; unfold In at a2)); (first | have a3 := in_u j116_2 | (have a3 := j116_2; unfold In at a3)); have oc := oc_358_109; omega); rw [← e]; exact h)
        have n158e : ∀ w, ZD s ((sc116).2.1 147) w = ZD s (s.2.1 147) w + (y116_3).toInt * dl (y116_2).toNatClampNeg w - (y116_3).toInt * dl (y116_2).toNatClampNeg w := by intro w; rw [g116_7]; omega
        have m158 : rkb sc116.1 sc116.2.2.1 (x1).toInt (y116_2).toNatClampNeg < 32 := by exact (br_ok hIc116 g116_0.1).1 _ g116_3.1.1 g116_3.1.2.2
        exact gg_w (by first | exact Nat.le_add_right _ _ | exact gw2 | exact gw3 | exact gwe rfl | exact gwf rfl | exact gwg rfl | exact gwh rfl | omega) (gg_f (gf_cons rfl (gf_cons rfl (gf_cons rfl (gf_cons rfl (gf_cons rfl gf_nil))))) (ct158 (32) sc116 y116_2 y116_3 y116_2 hIc116 hFc116 (in_w 0 31 j116_2 rfl) (in_w 0 31 j116_2 rfl) n158 n158a n158b n158c n158d n158e m158))
      · skip
        have hx116 : ((y116_5.toNatClampNeg : Nat) : Int) ≠ x1.toInt := (by show ((y116_5.toInt.toNat : Nat) : Int) ≠ _; (first | have a0 := in_u h1 | (have a0 := h1; unfold In at a0)); (first | have a1 := in_u ro_109_20 | (have a1 := ro_109_20; unfold In at a1)); (first | have a2 := in_u j116_5 | (have a2 := j116_5; unfold In at a2)); (first | have a3 := in_u j116_2 | (have a3 := j116_2; unfold In at a3)); have oc := oc_358_109; omega)
        have hev := ev_bf hIc116 (rkf_ok g116_0.1) g116_5 hx116
        have hfo := fb_fo hIc116 g116_1.1 hev.2.2.2.2.1 hev.2.2.2.2.2.1
        refine g_aload_n 123 (gd rfl) rfl rfl ?_
        refine g_iload 125 (gd rfl) rfl rfl ?_
        have p125 : BE sc116 (y116_5).toNatClampNeg := by exact hev.1
        refine g_callv (X := _) (As := [.int y116_5]) (r := []) (b := A 109) (q := 109) 128 (gd rfl) rfl rfl rfl rfl rfl (ww_o rfl) (Nat.le_of_ble_eq_true rfl) (Nat.zero_le _) (Nat.zero_le _) (k_350 (by first | exact dq1 hd rfl | exact dq0 hd rfl | exact dq2 hd rfl | exact dq3 hd rfl | omega) hIc116 (in_w 0 31 j116_5 rfl) p125) (fun e u h => h) (fun v u h => ?_)
        obtain ⟨z125, rfl, rfl, p125a⟩ := h
        show GG _ _ _ _ _ _ _ _ [.long z125] _ _ _
        have hz125 := p125a hfo
        refine g_lload_n 129 (gd rfl) rfl rfl ?_
        refine g_lcmp 130 (gd rfl) rfl (fun z129 e129 => ?_)
        have i129 := lc_in e129
        refine g_if_ge 133 142 (gd rfl) rfl rfl (fun c130 => ?_) (fun c130 => ?_)
        · skip
          have i130 := z_ge 0 1 c130 i129 rfl
          have c130a := lc_ge e129 c130
          refine g_lload_n 143 (gd rfl) rfl rfl ?_
          refine g_lstore_n 144 (gd rfl) rfl (Nat.le_of_ble_eq_true rfl) ?_
          refine g_aload_n 145 (gd rfl) rfl rfl ?_
          refine g_iload 147 (gd rfl) rfl rfl ?_
          have p147 : BE sc116 (y116_5).toNatClampNeg := by exact hev.1
          refine g_callv (X := _) (As := [.int y116_5]) (r := []) (b := A 109) (q := 109) 150 (gd rfl) rfl rfl rfl rfl rfl (ww_o rfl) (Nat.le_of_ble_eq_true rfl) (Nat.zero_le _) (Nat.zero_le _) (k_349 (by first | exact dq1 hd rfl | exact dq0 hd rfl | exact dq2 hd rfl | exact dq3 hd rfl | omega) hIc116 (in_w 0 31 j116_5 rfl) p147) (fun e u h => h) (fun v u h => ?_)
          obtain ⟨z147, rfl, rfl, i147, p147a⟩ := h
          show GG _ _ _ _ _ _ _ _ [.int z147] _ _ _
          refine g_istore 152 (gd rfl) rfl (Nat.le_of_ble_eq_true rfl) ?_
          refine g_goto 116 (gd rfl) rfl ?_
          have n116 : CHE sc116 (x1).toInt := by first | exact g116_0 | exact g9_0
          have n116a : CO sc116 := by first | exact g116_1 | exact g9_1
          have n116b : sc116.2.1 150 = s.2.1 150 := by first | exact g116_2 | exact g9_2
          have n116c : ND sc116 (y116_2).toNatClampNeg ∧ (((y116_2).toNatClampNeg : Nat) : Int) ≠ (x1).toInt := by first | exact g116_3 | (first | exact g116_3 | (rcases g9_3 with hk | ⟨k1, k2, k3⟩; (exfalso; (first | have a0 := in_u h1 | (have a0 := h1; unfold In at a0)); (first | have a1 := in_u ro_109_20 | (have a1 := ro_109_20; unfold In at a1)); (first | have a2 := in_u j116_5 | (have a2 := j116_5; unfold In at a2)); (first | have a3 := in_u j116_2 | (have a3 := j116_2; unfold In at a3)); (first | have a4 := in_u i147 | (have a4 := i147; unfold In at a4)); have oc := oc_358_109; omega); exact gd_i g9_0 j116_2 h1 k1 k2 k3 g9_2 q_2.2))
          have n116d : ∃ k, (z147).toNatClampNeg = it sc116 (y116_2).toNatClampNeg k ∧ WY sc116 (x1).toInt (y116_3).toInt (y116_2).toNatClampNeg k := by first | (obtain ⟨k, hk1, hk2⟩ := g116_4; exact ⟨k + 1, by rw [p147a, hk1]; rfl, wy_s hk2 (by rw [← hk1]; exact hx116) (by rw [← hk1]; exact g116_5) (by omega) (by rw [← hk1]; omega)⟩) | exact ⟨0, rfl, fun j hj => absurd hj (Nat.not_lt_zero _)⟩
          have n116e : ND sc116 (z147).toNatClampNeg := by first | (rw [p147a]; exact hev.2.1) | (rcases g9_3 with hk | ⟨k1, k2, k3⟩; (exfalso; (first | have a0 := in_u h1 | (have a0 := h1; unfold In at a0)); (first | have a1 := in_u ro_109_20 | (have a1 := ro_109_20; unfold In at a1)); (first | have a2 := in_u j116_5 | (have a2 := j116_5; unfold In at a2)); (first | have a3 := in_u j116_2 | (have a3 := j116_2; unfold In at a3)); (first | have a4 := in_u i147 | (have a4 := i147; unfold In at a4)); have oc := oc_358_109; omega); exact (gd_i g9_0 j116_2 h1 k1 k2 k3 g9_2 q_2.2).1)
          have n116f : MO s (x1).toNatClampNeg (y116_2).toNatClampNeg (y116_3).toInt := by first | exact g116_6 | (first | (have hr1 := hev.2.2.2.1; have hq := g116_6; unfold MO at hq ⊢; exact ⟨by omega, by omega, by omega, by omega⟩) | (rcases g9_3 with hk | ⟨k1, k2, k3⟩; (exfalso; (first | have a0 := in_u h1 | (have a0 := h1; unfold In at a0)); (first | have a1 := in_u ro_109_20 | (have a1 := ro_109_20; unfold In at a1)); (first | have a2 := in_u j116_5 | (have a2 := j116_5; unfold In at a2)); (first | have a3 := in_u j116_2 | (have a3 := j116_2; unfold In at a3)); (first | have a4 := in_u i147 | (have a4 := i147; unfold In at a4)); have oc := oc_358_109; omega); (rw [hFc9.2.2.1 109 20 rfl] at k1; rw [g9_2] at k2; first | exact mo_1 q_1 h1 j116_2 q_2.1 k1 q_2.2 (by rw [← g9_2]; exact e84) (by rw [← g9_2]; exact e90) e91 (by rw [← g9_2]; exact e101) c93a | exact mo_2 q_1 h1 j116_2 q_2.1 k1 k2 (by rw [← g9_2]; exact e84) (by rw [← g9_2]; exact e90) e91 (by rw [← g9_2]; exact e110) e111 c93a)))
          have n116g : (sc116).2.1 147 = s.2.1 147 := by exact g116_7
          have m116 : rkb sc116.1 sc116.2.2.1 (x1).toInt (z147).toNatClampNeg < k116 := by rw [p147a]; have hl := (br_ok hIc116 g116_0.1).2 _ g116_5 hx116; have hm := mm116; omega
          exact gg_w (by first | exact Nat.le_add_right _ _ | exact gw2 | exact gw3 | exact gwe rfl | exact gwf rfl | exact gwg rfl | exact gwh rfl | omega) (gg_f (gf_cons rfl (gf_cons rfl (gf_cons rfl (gf_cons rfl (gf_cons rfl gf_nil))))) (ih116  sc116 y116_2 y116_3 z147 hIc116 hFc116 (in_w 0 31 j116_2 rfl) (in_w 0 31 i147 rfl) n116 n116a n116b n116c n116d n116e n116f n116g m116))
        · skip
          have i130 := z_lt (-1) (-1) c130 i129 rfl
          have c130a := lc_lt e129 c130
          have i130a := lr_lt1 (-9223372036854775808) 9223372036854775806 c130a (l_rng z125) (l_rng y116_3) rfl
          have i130b := lr_lt2 (-9223372036854775807) 9223372036854775807 c130a (l_rng z125) (l_rng y116_3) rfl
          refine g_aload_n 134 (gd rfl) rfl rfl ?_
          refine g_iload 136 (gd rfl) rfl rfl ?_
          have p136 : BE sc116 (y116_5).toNatClampNeg := by exact hev.1
          refine g_callv (X := _) (As := [.int y116_5]) (r := []) (b := A 109) (q := 109) 139 (gd rfl) rfl rfl rfl rfl rfl (ww_o rfl) (Nat.le_of_ble_eq_true rfl) (Nat.zero_le _) (Nat.zero_le _) (k_350 (by first | exact dq1 hd rfl | exact dq0 hd rfl | exact dq2 hd rfl | exact dq3 hd rfl | omega) hIc116 (in_w 0 31 j116_5 rfl) p136) (fun e u h => h) (fun v u h => ?_)
          obtain ⟨z136, rfl, rfl, p136a⟩ := h
          show GG _ _ _ _ _ _ _ _ [.long z136] _ _ _
          have hz136 := p136a hfo
          refine g_goto 143 (gd rfl) rfl ?_
          refine g_lstore_n 144 (gd rfl) rfl (Nat.le_of_ble_eq_true rfl) ?_
          refine g_aload_n 145 (gd rfl) rfl rfl ?_
          refine g_iload 147 (gd rfl) rfl rfl ?_
          have p147 : BE sc116 (y116_5).toNatClampNeg := by exact hev.1
          refine g_callv (X := _) (As := [.int y116_5]) (r := []) (b := A 109) (q := 109) 150 (gd rfl) rfl rfl rfl rfl rfl (ww_o rfl) (Nat.le_of_ble_eq_true rfl) (Nat.zero_le _) (Nat.zero_le _) (k_349 (by first | exact dq1 hd rfl | exact dq0 hd rfl | exact dq2 hd rfl | exact dq3 hd rfl | omega) hIc116 (in_w 0 31 j116_5 rfl) p147) (fun e u h => h) (fun v u h => ?_)
          obtain ⟨z147, rfl, rfl, i147, p147a⟩ := h
          show GG _ _ _ _ _ _ _ _ [.int z147] _ _ _
          refine g_istore 152 (gd rfl) rfl (Nat.le_of_ble_eq_true rfl) ?_
          refine g_goto 116 (gd rfl) rfl ?_
          have n116 : CHE sc116 (x1).toInt := by first | exact g116_0 | exact g9_0
          have n116a : CO sc116 := by first | exact g116_1 | exact g9_1
          have n116b : sc116.2.1 150 = s.2.1 150 := by first | exact g116_2 | exact g9_2
          have n116c : ND sc116 (y116_2).toNatClampNeg ∧ (((y116_2).toNatClampNeg : Nat) : Int) ≠ (x1).toInt := by first | exact g116_3 | (first | exact g116_3 | (rcases g9_3 with hk | ⟨k1, k2, k3⟩; (exfalso; (first | have a0 := in_u h1 | (have a0 := h1; unfold In at a0)); (first | have a1 := in_u ro_109_20 | (have a1 := ro_109_20; unfold In at a1)); (first | have a2 := in_u j116_5 | (have a2 := j116_5; unfold In at a2)); (first | have a3 := in_u j116_2 | (have a3 := j116_2; unfold In at a3)); (first | have a4 := in_u i147 | (have a4 := i147; unfold In at a4)); have oc := oc_358_109; omega); exact gd_i g9_0 j116_2 h1 k1 k2 k3 g9_2 q_2.2))
          have n116d : ∃ k, (z147).toNatClampNeg = it sc116 (y116_2).toNatClampNeg k ∧ WY sc116 (x1).toInt (z136).toInt (y116_2).toNatClampNeg k := by first | (obtain ⟨k, hk1, hk2⟩ := g116_4; exact ⟨k + 1, by rw [p147a, hk1]; rfl, wy_s hk2 (by rw [← hk1]; exact hx116) (by rw [← hk1]; exact g116_5) (by omega) (by rw [← hk1]; omega)⟩) | exact ⟨0, rfl, fun j hj => absurd hj (Nat.not_lt_zero _)⟩
          have n116e : ND sc116 (z147).toNatClampNeg := by first | (rw [p147a]; exact hev.2.1) | (rcases g9_3 with hk | ⟨k1, k2, k3⟩; (exfalso; (first | have a0 := in_u h1 | (have a0 := h1; unfold In at a0)); (first | have a1 := in_u ro_109_20 | (have a1 := ro_109_20; unfold In at a1)); (first | have a2 := in_u j116_5 | (have a2 := j116_5; unfold In at a2)); (first | have a3 := in_u j116_2 | (have a3 := j116_2; unfold In at a3)); (first | have a4 := in_u i147 | (have a4 := i147; unfold In at a4)); have oc := oc_358_109; omega); exact (gd_i g9_0 j116_2 h1 k1 k2 k3 g9_2 q_2.2).1)
          have n116f : MO s (x1).toNatClampNeg (y116_2).toNatClampNeg (z136).toInt := by first | (have hr1 := hev.2.2.2.1; have hq := g116_6; unfold MO at hq ⊢; exact ⟨by omega, by omega, by omega, by omega⟩) | (rcases g9_3 with hk | ⟨k1, k2, k3⟩; (exfalso; (first | have a0 := in_u h1 | (have a0 := h1; unfold In at a0)); (first | have a1 := in_u ro_109_20 | (have a1 := ro_109_20; unfold In at a1)); (first | have a2 := in_u j116_5 | (have a2 := j116_5; unfold In at a2)); (first | have a3 := in_u j116_2 | (have a3 := j116_2; unfold In at a3)); (first | have a4 := in_u i147 | (have a4 := i147; unfold In at a4)); have oc := oc_358_109; omega); (rw [hFc9.2.2.1 109 20 rfl] at k1; rw [g9_2] at k2; first | exact mo_1 q_1 h1 j116_2 q_2.1 k1 q_2.2 (by rw [← g9_2]; exact e84) (by rw [← g9_2]; exact e90) e91 (by rw [← g9_2]; exact e101) c93a | exact mo_2 q_1 h1 j116_2 q_2.1 k1 k2 (by rw [← g9_2]; exact e84) (by rw [← g9_2]; exact e90) e91 (by rw [← g9_2]; exact e110) e111 c93a))
          have n116g : (sc116).2.1 147 = s.2.1 147 := by exact g116_7
          have m116 : rkb sc116.1 sc116.2.2.1 (x1).toInt (z147).toNatClampNeg < k116 := by rw [p147a]; have hl := (br_ok hIc116 g116_0.1).2 _ g116_5 hx116; have hm := mm116; omega
          exact gg_w (by first | exact Nat.le_add_right _ _ | exact gw2 | exact gw3 | exact gwe rfl | exact gwf rfl | exact gwg rfl | exact gwh rfl | omega) (gg_f (gf_cons rfl (gf_cons rfl (gf_cons rfl (gf_cons rfl (gf_cons rfl gf_nil))))) (ih116  sc116 y116_2 z136 z147 hIc116 hFc116 (in_w 0 31 j116_2 rfl) (in_w 0 31 i147 rfl) n116 n116a n116b n116c n116d n116e n116f n116g m116))
  have ct9 : ∀ (k9 : Nat) (sc9 : GS) (y9_2 : Int32) (y9_3 : Int32), Inv sc9 → Fr fm_358 s sc9 → (In y9_2 (-1) 31) → (In y9_3 0 32) → (CHE sc9 (x1).toInt) → (CO sc9) → (sc9.2.1 150 = s.2.1 150) → ((y9_2).toInt < 0 ∨ ((y9_2).toInt < (sc9.2.2.1 109 20).toInt ∧ (sc9.2.1 150 (y9_2).toNatClampNeg).toInt < 0 ∧ (sc9.2.1 149 (y9_2).toNatClampNeg).toInt < 9000000000000000)) → (RCL s sc9 (x1).toNatClampNeg) → (GSC s sc9 (y9_3).toNatClampNeg (y9_2).toInt) → ((sc9).2.1 147 = s.2.1 147) → 32 - (y9_3).toInt < (k9 : Int) → GG Z (d - 1) 358 post (gx xp) (57603 + k9 * 900) 9 (fun j => xlook j [(0, .ref (A 109)), (1, .int x1), (2, .int y9_2), (3, .int y9_3)]) [] (WW Z A sc9 ++ ex) 0 0 := by
    intro k9
    induction k9 with
    | zero => intro sc9 y9_2 y9_3 hIc9 hFc9 j9_2 j9_3 g9_0 g9_1 g9_2 g9_3 g9_4 g9_5 g9_6 mm9; exact m_no mm9 j9_3 rfl
    | succ k9 ih9 =>
      intro sc9 y9_2 y9_3 hIc9 hFc9 j9_2 j9_3 g9_0 g9_1 g9_2 g9_3 g9_4 g9_5 g9_6 mm9
      refine gg_w (M := 57603 + k9 * 900 + 900) gws ?_
      refine g_iload_n 10 (gd rfl) rfl rfl ?_
      refine g_aload_n 11 (gd rfl) rfl rfl ?_
      refine g_getI 14 (gd rfl) rfl rfl rfl (fun z11 e11 => ?_)
      have q11 : u_109_20 = z11 := (fr_F e_109_20 hFc9 rfl).trans e11.symm
      subst q11
      refine g_cmp_ge 17 73 (gd rfl) rfl rfl (fun c14 => ?_) (fun c14 => ?_)
      · skip
        refine g_iload_n 74 (gd rfl) rfl rfl ?_
        refine g_if_ge 77 79 (gd rfl) rfl rfl (fun c74 => ?_) (fun c74 => ?_)
        · skip
          have i74 := z_ge 0 31 c74 j9_2 rfl
          refine g_aload_n 80 (gd rfl) rfl rfl ?_
          refine g_getA (q2 := 150) 83 (gd rfl) rfl rfl rfl rfl ?_
          refine g_iload_n 84 (gd rfl) rfl rfl ?_
          refine g_laload 85 (gd rfl) rfl (n := 32) rfl (in_ix h1 rfl) (fun z84 e84 => ?_)
          refine g_aload_n 86 (gd rfl) rfl rfl ?_
          refine g_getA (q2 := 150) 89 (gd rfl) rfl rfl rfl rfl ?_
          refine g_iload_n 90 (gd rfl) rfl rfl ?_
          refine g_laload 91 (gd rfl) rfl (n := 32) rfl (in_ix i74 rfl) (fun z90 e90 => ?_)
          refine g_lneg 92 (gd rfl) rfl (fun z91 e91 => ?_)
          refine g_lcmp 93 (gd rfl) rfl (fun z92 e92 => ?_)
          have i92 := lc_in e92
          refine g_if_ge 96 105 (gd rfl) rfl rfl (fun c93 => ?_) (fun c93 => ?_)
          · skip
            have i93 := z_ge 0 1 c93 i92 rfl
            have c93a := lc_ge e92 c93
            refine g_aload_n 106 (gd rfl) rfl rfl ?_
            refine g_getA (q2 := 150) 109 (gd rfl) rfl rfl rfl rfl ?_
            refine g_iload_n 110 (gd rfl) rfl rfl ?_
            refine g_laload 111 (gd rfl) rfl (n := 32) rfl (in_ix i74 rfl) (fun z110 e110 => ?_)
            refine g_lneg 112 (gd rfl) rfl (fun z111 e111 => ?_)
            refine g_lstore_n 113 (gd rfl) rfl (Nat.le_of_ble_eq_true rfl) ?_
            refine g_iload_n 114 (gd rfl) rfl rfl ?_
            refine g_istore 116 (gd rfl) rfl (Nat.le_of_ble_eq_true rfl) ?_
            have n116 : CHE sc9 (x1).toInt := by first | exact g116_0 | exact g9_0
            have n116a : CO sc9 := by first | exact g116_1 | exact g9_1
            have n116b : sc9.2.1 150 = s.2.1 150 := by first | exact g116_2 | exact g9_2
            have n116c : ND sc9 (y9_2).toNatClampNeg ∧ (((y9_2).toNatClampNeg : Nat) : Int) ≠ (x1).toInt := by first | exact g116_3 | (rcases g9_3 with hk | ⟨k1, k2, k3⟩; (exfalso; (first | have a0 := in_u h1 | (have a0 := h1; unfold In at a0)); (first | have a1 := in_u ro_109_20 | (have a1 := ro_109_20; unfold In at a1)); (first | have a2 := in_u j9_3 | (have a2 := j9_3; unfold In at a2)); (first | have a3 := in_u i74 | (have a3 := i74; unfold In at a3)); have oc := oc_358_109; omega); exact gd_i g9_0 i74 h1 k1 k2 k3 g9_2 q_2.2)
            have n116d : ∃ k, (y9_2).toNatClampNeg = it sc9 (y9_2).toNatClampNeg k ∧ WY sc9 (x1).toInt (z111).toInt (y9_2).toNatClampNeg k := by first | (obtain ⟨k, hk1, hk2⟩ := g116_4; exact ⟨k + 1, by rw [p147a, hk1]; rfl, wy_s hk2 (by rw [← hk1]; exact hx116) (by rw [← hk1]; exact g116_5) (by omega) (by rw [← hk1]; omega)⟩) | exact ⟨0, rfl, fun j hj => absurd hj (Nat.not_lt_zero _)⟩
            have n116e : ND sc9 (y9_2).toNatClampNeg := by first | (rw [p147a]; exact hev.2.1) | (rcases g9_3 with hk | ⟨k1, k2, k3⟩; (exfalso; (first | have a0 := in_u h1 | (have a0 := h1; unfold In at a0)); (first | have a1 := in_u ro_109_20 | (have a1 := ro_109_20; unfold In at a1)); (first | have a2 := in_u j9_3 | (have a2 := j9_3; unfold In at a2)); (first | have a3 := in_u i74 | (have a3 := i74; unfold In at a3)); have oc := oc_358_109; omega); exact (gd_i g9_0 i74 h1 k1 k2 k3 g9_2 q_2.2).1)
            have n116f : MO s (x1).toNatClampNeg (y9_2).toNatClampNeg (z111).toInt := by first | (have hr1 := hev.2.2.2.1; have hq := g116_6; unfold MO at hq ⊢; exact ⟨by omega, by omega, by omega, by omega⟩) | (rcases g9_3 with hk | ⟨k1, k2, k3⟩; (exfalso; (first | have a0 := in_u h1 | (have a0 := h1; unfold In at a0)); (first | have a1 := in_u ro_109_20 | (have a1 := ro_109_20; unfold In at a1)); (first | have a2 := in_u j9_3 | (have a2 := j9_3; unfold In at a2)); (first | have a3 := in_u i74 | (have a3 := i74; unfold In at a3)); have oc := oc_358_109; omega); (rw [hFc9.2.2.1 109 20 rfl] at k1; rw [g9_2] at k2; first | exact mo_1 q_1 h1 i74 q_2.1 k1 q_2.2 (by rw [← g9_2]; exact e84) (by rw [← g9_2]; exact e90) e91 (by rw [← g9_2]; exact e101) c93a | exact mo_2 q_1 h1 i74 q_2.1 k1 k2 (by rw [← g9_2]; exact e84) (by rw [← g9_2]; exact e90) e91 (by rw [← g9_2]; exact e110) e111 c93a))
            have n116g : (sc9).2.1 147 = s.2.1 147 := by exact g9_6
            have m116 : rkb sc9.1 sc9.2.2.1 (x1).toInt (y9_2).toNatClampNeg < 32 := by exact (br_ok hIc9 n116.1).1 _ n116e.1 n116e.2.2
            exact gg_w (by first | exact Nat.le_add_right _ _ | exact gw2 | exact gw3 | exact gwe rfl | exact gwf rfl | exact gwg rfl | exact gwh rfl | omega) (gg_f (gf_cons rfl (gf_cons rfl (gf_cons rfl (gf_cons rfl (gf_cons rfl gf_nil))))) (ct116 (32) sc9 y9_2 z111 y9_2 hIc9 hFc9 (in_w 0 31 i74 rfl) (in_w 0 31 i74 rfl) n116 n116a n116b n116c n116d n116e n116f n116g m116))
          · skip
            have i93 := z_lt (-1) (-1) c93 i92 rfl
            have c93a := lc_lt e92 c93
            have i93a := lr_lt1 (-9223372036854775808) 9223372036854775806 c93a (l_rng z84) (l_rng z91) rfl
            have i93b := lr_lt2 (-9223372036854775807) 9223372036854775807 c93a (l_rng z84) (l_rng z91) rfl
            refine g_aload_n 97 (gd rfl) rfl rfl ?_
            refine g_getA (q2 := 150) 100 (gd rfl) rfl rfl rfl rfl ?_
            refine g_iload_n 101 (gd rfl) rfl rfl ?_
            refine g_laload 102 (gd rfl) rfl (n := 32) rfl (in_ix h1 rfl) (fun z101 e101 => ?_)
            refine g_goto 112 (gd rfl) rfl ?_
            refine g_lstore_n 113 (gd rfl) rfl (Nat.le_of_ble_eq_true rfl) ?_
            refine g_iload_n 114 (gd rfl) rfl rfl ?_
            refine g_istore 116 (gd rfl) rfl (Nat.le_of_ble_eq_true rfl) ?_
            have n116 : CHE sc9 (x1).toInt := by first | exact g116_0 | exact g9_0
            have n116a : CO sc9 := by first | exact g116_1 | exact g9_1
            have n116b : sc9.2.1 150 = s.2.1 150 := by first | exact g116_2 | exact g9_2
            have n116c : ND sc9 (y9_2).toNatClampNeg ∧ (((y9_2).toNatClampNeg : Nat) : Int) ≠ (x1).toInt := by first | exact g116_3 | (rcases g9_3 with hk | ⟨k1, k2, k3⟩; (exfalso; (first | have a0 := in_u h1 | (have a0 := h1; unfold In at a0)); (first | have a1 := in_u ro_109_20 | (have a1 := ro_109_20; unfold In at a1)); (first | have a2 := in_u j9_3 | (have a2 := j9_3; unfold In at a2)); (first | have a3 := in_u i74 | (have a3 := i74; unfold In at a3)); have oc := oc_358_109; omega); exact gd_i g9_0 i74 h1 k1 k2 k3 g9_2 q_2.2)
            have n116d : ∃ k, (y9_2).toNatClampNeg = it sc9 (y9_2).toNatClampNeg k ∧ WY sc9 (x1).toInt (z101).toInt (y9_2).toNatClampNeg k := by first | (obtain ⟨k, hk1, hk2⟩ := g116_4; exact ⟨k + 1, by rw [p147a, hk1]; rfl, wy_s hk2 (by rw [← hk1]; exact hx116) (by rw [← hk1]; exact g116_5) (by omega) (by rw [← hk1]; omega)⟩) | exact ⟨0, rfl, fun j hj => absurd hj (Nat.not_lt_zero _)⟩
            have n116e : ND sc9 (y9_2).toNatClampNeg := by first | (rw [p147a]; exact hev.2.1) | (rcases g9_3 with hk | ⟨k1, k2, k3⟩; (exfalso; (first | have a0 := in_u h1 | (have a0 := h1; unfold In at a0)); (first | have a1 := in_u ro_109_20 | (have a1 := ro_109_20; unfold In at a1)); (first | have a2 := in_u j9_3 | (have a2 := j9_3; unfold In at a2)); (first | have a3 := in_u i74 | (have a3 := i74; unfold In at a3)); have oc := oc_358_109; omega); exact (gd_i g9_0 i74 h1 k1 k2 k3 g9_2 q_2.2).1)
            have n116f : MO s (x1).toNatClampNeg (y9_2).toNatClampNeg (z101).toInt := by first | (have hr1 := hev.2.2.2.1; have hq := g116_6; unfold MO at hq ⊢; exact ⟨by omega, by omega, by omega, by omega⟩) | (rcases g9_3 with hk | ⟨k1, k2, k3⟩; (exfalso; (first | have a0 := in_u h1 | (have a0 := h1; unfold In at a0)); (first | have a1 := in_u ro_109_20 | (have a1 := ro_109_20; unfold In at a1)); (first | have a2 := in_u j9_3 | (have a2 := j9_3; unfold In at a2)); (first | have a3 := in_u i74 | (have a3 := i74; unfold In at a3)); have oc := oc_358_109; omega); (rw [hFc9.2.2.1 109 20 rfl] at k1; rw [g9_2] at k2; first | exact mo_1 q_1 h1 i74 q_2.1 k1 q_2.2 (by rw [← g9_2]; exact e84) (by rw [← g9_2]; exact e90) e91 (by rw [← g9_2]; exact e101) c93a | exact mo_2 q_1 h1 i74 q_2.1 k1 k2 (by rw [← g9_2]; exact e84) (by rw [← g9_2]; exact e90) e91 (by rw [← g9_2]; exact e110) e111 c93a))
            have n116g : (sc9).2.1 147 = s.2.1 147 := by exact g9_6
            have m116 : rkb sc9.1 sc9.2.2.1 (x1).toInt (y9_2).toNatClampNeg < 32 := by exact (br_ok hIc9 n116.1).1 _ n116e.1 n116e.2.2
            exact gg_w (by first | exact Nat.le_add_right _ _ | exact gw2 | exact gw3 | exact gwe rfl | exact gwf rfl | exact gwg rfl | exact gwh rfl | omega) (gg_f (gf_cons rfl (gf_cons rfl (gf_cons rfl (gf_cons rfl (gf_cons rfl gf_nil))))) (ct116 (32) sc9 y9_2 z101 y9_2 hIc9 hFc9 (in_w 0 31 i74 rfl) (in_w 0 31 i74 rfl) n116 n116a n116b n116c n116d n116e n116f n116g m116))
        · skip
          have i74 := z_lt (-1) (-1) c74 j9_2 rfl
          refine g_iconst 0 78 (gd rfl) rfl rfl ?_
          have n78 : CO sc9 := by first | exact g9_1 | (first | exact g9_1 | exact co_cg (pl_e g158_0 (by show ((y158_5.toInt.toNat : Nat) : Int) = _; (first | have a0 := in_u h1 | (have a0 := h1; unfold In at a0)); (first | have a1 := in_u ro_109_20 | (have a1 := ro_109_20; unfold In at a1)); (first | have a2 := in_u j9_3 | (have a2 := j9_3; unfold In at a2)); (first | have a3 := in_u i74 | (have a3 := i74; unfold In at a3)); have oc := oc_358_109; omega)) ⟨rfl, rfl, rfl, rfl, rfl, by simp [sL], rfl, rfl⟩)
          have n78a : SU sc9 := by first | (intro v hv hvn; rw [g9_2]; rw [hFc9.2.2.1 109 20 rfl] at hvn; exact q_1 v hv hvn) | exact (su_t (T := sc9) (m := y158_3) q_1 (nat_in h1 q_2.1).1 (nat_in h1 q_2.1).2 (nat_in i74 g158_4).1 (nat_in i74 g158_4).2 (fun e => g158_3 (by rw [e]; show ((x1.toInt.toNat : Nat) : Int) = _; (first | have a0 := in_u h1 | (have a0 := h1; unfold In at a0)); (first | have a1 := in_u ro_109_20 | (have a1 := ro_109_20; unfold In at a1)); (first | have a2 := in_u j9_3 | (have a2 := j9_3; unfold In at a2)); (first | have a3 := in_u i74 | (have a3 := i74; unfold In at a3)); have oc := oc_358_109; omega)) g158_2 (by rw [← g158_1]; exact e192) e194 (by rw [e202, show (sL sc158 150 x1.toNatClampNeg z194).2.1 150 = vp_updL (sc158.2.1 150) x1.toNatClampNeg z194 from (by simp [sL]), g158_1]) e204 (by rw [show (sc9).2.1 150 = vp_updL (vp_updL (sc158.2.1 150) x1.toNatClampNeg z194) y158_2.toNatClampNeg z204 from (by simp [sL]), g158_1]) (hFc158.2.2.1 109 20 rfl)).1
          have n78b : (((Int32.ofInt 0)).toInt ≠ 0 → (sc9.2.1 150 (x1).toNatClampNeg).toInt < (s.2.1 150 (x1).toNatClampNeg).toInt ∧ 0 ≤ (sc9.2.1 150 (x1).toNatClampNeg).toInt) ∧ (((Int32.ofInt 0)).toInt = 0 → sc9.2.1 150 = s.2.1 150) := by first | exact ⟨fun hz => absurd (by decide) hz, fun _ => g9_2⟩ | exact ⟨fun _ => (su_t (T := sc9) (m := y158_3) q_1 (nat_in h1 q_2.1).1 (nat_in h1 q_2.1).2 (nat_in i74 g158_4).1 (nat_in i74 g158_4).2 (fun e => g158_3 (by rw [e]; show ((x1.toInt.toNat : Nat) : Int) = _; (first | have a0 := in_u h1 | (have a0 := h1; unfold In at a0)); (first | have a1 := in_u ro_109_20 | (have a1 := ro_109_20; unfold In at a1)); (first | have a2 := in_u j9_3 | (have a2 := j9_3; unfold In at a2)); (first | have a3 := in_u i74 | (have a3 := i74; unfold In at a3)); have oc := oc_358_109; omega)) g158_2 (by rw [← g158_1]; exact e192) e194 (by rw [e202, show (sL sc158 150 x1.toNatClampNeg z194).2.1 150 = vp_updL (sc158.2.1 150) x1.toNatClampNeg z194 from (by simp [sL]), g158_1]) e204 (by rw [show (sc9).2.1 150 = vp_updL (vp_updL (sc158.2.1 150) x1.toNatClampNeg z194) y158_2.toNatClampNeg z204 from (by simp [sL]), g158_1]) (hFc158.2.2.1 109 20 rfl)).2, fun hz => absurd hz (by decide)⟩
          have n78c : ((Int32.ofInt 0)).toInt ≠ 0 → SNE s sc9 (x1).toNatClampNeg := by intro hz; exact absurd (by decide) hz
          have n78d : ((Int32.ofInt 0)).toInt = 0 → INF s (x1).toNatClampNeg ∧ (sc9).2.1 147 = s.2.1 147 := by intro _; exact ⟨inf_i hI (nat_in h1 q_2.1).1 (nat_in h1 q_2.1).2 g9_4 g9_5 c74 (by rw [← e_109_20]; show _ ≤ (((y9_3).toInt.toNat : Nat) : Int); (first | have a0 := in_u h1 | (have a0 := h1; unfold In at a0)); (first | have a1 := in_u ro_109_20 | (have a1 := ro_109_20; unfold In at a1)); (first | have a2 := in_u j9_3 | (have a2 := j9_3; unfold In at a2)); (first | have a3 := in_u i74 | (have a3 := i74; unfold In at a3)); have oc := oc_358_109; omega), g9_6⟩
          exact g_ireturn (gd rfl) rfl (nb01 (in_w 0 1 (in_c 0 rfl) rfl)) (hP _ _ ⟨sc9, hIc9, hFc9, (Int32.ofInt 0), rfl, rfl, in_w 0 1 (in_c 0 rfl) rfl, n78, n78a, n78b, n78c, n78d⟩)
      · skip
        have i14 := r_lt1 0 31 c14 j9_3 ro_109_20 rfl
        have i14a := r_lt2 1 32 c14 j9_3 ro_109_20 rfl
        refine g_aload_n 18 (gd rfl) rfl rfl ?_
        refine g_getA (q2 := 150) 21 (gd rfl) rfl rfl rfl rfl ?_
        refine g_iload_n 22 (gd rfl) rfl rfl ?_
        refine g_laload 23 (gd rfl) rfl (n := 32) rfl (in_ix i14 rfl) (fun z22 e22 => ?_)
        refine g_lconst 0 24 (gd rfl) rfl rfl ?_
        refine g_lcmp 25 (gd rfl) rfl (fun z24 e24 => ?_)
        have i24 := lc_in e24
        refine g_if_ge 28 65 (gd rfl) rfl rfl (fun c25 => ?_) (fun c25 => ?_)
        · skip
          have i25 := z_ge 0 1 c25 i24 rfl
          have c25a := lc_ge e24 c25
          have i25a := lr_le2 0 9223372036854775807 c25a (l_c 0 rfl) (l_rng z22) rfl
          refine g_iload_n 66 (gd rfl) rfl rfl ?_
          refine g_istore_n 67 (gd rfl) rfl (Nat.le_of_ble_eq_true rfl) ?_
          refine g_iinc 70 (gd rfl) rfl rfl (Nat.le_of_ble_eq_true rfl) (fun z67 e67 => ?_)
          have i67 := in_add 1 32 e67 i14 (in_c 1 rfl) rfl rfl
          refine g_goto 9 (gd rfl) rfl ?_
          have n9 : CHE sc9 (x1).toInt := by first | exact g9_0 | exact p2b
          have n9a : CO sc9 := by first | exact g9_1 | exact co_cg q_0 ⟨hF2.1 112 rfl, hF2.1 113 rfl, hF2.1 114 rfl, hF2.1 115 rfl, hF2.1 116 rfl, hF2.2.1 147 rfl, hF2.2.2.1 109 19 rfl, hF2.2.2.1 109 20 rfl⟩
          have n9b : sc9.2.1 150 = s.2.1 150 := by first | exact g9_2 | exact hF2.2.1 150 rfl
          have n9c : (y9_2).toInt < 0 ∨ ((y9_2).toInt < (sc9.2.2.1 109 20).toInt ∧ (sc9.2.1 150 (y9_2).toNatClampNeg).toInt < 0 ∧ (sc9.2.1 149 (y9_2).toNatClampNeg).toInt < 9000000000000000) := by first | exact g9_3 | (first | exact g9_3 | exact Or.inl (by decide) | exact Or.inr ⟨by rw [hFc9.2.2.1 109 20 rfl, ← e_109_20]; (first | have a0 := in_u h1 | (have a0 := h1; unfold In at a0)); (first | have a1 := in_u i14a | (have a1 := i14a; unfold In at a1)); (first | have a2 := in_u i14 | (have a2 := i14; unfold In at a2)); (first | have a3 := in_u j9_2 | (have a3 := j9_2; unfold In at a3)); (first | have a4 := in_u i67 | (have a4 := i67; unfold In at a4)); have a5 := t_add e67 i14 (in_c 1 rfl) rfl; (first | have a6 := in_u ((in_c 1 rfl)) | (have a6 := (in_c 1 rfl); unfold In at a6)); have oc := oc_358_109; omega, by rw [← e22]; have h := i25a.2; omega, by rw [← e33]; have h := i38a.2; omega⟩)
          have n9d : RCL s sc9 (x1).toNatClampNeg := by exact g9_4
          have n9e : GSC s sc9 (z67).toNatClampNeg (y9_2).toInt := by rw [(show (z67).toNatClampNeg = (y9_3).toNatClampNeg + 1 from (by show (z67).toInt.toNat = (y9_3).toInt.toNat + 1; (first | have a0 := in_u h1 | (have a0 := h1; unfold In at a0)); (first | have a1 := in_u i14a | (have a1 := i14a; unfold In at a1)); (first | have a2 := in_u i14 | (have a2 := i14; unfold In at a2)); (first | have a3 := in_u j9_2 | (have a3 := j9_2; unfold In at a3)); (first | have a4 := in_u i67 | (have a4 := i67; unfold In at a4)); have a5 := t_add e67 i14 (in_c 1 rfl) rfl; (first | have a6 := in_u ((in_c 1 rfl)) | (have a6 := (in_c 1 rfl); unfold In at a6)); have oc := oc_358_109; omega))]; exact gsc_n g9_5 (fun _ hs => by exfalso; rw [← g9_2, ← e22] at hs; have h9 := i25a.1; omega)
          have n9f : (sc9).2.1 147 = s.2.1 147 := by exact g9_6
          exact gg_w (by first | exact Nat.le_add_right _ _ | exact gw2 | exact gw3 | exact gwe rfl | exact gwf rfl | exact gwg rfl | exact gwh rfl | omega) (gg_f (gf_cons rfl (gf_cons rfl (gf_cons rfl (gf_cons rfl gf_nil)))) (ih9 sc9 y9_2 z67 hIc9 hFc9 (in_w (-1) 31 j9_2 rfl) (in_w 0 32 i67 rfl) n9 n9a n9b n9c n9d n9e n9f (m_up mm9 (t_add e67 i14 (in_c 1 rfl) rfl) (in_w 1 1 (in_c 1 rfl) rfl))))
        · skip
          have i25 := z_lt (-1) (-1) c25 i24 rfl
          have c25a := lc_lt e24 c25
          have i25a := lr_lt1 (-9223372036854775808) (-1) c25a (l_rng z22) (l_c 0 rfl) rfl
          refine g_aload_n 29 (gd rfl) rfl rfl ?_
          refine g_getA (q2 := 149) 32 (gd rfl) rfl rfl rfl rfl ?_
          refine g_iload_n 33 (gd rfl) rfl rfl ?_
          refine g_laload 34 (gd rfl) rfl (n := 34) rfl (in_ix i14 rfl) (fun z33 e33 => ?_)
          refine g_ldc2_w 9000000000000000 37 (gd rfl) rfl rfl ?_
          refine g_lcmp 38 (gd rfl) rfl (fun z37 e37 => ?_)
          have i37 := lc_in e37
          refine g_if_ge 41 65 (gd rfl) rfl rfl (fun c38 => ?_) (fun c38 => ?_)
          · skip
            have i38 := z_ge 0 1 c38 i37 rfl
            have c38a := lc_ge e37 c38
            have i38a := lr_le2 9000000000000000 9223372036854775807 c38a (l_c 9000000000000000 rfl) (l_rng z33) rfl
            refine g_iload_n 66 (gd rfl) rfl rfl ?_
            refine g_istore_n 67 (gd rfl) rfl (Nat.le_of_ble_eq_true rfl) ?_
            refine g_iinc 70 (gd rfl) rfl rfl (Nat.le_of_ble_eq_true rfl) (fun z67 e67 => ?_)
            have i67 := in_add 1 32 e67 i14 (in_c 1 rfl) rfl rfl
            refine g_goto 9 (gd rfl) rfl ?_
            have n9 : CHE sc9 (x1).toInt := by first | exact g9_0 | exact p2b
            have n9a : CO sc9 := by first | exact g9_1 | exact co_cg q_0 ⟨hF2.1 112 rfl, hF2.1 113 rfl, hF2.1 114 rfl, hF2.1 115 rfl, hF2.1 116 rfl, hF2.2.1 147 rfl, hF2.2.2.1 109 19 rfl, hF2.2.2.1 109 20 rfl⟩
            have n9b : sc9.2.1 150 = s.2.1 150 := by first | exact g9_2 | exact hF2.2.1 150 rfl
            have n9c : (y9_2).toInt < 0 ∨ ((y9_2).toInt < (sc9.2.2.1 109 20).toInt ∧ (sc9.2.1 150 (y9_2).toNatClampNeg).toInt < 0 ∧ (sc9.2.1 149 (y9_2).toNatClampNeg).toInt < 9000000000000000) := by first | exact g9_3 | (first | exact g9_3 | exact Or.inl (by decide) | exact Or.inr ⟨by rw [hFc9.2.2.1 109 20 rfl, ← e_109_20]; (first | have a0 := in_u h1 | (have a0 := h1; unfold In at a0)); (first | have a1 := in_u i14a | (have a1 := i14a; unfold In at a1)); (first | have a2 := in_u i14 | (have a2 := i14; unfold In at a2)); (first | have a3 := in_u j9_2 | (have a3 := j9_2; unfold In at a3)); (first | have a4 := in_u i67 | (have a4 := i67; unfold In at a4)); have a5 := t_add e67 i14 (in_c 1 rfl) rfl; (first | have a6 := in_u ((in_c 1 rfl)) | (have a6 := (in_c 1 rfl); unfold In at a6)); have oc := oc_358_109; omega, by rw [← e22]; have h := i25a.2; omega, by rw [← e33]; have h := i38a.2; omega⟩)
            have n9d : RCL s sc9 (x1).toNatClampNeg := by exact g9_4
            have n9e : GSC s sc9 (z67).toNatClampNeg (y9_2).toInt := by rw [(show (z67).toNatClampNeg = (y9_3).toNatClampNeg + 1 from (by show (z67).toInt.toNat = (y9_3).toInt.toNat + 1; (first | have a0 := in_u h1 | (have a0 := h1; unfold In at a0)); (first | have a1 := in_u i14a | (have a1 := i14a; unfold In at a1)); (first | have a2 := in_u i14 | (have a2 := i14; unfold In at a2)); (first | have a3 := in_u j9_2 | (have a3 := j9_2; unfold In at a3)); (first | have a4 := in_u i67 | (have a4 := i67; unfold In at a4)); have a5 := t_add e67 i14 (in_c 1 rfl) rfl; (first | have a6 := in_u ((in_c 1 rfl)) | (have a6 := (in_c 1 rfl); unfold In at a6)); have oc := oc_358_109; omega))]; exact gsc_n g9_5 (fun _ _ => by rw [← e33]; have h9 := i38a.1; omega)
            have n9f : (sc9).2.1 147 = s.2.1 147 := by exact g9_6
            exact gg_w (by first | exact Nat.le_add_right _ _ | exact gw2 | exact gw3 | exact gwe rfl | exact gwf rfl | exact gwg rfl | exact gwh rfl | omega) (gg_f (gf_cons rfl (gf_cons rfl (gf_cons rfl (gf_cons rfl gf_nil)))) (ih9 sc9 y9_2 z67 hIc9 hFc9 (in_w (-1) 31 j9_2 rfl) (in_w 0 32 i67 rfl) n9 n9a n9b n9c n9d n9e n9f (m_up mm9 (t_add e67 i14 (in_c 1 rfl) rfl) (in_w 1 1 (in_c 1 rfl) rfl))))
          · skip
            have i38 := z_lt (-1) (-1) c38 i37 rfl
            have c38a := lc_lt e37 c38
            have i38a := lr_lt1 (-9223372036854775808) 8999999999999999 c38a (l_rng z33) (l_c 9000000000000000 rfl) rfl
            refine g_iload_n 42 (gd rfl) rfl rfl ?_
            refine g_if_lt 45 61 (gd rfl) rfl rfl (fun c42 => ?_) (fun c42 => ?_)
            · skip
              have i42 := z_lt (-1) (-1) c42 j9_2 rfl
              refine g_iload_n 62 (gd rfl) rfl rfl ?_
              refine g_goto 66 (gd rfl) rfl ?_
              refine g_istore_n 67 (gd rfl) rfl (Nat.le_of_ble_eq_true rfl) ?_
              refine g_iinc 70 (gd rfl) rfl rfl (Nat.le_of_ble_eq_true rfl) (fun z67 e67 => ?_)
              have i67 := in_add 1 32 e67 i14 (in_c 1 rfl) rfl rfl
              refine g_goto 9 (gd rfl) rfl ?_
              have n9 : CHE sc9 (x1).toInt := by first | exact g9_0 | exact p2b
              have n9a : CO sc9 := by first | exact g9_1 | exact co_cg q_0 ⟨hF2.1 112 rfl, hF2.1 113 rfl, hF2.1 114 rfl, hF2.1 115 rfl, hF2.1 116 rfl, hF2.2.1 147 rfl, hF2.2.2.1 109 19 rfl, hF2.2.2.1 109 20 rfl⟩
              have n9b : sc9.2.1 150 = s.2.1 150 := by first | exact g9_2 | exact hF2.2.1 150 rfl
              have n9c : (y9_3).toInt < 0 ∨ ((y9_3).toInt < (sc9.2.2.1 109 20).toInt ∧ (sc9.2.1 150 (y9_3).toNatClampNeg).toInt < 0 ∧ (sc9.2.1 149 (y9_3).toNatClampNeg).toInt < 9000000000000000) := by first | exact g9_3 | exact Or.inl (by decide) | exact Or.inr ⟨by rw [hFc9.2.2.1 109 20 rfl, ← e_109_20]; (first | have a0 := in_u h1 | (have a0 := h1; unfold In at a0)); (first | have a1 := in_u i14a | (have a1 := i14a; unfold In at a1)); (first | have a2 := in_u i14 | (have a2 := i14; unfold In at a2)); (first | have a3 := in_u i42 | (have a3 := i42; unfold In at a3)); (first | have a4 := in_u i67 | (have a4 := i67; unfold In at a4)); have a5 := t_add e67 i14 (in_c 1 rfl) rfl; (first | have a6 := in_u ((in_c 1 rfl)) | (have a6 := (in_c 1 rfl); unfold In at a6)); have oc := oc_358_109; omega, by rw [← e22]; have h := i25a.2; omega, by rw [← e33]; have h := i38a.2; omega⟩
              have n9d : RCL s sc9 (x1).toNatClampNeg := by exact g9_4
              have n9e : GSC s sc9 (z67).toNatClampNeg (y9_3).toInt := by intro hg; exfalso; (first | have a0 := in_u h1 | (have a0 := h1; unfold In at a0)); (first | have a1 := in_u i14a | (have a1 := i14a; unfold In at a1)); (first | have a2 := in_u i14 | (have a2 := i14; unfold In at a2)); (first | have a3 := in_u i42 | (have a3 := i42; unfold In at a3)); (first | have a4 := in_u i67 | (have a4 := i67; unfold In at a4)); have a5 := t_add e67 i14 (in_c 1 rfl) rfl; (first | have a6 := in_u ((in_c 1 rfl)) | (have a6 := (in_c 1 rfl); unfold In at a6)); have oc := oc_358_109; omega
              have n9f : (sc9).2.1 147 = s.2.1 147 := by exact g9_6
              exact gg_w (by first | exact Nat.le_add_right _ _ | exact gw2 | exact gw3 | exact gwe rfl | exact gwf rfl | exact gwg rfl | exact gwh rfl | omega) (gg_f (gf_cons rfl (gf_cons rfl (gf_cons rfl (gf_cons rfl gf_nil)))) (ih9 sc9 y9_3 z67 hIc9 hFc9 (in_w (-1) 31 i14 rfl) (in_w 0 32 i67 rfl) n9 n9a n9b n9c n9d n9e n9f (m_up mm9 (t_add e67 i14 (in_c 1 rfl) rfl) (in_w 1 1 (in_c 1 rfl) rfl))))
            · skip
              have i42 := z_ge 0 31 c42 j9_2 rfl
              refine g_aload_n 46 (gd rfl) rfl rfl ?_
              refine g_getA (q2 := 149) 49 (gd rfl) rfl rfl rfl rfl ?_
              refine g_iload_n 50 (gd rfl) rfl rfl ?_
              refine g_laload 51 (gd rfl) rfl (n := 34) rfl (in_ix i14 rfl) (fun z50 e50 => ?_)
              refine g_aload_n 52 (gd rfl) rfl rfl ?_
              refine g_getA (q2 := 149) 55 (gd rfl) rfl rfl rfl rfl ?_
              refine g_iload_n 56 (gd rfl) rfl rfl ?_
              refine g_laload 57 (gd rfl) rfl (n := 34) rfl (in_ix i42 rfl) (fun z56 e56 => ?_)
              refine g_lcmp 58 (gd rfl) rfl (fun z57 e57 => ?_)
              have i57 := lc_in e57
              refine g_if_ge 61 65 (gd rfl) rfl rfl (fun c58 => ?_) (fun c58 => ?_)
              · skip
                have i58 := z_ge 0 1 c58 i57 rfl
                have c58a := lc_ge e57 c58
                refine g_iload_n 66 (gd rfl) rfl rfl ?_
                refine g_istore_n 67 (gd rfl) rfl (Nat.le_of_ble_eq_true rfl) ?_
                refine g_iinc 70 (gd rfl) rfl rfl (Nat.le_of_ble_eq_true rfl) (fun z67 e67 => ?_)
                have i67 := in_add 1 32 e67 i14 (in_c 1 rfl) rfl rfl
                refine g_goto 9 (gd rfl) rfl ?_
                have n9 : CHE sc9 (x1).toInt := by first | exact g9_0 | exact p2b
                have n9a : CO sc9 := by first | exact g9_1 | exact co_cg q_0 ⟨hF2.1 112 rfl, hF2.1 113 rfl, hF2.1 114 rfl, hF2.1 115 rfl, hF2.1 116 rfl, hF2.2.1 147 rfl, hF2.2.2.1 109 19 rfl, hF2.2.2.1 109 20 rfl⟩
                have n9b : sc9.2.1 150 = s.2.1 150 := by first | exact g9_2 | exact hF2.2.1 150 rfl
                have n9c : (y9_2).toInt < 0 ∨ ((y9_2).toInt < (sc9.2.2.1 109 20).toInt ∧ (sc9.2.1 150 (y9_2).toNatClampNeg).toInt < 0 ∧ (sc9.2.1 149 (y9_2).toNatClampNeg).toInt < 9000000000000000) := by first | exact g9_3 | (first | exact g9_3 | exact Or.inl (by decide) | exact Or.inr ⟨by rw [hFc9.2.2.1 109 20 rfl, ← e_109_20]; (first | have a0 := in_u h1 | (have a0 := h1; unfold In at a0)); (first | have a1 := in_u i14a | (have a1 := i14a; unfold In at a1)); (first | have a2 := in_u i14 | (have a2 := i14; unfold In at a2)); (first | have a3 := in_u i42 | (have a3 := i42; unfold In at a3)); (first | have a4 := in_u i67 | (have a4 := i67; unfold In at a4)); have a5 := t_add e67 i14 (in_c 1 rfl) rfl; (first | have a6 := in_u ((in_c 1 rfl)) | (have a6 := (in_c 1 rfl); unfold In at a6)); have oc := oc_358_109; omega, by rw [← e22]; have h := i25a.2; omega, by rw [← e33]; have h := i38a.2; omega⟩)
                have n9d : RCL s sc9 (x1).toNatClampNeg := by exact g9_4
                have n9e : GSC s sc9 (z67).toNatClampNeg (y9_2).toInt := by intro hg; exfalso; (first | have a0 := in_u h1 | (have a0 := h1; unfold In at a0)); (first | have a1 := in_u i14a | (have a1 := i14a; unfold In at a1)); (first | have a2 := in_u i14 | (have a2 := i14; unfold In at a2)); (first | have a3 := in_u i42 | (have a3 := i42; unfold In at a3)); (first | have a4 := in_u i67 | (have a4 := i67; unfold In at a4)); have a5 := t_add e67 i14 (in_c 1 rfl) rfl; (first | have a6 := in_u ((in_c 1 rfl)) | (have a6 := (in_c 1 rfl); unfold In at a6)); have oc := oc_358_109; omega
                have n9f : (sc9).2.1 147 = s.2.1 147 := by exact g9_6
                exact gg_w (by first | exact Nat.le_add_right _ _ | exact gw2 | exact gw3 | exact gwe rfl | exact gwf rfl | exact gwg rfl | exact gwh rfl | omega) (gg_f (gf_cons rfl (gf_cons rfl (gf_cons rfl (gf_cons rfl gf_nil)))) (ih9 sc9 y9_2 z67 hIc9 hFc9 (in_w (-1) 31 i42 rfl) (in_w 0 32 i67 rfl) n9 n9a n9b n9c n9d n9e n9f (m_up mm9 (t_add e67 i14 (in_c 1 rfl) rfl) (in_w 1 1 (in_c 1 rfl) rfl))))
              · skip
                have i58 := z_lt (-1) (-1) c58 i57 rfl
                have c58a := lc_lt e57 c58
                have i58a := lr_lt1 (-9223372036854775808) 9223372036854775806 c58a (l_rng z50) (l_rng z56) rfl
                have i58b := lr_lt2 (-9223372036854775807) 9223372036854775807 c58a (l_rng z50) (l_rng z56) rfl
                refine g_iload_n 62 (gd rfl) rfl rfl ?_
                refine g_goto 66 (gd rfl) rfl ?_
                refine g_istore_n 67 (gd rfl) rfl (Nat.le_of_ble_eq_true rfl) ?_
                refine g_iinc 70 (gd rfl) rfl rfl (Nat.le_of_ble_eq_true rfl) (fun z67 e67 => ?_)
                have i67 := in_add 1 32 e67 i14 (in_c 1 rfl) rfl rfl
                refine g_goto 9 (gd rfl) rfl ?_
                have n9 : CHE sc9 (x1).toInt := by first | exact g9_0 | exact p2b
                have n9a : CO sc9 := by first | exact g9_1 | exact co_cg q_0 ⟨hF2.1 112 rfl, hF2.1 113 rfl, hF2.1 114 rfl, hF2.1 115 rfl, hF2.1 116 rfl, hF2.2.1 147 rfl, hF2.2.2.1 109 19 rfl, hF2.2.2.1 109 20 rfl⟩
                have n9b : sc9.2.1 150 = s.2.1 150 := by first | exact g9_2 | exact hF2.2.1 150 rfl
                have n9c : (y9_3).toInt < 0 ∨ ((y9_3).toInt < (sc9.2.2.1 109 20).toInt ∧ (sc9.2.1 150 (y9_3).toNatClampNeg).toInt < 0 ∧ (sc9.2.1 149 (y9_3).toNatClampNeg).toInt < 9000000000000000) := by first | exact g9_3 | exact Or.inl (by decide) | exact Or.inr ⟨by rw [hFc9.2.2.1 109 20 rfl, ← e_109_20]; (first | have a0 := in_u h1 | (have a0 := h1; unfold In at a0)); (first | have a1 := in_u i14a | (have a1 := i14a; unfold In at a1)); (first | have a2 := in_u i14 | (have a2 := i14; unfold In at a2)); (first | have a3 := in_u i42 | (have a3 := i42; unfold In at a3)); (first | have a4 := in_u i67 | (have a4 := i67; unfold In at a4)); have a5 := t_add e67 i14 (in_c 1 rfl) rfl; (first | have a6 := in_u ((in_c 1 rfl)) | (have a6 := (in_c 1 rfl); unfold In at a6)); have oc := oc_358_109; omega, by rw [← e22]; have h := i25a.2; omega, by rw [← e33]; have h := i38a.2; omega⟩
                have n9d : RCL s sc9 (x1).toNatClampNeg := by exact g9_4
                have n9e : GSC s sc9 (z67).toNatClampNeg (y9_3).toInt := by intro hg; exfalso; (first | have a0 := in_u h1 | (have a0 := h1; unfold In at a0)); (first | have a1 := in_u i14a | (have a1 := i14a; unfold In at a1)); (first | have a2 := in_u i14 | (have a2 := i14; unfold In at a2)); (first | have a3 := in_u i42 | (have a3 := i42; unfold In at a3)); (first | have a4 := in_u i67 | (have a4 := i67; unfold In at a4)); have a5 := t_add e67 i14 (in_c 1 rfl) rfl; (first | have a6 := in_u ((in_c 1 rfl)) | (have a6 := (in_c 1 rfl); unfold In at a6)); have oc := oc_358_109; omega
                have n9f : (sc9).2.1 147 = s.2.1 147 := by exact g9_6
                exact gg_w (by first | exact Nat.le_add_right _ _ | exact gw2 | exact gw3 | exact gwe rfl | exact gwf rfl | exact gwg rfl | exact gwh rfl | omega) (gg_f (gf_cons rfl (gf_cons rfl (gf_cons rfl (gf_cons rfl gf_nil)))) (ih9 sc9 y9_3 z67 hIc9 hFc9 (in_w (-1) 31 i14 rfl) (in_w 0 32 i67 rfl) n9 n9a n9b n9c n9d n9e n9f (m_up mm9 (t_add e67 i14 (in_c 1 rfl) rfl) (in_w 1 1 (in_c 1 rfl) rfl))))
  refine g_enter2 (k := 358) (N := 88203) (by first | exact dq1 hd rfl | exact dq0 hd rfl | exact dq2 hd rfl | exact dq3 hd rfl | omega) rfl (Nat.le_of_ble_eq_true rfl) ?_
  refine g_aload_n 1 (gd rfl) rfl rfl ?_
  refine g_iload_n 2 (gd rfl) rfl rfl ?_
  have p2 : CP s := by exact q_0.2
  have p2a : (x1).toInt < (s.2.2.1 109 20).toInt := by exact q_2.1
  refine g_callv (X := _) (As := [.int x1]) (r := []) (b := A 109) (q := 109) 5 (gd rfl) rfl rfl rfl rfl rfl (ww_o rfl) (Nat.le_of_ble_eq_true rfl) (Nat.zero_le _) (Nat.zero_le _) (f_356 (by first | exact dq1 hd rfl | exact dq0 hd rfl | exact dq2 hd rfl | exact dq3 hd rfl | omega) hI (in_w 0 31 h1 rfl) p2 p2a) (fun e u h => h) (fun v u h => ?_)
  obtain ⟨s2, hI2, hF2, rfl, rfl, p2b, p2c⟩ := h
  show GG _ _ _ _ _ _ _ _ [] _ _ _
  refine g_iconst (-1) 6 (gd rfl) rfl rfl ?_
  refine g_istore_n 7 (gd rfl) rfl (Nat.le_of_ble_eq_true rfl) ?_
  refine g_iconst 0 8 (gd rfl) rfl rfl ?_
  refine g_istore_n 9 (gd rfl) rfl (Nat.le_of_ble_eq_true rfl) ?_
  have n9 : CHE s2 (x1).toInt := by first | exact g9_0 | exact p2b
  have n9a : CO s2 := by first | exact g9_1 | exact co_cg q_0 ⟨hF2.1 112 rfl, hF2.1 113 rfl, hF2.1 114 rfl, hF2.1 115 rfl, hF2.1 116 rfl, hF2.2.1 147 rfl, hF2.2.2.1 109 19 rfl, hF2.2.2.1 109 20 rfl⟩
  have n9b : s2.2.1 150 = s.2.1 150 := by first | exact g9_2 | exact hF2.2.1 150 rfl
  have n9c : ((Int32.ofInt (-1))).toInt < 0 ∨ (((Int32.ofInt (-1))).toInt < (s2.2.2.1 109 20).toInt ∧ (s2.2.1 150 ((Int32.ofInt (-1))).toNatClampNeg).toInt < 0 ∧ (s2.2.1 149 ((Int32.ofInt (-1))).toNatClampNeg).toInt < 9000000000000000) := by first | exact g9_3 | exact Or.inl (by decide) | exact Or.inr ⟨by rw [hFc9.2.2.1 109 20 rfl, ← e_109_20]; (first | have a0 := in_u ro_109_20 | (have a0 := ro_109_20; unfold In at a0)); (first | have a1 := in_u h1 | (have a1 := h1; unfold In at a1)); (first | have a2 := in_u ((in_c 0 rfl)) | (have a2 := (in_c 0 rfl); unfold In at a2)); (first | have a3 := in_u ((in_c (-1) rfl)) | (have a3 := (in_c (-1) rfl); unfold In at a3)); have oc := oc_358_109; omega, by rw [← e22]; have h := i25a.2; omega, by rw [← e33]; have h := i38a.2; omega⟩
  have n9d : RCL s s2 (x1).toNatClampNeg := by exact p2c
  have n9e : GSC s s2 ((Int32.ofInt 0)).toNatClampNeg ((Int32.ofInt (-1))).toInt := by intro _ v hv; exact absurd hv (Nat.not_lt_zero v)
  have n9f : (s2).2.1 147 = s.2.1 147 := by exact hF2.2.1 147 rfl
  exact gg_w (by first | exact Nat.le_of_ble_eq_true rfl | omega) (gg_f (gf_cons rfl (gf_cons rfl (gf_cons rfl (gf_cons rfl gf_nil)))) (ct9 33 s2 (Int32.ofInt (-1)) (Int32.ofInt 0) hI2 (fr_tr rfl fr_rf hF2) (in_w (-1) 31 (in_c (-1) rfl) rfl) (in_w 0 32 (in_c 0 rfl) rfl) n9 n9a n9b n9c n9d n9e n9f (m_in 33 (in_w 0 32 (in_c 0 rfl) rfl) rfl)))
