/-! methods, by vc.py -/
def fm_219_0 : FM := ([], [], [], [])
/-- GraphHouse.size -/
theorem k_219_0 {Z : AmZ} {A : Nat → Nat} {s : GS} {ex : va_W} {d : Nat} {x1 : Int32} (hd : 7 ≤ d) (hI : Inv s)  : GC Z d 219 [.ref (A 0), .int x1] (WW Z A s ++ ex) 3 18 (fun v u => ∃ t : GS, Inv t ∧ Fr fm_219_0 s t ∧ ∃ z : Int32, v = some (.int z) ∧ u = WW Z A t ++ ex ∧ In z (-2147483648) 2147483647) (gE1 Z A ex fm_219_0 s) := by
  intro post xp hP hX
  obtain ⟨u_0_2, e_0_2⟩ : ∃ w, w = s.2.2.1 0 2 := ⟨_, rfl⟩
  have ro_0_2 := inv_F hI (-1) 4000 rfl e_0_2
  obtain ⟨u_2_1, e_2_1⟩ : ∃ w, w = s.2.2.1 2 1 := ⟨_, rfl⟩
  have ro_2_1 := inv_F hI 0 32 rfl e_2_1
  obtain ⟨u_2_2, e_2_2⟩ : ∃ w, w = s.2.2.1 2 2 := ⟨_, rfl⟩
  obtain ⟨u_2_3, e_2_3⟩ : ∃ w, w = s.2.2.1 2 3 := ⟨_, rfl⟩
  have ro_2_3 := inv_F hI 0 160 rfl e_2_3
  obtain ⟨u_32_1, e_32_1⟩ : ∃ w, w = s.2.2.1 32 1 := ⟨_, rfl⟩
  have ro_32_1 := inv_F hI 0 32 rfl e_32_1
  obtain ⟨u_32_2, e_32_2⟩ : ∃ w, w = s.2.2.1 32 2 := ⟨_, rfl⟩
  obtain ⟨u_32_3, e_32_3⟩ : ∃ w, w = s.2.2.1 32 3 := ⟨_, rfl⟩
  have ro_32_3 := inv_F hI 0 160 rfl e_32_3
  refine g_enter2 (k := 219) (N := 900) (by omega) rfl (Nat.le_of_ble_eq_true rfl) ?_
  refine g_iload_n 1 (gd rfl) rfl rfl ?_
  refine g_if_lt 4 13 (gd rfl) rfl rfl (fun c1 => ?_) (fun c1 => ?_)
  · skip
    have i1 := z_lt (-2147483648) (-1) c1 (i_rng x1) rfl
    refine g_iconst 0 14 (gd rfl) rfl rfl ?_
    refine g_thr (E := am_IA) (y := yX11_allow) 17 (gd rfl) rfl rfl (Or.inl ⟨rfl, rfl, rfl⟩) (by omega) (Nat.le_of_ble_eq_true rfl) (Nat.le_of_ble_eq_true rfl) (Nat.le_of_ble_eq_true rfl) (fun c14 => ?_) (fun c14 => ?_)
    · skip
      exact zn_ne c14 (in_c 0 rfl) rfl
    · skip
      exact (hX _ _ ⟨rfl, s, hI, fr_rf, rfl⟩)
  · skip
    have i1 := z_ge 0 2147483647 c1 (i_rng x1) rfl
    refine g_iload_n 5 (gd rfl) rfl rfl ?_
    refine g_iconst 3 6 (gd rfl) rfl rfl ?_
    refine g_cmp_gt 9 13 (gd rfl) rfl rfl (fun c6 => ?_) (fun c6 => ?_)
    · skip
      have i6 := r_lt2 4 2147483647 c6 (in_c 3 rfl) i1 rfl
      refine g_iconst 0 14 (gd rfl) rfl rfl ?_
      refine g_thr (E := am_IA) (y := yX11_allow) 17 (gd rfl) rfl rfl (Or.inl ⟨rfl, rfl, rfl⟩) (by omega) (Nat.le_of_ble_eq_true rfl) (Nat.le_of_ble_eq_true rfl) (Nat.le_of_ble_eq_true rfl) (fun c14 => ?_) (fun c14 => ?_)
      · skip
        exact zn_ne c14 (in_c 0 rfl) rfl
      · skip
        exact (hX _ _ ⟨rfl, s, hI, fr_rf, rfl⟩)
    · skip
      have i6 := r_le1 0 3 c6 i1 (in_c 3 rfl) rfl
      refine g_iconst 1 10 (gd rfl) rfl rfl ?_
      refine g_goto 14 (gd rfl) rfl ?_
      refine g_thr (E := am_IA) (y := yX11_allow) 17 (gd rfl) rfl rfl (Or.inl ⟨rfl, rfl, rfl⟩) (by omega) (Nat.le_of_ble_eq_true rfl) (Nat.le_of_ble_eq_true rfl) (Nat.le_of_ble_eq_true rfl) (fun c14 => ?_) (fun c14 => ?_)
      · skip
        refine g_aload_n 18 (gd rfl) rfl rfl ?_
        refine g_callv (X := _) (As := []) (r := []) (b := A 0) (q := 0) 21 (gd rfl) rfl rfl rfl rfl rfl (ww_o rfl) (Nat.le_of_ble_eq_true rfl) (mc := 0) (ms := 0) (Nat.zero_le _) (Nat.zero_le _) (P := fun v u => _) ?_ (fun e u h => h) (fun v u h => h)
        intro po18 xx18 hp18 hx18
        refine g_enter2 (k := 259) (N := 300) (by omega) rfl (Nat.le_of_ble_eq_true rfl) ?_
        refine g_aload_n 1 (gd rfl) rfl rfl ?_
        refine g_getI 4 (gd rfl) rfl rfl rfl (fun z18x1 e18x1 => ?_)
        have q18x1 : u_0_2 = z18x1 := (e_0_2).trans e18x1.symm
        subst q18x1
        refine g_iconst (-1) 5 (gd rfl) rfl rfl ?_
        refine g_cmp_ne 8 18 (gd rfl) rfl rfl (fun c18x5 => ?_) (fun c18x5 => ?_)
        · skip
          have i18x5 := r_ne1 0 4000 c18x5 ro_0_2 (in_c (-1) rfl) rfl
          refine g_aload_n 19 (gd rfl) rfl rfl ?_
          refine g_getA (q2 := 32) 22 (gd rfl) rfl rfl rfl rfl ?_
          refine g_areturn (gd rfl) rfl (hp18 _ _ ?_)
          show GG _ _ _ _ _ _ _ _ [.ref (A 32)] _ _ _
          refine g_astore_n 22 (gd rfl) rfl (Nat.le_of_ble_eq_true rfl) ?_
          refine g_iload_n 23 (gd rfl) rfl rfl ?_
          refine g_tsw [48, 53, 58] 63 (gd rfl) rfl rfl rfl ⟨fun c23 => ?_, fun c23 => ?_, fun c23 => ?_, trivial⟩ (fun c23 => ?_)
          · skip
            have i23 := sw_eq c23
            refine g_aload_n 49 (gd rfl) rfl rfl ?_
            refine g_getI 52 (gd rfl) rfl rfl rfl (fun z49 e49 => ?_)
            have q49 : u_32_1 = z49 := (e_32_1).trans e49.symm
            subst q49
            exact g_ireturn (gd rfl) rfl rfl (hP _ _ ⟨s, hI, fr_rf, u_32_1, rfl, rfl, in_w (-2147483648) 2147483647 ro_32_1 rfl⟩)
          · skip
            have i23 := sw_eq c23
            refine g_aload_n 54 (gd rfl) rfl rfl ?_
            refine g_getI 57 (gd rfl) rfl rfl rfl (fun z54 e54 => ?_)
            have q54 : u_32_2 = z54 := (e_32_2).trans e54.symm
            subst q54
            exact g_ireturn (gd rfl) rfl rfl (hP _ _ ⟨s, hI, fr_rf, u_32_2, rfl, rfl, in_w (-2147483648) 2147483647 (i_rng u_32_2) rfl⟩)
          · skip
            have i23 := sw_eq c23
            refine g_aload_n 59 (gd rfl) rfl rfl ?_
            refine g_callv (X := _) (As := []) (r := []) (b := A 32) (q := 32) 62 (gd rfl) rfl rfl rfl rfl rfl (ww_o rfl) (Nat.le_of_ble_eq_true rfl) (Nat.zero_le _) (Nat.zero_le _) (k_98_32 (by omega) hI ) (fun e u h => h) (fun v u h => ?_)
            obtain ⟨z59, rfl, rfl, i59⟩ := h
            show GG _ _ _ _ _ _ _ _ [.int z59] _ _ _
            exact g_ireturn (gd rfl) rfl rfl (hP _ _ ⟨s, hI, fr_rf, z59, rfl, rfl, in_w (-2147483648) 2147483647 i59 rfl⟩)
          · skip
            refine g_aload_n 64 (gd rfl) rfl rfl ?_
            refine g_getI 67 (gd rfl) rfl rfl rfl (fun z64 e64 => ?_)
            have q64 : u_32_3 = z64 := (e_32_3).trans e64.symm
            subst q64
            refine g_iconst 1 68 (gd rfl) rfl rfl ?_
            refine g_isub 69 (gd rfl) rfl (fun z68 e68 => ?_)
            have i68 := in_sub (-1) 159 e68 ro_32_3 (in_c 1 rfl) rfl rfl
            exact g_ireturn (gd rfl) rfl rfl (hP _ _ ⟨s, hI, fr_rf, z68, rfl, rfl, in_w (-2147483648) 2147483647 i68 rfl⟩)
        · skip
          have i18x5 := r_eq1 (-1) (-1) c18x5 ro_0_2 (in_c (-1) rfl) rfl
          refine g_aload_n 9 (gd rfl) rfl rfl ?_
          refine g_getA (q2 := 1) 12 (gd rfl) rfl rfl rfl rfl ?_
          refine g_getA (q2 := 2) 15 (gd rfl) rfl rfl rfl rfl ?_
          refine g_goto 22 (gd rfl) rfl ?_
          refine g_areturn (gd rfl) rfl (hp18 _ _ ?_)
          show GG _ _ _ _ _ _ _ _ [.ref (A 2)] _ _ _
          refine g_astore_n 22 (gd rfl) rfl (Nat.le_of_ble_eq_true rfl) ?_
          refine g_iload_n 23 (gd rfl) rfl rfl ?_
          refine g_tsw [48, 53, 58] 63 (gd rfl) rfl rfl rfl ⟨fun c23 => ?_, fun c23 => ?_, fun c23 => ?_, trivial⟩ (fun c23 => ?_)
          · skip
            have i23 := sw_eq c23
            refine g_aload_n 49 (gd rfl) rfl rfl ?_
            refine g_getI 52 (gd rfl) rfl rfl rfl (fun z49 e49 => ?_)
            have q49 : u_2_1 = z49 := (e_2_1).trans e49.symm
            subst q49
            exact g_ireturn (gd rfl) rfl rfl (hP _ _ ⟨s, hI, fr_rf, u_2_1, rfl, rfl, in_w (-2147483648) 2147483647 ro_2_1 rfl⟩)
          · skip
            have i23 := sw_eq c23
            refine g_aload_n 54 (gd rfl) rfl rfl ?_
            refine g_getI 57 (gd rfl) rfl rfl rfl (fun z54 e54 => ?_)
            have q54 : u_2_2 = z54 := (e_2_2).trans e54.symm
            subst q54
            exact g_ireturn (gd rfl) rfl rfl (hP _ _ ⟨s, hI, fr_rf, u_2_2, rfl, rfl, in_w (-2147483648) 2147483647 (i_rng u_2_2) rfl⟩)
          · skip
            have i23 := sw_eq c23
            refine g_aload_n 59 (gd rfl) rfl rfl ?_
            refine g_callv (X := _) (As := []) (r := []) (b := A 2) (q := 2) 62 (gd rfl) rfl rfl rfl rfl rfl (ww_o rfl) (Nat.le_of_ble_eq_true rfl) (Nat.zero_le _) (Nat.zero_le _) (k_98_2 (by omega) hI ) (fun e u h => h) (fun v u h => ?_)
            obtain ⟨z59, rfl, rfl, i59⟩ := h
            show GG _ _ _ _ _ _ _ _ [.int z59] _ _ _
            exact g_ireturn (gd rfl) rfl rfl (hP _ _ ⟨s, hI, fr_rf, z59, rfl, rfl, in_w (-2147483648) 2147483647 i59 rfl⟩)
          · skip
            refine g_aload_n 64 (gd rfl) rfl rfl ?_
            refine g_getI 67 (gd rfl) rfl rfl rfl (fun z64 e64 => ?_)
            have q64 : u_2_3 = z64 := (e_2_3).trans e64.symm
            subst q64
            refine g_iconst 1 68 (gd rfl) rfl rfl ?_
            refine g_isub 69 (gd rfl) rfl (fun z68 e68 => ?_)
            have i68 := in_sub (-1) 159 e68 ro_2_3 (in_c 1 rfl) rfl rfl
            exact g_ireturn (gd rfl) rfl rfl (hP _ _ ⟨s, hI, fr_rf, z68, rfl, rfl, in_w (-2147483648) 2147483647 i68 rfl⟩)
      · skip
        exact zn_eq c14 (in_c 1 rfl) rfl

def fm_220_0 : FM := ([], [], [], [])
/-- GraphHouse.told -/
theorem k_220_0 {Z : AmZ} {A : Nat → Nat} {s : GS} {ex : va_W} {d : Nat} {x1 : Int32} {x2 : Int32} (hd : 7 ≤ d) (hI : Inv s)  : GC Z d 220 [.ref (A 0), .int x1, .int x2] (WW Z A s ++ ex) 3 18 (fun v u => ∃ t : GS, Inv t ∧ Fr fm_220_0 s t ∧ ∃ z : Int64, v = some (.long z) ∧ u = WW Z A t ++ ex) (gE1 Z A ex fm_220_0 s) := by
  intro post xp hP hX
  obtain ⟨u_0_2, e_0_2⟩ : ∃ w, w = s.2.2.1 0 2 := ⟨_, rfl⟩
  have ro_0_2 := inv_F hI (-1) 4000 rfl e_0_2
  obtain ⟨u_2_3, e_2_3⟩ : ∃ w, w = s.2.2.1 2 3 := ⟨_, rfl⟩
  have ro_2_3 := inv_F hI 0 160 rfl e_2_3
  obtain ⟨u_32_3, e_32_3⟩ : ∃ w, w = s.2.2.1 32 3 := ⟨_, rfl⟩
  have ro_32_3 := inv_F hI 0 160 rfl e_32_3
  have ct24 : ∀ (sc24 : GS) , Inv sc24 → Fr fm_220_0 s sc24 → GG Z (d - 1) 220 post (gx xp) (901) 24 (fun j => xlook j [(0, .ref (A 0)), (1, .int x1), (2, .int x2)]) [] (WW Z A sc24 ++ ex) 3 18 := by
    intro sc24  hIc24 hFc24 
    refine g_iconst 0 25 (gd rfl) rfl rfl ?_
    refine g_thr (E := am_IA) (y := yX11_allow) 28 (gd rfl) rfl rfl (Or.inl ⟨rfl, rfl, rfl⟩) (by omega) (Nat.le_of_ble_eq_true rfl) (Nat.le_of_ble_eq_true rfl) (Nat.le_of_ble_eq_true rfl) (fun c25 => ?_) (fun c25 => ?_)
    · skip
      exact zn_ne c25 (in_c 0 rfl) rfl
    · skip
      exact (hX _ _ ⟨rfl, sc24, hIc24, hFc24, rfl⟩)
  refine g_enter2 (k := 220) (N := 1801) (by omega) rfl (Nat.le_of_ble_eq_true rfl) ?_
  refine g_iload_n 1 (gd rfl) rfl rfl ?_
  refine g_if_lt 4 24 (gd rfl) rfl rfl (fun c1 => ?_) (fun c1 => ?_)
  · skip
    have i1 := z_lt (-2147483648) (-1) c1 (i_rng x1) rfl
    exact gg_w (by omega) (gg_f (gf_cons rfl (gf_cons rfl (gf_cons rfl gf_nil))) (ct24 s  hI fr_rf ))
  · skip
    have i1 := z_ge 0 2147483647 c1 (i_rng x1) rfl
    refine g_iload_n 5 (gd rfl) rfl rfl ?_
    refine g_sipush 160 8 (gd rfl) rfl rfl ?_
    refine g_cmp_ge 11 24 (gd rfl) rfl rfl (fun c8 => ?_) (fun c8 => ?_)
    · skip
      have i8 := r_le2 160 2147483647 c8 (in_c 160 rfl) i1 rfl
      exact gg_w (by omega) (gg_f (gf_cons rfl (gf_cons rfl (gf_cons rfl gf_nil))) (ct24 s  hI fr_rf ))
    · skip
      have i8 := r_lt1 0 159 c8 i1 (in_c 160 rfl) rfl
      refine g_iload_n 12 (gd rfl) rfl rfl ?_
      refine g_if_lt 15 24 (gd rfl) rfl rfl (fun c12 => ?_) (fun c12 => ?_)
      · skip
        have i12 := z_lt (-2147483648) (-1) c12 (i_rng x2) rfl
        exact gg_w (by omega) (gg_f (gf_cons rfl (gf_cons rfl (gf_cons rfl gf_nil))) (ct24 s  hI fr_rf ))
      · skip
        have i12 := z_ge 0 2147483647 c12 (i_rng x2) rfl
        refine g_iload_n 16 (gd rfl) rfl rfl ?_
        refine g_iconst 4 17 (gd rfl) rfl rfl ?_
        refine g_cmp_gt 20 24 (gd rfl) rfl rfl (fun c17 => ?_) (fun c17 => ?_)
        · skip
          have i17 := r_lt2 5 2147483647 c17 (in_c 4 rfl) i12 rfl
          exact gg_w (by omega) (gg_f (gf_cons rfl (gf_cons rfl (gf_cons rfl gf_nil))) (ct24 s  hI fr_rf ))
        · skip
          have i17 := r_le1 0 4 c17 i12 (in_c 4 rfl) rfl
          refine g_iconst 1 21 (gd rfl) rfl rfl ?_
          refine g_goto 25 (gd rfl) rfl ?_
          refine g_thr (E := am_IA) (y := yX11_allow) 28 (gd rfl) rfl rfl (Or.inl ⟨rfl, rfl, rfl⟩) (by omega) (Nat.le_of_ble_eq_true rfl) (Nat.le_of_ble_eq_true rfl) (Nat.le_of_ble_eq_true rfl) (fun c25 => ?_) (fun c25 => ?_)
          · skip
            refine g_aload_n 29 (gd rfl) rfl rfl ?_
            refine g_callv (X := _) (As := []) (r := []) (b := A 0) (q := 0) 32 (gd rfl) rfl rfl rfl rfl rfl (ww_o rfl) (Nat.le_of_ble_eq_true rfl) (mc := 0) (ms := 0) (Nat.zero_le _) (Nat.zero_le _) (P := fun v u => _) ?_ (fun e u h => h) (fun v u h => h)
            intro po29 xx29 hp29 hx29
            refine g_enter2 (k := 259) (N := 300) (by omega) rfl (Nat.le_of_ble_eq_true rfl) ?_
            refine g_aload_n 1 (gd rfl) rfl rfl ?_
            refine g_getI 4 (gd rfl) rfl rfl rfl (fun z29x1 e29x1 => ?_)
            have q29x1 : u_0_2 = z29x1 := (e_0_2).trans e29x1.symm
            subst q29x1
            refine g_iconst (-1) 5 (gd rfl) rfl rfl ?_
            refine g_cmp_ne 8 18 (gd rfl) rfl rfl (fun c29x5 => ?_) (fun c29x5 => ?_)
            · skip
              have i29x5 := r_ne1 0 4000 c29x5 ro_0_2 (in_c (-1) rfl) rfl
              refine g_aload_n 19 (gd rfl) rfl rfl ?_
              refine g_getA (q2 := 32) 22 (gd rfl) rfl rfl rfl rfl ?_
              refine g_areturn (gd rfl) rfl (hp29 _ _ ?_)
              show GG _ _ _ _ _ _ _ _ [.ref (A 32)] _ _ _
              refine g_astore_n 33 (gd rfl) rfl (Nat.le_of_ble_eq_true rfl) ?_
              refine g_aload_n 34 (gd rfl) rfl rfl ?_
              refine g_iload_n 35 (gd rfl) rfl rfl ?_
              refine g_callv (X := _) (As := [.int x1]) (r := []) (b := A 32) (q := 32) 38 (gd rfl) rfl rfl rfl rfl rfl (ww_o rfl) (Nat.le_of_ble_eq_true rfl) (mc := 0) (ms := 0) (Nat.zero_le _) (Nat.zero_le _) (P := fun v u => _) ?_ (fun e u h => h) (fun v u h => h)
              intro po35 xx35 hp35 hx35
              refine g_enter2 (k := 96) (N := 300) (by omega) rfl (Nat.le_of_ble_eq_true rfl) ?_
              refine g_iload_n 1 (gd rfl) rfl rfl ?_
              refine g_if_lt 4 26 (gd rfl) rfl rfl (fun c35x1 => ?_) (fun c35x1 => ?_)
              · skip
                exact zn_lt c35x1 i8 rfl
              · skip
                refine g_iload_n 5 (gd rfl) rfl rfl ?_
                refine g_aload_n 6 (gd rfl) rfl rfl ?_
                refine g_getI 9 (gd rfl) rfl rfl rfl (fun z35x6 e35x6 => ?_)
                have q35x6 : u_32_3 = z35x6 := (e_32_3).trans e35x6.symm
                subst q35x6
                refine g_cmp_ge 12 26 (gd rfl) rfl rfl (fun c35x9 => ?_) (fun c35x9 => ?_)
                · skip
                  have i35x9 := r_le1 0 159 c35x9 ro_32_3 i8 rfl
                  refine g_iconst 0 27 (gd rfl) rfl rfl ?_
                  refine g_ireturn (gd rfl) rfl (nb01 (in_w 0 1 (in_c 0 rfl) rfl)) (hp35 _ _ ?_)
                  show GG _ _ _ _ _ _ _ _ [.int (Int32.ofInt 0)] _ _ _
                  refine g_if_ne 41 45 (gd rfl) rfl rfl (fun c38 => ?_) (fun c38 => ?_)
                  · skip
                    exact zn_ne c38 (in_c 0 rfl) rfl
                  · skip
                    refine g_ldc2_w 9000000000000000 44 (gd rfl) rfl rfl ?_
                    exact g_lreturn (gd rfl) rfl (hP _ _ ⟨s, hI, fr_rf, (Int64.ofInt 9000000000000000), rfl, rfl⟩)
                · skip
                  have i35x9 := r_lt2 1 160 c35x9 i8 ro_32_3 rfl
                  refine g_aload_n 13 (gd rfl) rfl rfl ?_
                  refine g_getA (q2 := 34) 16 (gd rfl) rfl rfl rfl rfl ?_
                  refine g_iload_n 17 (gd rfl) rfl rfl ?_
                  refine g_iaload 18 (gd rfl) rfl (n := 160) rfl (in_ix i8 rfl) (fun z35x17 e35x17 => ?_)
                  have i35x17 := inv_I hI (n := 160) (t := 0) (-1) 31 rfl (in_ix i8 rfl) rfl e35x17
                  refine g_iconst (-1) 19 (gd rfl) rfl rfl ?_
                  refine g_cmp_eq 22 26 (gd rfl) rfl rfl (fun c35x19 => ?_) (fun c35x19 => ?_)
                  · skip
                    have i35x19 := r_eq1 (-1) (-1) c35x19 i35x17 (in_c (-1) rfl) rfl
                    refine g_iconst 0 27 (gd rfl) rfl rfl ?_
                    refine g_ireturn (gd rfl) rfl (nb01 (in_w 0 1 (in_c 0 rfl) rfl)) (hp35 _ _ ?_)
                    show GG _ _ _ _ _ _ _ _ [.int (Int32.ofInt 0)] _ _ _
                    refine g_if_ne 41 45 (gd rfl) rfl rfl (fun c38 => ?_) (fun c38 => ?_)
                    · skip
                      exact zn_ne c38 (in_c 0 rfl) rfl
                    · skip
                      refine g_ldc2_w 9000000000000000 44 (gd rfl) rfl rfl ?_
                      exact g_lreturn (gd rfl) rfl (hP _ _ ⟨s, hI, fr_rf, (Int64.ofInt 9000000000000000), rfl, rfl⟩)
                  · skip
                    have i35x19 := r_ne1 0 31 c35x19 i35x17 (in_c (-1) rfl) rfl
                    refine g_iconst 1 23 (gd rfl) rfl rfl ?_
                    refine g_goto 27 (gd rfl) rfl ?_
                    refine g_ireturn (gd rfl) rfl (nb01 (in_w 0 1 (in_c 1 rfl) rfl)) (hp35 _ _ ?_)
                    show GG _ _ _ _ _ _ _ _ [.int (Int32.ofInt 1)] _ _ _
                    refine g_if_ne 41 45 (gd rfl) rfl rfl (fun c38 => ?_) (fun c38 => ?_)
                    · skip
                      refine g_iload_n 46 (gd rfl) rfl rfl ?_
                      refine g_if_ne 49 57 (gd rfl) rfl rfl (fun c46 => ?_) (fun c46 => ?_)
                      · skip
                        have i46 := z_ne 1 4 c46 i17 rfl
                        refine g_iload_n 58 (gd rfl) rfl rfl ?_
                        refine g_iconst 1 59 (gd rfl) rfl rfl ?_
                        refine g_cmp_ne 62 72 (gd rfl) rfl rfl (fun c59 => ?_) (fun c59 => ?_)
                        · skip
                          have i59 := r_ne1 2 4 c59 i46 (in_c 1 rfl) rfl
                          refine g_aload_n 73 (gd rfl) rfl rfl ?_
                          refine g_iload_n 74 (gd rfl) rfl rfl ?_
                          refine g_iload_n 75 (gd rfl) rfl rfl ?_
                          refine g_iconst 2 76 (gd rfl) rfl rfl ?_
                          refine g_isub 77 (gd rfl) rfl (fun z76 e76 => ?_)
                          have i76 := in_sub 0 2 e76 i59 (in_c 2 rfl) rfl rfl
                          refine g_callv (X := _) (As := [.int x1, .int z76]) (r := []) (b := A 32) (q := 32) 80 (gd rfl) rfl rfl rfl rfl rfl (ww_o rfl) (Nat.le_of_ble_eq_true rfl) (mc := 0) (ms := 0) (Nat.zero_le _) (Nat.zero_le _) (P := fun v u => _) ?_ (fun e u h => h) (fun v u h => h)
                          intro po77 xx77 hp77 hx77
                          refine g_enter2 (k := 100) (N := 300) (by omega) rfl (Nat.le_of_ble_eq_true rfl) ?_
                          refine g_iload_n 1 (gd rfl) rfl rfl ?_
                          refine g_if_ne 4 11 (gd rfl) rfl rfl (fun c77x1 => ?_) (fun c77x1 => ?_)
                          · skip
                            have i77x1 := z_ne 1 2 c77x1 i76 rfl
                            refine g_iload_n 12 (gd rfl) rfl rfl ?_
                            refine g_iconst 1 13 (gd rfl) rfl rfl ?_
                            refine g_cmp_ne 16 25 (gd rfl) rfl rfl (fun c77x13 => ?_) (fun c77x13 => ?_)
                            · skip
                              have i77x13 := r_ne1 2 2 c77x13 i77x1 (in_c 1 rfl) rfl
                              refine g_aload_n 26 (gd rfl) rfl rfl ?_
                              refine g_getA (q2 := 38) 29 (gd rfl) rfl rfl rfl rfl ?_
                              refine g_iload_n 30 (gd rfl) rfl rfl ?_
                              refine g_iaload 31 (gd rfl) rfl (n := 160) rfl (in_ix i8 rfl) (fun z77x30 e77x30 => ?_)
                              have i77x30 := inv_I hI (n := 160) (t := 0) 0 25 rfl (in_ix i8 rfl) rfl e77x30
                              refine g_ireturn (gd rfl) rfl rfl (hp77 _ _ ?_)
                              show GG _ _ _ _ _ _ _ _ [.int z77x30] _ _ _
                              refine g_i2l 81 (gd rfl) rfl (fun z80 e80 => ?_)
                              have i80 := l_i e80 i77x30
                              exact g_lreturn (gd rfl) rfl (hP _ _ ⟨s, hI, fr_rf, z80, rfl, rfl⟩)
                            · skip
                              have i77x13 := r_eq1 1 1 c77x13 i77x1 (in_c 1 rfl) rfl
                              refine g_aload_n 17 (gd rfl) rfl rfl ?_
                              refine g_getA (q2 := 37) 20 (gd rfl) rfl rfl rfl rfl ?_
                              refine g_iload_n 21 (gd rfl) rfl rfl ?_
                              refine g_iaload 22 (gd rfl) rfl (n := 160) rfl (in_ix i8 rfl) (fun z77x21 e77x21 => ?_)
                              have i77x21 := inv_I hI (n := 160) (t := 0) 0 1000000 rfl (in_ix i8 rfl) rfl e77x21
                              refine g_goto 31 (gd rfl) rfl ?_
                              refine g_ireturn (gd rfl) rfl rfl (hp77 _ _ ?_)
                              show GG _ _ _ _ _ _ _ _ [.int z77x21] _ _ _
                              refine g_i2l 81 (gd rfl) rfl (fun z80 e80 => ?_)
                              have i80 := l_i e80 i77x21
                              exact g_lreturn (gd rfl) rfl (hP _ _ ⟨s, hI, fr_rf, z80, rfl, rfl⟩)
                          · skip
                            have i77x1 := z_eq 0 0 c77x1 i76 rfl
                            refine g_aload_n 5 (gd rfl) rfl rfl ?_
                            refine g_getA (q2 := 36) 8 (gd rfl) rfl rfl rfl rfl ?_
                            refine g_iload_n 9 (gd rfl) rfl rfl ?_
                            refine g_iaload 10 (gd rfl) rfl (n := 160) rfl (in_ix i8 rfl) (fun z77x9 e77x9 => ?_)
                            have i77x9 := inv_I hI (n := 160) (t := 0) (-1000000) 1000000 rfl (in_ix i8 rfl) rfl e77x9
                            refine g_ireturn (gd rfl) rfl rfl (hp77 _ _ ?_)
                            show GG _ _ _ _ _ _ _ _ [.int z77x9] _ _ _
                            refine g_i2l 81 (gd rfl) rfl (fun z80 e80 => ?_)
                            have i80 := l_i e80 i77x9
                            exact g_lreturn (gd rfl) rfl (hP _ _ ⟨s, hI, fr_rf, z80, rfl, rfl⟩)
                        · skip
                          have i59 := r_eq1 1 1 c59 i46 (in_c 1 rfl) rfl
                          refine g_aload_n 63 (gd rfl) rfl rfl ?_
                          refine g_getA (q2 := 35) 66 (gd rfl) rfl rfl rfl rfl ?_
                          refine g_iload_n 67 (gd rfl) rfl rfl ?_
                          refine g_iaload 68 (gd rfl) rfl (n := 160) rfl (in_ix i8 rfl) (fun z67 e67 => ?_)
                          have i67 := inv_I hI (n := 160) (t := 0) 0 31 rfl (in_ix i8 rfl) rfl e67
                          refine g_i2l 69 (gd rfl) rfl (fun z68 e68 => ?_)
                          have i68 := l_i e68 i67
                          refine g_goto 81 (gd rfl) rfl ?_
                          exact g_lreturn (gd rfl) rfl (hP _ _ ⟨s, hI, fr_rf, z68, rfl, rfl⟩)
                      · skip
                        have i46 := z_eq 0 0 c46 i17 rfl
                        refine g_aload_n 50 (gd rfl) rfl rfl ?_
                        refine g_getA (q2 := 34) 53 (gd rfl) rfl rfl rfl rfl ?_
                        refine g_iload_n 54 (gd rfl) rfl rfl ?_
                        refine g_iaload 55 (gd rfl) rfl (n := 160) rfl (in_ix i8 rfl) (fun z54 e54 => ?_)
                        have q54 : z35x17 = z54 := (e35x17).trans e54.symm
                        subst q54
                        refine g_i2l 56 (gd rfl) rfl (fun z55 e55 => ?_)
                        have i55 := l_i e55 i35x19
                        exact g_lreturn (gd rfl) rfl (hP _ _ ⟨s, hI, fr_rf, z55, rfl, rfl⟩)
                    · skip
                      exact zn_eq c38 (in_c 1 rfl) rfl
            · skip
              have i29x5 := r_eq1 (-1) (-1) c29x5 ro_0_2 (in_c (-1) rfl) rfl
              refine g_aload_n 9 (gd rfl) rfl rfl ?_
              refine g_getA (q2 := 1) 12 (gd rfl) rfl rfl rfl rfl ?_
              refine g_getA (q2 := 2) 15 (gd rfl) rfl rfl rfl rfl ?_
              refine g_goto 22 (gd rfl) rfl ?_
              refine g_areturn (gd rfl) rfl (hp29 _ _ ?_)
              show GG _ _ _ _ _ _ _ _ [.ref (A 2)] _ _ _
              refine g_astore_n 33 (gd rfl) rfl (Nat.le_of_ble_eq_true rfl) ?_
              refine g_aload_n 34 (gd rfl) rfl rfl ?_
              refine g_iload_n 35 (gd rfl) rfl rfl ?_
              refine g_callv (X := _) (As := [.int x1]) (r := []) (b := A 2) (q := 2) 38 (gd rfl) rfl rfl rfl rfl rfl (ww_o rfl) (Nat.le_of_ble_eq_true rfl) (mc := 0) (ms := 0) (Nat.zero_le _) (Nat.zero_le _) (P := fun v u => _) ?_ (fun e u h => h) (fun v u h => h)
              intro po35 xx35 hp35 hx35
              refine g_enter2 (k := 96) (N := 300) (by omega) rfl (Nat.le_of_ble_eq_true rfl) ?_
              refine g_iload_n 1 (gd rfl) rfl rfl ?_
              refine g_if_lt 4 26 (gd rfl) rfl rfl (fun c35x1 => ?_) (fun c35x1 => ?_)
              · skip
                exact zn_lt c35x1 i8 rfl
              · skip
                refine g_iload_n 5 (gd rfl) rfl rfl ?_
                refine g_aload_n 6 (gd rfl) rfl rfl ?_
                refine g_getI 9 (gd rfl) rfl rfl rfl (fun z35x6 e35x6 => ?_)
                have q35x6 : u_2_3 = z35x6 := (e_2_3).trans e35x6.symm
                subst q35x6
                refine g_cmp_ge 12 26 (gd rfl) rfl rfl (fun c35x9 => ?_) (fun c35x9 => ?_)
                · skip
                  have i35x9 := r_le1 0 159 c35x9 ro_2_3 i8 rfl
                  refine g_iconst 0 27 (gd rfl) rfl rfl ?_
                  refine g_ireturn (gd rfl) rfl (nb01 (in_w 0 1 (in_c 0 rfl) rfl)) (hp35 _ _ ?_)
                  show GG _ _ _ _ _ _ _ _ [.int (Int32.ofInt 0)] _ _ _
                  refine g_if_ne 41 45 (gd rfl) rfl rfl (fun c38 => ?_) (fun c38 => ?_)
                  · skip
                    exact zn_ne c38 (in_c 0 rfl) rfl
                  · skip
                    refine g_ldc2_w 9000000000000000 44 (gd rfl) rfl rfl ?_
                    exact g_lreturn (gd rfl) rfl (hP _ _ ⟨s, hI, fr_rf, (Int64.ofInt 9000000000000000), rfl, rfl⟩)
                · skip
                  have i35x9 := r_lt2 1 160 c35x9 i8 ro_2_3 rfl
                  refine g_aload_n 13 (gd rfl) rfl rfl ?_
                  refine g_getA (q2 := 4) 16 (gd rfl) rfl rfl rfl rfl ?_
                  refine g_iload_n 17 (gd rfl) rfl rfl ?_
                  refine g_iaload 18 (gd rfl) rfl (n := 160) rfl (in_ix i8 rfl) (fun z35x17 e35x17 => ?_)
                  have i35x17 := inv_I hI (n := 160) (t := 0) (-1) 31 rfl (in_ix i8 rfl) rfl e35x17
                  refine g_iconst (-1) 19 (gd rfl) rfl rfl ?_
                  refine g_cmp_eq 22 26 (gd rfl) rfl rfl (fun c35x19 => ?_) (fun c35x19 => ?_)
                  · skip
                    have i35x19 := r_eq1 (-1) (-1) c35x19 i35x17 (in_c (-1) rfl) rfl
                    refine g_iconst 0 27 (gd rfl) rfl rfl ?_
                    refine g_ireturn (gd rfl) rfl (nb01 (in_w 0 1 (in_c 0 rfl) rfl)) (hp35 _ _ ?_)
                    show GG _ _ _ _ _ _ _ _ [.int (Int32.ofInt 0)] _ _ _
                    refine g_if_ne 41 45 (gd rfl) rfl rfl (fun c38 => ?_) (fun c38 => ?_)
                    · skip
                      exact zn_ne c38 (in_c 0 rfl) rfl
                    · skip
                      refine g_ldc2_w 9000000000000000 44 (gd rfl) rfl rfl ?_
                      exact g_lreturn (gd rfl) rfl (hP _ _ ⟨s, hI, fr_rf, (Int64.ofInt 9000000000000000), rfl, rfl⟩)
                  · skip
                    have i35x19 := r_ne1 0 31 c35x19 i35x17 (in_c (-1) rfl) rfl
                    refine g_iconst 1 23 (gd rfl) rfl rfl ?_
                    refine g_goto 27 (gd rfl) rfl ?_
                    refine g_ireturn (gd rfl) rfl (nb01 (in_w 0 1 (in_c 1 rfl) rfl)) (hp35 _ _ ?_)
                    show GG _ _ _ _ _ _ _ _ [.int (Int32.ofInt 1)] _ _ _
                    refine g_if_ne 41 45 (gd rfl) rfl rfl (fun c38 => ?_) (fun c38 => ?_)
                    · skip
                      refine g_iload_n 46 (gd rfl) rfl rfl ?_
                      refine g_if_ne 49 57 (gd rfl) rfl rfl (fun c46 => ?_) (fun c46 => ?_)
                      · skip
                        have i46 := z_ne 1 4 c46 i17 rfl
                        refine g_iload_n 58 (gd rfl) rfl rfl ?_
                        refine g_iconst 1 59 (gd rfl) rfl rfl ?_
                        refine g_cmp_ne 62 72 (gd rfl) rfl rfl (fun c59 => ?_) (fun c59 => ?_)
                        · skip
                          have i59 := r_ne1 2 4 c59 i46 (in_c 1 rfl) rfl
                          refine g_aload_n 73 (gd rfl) rfl rfl ?_
                          refine g_iload_n 74 (gd rfl) rfl rfl ?_
                          refine g_iload_n 75 (gd rfl) rfl rfl ?_
                          refine g_iconst 2 76 (gd rfl) rfl rfl ?_
                          refine g_isub 77 (gd rfl) rfl (fun z76 e76 => ?_)
                          have i76 := in_sub 0 2 e76 i59 (in_c 2 rfl) rfl rfl
                          refine g_callv (X := _) (As := [.int x1, .int z76]) (r := []) (b := A 2) (q := 2) 80 (gd rfl) rfl rfl rfl rfl rfl (ww_o rfl) (Nat.le_of_ble_eq_true rfl) (mc := 0) (ms := 0) (Nat.zero_le _) (Nat.zero_le _) (P := fun v u => _) ?_ (fun e u h => h) (fun v u h => h)
                          intro po77 xx77 hp77 hx77
                          refine g_enter2 (k := 100) (N := 300) (by omega) rfl (Nat.le_of_ble_eq_true rfl) ?_
                          refine g_iload_n 1 (gd rfl) rfl rfl ?_
                          refine g_if_ne 4 11 (gd rfl) rfl rfl (fun c77x1 => ?_) (fun c77x1 => ?_)
                          · skip
                            have i77x1 := z_ne 1 2 c77x1 i76 rfl
                            refine g_iload_n 12 (gd rfl) rfl rfl ?_
                            refine g_iconst 1 13 (gd rfl) rfl rfl ?_
                            refine g_cmp_ne 16 25 (gd rfl) rfl rfl (fun c77x13 => ?_) (fun c77x13 => ?_)
                            · skip
                              have i77x13 := r_ne1 2 2 c77x13 i77x1 (in_c 1 rfl) rfl
                              refine g_aload_n 26 (gd rfl) rfl rfl ?_
                              refine g_getA (q2 := 8) 29 (gd rfl) rfl rfl rfl rfl ?_
                              refine g_iload_n 30 (gd rfl) rfl rfl ?_
                              refine g_iaload 31 (gd rfl) rfl (n := 160) rfl (in_ix i8 rfl) (fun z77x30 e77x30 => ?_)
                              have i77x30 := inv_I hI (n := 160) (t := 0) 0 25 rfl (in_ix i8 rfl) rfl e77x30
                              refine g_ireturn (gd rfl) rfl rfl (hp77 _ _ ?_)
                              show GG _ _ _ _ _ _ _ _ [.int z77x30] _ _ _
                              refine g_i2l 81 (gd rfl) rfl (fun z80 e80 => ?_)
                              have i80 := l_i e80 i77x30
                              exact g_lreturn (gd rfl) rfl (hP _ _ ⟨s, hI, fr_rf, z80, rfl, rfl⟩)
                            · skip
                              have i77x13 := r_eq1 1 1 c77x13 i77x1 (in_c 1 rfl) rfl
                              refine g_aload_n 17 (gd rfl) rfl rfl ?_
                              refine g_getA (q2 := 7) 20 (gd rfl) rfl rfl rfl rfl ?_
                              refine g_iload_n 21 (gd rfl) rfl rfl ?_
                              refine g_iaload 22 (gd rfl) rfl (n := 160) rfl (in_ix i8 rfl) (fun z77x21 e77x21 => ?_)
                              have i77x21 := inv_I hI (n := 160) (t := 0) 0 1000000 rfl (in_ix i8 rfl) rfl e77x21
                              refine g_goto 31 (gd rfl) rfl ?_
                              refine g_ireturn (gd rfl) rfl rfl (hp77 _ _ ?_)
                              show GG _ _ _ _ _ _ _ _ [.int z77x21] _ _ _
                              refine g_i2l 81 (gd rfl) rfl (fun z80 e80 => ?_)
                              have i80 := l_i e80 i77x21
                              exact g_lreturn (gd rfl) rfl (hP _ _ ⟨s, hI, fr_rf, z80, rfl, rfl⟩)
                          · skip
                            have i77x1 := z_eq 0 0 c77x1 i76 rfl
                            refine g_aload_n 5 (gd rfl) rfl rfl ?_
                            refine g_getA (q2 := 6) 8 (gd rfl) rfl rfl rfl rfl ?_
                            refine g_iload_n 9 (gd rfl) rfl rfl ?_
                            refine g_iaload 10 (gd rfl) rfl (n := 160) rfl (in_ix i8 rfl) (fun z77x9 e77x9 => ?_)
                            have i77x9 := inv_I hI (n := 160) (t := 0) (-1000000) 1000000 rfl (in_ix i8 rfl) rfl e77x9
                            refine g_ireturn (gd rfl) rfl rfl (hp77 _ _ ?_)
                            show GG _ _ _ _ _ _ _ _ [.int z77x9] _ _ _
                            refine g_i2l 81 (gd rfl) rfl (fun z80 e80 => ?_)
                            have i80 := l_i e80 i77x9
                            exact g_lreturn (gd rfl) rfl (hP _ _ ⟨s, hI, fr_rf, z80, rfl, rfl⟩)
                        · skip
                          have i59 := r_eq1 1 1 c59 i46 (in_c 1 rfl) rfl
                          refine g_aload_n 63 (gd rfl) rfl rfl ?_
                          refine g_getA (q2 := 5) 66 (gd rfl) rfl rfl rfl rfl ?_
                          refine g_iload_n 67 (gd rfl) rfl rfl ?_
                          refine g_iaload 68 (gd rfl) rfl (n := 160) rfl (in_ix i8 rfl) (fun z67 e67 => ?_)
                          have i67 := inv_I hI (n := 160) (t := 0) 0 31 rfl (in_ix i8 rfl) rfl e67
                          refine g_i2l 69 (gd rfl) rfl (fun z68 e68 => ?_)
                          have i68 := l_i e68 i67
                          refine g_goto 81 (gd rfl) rfl ?_
                          exact g_lreturn (gd rfl) rfl (hP _ _ ⟨s, hI, fr_rf, z68, rfl, rfl⟩)
                      · skip
                        have i46 := z_eq 0 0 c46 i17 rfl
                        refine g_aload_n 50 (gd rfl) rfl rfl ?_
                        refine g_getA (q2 := 4) 53 (gd rfl) rfl rfl rfl rfl ?_
                        refine g_iload_n 54 (gd rfl) rfl rfl ?_
                        refine g_iaload 55 (gd rfl) rfl (n := 160) rfl (in_ix i8 rfl) (fun z54 e54 => ?_)
                        have q54 : z35x17 = z54 := (e35x17).trans e54.symm
                        subst q54
                        refine g_i2l 56 (gd rfl) rfl (fun z55 e55 => ?_)
                        have i55 := l_i e55 i35x19
                        exact g_lreturn (gd rfl) rfl (hP _ _ ⟨s, hI, fr_rf, z55, rfl, rfl⟩)
                    · skip
                      exact zn_eq c38 (in_c 1 rfl) rfl
          · skip
            exact zn_eq c25 (in_c 1 rfl) rfl

def fm_221_0 : FM := ([], [], [], [])
/-- GraphHouse.labelOf -/
theorem k_221_0 {Z : AmZ} {A : Nat → Nat} {s : GS} {ex : va_W} {d : Nat} {x1 : Int32} (hd : 7 ≤ d) (hI : Inv s)  : GC Z d 221 [.ref (A 0), .int x1] (WW Z A s ++ ex) 3 18 (fun v u => ∃ t : GS, Inv t ∧ Fr fm_221_0 s t ∧ ∃ z : Int32, v = some (.int z) ∧ u = WW Z A t ++ ex ∧ In z 0 25) (gE1 Z A ex fm_221_0 s) := by
  intro post xp hP hX
  obtain ⟨u_0_2, e_0_2⟩ : ∃ w, w = s.2.2.1 0 2 := ⟨_, rfl⟩
  have ro_0_2 := inv_F hI (-1) 4000 rfl e_0_2
  obtain ⟨u_2_1, e_2_1⟩ : ∃ w, w = s.2.2.1 2 1 := ⟨_, rfl⟩
  have ro_2_1 := inv_F hI 0 32 rfl e_2_1
  obtain ⟨u_32_1, e_32_1⟩ : ∃ w, w = s.2.2.1 32 1 := ⟨_, rfl⟩
  have ro_32_1 := inv_F hI 0 32 rfl e_32_1
  refine g_enter2 (k := 221) (N := 900) (by omega) rfl (Nat.le_of_ble_eq_true rfl) ?_
  refine g_aload_n 1 (gd rfl) rfl rfl ?_
  refine g_callv (X := _) (As := []) (r := []) (b := A 0) (q := 0) 4 (gd rfl) rfl rfl rfl rfl rfl (ww_o rfl) (Nat.le_of_ble_eq_true rfl) (mc := 0) (ms := 0) (Nat.zero_le _) (Nat.zero_le _) (P := fun v u => _) ?_ (fun e u h => h) (fun v u h => h)
  intro po1 xx1 hp1 hx1
  refine g_enter2 (k := 259) (N := 300) (by omega) rfl (Nat.le_of_ble_eq_true rfl) ?_
  refine g_aload_n 1 (gd rfl) rfl rfl ?_
  refine g_getI 4 (gd rfl) rfl rfl rfl (fun z1x1 e1x1 => ?_)
  have q1x1 : u_0_2 = z1x1 := (e_0_2).trans e1x1.symm
  subst q1x1
  refine g_iconst (-1) 5 (gd rfl) rfl rfl ?_
  refine g_cmp_ne 8 18 (gd rfl) rfl rfl (fun c1x5 => ?_) (fun c1x5 => ?_)
  · skip
    have i1x5 := r_ne1 0 4000 c1x5 ro_0_2 (in_c (-1) rfl) rfl
    refine g_aload_n 19 (gd rfl) rfl rfl ?_
    refine g_getA (q2 := 32) 22 (gd rfl) rfl rfl rfl rfl ?_
    refine g_areturn (gd rfl) rfl (hp1 _ _ ?_)
    show GG _ _ _ _ _ _ _ _ [.ref (A 32)] _ _ _
    refine g_astore_n 5 (gd rfl) rfl (Nat.le_of_ble_eq_true rfl) ?_
    refine g_aload_n 6 (gd rfl) rfl rfl ?_
    refine g_iload_n 7 (gd rfl) rfl rfl ?_
    refine g_callv (X := _) (As := [.int x1]) (r := []) (b := A 32) (q := 32) 10 (gd rfl) rfl rfl rfl rfl rfl (ww_o rfl) (Nat.le_of_ble_eq_true rfl) (mc := 0) (ms := 0) (Nat.zero_le _) (Nat.zero_le _) (P := fun v u => _) ?_ (fun e u h => h) (fun v u h => h)
    intro po7 xx7 hp7 hx7
    refine g_enter2 (k := 94) (N := 300) (by omega) rfl (Nat.le_of_ble_eq_true rfl) ?_
    refine g_iload_n 1 (gd rfl) rfl rfl ?_
    refine g_if_lt 4 16 (gd rfl) rfl rfl (fun c7x1 => ?_) (fun c7x1 => ?_)
    · skip
      have i7x1 := z_lt (-2147483648) (-1) c7x1 (i_rng x1) rfl
      refine g_iconst 0 17 (gd rfl) rfl rfl ?_
      refine g_ireturn (gd rfl) rfl (nb01 (in_w 0 1 (in_c 0 rfl) rfl)) (hp7 _ _ ?_)
      show GG _ _ _ _ _ _ _ _ [.int (Int32.ofInt 0)] _ _ _
      refine g_thr (E := am_IA) (y := yX11_allow) 13 (gd rfl) rfl rfl (Or.inl ⟨rfl, rfl, rfl⟩) (by omega) (Nat.le_of_ble_eq_true rfl) (Nat.le_of_ble_eq_true rfl) (Nat.le_of_ble_eq_true rfl) (fun c10 => ?_) (fun c10 => ?_)
      · skip
        exact zn_ne c10 (in_c 0 rfl) rfl
      · skip
        exact (hX _ _ ⟨rfl, s, hI, fr_rf, rfl⟩)
    · skip
      have i7x1 := z_ge 0 2147483647 c7x1 (i_rng x1) rfl
      refine g_iload_n 5 (gd rfl) rfl rfl ?_
      refine g_aload_n 6 (gd rfl) rfl rfl ?_
      refine g_getI 9 (gd rfl) rfl rfl rfl (fun z7x6 e7x6 => ?_)
      have q7x6 : u_32_1 = z7x6 := (e_32_1).trans e7x6.symm
      subst q7x6
      refine g_cmp_ge 12 16 (gd rfl) rfl rfl (fun c7x9 => ?_) (fun c7x9 => ?_)
      · skip
        refine g_iconst 0 17 (gd rfl) rfl rfl ?_
        refine g_ireturn (gd rfl) rfl (nb01 (in_w 0 1 (in_c 0 rfl) rfl)) (hp7 _ _ ?_)
        show GG _ _ _ _ _ _ _ _ [.int (Int32.ofInt 0)] _ _ _
        refine g_thr (E := am_IA) (y := yX11_allow) 13 (gd rfl) rfl rfl (Or.inl ⟨rfl, rfl, rfl⟩) (by omega) (Nat.le_of_ble_eq_true rfl) (Nat.le_of_ble_eq_true rfl) (Nat.le_of_ble_eq_true rfl) (fun c10 => ?_) (fun c10 => ?_)
        · skip
          exact zn_ne c10 (in_c 0 rfl) rfl
        · skip
          exact (hX _ _ ⟨rfl, s, hI, fr_rf, rfl⟩)
      · skip
        have i7x9 := r_lt1 0 31 c7x9 i7x1 ro_32_1 rfl
        have i7x9a := r_lt2 1 32 c7x9 i7x1 ro_32_1 rfl
        refine g_iconst 1 13 (gd rfl) rfl rfl ?_
        refine g_goto 17 (gd rfl) rfl ?_
        refine g_ireturn (gd rfl) rfl (nb01 (in_w 0 1 (in_c 1 rfl) rfl)) (hp7 _ _ ?_)
        show GG _ _ _ _ _ _ _ _ [.int (Int32.ofInt 1)] _ _ _
        refine g_thr (E := am_IA) (y := yX11_allow) 13 (gd rfl) rfl rfl (Or.inl ⟨rfl, rfl, rfl⟩) (by omega) (Nat.le_of_ble_eq_true rfl) (Nat.le_of_ble_eq_true rfl) (Nat.le_of_ble_eq_true rfl) (fun c10 => ?_) (fun c10 => ?_)
        · skip
          refine g_aload_n 14 (gd rfl) rfl rfl ?_
          refine g_getA (q2 := 33) 17 (gd rfl) rfl rfl rfl rfl ?_
          refine g_iload_n 18 (gd rfl) rfl rfl ?_
          refine g_iaload 19 (gd rfl) rfl (n := 32) rfl (in_ix i7x9 rfl) (fun z18 e18 => ?_)
          have i18 := inv_I hI (n := 32) (t := 0) 0 25 rfl (in_ix i7x9 rfl) rfl e18
          exact g_ireturn (gd rfl) rfl rfl (hP _ _ ⟨s, hI, fr_rf, z18, rfl, rfl, in_w 0 25 i18 rfl⟩)
        · skip
          exact zn_eq c10 (in_c 1 rfl) rfl
  · skip
    have i1x5 := r_eq1 (-1) (-1) c1x5 ro_0_2 (in_c (-1) rfl) rfl
    refine g_aload_n 9 (gd rfl) rfl rfl ?_
    refine g_getA (q2 := 1) 12 (gd rfl) rfl rfl rfl rfl ?_
    refine g_getA (q2 := 2) 15 (gd rfl) rfl rfl rfl rfl ?_
    refine g_goto 22 (gd rfl) rfl ?_
    refine g_areturn (gd rfl) rfl (hp1 _ _ ?_)
    show GG _ _ _ _ _ _ _ _ [.ref (A 2)] _ _ _
    refine g_astore_n 5 (gd rfl) rfl (Nat.le_of_ble_eq_true rfl) ?_
    refine g_aload_n 6 (gd rfl) rfl rfl ?_
    refine g_iload_n 7 (gd rfl) rfl rfl ?_
    refine g_callv (X := _) (As := [.int x1]) (r := []) (b := A 2) (q := 2) 10 (gd rfl) rfl rfl rfl rfl rfl (ww_o rfl) (Nat.le_of_ble_eq_true rfl) (mc := 0) (ms := 0) (Nat.zero_le _) (Nat.zero_le _) (P := fun v u => _) ?_ (fun e u h => h) (fun v u h => h)
    intro po7 xx7 hp7 hx7
    refine g_enter2 (k := 94) (N := 300) (by omega) rfl (Nat.le_of_ble_eq_true rfl) ?_
    refine g_iload_n 1 (gd rfl) rfl rfl ?_
    refine g_if_lt 4 16 (gd rfl) rfl rfl (fun c7x1 => ?_) (fun c7x1 => ?_)
    · skip
      have i7x1 := z_lt (-2147483648) (-1) c7x1 (i_rng x1) rfl
      refine g_iconst 0 17 (gd rfl) rfl rfl ?_
      refine g_ireturn (gd rfl) rfl (nb01 (in_w 0 1 (in_c 0 rfl) rfl)) (hp7 _ _ ?_)
      show GG _ _ _ _ _ _ _ _ [.int (Int32.ofInt 0)] _ _ _
      refine g_thr (E := am_IA) (y := yX11_allow) 13 (gd rfl) rfl rfl (Or.inl ⟨rfl, rfl, rfl⟩) (by omega) (Nat.le_of_ble_eq_true rfl) (Nat.le_of_ble_eq_true rfl) (Nat.le_of_ble_eq_true rfl) (fun c10 => ?_) (fun c10 => ?_)
      · skip
        exact zn_ne c10 (in_c 0 rfl) rfl
      · skip
        exact (hX _ _ ⟨rfl, s, hI, fr_rf, rfl⟩)
    · skip
      have i7x1 := z_ge 0 2147483647 c7x1 (i_rng x1) rfl
      refine g_iload_n 5 (gd rfl) rfl rfl ?_
      refine g_aload_n 6 (gd rfl) rfl rfl ?_
      refine g_getI 9 (gd rfl) rfl rfl rfl (fun z7x6 e7x6 => ?_)
      have q7x6 : u_2_1 = z7x6 := (e_2_1).trans e7x6.symm
      subst q7x6
      refine g_cmp_ge 12 16 (gd rfl) rfl rfl (fun c7x9 => ?_) (fun c7x9 => ?_)
      · skip
        refine g_iconst 0 17 (gd rfl) rfl rfl ?_
        refine g_ireturn (gd rfl) rfl (nb01 (in_w 0 1 (in_c 0 rfl) rfl)) (hp7 _ _ ?_)
        show GG _ _ _ _ _ _ _ _ [.int (Int32.ofInt 0)] _ _ _
        refine g_thr (E := am_IA) (y := yX11_allow) 13 (gd rfl) rfl rfl (Or.inl ⟨rfl, rfl, rfl⟩) (by omega) (Nat.le_of_ble_eq_true rfl) (Nat.le_of_ble_eq_true rfl) (Nat.le_of_ble_eq_true rfl) (fun c10 => ?_) (fun c10 => ?_)
        · skip
          exact zn_ne c10 (in_c 0 rfl) rfl
        · skip
          exact (hX _ _ ⟨rfl, s, hI, fr_rf, rfl⟩)
      · skip
        have i7x9 := r_lt1 0 31 c7x9 i7x1 ro_2_1 rfl
        have i7x9a := r_lt2 1 32 c7x9 i7x1 ro_2_1 rfl
        refine g_iconst 1 13 (gd rfl) rfl rfl ?_
        refine g_goto 17 (gd rfl) rfl ?_
        refine g_ireturn (gd rfl) rfl (nb01 (in_w 0 1 (in_c 1 rfl) rfl)) (hp7 _ _ ?_)
        show GG _ _ _ _ _ _ _ _ [.int (Int32.ofInt 1)] _ _ _
        refine g_thr (E := am_IA) (y := yX11_allow) 13 (gd rfl) rfl rfl (Or.inl ⟨rfl, rfl, rfl⟩) (by omega) (Nat.le_of_ble_eq_true rfl) (Nat.le_of_ble_eq_true rfl) (Nat.le_of_ble_eq_true rfl) (fun c10 => ?_) (fun c10 => ?_)
        · skip
          refine g_aload_n 14 (gd rfl) rfl rfl ?_
          refine g_getA (q2 := 3) 17 (gd rfl) rfl rfl rfl rfl ?_
          refine g_iload_n 18 (gd rfl) rfl rfl ?_
          refine g_iaload 19 (gd rfl) rfl (n := 32) rfl (in_ix i7x9 rfl) (fun z18 e18 => ?_)
          have i18 := inv_I hI (n := 32) (t := 0) 0 25 rfl (in_ix i7x9 rfl) rfl e18
          exact g_ireturn (gd rfl) rfl rfl (hP _ _ ⟨s, hI, fr_rf, z18, rfl, rfl, in_w 0 25 i18 rfl⟩)
        · skip
          exact zn_eq c10 (in_c 1 rfl) rfl

def fm_222_0 : FM := ([9, 10, 11, 12, 13, 14, 15, 39, 40, 41, 42, 43, 44, 45], [], [(2, 4), (32, 4)], [])
/-- GraphHouse.arcAt -/
theorem k_222_0 {Z : AmZ} {A : Nat → Nat} {s : GS} {ex : va_W} {d : Nat} {x1 : Int32} {x2 : Int32} {x3 : Int32} (hd : 7 ≤ d) (hI : Inv s)  : GC Z d 222 [.ref (A 0), .int x1, .int x2, .int x3] (WW Z A s ++ ex) 3 18 (fun v u => ∃ t : GS, Inv t ∧ Fr fm_222_0 s t ∧ ∃ z : Int32, v = some (.int z) ∧ u = WW Z A t ++ ex ∧ In z (-1) 159) (gE1 Z A ex fm_222_0 s) := by
  intro post xp hP hX
  obtain ⟨u_0_2, e_0_2⟩ : ∃ w, w = s.2.2.1 0 2 := ⟨_, rfl⟩
  have ro_0_2 := inv_F hI (-1) 4000 rfl e_0_2
  obtain ⟨u_2_1, e_2_1⟩ : ∃ w, w = s.2.2.1 2 1 := ⟨_, rfl⟩
  have ro_2_1 := inv_F hI 0 32 rfl e_2_1
  obtain ⟨u_32_1, e_32_1⟩ : ∃ w, w = s.2.2.1 32 1 := ⟨_, rfl⟩
  have ro_32_1 := inv_F hI 0 32 rfl e_32_1
  have ct32 : ∀ (sc32 : GS) , Inv sc32 → Fr fm_222_0 s sc32 → GG Z (d - 1) 222 post (gx xp) (901) 32 (fun j => xlook j [(0, .ref (A 0)), (1, .int x1), (2, .int x2), (3, .int x3)]) [] (WW Z A sc32 ++ ex) 3 18 := by
    intro sc32  hIc32 hFc32 
    refine g_iconst 0 33 (gd rfl) rfl rfl ?_
    refine g_thr (E := am_IA) (y := yX11_allow) 36 (gd rfl) rfl rfl (Or.inl ⟨rfl, rfl, rfl⟩) (by omega) (Nat.le_of_ble_eq_true rfl) (Nat.le_of_ble_eq_true rfl) (Nat.le_of_ble_eq_true rfl) (fun c33 => ?_) (fun c33 => ?_)
    · skip
      exact zn_ne c33 (in_c 0 rfl) rfl
    · skip
      exact (hX _ _ ⟨rfl, sc32, hIc32, hFc32, rfl⟩)
  refine g_enter2 (k := 222) (N := 1801) (by omega) rfl (Nat.le_of_ble_eq_true rfl) ?_
  refine g_aload_n 1 (gd rfl) rfl rfl ?_
  refine g_callv (X := _) (As := []) (r := []) (b := A 0) (q := 0) 4 (gd rfl) rfl rfl rfl rfl rfl (ww_o rfl) (Nat.le_of_ble_eq_true rfl) (mc := 0) (ms := 0) (Nat.zero_le _) (Nat.zero_le _) (P := fun v u => _) ?_ (fun e u h => h) (fun v u h => h)
  intro po1 xx1 hp1 hx1
  refine g_enter2 (k := 259) (N := 300) (by omega) rfl (Nat.le_of_ble_eq_true rfl) ?_
  refine g_aload_n 1 (gd rfl) rfl rfl ?_
  refine g_getI 4 (gd rfl) rfl rfl rfl (fun z1x1 e1x1 => ?_)
  have q1x1 : u_0_2 = z1x1 := (e_0_2).trans e1x1.symm
  subst q1x1
  refine g_iconst (-1) 5 (gd rfl) rfl rfl ?_
  refine g_cmp_ne 8 18 (gd rfl) rfl rfl (fun c1x5 => ?_) (fun c1x5 => ?_)
  · skip
    have i1x5 := r_ne1 0 4000 c1x5 ro_0_2 (in_c (-1) rfl) rfl
    refine g_aload_n 19 (gd rfl) rfl rfl ?_
    refine g_getA (q2 := 32) 22 (gd rfl) rfl rfl rfl rfl ?_
    refine g_areturn (gd rfl) rfl (hp1 _ _ ?_)
    show GG _ _ _ _ _ _ _ _ [.ref (A 32)] _ _ _
    refine g_astore 6 (gd rfl) rfl (Nat.le_of_ble_eq_true rfl) ?_
    refine g_aload 8 (gd rfl) rfl rfl ?_
    refine g_iload_n 9 (gd rfl) rfl rfl ?_
    refine g_callv (X := _) (As := [.int x1]) (r := []) (b := A 32) (q := 32) 12 (gd rfl) rfl rfl rfl rfl rfl (ww_o rfl) (Nat.le_of_ble_eq_true rfl) (mc := 0) (ms := 0) (Nat.zero_le _) (Nat.zero_le _) (P := fun v u => _) ?_ (fun e u h => h) (fun v u h => h)
    intro po9 xx9 hp9 hx9
    refine g_enter2 (k := 94) (N := 300) (by omega) rfl (Nat.le_of_ble_eq_true rfl) ?_
    refine g_iload_n 1 (gd rfl) rfl rfl ?_
    refine g_if_lt 4 16 (gd rfl) rfl rfl (fun c9x1 => ?_) (fun c9x1 => ?_)
    · skip
      have i9x1 := z_lt (-2147483648) (-1) c9x1 (i_rng x1) rfl
      refine g_iconst 0 17 (gd rfl) rfl rfl ?_
      refine g_ireturn (gd rfl) rfl (nb01 (in_w 0 1 (in_c 0 rfl) rfl)) (hp9 _ _ ?_)
      show GG _ _ _ _ _ _ _ _ [.int (Int32.ofInt 0)] _ _ _
      refine g_if_eq 15 32 (gd rfl) rfl rfl (fun c12 => ?_) (fun c12 => ?_)
      · skip
        exact gg_w (by omega) (gg_f (gf_cons rfl (gf_cons rfl (gf_cons rfl (gf_cons rfl gf_nil)))) (ct32 s  hI fr_rf ))
      · skip
        exact zn_ne c12 (in_c 0 rfl) rfl
    · skip
      have i9x1 := z_ge 0 2147483647 c9x1 (i_rng x1) rfl
      refine g_iload_n 5 (gd rfl) rfl rfl ?_
      refine g_aload_n 6 (gd rfl) rfl rfl ?_
      refine g_getI 9 (gd rfl) rfl rfl rfl (fun z9x6 e9x6 => ?_)
      have q9x6 : u_32_1 = z9x6 := (e_32_1).trans e9x6.symm
      subst q9x6
      refine g_cmp_ge 12 16 (gd rfl) rfl rfl (fun c9x9 => ?_) (fun c9x9 => ?_)
      · skip
        refine g_iconst 0 17 (gd rfl) rfl rfl ?_
        refine g_ireturn (gd rfl) rfl (nb01 (in_w 0 1 (in_c 0 rfl) rfl)) (hp9 _ _ ?_)
        show GG _ _ _ _ _ _ _ _ [.int (Int32.ofInt 0)] _ _ _
        refine g_if_eq 15 32 (gd rfl) rfl rfl (fun c12 => ?_) (fun c12 => ?_)
        · skip
          exact gg_w (by omega) (gg_f (gf_cons rfl (gf_cons rfl (gf_cons rfl (gf_cons rfl gf_nil)))) (ct32 s  hI fr_rf ))
        · skip
          exact zn_ne c12 (in_c 0 rfl) rfl
      · skip
        have i9x9 := r_lt1 0 31 c9x9 i9x1 ro_32_1 rfl
        have i9x9a := r_lt2 1 32 c9x9 i9x1 ro_32_1 rfl
        refine g_iconst 1 13 (gd rfl) rfl rfl ?_
        refine g_goto 17 (gd rfl) rfl ?_
        refine g_ireturn (gd rfl) rfl (nb01 (in_w 0 1 (in_c 1 rfl) rfl)) (hp9 _ _ ?_)
        show GG _ _ _ _ _ _ _ _ [.int (Int32.ofInt 1)] _ _ _
        refine g_if_eq 15 32 (gd rfl) rfl rfl (fun c12 => ?_) (fun c12 => ?_)
        · skip
          exact zn_eq c12 (in_c 1 rfl) rfl
        · skip
          refine g_iload_n 16 (gd rfl) rfl rfl ?_
          refine g_if_lt 19 32 (gd rfl) rfl rfl (fun c16 => ?_) (fun c16 => ?_)
          · skip
            have i16 := z_lt (-2147483648) (-1) c16 (i_rng x2) rfl
            exact gg_w (by omega) (gg_f (gf_cons rfl (gf_cons rfl (gf_cons rfl (gf_cons rfl gf_nil)))) (ct32 s  hI fr_rf ))
          · skip
            have i16 := z_ge 0 2147483647 c16 (i_rng x2) rfl
            refine g_iload_n 20 (gd rfl) rfl rfl ?_
            refine g_iconst 1 21 (gd rfl) rfl rfl ?_
            refine g_cmp_gt 24 32 (gd rfl) rfl rfl (fun c21 => ?_) (fun c21 => ?_)
            · skip
              have i21 := r_lt2 2 2147483647 c21 (in_c 1 rfl) i16 rfl
              exact gg_w (by omega) (gg_f (gf_cons rfl (gf_cons rfl (gf_cons rfl (gf_cons rfl gf_nil)))) (ct32 s  hI fr_rf ))
            · skip
              have i21 := r_le1 0 1 c21 i16 (in_c 1 rfl) rfl
              refine g_iload_n 25 (gd rfl) rfl rfl ?_
              refine g_if_lt 28 32 (gd rfl) rfl rfl (fun c25 => ?_) (fun c25 => ?_)
              · skip
                have i25 := z_lt (-2147483648) (-1) c25 (i_rng x3) rfl
                exact gg_w (by omega) (gg_f (gf_cons rfl (gf_cons rfl (gf_cons rfl (gf_cons rfl gf_nil)))) (ct32 s  hI fr_rf ))
              · skip
                have i25 := z_ge 0 2147483647 c25 (i_rng x3) rfl
                refine g_iconst 1 29 (gd rfl) rfl rfl ?_
                refine g_goto 33 (gd rfl) rfl ?_
                refine g_thr (E := am_IA) (y := yX11_allow) 36 (gd rfl) rfl rfl (Or.inl ⟨rfl, rfl, rfl⟩) (by omega) (Nat.le_of_ble_eq_true rfl) (Nat.le_of_ble_eq_true rfl) (Nat.le_of_ble_eq_true rfl) (fun c33 => ?_) (fun c33 => ?_)
                · skip
                  refine g_aload 38 (gd rfl) rfl rfl ?_
                  refine g_callv (X := _) (As := []) (r := []) (b := A 32) (q := 32) 41 (gd rfl) rfl rfl rfl rfl rfl (ww_o rfl) (Nat.le_of_ble_eq_true rfl) (Nat.zero_le _) (Nat.zero_le _) (k_106_32 (by omega) hI ) (fun e u h => h) (fun v u h => ?_)
                  obtain ⟨s38, hI38, hF38, n38, rfl, rfl⟩ := h
                  obtain ⟨z38a, e38⟩ : ∃ w, w = s38.2.2.1 32 4 := ⟨_, rfl⟩
                  have i38a := inv_F hI38 (-1) 4000 rfl e38
                  obtain ⟨z38b, e38a⟩ : ∃ w, w = s38.2.2.1 32 0 := ⟨_, rfl⟩
                  have i38b := inv_F hI38 0 4000 rfl e38a
                  rw [← (show z38a = s38.2.2.1 32 4 from e38)] at n38
                  rw [← (show z38b = s38.2.2.1 32 0 from e38a)] at n38
                  show GG _ _ _ _ _ _ _ _ [] _ _ _
                  refine g_iload_n 42 (gd rfl) rfl rfl ?_
                  refine g_if_ne 45 75 (gd rfl) rfl rfl (fun c42 => ?_) (fun c42 => ?_)
                  · skip
                    have i42 := z_ne 1 1 c42 i21 rfl
                    refine g_iload_n 76 (gd rfl) rfl rfl ?_
                    refine g_aload 78 (gd rfl) rfl rfl ?_
                    refine g_iload_n 79 (gd rfl) rfl rfl ?_
                    refine g_callv (X := _) (As := [.int x1]) (r := [.int x3]) (b := A 32) (q := 32) 82 (gd rfl) rfl rfl rfl rfl rfl (ww_o rfl) (Nat.le_of_ble_eq_true rfl) (mc := 0) (ms := 0) (Nat.zero_le _) (Nat.zero_le _) (P := fun v u => _) ?_ (fun e u h => h) (fun v u h => h)
                    intro po79 xx79 hp79 hx79
                    refine g_enter2 (k := 104) (N := 300) (by omega) rfl (Nat.le_of_ble_eq_true rfl) ?_
                    refine g_aload_n 1 (gd rfl) rfl rfl ?_
                    refine g_getA (q2 := 44) 4 (gd rfl) rfl rfl rfl rfl ?_
                    refine g_iload_n 5 (gd rfl) rfl rfl ?_
                    refine g_iconst 1 6 (gd rfl) rfl rfl ?_
                    refine g_iadd 7 (gd rfl) rfl (fun z79x6 e79x6 => ?_)
                    have i79x6 := in_add 1 32 e79x6 i9x9 (in_c 1 rfl) rfl rfl
                    refine g_iaload 8 (gd rfl) rfl (n := 33) rfl (in_ix i79x6 rfl) (fun z79x7 e79x7 => ?_)
                    have i79x7 := inv_I hI38 (n := 33) (t := 0) 0 160 rfl (in_ix i79x6 rfl) rfl e79x7
                    refine g_aload_n 9 (gd rfl) rfl rfl ?_
                    refine g_getA (q2 := 44) 12 (gd rfl) rfl rfl rfl rfl ?_
                    refine g_iload_n 13 (gd rfl) rfl rfl ?_
                    refine g_iaload 14 (gd rfl) rfl (n := 33) rfl (in_ix i9x9 rfl) (fun z79x13 e79x13 => ?_)
                    have i79x13 := inv_I hI38 (n := 33) (t := 0) 0 160 rfl (in_ix i9x9 rfl) rfl e79x13
                    refine g_isub 15 (gd rfl) rfl (fun z79x14 e79x14 => ?_)
                    have i79x14 := in_sub (-160) 160 e79x14 i79x7 i79x13 rfl rfl
                    refine g_ireturn (gd rfl) rfl rfl (hp79 _ _ ?_)
                    show GG _ _ _ _ _ _ _ _ [.int z79x14, .int x3] _ _ _
                    refine g_cmp_ge 85 103 (gd rfl) rfl rfl (fun c82 => ?_) (fun c82 => ?_)
                    · skip
                      refine g_iconst (-1) 104 (gd rfl) rfl rfl ?_
                      exact g_ireturn (gd rfl) rfl rfl (hP _ _ ⟨s38, hI38, (fr_tr rfl fr_rf hF38), (Int32.ofInt (-1)), rfl, rfl, in_w (-1) 159 (in_c (-1) rfl) rfl⟩)
                    · skip
                      have i82 := r_lt1 0 159 c82 i25 i79x14 rfl
                      have i82a := r_lt2 1 160 c82 i25 i79x14 rfl
                      refine g_aload 87 (gd rfl) rfl rfl ?_
                      refine g_getA (q2 := 45) 90 (gd rfl) rfl rfl rfl rfl ?_
                      refine g_aload 92 (gd rfl) rfl rfl ?_
                      refine g_getA (q2 := 44) 95 (gd rfl) rfl rfl rfl rfl ?_
                      refine g_iload_n 96 (gd rfl) rfl rfl ?_
                      refine g_iaload 97 (gd rfl) rfl (n := 33) rfl (in_ix i9x9 rfl) (fun z96 e96 => ?_)
                      have q96 : z79x13 = z96 := (e79x13).trans e96.symm
                      subst q96
                      refine g_iload_n 98 (gd rfl) rfl rfl ?_
                      refine g_iadd 99 (gd rfl) rfl (fun z98 e98 => ?_)
                      have i98 := in_add 0 319 e98 i79x13 i82 rfl rfl
                      have i99 : In z98 0 159 := by have a0 := i82; unfold In at a0; have a1 := i42; unfold In at a1; have a2 := i9x9; unfold In at a2; have a3 := i9x9a; unfold In at a3; have a4 := ro_2_1; unfold In at a4; have a5 := i1x5; unfold In at a5; have a6 := i38b; unfold In at a6; have a7 := i38a; unfold In at a7; have a8 := i98; unfold In at a8; have a9 := t_add e98 i79x13 i82 rfl; have a10 := i79x13; unfold In at a10; have a11 := i82a; unfold In at a11; have a12 := t_sub e79x14 i79x7 i79x13 rfl; have a13 := i79x7; unfold In at a13; have a14 := i79x6; unfold In at a14; have a15 := t_add e79x6 i9x9 (in_c 1 rfl) rfl; have a16 := (in_c 1 rfl); unfold In at a16; exact ⟨by omega, by omega⟩
                      refine g_iaload 100 (gd rfl) rfl (n := 160) rfl (in_ix i99 rfl) (fun z99 e99 => ?_)
                      have i99a := inv_I hI38 (n := 160) (t := 0) 0 159 rfl (in_ix i99 rfl) rfl e99
                      refine g_goto 104 (gd rfl) rfl ?_
                      exact g_ireturn (gd rfl) rfl rfl (hP _ _ ⟨s38, hI38, (fr_tr rfl fr_rf hF38), z99, rfl, rfl, in_w (-1) 159 i99a rfl⟩)
                  · skip
                    have i42 := z_eq 0 0 c42 i21 rfl
                    refine g_iload_n 46 (gd rfl) rfl rfl ?_
                    refine g_aload 48 (gd rfl) rfl rfl ?_
                    refine g_iload_n 49 (gd rfl) rfl rfl ?_
                    refine g_callv (X := _) (As := [.int x1]) (r := [.int x3]) (b := A 32) (q := 32) 52 (gd rfl) rfl rfl rfl rfl rfl (ww_o rfl) (Nat.le_of_ble_eq_true rfl) (mc := 0) (ms := 0) (Nat.zero_le _) (Nat.zero_le _) (P := fun v u => _) ?_ (fun e u h => h) (fun v u h => h)
                    intro po49 xx49 hp49 hx49
                    refine g_enter2 (k := 103) (N := 300) (by omega) rfl (Nat.le_of_ble_eq_true rfl) ?_
                    refine g_aload_n 1 (gd rfl) rfl rfl ?_
                    refine g_getA (q2 := 42) 4 (gd rfl) rfl rfl rfl rfl ?_
                    refine g_iload_n 5 (gd rfl) rfl rfl ?_
                    refine g_iconst 1 6 (gd rfl) rfl rfl ?_
                    refine g_iadd 7 (gd rfl) rfl (fun z49x6 e49x6 => ?_)
                    have i49x6 := in_add 1 32 e49x6 i9x9 (in_c 1 rfl) rfl rfl
                    refine g_iaload 8 (gd rfl) rfl (n := 33) rfl (in_ix i49x6 rfl) (fun z49x7 e49x7 => ?_)
                    have i49x7 := inv_I hI38 (n := 33) (t := 0) 0 160 rfl (in_ix i49x6 rfl) rfl e49x7
                    refine g_aload_n 9 (gd rfl) rfl rfl ?_
                    refine g_getA (q2 := 42) 12 (gd rfl) rfl rfl rfl rfl ?_
                    refine g_iload_n 13 (gd rfl) rfl rfl ?_
                    refine g_iaload 14 (gd rfl) rfl (n := 33) rfl (in_ix i9x9 rfl) (fun z49x13 e49x13 => ?_)
                    have i49x13 := inv_I hI38 (n := 33) (t := 0) 0 160 rfl (in_ix i9x9 rfl) rfl e49x13
                    refine g_isub 15 (gd rfl) rfl (fun z49x14 e49x14 => ?_)
                    have i49x14 := in_sub (-160) 160 e49x14 i49x7 i49x13 rfl rfl
                    refine g_ireturn (gd rfl) rfl rfl (hp49 _ _ ?_)
                    show GG _ _ _ _ _ _ _ _ [.int z49x14, .int x3] _ _ _
                    refine g_cmp_ge 55 73 (gd rfl) rfl rfl (fun c52 => ?_) (fun c52 => ?_)
                    · skip
                      refine g_iconst (-1) 74 (gd rfl) rfl rfl ?_
                      exact g_ireturn (gd rfl) rfl rfl (hP _ _ ⟨s38, hI38, (fr_tr rfl fr_rf hF38), (Int32.ofInt (-1)), rfl, rfl, in_w (-1) 159 (in_c (-1) rfl) rfl⟩)
                    · skip
                      have i52 := r_lt1 0 159 c52 i25 i49x14 rfl
                      have i52a := r_lt2 1 160 c52 i25 i49x14 rfl
                      refine g_aload 57 (gd rfl) rfl rfl ?_
                      refine g_getA (q2 := 43) 60 (gd rfl) rfl rfl rfl rfl ?_
                      refine g_aload 62 (gd rfl) rfl rfl ?_
                      refine g_getA (q2 := 42) 65 (gd rfl) rfl rfl rfl rfl ?_
                      refine g_iload_n 66 (gd rfl) rfl rfl ?_
                      refine g_iaload 67 (gd rfl) rfl (n := 33) rfl (in_ix i9x9 rfl) (fun z66 e66 => ?_)
                      have q66 : z49x13 = z66 := (e49x13).trans e66.symm
                      subst q66
                      refine g_iload_n 68 (gd rfl) rfl rfl ?_
                      refine g_iadd 69 (gd rfl) rfl (fun z68 e68 => ?_)
                      have i68 := in_add 0 319 e68 i49x13 i52 rfl rfl
                      have i69 : In z68 0 159 := by have a0 := i52; unfold In at a0; have a1 := i42; unfold In at a1; have a2 := i9x9; unfold In at a2; have a3 := i9x9a; unfold In at a3; have a4 := ro_2_1; unfold In at a4; have a5 := i1x5; unfold In at a5; have a6 := i38b; unfold In at a6; have a7 := i38a; unfold In at a7; have a8 := i68; unfold In at a8; have a9 := t_add e68 i49x13 i52 rfl; have a10 := i49x13; unfold In at a10; have a11 := i52a; unfold In at a11; have a12 := t_sub e49x14 i49x7 i49x13 rfl; have a13 := i49x7; unfold In at a13; have a14 := i49x6; unfold In at a14; have a15 := t_add e49x6 i9x9 (in_c 1 rfl) rfl; have a16 := (in_c 1 rfl); unfold In at a16; exact ⟨by omega, by omega⟩
                      refine g_iaload 70 (gd rfl) rfl (n := 160) rfl (in_ix i69 rfl) (fun z69 e69 => ?_)
                      have i69a := inv_I hI38 (n := 160) (t := 0) 0 159 rfl (in_ix i69 rfl) rfl e69
                      refine g_goto 74 (gd rfl) rfl ?_
                      exact g_ireturn (gd rfl) rfl rfl (hP _ _ ⟨s38, hI38, (fr_tr rfl fr_rf hF38), z69, rfl, rfl, in_w (-1) 159 i69a rfl⟩)
                · skip
                  exact zn_eq c33 (in_c 1 rfl) rfl
  · skip
    have i1x5 := r_eq1 (-1) (-1) c1x5 ro_0_2 (in_c (-1) rfl) rfl
    refine g_aload_n 9 (gd rfl) rfl rfl ?_
    refine g_getA (q2 := 1) 12 (gd rfl) rfl rfl rfl rfl ?_
    refine g_getA (q2 := 2) 15 (gd rfl) rfl rfl rfl rfl ?_
    refine g_goto 22 (gd rfl) rfl ?_
    refine g_areturn (gd rfl) rfl (hp1 _ _ ?_)
    show GG _ _ _ _ _ _ _ _ [.ref (A 2)] _ _ _
    refine g_astore 6 (gd rfl) rfl (Nat.le_of_ble_eq_true rfl) ?_
    refine g_aload 8 (gd rfl) rfl rfl ?_
    refine g_iload_n 9 (gd rfl) rfl rfl ?_
    refine g_callv (X := _) (As := [.int x1]) (r := []) (b := A 2) (q := 2) 12 (gd rfl) rfl rfl rfl rfl rfl (ww_o rfl) (Nat.le_of_ble_eq_true rfl) (mc := 0) (ms := 0) (Nat.zero_le _) (Nat.zero_le _) (P := fun v u => _) ?_ (fun e u h => h) (fun v u h => h)
    intro po9 xx9 hp9 hx9
    refine g_enter2 (k := 94) (N := 300) (by omega) rfl (Nat.le_of_ble_eq_true rfl) ?_
    refine g_iload_n 1 (gd rfl) rfl rfl ?_
    refine g_if_lt 4 16 (gd rfl) rfl rfl (fun c9x1 => ?_) (fun c9x1 => ?_)
    · skip
      have i9x1 := z_lt (-2147483648) (-1) c9x1 (i_rng x1) rfl
      refine g_iconst 0 17 (gd rfl) rfl rfl ?_
      refine g_ireturn (gd rfl) rfl (nb01 (in_w 0 1 (in_c 0 rfl) rfl)) (hp9 _ _ ?_)
      show GG _ _ _ _ _ _ _ _ [.int (Int32.ofInt 0)] _ _ _
      refine g_if_eq 15 32 (gd rfl) rfl rfl (fun c12 => ?_) (fun c12 => ?_)
      · skip
        exact gg_w (by omega) (gg_f (gf_cons rfl (gf_cons rfl (gf_cons rfl (gf_cons rfl gf_nil)))) (ct32 s  hI fr_rf ))
      · skip
        exact zn_ne c12 (in_c 0 rfl) rfl
    · skip
      have i9x1 := z_ge 0 2147483647 c9x1 (i_rng x1) rfl
      refine g_iload_n 5 (gd rfl) rfl rfl ?_
      refine g_aload_n 6 (gd rfl) rfl rfl ?_
      refine g_getI 9 (gd rfl) rfl rfl rfl (fun z9x6 e9x6 => ?_)
      have q9x6 : u_2_1 = z9x6 := (e_2_1).trans e9x6.symm
      subst q9x6
      refine g_cmp_ge 12 16 (gd rfl) rfl rfl (fun c9x9 => ?_) (fun c9x9 => ?_)
      · skip
        refine g_iconst 0 17 (gd rfl) rfl rfl ?_
        refine g_ireturn (gd rfl) rfl (nb01 (in_w 0 1 (in_c 0 rfl) rfl)) (hp9 _ _ ?_)
        show GG _ _ _ _ _ _ _ _ [.int (Int32.ofInt 0)] _ _ _
        refine g_if_eq 15 32 (gd rfl) rfl rfl (fun c12 => ?_) (fun c12 => ?_)
        · skip
          exact gg_w (by omega) (gg_f (gf_cons rfl (gf_cons rfl (gf_cons rfl (gf_cons rfl gf_nil)))) (ct32 s  hI fr_rf ))
        · skip
          exact zn_ne c12 (in_c 0 rfl) rfl
      · skip
        have i9x9 := r_lt1 0 31 c9x9 i9x1 ro_2_1 rfl
        have i9x9a := r_lt2 1 32 c9x9 i9x1 ro_2_1 rfl
        refine g_iconst 1 13 (gd rfl) rfl rfl ?_
        refine g_goto 17 (gd rfl) rfl ?_
        refine g_ireturn (gd rfl) rfl (nb01 (in_w 0 1 (in_c 1 rfl) rfl)) (hp9 _ _ ?_)
        show GG _ _ _ _ _ _ _ _ [.int (Int32.ofInt 1)] _ _ _
        refine g_if_eq 15 32 (gd rfl) rfl rfl (fun c12 => ?_) (fun c12 => ?_)
        · skip
          exact zn_eq c12 (in_c 1 rfl) rfl
        · skip
          refine g_iload_n 16 (gd rfl) rfl rfl ?_
          refine g_if_lt 19 32 (gd rfl) rfl rfl (fun c16 => ?_) (fun c16 => ?_)
          · skip
            have i16 := z_lt (-2147483648) (-1) c16 (i_rng x2) rfl
            exact gg_w (by omega) (gg_f (gf_cons rfl (gf_cons rfl (gf_cons rfl (gf_cons rfl gf_nil)))) (ct32 s  hI fr_rf ))
          · skip
            have i16 := z_ge 0 2147483647 c16 (i_rng x2) rfl
            refine g_iload_n 20 (gd rfl) rfl rfl ?_
            refine g_iconst 1 21 (gd rfl) rfl rfl ?_
            refine g_cmp_gt 24 32 (gd rfl) rfl rfl (fun c21 => ?_) (fun c21 => ?_)
            · skip
              have i21 := r_lt2 2 2147483647 c21 (in_c 1 rfl) i16 rfl
              exact gg_w (by omega) (gg_f (gf_cons rfl (gf_cons rfl (gf_cons rfl (gf_cons rfl gf_nil)))) (ct32 s  hI fr_rf ))
            · skip
              have i21 := r_le1 0 1 c21 i16 (in_c 1 rfl) rfl
              refine g_iload_n 25 (gd rfl) rfl rfl ?_
              refine g_if_lt 28 32 (gd rfl) rfl rfl (fun c25 => ?_) (fun c25 => ?_)
              · skip
                have i25 := z_lt (-2147483648) (-1) c25 (i_rng x3) rfl
                exact gg_w (by omega) (gg_f (gf_cons rfl (gf_cons rfl (gf_cons rfl (gf_cons rfl gf_nil)))) (ct32 s  hI fr_rf ))
              · skip
                have i25 := z_ge 0 2147483647 c25 (i_rng x3) rfl
                refine g_iconst 1 29 (gd rfl) rfl rfl ?_
                refine g_goto 33 (gd rfl) rfl ?_
                refine g_thr (E := am_IA) (y := yX11_allow) 36 (gd rfl) rfl rfl (Or.inl ⟨rfl, rfl, rfl⟩) (by omega) (Nat.le_of_ble_eq_true rfl) (Nat.le_of_ble_eq_true rfl) (Nat.le_of_ble_eq_true rfl) (fun c33 => ?_) (fun c33 => ?_)
                · skip
                  refine g_aload 38 (gd rfl) rfl rfl ?_
                  refine g_callv (X := _) (As := []) (r := []) (b := A 2) (q := 2) 41 (gd rfl) rfl rfl rfl rfl rfl (ww_o rfl) (Nat.le_of_ble_eq_true rfl) (Nat.zero_le _) (Nat.zero_le _) (k_106_2 (by omega) hI ) (fun e u h => h) (fun v u h => ?_)
                  obtain ⟨s38, hI38, hF38, n38, rfl, rfl⟩ := h
                  obtain ⟨z38a, e38⟩ : ∃ w, w = s38.2.2.1 2 4 := ⟨_, rfl⟩
                  have i38a := inv_F hI38 (-1) 4000 rfl e38
                  obtain ⟨z38b, e38a⟩ : ∃ w, w = s38.2.2.1 2 0 := ⟨_, rfl⟩
                  have i38b := inv_F hI38 0 4000 rfl e38a
                  rw [← (show z38a = s38.2.2.1 2 4 from e38)] at n38
                  rw [← (show z38b = s38.2.2.1 2 0 from e38a)] at n38
                  show GG _ _ _ _ _ _ _ _ [] _ _ _
                  refine g_iload_n 42 (gd rfl) rfl rfl ?_
                  refine g_if_ne 45 75 (gd rfl) rfl rfl (fun c42 => ?_) (fun c42 => ?_)
                  · skip
                    have i42 := z_ne 1 1 c42 i21 rfl
                    refine g_iload_n 76 (gd rfl) rfl rfl ?_
                    refine g_aload 78 (gd rfl) rfl rfl ?_
                    refine g_iload_n 79 (gd rfl) rfl rfl ?_
                    refine g_callv (X := _) (As := [.int x1]) (r := [.int x3]) (b := A 2) (q := 2) 82 (gd rfl) rfl rfl rfl rfl rfl (ww_o rfl) (Nat.le_of_ble_eq_true rfl) (mc := 0) (ms := 0) (Nat.zero_le _) (Nat.zero_le _) (P := fun v u => _) ?_ (fun e u h => h) (fun v u h => h)
                    intro po79 xx79 hp79 hx79
                    refine g_enter2 (k := 104) (N := 300) (by omega) rfl (Nat.le_of_ble_eq_true rfl) ?_
                    refine g_aload_n 1 (gd rfl) rfl rfl ?_
                    refine g_getA (q2 := 14) 4 (gd rfl) rfl rfl rfl rfl ?_
                    refine g_iload_n 5 (gd rfl) rfl rfl ?_
                    refine g_iconst 1 6 (gd rfl) rfl rfl ?_
                    refine g_iadd 7 (gd rfl) rfl (fun z79x6 e79x6 => ?_)
                    have i79x6 := in_add 1 32 e79x6 i9x9 (in_c 1 rfl) rfl rfl
                    refine g_iaload 8 (gd rfl) rfl (n := 33) rfl (in_ix i79x6 rfl) (fun z79x7 e79x7 => ?_)
                    have i79x7 := inv_I hI38 (n := 33) (t := 0) 0 160 rfl (in_ix i79x6 rfl) rfl e79x7
                    refine g_aload_n 9 (gd rfl) rfl rfl ?_
                    refine g_getA (q2 := 14) 12 (gd rfl) rfl rfl rfl rfl ?_
                    refine g_iload_n 13 (gd rfl) rfl rfl ?_
                    refine g_iaload 14 (gd rfl) rfl (n := 33) rfl (in_ix i9x9 rfl) (fun z79x13 e79x13 => ?_)
                    have i79x13 := inv_I hI38 (n := 33) (t := 0) 0 160 rfl (in_ix i9x9 rfl) rfl e79x13
                    refine g_isub 15 (gd rfl) rfl (fun z79x14 e79x14 => ?_)
                    have i79x14 := in_sub (-160) 160 e79x14 i79x7 i79x13 rfl rfl
                    refine g_ireturn (gd rfl) rfl rfl (hp79 _ _ ?_)
                    show GG _ _ _ _ _ _ _ _ [.int z79x14, .int x3] _ _ _
                    refine g_cmp_ge 85 103 (gd rfl) rfl rfl (fun c82 => ?_) (fun c82 => ?_)
                    · skip
                      refine g_iconst (-1) 104 (gd rfl) rfl rfl ?_
                      exact g_ireturn (gd rfl) rfl rfl (hP _ _ ⟨s38, hI38, (fr_tr rfl fr_rf hF38), (Int32.ofInt (-1)), rfl, rfl, in_w (-1) 159 (in_c (-1) rfl) rfl⟩)
                    · skip
                      have i82 := r_lt1 0 159 c82 i25 i79x14 rfl
                      have i82a := r_lt2 1 160 c82 i25 i79x14 rfl
                      refine g_aload 87 (gd rfl) rfl rfl ?_
                      refine g_getA (q2 := 15) 90 (gd rfl) rfl rfl rfl rfl ?_
                      refine g_aload 92 (gd rfl) rfl rfl ?_
                      refine g_getA (q2 := 14) 95 (gd rfl) rfl rfl rfl rfl ?_
                      refine g_iload_n 96 (gd rfl) rfl rfl ?_
                      refine g_iaload 97 (gd rfl) rfl (n := 33) rfl (in_ix i9x9 rfl) (fun z96 e96 => ?_)
                      have q96 : z79x13 = z96 := (e79x13).trans e96.symm
                      subst q96
                      refine g_iload_n 98 (gd rfl) rfl rfl ?_
                      refine g_iadd 99 (gd rfl) rfl (fun z98 e98 => ?_)
                      have i98 := in_add 0 319 e98 i79x13 i82 rfl rfl
                      have i99 : In z98 0 159 := by have a0 := i82; unfold In at a0; have a1 := i42; unfold In at a1; have a2 := i9x9; unfold In at a2; have a3 := ro_32_1; unfold In at a3; have a4 := i9x9a; unfold In at a4; have a5 := i1x5; unfold In at a5; have a6 := i38b; unfold In at a6; have a7 := i38a; unfold In at a7; have a8 := i98; unfold In at a8; have a9 := t_add e98 i79x13 i82 rfl; have a10 := i79x13; unfold In at a10; have a11 := i82a; unfold In at a11; have a12 := t_sub e79x14 i79x7 i79x13 rfl; have a13 := i79x7; unfold In at a13; have a14 := i79x6; unfold In at a14; have a15 := t_add e79x6 i9x9 (in_c 1 rfl) rfl; have a16 := (in_c 1 rfl); unfold In at a16; exact ⟨by omega, by omega⟩
                      refine g_iaload 100 (gd rfl) rfl (n := 160) rfl (in_ix i99 rfl) (fun z99 e99 => ?_)
                      have i99a := inv_I hI38 (n := 160) (t := 0) 0 159 rfl (in_ix i99 rfl) rfl e99
                      refine g_goto 104 (gd rfl) rfl ?_
                      exact g_ireturn (gd rfl) rfl rfl (hP _ _ ⟨s38, hI38, (fr_tr rfl fr_rf hF38), z99, rfl, rfl, in_w (-1) 159 i99a rfl⟩)
                  · skip
                    have i42 := z_eq 0 0 c42 i21 rfl
                    refine g_iload_n 46 (gd rfl) rfl rfl ?_
                    refine g_aload 48 (gd rfl) rfl rfl ?_
                    refine g_iload_n 49 (gd rfl) rfl rfl ?_
                    refine g_callv (X := _) (As := [.int x1]) (r := [.int x3]) (b := A 2) (q := 2) 52 (gd rfl) rfl rfl rfl rfl rfl (ww_o rfl) (Nat.le_of_ble_eq_true rfl) (mc := 0) (ms := 0) (Nat.zero_le _) (Nat.zero_le _) (P := fun v u => _) ?_ (fun e u h => h) (fun v u h => h)
                    intro po49 xx49 hp49 hx49
                    refine g_enter2 (k := 103) (N := 300) (by omega) rfl (Nat.le_of_ble_eq_true rfl) ?_
                    refine g_aload_n 1 (gd rfl) rfl rfl ?_
                    refine g_getA (q2 := 12) 4 (gd rfl) rfl rfl rfl rfl ?_
                    refine g_iload_n 5 (gd rfl) rfl rfl ?_
                    refine g_iconst 1 6 (gd rfl) rfl rfl ?_
                    refine g_iadd 7 (gd rfl) rfl (fun z49x6 e49x6 => ?_)
                    have i49x6 := in_add 1 32 e49x6 i9x9 (in_c 1 rfl) rfl rfl
                    refine g_iaload 8 (gd rfl) rfl (n := 33) rfl (in_ix i49x6 rfl) (fun z49x7 e49x7 => ?_)
                    have i49x7 := inv_I hI38 (n := 33) (t := 0) 0 160 rfl (in_ix i49x6 rfl) rfl e49x7
                    refine g_aload_n 9 (gd rfl) rfl rfl ?_
                    refine g_getA (q2 := 12) 12 (gd rfl) rfl rfl rfl rfl ?_
                    refine g_iload_n 13 (gd rfl) rfl rfl ?_
                    refine g_iaload 14 (gd rfl) rfl (n := 33) rfl (in_ix i9x9 rfl) (fun z49x13 e49x13 => ?_)
                    have i49x13 := inv_I hI38 (n := 33) (t := 0) 0 160 rfl (in_ix i9x9 rfl) rfl e49x13
                    refine g_isub 15 (gd rfl) rfl (fun z49x14 e49x14 => ?_)
                    have i49x14 := in_sub (-160) 160 e49x14 i49x7 i49x13 rfl rfl
                    refine g_ireturn (gd rfl) rfl rfl (hp49 _ _ ?_)
                    show GG _ _ _ _ _ _ _ _ [.int z49x14, .int x3] _ _ _
                    refine g_cmp_ge 55 73 (gd rfl) rfl rfl (fun c52 => ?_) (fun c52 => ?_)
                    · skip
                      refine g_iconst (-1) 74 (gd rfl) rfl rfl ?_
                      exact g_ireturn (gd rfl) rfl rfl (hP _ _ ⟨s38, hI38, (fr_tr rfl fr_rf hF38), (Int32.ofInt (-1)), rfl, rfl, in_w (-1) 159 (in_c (-1) rfl) rfl⟩)
                    · skip
                      have i52 := r_lt1 0 159 c52 i25 i49x14 rfl
                      have i52a := r_lt2 1 160 c52 i25 i49x14 rfl
                      refine g_aload 57 (gd rfl) rfl rfl ?_
                      refine g_getA (q2 := 13) 60 (gd rfl) rfl rfl rfl rfl ?_
                      refine g_aload 62 (gd rfl) rfl rfl ?_
                      refine g_getA (q2 := 12) 65 (gd rfl) rfl rfl rfl rfl ?_
                      refine g_iload_n 66 (gd rfl) rfl rfl ?_
                      refine g_iaload 67 (gd rfl) rfl (n := 33) rfl (in_ix i9x9 rfl) (fun z66 e66 => ?_)
                      have q66 : z49x13 = z66 := (e49x13).trans e66.symm
                      subst q66
                      refine g_iload_n 68 (gd rfl) rfl rfl ?_
                      refine g_iadd 69 (gd rfl) rfl (fun z68 e68 => ?_)
                      have i68 := in_add 0 319 e68 i49x13 i52 rfl rfl
                      have i69 : In z68 0 159 := by have a0 := i52; unfold In at a0; have a1 := i42; unfold In at a1; have a2 := i9x9; unfold In at a2; have a3 := ro_32_1; unfold In at a3; have a4 := i9x9a; unfold In at a4; have a5 := i1x5; unfold In at a5; have a6 := i38b; unfold In at a6; have a7 := i38a; unfold In at a7; have a8 := i68; unfold In at a8; have a9 := t_add e68 i49x13 i52 rfl; have a10 := i49x13; unfold In at a10; have a11 := i52a; unfold In at a11; have a12 := t_sub e49x14 i49x7 i49x13 rfl; have a13 := i49x7; unfold In at a13; have a14 := i49x6; unfold In at a14; have a15 := t_add e49x6 i9x9 (in_c 1 rfl) rfl; have a16 := (in_c 1 rfl); unfold In at a16; exact ⟨by omega, by omega⟩
                      refine g_iaload 70 (gd rfl) rfl (n := 160) rfl (in_ix i69 rfl) (fun z69 e69 => ?_)
                      have i69a := inv_I hI38 (n := 160) (t := 0) 0 159 rfl (in_ix i69 rfl) rfl e69
                      refine g_goto 74 (gd rfl) rfl ?_
                      exact g_ireturn (gd rfl) rfl rfl (hP _ _ ⟨s38, hI38, (fr_tr rfl fr_rf hF38), z69, rfl, rfl, in_w (-1) 159 i69a rfl⟩)
                · skip
                  exact zn_eq c33 (in_c 1 rfl) rfl

def fm_223_0 : FM := ([47], [], [(46, 1)], [])
/-- GraphHouse.type -/
theorem k_223_0 {Z : AmZ} {A : Nat → Nat} {s : GS} {ex : va_W} {d : Nat} {x1 : Int32} (hd : 7 ≤ d) (hI : Inv s)  : GC Z d 223 [.ref (A 0), .int x1] (WW Z A s ++ ex) 3 18 (fun v u => ∃ t : GS, Inv t ∧ Fr fm_223_0 s t ∧ ∃ z : Int32, v = some (.int z) ∧ u = WW Z A t ++ ex ∧ In z 1 1000) (gE2 Z A ex fm_223_0 s) := by
  intro post xp hP hX
  refine g_enter2 (k := 223) (N := 900) (by omega) rfl (Nat.le_of_ble_eq_true rfl) ?_
  refine g_iload_n 1 (gd rfl) rfl rfl ?_
  refine g_bipush 32 3 (gd rfl) rfl rfl ?_
  refine g_cmp_lt 6 16 (gd rfl) rfl rfl (fun c3 => ?_) (fun c3 => ?_)
  · skip
    have i3 := r_lt1 (-2147483648) 31 c3 (i_rng x1) (in_c 32 rfl) rfl
    refine g_iconst 0 17 (gd rfl) rfl rfl ?_
    refine g_thr (E := am_IA) (y := yX11_allow) 20 (gd rfl) rfl rfl (Or.inl ⟨rfl, rfl, rfl⟩) (by omega) (Nat.le_of_ble_eq_true rfl) (Nat.le_of_ble_eq_true rfl) (Nat.le_of_ble_eq_true rfl) (fun c17 => ?_) (fun c17 => ?_)
    · skip
      exact zn_ne c17 (in_c 0 rfl) rfl
    · skip
      exact (hX _ _ ⟨Or.inl rfl, s, hI, fr_rf, rfl⟩)
  · skip
    have i3 := r_le2 32 2147483647 c3 (in_c 32 rfl) (i_rng x1) rfl
    refine g_iload_n 7 (gd rfl) rfl rfl ?_
    refine g_bipush 126 9 (gd rfl) rfl rfl ?_
    refine g_cmp_gt 12 16 (gd rfl) rfl rfl (fun c9 => ?_) (fun c9 => ?_)
    · skip
      have i9 := r_lt2 127 2147483647 c9 (in_c 126 rfl) i3 rfl
      refine g_iconst 0 17 (gd rfl) rfl rfl ?_
      refine g_thr (E := am_IA) (y := yX11_allow) 20 (gd rfl) rfl rfl (Or.inl ⟨rfl, rfl, rfl⟩) (by omega) (Nat.le_of_ble_eq_true rfl) (Nat.le_of_ble_eq_true rfl) (Nat.le_of_ble_eq_true rfl) (fun c17 => ?_) (fun c17 => ?_)
      · skip
        exact zn_ne c17 (in_c 0 rfl) rfl
      · skip
        exact (hX _ _ ⟨Or.inl rfl, s, hI, fr_rf, rfl⟩)
    · skip
      have i9 := r_le1 32 126 c9 i3 (in_c 126 rfl) rfl
      refine g_iconst 1 13 (gd rfl) rfl rfl ?_
      refine g_goto 17 (gd rfl) rfl ?_
      refine g_thr (E := am_IA) (y := yX11_allow) 20 (gd rfl) rfl rfl (Or.inl ⟨rfl, rfl, rfl⟩) (by omega) (Nat.le_of_ble_eq_true rfl) (Nat.le_of_ble_eq_true rfl) (Nat.le_of_ble_eq_true rfl) (fun c17 => ?_) (fun c17 => ?_)
      · skip
        refine g_aload_n 21 (gd rfl) rfl rfl ?_
        refine g_getA (q2 := 46) 24 (gd rfl) rfl rfl rfl rfl ?_
        refine g_getI 27 (gd rfl) rfl rfl rfl (fun z24 e24 => ?_)
        have i24 := inv_F hI 0 1000 rfl e24
        refine g_sipush 1000 30 (gd rfl) rfl rfl ?_
        refine g_cmp_ge 33 37 (gd rfl) rfl rfl (fun c30 => ?_) (fun c30 => ?_)
        · skip
          have i30 := r_le2 1000 1000 c30 (in_c 1000 rfl) i24 rfl
          refine g_iconst 0 38 (gd rfl) rfl rfl ?_
          refine g_thr (E := am_IS) (y := yX11_ready) 41 (gd rfl) rfl rfl (Or.inr ⟨rfl, rfl, rfl⟩) (by omega) (Nat.le_of_ble_eq_true rfl) (Nat.le_of_ble_eq_true rfl) (Nat.le_of_ble_eq_true rfl) (fun c38 => ?_) (fun c38 => ?_)
          · skip
            exact zn_ne c38 (in_c 0 rfl) rfl
          · skip
            exact (hX _ _ ⟨Or.inr rfl, s, hI, fr_rf, rfl⟩)
        · skip
          have i30 := r_lt1 0 999 c30 i24 (in_c 1000 rfl) rfl
          refine g_iconst 1 34 (gd rfl) rfl rfl ?_
          refine g_goto 38 (gd rfl) rfl ?_
          refine g_thr (E := am_IS) (y := yX11_ready) 41 (gd rfl) rfl rfl (Or.inr ⟨rfl, rfl, rfl⟩) (by omega) (Nat.le_of_ble_eq_true rfl) (Nat.le_of_ble_eq_true rfl) (Nat.le_of_ble_eq_true rfl) (fun c38 => ?_) (fun c38 => ?_)
          · skip
            refine g_aload_n 42 (gd rfl) rfl rfl ?_
            refine g_getA (q2 := 46) 45 (gd rfl) rfl rfl rfl rfl ?_
            refine g_getA (q2 := 47) 48 (gd rfl) rfl rfl rfl rfl ?_
            refine g_aload_n 49 (gd rfl) rfl rfl ?_
            refine g_getA (q2 := 46) 52 (gd rfl) rfl rfl rfl rfl ?_
            refine g_getI 55 (gd rfl) rfl rfl rfl (fun z52 e52 => ?_)
            have q52 : z24 = z52 := (e24).trans e52.symm
            subst q52
            refine g_iload_n 56 (gd rfl) rfl rfl ?_
            refine g_i2c 57 (gd rfl) rfl (fun z56 e56 => ?_)
            have i56 := in_i2c e56
            refine g_castore 58 (gd rfl) rfl (n := 1000) rfl (in_ix i30 rfl) ?_
            have hI57 := inv_sI (q := 47) (j := z24.toNatClampNeg) hI rfl (in_w 0 65535 (nar_c z56) rfl)
            refine g_aload_n 59 (gd rfl) rfl rfl ?_
            refine g_getA (q2 := 46) 62 (gd rfl) rfl rfl rfl rfl ?_
            refine g_dup 63 (gd rfl) rfl rfl ?_
            refine g_getI 66 (gd rfl) rfl rfl rfl (fun z63 e63 => ?_)
            have q63 : z24 = z63 := (sI_F (e24)).trans e63.symm
            subst q63
            refine g_iconst 1 67 (gd rfl) rfl rfl ?_
            refine g_iadd 68 (gd rfl) rfl (fun z67 e67 => ?_)
            have i67 := in_add 1 1000 e67 i30 (in_c 1 rfl) rfl rfl
            refine g_putI 71 (gd rfl) rfl rfl rfl rfl ?_
            have hI68 := inv_sF (q := 46) (j := 1) hI57 rfl (in_w 0 1000 i67 rfl)
            refine g_aload_n 72 (gd rfl) rfl rfl ?_
            refine g_getA (q2 := 46) 75 (gd rfl) rfl rfl rfl rfl ?_
            refine g_getI 78 (gd rfl) rfl rfl rfl (fun z75 e75 => ?_)
            have q75 : z67 = z75 := (sF_get).trans e75.symm
            subst q75
            exact g_ireturn (gd rfl) rfl rfl (hP _ _ ⟨(sF (sI s 47 z24.toNatClampNeg (vp_nar .char z56)) 46 1 z67), hI68, (fr_sF rfl (fr_sI rfl fr_rf)), z67, rfl, rfl, in_w 1 1000 i67 rfl⟩)
          · skip
            exact zn_eq c38 (in_c 1 rfl) rfl
      · skip
        exact zn_eq c17 (in_c 1 rfl) rfl

def fm_224_0 : FM := ([], [], [(46, 1)], [])
/-- GraphHouse.wipe -/
theorem k_224_0 {Z : AmZ} {A : Nat → Nat} {s : GS} {ex : va_W} {d : Nat} {X : AmX}  (hd : 1 ≤ d) (hI : Inv s)  : GC Z d 224 [.ref (A 0)] (WW Z A s ++ ex) 3 18 (fun v u => ∃ t : GS, Inv t ∧ Fr fm_224_0 s t ∧ ∃ z : Int32, v = some (.int z) ∧ u = WW Z A t ++ ex ∧ In z 0 1000) X := by
  intro post xp hP hX
  refine g_enter2 (k := 224) (N := 900) (by omega) rfl (Nat.le_of_ble_eq_true rfl) ?_
  refine g_aload_n 1 (gd rfl) rfl rfl ?_
  refine g_getA (q2 := 46) 4 (gd rfl) rfl rfl rfl rfl ?_
  refine g_getI 7 (gd rfl) rfl rfl rfl (fun z4 e4 => ?_)
  have i4 := inv_F hI 0 1000 rfl e4
  refine g_istore_n 8 (gd rfl) rfl (Nat.le_of_ble_eq_true rfl) ?_
  refine g_aload_n 9 (gd rfl) rfl rfl ?_
  refine g_getA (q2 := 46) 12 (gd rfl) rfl rfl rfl rfl ?_
  refine g_iconst 0 13 (gd rfl) rfl rfl ?_
  refine g_putI 16 (gd rfl) rfl rfl rfl rfl ?_
  have hI13 := inv_sF (q := 46) (j := 1) hI rfl (in_w 0 1000 (in_c 0 rfl) rfl)
  refine g_iload_n 17 (gd rfl) rfl rfl ?_
  exact g_ireturn (gd rfl) rfl rfl (hP _ _ ⟨(sF s 46 1 (Int32.ofInt 0)), hI13, (fr_sF rfl fr_rf), z4, rfl, rfl, in_w 0 1000 i4 rfl⟩)

def fm_226_0 : FM := ([], [], [], [])
/-- GraphHouse.fault -/
theorem k_226_0 {Z : AmZ} {A : Nat → Nat} {s : GS} {ex : va_W} {d : Nat} {x1 : Int32} (hd : 7 ≤ d) (hI : Inv s)  : GC Z d 226 [.ref (A 0), .int x1] (WW Z A s ++ ex) 3 18 (fun v u => ∃ t : GS, Inv t ∧ Fr fm_226_0 s t ∧ ∃ z : Int32, v = some (.int z) ∧ u = WW Z A t ++ ex ∧ In z (-1) 1000) (gE1 Z A ex fm_226_0 s) := by
  intro post xp hP hX
  obtain ⟨u_46_6, e_46_6⟩ : ∃ w, w = s.2.2.1 46 6 := ⟨_, rfl⟩
  have ro_46_6 := inv_F hI (-1) 5 rfl e_46_6
  obtain ⟨u_46_7, e_46_7⟩ : ∃ w, w = s.2.2.1 46 7 := ⟨_, rfl⟩
  have ro_46_7 := inv_F hI (-1) 1000 rfl e_46_7
  refine g_enter2 (k := 226) (N := 900) (by omega) rfl (Nat.le_of_ble_eq_true rfl) ?_
  refine g_iload_n 1 (gd rfl) rfl rfl ?_
  refine g_if_lt 4 13 (gd rfl) rfl rfl (fun c1 => ?_) (fun c1 => ?_)
  · skip
    have i1 := z_lt (-2147483648) (-1) c1 (i_rng x1) rfl
    refine g_iconst 0 14 (gd rfl) rfl rfl ?_
    refine g_thr (E := am_IA) (y := yX11_allow) 17 (gd rfl) rfl rfl (Or.inl ⟨rfl, rfl, rfl⟩) (by omega) (Nat.le_of_ble_eq_true rfl) (Nat.le_of_ble_eq_true rfl) (Nat.le_of_ble_eq_true rfl) (fun c14 => ?_) (fun c14 => ?_)
    · skip
      exact zn_ne c14 (in_c 0 rfl) rfl
    · skip
      exact (hX _ _ ⟨rfl, s, hI, fr_rf, rfl⟩)
  · skip
    have i1 := z_ge 0 2147483647 c1 (i_rng x1) rfl
    refine g_iload_n 5 (gd rfl) rfl rfl ?_
    refine g_iconst 1 6 (gd rfl) rfl rfl ?_
    refine g_cmp_gt 9 13 (gd rfl) rfl rfl (fun c6 => ?_) (fun c6 => ?_)
    · skip
      have i6 := r_lt2 2 2147483647 c6 (in_c 1 rfl) i1 rfl
      refine g_iconst 0 14 (gd rfl) rfl rfl ?_
      refine g_thr (E := am_IA) (y := yX11_allow) 17 (gd rfl) rfl rfl (Or.inl ⟨rfl, rfl, rfl⟩) (by omega) (Nat.le_of_ble_eq_true rfl) (Nat.le_of_ble_eq_true rfl) (Nat.le_of_ble_eq_true rfl) (fun c14 => ?_) (fun c14 => ?_)
      · skip
        exact zn_ne c14 (in_c 0 rfl) rfl
      · skip
        exact (hX _ _ ⟨rfl, s, hI, fr_rf, rfl⟩)
    · skip
      have i6 := r_le1 0 1 c6 i1 (in_c 1 rfl) rfl
      refine g_iconst 1 10 (gd rfl) rfl rfl ?_
      refine g_goto 14 (gd rfl) rfl ?_
      refine g_thr (E := am_IA) (y := yX11_allow) 17 (gd rfl) rfl rfl (Or.inl ⟨rfl, rfl, rfl⟩) (by omega) (Nat.le_of_ble_eq_true rfl) (Nat.le_of_ble_eq_true rfl) (Nat.le_of_ble_eq_true rfl) (fun c14 => ?_) (fun c14 => ?_)
      · skip
        refine g_iload_n 18 (gd rfl) rfl rfl ?_
        refine g_if_ne 21 31 (gd rfl) rfl rfl (fun c18 => ?_) (fun c18 => ?_)
        · skip
          have i18 := z_ne 1 1 c18 i6 rfl
          refine g_aload_n 32 (gd rfl) rfl rfl ?_
          refine g_getA (q2 := 46) 35 (gd rfl) rfl rfl rfl rfl ?_
          refine g_getI 38 (gd rfl) rfl rfl rfl (fun z35 e35 => ?_)
          have q35 : u_46_7 = z35 := (e_46_7).trans e35.symm
          subst q35
          exact g_ireturn (gd rfl) rfl rfl (hP _ _ ⟨s, hI, fr_rf, u_46_7, rfl, rfl, in_w (-1) 1000 ro_46_7 rfl⟩)
        · skip
          have i18 := z_eq 0 0 c18 i6 rfl
          refine g_aload_n 22 (gd rfl) rfl rfl ?_
          refine g_getA (q2 := 46) 25 (gd rfl) rfl rfl rfl rfl ?_
          refine g_getI 28 (gd rfl) rfl rfl rfl (fun z25 e25 => ?_)
          have q25 : u_46_6 = z25 := (e_46_6).trans e25.symm
          subst q25
          refine g_goto 38 (gd rfl) rfl ?_
          exact g_ireturn (gd rfl) rfl rfl (hP _ _ ⟨s, hI, fr_rf, u_46_6, rfl, rfl, in_w (-1) 1000 ro_46_6 rfl⟩)
      · skip
        exact zn_eq c14 (in_c 1 rfl) rfl

def fm_228_0 : FM := ([], [], [], [])
/-- GraphHouse.printed -/
theorem k_228_0 {Z : AmZ} {A : Nat → Nat} {s : GS} {ex : va_W} {d : Nat} {x1 : Int32} (hd : 7 ≤ d) (hI : Inv s)  : GC Z d 228 [.ref (A 0), .int x1] (WW Z A s ++ ex) 3 18 (fun v u => ∃ t : GS, Inv t ∧ Fr fm_228_0 s t ∧ ∃ z : Int32, v = some (.int z) ∧ u = WW Z A t ++ ex ∧ In z 0 65535) (gE1 Z A ex fm_228_0 s) := by
  intro post xp hP hX
  obtain ⟨u_46_9, e_46_9⟩ : ∃ w, w = s.2.2.1 46 9 := ⟨_, rfl⟩
  have ro_46_9 := inv_F hI 0 4608 rfl e_46_9
  refine g_enter2 (k := 228) (N := 900) (by omega) rfl (Nat.le_of_ble_eq_true rfl) ?_
  refine g_iload_n 1 (gd rfl) rfl rfl ?_
  refine g_if_lt 4 19 (gd rfl) rfl rfl (fun c1 => ?_) (fun c1 => ?_)
  · skip
    have i1 := z_lt (-2147483648) (-1) c1 (i_rng x1) rfl
    refine g_iconst 0 20 (gd rfl) rfl rfl ?_
    refine g_thr (E := am_IA) (y := yX11_allow) 23 (gd rfl) rfl rfl (Or.inl ⟨rfl, rfl, rfl⟩) (by omega) (Nat.le_of_ble_eq_true rfl) (Nat.le_of_ble_eq_true rfl) (Nat.le_of_ble_eq_true rfl) (fun c20 => ?_) (fun c20 => ?_)
    · skip
      exact zn_ne c20 (in_c 0 rfl) rfl
    · skip
      exact (hX _ _ ⟨rfl, s, hI, fr_rf, rfl⟩)
  · skip
    have i1 := z_ge 0 2147483647 c1 (i_rng x1) rfl
    refine g_iload_n 5 (gd rfl) rfl rfl ?_
    refine g_aload_n 6 (gd rfl) rfl rfl ?_
    refine g_getA (q2 := 46) 9 (gd rfl) rfl rfl rfl rfl ?_
    refine g_getI 12 (gd rfl) rfl rfl rfl (fun z9 e9 => ?_)
    have q9 : u_46_9 = z9 := (e_46_9).trans e9.symm
    subst q9
    refine g_cmp_ge 15 19 (gd rfl) rfl rfl (fun c12 => ?_) (fun c12 => ?_)
    · skip
      refine g_iconst 0 20 (gd rfl) rfl rfl ?_
      refine g_thr (E := am_IA) (y := yX11_allow) 23 (gd rfl) rfl rfl (Or.inl ⟨rfl, rfl, rfl⟩) (by omega) (Nat.le_of_ble_eq_true rfl) (Nat.le_of_ble_eq_true rfl) (Nat.le_of_ble_eq_true rfl) (fun c20 => ?_) (fun c20 => ?_)
      · skip
        exact zn_ne c20 (in_c 0 rfl) rfl
      · skip
        exact (hX _ _ ⟨rfl, s, hI, fr_rf, rfl⟩)
    · skip
      have i12 := r_lt1 0 4607 c12 i1 ro_46_9 rfl
      have i12a := r_lt2 1 4608 c12 i1 ro_46_9 rfl
      refine g_iconst 1 16 (gd rfl) rfl rfl ?_
      refine g_goto 20 (gd rfl) rfl ?_
      refine g_thr (E := am_IA) (y := yX11_allow) 23 (gd rfl) rfl rfl (Or.inl ⟨rfl, rfl, rfl⟩) (by omega) (Nat.le_of_ble_eq_true rfl) (Nat.le_of_ble_eq_true rfl) (Nat.le_of_ble_eq_true rfl) (fun c20 => ?_) (fun c20 => ?_)
      · skip
        refine g_aload_n 24 (gd rfl) rfl rfl ?_
        refine g_getA (q2 := 46) 27 (gd rfl) rfl rfl rfl rfl ?_
        refine g_getA (q2 := 48) 30 (gd rfl) rfl rfl rfl rfl ?_
        refine g_iload_n 31 (gd rfl) rfl rfl ?_
        refine g_caload 32 (gd rfl) rfl (n := 4608) rfl (in_ix i12 rfl) (fun z31 e31 => ?_)
        have i31 := inv_I hI (n := 4608) (t := 2) 0 65535 rfl (in_ix i12 rfl) rfl e31
        exact g_ireturn (gd rfl) rfl rfl (hP _ _ ⟨s, hI, fr_rf, z31, rfl, rfl, in_w 0 65535 i31 rfl⟩)
      · skip
        exact zn_eq c20 (in_c 1 rfl) rfl

def fm_239_0 : FM := ([9, 10, 11, 12, 13, 14, 15, 39, 40, 41, 42, 43, 44, 45], [], [(2, 4), (32, 4), (60, 0), (60, 1)], [])
/-- GraphHouse.clique -/
theorem k_239_0 {Z : AmZ} {A : Nat → Nat} {s : GS} {ex : va_W} {d : Nat} {x1 : Int32} (hd : 106 ≤ d) (hI : Inv s)  : GC Z d 239 [.ref (A 0), .int x1] (WW Z A s ++ ex) 3 18 (fun v u => ∃ t : GS, Inv t ∧ Fr fm_239_0 s t ∧ ∃ z : Int32, v = some (.int z) ∧ u = WW Z A t ++ ex ∧ In z (-1) 32) (gE1 Z A ex fm_239_0 s) := by
  intro post xp hP hX
  obtain ⟨u_0_2, e_0_2⟩ : ∃ w, w = s.2.2.1 0 2 := ⟨_, rfl⟩
  have ro_0_2 := inv_F hI (-1) 4000 rfl e_0_2
  obtain ⟨u_2_0, e_2_0⟩ : ∃ w, w = s.2.2.1 2 0 := ⟨_, rfl⟩
  have ro_2_0 := inv_F hI 0 4000 rfl e_2_0
  obtain ⟨u_2_1, e_2_1⟩ : ∃ w, w = s.2.2.1 2 1 := ⟨_, rfl⟩
  have ro_2_1 := inv_F hI 0 32 rfl e_2_1
  obtain ⟨u_32_0, e_32_0⟩ : ∃ w, w = s.2.2.1 32 0 := ⟨_, rfl⟩
  have ro_32_0 := inv_F hI 0 4000 rfl e_32_0
  obtain ⟨u_32_1, e_32_1⟩ : ∃ w, w = s.2.2.1 32 1 := ⟨_, rfl⟩
  have ro_32_1 := inv_F hI 0 32 rfl e_32_1
  have ct36 : ∀ (k36 : Nat) (sc36 : GS) (y36_2 : Int32) (y36_3 : Int32), Inv sc36 → Fr fm_239_0 s sc36 → (In x1 0 31) → (In y36_3 0 31) → 31 - (y36_3).toInt < (k36 : Int) → GG Z (d - 1) 239 post (gx xp) (1 + k36 * 900) 36 (fun j => xlook j [(0, .ref (A 0)), (1, .int x1), (2, .int y36_2), (3, .int y36_3)]) [] (WW Z A sc36 ++ ex) 2 12 := by
    intro k36
    induction k36 with
    | zero => intro sc36 y36_2 y36_3 hIc36 hFc36 j36_1 j36_3 mm36; exact m_no mm36 j36_3 rfl
    | succ k36 ih36 =>
      intro sc36 y36_2 y36_3 hIc36 hFc36 j36_1 j36_3 mm36
      refine gg_w (M := 1 + k36 * 900 + 900) (by omega) ?_
      refine g_iload_n 37 (gd rfl) rfl rfl ?_
      refine g_iload_n 38 (gd rfl) rfl rfl ?_
      refine g_cmp_ge 41 53 (gd rfl) rfl rfl (fun c38 => ?_) (fun c38 => ?_)
      · skip
        refine g_iload_n 54 (gd rfl) rfl rfl ?_
        refine g_calls (As := [.int y36_2]) (r := []) 57 (gd rfl) rfl rfl rfl rfl rfl (Nat.le_of_ble_eq_true rfl) (Nat.zero_le _) (Nat.zero_le _) (k_264 (by omega)) (fun v u h => ?_)
        obtain ⟨z54, rfl, rfl, i54, hb54⟩ := h
        show GG _ _ _ _ _ _ _ _ [.int z54] _ _ _
        exact g_ireturn (gd rfl) rfl rfl (hP _ _ ⟨sc36, hIc36, hFc36, z54, rfl, rfl, in_w (-1) 32 i54 rfl⟩)
      · skip
        have i38 := r_lt1 0 30 c38 j36_3 j36_1 rfl
        have i38a := r_lt2 1 31 c38 j36_3 j36_1 rfl
        refine g_iload_n 42 (gd rfl) rfl rfl ?_
        refine g_iload_n 43 (gd rfl) rfl rfl ?_
        refine g_iconst 1 44 (gd rfl) rfl rfl ?_
        refine g_isub 45 (gd rfl) rfl (fun z44 e44 => ?_)
        refine g_iand 46 (gd rfl) rfl (fun z45 e45 => ?_)
        refine g_istore_n 47 (gd rfl) rfl (Nat.le_of_ble_eq_true rfl) ?_
        refine g_iinc 50 (gd rfl) rfl rfl (Nat.le_of_ble_eq_true rfl) (fun z47 e47 => ?_)
        have i47 := in_add 1 31 e47 i38 (in_c 1 rfl) rfl rfl
        refine g_goto 36 (gd rfl) rfl ?_
        exact gg_w (by omega) (gg_f (gf_cons rfl (gf_cons rfl (gf_cons rfl (gf_cons rfl gf_nil)))) (ih36 sc36 z45 z47 hIc36 hFc36 (in_w 0 31 i38a rfl) (in_w 0 31 i47 rfl) (m_up mm36 (t_add e47 i38 (in_c 1 rfl) rfl) (in_w 1 1 (in_c 1 rfl) rfl))))
  refine g_enter2 (k := 239) (N := 29701) (by omega) rfl (Nat.le_of_ble_eq_true rfl) ?_
  refine g_iload_n 1 (gd rfl) rfl rfl ?_
  refine g_if_lt 4 8 (gd rfl) rfl rfl (fun c1 => ?_) (fun c1 => ?_)
  · skip
    have i1 := z_lt (-2147483648) (-1) c1 (i_rng x1) rfl
    refine g_iconst 0 9 (gd rfl) rfl rfl ?_
    refine g_thr (E := am_IA) (y := yX11_allow) 12 (gd rfl) rfl rfl (Or.inl ⟨rfl, rfl, rfl⟩) (by omega) (Nat.le_of_ble_eq_true rfl) (Nat.le_of_ble_eq_true rfl) (Nat.le_of_ble_eq_true rfl) (fun c9 => ?_) (fun c9 => ?_)
    · skip
      exact zn_ne c9 (in_c 0 rfl) rfl
    · skip
      exact (hX _ _ ⟨rfl, s, hI, fr_rf, rfl⟩)
  · skip
    have i1 := z_ge 0 2147483647 c1 (i_rng x1) rfl
    refine g_iconst 1 5 (gd rfl) rfl rfl ?_
    refine g_goto 9 (gd rfl) rfl ?_
    refine g_thr (E := am_IA) (y := yX11_allow) 12 (gd rfl) rfl rfl (Or.inl ⟨rfl, rfl, rfl⟩) (by omega) (Nat.le_of_ble_eq_true rfl) (Nat.le_of_ble_eq_true rfl) (Nat.le_of_ble_eq_true rfl) (fun c9 => ?_) (fun c9 => ?_)
    · skip
      refine g_aload_n 13 (gd rfl) rfl rfl ?_
      refine g_getA (q2 := 60) 16 (gd rfl) rfl rfl rfl rfl ?_
      refine g_aload_n 17 (gd rfl) rfl rfl ?_
      refine g_callv (X := _) (As := []) (r := [.ref (A 60)]) (b := A 0) (q := 0) 20 (gd rfl) rfl rfl rfl rfl rfl (ww_o rfl) (Nat.le_of_ble_eq_true rfl) (mc := 0) (ms := 0) (Nat.zero_le _) (Nat.zero_le _) (P := fun v u => _) ?_ (fun e u h => h) (fun v u h => h)
      intro po17 xx17 hp17 hx17
      refine g_enter2 (k := 259) (N := 300) (by omega) rfl (Nat.le_of_ble_eq_true rfl) ?_
      refine g_aload_n 1 (gd rfl) rfl rfl ?_
      refine g_getI 4 (gd rfl) rfl rfl rfl (fun z17x1 e17x1 => ?_)
      have q17x1 : u_0_2 = z17x1 := (e_0_2).trans e17x1.symm
      subst q17x1
      refine g_iconst (-1) 5 (gd rfl) rfl rfl ?_
      refine g_cmp_ne 8 18 (gd rfl) rfl rfl (fun c17x5 => ?_) (fun c17x5 => ?_)
      · skip
        have i17x5 := r_ne1 0 4000 c17x5 ro_0_2 (in_c (-1) rfl) rfl
        refine g_aload_n 19 (gd rfl) rfl rfl ?_
        refine g_getA (q2 := 32) 22 (gd rfl) rfl rfl rfl rfl ?_
        refine g_areturn (gd rfl) rfl (hp17 _ _ ?_)
        show GG _ _ _ _ _ _ _ _ [.ref (A 32), .ref (A 60)] _ _ _
        refine g_callv (X := _) (As := [.ref (A 32)]) (r := []) (b := A 60) (q := 60) 23 (gd rfl) rfl rfl rfl rfl rfl (ww_o rfl) (Nat.le_of_ble_eq_true rfl) (mc := 0) (ms := 0) (Nat.zero_le _) (Nat.zero_le _) (P := fun v u => _) ?_ (fun e u h => h) (fun v u h => h)
        intro po20 xx20 hp20 hx20
        refine g_enter2 (k := 41) (N := 300) (by omega) rfl (Nat.le_of_ble_eq_true rfl) ?_
        refine g_aload_n 1 (gd rfl) rfl rfl ?_
        refine g_getI 4 (gd rfl) rfl rfl rfl (fun z20x1 e20x1 => ?_)
        have i20x1 := inv_F hI (-1) 4000 rfl e20x1
        refine g_aload_n 5 (gd rfl) rfl rfl ?_
        refine g_getI 8 (gd rfl) rfl rfl rfl (fun z20x5 e20x5 => ?_)
        have q20x5 : u_32_0 = z20x5 := (e_32_0).trans e20x5.symm
        subst q20x5
        refine g_cmp_eq 11 42 (gd rfl) rfl rfl (fun c20x8 => ?_) (fun c20x8 => ?_)
        · skip
          have i20x8 := r_eq1 0 4000 c20x8 i20x1 ro_32_0 rfl
          refine g_aload_n 43 (gd rfl) rfl rfl ?_
          refine g_getI 46 (gd rfl) rfl rfl rfl (fun z20x43 e20x43 => ?_)
          refine g_ireturn (gd rfl) rfl rfl (hp20 _ _ ?_)
          show GG _ _ _ _ _ _ _ _ [.int z20x43] _ _ _
          refine g_istore_n 24 (gd rfl) rfl (Nat.le_of_ble_eq_true rfl) ?_
          refine g_iload_n 25 (gd rfl) rfl rfl ?_
          refine g_iload_n 26 (gd rfl) rfl rfl ?_
          refine g_calls (As := [.int z20x43]) (r := [.int x1]) 29 (gd rfl) rfl rfl rfl rfl rfl (Nat.le_of_ble_eq_true rfl) (Nat.zero_le _) (Nat.zero_le _) (k_414b (by omega) hI ) (fun v u h => ?_)
          obtain ⟨z26, rfl, rfl, i26⟩ := h
          show GG _ _ _ _ _ _ _ _ [.int z26, .int x1] _ _ _
          refine g_cmp_lt 32 34 (gd rfl) rfl rfl (fun c29 => ?_) (fun c29 => ?_)
          · skip
            have i29 := r_lt1 0 31 c29 i1 i26 rfl
            have i29a := r_lt2 1 32 c29 i1 i26 rfl
            refine g_iconst 0 35 (gd rfl) rfl rfl ?_
            refine g_istore_n 36 (gd rfl) rfl (Nat.le_of_ble_eq_true rfl) ?_
            exact gg_w (by omega) (gg_f (gf_cons rfl (gf_cons rfl (gf_cons rfl (gf_cons rfl gf_nil)))) (ct36 32 s z20x43 (Int32.ofInt 0) hI fr_rf (in_w 0 31 i29 rfl) (in_w 0 31 (in_c 0 rfl) rfl) (m_in 32 (in_w 0 31 (in_c 0 rfl) rfl) rfl)))
          · skip
            refine g_iconst (-1) 33 (gd rfl) rfl rfl ?_
            exact g_ireturn (gd rfl) rfl rfl (hP _ _ ⟨s, hI, fr_rf, (Int32.ofInt (-1)), rfl, rfl, in_w (-1) 32 (in_c (-1) rfl) rfl⟩)
        · skip
          refine g_aload_n 12 (gd rfl) rfl rfl ?_
          refine g_aload_n 13 (gd rfl) rfl rfl ?_
          refine g_getI 16 (gd rfl) rfl rfl rfl (fun z20x13 e20x13 => ?_)
          have q20x13 : u_32_0 = z20x13 := (e_32_0).trans e20x13.symm
          subst q20x13
          refine g_putI 19 (gd rfl) rfl rfl rfl rfl ?_
          have hI20x16 := inv_sF (q := 60) (j := 0) hI rfl (in_w (-1) 4000 ro_32_0 rfl)
          refine g_aload_n 20 (gd rfl) rfl rfl ?_
          refine g_callv (X := _) (As := []) (r := []) (b := A 32) (q := 32) 23 (gd rfl) rfl rfl rfl rfl rfl (ww_o rfl) (Nat.le_of_ble_eq_true rfl) (Nat.zero_le _) (Nat.zero_le _) (k_106_32 (by omega) hI20x16 ) (fun e u h => h) (fun v u h => ?_)
          obtain ⟨s20x20, hI20x20, hF20x20, n20x20, rfl, rfl⟩ := h
          obtain ⟨z20x20a, e20x20⟩ : ∃ w, w = s20x20.2.2.1 32 4 := ⟨_, rfl⟩
          have i20x20a := inv_F hI20x20 (-1) 4000 rfl e20x20
          rw [← (show z20x20a = s20x20.2.2.1 32 4 from e20x20)] at n20x20
          rw [← (show u_32_0 = s20x20.2.2.1 32 0 from fr_F (s := (sF s 60 0 u_32_0)) (sF_ne rfl (e_32_0)) hF20x20 rfl)] at n20x20
          show GG _ _ _ _ _ _ _ _ [] _ _ _
          refine g_aload_n 24 (gd rfl) rfl rfl ?_
          refine g_iconst 0 25 (gd rfl) rfl rfl ?_
          refine g_putI 28 (gd rfl) rfl rfl rfl rfl ?_
          have hI20x25 := inv_sF (q := 60) (j := 1) hI20x20 rfl (in_w (-2147483648) 2147483647 (in_c 0 rfl) rfl)
          refine g_aload_n 29 (gd rfl) rfl rfl ?_
          refine g_aload_n 30 (gd rfl) rfl rfl ?_
          refine g_getA (q2 := 39) 33 (gd rfl) rfl rfl rfl rfl ?_
          refine g_iconst 0 34 (gd rfl) rfl rfl ?_
          refine g_aload_n 35 (gd rfl) rfl rfl ?_
          refine g_callv (X := _) (As := []) (r := [.int (Int32.ofInt 0), .ref (A 39), .ref (A 60)]) (b := A 32) (q := 32) 38 (gd rfl) rfl rfl rfl rfl rfl (ww_o rfl) (Nat.le_of_ble_eq_true rfl) (mc := 0) (ms := 0) (Nat.zero_le _) (Nat.zero_le _) (P := fun v u => _) ?_ (fun e u h => h) (fun v u h => h)
          intro po20x35 xx20x35 hp20x35 hx20x35
          refine g_enter2 (k := 102) (N := 300) (by omega) rfl (Nat.le_of_ble_eq_true rfl) ?_
          refine g_aload_n 1 (gd rfl) rfl rfl ?_
          refine g_getI 4 (gd rfl) rfl rfl rfl (fun z20x35x1 e20x35x1 => ?_)
          have q20x35x1 : u_32_1 = z20x35x1 := (sF_ne rfl (fr_F (s := (sF s 60 0 u_32_0)) (sF_ne rfl (e_32_1)) hF20x20 rfl)).trans e20x35x1.symm
          subst q20x35x1
          refine g_bipush 32 6 (gd rfl) rfl rfl ?_
          refine g_cmp_lt 9 13 (gd rfl) rfl rfl (fun c20x35x6 => ?_) (fun c20x35x6 => ?_)
          · skip
            have i20x35x6 := r_lt1 0 31 c20x35x6 ro_32_1 (in_c 32 rfl) rfl
            refine g_iconst 1 14 (gd rfl) rfl rfl ?_
            refine g_aload_n 15 (gd rfl) rfl rfl ?_
            refine g_getI 18 (gd rfl) rfl rfl rfl (fun z20x35x15 e20x35x15 => ?_)
            have q20x35x15 : u_32_1 = z20x35x15 := (sF_ne rfl (fr_F (s := (sF s 60 0 u_32_0)) (sF_ne rfl (e_32_1)) hF20x20 rfl)).trans e20x35x15.symm
            subst q20x35x15
            refine g_ishl 19 (gd rfl) rfl (fun z20x35x18 e20x35x18 => ?_)
            refine g_iconst 1 20 (gd rfl) rfl rfl ?_
            refine g_isub 21 (gd rfl) rfl (fun z20x35x20 e20x35x20 => ?_)
            refine g_ireturn (gd rfl) rfl rfl (hp20x35 _ _ ?_)
            show GG _ _ _ _ _ _ _ _ [.int z20x35x20, .int (Int32.ofInt 0), .ref (A 39), .ref (A 60)] _ _ _
            refine g_iconst 0 39 (gd rfl) rfl rfl ?_
            refine g_callv (X := _) (As := [.ref (A 39), .int (Int32.ofInt 0), .int z20x35x20, .int (Int32.ofInt 0)]) (r := []) (b := A 60) (q := 60) 42 (gd rfl) rfl rfl rfl rfl rfl (ww_o rfl) (Nat.le_of_ble_eq_true rfl) (Nat.zero_le _) (Nat.zero_le _) (k_42_60_39 (by omega) hI20x25 (in_w 0 32 (in_c 0 rfl) rfl)) (fun e u h => h) (fun v u h => ?_)
            obtain ⟨s20x39, hI20x39, hF20x39, rfl, rfl⟩ := h
            show GG _ _ _ _ _ _ _ _ [] _ _ _
            refine g_aload_n 43 (gd rfl) rfl rfl ?_
            refine g_getI 46 (gd rfl) rfl rfl rfl (fun z20x43 e20x43 => ?_)
            refine g_ireturn (gd rfl) rfl rfl (hp20 _ _ ?_)
            show GG _ _ _ _ _ _ _ _ [.int z20x43] _ _ _
            refine g_istore_n 24 (gd rfl) rfl (Nat.le_of_ble_eq_true rfl) ?_
            refine g_iload_n 25 (gd rfl) rfl rfl ?_
            refine g_iload_n 26 (gd rfl) rfl rfl ?_
            refine g_calls (As := [.int z20x43]) (r := [.int x1]) 29 (gd rfl) rfl rfl rfl rfl rfl (Nat.le_of_ble_eq_true rfl) (Nat.zero_le _) (Nat.zero_le _) (k_414b (by omega) hI20x39 ) (fun v u h => ?_)
            obtain ⟨z26, rfl, rfl, i26⟩ := h
            show GG _ _ _ _ _ _ _ _ [.int z26, .int x1] _ _ _
            refine g_cmp_lt 32 34 (gd rfl) rfl rfl (fun c29 => ?_) (fun c29 => ?_)
            · skip
              have i29 := r_lt1 0 31 c29 i1 i26 rfl
              have i29a := r_lt2 1 32 c29 i1 i26 rfl
              refine g_iconst 0 35 (gd rfl) rfl rfl ?_
              refine g_istore_n 36 (gd rfl) rfl (Nat.le_of_ble_eq_true rfl) ?_
              exact gg_w (by omega) (gg_f (gf_cons rfl (gf_cons rfl (gf_cons rfl (gf_cons rfl gf_nil)))) (ct36 32 s20x39 z20x43 (Int32.ofInt 0) hI20x39 (fr_tr rfl (fr_sF rfl (fr_tr rfl (fr_sF rfl fr_rf) hF20x20)) hF20x39) (in_w 0 31 i29 rfl) (in_w 0 31 (in_c 0 rfl) rfl) (m_in 32 (in_w 0 31 (in_c 0 rfl) rfl) rfl)))
            · skip
              refine g_iconst (-1) 33 (gd rfl) rfl rfl ?_
              exact g_ireturn (gd rfl) rfl rfl (hP _ _ ⟨s20x39, hI20x39, (fr_tr rfl (fr_sF rfl (fr_tr rfl (fr_sF rfl fr_rf) hF20x20)) hF20x39), (Int32.ofInt (-1)), rfl, rfl, in_w (-1) 32 (in_c (-1) rfl) rfl⟩)
          · skip
            have i20x35x6 := r_le2 32 32 c20x35x6 (in_c 32 rfl) ro_32_1 rfl
            refine g_iconst (-1) 10 (gd rfl) rfl rfl ?_
            refine g_goto 21 (gd rfl) rfl ?_
            refine g_ireturn (gd rfl) rfl rfl (hp20x35 _ _ ?_)
            show GG _ _ _ _ _ _ _ _ [.int (Int32.ofInt (-1)), .int (Int32.ofInt 0), .ref (A 39), .ref (A 60)] _ _ _
            refine g_iconst 0 39 (gd rfl) rfl rfl ?_
            refine g_callv (X := _) (As := [.ref (A 39), .int (Int32.ofInt 0), .int (Int32.ofInt (-1)), .int (Int32.ofInt 0)]) (r := []) (b := A 60) (q := 60) 42 (gd rfl) rfl rfl rfl rfl rfl (ww_o rfl) (Nat.le_of_ble_eq_true rfl) (Nat.zero_le _) (Nat.zero_le _) (k_42_60_39 (by omega) hI20x25 (in_w 0 32 (in_c 0 rfl) rfl)) (fun e u h => h) (fun v u h => ?_)
            obtain ⟨s20x39, hI20x39, hF20x39, rfl, rfl⟩ := h
            show GG _ _ _ _ _ _ _ _ [] _ _ _
            refine g_aload_n 43 (gd rfl) rfl rfl ?_
            refine g_getI 46 (gd rfl) rfl rfl rfl (fun z20x43 e20x43 => ?_)
            refine g_ireturn (gd rfl) rfl rfl (hp20 _ _ ?_)
            show GG _ _ _ _ _ _ _ _ [.int z20x43] _ _ _
            refine g_istore_n 24 (gd rfl) rfl (Nat.le_of_ble_eq_true rfl) ?_
            refine g_iload_n 25 (gd rfl) rfl rfl ?_
            refine g_iload_n 26 (gd rfl) rfl rfl ?_
            refine g_calls (As := [.int z20x43]) (r := [.int x1]) 29 (gd rfl) rfl rfl rfl rfl rfl (Nat.le_of_ble_eq_true rfl) (Nat.zero_le _) (Nat.zero_le _) (k_414b (by omega) hI20x39 ) (fun v u h => ?_)
            obtain ⟨z26, rfl, rfl, i26⟩ := h
            show GG _ _ _ _ _ _ _ _ [.int z26, .int x1] _ _ _
            refine g_cmp_lt 32 34 (gd rfl) rfl rfl (fun c29 => ?_) (fun c29 => ?_)
            · skip
              have i29 := r_lt1 0 31 c29 i1 i26 rfl
              have i29a := r_lt2 1 32 c29 i1 i26 rfl
              refine g_iconst 0 35 (gd rfl) rfl rfl ?_
              refine g_istore_n 36 (gd rfl) rfl (Nat.le_of_ble_eq_true rfl) ?_
              exact gg_w (by omega) (gg_f (gf_cons rfl (gf_cons rfl (gf_cons rfl (gf_cons rfl gf_nil)))) (ct36 32 s20x39 z20x43 (Int32.ofInt 0) hI20x39 (fr_tr rfl (fr_sF rfl (fr_tr rfl (fr_sF rfl fr_rf) hF20x20)) hF20x39) (in_w 0 31 i29 rfl) (in_w 0 31 (in_c 0 rfl) rfl) (m_in 32 (in_w 0 31 (in_c 0 rfl) rfl) rfl)))
            · skip
              refine g_iconst (-1) 33 (gd rfl) rfl rfl ?_
              exact g_ireturn (gd rfl) rfl rfl (hP _ _ ⟨s20x39, hI20x39, (fr_tr rfl (fr_sF rfl (fr_tr rfl (fr_sF rfl fr_rf) hF20x20)) hF20x39), (Int32.ofInt (-1)), rfl, rfl, in_w (-1) 32 (in_c (-1) rfl) rfl⟩)
      · skip
        have i17x5 := r_eq1 (-1) (-1) c17x5 ro_0_2 (in_c (-1) rfl) rfl
        refine g_aload_n 9 (gd rfl) rfl rfl ?_
        refine g_getA (q2 := 1) 12 (gd rfl) rfl rfl rfl rfl ?_
        refine g_getA (q2 := 2) 15 (gd rfl) rfl rfl rfl rfl ?_
        refine g_goto 22 (gd rfl) rfl ?_
        refine g_areturn (gd rfl) rfl (hp17 _ _ ?_)
        show GG _ _ _ _ _ _ _ _ [.ref (A 2), .ref (A 60)] _ _ _
        refine g_callv (X := _) (As := [.ref (A 2)]) (r := []) (b := A 60) (q := 60) 23 (gd rfl) rfl rfl rfl rfl rfl (ww_o rfl) (Nat.le_of_ble_eq_true rfl) (mc := 0) (ms := 0) (Nat.zero_le _) (Nat.zero_le _) (P := fun v u => _) ?_ (fun e u h => h) (fun v u h => h)
        intro po20 xx20 hp20 hx20
        refine g_enter2 (k := 41) (N := 300) (by omega) rfl (Nat.le_of_ble_eq_true rfl) ?_
        refine g_aload_n 1 (gd rfl) rfl rfl ?_
        refine g_getI 4 (gd rfl) rfl rfl rfl (fun z20x1 e20x1 => ?_)
        have i20x1 := inv_F hI (-1) 4000 rfl e20x1
        refine g_aload_n 5 (gd rfl) rfl rfl ?_
        refine g_getI 8 (gd rfl) rfl rfl rfl (fun z20x5 e20x5 => ?_)
        have q20x5 : u_2_0 = z20x5 := (e_2_0).trans e20x5.symm
        subst q20x5
        refine g_cmp_eq 11 42 (gd rfl) rfl rfl (fun c20x8 => ?_) (fun c20x8 => ?_)
        · skip
          have i20x8 := r_eq1 0 4000 c20x8 i20x1 ro_2_0 rfl
          refine g_aload_n 43 (gd rfl) rfl rfl ?_
          refine g_getI 46 (gd rfl) rfl rfl rfl (fun z20x43 e20x43 => ?_)
          refine g_ireturn (gd rfl) rfl rfl (hp20 _ _ ?_)
          show GG _ _ _ _ _ _ _ _ [.int z20x43] _ _ _
          refine g_istore_n 24 (gd rfl) rfl (Nat.le_of_ble_eq_true rfl) ?_
          refine g_iload_n 25 (gd rfl) rfl rfl ?_
          refine g_iload_n 26 (gd rfl) rfl rfl ?_
          refine g_calls (As := [.int z20x43]) (r := [.int x1]) 29 (gd rfl) rfl rfl rfl rfl rfl (Nat.le_of_ble_eq_true rfl) (Nat.zero_le _) (Nat.zero_le _) (k_414b (by omega) hI ) (fun v u h => ?_)
          obtain ⟨z26, rfl, rfl, i26⟩ := h
          show GG _ _ _ _ _ _ _ _ [.int z26, .int x1] _ _ _
          refine g_cmp_lt 32 34 (gd rfl) rfl rfl (fun c29 => ?_) (fun c29 => ?_)
          · skip
            have i29 := r_lt1 0 31 c29 i1 i26 rfl
            have i29a := r_lt2 1 32 c29 i1 i26 rfl
            refine g_iconst 0 35 (gd rfl) rfl rfl ?_
            refine g_istore_n 36 (gd rfl) rfl (Nat.le_of_ble_eq_true rfl) ?_
            exact gg_w (by omega) (gg_f (gf_cons rfl (gf_cons rfl (gf_cons rfl (gf_cons rfl gf_nil)))) (ct36 32 s z20x43 (Int32.ofInt 0) hI fr_rf (in_w 0 31 i29 rfl) (in_w 0 31 (in_c 0 rfl) rfl) (m_in 32 (in_w 0 31 (in_c 0 rfl) rfl) rfl)))
          · skip
            refine g_iconst (-1) 33 (gd rfl) rfl rfl ?_
            exact g_ireturn (gd rfl) rfl rfl (hP _ _ ⟨s, hI, fr_rf, (Int32.ofInt (-1)), rfl, rfl, in_w (-1) 32 (in_c (-1) rfl) rfl⟩)
        · skip
          refine g_aload_n 12 (gd rfl) rfl rfl ?_
          refine g_aload_n 13 (gd rfl) rfl rfl ?_
          refine g_getI 16 (gd rfl) rfl rfl rfl (fun z20x13 e20x13 => ?_)
          have q20x13 : u_2_0 = z20x13 := (e_2_0).trans e20x13.symm
          subst q20x13
          refine g_putI 19 (gd rfl) rfl rfl rfl rfl ?_
          have hI20x16 := inv_sF (q := 60) (j := 0) hI rfl (in_w (-1) 4000 ro_2_0 rfl)
          refine g_aload_n 20 (gd rfl) rfl rfl ?_
          refine g_callv (X := _) (As := []) (r := []) (b := A 2) (q := 2) 23 (gd rfl) rfl rfl rfl rfl rfl (ww_o rfl) (Nat.le_of_ble_eq_true rfl) (Nat.zero_le _) (Nat.zero_le _) (k_106_2 (by omega) hI20x16 ) (fun e u h => h) (fun v u h => ?_)
          obtain ⟨s20x20, hI20x20, hF20x20, n20x20, rfl, rfl⟩ := h
          obtain ⟨z20x20a, e20x20⟩ : ∃ w, w = s20x20.2.2.1 2 4 := ⟨_, rfl⟩
          have i20x20a := inv_F hI20x20 (-1) 4000 rfl e20x20
          rw [← (show z20x20a = s20x20.2.2.1 2 4 from e20x20)] at n20x20
          rw [← (show u_2_0 = s20x20.2.2.1 2 0 from fr_F (s := (sF s 60 0 u_2_0)) (sF_ne rfl (e_2_0)) hF20x20 rfl)] at n20x20
          show GG _ _ _ _ _ _ _ _ [] _ _ _
          refine g_aload_n 24 (gd rfl) rfl rfl ?_
          refine g_iconst 0 25 (gd rfl) rfl rfl ?_
          refine g_putI 28 (gd rfl) rfl rfl rfl rfl ?_
          have hI20x25 := inv_sF (q := 60) (j := 1) hI20x20 rfl (in_w (-2147483648) 2147483647 (in_c 0 rfl) rfl)
          refine g_aload_n 29 (gd rfl) rfl rfl ?_
          refine g_aload_n 30 (gd rfl) rfl rfl ?_
          refine g_getA (q2 := 9) 33 (gd rfl) rfl rfl rfl rfl ?_
          refine g_iconst 0 34 (gd rfl) rfl rfl ?_
          refine g_aload_n 35 (gd rfl) rfl rfl ?_
          refine g_callv (X := _) (As := []) (r := [.int (Int32.ofInt 0), .ref (A 9), .ref (A 60)]) (b := A 2) (q := 2) 38 (gd rfl) rfl rfl rfl rfl rfl (ww_o rfl) (Nat.le_of_ble_eq_true rfl) (mc := 0) (ms := 0) (Nat.zero_le _) (Nat.zero_le _) (P := fun v u => _) ?_ (fun e u h => h) (fun v u h => h)
          intro po20x35 xx20x35 hp20x35 hx20x35
          refine g_enter2 (k := 102) (N := 300) (by omega) rfl (Nat.le_of_ble_eq_true rfl) ?_
          refine g_aload_n 1 (gd rfl) rfl rfl ?_
          refine g_getI 4 (gd rfl) rfl rfl rfl (fun z20x35x1 e20x35x1 => ?_)
          have q20x35x1 : u_2_1 = z20x35x1 := (sF_ne rfl (fr_F (s := (sF s 60 0 u_2_0)) (sF_ne rfl (e_2_1)) hF20x20 rfl)).trans e20x35x1.symm
          subst q20x35x1
          refine g_bipush 32 6 (gd rfl) rfl rfl ?_
          refine g_cmp_lt 9 13 (gd rfl) rfl rfl (fun c20x35x6 => ?_) (fun c20x35x6 => ?_)
          · skip
            have i20x35x6 := r_lt1 0 31 c20x35x6 ro_2_1 (in_c 32 rfl) rfl
            refine g_iconst 1 14 (gd rfl) rfl rfl ?_
            refine g_aload_n 15 (gd rfl) rfl rfl ?_
            refine g_getI 18 (gd rfl) rfl rfl rfl (fun z20x35x15 e20x35x15 => ?_)
            have q20x35x15 : u_2_1 = z20x35x15 := (sF_ne rfl (fr_F (s := (sF s 60 0 u_2_0)) (sF_ne rfl (e_2_1)) hF20x20 rfl)).trans e20x35x15.symm
            subst q20x35x15
            refine g_ishl 19 (gd rfl) rfl (fun z20x35x18 e20x35x18 => ?_)
            refine g_iconst 1 20 (gd rfl) rfl rfl ?_
            refine g_isub 21 (gd rfl) rfl (fun z20x35x20 e20x35x20 => ?_)
            refine g_ireturn (gd rfl) rfl rfl (hp20x35 _ _ ?_)
            show GG _ _ _ _ _ _ _ _ [.int z20x35x20, .int (Int32.ofInt 0), .ref (A 9), .ref (A 60)] _ _ _
            refine g_iconst 0 39 (gd rfl) rfl rfl ?_
            refine g_callv (X := _) (As := [.ref (A 9), .int (Int32.ofInt 0), .int z20x35x20, .int (Int32.ofInt 0)]) (r := []) (b := A 60) (q := 60) 42 (gd rfl) rfl rfl rfl rfl rfl (ww_o rfl) (Nat.le_of_ble_eq_true rfl) (Nat.zero_le _) (Nat.zero_le _) (k_42_60_9 (by omega) hI20x25 (in_w 0 32 (in_c 0 rfl) rfl)) (fun e u h => h) (fun v u h => ?_)
            obtain ⟨s20x39, hI20x39, hF20x39, rfl, rfl⟩ := h
            show GG _ _ _ _ _ _ _ _ [] _ _ _
            refine g_aload_n 43 (gd rfl) rfl rfl ?_
            refine g_getI 46 (gd rfl) rfl rfl rfl (fun z20x43 e20x43 => ?_)
            refine g_ireturn (gd rfl) rfl rfl (hp20 _ _ ?_)
            show GG _ _ _ _ _ _ _ _ [.int z20x43] _ _ _
            refine g_istore_n 24 (gd rfl) rfl (Nat.le_of_ble_eq_true rfl) ?_
            refine g_iload_n 25 (gd rfl) rfl rfl ?_
            refine g_iload_n 26 (gd rfl) rfl rfl ?_
            refine g_calls (As := [.int z20x43]) (r := [.int x1]) 29 (gd rfl) rfl rfl rfl rfl rfl (Nat.le_of_ble_eq_true rfl) (Nat.zero_le _) (Nat.zero_le _) (k_414b (by omega) hI20x39 ) (fun v u h => ?_)
            obtain ⟨z26, rfl, rfl, i26⟩ := h
            show GG _ _ _ _ _ _ _ _ [.int z26, .int x1] _ _ _
            refine g_cmp_lt 32 34 (gd rfl) rfl rfl (fun c29 => ?_) (fun c29 => ?_)
            · skip
              have i29 := r_lt1 0 31 c29 i1 i26 rfl
              have i29a := r_lt2 1 32 c29 i1 i26 rfl
              refine g_iconst 0 35 (gd rfl) rfl rfl ?_
              refine g_istore_n 36 (gd rfl) rfl (Nat.le_of_ble_eq_true rfl) ?_
              exact gg_w (by omega) (gg_f (gf_cons rfl (gf_cons rfl (gf_cons rfl (gf_cons rfl gf_nil)))) (ct36 32 s20x39 z20x43 (Int32.ofInt 0) hI20x39 (fr_tr rfl (fr_sF rfl (fr_tr rfl (fr_sF rfl fr_rf) hF20x20)) hF20x39) (in_w 0 31 i29 rfl) (in_w 0 31 (in_c 0 rfl) rfl) (m_in 32 (in_w 0 31 (in_c 0 rfl) rfl) rfl)))
            · skip
              refine g_iconst (-1) 33 (gd rfl) rfl rfl ?_
              exact g_ireturn (gd rfl) rfl rfl (hP _ _ ⟨s20x39, hI20x39, (fr_tr rfl (fr_sF rfl (fr_tr rfl (fr_sF rfl fr_rf) hF20x20)) hF20x39), (Int32.ofInt (-1)), rfl, rfl, in_w (-1) 32 (in_c (-1) rfl) rfl⟩)
          · skip
            have i20x35x6 := r_le2 32 32 c20x35x6 (in_c 32 rfl) ro_2_1 rfl
            refine g_iconst (-1) 10 (gd rfl) rfl rfl ?_
            refine g_goto 21 (gd rfl) rfl ?_
            refine g_ireturn (gd rfl) rfl rfl (hp20x35 _ _ ?_)
            show GG _ _ _ _ _ _ _ _ [.int (Int32.ofInt (-1)), .int (Int32.ofInt 0), .ref (A 9), .ref (A 60)] _ _ _
            refine g_iconst 0 39 (gd rfl) rfl rfl ?_
            refine g_callv (X := _) (As := [.ref (A 9), .int (Int32.ofInt 0), .int (Int32.ofInt (-1)), .int (Int32.ofInt 0)]) (r := []) (b := A 60) (q := 60) 42 (gd rfl) rfl rfl rfl rfl rfl (ww_o rfl) (Nat.le_of_ble_eq_true rfl) (Nat.zero_le _) (Nat.zero_le _) (k_42_60_9 (by omega) hI20x25 (in_w 0 32 (in_c 0 rfl) rfl)) (fun e u h => h) (fun v u h => ?_)
            obtain ⟨s20x39, hI20x39, hF20x39, rfl, rfl⟩ := h
            show GG _ _ _ _ _ _ _ _ [] _ _ _
            refine g_aload_n 43 (gd rfl) rfl rfl ?_
            refine g_getI 46 (gd rfl) rfl rfl rfl (fun z20x43 e20x43 => ?_)
            refine g_ireturn (gd rfl) rfl rfl (hp20 _ _ ?_)
            show GG _ _ _ _ _ _ _ _ [.int z20x43] _ _ _
            refine g_istore_n 24 (gd rfl) rfl (Nat.le_of_ble_eq_true rfl) ?_
            refine g_iload_n 25 (gd rfl) rfl rfl ?_
            refine g_iload_n 26 (gd rfl) rfl rfl ?_
            refine g_calls (As := [.int z20x43]) (r := [.int x1]) 29 (gd rfl) rfl rfl rfl rfl rfl (Nat.le_of_ble_eq_true rfl) (Nat.zero_le _) (Nat.zero_le _) (k_414b (by omega) hI20x39 ) (fun v u h => ?_)
            obtain ⟨z26, rfl, rfl, i26⟩ := h
            show GG _ _ _ _ _ _ _ _ [.int z26, .int x1] _ _ _
            refine g_cmp_lt 32 34 (gd rfl) rfl rfl (fun c29 => ?_) (fun c29 => ?_)
            · skip
              have i29 := r_lt1 0 31 c29 i1 i26 rfl
              have i29a := r_lt2 1 32 c29 i1 i26 rfl
              refine g_iconst 0 35 (gd rfl) rfl rfl ?_
              refine g_istore_n 36 (gd rfl) rfl (Nat.le_of_ble_eq_true rfl) ?_
              exact gg_w (by omega) (gg_f (gf_cons rfl (gf_cons rfl (gf_cons rfl (gf_cons rfl gf_nil)))) (ct36 32 s20x39 z20x43 (Int32.ofInt 0) hI20x39 (fr_tr rfl (fr_sF rfl (fr_tr rfl (fr_sF rfl fr_rf) hF20x20)) hF20x39) (in_w 0 31 i29 rfl) (in_w 0 31 (in_c 0 rfl) rfl) (m_in 32 (in_w 0 31 (in_c 0 rfl) rfl) rfl)))
            · skip
              refine g_iconst (-1) 33 (gd rfl) rfl rfl ?_
              exact g_ireturn (gd rfl) rfl rfl (hP _ _ ⟨s20x39, hI20x39, (fr_tr rfl (fr_sF rfl (fr_tr rfl (fr_sF rfl fr_rf) hF20x20)) hF20x39), (Int32.ofInt (-1)), rfl, rfl, in_w (-1) 32 (in_c (-1) rfl) rfl⟩)
    · skip
      exact zn_eq c9 (in_c 1 rfl) rfl

def fm_252_0 : FM := ([9, 10, 11, 12, 13, 14, 15, 39, 40, 41, 42, 43, 44, 45], [], [(2, 4), (32, 4)], [])
/-- GraphHouse.figures -/
theorem k_252_0 {Z : AmZ} {A : Nat → Nat} {s : GS} {ex : va_W} {d : Nat} {x1 : Int32} (hd : 7 ≤ d) (hI : Inv s)  : GC Z d 252 [.ref (A 0), .int x1] (WW Z A s ++ ex) 3 18 (fun v u => ∃ t : GS, Inv t ∧ Fr fm_252_0 s t ∧ ∃ z : Int64, v = some (.long z) ∧ u = WW Z A t ++ ex) (gE1 Z A ex fm_252_0 s) := by
  intro post xp hP hX
  obtain ⟨u_0_2, e_0_2⟩ : ∃ w, w = s.2.2.1 0 2 := ⟨_, rfl⟩
  have ro_0_2 := inv_F hI (-1) 4000 rfl e_0_2
  refine g_enter2 (k := 252) (N := 900) (by omega) rfl (Nat.le_of_ble_eq_true rfl) ?_
  refine g_iload_n 1 (gd rfl) rfl rfl ?_
  refine g_if_lt 4 13 (gd rfl) rfl rfl (fun c1 => ?_) (fun c1 => ?_)
  · skip
    have i1 := z_lt (-2147483648) (-1) c1 (i_rng x1) rfl
    refine g_iconst 0 14 (gd rfl) rfl rfl ?_
    refine g_thr (E := am_IA) (y := yX11_allow) 17 (gd rfl) rfl rfl (Or.inl ⟨rfl, rfl, rfl⟩) (by omega) (Nat.le_of_ble_eq_true rfl) (Nat.le_of_ble_eq_true rfl) (Nat.le_of_ble_eq_true rfl) (fun c14 => ?_) (fun c14 => ?_)
    · skip
      exact zn_ne c14 (in_c 0 rfl) rfl
    · skip
      exact (hX _ _ ⟨rfl, s, hI, fr_rf, rfl⟩)
  · skip
    have i1 := z_ge 0 2147483647 c1 (i_rng x1) rfl
    refine g_iload_n 5 (gd rfl) rfl rfl ?_
    refine g_iconst 1 6 (gd rfl) rfl rfl ?_
    refine g_cmp_gt 9 13 (gd rfl) rfl rfl (fun c6 => ?_) (fun c6 => ?_)
    · skip
      have i6 := r_lt2 2 2147483647 c6 (in_c 1 rfl) i1 rfl
      refine g_iconst 0 14 (gd rfl) rfl rfl ?_
      refine g_thr (E := am_IA) (y := yX11_allow) 17 (gd rfl) rfl rfl (Or.inl ⟨rfl, rfl, rfl⟩) (by omega) (Nat.le_of_ble_eq_true rfl) (Nat.le_of_ble_eq_true rfl) (Nat.le_of_ble_eq_true rfl) (fun c14 => ?_) (fun c14 => ?_)
      · skip
        exact zn_ne c14 (in_c 0 rfl) rfl
      · skip
        exact (hX _ _ ⟨rfl, s, hI, fr_rf, rfl⟩)
    · skip
      have i6 := r_le1 0 1 c6 i1 (in_c 1 rfl) rfl
      refine g_iconst 1 10 (gd rfl) rfl rfl ?_
      refine g_goto 14 (gd rfl) rfl ?_
      refine g_thr (E := am_IA) (y := yX11_allow) 17 (gd rfl) rfl rfl (Or.inl ⟨rfl, rfl, rfl⟩) (by omega) (Nat.le_of_ble_eq_true rfl) (Nat.le_of_ble_eq_true rfl) (Nat.le_of_ble_eq_true rfl) (fun c14 => ?_) (fun c14 => ?_)
      · skip
        refine g_iload_n 18 (gd rfl) rfl rfl ?_
        refine g_if_ne 21 35 (gd rfl) rfl rfl (fun c18 => ?_) (fun c18 => ?_)
        · skip
          have i18 := z_ne 1 1 c18 i6 rfl
          refine g_aload_n 36 (gd rfl) rfl rfl ?_
          refine g_getA (q2 := 56) 39 (gd rfl) rfl rfl rfl rfl ?_
          refine g_aload_n 40 (gd rfl) rfl rfl ?_
          refine g_callv (X := _) (As := []) (r := [.ref (A 56)]) (b := A 0) (q := 0) 43 (gd rfl) rfl rfl rfl rfl rfl (ww_o rfl) (Nat.le_of_ble_eq_true rfl) (mc := 0) (ms := 0) (Nat.zero_le _) (Nat.zero_le _) (P := fun v u => _) ?_ (fun e u h => h) (fun v u h => h)
          intro po40 xx40 hp40 hx40
          refine g_enter2 (k := 259) (N := 300) (by omega) rfl (Nat.le_of_ble_eq_true rfl) ?_
          refine g_aload_n 1 (gd rfl) rfl rfl ?_
          refine g_getI 4 (gd rfl) rfl rfl rfl (fun z40x1 e40x1 => ?_)
          have q40x1 : u_0_2 = z40x1 := (e_0_2).trans e40x1.symm
          subst q40x1
          refine g_iconst (-1) 5 (gd rfl) rfl rfl ?_
          refine g_cmp_ne 8 18 (gd rfl) rfl rfl (fun c40x5 => ?_) (fun c40x5 => ?_)
          · skip
            have i40x5 := r_ne1 0 4000 c40x5 ro_0_2 (in_c (-1) rfl) rfl
            refine g_aload_n 19 (gd rfl) rfl rfl ?_
            refine g_getA (q2 := 32) 22 (gd rfl) rfl rfl rfl rfl ?_
            refine g_areturn (gd rfl) rfl (hp40 _ _ ?_)
            show GG _ _ _ _ _ _ _ _ [.ref (A 32), .ref (A 56)] _ _ _
            refine g_callv (X := _) (As := [.ref (A 32)]) (r := []) (b := A 56) (q := 56) 46 (gd rfl) rfl rfl rfl rfl rfl (ww_o rfl) (Nat.le_of_ble_eq_true rfl) (Nat.zero_le _) (Nat.zero_le _) (k_152_56_32 (by omega) hI ) (fun e u h => h) (fun v u h => ?_)
            obtain ⟨s43, hI43, hF43, z43, rfl, rfl⟩ := h
            show GG _ _ _ _ _ _ _ _ [.long z43] _ _ _
            exact g_lreturn (gd rfl) rfl (hP _ _ ⟨s43, hI43, (fr_tr rfl fr_rf hF43), z43, rfl, rfl⟩)
          · skip
            have i40x5 := r_eq1 (-1) (-1) c40x5 ro_0_2 (in_c (-1) rfl) rfl
            refine g_aload_n 9 (gd rfl) rfl rfl ?_
            refine g_getA (q2 := 1) 12 (gd rfl) rfl rfl rfl rfl ?_
            refine g_getA (q2 := 2) 15 (gd rfl) rfl rfl rfl rfl ?_
            refine g_goto 22 (gd rfl) rfl ?_
            refine g_areturn (gd rfl) rfl (hp40 _ _ ?_)
            show GG _ _ _ _ _ _ _ _ [.ref (A 2), .ref (A 56)] _ _ _
            refine g_callv (X := _) (As := [.ref (A 2)]) (r := []) (b := A 56) (q := 56) 46 (gd rfl) rfl rfl rfl rfl rfl (ww_o rfl) (Nat.le_of_ble_eq_true rfl) (Nat.zero_le _) (Nat.zero_le _) (k_152_56_2 (by omega) hI ) (fun e u h => h) (fun v u h => ?_)
            obtain ⟨s43, hI43, hF43, z43, rfl, rfl⟩ := h
            show GG _ _ _ _ _ _ _ _ [.long z43] _ _ _
            exact g_lreturn (gd rfl) rfl (hP _ _ ⟨s43, hI43, (fr_tr rfl fr_rf hF43), z43, rfl, rfl⟩)
        · skip
          have i18 := z_eq 0 0 c18 i6 rfl
          refine g_aload_n 22 (gd rfl) rfl rfl ?_
          refine g_getA (q2 := 56) 25 (gd rfl) rfl rfl rfl rfl ?_
          refine g_aload_n 26 (gd rfl) rfl rfl ?_
          refine g_callv (X := _) (As := []) (r := [.ref (A 56)]) (b := A 0) (q := 0) 29 (gd rfl) rfl rfl rfl rfl rfl (ww_o rfl) (Nat.le_of_ble_eq_true rfl) (mc := 0) (ms := 0) (Nat.zero_le _) (Nat.zero_le _) (P := fun v u => _) ?_ (fun e u h => h) (fun v u h => h)
          intro po26 xx26 hp26 hx26
          refine g_enter2 (k := 259) (N := 300) (by omega) rfl (Nat.le_of_ble_eq_true rfl) ?_
          refine g_aload_n 1 (gd rfl) rfl rfl ?_
          refine g_getI 4 (gd rfl) rfl rfl rfl (fun z26x1 e26x1 => ?_)
          have q26x1 : u_0_2 = z26x1 := (e_0_2).trans e26x1.symm
          subst q26x1
          refine g_iconst (-1) 5 (gd rfl) rfl rfl ?_
          refine g_cmp_ne 8 18 (gd rfl) rfl rfl (fun c26x5 => ?_) (fun c26x5 => ?_)
          · skip
            have i26x5 := r_ne1 0 4000 c26x5 ro_0_2 (in_c (-1) rfl) rfl
            refine g_aload_n 19 (gd rfl) rfl rfl ?_
            refine g_getA (q2 := 32) 22 (gd rfl) rfl rfl rfl rfl ?_
            refine g_areturn (gd rfl) rfl (hp26 _ _ ?_)
            show GG _ _ _ _ _ _ _ _ [.ref (A 32), .ref (A 56)] _ _ _
            refine g_callv (X := _) (As := [.ref (A 32)]) (r := []) (b := A 56) (q := 56) 32 (gd rfl) rfl rfl rfl rfl rfl (ww_o rfl) (Nat.le_of_ble_eq_true rfl) (Nat.zero_le _) (Nat.zero_le _) (k_151_56_32 (by omega) hI ) (fun e u h => h) (fun v u h => ?_)
            obtain ⟨s29, hI29, hF29, z29, rfl, rfl⟩ := h
            show GG _ _ _ _ _ _ _ _ [.long z29] _ _ _
            refine g_goto 46 (gd rfl) rfl ?_
            exact g_lreturn (gd rfl) rfl (hP _ _ ⟨s29, hI29, (fr_tr rfl fr_rf hF29), z29, rfl, rfl⟩)
          · skip
            have i26x5 := r_eq1 (-1) (-1) c26x5 ro_0_2 (in_c (-1) rfl) rfl
            refine g_aload_n 9 (gd rfl) rfl rfl ?_
            refine g_getA (q2 := 1) 12 (gd rfl) rfl rfl rfl rfl ?_
            refine g_getA (q2 := 2) 15 (gd rfl) rfl rfl rfl rfl ?_
            refine g_goto 22 (gd rfl) rfl ?_
            refine g_areturn (gd rfl) rfl (hp26 _ _ ?_)
            show GG _ _ _ _ _ _ _ _ [.ref (A 2), .ref (A 56)] _ _ _
            refine g_callv (X := _) (As := [.ref (A 2)]) (r := []) (b := A 56) (q := 56) 32 (gd rfl) rfl rfl rfl rfl rfl (ww_o rfl) (Nat.le_of_ble_eq_true rfl) (Nat.zero_le _) (Nat.zero_le _) (k_151_56_2 (by omega) hI ) (fun e u h => h) (fun v u h => ?_)
            obtain ⟨s29, hI29, hF29, z29, rfl, rfl⟩ := h
            show GG _ _ _ _ _ _ _ _ [.long z29] _ _ _
            refine g_goto 46 (gd rfl) rfl ?_
            exact g_lreturn (gd rfl) rfl (hP _ _ ⟨s29, hI29, (fr_tr rfl fr_rf hF29), z29, rfl, rfl⟩)
      · skip
        exact zn_eq c14 (in_c 1 rfl) rfl

def fm_257_0 : FM := ([], [], [], [])
/-- GraphHouse.state -/
theorem k_257_0 {Z : AmZ} {A : Nat → Nat} {s : GS} {ex : va_W} {d : Nat} {x1 : Int32} (hd : 7 ≤ d) (hI : Inv s)  : GC Z d 257 [.ref (A 0), .int x1] (WW Z A s ++ ex) 3 18 (fun v u => ∃ t : GS, Inv t ∧ Fr fm_257_0 s t ∧ ∃ z : Int64, v = some (.long z) ∧ u = WW Z A t ++ ex) (gE1 Z A ex fm_257_0 s) := by
  intro post xp hP hX
  obtain ⟨u_102_9, e_102_9⟩ : ∃ w, w = s.2.2.1 102 9 := ⟨_, rfl⟩
  have ro_102_9 := inv_F hI 0 32 rfl e_102_9
  refine g_enter2 (k := 257) (N := 900) (by omega) rfl (Nat.le_of_ble_eq_true rfl) ?_
  refine g_iload_n 1 (gd rfl) rfl rfl ?_
  refine g_if_lt 4 19 (gd rfl) rfl rfl (fun c1 => ?_) (fun c1 => ?_)
  · skip
    have i1 := z_lt (-2147483648) (-1) c1 (i_rng x1) rfl
    refine g_iconst 0 20 (gd rfl) rfl rfl ?_
    refine g_thr (E := am_IA) (y := yX11_allow) 23 (gd rfl) rfl rfl (Or.inl ⟨rfl, rfl, rfl⟩) (by omega) (Nat.le_of_ble_eq_true rfl) (Nat.le_of_ble_eq_true rfl) (Nat.le_of_ble_eq_true rfl) (fun c20 => ?_) (fun c20 => ?_)
    · skip
      exact zn_ne c20 (in_c 0 rfl) rfl
    · skip
      exact (hX _ _ ⟨rfl, s, hI, fr_rf, rfl⟩)
  · skip
    have i1 := z_ge 0 2147483647 c1 (i_rng x1) rfl
    refine g_iload_n 5 (gd rfl) rfl rfl ?_
    refine g_aload_n 6 (gd rfl) rfl rfl ?_
    refine g_getA (q2 := 102) 9 (gd rfl) rfl rfl rfl rfl ?_
    refine g_getI 12 (gd rfl) rfl rfl rfl (fun z9 e9 => ?_)
    have q9 : u_102_9 = z9 := (e_102_9).trans e9.symm
    subst q9
    refine g_cmp_ge 15 19 (gd rfl) rfl rfl (fun c12 => ?_) (fun c12 => ?_)
    · skip
      refine g_iconst 0 20 (gd rfl) rfl rfl ?_
      refine g_thr (E := am_IA) (y := yX11_allow) 23 (gd rfl) rfl rfl (Or.inl ⟨rfl, rfl, rfl⟩) (by omega) (Nat.le_of_ble_eq_true rfl) (Nat.le_of_ble_eq_true rfl) (Nat.le_of_ble_eq_true rfl) (fun c20 => ?_) (fun c20 => ?_)
      · skip
        exact zn_ne c20 (in_c 0 rfl) rfl
      · skip
        exact (hX _ _ ⟨rfl, s, hI, fr_rf, rfl⟩)
    · skip
      have i12 := r_lt1 0 31 c12 i1 ro_102_9 rfl
      have i12a := r_lt2 1 32 c12 i1 ro_102_9 rfl
      refine g_iconst 1 16 (gd rfl) rfl rfl ?_
      refine g_goto 20 (gd rfl) rfl ?_
      refine g_thr (E := am_IA) (y := yX11_allow) 23 (gd rfl) rfl rfl (Or.inl ⟨rfl, rfl, rfl⟩) (by omega) (Nat.le_of_ble_eq_true rfl) (Nat.le_of_ble_eq_true rfl) (Nat.le_of_ble_eq_true rfl) (fun c20 => ?_) (fun c20 => ?_)
      · skip
        refine g_aload_n 24 (gd rfl) rfl rfl ?_
        refine g_getA (q2 := 102) 27 (gd rfl) rfl rfl rfl rfl ?_
        refine g_getA (q2 := 107) 30 (gd rfl) rfl rfl rfl rfl ?_
        refine g_iload_n 31 (gd rfl) rfl rfl ?_
        refine g_laload 32 (gd rfl) rfl (n := 32) rfl (in_ix i12 rfl) (fun z31 e31 => ?_)
        exact g_lreturn (gd rfl) rfl (hP _ _ ⟨s, hI, fr_rf, z31, rfl, rfl⟩)
      · skip
        exact zn_eq c20 (in_c 1 rfl) rfl

def fm_258_0 : FM := ([], [], [], [])
/-- GraphHouse.letters -/
theorem k_258_0 {Z : AmZ} {A : Nat → Nat} {s : GS} {ex : va_W} {d : Nat} {x1 : Int32} (hd : 7 ≤ d) (hI : Inv s)  : GC Z d 258 [.ref (A 0), .int x1] (WW Z A s ++ ex) 3 18 (fun v u => ∃ t : GS, Inv t ∧ Fr fm_258_0 s t ∧ ∃ z : Int32, v = some (.int z) ∧ u = WW Z A t ++ ex ∧ In z (-2147483648) 2147483647) (gE1 Z A ex fm_258_0 s) := by
  intro post xp hP hX
  obtain ⟨u_102_10, e_102_10⟩ : ∃ w, w = s.2.2.1 102 10 := ⟨_, rfl⟩
  obtain ⟨u_102_11, e_102_11⟩ : ∃ w, w = s.2.2.1 102 11 := ⟨_, rfl⟩
  obtain ⟨u_102_12, e_102_12⟩ : ∃ w, w = s.2.2.1 102 12 := ⟨_, rfl⟩
  refine g_enter2 (k := 258) (N := 900) (by omega) rfl (Nat.le_of_ble_eq_true rfl) ?_
  refine g_iload_n 1 (gd rfl) rfl rfl ?_
  refine g_if_lt 4 13 (gd rfl) rfl rfl (fun c1 => ?_) (fun c1 => ?_)
  · skip
    have i1 := z_lt (-2147483648) (-1) c1 (i_rng x1) rfl
    refine g_iconst 0 14 (gd rfl) rfl rfl ?_
    refine g_thr (E := am_IA) (y := yX11_allow) 17 (gd rfl) rfl rfl (Or.inl ⟨rfl, rfl, rfl⟩) (by omega) (Nat.le_of_ble_eq_true rfl) (Nat.le_of_ble_eq_true rfl) (Nat.le_of_ble_eq_true rfl) (fun c14 => ?_) (fun c14 => ?_)
    · skip
      exact zn_ne c14 (in_c 0 rfl) rfl
    · skip
      exact (hX _ _ ⟨rfl, s, hI, fr_rf, rfl⟩)
  · skip
    have i1 := z_ge 0 2147483647 c1 (i_rng x1) rfl
    refine g_iload_n 5 (gd rfl) rfl rfl ?_
    refine g_iconst 2 6 (gd rfl) rfl rfl ?_
    refine g_cmp_gt 9 13 (gd rfl) rfl rfl (fun c6 => ?_) (fun c6 => ?_)
    · skip
      have i6 := r_lt2 3 2147483647 c6 (in_c 2 rfl) i1 rfl
      refine g_iconst 0 14 (gd rfl) rfl rfl ?_
      refine g_thr (E := am_IA) (y := yX11_allow) 17 (gd rfl) rfl rfl (Or.inl ⟨rfl, rfl, rfl⟩) (by omega) (Nat.le_of_ble_eq_true rfl) (Nat.le_of_ble_eq_true rfl) (Nat.le_of_ble_eq_true rfl) (fun c14 => ?_) (fun c14 => ?_)
      · skip
        exact zn_ne c14 (in_c 0 rfl) rfl
      · skip
        exact (hX _ _ ⟨rfl, s, hI, fr_rf, rfl⟩)
    · skip
      have i6 := r_le1 0 2 c6 i1 (in_c 2 rfl) rfl
      refine g_iconst 1 10 (gd rfl) rfl rfl ?_
      refine g_goto 14 (gd rfl) rfl ?_
      refine g_thr (E := am_IA) (y := yX11_allow) 17 (gd rfl) rfl rfl (Or.inl ⟨rfl, rfl, rfl⟩) (by omega) (Nat.le_of_ble_eq_true rfl) (Nat.le_of_ble_eq_true rfl) (Nat.le_of_ble_eq_true rfl) (fun c14 => ?_) (fun c14 => ?_)
      · skip
        refine g_iload_n 18 (gd rfl) rfl rfl ?_
        refine g_if_ne 21 29 (gd rfl) rfl rfl (fun c18 => ?_) (fun c18 => ?_)
        · skip
          have i18 := z_ne 1 2 c18 i6 rfl
          refine g_iload_n 30 (gd rfl) rfl rfl ?_
          refine g_iconst 1 31 (gd rfl) rfl rfl ?_
          refine g_cmp_ne 34 44 (gd rfl) rfl rfl (fun c31 => ?_) (fun c31 => ?_)
          · skip
            have i31 := r_ne1 2 2 c31 i18 (in_c 1 rfl) rfl
            refine g_aload_n 45 (gd rfl) rfl rfl ?_
            refine g_getA (q2 := 102) 48 (gd rfl) rfl rfl rfl rfl ?_
            refine g_getI 51 (gd rfl) rfl rfl rfl (fun z48 e48 => ?_)
            have q48 : u_102_12 = z48 := (e_102_12).trans e48.symm
            subst q48
            exact g_ireturn (gd rfl) rfl rfl (hP _ _ ⟨s, hI, fr_rf, u_102_12, rfl, rfl, in_w (-2147483648) 2147483647 (i_rng u_102_12) rfl⟩)
          · skip
            have i31 := r_eq1 1 1 c31 i18 (in_c 1 rfl) rfl
            refine g_aload_n 35 (gd rfl) rfl rfl ?_
            refine g_getA (q2 := 102) 38 (gd rfl) rfl rfl rfl rfl ?_
            refine g_getI 41 (gd rfl) rfl rfl rfl (fun z38 e38 => ?_)
            have q38 : u_102_11 = z38 := (e_102_11).trans e38.symm
            subst q38
            refine g_goto 51 (gd rfl) rfl ?_
            exact g_ireturn (gd rfl) rfl rfl (hP _ _ ⟨s, hI, fr_rf, u_102_11, rfl, rfl, in_w (-2147483648) 2147483647 (i_rng u_102_11) rfl⟩)
        · skip
          have i18 := z_eq 0 0 c18 i6 rfl
          refine g_aload_n 22 (gd rfl) rfl rfl ?_
          refine g_getA (q2 := 102) 25 (gd rfl) rfl rfl rfl rfl ?_
          refine g_getI 28 (gd rfl) rfl rfl rfl (fun z25 e25 => ?_)
          have q25 : u_102_10 = z25 := (e_102_10).trans e25.symm
          subst q25
          exact g_ireturn (gd rfl) rfl rfl (hP _ _ ⟨s, hI, fr_rf, u_102_10, rfl, rfl, in_w (-2147483648) 2147483647 (i_rng u_102_10) rfl⟩)
      · skip
        exact zn_eq c14 (in_c 1 rfl) rfl

/-- GraphHouse.flood -/
theorem k_266_9 {Z : AmZ} {A : Nat → Nat} {s : GS} {ex : va_W} {d : Nat} {X : AmX} {x1 : Int32} {x2 : Int32} (hd : 4 ≤ d) (hI : Inv s)  : GC Z d 266 [.ref (A 9), .int x1, .int x2] (WW Z A s ++ ex) 0 0 (fun v u => ∃ z : Int32, v = some (.int z) ∧ u = WW Z A s ++ ex ∧ In z (-2147483648) 2147483647 ∧ (∀ k, bt x1 k = true → bt z k = true)) X := by
  intro post xp hP hX
  have ct8 : ∀ (k8 : Nat) (y8_3 : Int32) (y8_4 : Int32) (y8_5 : Int32), (In y8_5 0 32) → (∀ k, bt x1 k = true → bt y8_3 k = true) → 32 - (y8_5).toInt < (k8 : Int) → GG Z (d - 1) 266 post (gx xp) (1 + k8 * 900) 8 (fun j => xlook j [(0, .ref (A 9)), (1, .int x1), (2, .int x2), (3, .int y8_3), (4, .int y8_4), (5, .int y8_5)]) [] (WW Z A s ++ ex) 0 0 := by
    intro k8
    induction k8 with
    | zero => intro y8_3 y8_4 y8_5 j8_5 g8_0 mm8; exact m_no mm8 j8_5 rfl
    | succ k8 ih8 =>
      intro y8_3 y8_4 y8_5 j8_5 g8_0 mm8
      refine gg_w (M := 1 + k8 * 900 + 900) (by omega) ?_
      refine g_iload 10 (gd rfl) rfl rfl ?_
      refine g_bipush 32 12 (gd rfl) rfl rfl ?_
      refine g_cmp_ge 15 62 (gd rfl) rfl rfl (fun c12 => ?_) (fun c12 => ?_)
      · skip
        have i12 := r_le2 32 32 c12 (in_c 32 rfl) j8_5 rfl
        refine g_iload_n 63 (gd rfl) rfl rfl ?_
        have n63 : ∀ k, bt x1 k = true → bt y8_3 k = true := by exact g8_0
        exact g_ireturn (gd rfl) rfl rfl (hP _ _ ⟨y8_3, rfl, rfl, in_w (-2147483648) 2147483647 (i_rng y8_3) rfl, n63⟩)
      · skip
        have i12 := r_lt1 0 31 c12 j8_5 (in_c 32 rfl) rfl
        refine g_iload 17 (gd rfl) rfl rfl ?_
        refine g_if_eq 20 62 (gd rfl) rfl rfl (fun c17 => ?_) (fun c17 => ?_)
        · skip
          have i17 := z_eq 0 0 c17 (i_rng y8_4) rfl
          refine g_iload_n 63 (gd rfl) rfl rfl ?_
          have n63 : ∀ k, bt x1 k = true → bt y8_3 k = true := by exact g8_0
          exact g_ireturn (gd rfl) rfl rfl (hP _ _ ⟨y8_3, rfl, rfl, in_w (-2147483648) 2147483647 (i_rng y8_3) rfl, n63⟩)
        · skip
          refine g_aload_n 21 (gd rfl) rfl rfl ?_
          refine g_iload 23 (gd rfl) rfl rfl ?_
          refine g_calls (As := [.int y8_4]) (r := [.ref (A 9)]) 26 (gd rfl) rfl rfl rfl rfl rfl (Nat.le_of_ble_eq_true rfl) (Nat.zero_le _) (Nat.zero_le _) (k_264n (by omega) c17) (fun v u h => ?_)
          obtain ⟨z23, rfl, rfl, i23, hb23, hl23⟩ := h
          show GG _ _ _ _ _ _ _ _ [.int z23, .ref (A 9)] _ _ _
          refine g_iaload 27 (gd rfl) rfl (n := 32) rfl (in_ix i23 rfl) (fun z26 e26 => ?_)
          refine g_iload_n 28 (gd rfl) rfl rfl ?_
          refine g_iand 29 (gd rfl) rfl (fun z28 e28 => ?_)
          refine g_iload_n 30 (gd rfl) rfl rfl ?_
          refine g_iconst (-1) 31 (gd rfl) rfl rfl ?_
          refine g_ixor 32 (gd rfl) rfl (fun z31 e31 => ?_)
          refine g_iand 33 (gd rfl) rfl (fun z32 e32 => ?_)
          refine g_istore 35 (gd rfl) rfl (Nat.le_of_ble_eq_true rfl) ?_
          refine g_iload 37 (gd rfl) rfl rfl ?_
          refine g_iload 39 (gd rfl) rfl rfl ?_
          refine g_iconst 1 40 (gd rfl) rfl rfl ?_
          refine g_isub 41 (gd rfl) rfl (fun z40 e40 => ?_)
          refine g_iand 42 (gd rfl) rfl (fun z41 e41 => ?_)
          refine g_istore 44 (gd rfl) rfl (Nat.le_of_ble_eq_true rfl) ?_
          refine g_iload 46 (gd rfl) rfl rfl ?_
          refine g_iload 48 (gd rfl) rfl rfl ?_
          refine g_ior 49 (gd rfl) rfl (fun z48 e48 => ?_)
          refine g_istore 51 (gd rfl) rfl (Nat.le_of_ble_eq_true rfl) ?_
          refine g_iload_n 52 (gd rfl) rfl rfl ?_
          refine g_iload 54 (gd rfl) rfl rfl ?_
          refine g_ior 55 (gd rfl) rfl (fun z54 e54 => ?_)
          refine g_istore_n 56 (gd rfl) rfl (Nat.le_of_ble_eq_true rfl) ?_
          refine g_iinc 59 (gd rfl) rfl rfl (Nat.le_of_ble_eq_true rfl) (fun z56 e56 => ?_)
          have i56 := in_add 1 32 e56 i12 (in_c 1 rfl) rfl rfl
          refine g_goto 8 (gd rfl) rfl ?_
          have n8 : ∀ k, bt x1 k = true → bt z54 k = true := by first | exact fun k h => h | exact fun k h => bt_orl e54 (g8_0 k h)
          exact gg_w (by omega) (gg_f (gf_cons rfl (gf_cons rfl (gf_cons rfl (gf_cons rfl (gf_cons rfl (gf_cons rfl gf_nil)))))) (ih8  z54 z48 z56  (in_w 0 32 i56 rfl) n8 (m_up mm8 (t_add e56 i12 (in_c 1 rfl) rfl) (in_w 1 1 (in_c 1 rfl) rfl))))
  refine g_enter2 (k := 266) (N := 30601) (by omega) rfl (Nat.le_of_ble_eq_true rfl) ?_
  refine g_iload_n 1 (gd rfl) rfl rfl ?_
  refine g_istore_n 2 (gd rfl) rfl (Nat.le_of_ble_eq_true rfl) ?_
  refine g_iload_n 3 (gd rfl) rfl rfl ?_
  refine g_istore 5 (gd rfl) rfl (Nat.le_of_ble_eq_true rfl) ?_
  refine g_iconst 0 6 (gd rfl) rfl rfl ?_
  refine g_istore 8 (gd rfl) rfl (Nat.le_of_ble_eq_true rfl) ?_
  have n8 : ∀ k, bt x1 k = true → bt x1 k = true := by first | exact fun k h => h | exact fun k h => bt_orl e54 (g8_0 k h)
  exact gg_w (by omega) (gg_f (gf_cons rfl (gf_cons rfl (gf_cons rfl (gf_cons rfl (gf_cons rfl (gf_cons rfl gf_nil)))))) (ct8 33  x1 x1 (Int32.ofInt 0)  (in_w 0 32 (in_c 0 rfl) rfl) n8 (m_in 33 (in_w 0 32 (in_c 0 rfl) rfl) rfl)))

/-- GraphHouse.flood -/
theorem k_266_10 {Z : AmZ} {A : Nat → Nat} {s : GS} {ex : va_W} {d : Nat} {X : AmX} {x1 : Int32} {x2 : Int32} (hd : 4 ≤ d) (hI : Inv s) (h2 : In x2 (-1) (-1)) : GC Z d 266 [.ref (A 10), .int x1, .int x2] (WW Z A s ++ ex) 0 0 (fun v u => ∃ z : Int32, v = some (.int z) ∧ u = WW Z A s ++ ex ∧ In z (-2147483648) 2147483647 ∧ (∀ k, bt x1 k = true → bt z k = true)) X := by
  intro post xp hP hX
  have ct8 : ∀ (k8 : Nat) (y8_3 : Int32) (y8_4 : Int32) (y8_5 : Int32), (In y8_5 0 32) → (∀ k, bt x1 k = true → bt y8_3 k = true) → 32 - (y8_5).toInt < (k8 : Int) → GG Z (d - 1) 266 post (gx xp) (1 + k8 * 900) 8 (fun j => xlook j [(0, .ref (A 10)), (1, .int x1), (2, .int x2), (3, .int y8_3), (4, .int y8_4), (5, .int y8_5)]) [] (WW Z A s ++ ex) 0 0 := by
    intro k8
    induction k8 with
    | zero => intro y8_3 y8_4 y8_5 j8_5 g8_0 mm8; exact m_no mm8 j8_5 rfl
    | succ k8 ih8 =>
      intro y8_3 y8_4 y8_5 j8_5 g8_0 mm8
      refine gg_w (M := 1 + k8 * 900 + 900) (by omega) ?_
      refine g_iload 10 (gd rfl) rfl rfl ?_
      refine g_bipush 32 12 (gd rfl) rfl rfl ?_
      refine g_cmp_ge 15 62 (gd rfl) rfl rfl (fun c12 => ?_) (fun c12 => ?_)
      · skip
        have i12 := r_le2 32 32 c12 (in_c 32 rfl) j8_5 rfl
        refine g_iload_n 63 (gd rfl) rfl rfl ?_
        have n63 : ∀ k, bt x1 k = true → bt y8_3 k = true := by exact g8_0
        exact g_ireturn (gd rfl) rfl rfl (hP _ _ ⟨y8_3, rfl, rfl, in_w (-2147483648) 2147483647 (i_rng y8_3) rfl, n63⟩)
      · skip
        have i12 := r_lt1 0 31 c12 j8_5 (in_c 32 rfl) rfl
        refine g_iload 17 (gd rfl) rfl rfl ?_
        refine g_if_eq 20 62 (gd rfl) rfl rfl (fun c17 => ?_) (fun c17 => ?_)
        · skip
          have i17 := z_eq 0 0 c17 (i_rng y8_4) rfl
          refine g_iload_n 63 (gd rfl) rfl rfl ?_
          have n63 : ∀ k, bt x1 k = true → bt y8_3 k = true := by exact g8_0
          exact g_ireturn (gd rfl) rfl rfl (hP _ _ ⟨y8_3, rfl, rfl, in_w (-2147483648) 2147483647 (i_rng y8_3) rfl, n63⟩)
        · skip
          refine g_aload_n 21 (gd rfl) rfl rfl ?_
          refine g_iload 23 (gd rfl) rfl rfl ?_
          refine g_calls (As := [.int y8_4]) (r := [.ref (A 10)]) 26 (gd rfl) rfl rfl rfl rfl rfl (Nat.le_of_ble_eq_true rfl) (Nat.zero_le _) (Nat.zero_le _) (k_264n (by omega) c17) (fun v u h => ?_)
          obtain ⟨z23, rfl, rfl, i23, hb23, hl23⟩ := h
          show GG _ _ _ _ _ _ _ _ [.int z23, .ref (A 10)] _ _ _
          refine g_iaload 27 (gd rfl) rfl (n := 32) rfl (in_ix i23 rfl) (fun z26 e26 => ?_)
          refine g_iload_n 28 (gd rfl) rfl rfl ?_
          refine g_iand 29 (gd rfl) rfl (fun z28 e28 => ?_)
          refine g_iload_n 30 (gd rfl) rfl rfl ?_
          refine g_iconst (-1) 31 (gd rfl) rfl rfl ?_
          refine g_ixor 32 (gd rfl) rfl (fun z31 e31 => ?_)
          refine g_iand 33 (gd rfl) rfl (fun z32 e32 => ?_)
          refine g_istore 35 (gd rfl) rfl (Nat.le_of_ble_eq_true rfl) ?_
          refine g_iload 37 (gd rfl) rfl rfl ?_
          refine g_iload 39 (gd rfl) rfl rfl ?_
          refine g_iconst 1 40 (gd rfl) rfl rfl ?_
          refine g_isub 41 (gd rfl) rfl (fun z40 e40 => ?_)
          refine g_iand 42 (gd rfl) rfl (fun z41 e41 => ?_)
          refine g_istore 44 (gd rfl) rfl (Nat.le_of_ble_eq_true rfl) ?_
          refine g_iload 46 (gd rfl) rfl rfl ?_
          refine g_iload 48 (gd rfl) rfl rfl ?_
          refine g_ior 49 (gd rfl) rfl (fun z48 e48 => ?_)
          refine g_istore 51 (gd rfl) rfl (Nat.le_of_ble_eq_true rfl) ?_
          refine g_iload_n 52 (gd rfl) rfl rfl ?_
          refine g_iload 54 (gd rfl) rfl rfl ?_
          refine g_ior 55 (gd rfl) rfl (fun z54 e54 => ?_)
          refine g_istore_n 56 (gd rfl) rfl (Nat.le_of_ble_eq_true rfl) ?_
          refine g_iinc 59 (gd rfl) rfl rfl (Nat.le_of_ble_eq_true rfl) (fun z56 e56 => ?_)
          have i56 := in_add 1 32 e56 i12 (in_c 1 rfl) rfl rfl
          refine g_goto 8 (gd rfl) rfl ?_
          have n8 : ∀ k, bt x1 k = true → bt z54 k = true := by first | exact fun k h => h | exact fun k h => bt_orl e54 (g8_0 k h)
          exact gg_w (by omega) (gg_f (gf_cons rfl (gf_cons rfl (gf_cons rfl (gf_cons rfl (gf_cons rfl (gf_cons rfl gf_nil)))))) (ih8  z54 z48 z56  (in_w 0 32 i56 rfl) n8 (m_up mm8 (t_add e56 i12 (in_c 1 rfl) rfl) (in_w 1 1 (in_c 1 rfl) rfl))))
  refine g_enter2 (k := 266) (N := 30601) (by omega) rfl (Nat.le_of_ble_eq_true rfl) ?_
  refine g_iload_n 1 (gd rfl) rfl rfl ?_
  refine g_istore_n 2 (gd rfl) rfl (Nat.le_of_ble_eq_true rfl) ?_
  refine g_iload_n 3 (gd rfl) rfl rfl ?_
  refine g_istore 5 (gd rfl) rfl (Nat.le_of_ble_eq_true rfl) ?_
  refine g_iconst 0 6 (gd rfl) rfl rfl ?_
  refine g_istore 8 (gd rfl) rfl (Nat.le_of_ble_eq_true rfl) ?_
  have n8 : ∀ k, bt x1 k = true → bt x1 k = true := by first | exact fun k h => h | exact fun k h => bt_orl e54 (g8_0 k h)
  exact gg_w (by omega) (gg_f (gf_cons rfl (gf_cons rfl (gf_cons rfl (gf_cons rfl (gf_cons rfl (gf_cons rfl gf_nil)))))) (ct8 33  x1 x1 (Int32.ofInt 0)  (in_w 0 32 (in_c 0 rfl) rfl) n8 (m_in 33 (in_w 0 32 (in_c 0 rfl) rfl) rfl)))

/-- GraphHouse.flood -/
theorem k_266_11 {Z : AmZ} {A : Nat → Nat} {s : GS} {ex : va_W} {d : Nat} {X : AmX} {x1 : Int32} {x2 : Int32} (hd : 4 ≤ d) (hI : Inv s) (h2 : In x2 (-1) (-1)) : GC Z d 266 [.ref (A 11), .int x1, .int x2] (WW Z A s ++ ex) 0 0 (fun v u => ∃ z : Int32, v = some (.int z) ∧ u = WW Z A s ++ ex ∧ In z (-2147483648) 2147483647 ∧ (∀ k, bt x1 k = true → bt z k = true)) X := by
  intro post xp hP hX
  have ct8 : ∀ (k8 : Nat) (y8_3 : Int32) (y8_4 : Int32) (y8_5 : Int32), (In y8_5 0 32) → (∀ k, bt x1 k = true → bt y8_3 k = true) → 32 - (y8_5).toInt < (k8 : Int) → GG Z (d - 1) 266 post (gx xp) (1 + k8 * 900) 8 (fun j => xlook j [(0, .ref (A 11)), (1, .int x1), (2, .int x2), (3, .int y8_3), (4, .int y8_4), (5, .int y8_5)]) [] (WW Z A s ++ ex) 0 0 := by
    intro k8
    induction k8 with
    | zero => intro y8_3 y8_4 y8_5 j8_5 g8_0 mm8; exact m_no mm8 j8_5 rfl
    | succ k8 ih8 =>
      intro y8_3 y8_4 y8_5 j8_5 g8_0 mm8
      refine gg_w (M := 1 + k8 * 900 + 900) (by omega) ?_
      refine g_iload 10 (gd rfl) rfl rfl ?_
      refine g_bipush 32 12 (gd rfl) rfl rfl ?_
      refine g_cmp_ge 15 62 (gd rfl) rfl rfl (fun c12 => ?_) (fun c12 => ?_)
      · skip
        have i12 := r_le2 32 32 c12 (in_c 32 rfl) j8_5 rfl
        refine g_iload_n 63 (gd rfl) rfl rfl ?_
        have n63 : ∀ k, bt x1 k = true → bt y8_3 k = true := by exact g8_0
        exact g_ireturn (gd rfl) rfl rfl (hP _ _ ⟨y8_3, rfl, rfl, in_w (-2147483648) 2147483647 (i_rng y8_3) rfl, n63⟩)
      · skip
        have i12 := r_lt1 0 31 c12 j8_5 (in_c 32 rfl) rfl
        refine g_iload 17 (gd rfl) rfl rfl ?_
        refine g_if_eq 20 62 (gd rfl) rfl rfl (fun c17 => ?_) (fun c17 => ?_)
        · skip
          have i17 := z_eq 0 0 c17 (i_rng y8_4) rfl
          refine g_iload_n 63 (gd rfl) rfl rfl ?_
          have n63 : ∀ k, bt x1 k = true → bt y8_3 k = true := by exact g8_0
          exact g_ireturn (gd rfl) rfl rfl (hP _ _ ⟨y8_3, rfl, rfl, in_w (-2147483648) 2147483647 (i_rng y8_3) rfl, n63⟩)
        · skip
          refine g_aload_n 21 (gd rfl) rfl rfl ?_
          refine g_iload 23 (gd rfl) rfl rfl ?_
          refine g_calls (As := [.int y8_4]) (r := [.ref (A 11)]) 26 (gd rfl) rfl rfl rfl rfl rfl (Nat.le_of_ble_eq_true rfl) (Nat.zero_le _) (Nat.zero_le _) (k_264n (by omega) c17) (fun v u h => ?_)
          obtain ⟨z23, rfl, rfl, i23, hb23, hl23⟩ := h
          show GG _ _ _ _ _ _ _ _ [.int z23, .ref (A 11)] _ _ _
          refine g_iaload 27 (gd rfl) rfl (n := 32) rfl (in_ix i23 rfl) (fun z26 e26 => ?_)
          refine g_iload_n 28 (gd rfl) rfl rfl ?_
          refine g_iand 29 (gd rfl) rfl (fun z28 e28 => ?_)
          refine g_iload_n 30 (gd rfl) rfl rfl ?_
          refine g_iconst (-1) 31 (gd rfl) rfl rfl ?_
          refine g_ixor 32 (gd rfl) rfl (fun z31 e31 => ?_)
          refine g_iand 33 (gd rfl) rfl (fun z32 e32 => ?_)
          refine g_istore 35 (gd rfl) rfl (Nat.le_of_ble_eq_true rfl) ?_
          refine g_iload 37 (gd rfl) rfl rfl ?_
          refine g_iload 39 (gd rfl) rfl rfl ?_
          refine g_iconst 1 40 (gd rfl) rfl rfl ?_
          refine g_isub 41 (gd rfl) rfl (fun z40 e40 => ?_)
          refine g_iand 42 (gd rfl) rfl (fun z41 e41 => ?_)
          refine g_istore 44 (gd rfl) rfl (Nat.le_of_ble_eq_true rfl) ?_
          refine g_iload 46 (gd rfl) rfl rfl ?_
          refine g_iload 48 (gd rfl) rfl rfl ?_
          refine g_ior 49 (gd rfl) rfl (fun z48 e48 => ?_)
          refine g_istore 51 (gd rfl) rfl (Nat.le_of_ble_eq_true rfl) ?_
          refine g_iload_n 52 (gd rfl) rfl rfl ?_
          refine g_iload 54 (gd rfl) rfl rfl ?_
          refine g_ior 55 (gd rfl) rfl (fun z54 e54 => ?_)
          refine g_istore_n 56 (gd rfl) rfl (Nat.le_of_ble_eq_true rfl) ?_
          refine g_iinc 59 (gd rfl) rfl rfl (Nat.le_of_ble_eq_true rfl) (fun z56 e56 => ?_)
          have i56 := in_add 1 32 e56 i12 (in_c 1 rfl) rfl rfl
          refine g_goto 8 (gd rfl) rfl ?_
          have n8 : ∀ k, bt x1 k = true → bt z54 k = true := by first | exact fun k h => h | exact fun k h => bt_orl e54 (g8_0 k h)
          exact gg_w (by omega) (gg_f (gf_cons rfl (gf_cons rfl (gf_cons rfl (gf_cons rfl (gf_cons rfl (gf_cons rfl gf_nil)))))) (ih8  z54 z48 z56  (in_w 0 32 i56 rfl) n8 (m_up mm8 (t_add e56 i12 (in_c 1 rfl) rfl) (in_w 1 1 (in_c 1 rfl) rfl))))
  refine g_enter2 (k := 266) (N := 30601) (by omega) rfl (Nat.le_of_ble_eq_true rfl) ?_
  refine g_iload_n 1 (gd rfl) rfl rfl ?_
  refine g_istore_n 2 (gd rfl) rfl (Nat.le_of_ble_eq_true rfl) ?_
  refine g_iload_n 3 (gd rfl) rfl rfl ?_
  refine g_istore 5 (gd rfl) rfl (Nat.le_of_ble_eq_true rfl) ?_
  refine g_iconst 0 6 (gd rfl) rfl rfl ?_
  refine g_istore 8 (gd rfl) rfl (Nat.le_of_ble_eq_true rfl) ?_
  have n8 : ∀ k, bt x1 k = true → bt x1 k = true := by first | exact fun k h => h | exact fun k h => bt_orl e54 (g8_0 k h)
  exact gg_w (by omega) (gg_f (gf_cons rfl (gf_cons rfl (gf_cons rfl (gf_cons rfl (gf_cons rfl (gf_cons rfl gf_nil)))))) (ct8 33  x1 x1 (Int32.ofInt 0)  (in_w 0 32 (in_c 0 rfl) rfl) n8 (m_in 33 (in_w 0 32 (in_c 0 rfl) rfl) rfl)))

/-- GraphHouse.flood -/
theorem k_266_39 {Z : AmZ} {A : Nat → Nat} {s : GS} {ex : va_W} {d : Nat} {X : AmX} {x1 : Int32} {x2 : Int32} (hd : 4 ≤ d) (hI : Inv s)  : GC Z d 266 [.ref (A 39), .int x1, .int x2] (WW Z A s ++ ex) 0 0 (fun v u => ∃ z : Int32, v = some (.int z) ∧ u = WW Z A s ++ ex ∧ In z (-2147483648) 2147483647 ∧ (∀ k, bt x1 k = true → bt z k = true)) X := by
  intro post xp hP hX
  have ct8 : ∀ (k8 : Nat) (y8_3 : Int32) (y8_4 : Int32) (y8_5 : Int32), (In y8_5 0 32) → (∀ k, bt x1 k = true → bt y8_3 k = true) → 32 - (y8_5).toInt < (k8 : Int) → GG Z (d - 1) 266 post (gx xp) (1 + k8 * 900) 8 (fun j => xlook j [(0, .ref (A 39)), (1, .int x1), (2, .int x2), (3, .int y8_3), (4, .int y8_4), (5, .int y8_5)]) [] (WW Z A s ++ ex) 0 0 := by
    intro k8
    induction k8 with
    | zero => intro y8_3 y8_4 y8_5 j8_5 g8_0 mm8; exact m_no mm8 j8_5 rfl
    | succ k8 ih8 =>
      intro y8_3 y8_4 y8_5 j8_5 g8_0 mm8
      refine gg_w (M := 1 + k8 * 900 + 900) (by omega) ?_
      refine g_iload 10 (gd rfl) rfl rfl ?_
      refine g_bipush 32 12 (gd rfl) rfl rfl ?_
      refine g_cmp_ge 15 62 (gd rfl) rfl rfl (fun c12 => ?_) (fun c12 => ?_)
      · skip
        have i12 := r_le2 32 32 c12 (in_c 32 rfl) j8_5 rfl
        refine g_iload_n 63 (gd rfl) rfl rfl ?_
        have n63 : ∀ k, bt x1 k = true → bt y8_3 k = true := by exact g8_0
        exact g_ireturn (gd rfl) rfl rfl (hP _ _ ⟨y8_3, rfl, rfl, in_w (-2147483648) 2147483647 (i_rng y8_3) rfl, n63⟩)
      · skip
        have i12 := r_lt1 0 31 c12 j8_5 (in_c 32 rfl) rfl
        refine g_iload 17 (gd rfl) rfl rfl ?_
        refine g_if_eq 20 62 (gd rfl) rfl rfl (fun c17 => ?_) (fun c17 => ?_)
        · skip
          have i17 := z_eq 0 0 c17 (i_rng y8_4) rfl
          refine g_iload_n 63 (gd rfl) rfl rfl ?_
          have n63 : ∀ k, bt x1 k = true → bt y8_3 k = true := by exact g8_0
          exact g_ireturn (gd rfl) rfl rfl (hP _ _ ⟨y8_3, rfl, rfl, in_w (-2147483648) 2147483647 (i_rng y8_3) rfl, n63⟩)
        · skip
          refine g_aload_n 21 (gd rfl) rfl rfl ?_
          refine g_iload 23 (gd rfl) rfl rfl ?_
          refine g_calls (As := [.int y8_4]) (r := [.ref (A 39)]) 26 (gd rfl) rfl rfl rfl rfl rfl (Nat.le_of_ble_eq_true rfl) (Nat.zero_le _) (Nat.zero_le _) (k_264n (by omega) c17) (fun v u h => ?_)
          obtain ⟨z23, rfl, rfl, i23, hb23, hl23⟩ := h
          show GG _ _ _ _ _ _ _ _ [.int z23, .ref (A 39)] _ _ _
          refine g_iaload 27 (gd rfl) rfl (n := 32) rfl (in_ix i23 rfl) (fun z26 e26 => ?_)
          refine g_iload_n 28 (gd rfl) rfl rfl ?_
          refine g_iand 29 (gd rfl) rfl (fun z28 e28 => ?_)
          refine g_iload_n 30 (gd rfl) rfl rfl ?_
          refine g_iconst (-1) 31 (gd rfl) rfl rfl ?_
          refine g_ixor 32 (gd rfl) rfl (fun z31 e31 => ?_)
          refine g_iand 33 (gd rfl) rfl (fun z32 e32 => ?_)
          refine g_istore 35 (gd rfl) rfl (Nat.le_of_ble_eq_true rfl) ?_
          refine g_iload 37 (gd rfl) rfl rfl ?_
          refine g_iload 39 (gd rfl) rfl rfl ?_
          refine g_iconst 1 40 (gd rfl) rfl rfl ?_
          refine g_isub 41 (gd rfl) rfl (fun z40 e40 => ?_)
          refine g_iand 42 (gd rfl) rfl (fun z41 e41 => ?_)
          refine g_istore 44 (gd rfl) rfl (Nat.le_of_ble_eq_true rfl) ?_
          refine g_iload 46 (gd rfl) rfl rfl ?_
          refine g_iload 48 (gd rfl) rfl rfl ?_
          refine g_ior 49 (gd rfl) rfl (fun z48 e48 => ?_)
          refine g_istore 51 (gd rfl) rfl (Nat.le_of_ble_eq_true rfl) ?_
          refine g_iload_n 52 (gd rfl) rfl rfl ?_
          refine g_iload 54 (gd rfl) rfl rfl ?_
          refine g_ior 55 (gd rfl) rfl (fun z54 e54 => ?_)
          refine g_istore_n 56 (gd rfl) rfl (Nat.le_of_ble_eq_true rfl) ?_
          refine g_iinc 59 (gd rfl) rfl rfl (Nat.le_of_ble_eq_true rfl) (fun z56 e56 => ?_)
          have i56 := in_add 1 32 e56 i12 (in_c 1 rfl) rfl rfl
          refine g_goto 8 (gd rfl) rfl ?_
          have n8 : ∀ k, bt x1 k = true → bt z54 k = true := by first | exact fun k h => h | exact fun k h => bt_orl e54 (g8_0 k h)
          exact gg_w (by omega) (gg_f (gf_cons rfl (gf_cons rfl (gf_cons rfl (gf_cons rfl (gf_cons rfl (gf_cons rfl gf_nil)))))) (ih8  z54 z48 z56  (in_w 0 32 i56 rfl) n8 (m_up mm8 (t_add e56 i12 (in_c 1 rfl) rfl) (in_w 1 1 (in_c 1 rfl) rfl))))
  refine g_enter2 (k := 266) (N := 30601) (by omega) rfl (Nat.le_of_ble_eq_true rfl) ?_
  refine g_iload_n 1 (gd rfl) rfl rfl ?_
  refine g_istore_n 2 (gd rfl) rfl (Nat.le_of_ble_eq_true rfl) ?_
  refine g_iload_n 3 (gd rfl) rfl rfl ?_
  refine g_istore 5 (gd rfl) rfl (Nat.le_of_ble_eq_true rfl) ?_
  refine g_iconst 0 6 (gd rfl) rfl rfl ?_
  refine g_istore 8 (gd rfl) rfl (Nat.le_of_ble_eq_true rfl) ?_
  have n8 : ∀ k, bt x1 k = true → bt x1 k = true := by first | exact fun k h => h | exact fun k h => bt_orl e54 (g8_0 k h)
  exact gg_w (by omega) (gg_f (gf_cons rfl (gf_cons rfl (gf_cons rfl (gf_cons rfl (gf_cons rfl (gf_cons rfl gf_nil)))))) (ct8 33  x1 x1 (Int32.ofInt 0)  (in_w 0 32 (in_c 0 rfl) rfl) n8 (m_in 33 (in_w 0 32 (in_c 0 rfl) rfl) rfl)))

/-- GraphHouse.flood -/
theorem k_266_40 {Z : AmZ} {A : Nat → Nat} {s : GS} {ex : va_W} {d : Nat} {X : AmX} {x1 : Int32} {x2 : Int32} (hd : 4 ≤ d) (hI : Inv s) (h2 : In x2 (-1) (-1)) : GC Z d 266 [.ref (A 40), .int x1, .int x2] (WW Z A s ++ ex) 0 0 (fun v u => ∃ z : Int32, v = some (.int z) ∧ u = WW Z A s ++ ex ∧ In z (-2147483648) 2147483647 ∧ (∀ k, bt x1 k = true → bt z k = true)) X := by
  intro post xp hP hX
  have ct8 : ∀ (k8 : Nat) (y8_3 : Int32) (y8_4 : Int32) (y8_5 : Int32), (In y8_5 0 32) → (∀ k, bt x1 k = true → bt y8_3 k = true) → 32 - (y8_5).toInt < (k8 : Int) → GG Z (d - 1) 266 post (gx xp) (1 + k8 * 900) 8 (fun j => xlook j [(0, .ref (A 40)), (1, .int x1), (2, .int x2), (3, .int y8_3), (4, .int y8_4), (5, .int y8_5)]) [] (WW Z A s ++ ex) 0 0 := by
    intro k8
    induction k8 with
    | zero => intro y8_3 y8_4 y8_5 j8_5 g8_0 mm8; exact m_no mm8 j8_5 rfl
    | succ k8 ih8 =>
      intro y8_3 y8_4 y8_5 j8_5 g8_0 mm8
      refine gg_w (M := 1 + k8 * 900 + 900) (by omega) ?_
      refine g_iload 10 (gd rfl) rfl rfl ?_
      refine g_bipush 32 12 (gd rfl) rfl rfl ?_
      refine g_cmp_ge 15 62 (gd rfl) rfl rfl (fun c12 => ?_) (fun c12 => ?_)
      · skip
        have i12 := r_le2 32 32 c12 (in_c 32 rfl) j8_5 rfl
        refine g_iload_n 63 (gd rfl) rfl rfl ?_
        have n63 : ∀ k, bt x1 k = true → bt y8_3 k = true := by exact g8_0
        exact g_ireturn (gd rfl) rfl rfl (hP _ _ ⟨y8_3, rfl, rfl, in_w (-2147483648) 2147483647 (i_rng y8_3) rfl, n63⟩)
      · skip
        have i12 := r_lt1 0 31 c12 j8_5 (in_c 32 rfl) rfl
        refine g_iload 17 (gd rfl) rfl rfl ?_
        refine g_if_eq 20 62 (gd rfl) rfl rfl (fun c17 => ?_) (fun c17 => ?_)
        · skip
          have i17 := z_eq 0 0 c17 (i_rng y8_4) rfl
          refine g_iload_n 63 (gd rfl) rfl rfl ?_
          have n63 : ∀ k, bt x1 k = true → bt y8_3 k = true := by exact g8_0
          exact g_ireturn (gd rfl) rfl rfl (hP _ _ ⟨y8_3, rfl, rfl, in_w (-2147483648) 2147483647 (i_rng y8_3) rfl, n63⟩)
        · skip
          refine g_aload_n 21 (gd rfl) rfl rfl ?_
          refine g_iload 23 (gd rfl) rfl rfl ?_
          refine g_calls (As := [.int y8_4]) (r := [.ref (A 40)]) 26 (gd rfl) rfl rfl rfl rfl rfl (Nat.le_of_ble_eq_true rfl) (Nat.zero_le _) (Nat.zero_le _) (k_264n (by omega) c17) (fun v u h => ?_)
          obtain ⟨z23, rfl, rfl, i23, hb23, hl23⟩ := h
          show GG _ _ _ _ _ _ _ _ [.int z23, .ref (A 40)] _ _ _
          refine g_iaload 27 (gd rfl) rfl (n := 32) rfl (in_ix i23 rfl) (fun z26 e26 => ?_)
          refine g_iload_n 28 (gd rfl) rfl rfl ?_
          refine g_iand 29 (gd rfl) rfl (fun z28 e28 => ?_)
          refine g_iload_n 30 (gd rfl) rfl rfl ?_
          refine g_iconst (-1) 31 (gd rfl) rfl rfl ?_
          refine g_ixor 32 (gd rfl) rfl (fun z31 e31 => ?_)
          refine g_iand 33 (gd rfl) rfl (fun z32 e32 => ?_)
          refine g_istore 35 (gd rfl) rfl (Nat.le_of_ble_eq_true rfl) ?_
          refine g_iload 37 (gd rfl) rfl rfl ?_
          refine g_iload 39 (gd rfl) rfl rfl ?_
          refine g_iconst 1 40 (gd rfl) rfl rfl ?_
          refine g_isub 41 (gd rfl) rfl (fun z40 e40 => ?_)
          refine g_iand 42 (gd rfl) rfl (fun z41 e41 => ?_)
          refine g_istore 44 (gd rfl) rfl (Nat.le_of_ble_eq_true rfl) ?_
          refine g_iload 46 (gd rfl) rfl rfl ?_
          refine g_iload 48 (gd rfl) rfl rfl ?_
          refine g_ior 49 (gd rfl) rfl (fun z48 e48 => ?_)
          refine g_istore 51 (gd rfl) rfl (Nat.le_of_ble_eq_true rfl) ?_
          refine g_iload_n 52 (gd rfl) rfl rfl ?_
          refine g_iload 54 (gd rfl) rfl rfl ?_
          refine g_ior 55 (gd rfl) rfl (fun z54 e54 => ?_)
          refine g_istore_n 56 (gd rfl) rfl (Nat.le_of_ble_eq_true rfl) ?_
          refine g_iinc 59 (gd rfl) rfl rfl (Nat.le_of_ble_eq_true rfl) (fun z56 e56 => ?_)
          have i56 := in_add 1 32 e56 i12 (in_c 1 rfl) rfl rfl
          refine g_goto 8 (gd rfl) rfl ?_
          have n8 : ∀ k, bt x1 k = true → bt z54 k = true := by first | exact fun k h => h | exact fun k h => bt_orl e54 (g8_0 k h)
          exact gg_w (by omega) (gg_f (gf_cons rfl (gf_cons rfl (gf_cons rfl (gf_cons rfl (gf_cons rfl (gf_cons rfl gf_nil)))))) (ih8  z54 z48 z56  (in_w 0 32 i56 rfl) n8 (m_up mm8 (t_add e56 i12 (in_c 1 rfl) rfl) (in_w 1 1 (in_c 1 rfl) rfl))))
  refine g_enter2 (k := 266) (N := 30601) (by omega) rfl (Nat.le_of_ble_eq_true rfl) ?_
  refine g_iload_n 1 (gd rfl) rfl rfl ?_
  refine g_istore_n 2 (gd rfl) rfl (Nat.le_of_ble_eq_true rfl) ?_
  refine g_iload_n 3 (gd rfl) rfl rfl ?_
  refine g_istore 5 (gd rfl) rfl (Nat.le_of_ble_eq_true rfl) ?_
  refine g_iconst 0 6 (gd rfl) rfl rfl ?_
  refine g_istore 8 (gd rfl) rfl (Nat.le_of_ble_eq_true rfl) ?_
  have n8 : ∀ k, bt x1 k = true → bt x1 k = true := by first | exact fun k h => h | exact fun k h => bt_orl e54 (g8_0 k h)
  exact gg_w (by omega) (gg_f (gf_cons rfl (gf_cons rfl (gf_cons rfl (gf_cons rfl (gf_cons rfl (gf_cons rfl gf_nil)))))) (ct8 33  x1 x1 (Int32.ofInt 0)  (in_w 0 32 (in_c 0 rfl) rfl) n8 (m_in 33 (in_w 0 32 (in_c 0 rfl) rfl) rfl)))

/-- GraphHouse.flood -/
theorem k_266_41 {Z : AmZ} {A : Nat → Nat} {s : GS} {ex : va_W} {d : Nat} {X : AmX} {x1 : Int32} {x2 : Int32} (hd : 4 ≤ d) (hI : Inv s) (h2 : In x2 (-1) (-1)) : GC Z d 266 [.ref (A 41), .int x1, .int x2] (WW Z A s ++ ex) 0 0 (fun v u => ∃ z : Int32, v = some (.int z) ∧ u = WW Z A s ++ ex ∧ In z (-2147483648) 2147483647 ∧ (∀ k, bt x1 k = true → bt z k = true)) X := by
  intro post xp hP hX
  have ct8 : ∀ (k8 : Nat) (y8_3 : Int32) (y8_4 : Int32) (y8_5 : Int32), (In y8_5 0 32) → (∀ k, bt x1 k = true → bt y8_3 k = true) → 32 - (y8_5).toInt < (k8 : Int) → GG Z (d - 1) 266 post (gx xp) (1 + k8 * 900) 8 (fun j => xlook j [(0, .ref (A 41)), (1, .int x1), (2, .int x2), (3, .int y8_3), (4, .int y8_4), (5, .int y8_5)]) [] (WW Z A s ++ ex) 0 0 := by
    intro k8
    induction k8 with
    | zero => intro y8_3 y8_4 y8_5 j8_5 g8_0 mm8; exact m_no mm8 j8_5 rfl
    | succ k8 ih8 =>
      intro y8_3 y8_4 y8_5 j8_5 g8_0 mm8
      refine gg_w (M := 1 + k8 * 900 + 900) (by omega) ?_
      refine g_iload 10 (gd rfl) rfl rfl ?_
      refine g_bipush 32 12 (gd rfl) rfl rfl ?_
      refine g_cmp_ge 15 62 (gd rfl) rfl rfl (fun c12 => ?_) (fun c12 => ?_)
      · skip
        have i12 := r_le2 32 32 c12 (in_c 32 rfl) j8_5 rfl
        refine g_iload_n 63 (gd rfl) rfl rfl ?_
        have n63 : ∀ k, bt x1 k = true → bt y8_3 k = true := by exact g8_0
        exact g_ireturn (gd rfl) rfl rfl (hP _ _ ⟨y8_3, rfl, rfl, in_w (-2147483648) 2147483647 (i_rng y8_3) rfl, n63⟩)
      · skip
        have i12 := r_lt1 0 31 c12 j8_5 (in_c 32 rfl) rfl
        refine g_iload 17 (gd rfl) rfl rfl ?_
        refine g_if_eq 20 62 (gd rfl) rfl rfl (fun c17 => ?_) (fun c17 => ?_)
        · skip
          have i17 := z_eq 0 0 c17 (i_rng y8_4) rfl
          refine g_iload_n 63 (gd rfl) rfl rfl ?_
          have n63 : ∀ k, bt x1 k = true → bt y8_3 k = true := by exact g8_0
          exact g_ireturn (gd rfl) rfl rfl (hP _ _ ⟨y8_3, rfl, rfl, in_w (-2147483648) 2147483647 (i_rng y8_3) rfl, n63⟩)
        · skip
          refine g_aload_n 21 (gd rfl) rfl rfl ?_
          refine g_iload 23 (gd rfl) rfl rfl ?_
          refine g_calls (As := [.int y8_4]) (r := [.ref (A 41)]) 26 (gd rfl) rfl rfl rfl rfl rfl (Nat.le_of_ble_eq_true rfl) (Nat.zero_le _) (Nat.zero_le _) (k_264n (by omega) c17) (fun v u h => ?_)
          obtain ⟨z23, rfl, rfl, i23, hb23, hl23⟩ := h
          show GG _ _ _ _ _ _ _ _ [.int z23, .ref (A 41)] _ _ _
          refine g_iaload 27 (gd rfl) rfl (n := 32) rfl (in_ix i23 rfl) (fun z26 e26 => ?_)
          refine g_iload_n 28 (gd rfl) rfl rfl ?_
          refine g_iand 29 (gd rfl) rfl (fun z28 e28 => ?_)
          refine g_iload_n 30 (gd rfl) rfl rfl ?_
          refine g_iconst (-1) 31 (gd rfl) rfl rfl ?_
          refine g_ixor 32 (gd rfl) rfl (fun z31 e31 => ?_)
          refine g_iand 33 (gd rfl) rfl (fun z32 e32 => ?_)
          refine g_istore 35 (gd rfl) rfl (Nat.le_of_ble_eq_true rfl) ?_
          refine g_iload 37 (gd rfl) rfl rfl ?_
          refine g_iload 39 (gd rfl) rfl rfl ?_
          refine g_iconst 1 40 (gd rfl) rfl rfl ?_
          refine g_isub 41 (gd rfl) rfl (fun z40 e40 => ?_)
          refine g_iand 42 (gd rfl) rfl (fun z41 e41 => ?_)
          refine g_istore 44 (gd rfl) rfl (Nat.le_of_ble_eq_true rfl) ?_
          refine g_iload 46 (gd rfl) rfl rfl ?_
          refine g_iload 48 (gd rfl) rfl rfl ?_
          refine g_ior 49 (gd rfl) rfl (fun z48 e48 => ?_)
          refine g_istore 51 (gd rfl) rfl (Nat.le_of_ble_eq_true rfl) ?_
          refine g_iload_n 52 (gd rfl) rfl rfl ?_
          refine g_iload 54 (gd rfl) rfl rfl ?_
          refine g_ior 55 (gd rfl) rfl (fun z54 e54 => ?_)
          refine g_istore_n 56 (gd rfl) rfl (Nat.le_of_ble_eq_true rfl) ?_
          refine g_iinc 59 (gd rfl) rfl rfl (Nat.le_of_ble_eq_true rfl) (fun z56 e56 => ?_)
          have i56 := in_add 1 32 e56 i12 (in_c 1 rfl) rfl rfl
          refine g_goto 8 (gd rfl) rfl ?_
          have n8 : ∀ k, bt x1 k = true → bt z54 k = true := by first | exact fun k h => h | exact fun k h => bt_orl e54 (g8_0 k h)
          exact gg_w (by omega) (gg_f (gf_cons rfl (gf_cons rfl (gf_cons rfl (gf_cons rfl (gf_cons rfl (gf_cons rfl gf_nil)))))) (ih8  z54 z48 z56  (in_w 0 32 i56 rfl) n8 (m_up mm8 (t_add e56 i12 (in_c 1 rfl) rfl) (in_w 1 1 (in_c 1 rfl) rfl))))
  refine g_enter2 (k := 266) (N := 30601) (by omega) rfl (Nat.le_of_ble_eq_true rfl) ?_
  refine g_iload_n 1 (gd rfl) rfl rfl ?_
  refine g_istore_n 2 (gd rfl) rfl (Nat.le_of_ble_eq_true rfl) ?_
  refine g_iload_n 3 (gd rfl) rfl rfl ?_
  refine g_istore 5 (gd rfl) rfl (Nat.le_of_ble_eq_true rfl) ?_
  refine g_iconst 0 6 (gd rfl) rfl rfl ?_
  refine g_istore 8 (gd rfl) rfl (Nat.le_of_ble_eq_true rfl) ?_
  have n8 : ∀ k, bt x1 k = true → bt x1 k = true := by first | exact fun k h => h | exact fun k h => bt_orl e54 (g8_0 k h)
  exact gg_w (by omega) (gg_f (gf_cons rfl (gf_cons rfl (gf_cons rfl (gf_cons rfl (gf_cons rfl (gf_cons rfl gf_nil)))))) (ct8 33  x1 x1 (Int32.ofInt 0)  (in_w 0 32 (in_c 0 rfl) rfl) n8 (m_in 33 (in_w 0 32 (in_c 0 rfl) rfl) rfl)))

/-- GraphHouse.flood -/
theorem k_266_84 {Z : AmZ} {A : Nat → Nat} {s : GS} {ex : va_W} {d : Nat} {X : AmX} {x1 : Int32} {x2 : Int32} (hd : 4 ≤ d) (hI : Inv s) (h2 : In x2 (-1) (-1)) : GC Z d 266 [.ref (A 84), .int x1, .int x2] (WW Z A s ++ ex) 0 0 (fun v u => ∃ z : Int32, v = some (.int z) ∧ u = WW Z A s ++ ex ∧ In z (-2147483648) 2147483647 ∧ (∀ k, bt x1 k = true → bt z k = true)) X := by
  intro post xp hP hX
  have ct8 : ∀ (k8 : Nat) (y8_3 : Int32) (y8_4 : Int32) (y8_5 : Int32), (In y8_5 0 32) → (∀ k, bt x1 k = true → bt y8_3 k = true) → 32 - (y8_5).toInt < (k8 : Int) → GG Z (d - 1) 266 post (gx xp) (1 + k8 * 900) 8 (fun j => xlook j [(0, .ref (A 84)), (1, .int x1), (2, .int x2), (3, .int y8_3), (4, .int y8_4), (5, .int y8_5)]) [] (WW Z A s ++ ex) 0 0 := by
    intro k8
    induction k8 with
    | zero => intro y8_3 y8_4 y8_5 j8_5 g8_0 mm8; exact m_no mm8 j8_5 rfl
    | succ k8 ih8 =>
      intro y8_3 y8_4 y8_5 j8_5 g8_0 mm8
      refine gg_w (M := 1 + k8 * 900 + 900) (by omega) ?_
      refine g_iload 10 (gd rfl) rfl rfl ?_
      refine g_bipush 32 12 (gd rfl) rfl rfl ?_
      refine g_cmp_ge 15 62 (gd rfl) rfl rfl (fun c12 => ?_) (fun c12 => ?_)
      · skip
        have i12 := r_le2 32 32 c12 (in_c 32 rfl) j8_5 rfl
        refine g_iload_n 63 (gd rfl) rfl rfl ?_
        have n63 : ∀ k, bt x1 k = true → bt y8_3 k = true := by exact g8_0
        exact g_ireturn (gd rfl) rfl rfl (hP _ _ ⟨y8_3, rfl, rfl, in_w (-2147483648) 2147483647 (i_rng y8_3) rfl, n63⟩)
      · skip
        have i12 := r_lt1 0 31 c12 j8_5 (in_c 32 rfl) rfl
        refine g_iload 17 (gd rfl) rfl rfl ?_
        refine g_if_eq 20 62 (gd rfl) rfl rfl (fun c17 => ?_) (fun c17 => ?_)
        · skip
          have i17 := z_eq 0 0 c17 (i_rng y8_4) rfl
          refine g_iload_n 63 (gd rfl) rfl rfl ?_
          have n63 : ∀ k, bt x1 k = true → bt y8_3 k = true := by exact g8_0
          exact g_ireturn (gd rfl) rfl rfl (hP _ _ ⟨y8_3, rfl, rfl, in_w (-2147483648) 2147483647 (i_rng y8_3) rfl, n63⟩)
        · skip
          refine g_aload_n 21 (gd rfl) rfl rfl ?_
          refine g_iload 23 (gd rfl) rfl rfl ?_
          refine g_calls (As := [.int y8_4]) (r := [.ref (A 84)]) 26 (gd rfl) rfl rfl rfl rfl rfl (Nat.le_of_ble_eq_true rfl) (Nat.zero_le _) (Nat.zero_le _) (k_264n (by omega) c17) (fun v u h => ?_)
          obtain ⟨z23, rfl, rfl, i23, hb23, hl23⟩ := h
          show GG _ _ _ _ _ _ _ _ [.int z23, .ref (A 84)] _ _ _
          refine g_iaload 27 (gd rfl) rfl (n := 32) rfl (in_ix i23 rfl) (fun z26 e26 => ?_)
          refine g_iload_n 28 (gd rfl) rfl rfl ?_
          refine g_iand 29 (gd rfl) rfl (fun z28 e28 => ?_)
          refine g_iload_n 30 (gd rfl) rfl rfl ?_
          refine g_iconst (-1) 31 (gd rfl) rfl rfl ?_
          refine g_ixor 32 (gd rfl) rfl (fun z31 e31 => ?_)
          refine g_iand 33 (gd rfl) rfl (fun z32 e32 => ?_)
          refine g_istore 35 (gd rfl) rfl (Nat.le_of_ble_eq_true rfl) ?_
          refine g_iload 37 (gd rfl) rfl rfl ?_
          refine g_iload 39 (gd rfl) rfl rfl ?_
          refine g_iconst 1 40 (gd rfl) rfl rfl ?_
          refine g_isub 41 (gd rfl) rfl (fun z40 e40 => ?_)
          refine g_iand 42 (gd rfl) rfl (fun z41 e41 => ?_)
          refine g_istore 44 (gd rfl) rfl (Nat.le_of_ble_eq_true rfl) ?_
          refine g_iload 46 (gd rfl) rfl rfl ?_
          refine g_iload 48 (gd rfl) rfl rfl ?_
          refine g_ior 49 (gd rfl) rfl (fun z48 e48 => ?_)
          refine g_istore 51 (gd rfl) rfl (Nat.le_of_ble_eq_true rfl) ?_
          refine g_iload_n 52 (gd rfl) rfl rfl ?_
          refine g_iload 54 (gd rfl) rfl rfl ?_
          refine g_ior 55 (gd rfl) rfl (fun z54 e54 => ?_)
          refine g_istore_n 56 (gd rfl) rfl (Nat.le_of_ble_eq_true rfl) ?_
          refine g_iinc 59 (gd rfl) rfl rfl (Nat.le_of_ble_eq_true rfl) (fun z56 e56 => ?_)
          have i56 := in_add 1 32 e56 i12 (in_c 1 rfl) rfl rfl
          refine g_goto 8 (gd rfl) rfl ?_
          have n8 : ∀ k, bt x1 k = true → bt z54 k = true := by first | exact fun k h => h | exact fun k h => bt_orl e54 (g8_0 k h)
          exact gg_w (by omega) (gg_f (gf_cons rfl (gf_cons rfl (gf_cons rfl (gf_cons rfl (gf_cons rfl (gf_cons rfl gf_nil)))))) (ih8  z54 z48 z56  (in_w 0 32 i56 rfl) n8 (m_up mm8 (t_add e56 i12 (in_c 1 rfl) rfl) (in_w 1 1 (in_c 1 rfl) rfl))))
  refine g_enter2 (k := 266) (N := 30601) (by omega) rfl (Nat.le_of_ble_eq_true rfl) ?_
  refine g_iload_n 1 (gd rfl) rfl rfl ?_
  refine g_istore_n 2 (gd rfl) rfl (Nat.le_of_ble_eq_true rfl) ?_
  refine g_iload_n 3 (gd rfl) rfl rfl ?_
  refine g_istore 5 (gd rfl) rfl (Nat.le_of_ble_eq_true rfl) ?_
  refine g_iconst 0 6 (gd rfl) rfl rfl ?_
  refine g_istore 8 (gd rfl) rfl (Nat.le_of_ble_eq_true rfl) ?_
  have n8 : ∀ k, bt x1 k = true → bt x1 k = true := by first | exact fun k h => h | exact fun k h => bt_orl e54 (g8_0 k h)
  exact gg_w (by omega) (gg_f (gf_cons rfl (gf_cons rfl (gf_cons rfl (gf_cons rfl (gf_cons rfl (gf_cons rfl gf_nil)))))) (ct8 33  x1 x1 (Int32.ofInt 0)  (in_w 0 32 (in_c 0 rfl) rfl) n8 (m_in 33 (in_w 0 32 (in_c 0 rfl) rfl) rfl)))

/-- GraphHouseModel.thrown -/
theorem k_268 {Z : AmZ} {A : Nat → Nat} {s : GS} {ex : va_W} {d : Nat} {X : AmX}  (hd : 1 ≤ d) (hI : Inv s)  : GC Z d 268 [.ref (A 109)] (WW Z A s ++ ex) 0 0 (fun v u => ∃ z : Int32, v = some (.int z) ∧ u = WW Z A s ++ ex ∧ In z 0 2) X := by
  intro post xp hP hX
  obtain ⟨u_109_0, e_109_0⟩ : ∃ w, w = s.2.2.1 109 0 := ⟨_, rfl⟩
  have ro_109_0 := inv_F hI 0 2 rfl e_109_0
  refine g_enter2 (k := 268) (N := 900) (by omega) rfl (Nat.le_of_ble_eq_true rfl) ?_
  refine g_aload_n 1 (gd rfl) rfl rfl ?_
  refine g_getI 4 (gd rfl) rfl rfl rfl (fun z1 e1 => ?_)
  have q1 : u_109_0 = z1 := (e_109_0).trans e1.symm
  subst q1
  exact g_ireturn (gd rfl) rfl rfl (hP _ _ ⟨u_109_0, rfl, rfl, in_w 0 2 ro_109_0 rfl⟩)

def fm_275 : FM := ([110, 111, 112, 113, 114, 115, 116, 117], [], [], [])
/-- GraphHouseModel.apply -/
theorem k_275 {Z : AmZ} {A : Nat → Nat} {s : GS} {ex : va_W} {d : Nat} {X : AmX} {x1 : Int32} {x2 : Int32} (hd : 1 ≤ d) (hI : Rng s) (h1 : In x1 0 3999) (h2 : In x2 0 1) (q_0 : AQ s (x1).toNatClampNeg (x2).toNatClampNeg) : GC Z d 275 [.ref (A 109), .int x1, .int x2] (WW Z A s ++ ex) 0 0 (fun v u => ∃ t : GS, Rng t ∧ Fr fm_275 s t ∧ v = none ∧ u = WW Z A t ++ ex ∧ (AP s t (x1).toNatClampNeg (x2).toNatClampNeg) ∧ (APT s t (x1).toNatClampNeg (x2).toNatClampNeg)) X := by
  intro post xp hP hX
  refine g_enter2 (k := 275) (N := 900) (by omega) rfl (Nat.le_of_ble_eq_true rfl) ?_
  refine g_sipush 160 3 (gd rfl) rfl rfl ?_
  refine g_iload_n 4 (gd rfl) rfl rfl ?_
  refine g_imul 5 (gd rfl) rfl (fun z4 e4 => ?_)
  have i4 := in_mulc 160 0 160 (Or.inl e4) h2 rfl rfl
  refine g_aload_n 6 (gd rfl) rfl rfl ?_
  refine g_getA (q2 := 119) 9 (gd rfl) rfl rfl rfl rfl ?_
  refine g_iload_n 10 (gd rfl) rfl rfl ?_
  refine g_iaload 11 (gd rfl) rfl (n := 4000) rfl (in_ix h1 rfl) (fun z10 e10 => ?_)
  have i10 := rng_I hI (n := 4000) (t := 0) 0 159 rfl (in_ix h1 rfl) rfl e10
  refine g_iadd 12 (gd rfl) rfl (fun z11 e11 => ?_)
  have i11 := in_add 0 319 e11 i4 i10 rfl rfl
  refine g_istore_n 13 (gd rfl) rfl (Nat.le_of_ble_eq_true rfl) ?_
  refine g_aload_n 14 (gd rfl) rfl rfl ?_
  refine g_getA (q2 := 118) 17 (gd rfl) rfl rfl rfl rfl ?_
  refine g_iload_n 18 (gd rfl) rfl rfl ?_
  refine g_iaload 19 (gd rfl) rfl (n := 4000) rfl (in_ix h1 rfl) (fun z18 e18 => ?_)
  have i18 := rng_I hI (n := 4000) (t := 0) 0 4 rfl (in_ix h1 rfl) rfl e18
  refine g_tsw [48, 83, 153, 163] 227 (gd rfl) rfl rfl rfl ⟨fun c19 => ?_, fun c19 => ?_, fun c19 => ?_, fun c19 => ?_, trivial⟩ (fun c19 => ?_)
  · skip
    have i19 := sw_eq c19
    refine g_aload_n 49 (gd rfl) rfl rfl ?_
    refine g_getA (q2 := 111) 52 (gd rfl) rfl rfl rfl rfl ?_
    refine g_bipush 32 54 (gd rfl) rfl rfl ?_
    refine g_iload_n 55 (gd rfl) rfl rfl ?_
    refine g_imul 56 (gd rfl) rfl (fun z55 e55 => ?_)
    have i55 := in_mulc 32 0 32 (Or.inl e55) h2 rfl rfl
    refine g_aload_n 57 (gd rfl) rfl rfl ?_
    refine g_getA (q2 := 110) 60 (gd rfl) rfl rfl rfl rfl ?_
    refine g_iload_n 61 (gd rfl) rfl rfl ?_
    refine g_iaload 62 (gd rfl) rfl (n := 3) rfl (in_ix h2 rfl) (fun z61 e61 => ?_)
    have i62 : In z61 0 31 := by rw [e61]; exact aq_n q_0 (by have hk9 := i19; unfold In at hk9; rw [← e18]; omega)
    refine g_iadd 63 (gd rfl) rfl (fun z62 e62 => ?_)
    have i62a := in_add 0 63 e62 i55 i62 rfl rfl
    refine g_aload_n 64 (gd rfl) rfl rfl ?_
    refine g_getA (q2 := 119) 67 (gd rfl) rfl rfl rfl rfl ?_
    refine g_iload_n 68 (gd rfl) rfl rfl ?_
    refine g_iaload 69 (gd rfl) rfl (n := 4000) rfl (in_ix h1 rfl) (fun z68 e68 => ?_)
    have q68 : z10 = z68 := (e10).trans e68.symm
    subst q68
    have i69 : In z10 0 25 := by refine ⟨i10.1, ?_⟩; rw [e10]; exact q_0.1.1 (by have hk9 := i19; unfold In at hk9; rw [← e18]; omega)
    refine g_iastore 70 (gd rfl) rfl (n := 96) rfl (in_ix i62a rfl) ?_
    have hI69 := rng_sI (q := 111) (j := z62.toNatClampNeg) hI rfl (in_w 0 25 i69 rfl)
    refine g_aload_n 71 (gd rfl) rfl rfl ?_
    refine g_getA (q2 := 110) 74 (gd rfl) rfl rfl rfl rfl ?_
    refine g_iload_n 75 (gd rfl) rfl rfl ?_
    refine g_dup2 76 (gd rfl) rfl rfl rfl ?_
    refine g_iaload 77 (gd rfl) rfl (n := 3) rfl (in_ix h2 rfl) (fun z76 e76 => ?_)
    have q76 : z61 = z76 := (sI_ne rfl (e61)).trans e76.symm
    subst q76
    refine g_iconst 1 78 (gd rfl) rfl rfl ?_
    refine g_iadd 79 (gd rfl) rfl (fun z78 e78 => ?_)
    have i78 := in_add 1 32 e78 i62 (in_c 1 rfl) rfl rfl
    refine g_iastore 80 (gd rfl) rfl (n := 3) rfl (in_ix h2 rfl) ?_
    have hI79 := rng_sI (q := 110) (j := x2.toNatClampNeg) hI69 rfl (in_w (-2147483648) 2147483647 i78 rfl)
    refine g_goto 249 (gd rfl) rfl ?_
    have n249 : AP s (sI (sI s 111 z62.toNatClampNeg z10) 110 x2.toNatClampNeg z78) (x1).toNatClampNeg (x2).toNatClampNeg := by first | exact ap_node q_0 (by have hk9 := i19; unfold In at hk9; rw [← e18]; omega) rfl (by rw [← e61]; exact t_add e78 i62 (in_c 1 rfl) rfl) rfl rfl rfl | exact ap_arc q_0 (by have hk9 := i19; unfold In at hk9; rw [← e18]; omega) rfl rfl (by have h3 := i11; unfold In at h3; have ha := i10; unfold In at ha; have hg := h2; unfold In at hg; have e3 := (t_mulc 160 (Or.inl e4) h2 rfl).1; have e4 := t_add e11 i4 i10 rfl; have e5 : (z11).toNatClampNeg = (z11).toInt.toNat := rfl; have e6 : x2.toNatClampNeg = x2.toInt.toNat := rfl; omega) rfl rfl e100 e112 | exact ap_take q_0 (by have hk9 := i19; unfold In at hk9; rw [← e18]; omega) rfl rfl rfl (by have h3 := i11; unfold In at h3; have ha := i10; unfold In at ha; have hg := h2; unfold In at hg; have e3 := (t_mulc 160 (Or.inl e4) h2 rfl).1; have e4 := t_add e11 i4 i10 rfl; have e5 : (z11).toNatClampNeg = (z11).toInt.toNat := rfl; have e6 : x2.toNatClampNeg = x2.toInt.toNat := rfl; omega) rfl rfl | exact ap_same q_0 (by have hk9 := i18; unfold In at hk9; rw [← e18]; omega) rfl rfl rfl rfl
    have n249a : APT s (sI (sI s 111 z62.toNatClampNeg z10) 110 x2.toNatClampNeg z78) (x1).toNatClampNeg (x2).toNatClampNeg := by exact apt_3 (by have hk9 := i19; unfold In at hk9; rw [← e18]; omega) (by have hk9 := i19; unfold In at hk9; rw [← e18]; omega) rfl
    exact g_return (gd rfl) rfl (hP _ _ ⟨(sI (sI s 111 z62.toNatClampNeg z10) 110 x2.toNatClampNeg z78), hI79, (fr_sI rfl (fr_sI rfl fr_rf)), rfl, rfl, n249, n249a⟩)
  · skip
    have i19 := sw_eq c19
    refine g_aload_n 84 (gd rfl) rfl rfl ?_
    refine g_getA (q2 := 112) 87 (gd rfl) rfl rfl rfl rfl ?_
    refine g_iload_n 88 (gd rfl) rfl rfl ?_
    refine g_iconst 1 89 (gd rfl) rfl rfl ?_
    refine g_bastore 90 (gd rfl) rfl (n := 480) rfl (in_ix i11 rfl) ?_
    have hI89 := rng_sI (q := 112) (j := z11.toNatClampNeg) hI rfl (in_w 0 1 (nar01 (in_w 0 1 (in_c 1 rfl) rfl)) rfl)
    refine g_aload_n 91 (gd rfl) rfl rfl ?_
    refine g_getA (q2 := 113) 94 (gd rfl) rfl rfl rfl rfl ?_
    refine g_iload_n 95 (gd rfl) rfl rfl ?_
    refine g_aload_n 96 (gd rfl) rfl rfl ?_
    refine g_getA (q2 := 120) 99 (gd rfl) rfl rfl rfl rfl ?_
    refine g_iload_n 100 (gd rfl) rfl rfl ?_
    refine g_iaload 101 (gd rfl) rfl (n := 4000) rfl (in_ix h1 rfl) (fun z100 e100 => ?_)
    have i100 := rng_I hI89 (n := 4000) (t := 0) 0 31 rfl (in_ix h1 rfl) rfl e100
    refine g_iastore 102 (gd rfl) rfl (n := 480) rfl (in_ix i11 rfl) ?_
    have hI101 := rng_sI (q := 113) (j := z11.toNatClampNeg) hI89 rfl (in_w 0 31 i100 rfl)
    refine g_aload_n 103 (gd rfl) rfl rfl ?_
    refine g_getA (q2 := 114) 106 (gd rfl) rfl rfl rfl rfl ?_
    refine g_iload_n 107 (gd rfl) rfl rfl ?_
    refine g_aload_n 108 (gd rfl) rfl rfl ?_
    refine g_getA (q2 := 121) 111 (gd rfl) rfl rfl rfl rfl ?_
    refine g_iload_n 112 (gd rfl) rfl rfl ?_
    refine g_iaload 113 (gd rfl) rfl (n := 4000) rfl (in_ix h1 rfl) (fun z112 e112 => ?_)
    have i112 := rng_I hI101 (n := 4000) (t := 0) (-1000000) 1000000 rfl (in_ix h1 rfl) rfl e112
    have i113 : In z112 0 31 := by have hr := q_0.1.2.1 (by have hk9 := i19; unfold In at hk9; rw [← e18]; omega); have hq := q_0.2.1; have hq2 := q_0.2.2.2; have e9 : z112 = s.1 121 x1.toNatClampNeg := e112; rw [← e9] at hr; exact ⟨hr.2.1, by omega⟩
    refine g_iastore 114 (gd rfl) rfl (n := 480) rfl (in_ix i11 rfl) ?_
    have hI113 := rng_sI (q := 114) (j := z11.toNatClampNeg) hI101 rfl (in_w 0 31 i113 rfl)
    refine g_aload_n 115 (gd rfl) rfl rfl ?_
    refine g_getA (q2 := 115) 118 (gd rfl) rfl rfl rfl rfl ?_
    refine g_iload_n 119 (gd rfl) rfl rfl ?_
    refine g_aload_n 120 (gd rfl) rfl rfl ?_
    refine g_getA (q2 := 122) 123 (gd rfl) rfl rfl rfl rfl ?_
    refine g_iload_n 124 (gd rfl) rfl rfl ?_
    refine g_iaload 125 (gd rfl) rfl (n := 4000) rfl (in_ix h1 rfl) (fun z124 e124 => ?_)
    have i124 := rng_I hI113 (n := 4000) (t := 0) (-1000000) 1000000 rfl (in_ix h1 rfl) rfl e124
    refine g_iastore 126 (gd rfl) rfl (n := 480) rfl (in_ix i11 rfl) ?_
    have hI125 := rng_sI (q := 115) (j := z11.toNatClampNeg) hI113 rfl (in_w (-1000000) 1000000 i124 rfl)
    refine g_aload_n 127 (gd rfl) rfl rfl ?_
    refine g_getA (q2 := 116) 130 (gd rfl) rfl rfl rfl rfl ?_
    refine g_iload_n 131 (gd rfl) rfl rfl ?_
    refine g_aload_n 132 (gd rfl) rfl rfl ?_
    refine g_getA (q2 := 123) 135 (gd rfl) rfl rfl rfl rfl ?_
    refine g_iload_n 136 (gd rfl) rfl rfl ?_
    refine g_iaload 137 (gd rfl) rfl (n := 4000) rfl (in_ix h1 rfl) (fun z136 e136 => ?_)
    have i136 := rng_I hI125 (n := 4000) (t := 0) 0 1000000 rfl (in_ix h1 rfl) rfl e136
    refine g_iastore 138 (gd rfl) rfl (n := 480) rfl (in_ix i11 rfl) ?_
    have hI137 := rng_sI (q := 116) (j := z11.toNatClampNeg) hI125 rfl (in_w 0 1000000 i136 rfl)
    refine g_aload_n 139 (gd rfl) rfl rfl ?_
    refine g_getA (q2 := 117) 142 (gd rfl) rfl rfl rfl rfl ?_
    refine g_iload_n 143 (gd rfl) rfl rfl ?_
    refine g_aload_n 144 (gd rfl) rfl rfl ?_
    refine g_getA (q2 := 124) 147 (gd rfl) rfl rfl rfl rfl ?_
    refine g_iload_n 148 (gd rfl) rfl rfl ?_
    refine g_iaload 149 (gd rfl) rfl (n := 4000) rfl (in_ix h1 rfl) (fun z148 e148 => ?_)
    have i148 := rng_I hI137 (n := 4000) (t := 0) 0 25 rfl (in_ix h1 rfl) rfl e148
    refine g_iastore 150 (gd rfl) rfl (n := 480) rfl (in_ix i11 rfl) ?_
    have hI149 := rng_sI (q := 117) (j := z11.toNatClampNeg) hI137 rfl (in_w 0 25 i148 rfl)
    refine g_goto 249 (gd rfl) rfl ?_
    have n249 : AP s (sI (sI (sI (sI (sI (sI s 112 z11.toNatClampNeg (vp_nar .boolean (Int32.ofInt 1))) 113 z11.toNatClampNeg z100) 114 z11.toNatClampNeg z112) 115 z11.toNatClampNeg z124) 116 z11.toNatClampNeg z136) 117 z11.toNatClampNeg z148) (x1).toNatClampNeg (x2).toNatClampNeg := by first | exact ap_node q_0 (by have hk9 := i19; unfold In at hk9; rw [← e18]; omega) rfl (by rw [← e61]; exact t_add e78 i62 (in_c 1 rfl) rfl) rfl rfl rfl | exact ap_arc q_0 (by have hk9 := i19; unfold In at hk9; rw [← e18]; omega) rfl rfl (by have h3 := i11; unfold In at h3; have ha := i10; unfold In at ha; have hg := h2; unfold In at hg; have e3 := (t_mulc 160 (Or.inl e4) h2 rfl).1; have e4 := t_add e11 i4 i10 rfl; have e5 : (z11).toNatClampNeg = (z11).toInt.toNat := rfl; have e6 : x2.toNatClampNeg = x2.toInt.toNat := rfl; omega) rfl rfl e100 e112 | exact ap_take q_0 (by have hk9 := i19; unfold In at hk9; rw [← e18]; omega) rfl rfl rfl (by have h3 := i11; unfold In at h3; have ha := i10; unfold In at ha; have hg := h2; unfold In at hg; have e3 := (t_mulc 160 (Or.inl e4) h2 rfl).1; have e4 := t_add e11 i4 i10 rfl; have e5 : (z11).toNatClampNeg = (z11).toInt.toNat := rfl; have e6 : x2.toNatClampNeg = x2.toInt.toNat := rfl; omega) rfl rfl | exact ap_same q_0 (by have hk9 := i18; unfold In at hk9; rw [← e18]; omega) rfl rfl rfl rfl
    have n249a : APT s (sI (sI (sI (sI (sI (sI s 112 z11.toNatClampNeg (vp_nar .boolean (Int32.ofInt 1))) 113 z11.toNatClampNeg z100) 114 z11.toNatClampNeg z112) 115 z11.toNatClampNeg z124) 116 z11.toNatClampNeg z136) 117 z11.toNatClampNeg z148) (x1).toNatClampNeg (x2).toNatClampNeg := by exact apt_1 (by have hk9 := i19; unfold In at hk9; rw [← e18]; omega) rfl (by show z11.toInt.toNat = 160 * x2.toNatClampNeg + (s.1 119 x1.toNatClampNeg).toNatClampNeg; rw [← e10]; have e3 := (t_mulc 160 (Or.inl e4) h2 rfl).1; have e5 := t_add e11 i4 i10 rfl; have hg := h2; unfold In at hg; have ha := i10; unfold In at ha; have e6 : x2.toNatClampNeg = x2.toInt.toNat := rfl; have e7 : z10.toNatClampNeg = z10.toInt.toNat := rfl; omega) (by decide)
    exact g_return (gd rfl) rfl (hP _ _ ⟨(sI (sI (sI (sI (sI (sI s 112 z11.toNatClampNeg (vp_nar .boolean (Int32.ofInt 1))) 113 z11.toNatClampNeg z100) 114 z11.toNatClampNeg z112) 115 z11.toNatClampNeg z124) 116 z11.toNatClampNeg z136) 117 z11.toNatClampNeg z148), hI149, (fr_sI rfl (fr_sI rfl (fr_sI rfl (fr_sI rfl (fr_sI rfl (fr_sI rfl fr_rf)))))), rfl, rfl, n249, n249a⟩)
  · skip
    have i19 := sw_eq c19
    refine g_aload_n 154 (gd rfl) rfl rfl ?_
    refine g_getA (q2 := 112) 157 (gd rfl) rfl rfl rfl rfl ?_
    refine g_iload_n 158 (gd rfl) rfl rfl ?_
    refine g_iconst 0 159 (gd rfl) rfl rfl ?_
    refine g_bastore 160 (gd rfl) rfl (n := 480) rfl (in_ix i11 rfl) ?_
    have hI159 := rng_sI (q := 112) (j := z11.toNatClampNeg) hI rfl (in_w 0 1 (nar01 (in_w 0 1 (in_c 0 rfl) rfl)) rfl)
    refine g_goto 249 (gd rfl) rfl ?_
    have n249 : AP s (sI s 112 z11.toNatClampNeg (vp_nar .boolean (Int32.ofInt 0))) (x1).toNatClampNeg (x2).toNatClampNeg := by first | exact ap_node q_0 (by have hk9 := i19; unfold In at hk9; rw [← e18]; omega) rfl (by rw [← e61]; exact t_add e78 i62 (in_c 1 rfl) rfl) rfl rfl rfl | exact ap_arc q_0 (by have hk9 := i19; unfold In at hk9; rw [← e18]; omega) rfl rfl (by have h3 := i11; unfold In at h3; have ha := i10; unfold In at ha; have hg := h2; unfold In at hg; have e3 := (t_mulc 160 (Or.inl e4) h2 rfl).1; have e4 := t_add e11 i4 i10 rfl; have e5 : (z11).toNatClampNeg = (z11).toInt.toNat := rfl; have e6 : x2.toNatClampNeg = x2.toInt.toNat := rfl; omega) rfl rfl e100 e112 | exact ap_take q_0 (by have hk9 := i19; unfold In at hk9; rw [← e18]; omega) rfl rfl rfl (by have h3 := i11; unfold In at h3; have ha := i10; unfold In at ha; have hg := h2; unfold In at hg; have e3 := (t_mulc 160 (Or.inl e4) h2 rfl).1; have e4 := t_add e11 i4 i10 rfl; have e5 : (z11).toNatClampNeg = (z11).toInt.toNat := rfl; have e6 : x2.toNatClampNeg = x2.toInt.toNat := rfl; omega) rfl rfl | exact ap_same q_0 (by have hk9 := i18; unfold In at hk9; rw [← e18]; omega) rfl rfl rfl rfl
    have n249a : APT s (sI s 112 z11.toNatClampNeg (vp_nar .boolean (Int32.ofInt 0))) (x1).toNatClampNeg (x2).toNatClampNeg := by exact apt_2 (by have hk9 := i19; unfold In at hk9; rw [← e18]; omega) rfl (by show z11.toInt.toNat = 160 * x2.toNatClampNeg + (s.1 119 x1.toNatClampNeg).toNatClampNeg; rw [← e10]; have e3 := (t_mulc 160 (Or.inl e4) h2 rfl).1; have e5 := t_add e11 i4 i10 rfl; have hg := h2; unfold In at hg; have ha := i10; unfold In at ha; have e6 : x2.toNatClampNeg = x2.toInt.toNat := rfl; have e7 : z10.toNatClampNeg = z10.toInt.toNat := rfl; omega) (by decide)
    exact g_return (gd rfl) rfl (hP _ _ ⟨(sI s 112 z11.toNatClampNeg (vp_nar .boolean (Int32.ofInt 0))), hI159, (fr_sI rfl fr_rf), rfl, rfl, n249, n249a⟩)
  · skip
    have i19 := sw_eq c19
    refine g_aload_n 164 (gd rfl) rfl rfl ?_
    refine g_getA (q2 := 120) 167 (gd rfl) rfl rfl rfl rfl ?_
    refine g_iload_n 168 (gd rfl) rfl rfl ?_
    refine g_iaload 169 (gd rfl) rfl (n := 4000) rfl (in_ix h1 rfl) (fun z168 e168 => ?_)
    have i168 := rng_I hI (n := 4000) (t := 0) 0 31 rfl (in_ix h1 rfl) rfl e168
    refine g_if_ne 172 187 (gd rfl) rfl rfl (fun c169 => ?_) (fun c169 => ?_)
    · skip
      have i169 := z_ne 1 31 c169 i168 rfl
      refine g_aload_n 188 (gd rfl) rfl rfl ?_
      refine g_getA (q2 := 120) 191 (gd rfl) rfl rfl rfl rfl ?_
      refine g_iload_n 192 (gd rfl) rfl rfl ?_
      refine g_iaload 193 (gd rfl) rfl (n := 4000) rfl (in_ix h1 rfl) (fun z192 e192 => ?_)
      have q192 : z168 = z192 := (e168).trans e192.symm
      subst q192
      refine g_iconst 1 194 (gd rfl) rfl rfl ?_
      refine g_cmp_ne 197 212 (gd rfl) rfl rfl (fun c194 => ?_) (fun c194 => ?_)
      · skip
        have i194 := r_ne1 2 31 c194 i169 (in_c 1 rfl) rfl
        refine g_aload_n 213 (gd rfl) rfl rfl ?_
        refine g_getA (q2 := 117) 216 (gd rfl) rfl rfl rfl rfl ?_
        refine g_iload_n 217 (gd rfl) rfl rfl ?_
        refine g_aload_n 218 (gd rfl) rfl rfl ?_
        refine g_getA (q2 := 121) 221 (gd rfl) rfl rfl rfl rfl ?_
        refine g_iload_n 222 (gd rfl) rfl rfl ?_
        refine g_iaload 223 (gd rfl) rfl (n := 4000) rfl (in_ix h1 rfl) (fun z222 e222 => ?_)
        have i222 := rng_I hI (n := 4000) (t := 0) (-1000000) 1000000 rfl (in_ix h1 rfl) rfl e222
        have i223 : In z222 0 25 := by rw [e222]; exact q_0.1.2.2.2.1 (by have hk9 := i19; unfold In at hk9; rw [← e18]; omega) (by rw [← e168]; exact c169) (by rw [← e168]; exact c194)
        refine g_iastore 224 (gd rfl) rfl (n := 480) rfl (in_ix i11 rfl) ?_
        have hI223 := rng_sI (q := 117) (j := z11.toNatClampNeg) hI rfl (in_w 0 25 i223 rfl)
        refine g_goto 249 (gd rfl) rfl ?_
        have n249 : AP s (sI s 117 z11.toNatClampNeg z222) (x1).toNatClampNeg (x2).toNatClampNeg := by first | exact ap_node q_0 (by have hk9 := i19; unfold In at hk9; rw [← e18]; omega) rfl (by rw [← e61]; exact t_add e78 i62 (in_c 1 rfl) rfl) rfl rfl rfl | exact ap_arc q_0 (by have hk9 := i19; unfold In at hk9; rw [← e18]; omega) rfl rfl (by have h3 := i11; unfold In at h3; have ha := i10; unfold In at ha; have hg := h2; unfold In at hg; have e3 := (t_mulc 160 (Or.inl e4) h2 rfl).1; have e4 := t_add e11 i4 i10 rfl; have e5 : (z11).toNatClampNeg = (z11).toInt.toNat := rfl; have e6 : x2.toNatClampNeg = x2.toInt.toNat := rfl; omega) rfl rfl e100 e112 | exact ap_take q_0 (by have hk9 := i19; unfold In at hk9; rw [← e18]; omega) rfl rfl rfl (by have h3 := i11; unfold In at h3; have ha := i10; unfold In at ha; have hg := h2; unfold In at hg; have e3 := (t_mulc 160 (Or.inl e4) h2 rfl).1; have e4 := t_add e11 i4 i10 rfl; have e5 : (z11).toNatClampNeg = (z11).toInt.toNat := rfl; have e6 : x2.toNatClampNeg = x2.toInt.toNat := rfl; omega) rfl rfl | exact ap_same q_0 (by have hk9 := i18; unfold In at hk9; rw [← e18]; omega) rfl rfl rfl rfl
        have n249a : APT s (sI s 117 z11.toNatClampNeg z222) (x1).toNatClampNeg (x2).toNatClampNeg := by exact apt_3 (by have hk9 := i19; unfold In at hk9; rw [← e18]; omega) (by have hk9 := i19; unfold In at hk9; rw [← e18]; omega) rfl
        exact g_return (gd rfl) rfl (hP _ _ ⟨(sI s 117 z11.toNatClampNeg z222), hI223, (fr_sI rfl fr_rf), rfl, rfl, n249, n249a⟩)
      · skip
        have i194 := r_eq1 1 1 c194 i169 (in_c 1 rfl) rfl
        refine g_aload_n 198 (gd rfl) rfl rfl ?_
        refine g_getA (q2 := 116) 201 (gd rfl) rfl rfl rfl rfl ?_
        refine g_iload_n 202 (gd rfl) rfl rfl ?_
        refine g_aload_n 203 (gd rfl) rfl rfl ?_
        refine g_getA (q2 := 121) 206 (gd rfl) rfl rfl rfl rfl ?_
        refine g_iload_n 207 (gd rfl) rfl rfl ?_
        refine g_iaload 208 (gd rfl) rfl (n := 4000) rfl (in_ix h1 rfl) (fun z207 e207 => ?_)
        have i207 := rng_I hI (n := 4000) (t := 0) (-1000000) 1000000 rfl (in_ix h1 rfl) rfl e207
        have i208 : In z207 0 1000000 := by refine ⟨?_, i207.2⟩; rw [e207]; exact q_0.1.2.2.1 (by have hk9 := i19; unfold In at hk9; rw [← e18]; omega) (by rw [← e168]; exact c194)
        refine g_iastore 209 (gd rfl) rfl (n := 480) rfl (in_ix i11 rfl) ?_
        have hI208 := rng_sI (q := 116) (j := z11.toNatClampNeg) hI rfl (in_w 0 1000000 i208 rfl)
        refine g_goto 249 (gd rfl) rfl ?_
        have n249 : AP s (sI s 116 z11.toNatClampNeg z207) (x1).toNatClampNeg (x2).toNatClampNeg := by first | exact ap_node q_0 (by have hk9 := i19; unfold In at hk9; rw [← e18]; omega) rfl (by rw [← e61]; exact t_add e78 i62 (in_c 1 rfl) rfl) rfl rfl rfl | exact ap_arc q_0 (by have hk9 := i19; unfold In at hk9; rw [← e18]; omega) rfl rfl (by have h3 := i11; unfold In at h3; have ha := i10; unfold In at ha; have hg := h2; unfold In at hg; have e3 := (t_mulc 160 (Or.inl e4) h2 rfl).1; have e4 := t_add e11 i4 i10 rfl; have e5 : (z11).toNatClampNeg = (z11).toInt.toNat := rfl; have e6 : x2.toNatClampNeg = x2.toInt.toNat := rfl; omega) rfl rfl e100 e112 | exact ap_take q_0 (by have hk9 := i19; unfold In at hk9; rw [← e18]; omega) rfl rfl rfl (by have h3 := i11; unfold In at h3; have ha := i10; unfold In at ha; have hg := h2; unfold In at hg; have e3 := (t_mulc 160 (Or.inl e4) h2 rfl).1; have e4 := t_add e11 i4 i10 rfl; have e5 : (z11).toNatClampNeg = (z11).toInt.toNat := rfl; have e6 : x2.toNatClampNeg = x2.toInt.toNat := rfl; omega) rfl rfl | exact ap_same q_0 (by have hk9 := i18; unfold In at hk9; rw [← e18]; omega) rfl rfl rfl rfl
        have n249a : APT s (sI s 116 z11.toNatClampNeg z207) (x1).toNatClampNeg (x2).toNatClampNeg := by exact apt_3 (by have hk9 := i19; unfold In at hk9; rw [← e18]; omega) (by have hk9 := i19; unfold In at hk9; rw [← e18]; omega) rfl
        exact g_return (gd rfl) rfl (hP _ _ ⟨(sI s 116 z11.toNatClampNeg z207), hI208, (fr_sI rfl fr_rf), rfl, rfl, n249, n249a⟩)
    · skip
      have i169 := z_eq 0 0 c169 i168 rfl
      refine g_aload_n 173 (gd rfl) rfl rfl ?_
      refine g_getA (q2 := 115) 176 (gd rfl) rfl rfl rfl rfl ?_
      refine g_iload_n 177 (gd rfl) rfl rfl ?_
      refine g_aload_n 178 (gd rfl) rfl rfl ?_
      refine g_getA (q2 := 121) 181 (gd rfl) rfl rfl rfl rfl ?_
      refine g_iload_n 182 (gd rfl) rfl rfl ?_
      refine g_iaload 183 (gd rfl) rfl (n := 4000) rfl (in_ix h1 rfl) (fun z182 e182 => ?_)
      have i182 := rng_I hI (n := 4000) (t := 0) (-1000000) 1000000 rfl (in_ix h1 rfl) rfl e182
      refine g_iastore 184 (gd rfl) rfl (n := 480) rfl (in_ix i11 rfl) ?_
      have hI183 := rng_sI (q := 115) (j := z11.toNatClampNeg) hI rfl (in_w (-1000000) 1000000 i182 rfl)
      refine g_goto 249 (gd rfl) rfl ?_
      have n249 : AP s (sI s 115 z11.toNatClampNeg z182) (x1).toNatClampNeg (x2).toNatClampNeg := by first | exact ap_node q_0 (by have hk9 := i19; unfold In at hk9; rw [← e18]; omega) rfl (by rw [← e61]; exact t_add e78 i62 (in_c 1 rfl) rfl) rfl rfl rfl | exact ap_arc q_0 (by have hk9 := i19; unfold In at hk9; rw [← e18]; omega) rfl rfl (by have h3 := i11; unfold In at h3; have ha := i10; unfold In at ha; have hg := h2; unfold In at hg; have e3 := (t_mulc 160 (Or.inl e4) h2 rfl).1; have e4 := t_add e11 i4 i10 rfl; have e5 : (z11).toNatClampNeg = (z11).toInt.toNat := rfl; have e6 : x2.toNatClampNeg = x2.toInt.toNat := rfl; omega) rfl rfl e100 e112 | exact ap_take q_0 (by have hk9 := i19; unfold In at hk9; rw [← e18]; omega) rfl rfl rfl (by have h3 := i11; unfold In at h3; have ha := i10; unfold In at ha; have hg := h2; unfold In at hg; have e3 := (t_mulc 160 (Or.inl e4) h2 rfl).1; have e4 := t_add e11 i4 i10 rfl; have e5 : (z11).toNatClampNeg = (z11).toInt.toNat := rfl; have e6 : x2.toNatClampNeg = x2.toInt.toNat := rfl; omega) rfl rfl | exact ap_same q_0 (by have hk9 := i18; unfold In at hk9; rw [← e18]; omega) rfl rfl rfl rfl
      have n249a : APT s (sI s 115 z11.toNatClampNeg z182) (x1).toNatClampNeg (x2).toNatClampNeg := by exact apt_3 (by have hk9 := i19; unfold In at hk9; rw [← e18]; omega) (by have hk9 := i19; unfold In at hk9; rw [← e18]; omega) rfl
      exact g_return (gd rfl) rfl (hP _ _ ⟨(sI s 115 z11.toNatClampNeg z182), hI183, (fr_sI rfl fr_rf), rfl, rfl, n249, n249a⟩)
  · skip
    have i227 : In z10 0 31 := by have hr := q_0.1.2.2.2.2 (by have hk9 := i18; unfold In at hk9; rw [← e18]; omega); have hq := q_0.2.1; have hq2 := q_0.2.2.2; refine ⟨i10.1, ?_⟩; rw [e10]; omega
    refine g_aload_n 228 (gd rfl) rfl rfl ?_
    refine g_getA (q2 := 111) 231 (gd rfl) rfl rfl rfl rfl ?_
    refine g_bipush 32 233 (gd rfl) rfl rfl ?_
    refine g_iload_n 234 (gd rfl) rfl rfl ?_
    refine g_imul 235 (gd rfl) rfl (fun z234 e234 => ?_)
    have i234 := in_mulc 32 0 32 (Or.inl e234) h2 rfl rfl
    refine g_aload_n 236 (gd rfl) rfl rfl ?_
    refine g_getA (q2 := 119) 239 (gd rfl) rfl rfl rfl rfl ?_
    refine g_iload_n 240 (gd rfl) rfl rfl ?_
    refine g_iaload 241 (gd rfl) rfl (n := 4000) rfl (in_ix h1 rfl) (fun z240 e240 => ?_)
    have q240 : z10 = z240 := (e10).trans e240.symm
    subst q240
    refine g_iadd 242 (gd rfl) rfl (fun z241 e241 => ?_)
    have i241 := in_add 0 63 e241 i234 i227 rfl rfl
    refine g_aload_n 243 (gd rfl) rfl rfl ?_
    refine g_getA (q2 := 120) 246 (gd rfl) rfl rfl rfl rfl ?_
    refine g_iload_n 247 (gd rfl) rfl rfl ?_
    refine g_iaload 248 (gd rfl) rfl (n := 4000) rfl (in_ix h1 rfl) (fun z247 e247 => ?_)
    have i247 := rng_I hI (n := 4000) (t := 0) 0 31 rfl (in_ix h1 rfl) rfl e247
    have i248 : In z247 0 25 := by refine ⟨i247.1, ?_⟩; rw [e247]; exact (q_0.1.2.2.2.2 (by have hk9 := i18; unfold In at hk9; rw [← e18]; omega)).2
    refine g_iastore 249 (gd rfl) rfl (n := 96) rfl (in_ix i241 rfl) ?_
    have hI248 := rng_sI (q := 111) (j := z241.toNatClampNeg) hI rfl (in_w 0 25 i248 rfl)
    have n249 : AP s (sI s 111 z241.toNatClampNeg z247) (x1).toNatClampNeg (x2).toNatClampNeg := by first | exact ap_node q_0 (by have hk9 := i19; unfold In at hk9; rw [← e18]; omega) rfl (by rw [← e61]; exact t_add e78 i62 (in_c 1 rfl) rfl) rfl rfl rfl | exact ap_arc q_0 (by have hk9 := i19; unfold In at hk9; rw [← e18]; omega) rfl rfl (by have h3 := i11; unfold In at h3; have ha := i10; unfold In at ha; have hg := h2; unfold In at hg; have e3 := (t_mulc 160 (Or.inl e4) h2 rfl).1; have e4 := t_add e11 i4 i10 rfl; have e5 : (z11).toNatClampNeg = (z11).toInt.toNat := rfl; have e6 : x2.toNatClampNeg = x2.toInt.toNat := rfl; omega) rfl rfl e100 e112 | exact ap_take q_0 (by have hk9 := i19; unfold In at hk9; rw [← e18]; omega) rfl rfl rfl (by have h3 := i11; unfold In at h3; have ha := i10; unfold In at ha; have hg := h2; unfold In at hg; have e3 := (t_mulc 160 (Or.inl e4) h2 rfl).1; have e4 := t_add e11 i4 i10 rfl; have e5 : (z11).toNatClampNeg = (z11).toInt.toNat := rfl; have e6 : x2.toNatClampNeg = x2.toInt.toNat := rfl; omega) rfl rfl | exact ap_same q_0 (by have hk9 := i18; unfold In at hk9; rw [← e18]; omega) rfl rfl rfl rfl
    have n249a : APT s (sI s 111 z241.toNatClampNeg z247) (x1).toNatClampNeg (x2).toNatClampNeg := by exact apt_3 (by have hk9 := i18; unfold In at hk9; rw [← e18]; omega) (by have hk9 := i18; unfold In at hk9; rw [← e18]; omega) rfl
    exact g_return (gd rfl) rfl (hP _ _ ⟨(sI s 111 z241.toNatClampNeg z247), hI248, (fr_sI rfl fr_rf), rfl, rfl, n249, n249a⟩)

def fm_276 : FM := ([], [], [(109, 18), (109, 19), (109, 20)], [])
/-- GraphHouseModel.look -/
theorem k_276 {Z : AmZ} {A : Nat → Nat} {s : GS} {ex : va_W} {d : Nat} {X : AmX}  (hd : 1 ≤ d) (hI : Rng s) (q_0 : In (s.1 110 0) 0 32 ∧ In (s.1 110 1) 0 32) : GC Z d 276 [.ref (A 109)] (WW Z A s ++ ex) 0 0 (fun v u => ∃ t : GS, Rng t ∧ Fr fm_276 s t ∧ v = none ∧ u = WW Z A t ++ ex ∧ ((t.2.2.1 109 19).toInt = 160 * (t.2.2.1 109 18).toInt ∧ t.2.2.1 109 20 = t.1 110 (t.2.2.1 109 18).toNatClampNeg)) X := by
  intro post xp hP hX
  obtain ⟨u_109_17, e_109_17⟩ : ∃ w, w = s.2.2.1 109 17 := ⟨_, rfl⟩
  have ro_109_17 := rng_F hI (-1) 4000 rfl e_109_17
  refine g_enter2 (k := 276) (N := 900) (by omega) rfl (Nat.le_of_ble_eq_true rfl) ?_
  refine g_aload_n 1 (gd rfl) rfl rfl ?_
  refine g_aload_n 2 (gd rfl) rfl rfl ?_
  refine g_getI 5 (gd rfl) rfl rfl rfl (fun z2 e2 => ?_)
  have q2 : u_109_17 = z2 := (e_109_17).trans e2.symm
  subst q2
  refine g_if_ge 8 12 (gd rfl) rfl rfl (fun c5 => ?_) (fun c5 => ?_)
  · skip
    have i5 := z_ge 0 4000 c5 ro_109_17 rfl
    refine g_iconst 1 13 (gd rfl) rfl rfl ?_
    refine g_putI 16 (gd rfl) rfl rfl rfl rfl ?_
    have hI13 := rng_sF (q := 109) (j := 18) hI rfl (in_w 0 1 (in_c 1 rfl) rfl)
    refine g_aload_n 17 (gd rfl) rfl rfl ?_
    refine g_sipush 160 20 (gd rfl) rfl rfl ?_
    refine g_aload_n 21 (gd rfl) rfl rfl ?_
    refine g_getI 24 (gd rfl) rfl rfl rfl (fun z21 e21 => ?_)
    have q21 : (Int32.ofInt 1) = z21 := (sF_get).trans e21.symm
    subst q21
    refine g_imul 25 (gd rfl) rfl (fun z24 e24 => ?_)
    have i24 := in_mulc 160 160 160 (Or.inl e24) (in_c 1 rfl) rfl rfl
    refine g_putI 28 (gd rfl) rfl rfl rfl rfl ?_
    have hI25 := rng_sF (q := 109) (j := 19) hI13 rfl (in_w 0 160 i24 rfl)
    refine g_aload_n 29 (gd rfl) rfl rfl ?_
    refine g_aload_n 30 (gd rfl) rfl rfl ?_
    refine g_getA (q2 := 110) 33 (gd rfl) rfl rfl rfl rfl ?_
    refine g_aload_n 34 (gd rfl) rfl rfl ?_
    refine g_getI 37 (gd rfl) rfl rfl rfl (fun z34 e34 => ?_)
    have q34 : (Int32.ofInt 1) = z34 := (sF_ne rfl (sF_get)).trans e34.symm
    subst q34
    refine g_iaload 38 (gd rfl) rfl (n := 3) rfl (in_ix (in_c 1 rfl) rfl) (fun z37 e37 => ?_)
    have i38 : In z37 0 32 := by first | (rw [e37]; exact q_0.1) | (rw [e37]; exact q_0.2)
    refine g_putI 41 (gd rfl) rfl rfl rfl rfl ?_
    have hI38 := rng_sF (q := 109) (j := 20) hI25 rfl (in_w 0 32 i38 rfl)
    have n41 : ((sF (sF (sF s 109 18 (Int32.ofInt 1)) 109 19 z24) 109 20 z37).2.2.1 109 19).toInt = 160 * ((sF (sF (sF s 109 18 (Int32.ofInt 1)) 109 19 z24) 109 20 z37).2.2.1 109 18).toInt ∧ (sF (sF (sF s 109 18 (Int32.ofInt 1)) 109 19 z24) 109 20 z37).2.2.1 109 20 = (sF (sF (sF s 109 18 (Int32.ofInt 1)) 109 19 z24) 109 20 z37).1 110 ((sF (sF (sF s 109 18 (Int32.ofInt 1)) 109 19 z24) 109 20 z37).2.2.1 109 18).toNatClampNeg := by rw [← (show z24 = (sF (sF (sF s 109 18 (Int32.ofInt 1)) 109 19 z24) 109 20 z37).2.2.1 109 19 from sF_ne rfl (sF_get)), ← (show (Int32.ofInt 1) = (sF (sF (sF s 109 18 (Int32.ofInt 1)) 109 19 z24) 109 20 z37).2.2.1 109 18 from sF_ne rfl (sF_ne rfl (sF_get))), ← (show z37 = (sF (sF (sF s 109 18 (Int32.ofInt 1)) 109 19 z24) 109 20 z37).2.2.1 109 20 from sF_get)]; exact ⟨(t_mulc 160 (Or.inl e24) (in_c _ rfl) rfl).1, e37⟩
    exact g_return (gd rfl) rfl (hP _ _ ⟨(sF (sF (sF s 109 18 (Int32.ofInt 1)) 109 19 z24) 109 20 z37), hI38, (fr_sF rfl (fr_sF rfl (fr_sF rfl fr_rf))), rfl, rfl, n41⟩)
  · skip
    have i5 := z_lt (-1) (-1) c5 ro_109_17 rfl
    refine g_iconst 0 9 (gd rfl) rfl rfl ?_
    refine g_goto 13 (gd rfl) rfl ?_
    refine g_putI 16 (gd rfl) rfl rfl rfl rfl ?_
    have hI13 := rng_sF (q := 109) (j := 18) hI rfl (in_w 0 1 (in_c 0 rfl) rfl)
    refine g_aload_n 17 (gd rfl) rfl rfl ?_
    refine g_sipush 160 20 (gd rfl) rfl rfl ?_
    refine g_aload_n 21 (gd rfl) rfl rfl ?_
    refine g_getI 24 (gd rfl) rfl rfl rfl (fun z21 e21 => ?_)
    have q21 : (Int32.ofInt 0) = z21 := (sF_get).trans e21.symm
    subst q21
    refine g_imul 25 (gd rfl) rfl (fun z24 e24 => ?_)
    have i24 := in_mulc 160 0 0 (Or.inl e24) (in_c 0 rfl) rfl rfl
    refine g_putI 28 (gd rfl) rfl rfl rfl rfl ?_
    have hI25 := rng_sF (q := 109) (j := 19) hI13 rfl (in_w 0 160 i24 rfl)
    refine g_aload_n 29 (gd rfl) rfl rfl ?_
    refine g_aload_n 30 (gd rfl) rfl rfl ?_
    refine g_getA (q2 := 110) 33 (gd rfl) rfl rfl rfl rfl ?_
    refine g_aload_n 34 (gd rfl) rfl rfl ?_
    refine g_getI 37 (gd rfl) rfl rfl rfl (fun z34 e34 => ?_)
    have q34 : (Int32.ofInt 0) = z34 := (sF_ne rfl (sF_get)).trans e34.symm
    subst q34
    refine g_iaload 38 (gd rfl) rfl (n := 3) rfl (in_ix (in_c 0 rfl) rfl) (fun z37 e37 => ?_)
    have i38 : In z37 0 32 := by first | (rw [e37]; exact q_0.1) | (rw [e37]; exact q_0.2)
    refine g_putI 41 (gd rfl) rfl rfl rfl rfl ?_
    have hI38 := rng_sF (q := 109) (j := 20) hI25 rfl (in_w 0 32 i38 rfl)
    have n41 : ((sF (sF (sF s 109 18 (Int32.ofInt 0)) 109 19 z24) 109 20 z37).2.2.1 109 19).toInt = 160 * ((sF (sF (sF s 109 18 (Int32.ofInt 0)) 109 19 z24) 109 20 z37).2.2.1 109 18).toInt ∧ (sF (sF (sF s 109 18 (Int32.ofInt 0)) 109 19 z24) 109 20 z37).2.2.1 109 20 = (sF (sF (sF s 109 18 (Int32.ofInt 0)) 109 19 z24) 109 20 z37).1 110 ((sF (sF (sF s 109 18 (Int32.ofInt 0)) 109 19 z24) 109 20 z37).2.2.1 109 18).toNatClampNeg := by rw [← (show z24 = (sF (sF (sF s 109 18 (Int32.ofInt 0)) 109 19 z24) 109 20 z37).2.2.1 109 19 from sF_ne rfl (sF_get)), ← (show (Int32.ofInt 0) = (sF (sF (sF s 109 18 (Int32.ofInt 0)) 109 19 z24) 109 20 z37).2.2.1 109 18 from sF_ne rfl (sF_ne rfl (sF_get))), ← (show z37 = (sF (sF (sF s 109 18 (Int32.ofInt 0)) 109 19 z24) 109 20 z37).2.2.1 109 20 from sF_get)]; exact ⟨(t_mulc 160 (Or.inl e24) (in_c _ rfl) rfl).1, e37⟩
    exact g_return (gd rfl) rfl (hP _ _ ⟨(sF (sF (sF s 109 18 (Int32.ofInt 0)) 109 19 z24) 109 20 z37), hI38, (fr_sF rfl (fr_sF rfl (fr_sF rfl fr_rf))), rfl, rfl, n41⟩)

/-- GraphHouseModel.freePlace -/
theorem k_280 {Z : AmZ} {A : Nat → Nat} {s : GS} {ex : va_W} {d : Nat} {X : AmX} {x1 : Int32} (hd : 1 ≤ d) (hI : Inv s) (h1 : In x1 0 2) : GC Z d 280 [.ref (A 109), .int x1] (WW Z A s ++ ex) 0 0 (fun v u => ∃ z : Int32, v = some (.int z) ∧ u = WW Z A s ++ ex ∧ In z 0 160 ∧ ((z).toNatClampNeg = fpl (thg s (160 * (x1).toNatClampNeg)))) X := by
  intro post xp hP hX
  have ct2 : ∀ (k2 : Nat) (y2_2 : Int32), (In y2_2 0 160) → (∀ i : Nat, (i : Int) < (y2_2).toInt → (s.1 112 (160 * (x1).toNatClampNeg + i)).toInt ≠ 0) → 160 - (y2_2).toInt < (k2 : Int) → GG Z (d - 1) 280 post (gx xp) (1 + k2 * 900) 2 (fun j => xlook j [(0, .ref (A 109)), (1, .int x1), (2, .int y2_2)]) [] (WW Z A s ++ ex) 0 0 := by
    intro k2
    induction k2 with
    | zero => intro y2_2 j2_2 g2_0 mm2; exact m_no mm2 j2_2 rfl
    | succ k2 ih2 =>
      intro y2_2 j2_2 g2_0 mm2
      refine gg_w (M := 1 + k2 * 900 + 900) (by omega) ?_
      refine g_iload_n 3 (gd rfl) rfl rfl ?_
      refine g_sipush 160 6 (gd rfl) rfl rfl ?_
      refine g_cmp_ge 9 30 (gd rfl) rfl rfl (fun c6 => ?_) (fun c6 => ?_)
      · skip
        have i6 := r_le2 160 160 c6 (in_c 160 rfl) j2_2 rfl
        refine g_iload_n 31 (gd rfl) rfl rfl ?_
        have n31 : (y2_2).toNatClampNeg = fpl (thg s (160 * (x1).toNatClampNeg)) := by exact (fpl_eq (r := y2_2.toNatClampNeg) (by show y2_2.toInt.toNat ≤ 160; have a0 := h1; unfold In at a0; have a1 := i6; unfold In at a1; omega) (fun i hi => decide_eq_true (g2_0 i (by have e2 : y2_2.toNatClampNeg = y2_2.toInt.toNat := rfl; have a0 := h1; unfold In at a0; have a1 := i6; unfold In at a1; omega))) (fun hlt => by first | (exfalso; have e2 : y2_2.toNatClampNeg = y2_2.toInt.toNat := rfl; have a0 := h1; unfold In at a0; have a1 := i6; unfold In at a1; omega) | (refine decide_eq_false (fun z => z ?_); rw [show 160 * x1.toNatClampNeg + y2_2.toNatClampNeg = z19.toNatClampNeg from (by show 160 * x1.toInt.toNat + y2_2.toInt.toNat = z19.toInt.toNat; have a0 := h1; unfold In at a0; have a1 := i6; unfold In at a1; omega), ← e20]; exact c21))).symm
        exact g_ireturn (gd rfl) rfl rfl (hP _ _ ⟨y2_2, rfl, rfl, in_w 0 160 i6 rfl, n31⟩)
      · skip
        have i6 := r_lt1 0 159 c6 j2_2 (in_c 160 rfl) rfl
        refine g_aload_n 10 (gd rfl) rfl rfl ?_
        refine g_getA (q2 := 112) 13 (gd rfl) rfl rfl rfl rfl ?_
        refine g_sipush 160 16 (gd rfl) rfl rfl ?_
        refine g_iload_n 17 (gd rfl) rfl rfl ?_
        refine g_imul 18 (gd rfl) rfl (fun z17 e17 => ?_)
        have i17 := in_mulc 160 0 320 (Or.inl e17) h1 rfl rfl
        refine g_iload_n 19 (gd rfl) rfl rfl ?_
        refine g_iadd 20 (gd rfl) rfl (fun z19 e19 => ?_)
        have i19 := in_add 0 479 e19 i17 i6 rfl rfl
        refine g_baload 21 (gd rfl) rfl (n := 480) rfl (in_ix i19 rfl) (fun z20 e20 => ?_)
        have i20 := inv_I hI (n := 480) (t := 3) 0 1 rfl (in_ix i19 rfl) rfl e20
        refine g_if_eq 24 30 (gd rfl) rfl rfl (fun c21 => ?_) (fun c21 => ?_)
        · skip
          have i21 := z_eq 0 0 c21 i20 rfl
          refine g_iload_n 31 (gd rfl) rfl rfl ?_
          have n31 : (y2_2).toNatClampNeg = fpl (thg s (160 * (x1).toNatClampNeg)) := by exact (fpl_eq (r := y2_2.toNatClampNeg) (by show y2_2.toInt.toNat ≤ 160; have a0 := h1; unfold In at a0; have a1 := i6; unfold In at a1; have a2 := i19; unfold In at a2; have a3 := t_add e19 i17 i6 rfl; have a4 := i17; unfold In at a4; have a5 := (t_mulc 160 (Or.inl e17) h1 rfl).1; omega) (fun i hi => decide_eq_true (g2_0 i (by have e2 : y2_2.toNatClampNeg = y2_2.toInt.toNat := rfl; have a0 := h1; unfold In at a0; have a1 := i6; unfold In at a1; have a2 := i19; unfold In at a2; have a3 := t_add e19 i17 i6 rfl; have a4 := i17; unfold In at a4; have a5 := (t_mulc 160 (Or.inl e17) h1 rfl).1; omega))) (fun hlt => by first | (exfalso; have e2 : y2_2.toNatClampNeg = y2_2.toInt.toNat := rfl; have a0 := h1; unfold In at a0; have a1 := i6; unfold In at a1; have a2 := i19; unfold In at a2; have a3 := t_add e19 i17 i6 rfl; have a4 := i17; unfold In at a4; have a5 := (t_mulc 160 (Or.inl e17) h1 rfl).1; omega) | (refine decide_eq_false (fun z => z ?_); rw [show 160 * x1.toNatClampNeg + y2_2.toNatClampNeg = z19.toNatClampNeg from (by show 160 * x1.toInt.toNat + y2_2.toInt.toNat = z19.toInt.toNat; have a0 := h1; unfold In at a0; have a1 := i6; unfold In at a1; have a2 := i19; unfold In at a2; have a3 := t_add e19 i17 i6 rfl; have a4 := i17; unfold In at a4; have a5 := (t_mulc 160 (Or.inl e17) h1 rfl).1; omega), ← e20]; exact c21))).symm
          exact g_ireturn (gd rfl) rfl rfl (hP _ _ ⟨y2_2, rfl, rfl, in_w 0 160 i6 rfl, n31⟩)
        · skip
          have i21 := z_ne 1 1 c21 i20 rfl
          refine g_iinc 27 (gd rfl) rfl rfl (Nat.le_of_ble_eq_true rfl) (fun z24 e24 => ?_)
          have i24 := in_add 1 160 e24 i6 (in_c 1 rfl) rfl rfl
          refine g_goto 2 (gd rfl) rfl ?_
          have n2 : ∀ i : Nat, (i : Int) < (z24).toInt → (s.1 112 (160 * (x1).toNatClampNeg + i)).toInt ≠ 0 := by (intro i hi; have e2 : y2_2.toNatClampNeg = y2_2.toInt.toNat := rfl; by_cases c : i = y2_2.toNatClampNeg; (rw [c, show 160 * x1.toNatClampNeg + y2_2.toNatClampNeg = z19.toNatClampNeg from (by show 160 * x1.toInt.toNat + y2_2.toInt.toNat = z19.toInt.toNat; have a0 := h1; unfold In at a0; have a1 := i6; unfold In at a1; have a2 := i24; unfold In at a2; have a3 := t_add e24 i6 (in_c 1 rfl) rfl; have a4 := (in_c 1 rfl); unfold In at a4; have a5 := i19; unfold In at a5; have a6 := t_add e19 i17 i6 rfl; have a7 := i17; unfold In at a7; have a8 := (t_mulc 160 (Or.inl e17) h1 rfl).1; omega), ← e20]; exact c21); exact g2_0 i (by have a0 := h1; unfold In at a0; have a1 := i6; unfold In at a1; have a2 := i24; unfold In at a2; have a3 := t_add e24 i6 (in_c 1 rfl) rfl; have a4 := (in_c 1 rfl); unfold In at a4; have a5 := i19; unfold In at a5; have a6 := t_add e19 i17 i6 rfl; have a7 := i17; unfold In at a7; have a8 := (t_mulc 160 (Or.inl e17) h1 rfl).1; omega))
          exact gg_w (by omega) (gg_f (gf_cons rfl (gf_cons rfl (gf_cons rfl gf_nil))) (ih2  z24  (in_w 0 160 i24 rfl) n2 (m_up mm2 (t_add e24 i6 (in_c 1 rfl) rfl) (in_w 1 1 (in_c 1 rfl) rfl))))
  refine g_enter2 (k := 280) (N := 145801) (by omega) rfl (Nat.le_of_ble_eq_true rfl) ?_
  refine g_iconst 0 1 (gd rfl) rfl rfl ?_
  refine g_istore_n 2 (gd rfl) rfl (Nat.le_of_ble_eq_true rfl) ?_
  have n2 : ∀ i : Nat, (i : Int) < ((Int32.ofInt 0)).toInt → (s.1 112 (160 * (x1).toNatClampNeg + i)).toInt ≠ 0 := by (intro i hi; exfalso; have h0 : (Int32.ofInt 0).toInt = 0 := rfl; omega)
  exact gg_w (by omega) (gg_f (gf_cons rfl (gf_cons rfl (gf_cons rfl gf_nil))) (ct2 161  (Int32.ofInt 0)  (in_w 0 160 (in_c 0 rfl) rfl) n2 (m_in 161 (in_w 0 160 (in_c 0 rfl) rfl) rfl)))

def fm_286 : FM := ([110, 111, 112, 113, 114, 115, 116, 117], [], [(109, 0), (109, 17), (109, 18), (109, 19), (109, 20)], [])
/-- GraphHouseModel.view -/
theorem k_286 {Z : AmZ} {A : Nat → Nat} {s : GS} {ex : va_W} {d : Nat} {X : AmX} {x1 : Int32} (hd : 4 ≤ d) (hI : Inv s)  : GC Z d 286 [.ref (A 109), .int x1] (WW Z A s ++ ex) 0 0 (fun v u => ∃ t : GS, Inv t ∧ Fr fm_286 s t ∧ ∃ z : Int32, v = some (.int z) ∧ u = WW Z A t ++ ex ∧ In z 0 4000) X := by
  intro post xp hP hX
  obtain ⟨u_109_9, e_109_9⟩ : ∃ w, w = s.2.2.1 109 9 := ⟨_, rfl⟩
  have ro_109_9 := inv_F hI 0 4000 rfl e_109_9
  have ct66 : ∀ (k66 : Nat) (sc66 : GS) (y66_2 : Int32), Rng sc66 → Fr fm_286 s sc66 → (In x1 0 4000) → (In y66_2 0 4000) → ((x1).toInt ≤ (u_109_9).toInt) → (0 ≤ (x1).toInt) → ((y66_2).toInt ≤ (x1).toInt) → (sc66.1 110 0 = s.1 110 0 ∧ (sc66.1 110 1).toInt = (cz (s.1 118) (y66_2).toInt.toNat : Int)) → (∀ i, i < 160 → sc66.1 112 i = s.1 112 i ∧ sc66.1 113 i = s.1 113 i ∧ sc66.1 114 i = s.1 114 i) → (KE (sc66.1 112) (sc66.1 113) (sc66.1 114) (sc66.1 110) 1) → 4000 - (y66_2).toInt < (k66 : Int) → GG Z (d - 1) 286 post (gx xp) (1 + k66 * 900) 66 (fun j => xlook j [(0, .ref (A 109)), (1, .int x1), (2, .int y66_2)]) [] (WW Z A sc66 ++ ex) 0 0 := by
    intro k66
    induction k66 with
    | zero => intro sc66 y66_2 hIc66 hFc66 j66_1 j66_2 n66_0 n66_1 n66_2 g66_0 g66_1 g66_2 mm66; exact m_no mm66 j66_2 rfl
    | succ k66 ih66 =>
      intro sc66 y66_2 hIc66 hFc66 j66_1 j66_2 n66_0 n66_1 n66_2 g66_0 g66_1 g66_2 mm66
      refine gg_w (M := 1 + k66 * 900 + 900) (by omega) ?_
      refine g_iload_n 67 (gd rfl) rfl rfl ?_
      refine g_iload_n 68 (gd rfl) rfl rfl ?_
      refine g_cmp_ge 71 83 (gd rfl) rfl rfl (fun c68 => ?_) (fun c68 => ?_)
      · skip
        refine g_aload_n 84 (gd rfl) rfl rfl ?_
        have p84 : In (sc66.1 110 0) 0 32 ∧ In (sc66.1 110 1) 0 32 := by first | (have h := kr_nn hI; exact h) | exact vw_nn (x := y66_2) hI (by have a0 := j66_1; unfold In at a0; have a1 := ro_109_9; unfold In at a1; have a2 := j66_2; unfold In at a2; omega) (by rw [← e_109_9]; have a0 := j66_1; unfold In at a0; have a1 := ro_109_9; unfold In at a1; have a2 := j66_2; unfold In at a2; omega) g66_0.1 g66_0.2
        refine g_callv (X := _) (As := []) (r := []) (b := A 109) (q := 109) 87 (gd rfl) rfl rfl rfl rfl rfl (ww_o rfl) (Nat.le_of_ble_eq_true rfl) (Nat.zero_le _) (Nat.zero_le _) (k_276 (by omega) hIc66 p84) (fun e u h => h) (fun v u h => ?_)
        obtain ⟨s84, hI84, hF84, rfl, rfl, p84a⟩ := h
        show GG _ _ _ _ _ _ _ _ [] _ _ _
        refine g_iload_n 88 (gd rfl) rfl rfl ?_
        refine g_if_ge 91 98 (gd rfl) rfl rfl (fun c88 => ?_) (fun c88 => ?_)
        · skip
          refine g_iload_n 99 (gd rfl) rfl rfl ?_
          have hI99 : Inv s84 := by first | (have hFF : Fr ([], [], [(109, 0), (109, 17)], []) s s84 := (fr_tr rfl hFc66 hF84); exact ⟨hI84, kk_all hI.2 hFF rfl⟩) | (have hFF : Fr fm_286 s s84 := (fr_tr rfl hFc66 hF84); exact ⟨hI84, kk_g hI.2.1 hFF rfl rfl rfl rfl rfl, kk_g hI.2.2.1 hFF rfl rfl rfl rfl rfl, kk_s hI.2.2.2.1 hFF rfl, lk_kr hI (funext fun q => hF84.1 q rfl) (hFF.2.2.1 109 9 rfl) p84a⟩) | (have hFF : Fr fm_286 s s84 := (fr_tr rfl hFc66 hF84); exact ⟨hI84, kk_g hI.2.1 hFF rfl rfl rfl rfl rfl, kk_g hI.2.2.1 hFF rfl rfl rfl rfl rfl, kk_s hI.2.2.2.1 hFF rfl, vw_kr (x := y66_2) hI (in_w 0 4000 j66_2 rfl) (by rw [← e_109_9]; have a0 := j66_1; unfold In at a0; have a1 := ro_109_9; unfold In at a1; have a2 := j66_2; unfold In at a2; omega) ((hF84.1 118 rfl).trans (hFc66.1 118 rfl)) ((hF84.1 119 rfl).trans (hFc66.1 119 rfl)) ((hF84.1 120 rfl).trans (hFc66.1 120 rfl)) ((hF84.1 121 rfl).trans (hFc66.1 121 rfl)) (hFF.2.2.1 109 9 rfl) ((congrFun (hF84.1 110 rfl) 0).trans g66_0.1) (by rw [hF84.1 110 rfl]; exact g66_0.2) (fun i hi => by rw [hF84.1 112 rfl, hF84.1 113 rfl, hF84.1 114 rfl]; exact g66_1 i hi) (by rw [hF84.1 112 rfl, hF84.1 113 rfl, hF84.1 114 rfl, hF84.1 110 rfl]; exact g66_2) p84a⟩)
          exact g_ireturn (gd rfl) rfl rfl (hP _ _ ⟨s84, hI99, (fr_tr rfl hFc66 hF84), x1, rfl, rfl, in_w 0 4000 j66_1 rfl⟩)
        · skip
          exact zn_lt c88 j66_1 rfl
      · skip
        have i68 := r_lt1 0 3999 c68 j66_2 j66_1 rfl
        have i68a := r_lt2 1 4000 c68 j66_2 j66_1 rfl
        refine g_aload_n 72 (gd rfl) rfl rfl ?_
        refine g_iload_n 73 (gd rfl) rfl rfl ?_
        refine g_iconst 1 74 (gd rfl) rfl rfl ?_
        have p74 : AQ sc66 (y66_2).toNatClampNeg ((Int32.ofInt 1)).toNatClampNeg := by have h : AQ sc66 (y66_2).toNatClampNeg 1 := vw_aq hI (in_w 0 3999 i68 rfl) (by rw [← e_109_9]; have a0 := i68a; unfold In at a0; have a1 := ro_109_9; unfold In at a1; have a2 := i68; unfold In at a2; omega) ((hFc66 : Fr fm_286 s sc66).1 118 rfl) ((hFc66 : Fr fm_286 s sc66).1 119 rfl) ((hFc66 : Fr fm_286 s sc66).1 120 rfl) ((hFc66 : Fr fm_286 s sc66).1 121 rfl) g66_0.2; exact h
        refine g_callv (X := _) (As := [.int y66_2, .int (Int32.ofInt 1)]) (r := []) (b := A 109) (q := 109) 77 (gd rfl) rfl rfl rfl rfl rfl (ww_o rfl) (Nat.le_of_ble_eq_true rfl) (Nat.zero_le _) (Nat.zero_le _) (k_275 (by omega) hIc66 (in_w 0 3999 i68 rfl) (in_w 0 1 (in_c 1 rfl) rfl) p74) (fun e u h => h) (fun v u h => ?_)
        obtain ⟨s74, hI74, hF74, rfl, rfl, p74a, p74b⟩ := h
        show GG _ _ _ _ _ _ _ _ [] _ _ _
        refine g_iinc 80 (gd rfl) rfl rfl (Nat.le_of_ble_eq_true rfl) (fun z77 e77 => ?_)
        have i77 := in_add 1 4000 e77 i68 (in_c 1 rfl) rfl rfl
        refine g_goto 66 (gd rfl) rfl ?_
        have n66 : (x1).toInt ≤ (u_109_9).toInt := by have a0 := i68a; unfold In at a0; have a1 := ro_109_9; unfold In at a1; have a2 := i68; unfold In at a2; have a3 := i77; unfold In at a3; have a4 := t_add e77 i68 (in_c 1 rfl) rfl; have a5 := (in_c 1 rfl); unfold In at a5; omega
        have n66a : 0 ≤ (x1).toInt := by have a0 := i68a; unfold In at a0; have a1 := ro_109_9; unfold In at a1; have a2 := i68; unfold In at a2; have a3 := i77; unfold In at a3; have a4 := t_add e77 i68 (in_c 1 rfl) rfl; have a5 := (in_c 1 rfl); unfold In at a5; omega
        have n66b : (z77).toInt ≤ (x1).toInt := by have a0 := i68a; unfold In at a0; have a1 := ro_109_9; unfold In at a1; have a2 := i68; unfold In at a2; have a3 := i77; unfold In at a3; have a4 := t_add e77 i68 (in_c 1 rfl) rfl; have a5 := (in_c 1 rfl); unfold In at a5; omega
        have n66c : s74.1 110 0 = s.1 110 0 ∧ (s74.1 110 1).toInt = (cz (s.1 118) (z77).toInt.toNat : Int) := by first | exact ⟨g40_0.1, g40_0.2⟩ | (have hp : AP sc66 s74 y66_2.toNatClampNeg 1 := p74a; refine ⟨(hp.2.1 0 (by decide)).trans g66_0.1, ?_⟩; rw [hp.1, hFc66.1 118 rfl]; have e5 : y66_2.toNatClampNeg = y66_2.toInt.toNat := rfl; have e6 : z77.toInt.toNat = y66_2.toNatClampNeg + 1 := (by have a0 := i68a; unfold In at a0; have a1 := ro_109_9; unfold In at a1; have a2 := i68; unfold In at a2; have a3 := i77; unfold In at a3; have a4 := t_add e77 i68 (in_c 1 rfl) rfl; have a5 := (in_c 1 rfl); unfold In at a5; omega); rw [e6])
        have n66d : ∀ i, i < 160 → s74.1 112 i = s.1 112 i ∧ s74.1 113 i = s.1 113 i ∧ s74.1 114 i = s.1 114 i := by first | exact g40_1 | (have hp : AP sc66 s74 y66_2.toNatClampNeg 1 := p74a; intro i hi; have h := hp.2.2.2 i (Or.inl (by omega)); have h2 := g66_1 i hi; exact ⟨h.1.trans h2.1, h.2.1.trans h2.2.1, h.2.2.trans h2.2.2⟩)
        have n66e : KE (s74.1 112) (s74.1 113) (s74.1 114) (s74.1 110) 1 := by first | exact fun a ha h1 => absurd (g40_2 a (by have a0 := i68a; unfold In at a0; have a1 := ro_109_9; unfold In at a1; have a2 := i68; unfold In at a2; have a3 := i77; unfold In at a3; have a4 := t_add e77 i68 (in_c 1 rfl) rfl; have a5 := (in_c 1 rfl); unfold In at a5; omega)) h1 | (have hp : AP sc66 s74 y66_2.toNatClampNeg 1 := p74a; exact hp.2.2.1 g66_2)
        exact gg_w (by omega) (gg_f (gf_cons rfl (gf_cons rfl (gf_cons rfl gf_nil))) (ih66 s74 z77 hI74 (fr_tr rfl hFc66 hF74) (in_w 0 4000 i68a rfl) (in_w 0 4000 i77 rfl) n66 n66a n66b n66c n66d n66e (m_up mm66 (t_add e77 i68 (in_c 1 rfl) rfl) (in_w 1 1 (in_c 1 rfl) rfl))))
  have ct40 : ∀ (k40 : Nat) (sc40 : GS) (y40_2 : Int32), Rng sc40 → Fr fm_286 s sc40 → (In x1 0 4000) → (In y40_2 0 160) → ((x1).toInt ≤ (u_109_9).toInt) → (0 ≤ (x1).toInt) → (sc40.1 110 0 = s.1 110 0 ∧ (sc40.1 110 1).toInt = 0) → (∀ i, i < 160 → sc40.1 112 i = s.1 112 i ∧ sc40.1 113 i = s.1 113 i ∧ sc40.1 114 i = s.1 114 i) → (∀ j : Nat, (j : Int) < (y40_2).toInt → (sc40.1 112 (160 + j)).toInt = 0) → 160 - (y40_2).toInt < (k40 : Int) → GG Z (d - 1) 286 post (gx xp) (3600902 + k40 * 900) 40 (fun j => xlook j [(0, .ref (A 109)), (1, .int x1), (2, .int y40_2)]) [] (WW Z A sc40 ++ ex) 0 0 := by
    intro k40
    induction k40 with
    | zero => intro sc40 y40_2 hIc40 hFc40 j40_1 j40_2 n40_0 n40_1 g40_0 g40_1 g40_2 mm40; exact m_no mm40 j40_2 rfl
    | succ k40 ih40 =>
      intro sc40 y40_2 hIc40 hFc40 j40_1 j40_2 n40_0 n40_1 g40_0 g40_1 g40_2 mm40
      refine gg_w (M := 3600902 + k40 * 900 + 900) (by omega) ?_
      refine g_iload_n 41 (gd rfl) rfl rfl ?_
      refine g_sipush 160 44 (gd rfl) rfl rfl ?_
      refine g_cmp_ge 47 64 (gd rfl) rfl rfl (fun c44 => ?_) (fun c44 => ?_)
      · skip
        have i44 := r_le2 160 160 c44 (in_c 160 rfl) j40_2 rfl
        refine g_iconst 0 65 (gd rfl) rfl rfl ?_
        refine g_istore_n 66 (gd rfl) rfl (Nat.le_of_ble_eq_true rfl) ?_
        have n66 : (x1).toInt ≤ (u_109_9).toInt := by have a0 := j40_1; unfold In at a0; have a1 := ro_109_9; unfold In at a1; have a2 := i44; unfold In at a2; have a3 := (in_c 0 rfl); unfold In at a3; omega
        have n66a : 0 ≤ (x1).toInt := by have a0 := j40_1; unfold In at a0; have a1 := ro_109_9; unfold In at a1; have a2 := i44; unfold In at a2; have a3 := (in_c 0 rfl); unfold In at a3; omega
        have n66b : ((Int32.ofInt 0)).toInt ≤ (x1).toInt := by have a0 := j40_1; unfold In at a0; have a1 := ro_109_9; unfold In at a1; have a2 := i44; unfold In at a2; have a3 := (in_c 0 rfl); unfold In at a3; omega
        have n66c : sc40.1 110 0 = s.1 110 0 ∧ (sc40.1 110 1).toInt = (cz (s.1 118) ((Int32.ofInt 0)).toInt.toNat : Int) := by first | exact ⟨g40_0.1, g40_0.2⟩ | (have hp : AP sc66 s74 y66_2.toNatClampNeg 1 := p74a; refine ⟨(hp.2.1 0 (by decide)).trans g66_0.1, ?_⟩; rw [hp.1, hFc66.1 118 rfl]; have e5 : y66_2.toNatClampNeg = y66_2.toInt.toNat := rfl; have e6 : z77.toInt.toNat = y66_2.toNatClampNeg + 1 := (by have a0 := j40_1; unfold In at a0; have a1 := ro_109_9; unfold In at a1; have a2 := i44; unfold In at a2; have a3 := (in_c 0 rfl); unfold In at a3; omega); rw [e6])
        have n66d : ∀ i, i < 160 → sc40.1 112 i = s.1 112 i ∧ sc40.1 113 i = s.1 113 i ∧ sc40.1 114 i = s.1 114 i := by first | exact g40_1 | (have hp : AP sc66 s74 y66_2.toNatClampNeg 1 := p74a; intro i hi; have h := hp.2.2.2 i (Or.inl (by omega)); have h2 := g66_1 i hi; exact ⟨h.1.trans h2.1, h.2.1.trans h2.2.1, h.2.2.trans h2.2.2⟩)
        have n66e : KE (sc40.1 112) (sc40.1 113) (sc40.1 114) (sc40.1 110) 1 := by first | exact fun a ha h1 => absurd (g40_2 a (by have a0 := j40_1; unfold In at a0; have a1 := ro_109_9; unfold In at a1; have a2 := i44; unfold In at a2; have a3 := (in_c 0 rfl); unfold In at a3; omega)) h1 | (have hp : AP sc66 s74 y66_2.toNatClampNeg 1 := p74a; exact hp.2.2.1 g66_2)
        exact gg_w (by omega) (gg_f (gf_cons rfl (gf_cons rfl (gf_cons rfl gf_nil))) (ct66 4001 sc40 (Int32.ofInt 0) hIc40 hFc40 (in_w 0 4000 j40_1 rfl) (in_w 0 4000 (in_c 0 rfl) rfl) n66 n66a n66b n66c n66d n66e (m_in 4001 (in_w 0 4000 (in_c 0 rfl) rfl) rfl)))
      · skip
        have i44 := r_lt1 0 159 c44 j40_2 (in_c 160 rfl) rfl
        refine g_aload_n 48 (gd rfl) rfl rfl ?_
        refine g_getA (q2 := 112) 51 (gd rfl) rfl rfl rfl rfl ?_
        refine g_sipush 160 54 (gd rfl) rfl rfl ?_
        refine g_iload_n 55 (gd rfl) rfl rfl ?_
        refine g_iadd 56 (gd rfl) rfl (fun z55 e55 => ?_)
        have i55 := in_add 160 319 e55 (in_c 160 rfl) i44 rfl rfl
        refine g_iconst 0 57 (gd rfl) rfl rfl ?_
        refine g_bastore 58 (gd rfl) rfl (n := 480) rfl (in_ix i55 rfl) ?_
        have hI57 := rng_sI (q := 112) (j := z55.toNatClampNeg) hIc40 rfl (in_w 0 1 (nar01 (in_w 0 1 (in_c 0 rfl) rfl)) rfl)
        refine g_iinc 61 (gd rfl) rfl rfl (Nat.le_of_ble_eq_true rfl) (fun z58 e58 => ?_)
        have i58 := in_add 1 160 e58 i44 (in_c 1 rfl) rfl rfl
        refine g_goto 40 (gd rfl) rfl ?_
        have n40 : (x1).toInt ≤ (u_109_9).toInt := by have a0 := j40_1; unfold In at a0; have a1 := ro_109_9; unfold In at a1; have a2 := i44; unfold In at a2; have a3 := i58; unfold In at a3; have a4 := t_add e58 i44 (in_c 1 rfl) rfl; have a5 := (in_c 1 rfl); unfold In at a5; have a6 := i55; unfold In at a6; have a7 := t_add e55 (in_c 160 rfl) i44 rfl; have a8 := (in_c 160 rfl); unfold In at a8; omega
        have n40a : 0 ≤ (x1).toInt := by have a0 := j40_1; unfold In at a0; have a1 := ro_109_9; unfold In at a1; have a2 := i44; unfold In at a2; have a3 := i58; unfold In at a3; have a4 := t_add e58 i44 (in_c 1 rfl) rfl; have a5 := (in_c 1 rfl); unfold In at a5; have a6 := i55; unfold In at a6; have a7 := t_add e55 (in_c 160 rfl) i44 rfl; have a8 := (in_c 160 rfl); unfold In at a8; omega
        have n40b : (sI sc40 112 z55.toNatClampNeg (vp_nar .boolean (Int32.ofInt 0))).1 110 0 = s.1 110 0 ∧ ((sI sc40 112 z55.toNatClampNeg (vp_nar .boolean (Int32.ofInt 0))).1 110 1).toInt = 0 := by first | exact g40_0 | exact ⟨rfl, rfl⟩
        have n40c : ∀ i, i < 160 → (sI sc40 112 z55.toNatClampNeg (vp_nar .boolean (Int32.ofInt 0))).1 112 i = s.1 112 i ∧ (sI sc40 112 z55.toNatClampNeg (vp_nar .boolean (Int32.ofInt 0))).1 113 i = s.1 113 i ∧ (sI sc40 112 z55.toNatClampNeg (vp_nar .boolean (Int32.ofInt 0))).1 114 i = s.1 114 i := by first | exact fun i hi => ⟨rfl, rfl, rfl⟩ | (intro i hi; refine ⟨?_, (g40_1 i hi).2⟩; rw [sI_q]; unfold upd; rw [if_neg (by have e5 : z55.toNatClampNeg = z55.toInt.toNat := rfl; have a0 := j40_1; unfold In at a0; have a1 := ro_109_9; unfold In at a1; have a2 := i44; unfold In at a2; have a3 := i58; unfold In at a3; have a4 := t_add e58 i44 (in_c 1 rfl) rfl; have a5 := (in_c 1 rfl); unfold In at a5; have a6 := i55; unfold In at a6; have a7 := t_add e55 (in_c 160 rfl) i44 rfl; have a8 := (in_c 160 rfl); unfold In at a8; omega)]; exact (g40_1 i hi).1)
        have n40d : ∀ j : Nat, (j : Int) < (z58).toInt → ((sI sc40 112 z55.toNatClampNeg (vp_nar .boolean (Int32.ofInt 0))).1 112 (160 + j)).toInt = 0 := by first | (intro j hj; exfalso; have h0 : (Int32.ofInt 0).toInt = 0 := rfl; omega) | (intro j hj; rw [sI_q]; unfold upd; have e5 : z55.toNatClampNeg = z55.toInt.toNat := rfl; by_cases c : 160 + j = z55.toNatClampNeg; (rw [if_pos c]; rfl); (rw [if_neg c]; exact g40_2 j (by have a0 := j40_1; unfold In at a0; have a1 := ro_109_9; unfold In at a1; have a2 := i44; unfold In at a2; have a3 := i58; unfold In at a3; have a4 := t_add e58 i44 (in_c 1 rfl) rfl; have a5 := (in_c 1 rfl); unfold In at a5; have a6 := i55; unfold In at a6; have a7 := t_add e55 (in_c 160 rfl) i44 rfl; have a8 := (in_c 160 rfl); unfold In at a8; omega)))
        exact gg_w (by omega) (gg_f (gf_cons rfl (gf_cons rfl (gf_cons rfl gf_nil))) (ih40 (sI sc40 112 z55.toNatClampNeg (vp_nar .boolean (Int32.ofInt 0))) z58 hI57 (fr_sI rfl hFc40) (in_w 0 4000 j40_1 rfl) (in_w 0 160 i58 rfl) n40 n40a n40b n40c n40d (m_up mm40 (t_add e58 i44 (in_c 1 rfl) rfl) (in_w 1 1 (in_c 1 rfl) rfl))))
  refine g_enter2 (k := 286) (N := 3746702) (by omega) rfl (Nat.le_of_ble_eq_true rfl) ?_
  refine g_aload_n 1 (gd rfl) rfl rfl ?_
  refine g_iload_n 2 (gd rfl) rfl rfl ?_
  refine g_i2l 3 (gd rfl) rfl (fun z2 e2 => ?_)
  have i2 := l_i e2 (i_rng x1)
  refine g_ldc2_w (-1) 6 (gd rfl) rfl rfl ?_
  refine g_aload_n 7 (gd rfl) rfl rfl ?_
  refine g_getI 10 (gd rfl) rfl rfl rfl (fun z7 e7 => ?_)
  have q7 : u_109_9 = z7 := (e_109_9).trans e7.symm
  subst q7
  refine g_i2l 11 (gd rfl) rfl (fun z10 e10 => ?_)
  have i10 := l_i e10 ro_109_9
  refine g_calls (As := [.long z2, .long (Int64.ofInt (-1)), .long z10]) (r := [.ref (A 109)]) 14 (gd rfl) rfl rfl rfl rfl rfl (Nat.le_of_ble_eq_true rfl) (mc := 0) (ms := 0) (Nat.zero_le _) (Nat.zero_le _) (P := fun v u => _) ?_ (fun v u h => h)
  intro po11 xx11 hp11 hx11
  refine g_enter2 (k := 269) (N := 300) (by omega) rfl (Nat.le_of_ble_eq_true rfl) ?_
  refine g_lload_n 1 (gd rfl) rfl rfl ?_
  refine g_lload_n 2 (gd rfl) rfl rfl ?_
  refine g_lcmp 3 (gd rfl) rfl (fun z11x2 e11x2 => ?_)
  have i11x2 := lc_in e11x2
  refine g_if_lt 6 17 (gd rfl) rfl rfl (fun c11x3 => ?_) (fun c11x3 => ?_)
  · skip
    have i11x3 := z_lt (-1) (-1) c11x3 i11x2 rfl
    have c11x3a := lc_lt e11x2 c11x3
    have i11x3a := lr_lt1 (-2147483648) (-2) c11x3a i2 (l_c (-1) rfl) rfl
    have i11x3b := l_b e2 i11x3a
    refine g_iconst 0 18 (gd rfl) rfl rfl ?_
    refine g_ireturn (gd rfl) rfl (nb01 (in_w 0 1 (in_c 0 rfl) rfl)) (hp11 _ _ ?_)
    show GG _ _ _ _ _ _ _ _ [.int (Int32.ofInt 0), .ref (A 109)] _ _ _
    refine g_callv (X := _) (As := [.int (Int32.ofInt 0)]) (r := []) (b := A 109) (q := 109) 17 (gd rfl) rfl rfl rfl rfl rfl (ww_o rfl) (Nat.le_of_ble_eq_true rfl) (mc := 0) (ms := 0) (Nat.zero_le _) (Nat.zero_le _) (P := fun v u => _) ?_ (fun e u h => h) (fun v u h => h)
    intro po14 xx14 hp14 hx14
    refine g_enter2 (k := 271) (N := 300) (by omega) rfl (Nat.le_of_ble_eq_true rfl) ?_
    refine g_aload_n 1 (gd rfl) rfl rfl ?_
    refine g_iload_n 2 (gd rfl) rfl rfl ?_
    refine g_iconst 1 3 (gd rfl) rfl rfl ?_
    refine g_callv (X := _) (As := [.int (Int32.ofInt 0), .int (Int32.ofInt 1)]) (r := []) (b := A 109) (q := 109) 6 (gd rfl) rfl rfl rfl rfl rfl (ww_o rfl) (Nat.le_of_ble_eq_true rfl) (mc := 0) (ms := 0) (Nat.zero_le _) (Nat.zero_le _) (P := fun v u => _) ?_ (fun e u h => h) (fun v u h => h)
    intro po14x3 xx14x3 hp14x3 hx14x3
    refine g_enter2 (k := 270) (N := 300) (by omega) rfl (Nat.le_of_ble_eq_true rfl) ?_
    refine g_aload_n 1 (gd rfl) rfl rfl ?_
    refine g_iload_n 2 (gd rfl) rfl rfl ?_
    refine g_if_ne 5 9 (gd rfl) rfl rfl (fun c14x3x2 => ?_) (fun c14x3x2 => ?_)
    · skip
      exact zn_ne c14x3x2 (in_c 0 rfl) rfl
    · skip
      refine g_iconst 1 6 (gd rfl) rfl rfl ?_
      refine g_goto 18 (gd rfl) rfl ?_
      refine g_putI 21 (gd rfl) rfl rfl rfl rfl ?_
      have hI14x3x18 := rng_sF (q := 109) (j := 0) hI.1 rfl (in_w 0 2 (in_c 1 rfl) rfl)
      refine g_aload_n 22 (gd rfl) rfl rfl ?_
      refine g_getI 25 (gd rfl) rfl rfl rfl (fun z14x3x22 e14x3x22 => ?_)
      have q14x3x22 : (Int32.ofInt 1) = z14x3x22 := (sF_get).trans e14x3x22.symm
      subst q14x3x22
      refine g_if_le 28 32 (gd rfl) rfl rfl (fun c14x3x25 => ?_) (fun c14x3x25 => ?_)
      · skip
        exact zn_le c14x3x25 (in_c 1 rfl) rfl
      · skip
        refine g_iconst 1 29 (gd rfl) rfl rfl ?_
        refine g_goto 33 (gd rfl) rfl ?_
        refine g_ireturn (gd rfl) rfl (nb01 (in_w 0 1 (in_c 1 rfl) rfl)) (hp14x3 _ _ ?_)
        show GG _ _ _ _ _ _ _ _ [.int (Int32.ofInt 1)] _ _ _
        refine g_ireturn (gd rfl) rfl (nb01 (in_w 0 1 (in_c 1 rfl) rfl)) (hp14 _ _ ?_)
        show GG _ _ _ _ _ _ _ _ [.int (Int32.ofInt 1)] _ _ _
        refine g_if_eq 20 22 (gd rfl) rfl rfl (fun c17 => ?_) (fun c17 => ?_)
        · skip
          exact zn_eq c17 (in_c 1 rfl) rfl
        · skip
          refine g_iconst 0 21 (gd rfl) rfl rfl ?_
          have hI21 : Inv (sF s 109 0 (Int32.ofInt 1)) := by first | (have hFF : Fr ([], [], [(109, 0), (109, 17)], []) s (sF s 109 0 (Int32.ofInt 1)) := (fr_sF rfl fr_rf); exact ⟨hI14x3x18, kk_all hI.2 hFF rfl⟩) | (have hFF : Fr fm_286 s (sF s 109 0 (Int32.ofInt 1)) := (fr_sF rfl fr_rf); exact ⟨hI14x3x18, kk_g hI.2.1 hFF rfl rfl rfl rfl rfl, kk_g hI.2.2.1 hFF rfl rfl rfl rfl rfl, kk_s hI.2.2.2.1 hFF rfl, lk_kr hI (funext fun q => hF84.1 q rfl) (hFF.2.2.1 109 9 rfl) p84a⟩) | (have hFF : Fr fm_286 s (sF s 109 0 (Int32.ofInt 1)) := (fr_sF rfl fr_rf); exact ⟨hI14x3x18, kk_g hI.2.1 hFF rfl rfl rfl rfl rfl, kk_g hI.2.2.1 hFF rfl rfl rfl rfl rfl, kk_s hI.2.2.2.1 hFF rfl, vw_kr (x := y66_2) hI (in_w 0 4000 j66_2 rfl) (by rw [← e_109_9]; have a0 := ro_109_9; unfold In at a0; have a1 := i11x3b; unfold In at a1; have a2 := (in_c 1 rfl); unfold In at a2; have a3 := tx_i2l e10; have a4 := tx_i2l e2; omega) ((hF84.1 118 rfl).trans (hFc66.1 118 rfl)) ((hF84.1 119 rfl).trans (hFc66.1 119 rfl)) ((hF84.1 120 rfl).trans (hFc66.1 120 rfl)) ((hF84.1 121 rfl).trans (hFc66.1 121 rfl)) (hFF.2.2.1 109 9 rfl) ((congrFun (hF84.1 110 rfl) 0).trans g66_0.1) (by rw [hF84.1 110 rfl]; exact g66_0.2) (fun i hi => by rw [hF84.1 112 rfl, hF84.1 113 rfl, hF84.1 114 rfl]; exact g66_1 i hi) (by rw [hF84.1 112 rfl, hF84.1 113 rfl, hF84.1 114 rfl, hF84.1 110 rfl]; exact g66_2) p84a⟩)
          exact g_ireturn (gd rfl) rfl rfl (hP _ _ ⟨(sF s 109 0 (Int32.ofInt 1)), hI21, (fr_sF rfl fr_rf), (Int32.ofInt 0), rfl, rfl, in_w 0 4000 (in_c 0 rfl) rfl⟩)
  · skip
    have i11x3 := z_ge 0 1 c11x3 i11x2 rfl
    have c11x3a := lc_ge e11x2 c11x3
    have i11x3a := lr_le2 (-1) 2147483647 c11x3a (l_c (-1) rfl) i2 rfl
    have i11x3b := l_b e2 i11x3a
    refine g_lload_n 7 (gd rfl) rfl rfl ?_
    refine g_lload 9 (gd rfl) rfl rfl ?_
    refine g_lcmp 10 (gd rfl) rfl (fun z11x9 e11x9 => ?_)
    have i11x9 := lc_in e11x9
    refine g_if_gt 13 17 (gd rfl) rfl rfl (fun c11x10 => ?_) (fun c11x10 => ?_)
    · skip
      have i11x10 := z_gt 1 1 c11x10 i11x9 rfl
      have c11x10a := lc_gt e11x9 c11x10
      have i11x10a := lr_lt2 1 2147483647 c11x10a i10 i11x3a rfl
      have i11x10b := l_b e2 i11x10a
      refine g_iconst 0 18 (gd rfl) rfl rfl ?_
      refine g_ireturn (gd rfl) rfl (nb01 (in_w 0 1 (in_c 0 rfl) rfl)) (hp11 _ _ ?_)
      show GG _ _ _ _ _ _ _ _ [.int (Int32.ofInt 0), .ref (A 109)] _ _ _
      refine g_callv (X := _) (As := [.int (Int32.ofInt 0)]) (r := []) (b := A 109) (q := 109) 17 (gd rfl) rfl rfl rfl rfl rfl (ww_o rfl) (Nat.le_of_ble_eq_true rfl) (mc := 0) (ms := 0) (Nat.zero_le _) (Nat.zero_le _) (P := fun v u => _) ?_ (fun e u h => h) (fun v u h => h)
      intro po14 xx14 hp14 hx14
      refine g_enter2 (k := 271) (N := 300) (by omega) rfl (Nat.le_of_ble_eq_true rfl) ?_
      refine g_aload_n 1 (gd rfl) rfl rfl ?_
      refine g_iload_n 2 (gd rfl) rfl rfl ?_
      refine g_iconst 1 3 (gd rfl) rfl rfl ?_
      refine g_callv (X := _) (As := [.int (Int32.ofInt 0), .int (Int32.ofInt 1)]) (r := []) (b := A 109) (q := 109) 6 (gd rfl) rfl rfl rfl rfl rfl (ww_o rfl) (Nat.le_of_ble_eq_true rfl) (mc := 0) (ms := 0) (Nat.zero_le _) (Nat.zero_le _) (P := fun v u => _) ?_ (fun e u h => h) (fun v u h => h)
      intro po14x3 xx14x3 hp14x3 hx14x3
      refine g_enter2 (k := 270) (N := 300) (by omega) rfl (Nat.le_of_ble_eq_true rfl) ?_
      refine g_aload_n 1 (gd rfl) rfl rfl ?_
      refine g_iload_n 2 (gd rfl) rfl rfl ?_
      refine g_if_ne 5 9 (gd rfl) rfl rfl (fun c14x3x2 => ?_) (fun c14x3x2 => ?_)
      · skip
        exact zn_ne c14x3x2 (in_c 0 rfl) rfl
      · skip
        refine g_iconst 1 6 (gd rfl) rfl rfl ?_
        refine g_goto 18 (gd rfl) rfl ?_
        refine g_putI 21 (gd rfl) rfl rfl rfl rfl ?_
        have hI14x3x18 := rng_sF (q := 109) (j := 0) hI.1 rfl (in_w 0 2 (in_c 1 rfl) rfl)
        refine g_aload_n 22 (gd rfl) rfl rfl ?_
        refine g_getI 25 (gd rfl) rfl rfl rfl (fun z14x3x22 e14x3x22 => ?_)
        have q14x3x22 : (Int32.ofInt 1) = z14x3x22 := (sF_get).trans e14x3x22.symm
        subst q14x3x22
        refine g_if_le 28 32 (gd rfl) rfl rfl (fun c14x3x25 => ?_) (fun c14x3x25 => ?_)
        · skip
          exact zn_le c14x3x25 (in_c 1 rfl) rfl
        · skip
          refine g_iconst 1 29 (gd rfl) rfl rfl ?_
          refine g_goto 33 (gd rfl) rfl ?_
          refine g_ireturn (gd rfl) rfl (nb01 (in_w 0 1 (in_c 1 rfl) rfl)) (hp14x3 _ _ ?_)
          show GG _ _ _ _ _ _ _ _ [.int (Int32.ofInt 1)] _ _ _
          refine g_ireturn (gd rfl) rfl (nb01 (in_w 0 1 (in_c 1 rfl) rfl)) (hp14 _ _ ?_)
          show GG _ _ _ _ _ _ _ _ [.int (Int32.ofInt 1)] _ _ _
          refine g_if_eq 20 22 (gd rfl) rfl rfl (fun c17 => ?_) (fun c17 => ?_)
          · skip
            exact zn_eq c17 (in_c 1 rfl) rfl
          · skip
            refine g_iconst 0 21 (gd rfl) rfl rfl ?_
            have hI21 : Inv (sF s 109 0 (Int32.ofInt 1)) := by first | (have hFF : Fr ([], [], [(109, 0), (109, 17)], []) s (sF s 109 0 (Int32.ofInt 1)) := (fr_sF rfl fr_rf); exact ⟨hI14x3x18, kk_all hI.2 hFF rfl⟩) | (have hFF : Fr fm_286 s (sF s 109 0 (Int32.ofInt 1)) := (fr_sF rfl fr_rf); exact ⟨hI14x3x18, kk_g hI.2.1 hFF rfl rfl rfl rfl rfl, kk_g hI.2.2.1 hFF rfl rfl rfl rfl rfl, kk_s hI.2.2.2.1 hFF rfl, lk_kr hI (funext fun q => hF84.1 q rfl) (hFF.2.2.1 109 9 rfl) p84a⟩) | (have hFF : Fr fm_286 s (sF s 109 0 (Int32.ofInt 1)) := (fr_sF rfl fr_rf); exact ⟨hI14x3x18, kk_g hI.2.1 hFF rfl rfl rfl rfl rfl, kk_g hI.2.2.1 hFF rfl rfl rfl rfl rfl, kk_s hI.2.2.2.1 hFF rfl, vw_kr (x := y66_2) hI (in_w 0 4000 j66_2 rfl) (by rw [← e_109_9]; have a0 := ro_109_9; unfold In at a0; have a1 := i11x10b; unfold In at a1; have a2 := (in_c 1 rfl); unfold In at a2; have a3 := tx_i2l e10; have a4 := tx_i2l e2; omega) ((hF84.1 118 rfl).trans (hFc66.1 118 rfl)) ((hF84.1 119 rfl).trans (hFc66.1 119 rfl)) ((hF84.1 120 rfl).trans (hFc66.1 120 rfl)) ((hF84.1 121 rfl).trans (hFc66.1 121 rfl)) (hFF.2.2.1 109 9 rfl) ((congrFun (hF84.1 110 rfl) 0).trans g66_0.1) (by rw [hF84.1 110 rfl]; exact g66_0.2) (fun i hi => by rw [hF84.1 112 rfl, hF84.1 113 rfl, hF84.1 114 rfl]; exact g66_1 i hi) (by rw [hF84.1 112 rfl, hF84.1 113 rfl, hF84.1 114 rfl, hF84.1 110 rfl]; exact g66_2) p84a⟩)
            exact g_ireturn (gd rfl) rfl rfl (hP _ _ ⟨(sF s 109 0 (Int32.ofInt 1)), hI21, (fr_sF rfl fr_rf), (Int32.ofInt 0), rfl, rfl, in_w 0 4000 (in_c 0 rfl) rfl⟩)
    · skip
      have i11x10 := z_le (-1) 0 c11x10 i11x9 rfl
      have c11x10a := lc_le e11x9 c11x10
      have i11x10a := lr_le1 (-1) 4000 c11x10a i11x3a i10 rfl
      have i11x10b := l_b e2 i11x10a
      refine g_iconst 1 14 (gd rfl) rfl rfl ?_
      refine g_goto 18 (gd rfl) rfl ?_
      refine g_ireturn (gd rfl) rfl (nb01 (in_w 0 1 (in_c 1 rfl) rfl)) (hp11 _ _ ?_)
      show GG _ _ _ _ _ _ _ _ [.int (Int32.ofInt 1), .ref (A 109)] _ _ _
      refine g_callv (X := _) (As := [.int (Int32.ofInt 1)]) (r := []) (b := A 109) (q := 109) 17 (gd rfl) rfl rfl rfl rfl rfl (ww_o rfl) (Nat.le_of_ble_eq_true rfl) (mc := 0) (ms := 0) (Nat.zero_le _) (Nat.zero_le _) (P := fun v u => _) ?_ (fun e u h => h) (fun v u h => h)
      intro po14 xx14 hp14 hx14
      refine g_enter2 (k := 271) (N := 300) (by omega) rfl (Nat.le_of_ble_eq_true rfl) ?_
      refine g_aload_n 1 (gd rfl) rfl rfl ?_
      refine g_iload_n 2 (gd rfl) rfl rfl ?_
      refine g_iconst 1 3 (gd rfl) rfl rfl ?_
      refine g_callv (X := _) (As := [.int (Int32.ofInt 1), .int (Int32.ofInt 1)]) (r := []) (b := A 109) (q := 109) 6 (gd rfl) rfl rfl rfl rfl rfl (ww_o rfl) (Nat.le_of_ble_eq_true rfl) (mc := 0) (ms := 0) (Nat.zero_le _) (Nat.zero_le _) (P := fun v u => _) ?_ (fun e u h => h) (fun v u h => h)
      intro po14x3 xx14x3 hp14x3 hx14x3
      refine g_enter2 (k := 270) (N := 300) (by omega) rfl (Nat.le_of_ble_eq_true rfl) ?_
      refine g_aload_n 1 (gd rfl) rfl rfl ?_
      refine g_iload_n 2 (gd rfl) rfl rfl ?_
      refine g_if_ne 5 9 (gd rfl) rfl rfl (fun c14x3x2 => ?_) (fun c14x3x2 => ?_)
      · skip
        refine g_iload_n 10 (gd rfl) rfl rfl ?_
        refine g_if_ne 13 17 (gd rfl) rfl rfl (fun c14x3x10 => ?_) (fun c14x3x10 => ?_)
        · skip
          refine g_iconst 0 18 (gd rfl) rfl rfl ?_
          refine g_putI 21 (gd rfl) rfl rfl rfl rfl ?_
          have hI14x3x18 := rng_sF (q := 109) (j := 0) hI.1 rfl (in_w 0 2 (in_c 0 rfl) rfl)
          refine g_aload_n 22 (gd rfl) rfl rfl ?_
          refine g_getI 25 (gd rfl) rfl rfl rfl (fun z14x3x22 e14x3x22 => ?_)
          have q14x3x22 : (Int32.ofInt 0) = z14x3x22 := (sF_get).trans e14x3x22.symm
          subst q14x3x22
          refine g_if_le 28 32 (gd rfl) rfl rfl (fun c14x3x25 => ?_) (fun c14x3x25 => ?_)
          · skip
            refine g_iconst 0 33 (gd rfl) rfl rfl ?_
            refine g_ireturn (gd rfl) rfl (nb01 (in_w 0 1 (in_c 0 rfl) rfl)) (hp14x3 _ _ ?_)
            show GG _ _ _ _ _ _ _ _ [.int (Int32.ofInt 0)] _ _ _
            refine g_ireturn (gd rfl) rfl (nb01 (in_w 0 1 (in_c 0 rfl) rfl)) (hp14 _ _ ?_)
            show GG _ _ _ _ _ _ _ _ [.int (Int32.ofInt 0)] _ _ _
            refine g_if_eq 20 22 (gd rfl) rfl rfl (fun c17 => ?_) (fun c17 => ?_)
            · skip
              refine g_aload_n 23 (gd rfl) rfl rfl ?_
              refine g_iload_n 24 (gd rfl) rfl rfl ?_
              refine g_putI 27 (gd rfl) rfl rfl rfl rfl ?_
              have hI24 := rng_sF (q := 109) (j := 17) hI14x3x18 rfl (in_w (-1) 4000 i11x10b rfl)
              refine g_iload_n 28 (gd rfl) rfl rfl ?_
              refine g_if_lt 31 83 (gd rfl) rfl rfl (fun c28 => ?_) (fun c28 => ?_)
              · skip
                have i28 := z_lt (-1) (-1) c28 i11x10b rfl
                refine g_aload_n 84 (gd rfl) rfl rfl ?_
                have p84 : In ((sF (sF s 109 0 (Int32.ofInt 0)) 109 17 x1).1 110 0) 0 32 ∧ In ((sF (sF s 109 0 (Int32.ofInt 0)) 109 17 x1).1 110 1) 0 32 := by first | (have h := kr_nn hI; exact h) | exact vw_nn (x := y66_2) hI (by have a0 := i28; unfold In at a0; have a1 := ro_109_9; unfold In at a1; have a2 := (in_c 0 rfl); unfold In at a2; have a3 := tx_i2l e10; have a4 := tx_i2l e2; omega) (by rw [← e_109_9]; have a0 := i28; unfold In at a0; have a1 := ro_109_9; unfold In at a1; have a2 := (in_c 0 rfl); unfold In at a2; have a3 := tx_i2l e10; have a4 := tx_i2l e2; omega) g66_0.1 g66_0.2
                refine g_callv (X := _) (As := []) (r := []) (b := A 109) (q := 109) 87 (gd rfl) rfl rfl rfl rfl rfl (ww_o rfl) (Nat.le_of_ble_eq_true rfl) (Nat.zero_le _) (Nat.zero_le _) (k_276 (by omega) hI24 p84) (fun e u h => h) (fun v u h => ?_)
                obtain ⟨s84, hI84, hF84, rfl, rfl, p84a⟩ := h
                show GG _ _ _ _ _ _ _ _ [] _ _ _
                refine g_iload_n 88 (gd rfl) rfl rfl ?_
                refine g_if_ge 91 98 (gd rfl) rfl rfl (fun c88 => ?_) (fun c88 => ?_)
                · skip
                  exact zn_ge c88 i28 rfl
                · skip
                  refine g_aload_n 92 (gd rfl) rfl rfl ?_
                  refine g_getI 95 (gd rfl) rfl rfl rfl (fun z92 e92 => ?_)
                  have q92 : u_109_9 = z92 := (fr_F (s := (sF (sF s 109 0 (Int32.ofInt 0)) 109 17 x1)) (sF_ne rfl (sF_ne rfl (e_109_9))) hF84 rfl).trans e92.symm
                  subst q92
                  refine g_goto 99 (gd rfl) rfl ?_
                  have hI99 : Inv s84 := by first | (have hFF : Fr ([], [], [(109, 0), (109, 17)], []) s s84 := (fr_tr rfl (fr_sF rfl (fr_sF rfl fr_rf)) hF84); exact ⟨hI84, kk_all hI.2 hFF rfl⟩) | (have hFF : Fr fm_286 s s84 := (fr_tr rfl (fr_sF rfl (fr_sF rfl fr_rf)) hF84); exact ⟨hI84, kk_g hI.2.1 hFF rfl rfl rfl rfl rfl, kk_g hI.2.2.1 hFF rfl rfl rfl rfl rfl, kk_s hI.2.2.2.1 hFF rfl, lk_kr hI (funext fun q => hF84.1 q rfl) (hFF.2.2.1 109 9 rfl) p84a⟩) | (have hFF : Fr fm_286 s s84 := (fr_tr rfl (fr_sF rfl (fr_sF rfl fr_rf)) hF84); exact ⟨hI84, kk_g hI.2.1 hFF rfl rfl rfl rfl rfl, kk_g hI.2.2.1 hFF rfl rfl rfl rfl rfl, kk_s hI.2.2.2.1 hFF rfl, vw_kr (x := y66_2) hI (in_w 0 4000 j66_2 rfl) (by rw [← e_109_9]; have a0 := i28; unfold In at a0; have a1 := ro_109_9; unfold In at a1; have a2 := (in_c 0 rfl); unfold In at a2; have a3 := tx_i2l e10; have a4 := tx_i2l e2; omega) ((hF84.1 118 rfl).trans (hFc66.1 118 rfl)) ((hF84.1 119 rfl).trans (hFc66.1 119 rfl)) ((hF84.1 120 rfl).trans (hFc66.1 120 rfl)) ((hF84.1 121 rfl).trans (hFc66.1 121 rfl)) (hFF.2.2.1 109 9 rfl) ((congrFun (hF84.1 110 rfl) 0).trans g66_0.1) (by rw [hF84.1 110 rfl]; exact g66_0.2) (fun i hi => by rw [hF84.1 112 rfl, hF84.1 113 rfl, hF84.1 114 rfl]; exact g66_1 i hi) (by rw [hF84.1 112 rfl, hF84.1 113 rfl, hF84.1 114 rfl, hF84.1 110 rfl]; exact g66_2) p84a⟩)
                  exact g_ireturn (gd rfl) rfl rfl (hP _ _ ⟨s84, hI99, (fr_tr rfl (fr_sF rfl (fr_sF rfl fr_rf)) hF84), u_109_9, rfl, rfl, in_w 0 4000 ro_109_9 rfl⟩)
              · skip
                have i28 := z_ge 0 4000 c28 i11x10b rfl
                refine g_aload_n 32 (gd rfl) rfl rfl ?_
                refine g_getA (q2 := 110) 35 (gd rfl) rfl rfl rfl rfl ?_
                refine g_iconst 1 36 (gd rfl) rfl rfl ?_
                refine g_iconst 0 37 (gd rfl) rfl rfl ?_
                refine g_iastore 38 (gd rfl) rfl (n := 3) rfl (in_ix (in_c 1 rfl) rfl) ?_
                have hI37 := rng_sI (q := 110) (j := (Int32.ofInt 1).toNatClampNeg) hI24 rfl (in_w (-2147483648) 2147483647 (in_c 0 rfl) rfl)
                refine g_iconst 0 39 (gd rfl) rfl rfl ?_
                refine g_istore_n 40 (gd rfl) rfl (Nat.le_of_ble_eq_true rfl) ?_
                have n40 : (x1).toInt ≤ (u_109_9).toInt := by have a0 := i28; unfold In at a0; have a1 := ro_109_9; unfold In at a1; have a2 := (in_c 0 rfl); unfold In at a2; have a3 := tx_i2l e10; have a4 := tx_i2l e2; omega
                have n40a : 0 ≤ (x1).toInt := by have a0 := i28; unfold In at a0; have a1 := ro_109_9; unfold In at a1; have a2 := (in_c 0 rfl); unfold In at a2; have a3 := tx_i2l e10; have a4 := tx_i2l e2; omega
                have n40b : (sI (sF (sF s 109 0 (Int32.ofInt 0)) 109 17 x1) 110 (Int32.ofInt 1).toNatClampNeg (Int32.ofInt 0)).1 110 0 = s.1 110 0 ∧ ((sI (sF (sF s 109 0 (Int32.ofInt 0)) 109 17 x1) 110 (Int32.ofInt 1).toNatClampNeg (Int32.ofInt 0)).1 110 1).toInt = 0 := by first | exact g40_0 | exact ⟨rfl, rfl⟩
                have n40c : ∀ i, i < 160 → (sI (sF (sF s 109 0 (Int32.ofInt 0)) 109 17 x1) 110 (Int32.ofInt 1).toNatClampNeg (Int32.ofInt 0)).1 112 i = s.1 112 i ∧ (sI (sF (sF s 109 0 (Int32.ofInt 0)) 109 17 x1) 110 (Int32.ofInt 1).toNatClampNeg (Int32.ofInt 0)).1 113 i = s.1 113 i ∧ (sI (sF (sF s 109 0 (Int32.ofInt 0)) 109 17 x1) 110 (Int32.ofInt 1).toNatClampNeg (Int32.ofInt 0)).1 114 i = s.1 114 i := by first | exact fun i hi => ⟨rfl, rfl, rfl⟩ | (intro i hi; refine ⟨?_, (g40_1 i hi).2⟩; rw [sI_q]; unfold upd; rw [if_neg (by have e5 : z55.toNatClampNeg = z55.toInt.toNat := rfl; have a0 := i28; unfold In at a0; have a1 := ro_109_9; unfold In at a1; have a2 := (in_c 0 rfl); unfold In at a2; have a3 := tx_i2l e10; have a4 := tx_i2l e2; omega)]; exact (g40_1 i hi).1)
                have n40d : ∀ j : Nat, (j : Int) < ((Int32.ofInt 0)).toInt → ((sI (sF (sF s 109 0 (Int32.ofInt 0)) 109 17 x1) 110 (Int32.ofInt 1).toNatClampNeg (Int32.ofInt 0)).1 112 (160 + j)).toInt = 0 := by first | (intro j hj; exfalso; have h0 : (Int32.ofInt 0).toInt = 0 := rfl; omega) | (intro j hj; rw [sI_q]; unfold upd; have e5 : z55.toNatClampNeg = z55.toInt.toNat := rfl; by_cases c : 160 + j = z55.toNatClampNeg; (rw [if_pos c]; rfl); (rw [if_neg c]; exact g40_2 j (by have a0 := i28; unfold In at a0; have a1 := ro_109_9; unfold In at a1; have a2 := (in_c 0 rfl); unfold In at a2; have a3 := tx_i2l e10; have a4 := tx_i2l e2; omega)))
                exact gg_w (by omega) (gg_f (gf_cons rfl (gf_cons rfl (gf_cons rfl gf_nil))) (ct40 161 (sI (sF (sF s 109 0 (Int32.ofInt 0)) 109 17 x1) 110 (Int32.ofInt 1).toNatClampNeg (Int32.ofInt 0)) (Int32.ofInt 0) hI37 (fr_sI rfl (fr_sF rfl (fr_sF rfl fr_rf))) (in_w 0 4000 i28 rfl) (in_w 0 160 (in_c 0 rfl) rfl) n40 n40a n40b n40c n40d (m_in 161 (in_w 0 160 (in_c 0 rfl) rfl) rfl)))
            · skip
              exact zn_ne c17 (in_c 0 rfl) rfl
          · skip
            exact zn_gt c14x3x25 (in_c 0 rfl) rfl
        · skip
          exact zn_eq c14x3x10 (in_c 1 rfl) rfl
      · skip
        exact zn_eq c14x3x2 (in_c 1 rfl) rfl

def fm_287 : FM := ([], [], [(109, 0)], [])
/-- GraphHouseModel.version -/
theorem k_287 {Z : AmZ} {A : Nat → Nat} {s : GS} {ex : va_W} {d : Nat} {X : AmX}  (hd : 1 ≤ d) (hI : Inv s)  : GC Z d 287 [.ref (A 109)] (WW Z A s ++ ex) 0 0 (fun v u => ∃ t : GS, Inv t ∧ Fr fm_287 s t ∧ ∃ z : Int32, v = some (.int z) ∧ u = WW Z A t ++ ex ∧ In z 0 4000) X := by
  intro post xp hP hX
  obtain ⟨u_109_9, e_109_9⟩ : ∃ w, w = s.2.2.1 109 9 := ⟨_, rfl⟩
  have ro_109_9 := inv_F hI 0 4000 rfl e_109_9
  refine g_enter2 (k := 287) (N := 900) (by omega) rfl (Nat.le_of_ble_eq_true rfl) ?_
  refine g_aload_n 1 (gd rfl) rfl rfl ?_
  refine g_iconst 0 2 (gd rfl) rfl rfl ?_
  refine g_putI 5 (gd rfl) rfl rfl rfl rfl ?_
  have hI2 := inv_sF (q := 109) (j := 0) hI rfl (in_w 0 2 (in_c 0 rfl) rfl)
  refine g_aload_n 6 (gd rfl) rfl rfl ?_
  refine g_getI 9 (gd rfl) rfl rfl rfl (fun z6 e6 => ?_)
  have q6 : u_109_9 = z6 := (sF_ne rfl (e_109_9)).trans e6.symm
  subst q6
  exact g_ireturn (gd rfl) rfl rfl (hP _ _ ⟨(sF s 109 0 (Int32.ofInt 0)), hI2, (fr_sF rfl fr_rf), u_109_9, rfl, rfl, in_w 0 4000 ro_109_9 rfl⟩)
