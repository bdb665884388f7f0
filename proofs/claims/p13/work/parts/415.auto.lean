/-! methods, by vc.py -/
def fm_249_0 : FM := ([9, 10, 11, 12, 13, 14, 15, 39, 40, 41, 42, 43, 44, 45, 52, 54], [53], [(2, 4), (32, 4)], [])
/-- GraphHouse.shortest -/
theorem k_249_0 {Z : AmZ} {A : Nat → Nat} {s : GS} {ex : va_W} {d : Nat} {x1 : Int32} {x2 : Int32} {x3 : Int32} {x4 : Int32} (hd : 7 ≤ d) (hI : Inv s)  : GC Z d 249 [.ref (A 0), .int x1, .int x2, .int x3, .int x4] (WW Z A s ++ ex) 3 18 (fun v u => ∃ t : GS, Inv t ∧ Fr fm_249_0 s t ∧ ∃ z : Int32, v = some (.int z) ∧ u = WW Z A t ++ ex ∧ In z (-2147483648) 2147483647) (gE1 Z A ex fm_249_0 s) := by
  intro post xp hP hX
  obtain ⟨u_0_2, e_0_2⟩ : ∃ w, w = s.2.2.1 0 2 := ⟨_, rfl⟩
  have ro_0_2 := inv_F hI (-1) 4000 rfl e_0_2
  obtain ⟨u_2_1, e_2_1⟩ : ∃ w, w = s.2.2.1 2 1 := ⟨_, rfl⟩
  have ro_2_1 := inv_F hI 0 32 rfl e_2_1
  obtain ⟨u_32_1, e_32_1⟩ : ∃ w, w = s.2.2.1 32 1 := ⟨_, rfl⟩
  have ro_32_1 := inv_F hI 0 32 rfl e_32_1
  have ct47 : ∀ (sc47 : GS) , Inv sc47 → Fr fm_249_0 s sc47 → GG Z (d - 1) 249 post (gx xp) (901) 47 (fun j => xlook j [(0, .ref (A 0)), (1, .int x1), (2, .int x2), (3, .int x3), (4, .int x4)]) [] (WW Z A sc47 ++ ex) 3 18 := by
    intro sc47  hIc47 hFc47 
    refine g_iconst 0 48 (gd rfl) rfl rfl ?_
    refine g_thr (E := am_IA) (y := yX11_allow) 51 (gd rfl) rfl rfl (Or.inl ⟨rfl, rfl, rfl⟩) (by omega) (Nat.le_of_ble_eq_true rfl) (Nat.le_of_ble_eq_true rfl) (Nat.le_of_ble_eq_true rfl) (fun c48 => ?_) (fun c48 => ?_)
    · skip
      exact zn_ne c48 (in_c 0 rfl) rfl
    · skip
      exact (hX _ _ ⟨rfl, sc47, hIc47, hFc47, rfl⟩)
  refine g_enter2 (k := 249) (N := 1801) (by omega) rfl (Nat.le_of_ble_eq_true rfl) ?_
  refine g_aload_n 1 (gd rfl) rfl rfl ?_
  refine g_callv (X := _) (As := []) (r := []) (b := A 0) (q := 0) 4 (gd rfl) rfl rfl rfl rfl rfl (ww_o rfl) (Nat.le_of_ble_eq_true rfl) (mc := 0) (ms := 0) (Nat.zero_le _) (Nat.zero_le _) (P := fun v u => _) ?_ (fun e u h => h) (fun v u h => h)
  intro po1 xx1 hp1 hx1
  refine g_enter2 (k := 259) (N := 300) (by omega) rfl (Nat.le_of_ble_eq_true rfl) ?_
  refine g_aload_n 1 (gd rfl) rfl rfl ?_
  refine g_getI 4 (gd rfl) rfl rfl rfl (fun z1x1 e1x1 => ?_)
  have q1x1 : u_0_2 = z1x1 := (e_0_2).trans e1x1.symm
  subst q1x1
  refine g_iconst (-1) 5 (gd rfl) rfl rfl ?_
  refine g_cmp_ne 8 18 (gd rfl) rfl rfl (fun c1x5 => ?_) (fun c1x5 => ?_)
  · skip
    have i1x5 := r_ne1 0 4000 c1x5 ro_0_2 (in_c (-1) rfl) rfl
    refine g_aload_n 19 (gd rfl) rfl rfl ?_
    refine g_getA (q2 := 32) 22 (gd rfl) rfl rfl rfl rfl ?_
    refine g_areturn (gd rfl) rfl (hp1 _ _ ?_)
    show GG _ _ _ _ _ _ _ _ [.ref (A 32)] _ _ _
    refine g_astore 6 (gd rfl) rfl (Nat.le_of_ble_eq_true rfl) ?_
    refine g_aload 8 (gd rfl) rfl rfl ?_
    refine g_iload_n 9 (gd rfl) rfl rfl ?_
    refine g_callv (X := _) (As := [.int x1]) (r := []) (b := A 32) (q := 32) 12 (gd rfl) rfl rfl rfl rfl rfl (ww_o rfl) (Nat.le_of_ble_eq_true rfl) (mc := 0) (ms := 0) (Nat.zero_le _) (Nat.zero_le _) (P := fun v u => _) ?_ (fun e u h => h) (fun v u h => h)
    intro po9 xx9 hp9 hx9
    refine g_enter2 (k := 94) (N := 300) (by omega) rfl (Nat.le_of_ble_eq_true rfl) ?_
    refine g_iload_n 1 (gd rfl) rfl rfl ?_
    refine g_if_lt 4 16 (gd rfl) rfl rfl (fun c9x1 => ?_) (fun c9x1 => ?_)
    · skip
      have i9x1 := z_lt (-2147483648) (-1) c9x1 (i_rng x1) rfl
      refine g_iconst 0 17 (gd rfl) rfl rfl ?_
      refine g_ireturn (gd rfl) rfl (nb01 (in_w 0 1 (in_c 0 rfl) rfl)) (hp9 _ _ ?_)
      show GG _ _ _ _ _ _ _ _ [.int (Int32.ofInt 0)] _ _ _
      refine g_if_eq 15 47 (gd rfl) rfl rfl (fun c12 => ?_) (fun c12 => ?_)
      · skip
        exact gg_w (by omega) (gg_f (gf_cons rfl (gf_cons rfl (gf_cons rfl (gf_cons rfl (gf_cons rfl gf_nil))))) (ct47 s  hI fr_rf ))
      · skip
        exact zn_ne c12 (in_c 0 rfl) rfl
    · skip
      have i9x1 := z_ge 0 2147483647 c9x1 (i_rng x1) rfl
      refine g_iload_n 5 (gd rfl) rfl rfl ?_
      refine g_aload_n 6 (gd rfl) rfl rfl ?_
      refine g_getI 9 (gd rfl) rfl rfl rfl (fun z9x6 e9x6 => ?_)
      have q9x6 : u_32_1 = z9x6 := (e_32_1).trans e9x6.symm
      subst q9x6
      refine g_cmp_ge 12 16 (gd rfl) rfl rfl (fun c9x9 => ?_) (fun c9x9 => ?_)
      · skip
        refine g_iconst 0 17 (gd rfl) rfl rfl ?_
        refine g_ireturn (gd rfl) rfl (nb01 (in_w 0 1 (in_c 0 rfl) rfl)) (hp9 _ _ ?_)
        show GG _ _ _ _ _ _ _ _ [.int (Int32.ofInt 0)] _ _ _
        refine g_if_eq 15 47 (gd rfl) rfl rfl (fun c12 => ?_) (fun c12 => ?_)
        · skip
          exact gg_w (by omega) (gg_f (gf_cons rfl (gf_cons rfl (gf_cons rfl (gf_cons rfl (gf_cons rfl gf_nil))))) (ct47 s  hI fr_rf ))
        · skip
          exact zn_ne c12 (in_c 0 rfl) rfl
      · skip
        have i9x9 := r_lt1 0 31 c9x9 i9x1 ro_32_1 rfl
        have i9x9a := r_lt2 1 32 c9x9 i9x1 ro_32_1 rfl
        refine g_iconst 1 13 (gd rfl) rfl rfl ?_
        refine g_goto 17 (gd rfl) rfl ?_
        refine g_ireturn (gd rfl) rfl (nb01 (in_w 0 1 (in_c 1 rfl) rfl)) (hp9 _ _ ?_)
        show GG _ _ _ _ _ _ _ _ [.int (Int32.ofInt 1)] _ _ _
        refine g_if_eq 15 47 (gd rfl) rfl rfl (fun c12 => ?_) (fun c12 => ?_)
        · skip
          exact zn_eq c12 (in_c 1 rfl) rfl
        · skip
          refine g_aload 17 (gd rfl) rfl rfl ?_
          refine g_iload_n 18 (gd rfl) rfl rfl ?_
          refine g_callv (X := _) (As := [.int x2]) (r := []) (b := A 32) (q := 32) 21 (gd rfl) rfl rfl rfl rfl rfl (ww_o rfl) (Nat.le_of_ble_eq_true rfl) (mc := 0) (ms := 0) (Nat.zero_le _) (Nat.zero_le _) (P := fun v u => _) ?_ (fun e u h => h) (fun v u h => h)
          intro po18 xx18 hp18 hx18
          refine g_enter2 (k := 94) (N := 300) (by omega) rfl (Nat.le_of_ble_eq_true rfl) ?_
          refine g_iload_n 1 (gd rfl) rfl rfl ?_
          refine g_if_lt 4 16 (gd rfl) rfl rfl (fun c18x1 => ?_) (fun c18x1 => ?_)
          · skip
            have i18x1 := z_lt (-2147483648) (-1) c18x1 (i_rng x2) rfl
            refine g_iconst 0 17 (gd rfl) rfl rfl ?_
            refine g_ireturn (gd rfl) rfl (nb01 (in_w 0 1 (in_c 0 rfl) rfl)) (hp18 _ _ ?_)
            show GG _ _ _ _ _ _ _ _ [.int (Int32.ofInt 0)] _ _ _
            refine g_if_eq 24 47 (gd rfl) rfl rfl (fun c21 => ?_) (fun c21 => ?_)
            · skip
              exact gg_w (by omega) (gg_f (gf_cons rfl (gf_cons rfl (gf_cons rfl (gf_cons rfl (gf_cons rfl gf_nil))))) (ct47 s  hI fr_rf ))
            · skip
              exact zn_ne c21 (in_c 0 rfl) rfl
          · skip
            have i18x1 := z_ge 0 2147483647 c18x1 (i_rng x2) rfl
            refine g_iload_n 5 (gd rfl) rfl rfl ?_
            refine g_aload_n 6 (gd rfl) rfl rfl ?_
            refine g_getI 9 (gd rfl) rfl rfl rfl (fun z18x6 e18x6 => ?_)
            have q18x6 : u_32_1 = z18x6 := (e_32_1).trans e18x6.symm
            subst q18x6
            refine g_cmp_ge 12 16 (gd rfl) rfl rfl (fun c18x9 => ?_) (fun c18x9 => ?_)
            · skip
              have i18x9 := r_le2 1 2147483647 c18x9 i9x9a i18x1 rfl
              refine g_iconst 0 17 (gd rfl) rfl rfl ?_
              refine g_ireturn (gd rfl) rfl (nb01 (in_w 0 1 (in_c 0 rfl) rfl)) (hp18 _ _ ?_)
              show GG _ _ _ _ _ _ _ _ [.int (Int32.ofInt 0)] _ _ _
              refine g_if_eq 24 47 (gd rfl) rfl rfl (fun c21 => ?_) (fun c21 => ?_)
              · skip
                exact gg_w (by omega) (gg_f (gf_cons rfl (gf_cons rfl (gf_cons rfl (gf_cons rfl (gf_cons rfl gf_nil))))) (ct47 s  hI fr_rf ))
              · skip
                exact zn_ne c21 (in_c 0 rfl) rfl
            · skip
              have i18x9 := r_lt1 0 31 c18x9 i18x1 i9x9a rfl
              refine g_iconst 1 13 (gd rfl) rfl rfl ?_
              refine g_goto 17 (gd rfl) rfl ?_
              refine g_ireturn (gd rfl) rfl (nb01 (in_w 0 1 (in_c 1 rfl) rfl)) (hp18 _ _ ?_)
              show GG _ _ _ _ _ _ _ _ [.int (Int32.ofInt 1)] _ _ _
              refine g_if_eq 24 47 (gd rfl) rfl rfl (fun c21 => ?_) (fun c21 => ?_)
              · skip
                exact zn_eq c21 (in_c 1 rfl) rfl
              · skip
                refine g_iload_n 25 (gd rfl) rfl rfl ?_
                refine g_if_lt 28 47 (gd rfl) rfl rfl (fun c25 => ?_) (fun c25 => ?_)
                · skip
                  have i25 := z_lt (-2147483648) (-1) c25 (i_rng x3) rfl
                  exact gg_w (by omega) (gg_f (gf_cons rfl (gf_cons rfl (gf_cons rfl (gf_cons rfl (gf_cons rfl gf_nil))))) (ct47 s  hI fr_rf ))
                · skip
                  have i25 := z_ge 0 2147483647 c25 (i_rng x3) rfl
                  refine g_iload_n 29 (gd rfl) rfl rfl ?_
                  refine g_iconst 2 30 (gd rfl) rfl rfl ?_
                  refine g_cmp_gt 33 47 (gd rfl) rfl rfl (fun c30 => ?_) (fun c30 => ?_)
                  · skip
                    have i30 := r_lt2 3 2147483647 c30 (in_c 2 rfl) i25 rfl
                    exact gg_w (by omega) (gg_f (gf_cons rfl (gf_cons rfl (gf_cons rfl (gf_cons rfl (gf_cons rfl gf_nil))))) (ct47 s  hI fr_rf ))
                  · skip
                    have i30 := r_le1 0 2 c30 i25 (in_c 2 rfl) rfl
                    refine g_aload 35 (gd rfl) rfl rfl ?_
                    refine g_iload 37 (gd rfl) rfl rfl ?_
                    refine g_callv (X := _) (As := [.int x4]) (r := []) (b := A 32) (q := 32) 40 (gd rfl) rfl rfl rfl rfl rfl (ww_o rfl) (Nat.le_of_ble_eq_true rfl) (mc := 0) (ms := 0) (Nat.zero_le _) (Nat.zero_le _) (P := fun v u => _) ?_ (fun e u h => h) (fun v u h => h)
                    intro po37 xx37 hp37 hx37
                    refine g_enter2 (k := 94) (N := 300) (by omega) rfl (Nat.le_of_ble_eq_true rfl) ?_
                    refine g_iload_n 1 (gd rfl) rfl rfl ?_
                    refine g_if_lt 4 16 (gd rfl) rfl rfl (fun c37x1 => ?_) (fun c37x1 => ?_)
                    · skip
                      have i37x1 := z_lt (-2147483648) (-1) c37x1 (i_rng x4) rfl
                      refine g_iconst 0 17 (gd rfl) rfl rfl ?_
                      refine g_ireturn (gd rfl) rfl (nb01 (in_w 0 1 (in_c 0 rfl) rfl)) (hp37 _ _ ?_)
                      show GG _ _ _ _ _ _ _ _ [.int (Int32.ofInt 0)] _ _ _
                      refine g_if_eq 43 47 (gd rfl) rfl rfl (fun c40 => ?_) (fun c40 => ?_)
                      · skip
                        exact gg_w (by omega) (gg_f (gf_cons rfl (gf_cons rfl (gf_cons rfl (gf_cons rfl (gf_cons rfl gf_nil))))) (ct47 s  hI fr_rf ))
                      · skip
                        exact zn_ne c40 (in_c 0 rfl) rfl
                    · skip
                      have i37x1 := z_ge 0 2147483647 c37x1 (i_rng x4) rfl
                      refine g_iload_n 5 (gd rfl) rfl rfl ?_
                      refine g_aload_n 6 (gd rfl) rfl rfl ?_
                      refine g_getI 9 (gd rfl) rfl rfl rfl (fun z37x6 e37x6 => ?_)
                      have q37x6 : u_32_1 = z37x6 := (e_32_1).trans e37x6.symm
                      subst q37x6
                      refine g_cmp_ge 12 16 (gd rfl) rfl rfl (fun c37x9 => ?_) (fun c37x9 => ?_)
                      · skip
                        have i37x9 := r_le2 1 2147483647 c37x9 i9x9a i37x1 rfl
                        refine g_iconst 0 17 (gd rfl) rfl rfl ?_
                        refine g_ireturn (gd rfl) rfl (nb01 (in_w 0 1 (in_c 0 rfl) rfl)) (hp37 _ _ ?_)
                        show GG _ _ _ _ _ _ _ _ [.int (Int32.ofInt 0)] _ _ _
                        refine g_if_eq 43 47 (gd rfl) rfl rfl (fun c40 => ?_) (fun c40 => ?_)
                        · skip
                          exact gg_w (by omega) (gg_f (gf_cons rfl (gf_cons rfl (gf_cons rfl (gf_cons rfl (gf_cons rfl gf_nil))))) (ct47 s  hI fr_rf ))
                        · skip
                          exact zn_ne c40 (in_c 0 rfl) rfl
                      · skip
                        have i37x9 := r_lt1 0 31 c37x9 i37x1 i9x9a rfl
                        refine g_iconst 1 13 (gd rfl) rfl rfl ?_
                        refine g_goto 17 (gd rfl) rfl ?_
                        refine g_ireturn (gd rfl) rfl (nb01 (in_w 0 1 (in_c 1 rfl) rfl)) (hp37 _ _ ?_)
                        show GG _ _ _ _ _ _ _ _ [.int (Int32.ofInt 1)] _ _ _
                        refine g_if_eq 43 47 (gd rfl) rfl rfl (fun c40 => ?_) (fun c40 => ?_)
                        · skip
                          exact zn_eq c40 (in_c 1 rfl) rfl
                        · skip
                          refine g_iconst 1 44 (gd rfl) rfl rfl ?_
                          refine g_goto 48 (gd rfl) rfl ?_
                          refine g_thr (E := am_IA) (y := yX11_allow) 51 (gd rfl) rfl rfl (Or.inl ⟨rfl, rfl, rfl⟩) (by omega) (Nat.le_of_ble_eq_true rfl) (Nat.le_of_ble_eq_true rfl) (Nat.le_of_ble_eq_true rfl) (fun c48 => ?_) (fun c48 => ?_)
                          · skip
                            refine g_iload_n 52 (gd rfl) rfl rfl ?_
                            refine g_if_ne 55 67 (gd rfl) rfl rfl (fun c52 => ?_) (fun c52 => ?_)
                            · skip
                              have i52 := z_ne 1 2 c52 i30 rfl
                              refine g_iload_n 68 (gd rfl) rfl rfl ?_
                              refine g_iconst 1 69 (gd rfl) rfl rfl ?_
                              refine g_cmp_ne 72 87 (gd rfl) rfl rfl (fun c69 => ?_) (fun c69 => ?_)
                              · skip
                                have i69 := r_ne1 2 2 c69 i52 (in_c 1 rfl) rfl
                                refine g_aload_n 88 (gd rfl) rfl rfl ?_
                                refine g_getA (q2 := 49) 91 (gd rfl) rfl rfl rfl rfl ?_
                                refine g_aload 93 (gd rfl) rfl rfl ?_
                                refine g_iload_n 94 (gd rfl) rfl rfl ?_
                                refine g_iload_n 95 (gd rfl) rfl rfl ?_
                                refine g_iload 97 (gd rfl) rfl rfl ?_
                                refine g_callv (X := _) (As := [.ref (A 32), .int x1, .int x2, .int x4]) (r := []) (b := A 49) (q := 49) 100 (gd rfl) rfl rfl rfl rfl rfl (ww_o rfl) (Nat.le_of_ble_eq_true rfl) (Nat.zero_le _) (Nat.zero_le _) (k_203_49_32 (by omega) hI (in_w 0 31 i9x9 rfl) (in_w 0 31 i18x9 rfl) (in_w 0 31 i37x9 rfl)) (fun e u h => h) (fun v u h => ?_)
                                obtain ⟨s97, hI97, hF97, z97, rfl, rfl, i97⟩ := h
                                show GG _ _ _ _ _ _ _ _ [.int z97] _ _ _
                                exact g_ireturn (gd rfl) rfl rfl (hP _ _ ⟨s97, hI97, (fr_tr rfl fr_rf hF97), z97, rfl, rfl, in_w (-2147483648) 2147483647 i97 rfl⟩)
                              · skip
                                have i69 := r_eq1 1 1 c69 i52 (in_c 1 rfl) rfl
                                refine g_aload_n 73 (gd rfl) rfl rfl ?_
                                refine g_getA (q2 := 49) 76 (gd rfl) rfl rfl rfl rfl ?_
                                refine g_aload 78 (gd rfl) rfl rfl ?_
                                refine g_iload_n 79 (gd rfl) rfl rfl ?_
                                refine g_iload_n 80 (gd rfl) rfl rfl ?_
                                refine g_iload_n 81 (gd rfl) rfl rfl ?_
                                refine g_callv (X := _) (As := [.ref (A 32), .int x1, .int x2, .int x1]) (r := []) (b := A 49) (q := 49) 84 (gd rfl) rfl rfl rfl rfl rfl (ww_o rfl) (Nat.le_of_ble_eq_true rfl) (Nat.zero_le _) (Nat.zero_le _) (k_203_49_32 (by omega) hI (in_w 0 31 i9x9 rfl) (in_w 0 31 i18x9 rfl) (in_w 0 31 i9x9 rfl)) (fun e u h => h) (fun v u h => ?_)
                                obtain ⟨s81, hI81, hF81, z81, rfl, rfl, i81⟩ := h
                                show GG _ _ _ _ _ _ _ _ [.int z81] _ _ _
                                refine g_goto 100 (gd rfl) rfl ?_
                                exact g_ireturn (gd rfl) rfl rfl (hP _ _ ⟨s81, hI81, (fr_tr rfl fr_rf hF81), z81, rfl, rfl, in_w (-2147483648) 2147483647 i81 rfl⟩)
                            · skip
                              have i52 := z_eq 0 0 c52 i30 rfl
                              refine g_aload_n 56 (gd rfl) rfl rfl ?_
                              refine g_getA (q2 := 49) 59 (gd rfl) rfl rfl rfl rfl ?_
                              refine g_aload 61 (gd rfl) rfl rfl ?_
                              refine g_iload_n 62 (gd rfl) rfl rfl ?_
                              refine g_iload_n 63 (gd rfl) rfl rfl ?_
                              refine g_callv (X := _) (As := [.ref (A 32), .int x1, .int x2]) (r := []) (b := A 49) (q := 49) 66 (gd rfl) rfl rfl rfl rfl rfl (ww_o rfl) (Nat.le_of_ble_eq_true rfl) (mc := 0) (ms := 0) (Nat.zero_le _) (Nat.zero_le _) (P := fun v u => _) ?_ (fun e u h => h) (fun v u h => h)
                              intro po63 xx63 hp63 hx63
                              refine g_enter2 (k := 202) (N := 300) (by omega) rfl (Nat.le_of_ble_eq_true rfl) ?_
                              refine g_aload_n 1 (gd rfl) rfl rfl ?_
                              refine g_aload_n 2 (gd rfl) rfl rfl ?_
                              refine g_iload_n 3 (gd rfl) rfl rfl ?_
                              refine g_callv (X := _) (As := [.ref (A 32), .int x1]) (r := []) (b := A 49) (q := 49) 6 (gd rfl) rfl rfl rfl rfl rfl (ww_o rfl) (Nat.le_of_ble_eq_true rfl) (Nat.zero_le _) (Nat.zero_le _) (k_204_49_32 (by omega) hI (in_w 0 31 i9x9 rfl)) (fun e u h => h) (fun v u h => ?_)
                              obtain ⟨s63x3, hI63x3, hF63x3, rfl, rfl⟩ := h
                              show GG _ _ _ _ _ _ _ _ [] _ _ _
                              refine g_aload_n 7 (gd rfl) rfl rfl ?_
                              refine g_getA (q2 := 52) 10 (gd rfl) rfl rfl rfl rfl ?_
                              refine g_iload_n 11 (gd rfl) rfl rfl ?_
                              refine g_iaload 12 (gd rfl) rfl (n := 32) rfl (in_ix i18x9 rfl) (fun z63x11 e63x11 => ?_)
                              refine g_ireturn (gd rfl) rfl rfl (hp63 _ _ ?_)
                              show GG _ _ _ _ _ _ _ _ [.int z63x11] _ _ _
                              exact g_ireturn (gd rfl) rfl rfl (hP _ _ ⟨s63x3, hI63x3, (fr_tr rfl fr_rf hF63x3), z63x11, rfl, rfl, in_w (-2147483648) 2147483647 (i_rng z63x11) rfl⟩)
                          · skip
                            exact zn_eq c48 (in_c 1 rfl) rfl
  · skip
    have i1x5 := r_eq1 (-1) (-1) c1x5 ro_0_2 (in_c (-1) rfl) rfl
    refine g_aload_n 9 (gd rfl) rfl rfl ?_
    refine g_getA (q2 := 1) 12 (gd rfl) rfl rfl rfl rfl ?_
    refine g_getA (q2 := 2) 15 (gd rfl) rfl rfl rfl rfl ?_
    refine g_goto 22 (gd rfl) rfl ?_
    refine g_areturn (gd rfl) rfl (hp1 _ _ ?_)
    show GG _ _ _ _ _ _ _ _ [.ref (A 2)] _ _ _
    refine g_astore 6 (gd rfl) rfl (Nat.le_of_ble_eq_true rfl) ?_
    refine g_aload 8 (gd rfl) rfl rfl ?_
    refine g_iload_n 9 (gd rfl) rfl rfl ?_
    refine g_callv (X := _) (As := [.int x1]) (r := []) (b := A 2) (q := 2) 12 (gd rfl) rfl rfl rfl rfl rfl (ww_o rfl) (Nat.le_of_ble_eq_true rfl) (mc := 0) (ms := 0) (Nat.zero_le _) (Nat.zero_le _) (P := fun v u => _) ?_ (fun e u h => h) (fun v u h => h)
    intro po9 xx9 hp9 hx9
    refine g_enter2 (k := 94) (N := 300) (by omega) rfl (Nat.le_of_ble_eq_true rfl) ?_
    refine g_iload_n 1 (gd rfl) rfl rfl ?_
    refine g_if_lt 4 16 (gd rfl) rfl rfl (fun c9x1 => ?_) (fun c9x1 => ?_)
    · skip
      have i9x1 := z_lt (-2147483648) (-1) c9x1 (i_rng x1) rfl
      refine g_iconst 0 17 (gd rfl) rfl rfl ?_
      refine g_ireturn (gd rfl) rfl (nb01 (in_w 0 1 (in_c 0 rfl) rfl)) (hp9 _ _ ?_)
      show GG _ _ _ _ _ _ _ _ [.int (Int32.ofInt 0)] _ _ _
      refine g_if_eq 15 47 (gd rfl) rfl rfl (fun c12 => ?_) (fun c12 => ?_)
      · skip
        exact gg_w (by omega) (gg_f (gf_cons rfl (gf_cons rfl (gf_cons rfl (gf_cons rfl (gf_cons rfl gf_nil))))) (ct47 s  hI fr_rf ))
      · skip
        exact zn_ne c12 (in_c 0 rfl) rfl
    · skip
      have i9x1 := z_ge 0 2147483647 c9x1 (i_rng x1) rfl
      refine g_iload_n 5 (gd rfl) rfl rfl ?_
      refine g_aload_n 6 (gd rfl) rfl rfl ?_
      refine g_getI 9 (gd rfl) rfl rfl rfl (fun z9x6 e9x6 => ?_)
      have q9x6 : u_2_1 = z9x6 := (e_2_1).trans e9x6.symm
      subst q9x6
      refine g_cmp_ge 12 16 (gd rfl) rfl rfl (fun c9x9 => ?_) (fun c9x9 => ?_)
      · skip
        refine g_iconst 0 17 (gd rfl) rfl rfl ?_
        refine g_ireturn (gd rfl) rfl (nb01 (in_w 0 1 (in_c 0 rfl) rfl)) (hp9 _ _ ?_)
        show GG _ _ _ _ _ _ _ _ [.int (Int32.ofInt 0)] _ _ _
        refine g_if_eq 15 47 (gd rfl) rfl rfl (fun c12 => ?_) (fun c12 => ?_)
        · skip
          exact gg_w (by omega) (gg_f (gf_cons rfl (gf_cons rfl (gf_cons rfl (gf_cons rfl (gf_cons rfl gf_nil))))) (ct47 s  hI fr_rf ))
        · skip
          exact zn_ne c12 (in_c 0 rfl) rfl
      · skip
        have i9x9 := r_lt1 0 31 c9x9 i9x1 ro_2_1 rfl
        have i9x9a := r_lt2 1 32 c9x9 i9x1 ro_2_1 rfl
        refine g_iconst 1 13 (gd rfl) rfl rfl ?_
        refine g_goto 17 (gd rfl) rfl ?_
        refine g_ireturn (gd rfl) rfl (nb01 (in_w 0 1 (in_c 1 rfl) rfl)) (hp9 _ _ ?_)
        show GG _ _ _ _ _ _ _ _ [.int (Int32.ofInt 1)] _ _ _
        refine g_if_eq 15 47 (gd rfl) rfl rfl (fun c12 => ?_) (fun c12 => ?_)
        · skip
          exact zn_eq c12 (in_c 1 rfl) rfl
        · skip
          refine g_aload 17 (gd rfl) rfl rfl ?_
          refine g_iload_n 18 (gd rfl) rfl rfl ?_
          refine g_callv (X := _) (As := [.int x2]) (r := []) (b := A 2) (q := 2) 21 (gd rfl) rfl rfl rfl rfl rfl (ww_o rfl) (Nat.le_of_ble_eq_true rfl) (mc := 0) (ms := 0) (Nat.zero_le _) (Nat.zero_le _) (P := fun v u => _) ?_ (fun e u h => h) (fun v u h => h)
          intro po18 xx18 hp18 hx18
          refine g_enter2 (k := 94) (N := 300) (by omega) rfl (Nat.le_of_ble_eq_true rfl) ?_
          refine g_iload_n 1 (gd rfl) rfl rfl ?_
          refine g_if_lt 4 16 (gd rfl) rfl rfl (fun c18x1 => ?_) (fun c18x1 => ?_)
          · skip
            have i18x1 := z_lt (-2147483648) (-1) c18x1 (i_rng x2) rfl
            refine g_iconst 0 17 (gd rfl) rfl rfl ?_
            refine g_ireturn (gd rfl) rfl (nb01 (in_w 0 1 (in_c 0 rfl) rfl)) (hp18 _ _ ?_)
            show GG _ _ _ _ _ _ _ _ [.int (Int32.ofInt 0)] _ _ _
            refine g_if_eq 24 47 (gd rfl) rfl rfl (fun c21 => ?_) (fun c21 => ?_)
            · skip
              exact gg_w (by omega) (gg_f (gf_cons rfl (gf_cons rfl (gf_cons rfl (gf_cons rfl (gf_cons rfl gf_nil))))) (ct47 s  hI fr_rf ))
            · skip
              exact zn_ne c21 (in_c 0 rfl) rfl
          · skip
            have i18x1 := z_ge 0 2147483647 c18x1 (i_rng x2) rfl
            refine g_iload_n 5 (gd rfl) rfl rfl ?_
            refine g_aload_n 6 (gd rfl) rfl rfl ?_
            refine g_getI 9 (gd rfl) rfl rfl rfl (fun z18x6 e18x6 => ?_)
            have q18x6 : u_2_1 = z18x6 := (e_2_1).trans e18x6.symm
            subst q18x6
            refine g_cmp_ge 12 16 (gd rfl) rfl rfl (fun c18x9 => ?_) (fun c18x9 => ?_)
            · skip
              have i18x9 := r_le2 1 2147483647 c18x9 i9x9a i18x1 rfl
              refine g_iconst 0 17 (gd rfl) rfl rfl ?_
              refine g_ireturn (gd rfl) rfl (nb01 (in_w 0 1 (in_c 0 rfl) rfl)) (hp18 _ _ ?_)
              show GG _ _ _ _ _ _ _ _ [.int (Int32.ofInt 0)] _ _ _
              refine g_if_eq 24 47 (gd rfl) rfl rfl (fun c21 => ?_) (fun c21 => ?_)
              · skip
                exact gg_w (by omega) (gg_f (gf_cons rfl (gf_cons rfl (gf_cons rfl (gf_cons rfl (gf_cons rfl gf_nil))))) (ct47 s  hI fr_rf ))
              · skip
                exact zn_ne c21 (in_c 0 rfl) rfl
            · skip
              have i18x9 := r_lt1 0 31 c18x9 i18x1 i9x9a rfl
              refine g_iconst 1 13 (gd rfl) rfl rfl ?_
              refine g_goto 17 (gd rfl) rfl ?_
              refine g_ireturn (gd rfl) rfl (nb01 (in_w 0 1 (in_c 1 rfl) rfl)) (hp18 _ _ ?_)
              show GG _ _ _ _ _ _ _ _ [.int (Int32.ofInt 1)] _ _ _
              refine g_if_eq 24 47 (gd rfl) rfl rfl (fun c21 => ?_) (fun c21 => ?_)
              · skip
                exact zn_eq c21 (in_c 1 rfl) rfl
              · skip
                refine g_iload_n 25 (gd rfl) rfl rfl ?_
                refine g_if_lt 28 47 (gd rfl) rfl rfl (fun c25 => ?_) (fun c25 => ?_)
                · skip
                  have i25 := z_lt (-2147483648) (-1) c25 (i_rng x3) rfl
                  exact gg_w (by omega) (gg_f (gf_cons rfl (gf_cons rfl (gf_cons rfl (gf_cons rfl (gf_cons rfl gf_nil))))) (ct47 s  hI fr_rf ))
                · skip
                  have i25 := z_ge 0 2147483647 c25 (i_rng x3) rfl
                  refine g_iload_n 29 (gd rfl) rfl rfl ?_
                  refine g_iconst 2 30 (gd rfl) rfl rfl ?_
                  refine g_cmp_gt 33 47 (gd rfl) rfl rfl (fun c30 => ?_) (fun c30 => ?_)
                  · skip
                    have i30 := r_lt2 3 2147483647 c30 (in_c 2 rfl) i25 rfl
                    exact gg_w (by omega) (gg_f (gf_cons rfl (gf_cons rfl (gf_cons rfl (gf_cons rfl (gf_cons rfl gf_nil))))) (ct47 s  hI fr_rf ))
                  · skip
                    have i30 := r_le1 0 2 c30 i25 (in_c 2 rfl) rfl
                    refine g_aload 35 (gd rfl) rfl rfl ?_
                    refine g_iload 37 (gd rfl) rfl rfl ?_
                    refine g_callv (X := _) (As := [.int x4]) (r := []) (b := A 2) (q := 2) 40 (gd rfl) rfl rfl rfl rfl rfl (ww_o rfl) (Nat.le_of_ble_eq_true rfl) (mc := 0) (ms := 0) (Nat.zero_le _) (Nat.zero_le _) (P := fun v u => _) ?_ (fun e u h => h) (fun v u h => h)
                    intro po37 xx37 hp37 hx37
                    refine g_enter2 (k := 94) (N := 300) (by omega) rfl (Nat.le_of_ble_eq_true rfl) ?_
                    refine g_iload_n 1 (gd rfl) rfl rfl ?_
                    refine g_if_lt 4 16 (gd rfl) rfl rfl (fun c37x1 => ?_) (fun c37x1 => ?_)
                    · skip
                      have i37x1 := z_lt (-2147483648) (-1) c37x1 (i_rng x4) rfl
                      refine g_iconst 0 17 (gd rfl) rfl rfl ?_
                      refine g_ireturn (gd rfl) rfl (nb01 (in_w 0 1 (in_c 0 rfl) rfl)) (hp37 _ _ ?_)
                      show GG _ _ _ _ _ _ _ _ [.int (Int32.ofInt 0)] _ _ _
                      refine g_if_eq 43 47 (gd rfl) rfl rfl (fun c40 => ?_) (fun c40 => ?_)
                      · skip
                        exact gg_w (by omega) (gg_f (gf_cons rfl (gf_cons rfl (gf_cons rfl (gf_cons rfl (gf_cons rfl gf_nil))))) (ct47 s  hI fr_rf ))
                      · skip
                        exact zn_ne c40 (in_c 0 rfl) rfl
                    · skip
                      have i37x1 := z_ge 0 2147483647 c37x1 (i_rng x4) rfl
                      refine g_iload_n 5 (gd rfl) rfl rfl ?_
                      refine g_aload_n 6 (gd rfl) rfl rfl ?_
                      refine g_getI 9 (gd rfl) rfl rfl rfl (fun z37x6 e37x6 => ?_)
                      have q37x6 : u_2_1 = z37x6 := (e_2_1).trans e37x6.symm
                      subst q37x6
                      refine g_cmp_ge 12 16 (gd rfl) rfl rfl (fun c37x9 => ?_) (fun c37x9 => ?_)
                      · skip
                        have i37x9 := r_le2 1 2147483647 c37x9 i9x9a i37x1 rfl
                        refine g_iconst 0 17 (gd rfl) rfl rfl ?_
                        refine g_ireturn (gd rfl) rfl (nb01 (in_w 0 1 (in_c 0 rfl) rfl)) (hp37 _ _ ?_)
                        show GG _ _ _ _ _ _ _ _ [.int (Int32.ofInt 0)] _ _ _
                        refine g_if_eq 43 47 (gd rfl) rfl rfl (fun c40 => ?_) (fun c40 => ?_)
                        · skip
                          exact gg_w (by omega) (gg_f (gf_cons rfl (gf_cons rfl (gf_cons rfl (gf_cons rfl (gf_cons rfl gf_nil))))) (ct47 s  hI fr_rf ))
                        · skip
                          exact zn_ne c40 (in_c 0 rfl) rfl
                      · skip
                        have i37x9 := r_lt1 0 31 c37x9 i37x1 i9x9a rfl
                        refine g_iconst 1 13 (gd rfl) rfl rfl ?_
                        refine g_goto 17 (gd rfl) rfl ?_
                        refine g_ireturn (gd rfl) rfl (nb01 (in_w 0 1 (in_c 1 rfl) rfl)) (hp37 _ _ ?_)
                        show GG _ _ _ _ _ _ _ _ [.int (Int32.ofInt 1)] _ _ _
                        refine g_if_eq 43 47 (gd rfl) rfl rfl (fun c40 => ?_) (fun c40 => ?_)
                        · skip
                          exact zn_eq c40 (in_c 1 rfl) rfl
                        · skip
                          refine g_iconst 1 44 (gd rfl) rfl rfl ?_
                          refine g_goto 48 (gd rfl) rfl ?_
                          refine g_thr (E := am_IA) (y := yX11_allow) 51 (gd rfl) rfl rfl (Or.inl ⟨rfl, rfl, rfl⟩) (by omega) (Nat.le_of_ble_eq_true rfl) (Nat.le_of_ble_eq_true rfl) (Nat.le_of_ble_eq_true rfl) (fun c48 => ?_) (fun c48 => ?_)
                          · skip
                            refine g_iload_n 52 (gd rfl) rfl rfl ?_
                            refine g_if_ne 55 67 (gd rfl) rfl rfl (fun c52 => ?_) (fun c52 => ?_)
                            · skip
                              have i52 := z_ne 1 2 c52 i30 rfl
                              refine g_iload_n 68 (gd rfl) rfl rfl ?_
                              refine g_iconst 1 69 (gd rfl) rfl rfl ?_
                              refine g_cmp_ne 72 87 (gd rfl) rfl rfl (fun c69 => ?_) (fun c69 => ?_)
                              · skip
                                have i69 := r_ne1 2 2 c69 i52 (in_c 1 rfl) rfl
                                refine g_aload_n 88 (gd rfl) rfl rfl ?_
                                refine g_getA (q2 := 49) 91 (gd rfl) rfl rfl rfl rfl ?_
                                refine g_aload 93 (gd rfl) rfl rfl ?_
                                refine g_iload_n 94 (gd rfl) rfl rfl ?_
                                refine g_iload_n 95 (gd rfl) rfl rfl ?_
                                refine g_iload 97 (gd rfl) rfl rfl ?_
                                refine g_callv (X := _) (As := [.ref (A 2), .int x1, .int x2, .int x4]) (r := []) (b := A 49) (q := 49) 100 (gd rfl) rfl rfl rfl rfl rfl (ww_o rfl) (Nat.le_of_ble_eq_true rfl) (Nat.zero_le _) (Nat.zero_le _) (k_203_49_2 (by omega) hI (in_w 0 31 i9x9 rfl) (in_w 0 31 i18x9 rfl) (in_w 0 31 i37x9 rfl)) (fun e u h => h) (fun v u h => ?_)
                                obtain ⟨s97, hI97, hF97, z97, rfl, rfl, i97⟩ := h
                                show GG _ _ _ _ _ _ _ _ [.int z97] _ _ _
                                exact g_ireturn (gd rfl) rfl rfl (hP _ _ ⟨s97, hI97, (fr_tr rfl fr_rf hF97), z97, rfl, rfl, in_w (-2147483648) 2147483647 i97 rfl⟩)
                              · skip
                                have i69 := r_eq1 1 1 c69 i52 (in_c 1 rfl) rfl
                                refine g_aload_n 73 (gd rfl) rfl rfl ?_
                                refine g_getA (q2 := 49) 76 (gd rfl) rfl rfl rfl rfl ?_
                                refine g_aload 78 (gd rfl) rfl rfl ?_
                                refine g_iload_n 79 (gd rfl) rfl rfl ?_
                                refine g_iload_n 80 (gd rfl) rfl rfl ?_
                                refine g_iload_n 81 (gd rfl) rfl rfl ?_
                                refine g_callv (X := _) (As := [.ref (A 2), .int x1, .int x2, .int x1]) (r := []) (b := A 49) (q := 49) 84 (gd rfl) rfl rfl rfl rfl rfl (ww_o rfl) (Nat.le_of_ble_eq_true rfl) (Nat.zero_le _) (Nat.zero_le _) (k_203_49_2 (by omega) hI (in_w 0 31 i9x9 rfl) (in_w 0 31 i18x9 rfl) (in_w 0 31 i9x9 rfl)) (fun e u h => h) (fun v u h => ?_)
                                obtain ⟨s81, hI81, hF81, z81, rfl, rfl, i81⟩ := h
                                show GG _ _ _ _ _ _ _ _ [.int z81] _ _ _
                                refine g_goto 100 (gd rfl) rfl ?_
                                exact g_ireturn (gd rfl) rfl rfl (hP _ _ ⟨s81, hI81, (fr_tr rfl fr_rf hF81), z81, rfl, rfl, in_w (-2147483648) 2147483647 i81 rfl⟩)
                            · skip
                              have i52 := z_eq 0 0 c52 i30 rfl
                              refine g_aload_n 56 (gd rfl) rfl rfl ?_
                              refine g_getA (q2 := 49) 59 (gd rfl) rfl rfl rfl rfl ?_
                              refine g_aload 61 (gd rfl) rfl rfl ?_
                              refine g_iload_n 62 (gd rfl) rfl rfl ?_
                              refine g_iload_n 63 (gd rfl) rfl rfl ?_
                              refine g_callv (X := _) (As := [.ref (A 2), .int x1, .int x2]) (r := []) (b := A 49) (q := 49) 66 (gd rfl) rfl rfl rfl rfl rfl (ww_o rfl) (Nat.le_of_ble_eq_true rfl) (mc := 0) (ms := 0) (Nat.zero_le _) (Nat.zero_le _) (P := fun v u => _) ?_ (fun e u h => h) (fun v u h => h)
                              intro po63 xx63 hp63 hx63
                              refine g_enter2 (k := 202) (N := 300) (by omega) rfl (Nat.le_of_ble_eq_true rfl) ?_
                              refine g_aload_n 1 (gd rfl) rfl rfl ?_
                              refine g_aload_n 2 (gd rfl) rfl rfl ?_
                              refine g_iload_n 3 (gd rfl) rfl rfl ?_
                              refine g_callv (X := _) (As := [.ref (A 2), .int x1]) (r := []) (b := A 49) (q := 49) 6 (gd rfl) rfl rfl rfl rfl rfl (ww_o rfl) (Nat.le_of_ble_eq_true rfl) (Nat.zero_le _) (Nat.zero_le _) (k_204_49_2 (by omega) hI (in_w 0 31 i9x9 rfl)) (fun e u h => h) (fun v u h => ?_)
                              obtain ⟨s63x3, hI63x3, hF63x3, rfl, rfl⟩ := h
                              show GG _ _ _ _ _ _ _ _ [] _ _ _
                              refine g_aload_n 7 (gd rfl) rfl rfl ?_
                              refine g_getA (q2 := 52) 10 (gd rfl) rfl rfl rfl rfl ?_
                              refine g_iload_n 11 (gd rfl) rfl rfl ?_
                              refine g_iaload 12 (gd rfl) rfl (n := 32) rfl (in_ix i18x9 rfl) (fun z63x11 e63x11 => ?_)
                              refine g_ireturn (gd rfl) rfl rfl (hp63 _ _ ?_)
                              show GG _ _ _ _ _ _ _ _ [.int z63x11] _ _ _
                              exact g_ireturn (gd rfl) rfl rfl (hP _ _ ⟨s63x3, hI63x3, (fr_tr rfl fr_rf hF63x3), z63x11, rfl, rfl, in_w (-2147483648) 2147483647 (i_rng z63x11) rfl⟩)
                          · skip
                            exact zn_eq c48 (in_c 1 rfl) rfl

def fm_253_0 : FM := ([97], [95, 96, 98], [(46, 2), (46, 6), (46, 7)], [(94, 0), (94, 1)])
/-- GraphHouse.pattern -/
theorem k_253_0 {Z : AmZ} {A : Nat → Nat} {s : GS} {ex : va_W} {d : Nat} {X : AmX}  (hd : 7 ≤ d) (hI : Inv s)  : GC Z d 253 [.ref (A 0)] (WW Z A s ++ ex) 3 18 (fun v u => ∃ t : GS, Inv t ∧ Fr fm_253_0 s t ∧ ∃ z : Int32, v = some (.int z) ∧ u = WW Z A t ++ ex ∧ In z (-4) 0) X := by
  intro post xp hP hX
  obtain ⟨u_46_1, e_46_1⟩ : ∃ w, w = s.2.2.1 46 1 := ⟨_, rfl⟩
  have ro_46_1 := inv_F hI 0 1000 rfl e_46_1
  refine g_enter2 (k := 253) (N := 900) (by omega) rfl (Nat.le_of_ble_eq_true rfl) ?_
  refine g_aload_n 1 (gd rfl) rfl rfl ?_
  refine g_getA (q2 := 94) 4 (gd rfl) rfl rfl rfl rfl ?_
  refine g_aload_n 5 (gd rfl) rfl rfl ?_
  refine g_getA (q2 := 46) 8 (gd rfl) rfl rfl rfl rfl ?_
  refine g_callv (X := _) (As := [.ref (A 46)]) (r := []) (b := A 94) (q := 94) 11 (gd rfl) rfl rfl rfl rfl rfl (ww_o rfl) (Nat.le_of_ble_eq_true rfl) (mc := 0) (ms := 0) (Nat.zero_le _) (Nat.zero_le _) (P := fun v u => _) ?_ (fun e u h => h) (fun v u h => h)
  intro po8 xx8 hp8 hx8
  refine g_enter2 (k := 154) (N := 300) (by omega) rfl (Nat.le_of_ble_eq_true rfl) ?_
  refine g_aload_n 1 (gd rfl) rfl rfl ?_
  refine g_callv (X := _) (As := []) (r := []) (b := A 46) (q := 46) 4 (gd rfl) rfl rfl rfl rfl rfl (ww_o rfl) (Nat.le_of_ble_eq_true rfl) (mc := 0) (ms := 0) (Nat.zero_le _) (Nat.zero_le _) (P := fun v u => _) ?_ (fun e u h => h) (fun v u h => h)
  intro po8x1 xx8x1 hp8x1 hx8x1
  refine g_enter2 (k := 167) (N := 300) (by omega) rfl (Nat.le_of_ble_eq_true rfl) ?_
  refine g_aload_n 1 (gd rfl) rfl rfl ?_
  refine g_iconst 0 2 (gd rfl) rfl rfl ?_
  refine g_putI 5 (gd rfl) rfl rfl rfl rfl ?_
  have hI8x1x2 := inv_sF (q := 46) (j := 2) hI rfl (in_w 0 1000 (in_c 0 rfl) rfl)
  refine g_aload_n 6 (gd rfl) rfl rfl ?_
  refine g_iconst (-1) 7 (gd rfl) rfl rfl ?_
  refine g_putI 10 (gd rfl) rfl rfl rfl rfl ?_
  have hI8x1x7 := inv_sF (q := 46) (j := 6) hI8x1x2 rfl (in_w (-1) 5 (in_c (-1) rfl) rfl)
  refine g_aload_n 11 (gd rfl) rfl rfl ?_
  refine g_iconst (-1) 12 (gd rfl) rfl rfl ?_
  refine g_putI 15 (gd rfl) rfl rfl rfl rfl ?_
  have hI8x1x12 := inv_sF (q := 46) (j := 7) hI8x1x7 rfl (in_w (-1) 1000 (in_c (-1) rfl) rfl)
  refine g_return (gd rfl) rfl (hp8x1 _ _ ?_)
  show GG _ _ _ _ _ _ _ _ [] _ _ _
  refine g_aload_n 5 (gd rfl) rfl rfl ?_
  refine g_getI 8 (gd rfl) rfl rfl rfl (fun z8x5 e8x5 => ?_)
  have q8x5 : u_46_1 = z8x5 := (sF_ne rfl (sF_ne rfl (sF_ne rfl (e_46_1)))).trans e8x5.symm
  subst q8x5
  refine g_bipush 60 10 (gd rfl) rfl rfl ?_
  refine g_cmp_le 13 21 (gd rfl) rfl rfl (fun c8x10 => ?_) (fun c8x10 => ?_)
  · skip
    have i8x10 := r_le1 0 60 c8x10 ro_46_1 (in_c 60 rfl) rfl
    refine g_aload_n 22 (gd rfl) rfl rfl ?_
    refine g_calls (As := [.ref (A 46)]) (r := []) 25 (gd rfl) rfl rfl rfl rfl rfl (Nat.le_of_ble_eq_true rfl) (Nat.zero_le _) (Nat.zero_le _) (k_155_46 (by omega) hI8x1x12 ) (fun v u h => ?_)
    obtain ⟨s8x22, hI8x22, hF8x22, z8x22, rfl, rfl, i8x22⟩ := h
    show GG _ _ _ _ _ _ _ _ [.int z8x22] _ _ _
    refine g_if_ne 28 30 (gd rfl) rfl rfl (fun c8x25 => ?_) (fun c8x25 => ?_)
    · skip
      have i8x25 := z_ne 1 1 c8x25 i8x22 rfl
      refine g_aload_n 31 (gd rfl) rfl rfl ?_
      refine g_aload_n 32 (gd rfl) rfl rfl ?_
      have v8x32 : u_46_1 = s8x22.2.2.1 46 1 := fr_F (s := (sF (sF (sF s 46 2 (Int32.ofInt 0)) 46 6 (Int32.ofInt (-1))) 46 7 (Int32.ofInt (-1)))) (sF_ne rfl (sF_ne rfl (sF_ne rfl (e_46_1)))) hF8x22 rfl
      refine g_callv (X := _) (As := [.ref (A 46)]) (r := []) (b := A 94) (q := 94) 35 (gd rfl) rfl rfl rfl rfl rfl (ww_o rfl) (Nat.le_of_ble_eq_true rfl) (Nat.zero_le _) (Nat.zero_le _) (k_158_94_46 (by omega) hI8x22 v8x32 (in_w 0 60 i8x10 rfl)) (fun e u h => h) (fun v u h => ?_)
      obtain ⟨s8x32, hI8x32, hF8x32, rfl, rfl⟩ := h
      show GG _ _ _ _ _ _ _ _ [] _ _ _
      refine g_iconst 1 36 (gd rfl) rfl rfl ?_
      refine g_ireturn (gd rfl) rfl (nb01 (in_w 0 1 (in_c 1 rfl) rfl)) (hp8 _ _ ?_)
      show GG _ _ _ _ _ _ _ _ [.int (Int32.ofInt 1)] _ _ _
      refine g_if_eq 14 18 (gd rfl) rfl rfl (fun c11 => ?_) (fun c11 => ?_)
      · skip
        exact zn_eq c11 (in_c 1 rfl) rfl
      · skip
        refine g_iconst 0 15 (gd rfl) rfl rfl ?_
        refine g_goto 20 (gd rfl) rfl ?_
        exact g_ireturn (gd rfl) rfl rfl (hP _ _ ⟨s8x32, hI8x32, (fr_tr rfl (fr_tr rfl (fr_sF rfl (fr_sF rfl (fr_sF rfl fr_rf))) hF8x22) hF8x32), (Int32.ofInt 0), rfl, rfl, in_w (-4) 0 (in_c 0 rfl) rfl⟩)
    · skip
      have i8x25 := z_eq 0 0 c8x25 i8x22 rfl
      refine g_iconst 0 29 (gd rfl) rfl rfl ?_
      refine g_ireturn (gd rfl) rfl (nb01 (in_w 0 1 (in_c 0 rfl) rfl)) (hp8 _ _ ?_)
      show GG _ _ _ _ _ _ _ _ [.int (Int32.ofInt 0)] _ _ _
      refine g_if_eq 14 18 (gd rfl) rfl rfl (fun c11 => ?_) (fun c11 => ?_)
      · skip
        refine g_bipush (-4) 20 (gd rfl) rfl rfl ?_
        exact g_ireturn (gd rfl) rfl rfl (hP _ _ ⟨s8x22, hI8x22, (fr_tr rfl (fr_sF rfl (fr_sF rfl (fr_sF rfl fr_rf))) hF8x22), (Int32.ofInt (-4)), rfl, rfl, in_w (-4) 0 (in_c (-4) rfl) rfl⟩)
      · skip
        exact zn_ne c11 (in_c 0 rfl) rfl
  · skip
    have i8x10 := r_lt2 61 1000 c8x10 (in_c 60 rfl) ro_46_1 rfl
    refine g_aload_n 14 (gd rfl) rfl rfl ?_
    refine g_iconst 2 15 (gd rfl) rfl rfl ?_
    refine g_bipush 60 17 (gd rfl) rfl rfl ?_
    refine g_callv (X := _) (As := [.int (Int32.ofInt 2), .int (Int32.ofInt 60)]) (r := []) (b := A 46) (q := 46) 20 (gd rfl) rfl rfl rfl rfl rfl (ww_o rfl) (Nat.le_of_ble_eq_true rfl) (Nat.zero_le _) (Nat.zero_le _) (k_168_46 (by omega) hI8x1x12 (in_w 1 5 (in_c 2 rfl) rfl) (in_w 0 1000 (in_c 60 rfl) rfl)) (fun e u h => h) (fun v u h => ?_)
    obtain ⟨s8x17, hI8x17, hF8x17, z8x17, rfl, rfl, i8x17⟩ := h
    show GG _ _ _ _ _ _ _ _ [.int z8x17] _ _ _
    refine g_ireturn (gd rfl) rfl (nb01 (in_w 0 1 i8x17 rfl)) (hp8 _ _ ?_)
    show GG _ _ _ _ _ _ _ _ [.int z8x17] _ _ _
    refine g_if_eq 14 18 (gd rfl) rfl rfl (fun c11 => ?_) (fun c11 => ?_)
    · skip
      refine g_bipush (-4) 20 (gd rfl) rfl rfl ?_
      exact g_ireturn (gd rfl) rfl rfl (hP _ _ ⟨s8x17, hI8x17, (fr_tr rfl (fr_sF rfl (fr_sF rfl (fr_sF rfl fr_rf))) hF8x17), (Int32.ofInt (-4)), rfl, rfl, in_w (-4) 0 (in_c (-4) rfl) rfl⟩)
    · skip
      exact zn_ne c11 i8x17 rfl

def fm_274 : FM := ([110, 111, 112, 113, 114, 115, 116, 117, 118, 119, 120, 121, 122, 123, 124], [], [(109, 9), (109, 18), (109, 19), (109, 20)], [])
/-- GraphHouseModel.make -/
theorem k_274 {Z : AmZ} {A : Nat → Nat} {s : GS} {ex : va_W} {d : Nat} {X : AmX} {x1 : Int32} {x2 : Int32} {x3 : Int32} {x4 : Int32} {x5 : Int32} {x6 : Int32} {x7 : Int32} {u_109_9 : Int32} (hd : 2 ≤ d) (hI : Inv s) (h1 : In x1 0 4) (h2 : In x2 0 159) (h3 : In x3 0 31) (h4 : In x4 (-1000000) 1000000) (h5 : In x5 (-1000000) 1000000) (h6 : In x6 0 1000000) (h7 : In x7 0 25) (e_109_9 : u_109_9 = s.2.2.1 109 9) (r_109_9 : In u_109_9 0 3999) (q_0 : MK s x1 x2 x3 x4) : GC Z d 274 [.ref (A 109), .int x1, .int x2, .int x3, .int x4, .int x5, .int x6, .int x7] (WW Z A s ++ ex) 0 0 (fun v u => ∃ t : GS, Inv t ∧ Fr fm_274 s t ∧ ((t.2.2.1 109 9).toInt = (s.2.2.1 109 9).toInt + 1) ∧ v = none ∧ u = WW Z A t ++ ex ∧ (PMK s t (x1).toInt (x2).toNatClampNeg)) X := by
  intro post xp hP hX
  refine g_enter2 (k := 274) (N := 900) (by omega) rfl (Nat.le_of_ble_eq_true rfl) ?_
  refine g_aload_n 1 (gd rfl) rfl rfl ?_
  refine g_getA (q2 := 118) 4 (gd rfl) rfl rfl rfl rfl ?_
  refine g_aload_n 5 (gd rfl) rfl rfl ?_
  refine g_getI 8 (gd rfl) rfl rfl rfl (fun z5 e5 => ?_)
  have q5 : u_109_9 = z5 := (e_109_9).trans e5.symm
  subst q5
  refine g_iload_n 9 (gd rfl) rfl rfl ?_
  refine g_iastore 10 (gd rfl) rfl (n := 4000) rfl (in_ix r_109_9 rfl) ?_
  have hI9 := rng_sI (q := 118) (j := u_109_9.toNatClampNeg) hI.1 rfl (in_w 0 4 h1 rfl)
  refine g_aload_n 11 (gd rfl) rfl rfl ?_
  refine g_getA (q2 := 119) 14 (gd rfl) rfl rfl rfl rfl ?_
  refine g_aload_n 15 (gd rfl) rfl rfl ?_
  refine g_getI 18 (gd rfl) rfl rfl rfl (fun z15 e15 => ?_)
  have q15 : u_109_9 = z15 := (sI_F (e_109_9)).trans e15.symm
  subst q15
  refine g_iload_n 19 (gd rfl) rfl rfl ?_
  refine g_iastore 20 (gd rfl) rfl (n := 4000) rfl (in_ix r_109_9 rfl) ?_
  have hI19 := rng_sI (q := 119) (j := u_109_9.toNatClampNeg) hI9 rfl (in_w 0 159 h2 rfl)
  refine g_aload_n 21 (gd rfl) rfl rfl ?_
  refine g_getA (q2 := 120) 24 (gd rfl) rfl rfl rfl rfl ?_
  refine g_aload_n 25 (gd rfl) rfl rfl ?_
  refine g_getI 28 (gd rfl) rfl rfl rfl (fun z25 e25 => ?_)
  have q25 : u_109_9 = z25 := (sI_F (sI_F (e_109_9))).trans e25.symm
  subst q25
  refine g_iload_n 29 (gd rfl) rfl rfl ?_
  refine g_iastore 30 (gd rfl) rfl (n := 4000) rfl (in_ix r_109_9 rfl) ?_
  have hI29 := rng_sI (q := 120) (j := u_109_9.toNatClampNeg) hI19 rfl (in_w 0 31 h3 rfl)
  refine g_aload_n 31 (gd rfl) rfl rfl ?_
  refine g_getA (q2 := 121) 34 (gd rfl) rfl rfl rfl rfl ?_
  refine g_aload_n 35 (gd rfl) rfl rfl ?_
  refine g_getI 38 (gd rfl) rfl rfl rfl (fun z35 e35 => ?_)
  have q35 : u_109_9 = z35 := (sI_F (sI_F (sI_F (e_109_9)))).trans e35.symm
  subst q35
  refine g_iload 40 (gd rfl) rfl rfl ?_
  refine g_iastore 41 (gd rfl) rfl (n := 4000) rfl (in_ix r_109_9 rfl) ?_
  have hI40 := rng_sI (q := 121) (j := u_109_9.toNatClampNeg) hI29 rfl (in_w (-1000000) 1000000 h4 rfl)
  refine g_aload_n 42 (gd rfl) rfl rfl ?_
  refine g_getA (q2 := 122) 45 (gd rfl) rfl rfl rfl rfl ?_
  refine g_aload_n 46 (gd rfl) rfl rfl ?_
  refine g_getI 49 (gd rfl) rfl rfl rfl (fun z46 e46 => ?_)
  have q46 : u_109_9 = z46 := (sI_F (sI_F (sI_F (sI_F (e_109_9))))).trans e46.symm
  subst q46
  refine g_iload 51 (gd rfl) rfl rfl ?_
  refine g_iastore 52 (gd rfl) rfl (n := 4000) rfl (in_ix r_109_9 rfl) ?_
  have hI51 := rng_sI (q := 122) (j := u_109_9.toNatClampNeg) hI40 rfl (in_w (-1000000) 1000000 h5 rfl)
  refine g_aload_n 53 (gd rfl) rfl rfl ?_
  refine g_getA (q2 := 123) 56 (gd rfl) rfl rfl rfl rfl ?_
  refine g_aload_n 57 (gd rfl) rfl rfl ?_
  refine g_getI 60 (gd rfl) rfl rfl rfl (fun z57 e57 => ?_)
  have q57 : u_109_9 = z57 := (sI_F (sI_F (sI_F (sI_F (sI_F (e_109_9)))))).trans e57.symm
  subst q57
  refine g_iload 62 (gd rfl) rfl rfl ?_
  refine g_iastore 63 (gd rfl) rfl (n := 4000) rfl (in_ix r_109_9 rfl) ?_
  have hI62 := rng_sI (q := 123) (j := u_109_9.toNatClampNeg) hI51 rfl (in_w 0 1000000 h6 rfl)
  refine g_aload_n 64 (gd rfl) rfl rfl ?_
  refine g_getA (q2 := 124) 67 (gd rfl) rfl rfl rfl rfl ?_
  refine g_aload_n 68 (gd rfl) rfl rfl ?_
  refine g_getI 71 (gd rfl) rfl rfl rfl (fun z68 e68 => ?_)
  have q68 : u_109_9 = z68 := (sI_F (sI_F (sI_F (sI_F (sI_F (sI_F (e_109_9))))))).trans e68.symm
  subst q68
  refine g_iload 73 (gd rfl) rfl rfl ?_
  refine g_iastore 74 (gd rfl) rfl (n := 4000) rfl (in_ix r_109_9 rfl) ?_
  have hI73 := rng_sI (q := 124) (j := u_109_9.toNatClampNeg) hI62 rfl (in_w 0 25 h7 rfl)
  refine g_aload_n 75 (gd rfl) rfl rfl ?_
  refine g_aload_n 76 (gd rfl) rfl rfl ?_
  refine g_getI 79 (gd rfl) rfl rfl rfl (fun z76 e76 => ?_)
  have q76 : u_109_9 = z76 := (sI_F (sI_F (sI_F (sI_F (sI_F (sI_F (sI_F (e_109_9)))))))).trans e76.symm
  subst q76
  refine g_iconst 0 80 (gd rfl) rfl rfl ?_
  have p80 : AQ (sI (sI (sI (sI (sI (sI (sI s 118 u_109_9.toNatClampNeg x1) 119 u_109_9.toNatClampNeg x2) 120 u_109_9.toNatClampNeg x3) 121 u_109_9.toNatClampNeg x4) 122 u_109_9.toNatClampNeg x5) 123 u_109_9.toNatClampNeg x6) 124 u_109_9.toNatClampNeg x7) (u_109_9).toNatClampNeg ((Int32.ofInt 0)).toNatClampNeg := by exact mk_aq hI q_0 e_109_9 rfl rfl rfl rfl rfl
  refine g_callv (X := _) (As := [.int u_109_9, .int (Int32.ofInt 0)]) (r := []) (b := A 109) (q := 109) 83 (gd rfl) rfl rfl rfl rfl rfl (ww_o rfl) (Nat.le_of_ble_eq_true rfl) (Nat.zero_le _) (Nat.zero_le _) (k_275 (by omega) hI73 (in_w 0 3999 r_109_9 rfl) (in_w 0 1 (in_c 0 rfl) rfl) p80) (fun e u h => h) (fun v u h => ?_)
  obtain ⟨s80, hI80, hF80, rfl, rfl, p80a, p80b⟩ := h
  show GG _ _ _ _ _ _ _ _ [] _ _ _
  refine g_aload_n 84 (gd rfl) rfl rfl ?_
  refine g_dup 85 (gd rfl) rfl rfl ?_
  refine g_getI 88 (gd rfl) rfl rfl rfl (fun z85 e85 => ?_)
  have q85 : u_109_9 = z85 := (fr_F (s := (sI (sI (sI (sI (sI (sI (sI s 118 u_109_9.toNatClampNeg x1) 119 u_109_9.toNatClampNeg x2) 120 u_109_9.toNatClampNeg x3) 121 u_109_9.toNatClampNeg x4) 122 u_109_9.toNatClampNeg x5) 123 u_109_9.toNatClampNeg x6) 124 u_109_9.toNatClampNeg x7)) (sI_F (sI_F (sI_F (sI_F (sI_F (sI_F (sI_F (e_109_9)))))))) hF80 rfl).trans e85.symm
  subst q85
  refine g_iconst 1 89 (gd rfl) rfl rfl ?_
  refine g_iadd 90 (gd rfl) rfl (fun z89 e89 => ?_)
  have i89 := in_add 1 4000 e89 r_109_9 (in_c 1 rfl) rfl rfl
  refine g_putI 93 (gd rfl) rfl rfl rfl rfl ?_
  have hI90 := rng_sF (q := 109) (j := 9) hI80 rfl (in_w 0 4000 i89 rfl)
  refine g_aload_n 94 (gd rfl) rfl rfl ?_
  have p94 : In ((sF s80 109 9 z89).1 110 0) 0 32 ∧ In ((sF s80 109 9 z89).1 110 1) 0 32 := by exact mk_nn hI p80 p80a rfl
  refine g_callv (X := _) (As := []) (r := []) (b := A 109) (q := 109) 97 (gd rfl) rfl rfl rfl rfl rfl (ww_o rfl) (Nat.le_of_ble_eq_true rfl) (Nat.zero_le _) (Nat.zero_le _) (k_276 (by omega) hI90 p94) (fun e u h => h) (fun v u h => ?_)
  obtain ⟨s94, hI94, hF94, rfl, rfl, p94a⟩ := h
  show GG _ _ _ _ _ _ _ _ [] _ _ _
  have hI97 : Inv s94 := by have hFF : Fr fm_274 s s94 := (fr_tr rfl (fr_sF rfl (fr_tr rfl (fr_sI rfl (fr_sI rfl (fr_sI rfl (fr_sI rfl (fr_sI rfl (fr_sI rfl (fr_sI rfl fr_rf))))))) hF80)) hF94); exact ⟨hI94, kk_g hI.2.1 hFF rfl rfl rfl rfl rfl, kk_g hI.2.2.1 hFF rfl rfl rfl rfl rfl, kk_s hI.2.2.2.1 hFF rfl, mk_kr hI e_109_9 r_109_9 p80 rfl rfl rfl rfl rfl rfl rfl rfl p80a (hF80.1 118 rfl) (hF80.1 119 rfl) (hF80.1 120 rfl) (hF80.1 121 rfl) (funext fun q => hF94.1 q rfl) (fr_F (s := sF s80 109 9 z89) sF_get hF94 rfl) (t_add e89 r_109_9 (in_c 1 rfl) rfl) p94a⟩
  have n97 : PMK s s94 (x1).toInt (x2).toNatClampNeg := by exact pmk_i p80 p80a p80b rfl rfl rfl rfl (funext fun q => hF94.1 q rfl)
  have n97a : (z89).toInt = (u_109_9).toInt + 1 := by have a0 := r_109_9; unfold In at a0; have a1 := h7; unfold In at a1; have a2 := h6; unfold In at a2; have a3 := h5; unfold In at a3; have a4 := h4; unfold In at a4; have a5 := h3; unfold In at a5; have a6 := h2; unfold In at a6; have a7 := h1; unfold In at a7; have a8 := i89; unfold In at a8; have a9 := t_add e89 r_109_9 (in_c 1 rfl) rfl; have a10 := (in_c 1 rfl); unfold In at a10; omega
  have n97b : (s94.2.2.1 109 9).toInt = (s.2.2.1 109 9).toInt + 1 := by have b0 : z89 = s94.2.2.1 109 9 := fr_F (s := (sF s80 109 9 z89)) (sF_get) hF94 rfl; first | (rw [← b0, ← e_109_9]; exact n97a) | (rw [← b0]; exact n97a)
  exact g_return (gd rfl) rfl (hP _ _ ⟨s94, hI97, (fr_tr rfl (fr_sF rfl (fr_tr rfl (fr_sI rfl (fr_sI rfl (fr_sI rfl (fr_sI rfl (fr_sI rfl (fr_sI rfl (fr_sI rfl fr_rf))))))) hF80)) hF94), n97b, rfl, rfl, n97⟩)

def fm_281 : FM := ([110, 111, 112, 113, 114, 115, 116, 117, 118, 119, 120, 121, 122, 123, 124], [], [(109, 0), (109, 9), (109, 18), (109, 19), (109, 20)], [])
/-- GraphHouseModel.node -/
theorem k_281 {Z : AmZ} {A : Nat → Nat} {s : GS} {ex : va_W} {d : Nat} {X : AmX} {x1 : Int32} (hd : 3 ≤ d) (hI : Inv s)  : GC Z d 281 [.ref (A 109), .int x1] (WW Z A s ++ ex) 0 0 (fun v u => ∃ t : GS, Inv t ∧ Fr fm_281 s t ∧ ∃ z : Int32, v = some (.int z) ∧ u = WW Z A t ++ ex ∧ In z (-1) 31) X := by
  intro post xp hP hX
  refine g_enter2 (k := 281) (N := 900) (by omega) rfl (Nat.le_of_ble_eq_true rfl) ?_
  refine g_aload_n 1 (gd rfl) rfl rfl ?_
  refine g_iload_n 2 (gd rfl) rfl rfl ?_
  refine g_i2l 3 (gd rfl) rfl (fun z2 e2 => ?_)
  have i2 := l_i e2 (i_rng x1)
  refine g_lconst 0 4 (gd rfl) rfl rfl ?_
  refine g_ldc2_w 25 7 (gd rfl) rfl rfl ?_
  refine g_calls (As := [.long z2, .long (Int64.ofInt 0), .long (Int64.ofInt 25)]) (r := [.ref (A 109)]) 10 (gd rfl) rfl rfl rfl rfl rfl (Nat.le_of_ble_eq_true rfl) (mc := 0) (ms := 0) (Nat.zero_le _) (Nat.zero_le _) (P := fun v u => _) ?_ (fun v u h => h)
  intro po7 xx7 hp7 hx7
  refine g_enter2 (k := 269) (N := 300) (by omega) rfl (Nat.le_of_ble_eq_true rfl) ?_
  refine g_lload_n 1 (gd rfl) rfl rfl ?_
  refine g_lload_n 2 (gd rfl) rfl rfl ?_
  refine g_lcmp 3 (gd rfl) rfl (fun z7x2 e7x2 => ?_)
  have i7x2 := lc_in e7x2
  refine g_if_lt 6 17 (gd rfl) rfl rfl (fun c7x3 => ?_) (fun c7x3 => ?_)
  · skip
    have i7x3 := z_lt (-1) (-1) c7x3 i7x2 rfl
    have c7x3a := lc_lt e7x2 c7x3
    have i7x3a := lr_lt1 (-2147483648) (-1) c7x3a i2 (l_c 0 rfl) rfl
    have i7x3b := l_b e2 i7x3a
    refine g_iconst 0 18 (gd rfl) rfl rfl ?_
    refine g_ireturn (gd rfl) rfl (nb01 (in_w 0 1 (in_c 0 rfl) rfl)) (hp7 _ _ ?_)
    show GG _ _ _ _ _ _ _ _ [.int (Int32.ofInt 0), .ref (A 109)] _ _ _
    refine g_aload_n 11 (gd rfl) rfl rfl ?_
    refine g_getA (q2 := 110) 14 (gd rfl) rfl rfl rfl rfl ?_
    refine g_iconst 0 15 (gd rfl) rfl rfl ?_
    refine g_iaload 16 (gd rfl) rfl (n := 3) rfl (in_ix (in_c 0 rfl) rfl) (fun z15 e15 => ?_)
    have i15 := nn_01 hI (in_c 0 rfl) rfl e15
    refine g_bipush 32 18 (gd rfl) rfl rfl ?_
    refine g_cmp_ge 21 35 (gd rfl) rfl rfl (fun c18 => ?_) (fun c18 => ?_)
    · skip
      have i18 := r_le2 32 32 c18 (in_c 32 rfl) i15 rfl
      refine g_iconst 0 36 (gd rfl) rfl rfl ?_
      refine g_callv (X := _) (As := [.int (Int32.ofInt 0), .int (Int32.ofInt 0)]) (r := []) (b := A 109) (q := 109) 39 (gd rfl) rfl rfl rfl rfl rfl (ww_o rfl) (Nat.le_of_ble_eq_true rfl) (mc := 0) (ms := 0) (Nat.zero_le _) (Nat.zero_le _) (P := fun v u => _) ?_ (fun e u h => h) (fun v u h => h)
      intro po36 xx36 hp36 hx36
      refine g_enter2 (k := 270) (N := 300) (by omega) rfl (Nat.le_of_ble_eq_true rfl) ?_
      refine g_aload_n 1 (gd rfl) rfl rfl ?_
      refine g_iload_n 2 (gd rfl) rfl rfl ?_
      refine g_if_ne 5 9 (gd rfl) rfl rfl (fun c36x2 => ?_) (fun c36x2 => ?_)
      · skip
        exact zn_ne c36x2 (in_c 0 rfl) rfl
      · skip
        refine g_iconst 1 6 (gd rfl) rfl rfl ?_
        refine g_goto 18 (gd rfl) rfl ?_
        refine g_putI 21 (gd rfl) rfl rfl rfl rfl ?_
        have hI36x18 := inv_sF (q := 109) (j := 0) hI rfl (in_w 0 2 (in_c 1 rfl) rfl)
        refine g_aload_n 22 (gd rfl) rfl rfl ?_
        refine g_getI 25 (gd rfl) rfl rfl rfl (fun z36x22 e36x22 => ?_)
        have q36x22 : (Int32.ofInt 1) = z36x22 := (sF_get).trans e36x22.symm
        subst q36x22
        refine g_if_le 28 32 (gd rfl) rfl rfl (fun c36x25 => ?_) (fun c36x25 => ?_)
        · skip
          exact zn_le c36x25 (in_c 1 rfl) rfl
        · skip
          refine g_iconst 1 29 (gd rfl) rfl rfl ?_
          refine g_goto 33 (gd rfl) rfl ?_
          refine g_ireturn (gd rfl) rfl (nb01 (in_w 0 1 (in_c 1 rfl) rfl)) (hp36 _ _ ?_)
          show GG _ _ _ _ _ _ _ _ [.int (Int32.ofInt 1)] _ _ _
          refine g_if_eq 42 44 (gd rfl) rfl rfl (fun c39 => ?_) (fun c39 => ?_)
          · skip
            exact zn_eq c39 (in_c 1 rfl) rfl
          · skip
            refine g_iconst 0 43 (gd rfl) rfl rfl ?_
            exact g_ireturn (gd rfl) rfl rfl (hP _ _ ⟨(sF s 109 0 (Int32.ofInt 1)), hI36x18, (fr_sF rfl fr_rf), (Int32.ofInt 0), rfl, rfl, in_w (-1) 31 (in_c 0 rfl) rfl⟩)
    · skip
      have i18 := r_lt1 0 31 c18 i15 (in_c 32 rfl) rfl
      refine g_aload_n 22 (gd rfl) rfl rfl ?_
      refine g_getI 25 (gd rfl) rfl rfl rfl (fun z22 e22 => ?_)
      have i22 := inv_F hI 0 4000 rfl e22
      refine g_sipush 4000 28 (gd rfl) rfl rfl ?_
      refine g_cmp_ge 31 35 (gd rfl) rfl rfl (fun c28 => ?_) (fun c28 => ?_)
      · skip
        have i28 := r_le2 4000 4000 c28 (in_c 4000 rfl) i22 rfl
        refine g_iconst 0 36 (gd rfl) rfl rfl ?_
        refine g_callv (X := _) (As := [.int (Int32.ofInt 0), .int (Int32.ofInt 0)]) (r := []) (b := A 109) (q := 109) 39 (gd rfl) rfl rfl rfl rfl rfl (ww_o rfl) (Nat.le_of_ble_eq_true rfl) (mc := 0) (ms := 0) (Nat.zero_le _) (Nat.zero_le _) (P := fun v u => _) ?_ (fun e u h => h) (fun v u h => h)
        intro po36 xx36 hp36 hx36
        refine g_enter2 (k := 270) (N := 300) (by omega) rfl (Nat.le_of_ble_eq_true rfl) ?_
        refine g_aload_n 1 (gd rfl) rfl rfl ?_
        refine g_iload_n 2 (gd rfl) rfl rfl ?_
        refine g_if_ne 5 9 (gd rfl) rfl rfl (fun c36x2 => ?_) (fun c36x2 => ?_)
        · skip
          exact zn_ne c36x2 (in_c 0 rfl) rfl
        · skip
          refine g_iconst 1 6 (gd rfl) rfl rfl ?_
          refine g_goto 18 (gd rfl) rfl ?_
          refine g_putI 21 (gd rfl) rfl rfl rfl rfl ?_
          have hI36x18 := inv_sF (q := 109) (j := 0) hI rfl (in_w 0 2 (in_c 1 rfl) rfl)
          refine g_aload_n 22 (gd rfl) rfl rfl ?_
          refine g_getI 25 (gd rfl) rfl rfl rfl (fun z36x22 e36x22 => ?_)
          have q36x22 : (Int32.ofInt 1) = z36x22 := (sF_get).trans e36x22.symm
          subst q36x22
          refine g_if_le 28 32 (gd rfl) rfl rfl (fun c36x25 => ?_) (fun c36x25 => ?_)
          · skip
            exact zn_le c36x25 (in_c 1 rfl) rfl
          · skip
            refine g_iconst 1 29 (gd rfl) rfl rfl ?_
            refine g_goto 33 (gd rfl) rfl ?_
            refine g_ireturn (gd rfl) rfl (nb01 (in_w 0 1 (in_c 1 rfl) rfl)) (hp36 _ _ ?_)
            show GG _ _ _ _ _ _ _ _ [.int (Int32.ofInt 1)] _ _ _
            refine g_if_eq 42 44 (gd rfl) rfl rfl (fun c39 => ?_) (fun c39 => ?_)
            · skip
              exact zn_eq c39 (in_c 1 rfl) rfl
            · skip
              refine g_iconst 0 43 (gd rfl) rfl rfl ?_
              exact g_ireturn (gd rfl) rfl rfl (hP _ _ ⟨(sF s 109 0 (Int32.ofInt 1)), hI36x18, (fr_sF rfl fr_rf), (Int32.ofInt 0), rfl, rfl, in_w (-1) 31 (in_c 0 rfl) rfl⟩)
      · skip
        have i28 := r_lt1 0 3999 c28 i22 (in_c 4000 rfl) rfl
        refine g_iconst 1 32 (gd rfl) rfl rfl ?_
        refine g_goto 36 (gd rfl) rfl ?_
        refine g_callv (X := _) (As := [.int (Int32.ofInt 0), .int (Int32.ofInt 1)]) (r := []) (b := A 109) (q := 109) 39 (gd rfl) rfl rfl rfl rfl rfl (ww_o rfl) (Nat.le_of_ble_eq_true rfl) (mc := 0) (ms := 0) (Nat.zero_le _) (Nat.zero_le _) (P := fun v u => _) ?_ (fun e u h => h) (fun v u h => h)
        intro po36 xx36 hp36 hx36
        refine g_enter2 (k := 270) (N := 300) (by omega) rfl (Nat.le_of_ble_eq_true rfl) ?_
        refine g_aload_n 1 (gd rfl) rfl rfl ?_
        refine g_iload_n 2 (gd rfl) rfl rfl ?_
        refine g_if_ne 5 9 (gd rfl) rfl rfl (fun c36x2 => ?_) (fun c36x2 => ?_)
        · skip
          exact zn_ne c36x2 (in_c 0 rfl) rfl
        · skip
          refine g_iconst 1 6 (gd rfl) rfl rfl ?_
          refine g_goto 18 (gd rfl) rfl ?_
          refine g_putI 21 (gd rfl) rfl rfl rfl rfl ?_
          have hI36x18 := inv_sF (q := 109) (j := 0) hI rfl (in_w 0 2 (in_c 1 rfl) rfl)
          refine g_aload_n 22 (gd rfl) rfl rfl ?_
          refine g_getI 25 (gd rfl) rfl rfl rfl (fun z36x22 e36x22 => ?_)
          have q36x22 : (Int32.ofInt 1) = z36x22 := (sF_get).trans e36x22.symm
          subst q36x22
          refine g_if_le 28 32 (gd rfl) rfl rfl (fun c36x25 => ?_) (fun c36x25 => ?_)
          · skip
            exact zn_le c36x25 (in_c 1 rfl) rfl
          · skip
            refine g_iconst 1 29 (gd rfl) rfl rfl ?_
            refine g_goto 33 (gd rfl) rfl ?_
            refine g_ireturn (gd rfl) rfl (nb01 (in_w 0 1 (in_c 1 rfl) rfl)) (hp36 _ _ ?_)
            show GG _ _ _ _ _ _ _ _ [.int (Int32.ofInt 1)] _ _ _
            refine g_if_eq 42 44 (gd rfl) rfl rfl (fun c39 => ?_) (fun c39 => ?_)
            · skip
              exact zn_eq c39 (in_c 1 rfl) rfl
            · skip
              refine g_iconst 0 43 (gd rfl) rfl rfl ?_
              exact g_ireturn (gd rfl) rfl rfl (hP _ _ ⟨(sF s 109 0 (Int32.ofInt 1)), hI36x18, (fr_sF rfl fr_rf), (Int32.ofInt 0), rfl, rfl, in_w (-1) 31 (in_c 0 rfl) rfl⟩)
  · skip
    have i7x3 := z_ge 0 1 c7x3 i7x2 rfl
    have c7x3a := lc_ge e7x2 c7x3
    have i7x3a := lr_le2 0 2147483647 c7x3a (l_c 0 rfl) i2 rfl
    have i7x3b := l_b e2 i7x3a
    refine g_lload_n 7 (gd rfl) rfl rfl ?_
    refine g_lload 9 (gd rfl) rfl rfl ?_
    refine g_lcmp 10 (gd rfl) rfl (fun z7x9 e7x9 => ?_)
    have i7x9 := lc_in e7x9
    refine g_if_gt 13 17 (gd rfl) rfl rfl (fun c7x10 => ?_) (fun c7x10 => ?_)
    · skip
      have i7x10 := z_gt 1 1 c7x10 i7x9 rfl
      have c7x10a := lc_gt e7x9 c7x10
      have i7x10a := lr_lt2 26 2147483647 c7x10a (l_c 25 rfl) i7x3a rfl
      have i7x10b := l_b e2 i7x10a
      refine g_iconst 0 18 (gd rfl) rfl rfl ?_
      refine g_ireturn (gd rfl) rfl (nb01 (in_w 0 1 (in_c 0 rfl) rfl)) (hp7 _ _ ?_)
      show GG _ _ _ _ _ _ _ _ [.int (Int32.ofInt 0), .ref (A 109)] _ _ _
      refine g_aload_n 11 (gd rfl) rfl rfl ?_
      refine g_getA (q2 := 110) 14 (gd rfl) rfl rfl rfl rfl ?_
      refine g_iconst 0 15 (gd rfl) rfl rfl ?_
      refine g_iaload 16 (gd rfl) rfl (n := 3) rfl (in_ix (in_c 0 rfl) rfl) (fun z15 e15 => ?_)
      have i15 := nn_01 hI (in_c 0 rfl) rfl e15
      refine g_bipush 32 18 (gd rfl) rfl rfl ?_
      refine g_cmp_ge 21 35 (gd rfl) rfl rfl (fun c18 => ?_) (fun c18 => ?_)
      · skip
        have i18 := r_le2 32 32 c18 (in_c 32 rfl) i15 rfl
        refine g_iconst 0 36 (gd rfl) rfl rfl ?_
        refine g_callv (X := _) (As := [.int (Int32.ofInt 0), .int (Int32.ofInt 0)]) (r := []) (b := A 109) (q := 109) 39 (gd rfl) rfl rfl rfl rfl rfl (ww_o rfl) (Nat.le_of_ble_eq_true rfl) (mc := 0) (ms := 0) (Nat.zero_le _) (Nat.zero_le _) (P := fun v u => _) ?_ (fun e u h => h) (fun v u h => h)
        intro po36 xx36 hp36 hx36
        refine g_enter2 (k := 270) (N := 300) (by omega) rfl (Nat.le_of_ble_eq_true rfl) ?_
        refine g_aload_n 1 (gd rfl) rfl rfl ?_
        refine g_iload_n 2 (gd rfl) rfl rfl ?_
        refine g_if_ne 5 9 (gd rfl) rfl rfl (fun c36x2 => ?_) (fun c36x2 => ?_)
        · skip
          exact zn_ne c36x2 (in_c 0 rfl) rfl
        · skip
          refine g_iconst 1 6 (gd rfl) rfl rfl ?_
          refine g_goto 18 (gd rfl) rfl ?_
          refine g_putI 21 (gd rfl) rfl rfl rfl rfl ?_
          have hI36x18 := inv_sF (q := 109) (j := 0) hI rfl (in_w 0 2 (in_c 1 rfl) rfl)
          refine g_aload_n 22 (gd rfl) rfl rfl ?_
          refine g_getI 25 (gd rfl) rfl rfl rfl (fun z36x22 e36x22 => ?_)
          have q36x22 : (Int32.ofInt 1) = z36x22 := (sF_get).trans e36x22.symm
          subst q36x22
          refine g_if_le 28 32 (gd rfl) rfl rfl (fun c36x25 => ?_) (fun c36x25 => ?_)
          · skip
            exact zn_le c36x25 (in_c 1 rfl) rfl
          · skip
            refine g_iconst 1 29 (gd rfl) rfl rfl ?_
            refine g_goto 33 (gd rfl) rfl ?_
            refine g_ireturn (gd rfl) rfl (nb01 (in_w 0 1 (in_c 1 rfl) rfl)) (hp36 _ _ ?_)
            show GG _ _ _ _ _ _ _ _ [.int (Int32.ofInt 1)] _ _ _
            refine g_if_eq 42 44 (gd rfl) rfl rfl (fun c39 => ?_) (fun c39 => ?_)
            · skip
              exact zn_eq c39 (in_c 1 rfl) rfl
            · skip
              refine g_iconst 0 43 (gd rfl) rfl rfl ?_
              exact g_ireturn (gd rfl) rfl rfl (hP _ _ ⟨(sF s 109 0 (Int32.ofInt 1)), hI36x18, (fr_sF rfl fr_rf), (Int32.ofInt 0), rfl, rfl, in_w (-1) 31 (in_c 0 rfl) rfl⟩)
      · skip
        have i18 := r_lt1 0 31 c18 i15 (in_c 32 rfl) rfl
        refine g_aload_n 22 (gd rfl) rfl rfl ?_
        refine g_getI 25 (gd rfl) rfl rfl rfl (fun z22 e22 => ?_)
        have i22 := inv_F hI 0 4000 rfl e22
        refine g_sipush 4000 28 (gd rfl) rfl rfl ?_
        refine g_cmp_ge 31 35 (gd rfl) rfl rfl (fun c28 => ?_) (fun c28 => ?_)
        · skip
          have i28 := r_le2 4000 4000 c28 (in_c 4000 rfl) i22 rfl
          refine g_iconst 0 36 (gd rfl) rfl rfl ?_
          refine g_callv (X := _) (As := [.int (Int32.ofInt 0), .int (Int32.ofInt 0)]) (r := []) (b := A 109) (q := 109) 39 (gd rfl) rfl rfl rfl rfl rfl (ww_o rfl) (Nat.le_of_ble_eq_true rfl) (mc := 0) (ms := 0) (Nat.zero_le _) (Nat.zero_le _) (P := fun v u => _) ?_ (fun e u h => h) (fun v u h => h)
          intro po36 xx36 hp36 hx36
          refine g_enter2 (k := 270) (N := 300) (by omega) rfl (Nat.le_of_ble_eq_true rfl) ?_
          refine g_aload_n 1 (gd rfl) rfl rfl ?_
          refine g_iload_n 2 (gd rfl) rfl rfl ?_
          refine g_if_ne 5 9 (gd rfl) rfl rfl (fun c36x2 => ?_) (fun c36x2 => ?_)
          · skip
            exact zn_ne c36x2 (in_c 0 rfl) rfl
          · skip
            refine g_iconst 1 6 (gd rfl) rfl rfl ?_
            refine g_goto 18 (gd rfl) rfl ?_
            refine g_putI 21 (gd rfl) rfl rfl rfl rfl ?_
            have hI36x18 := inv_sF (q := 109) (j := 0) hI rfl (in_w 0 2 (in_c 1 rfl) rfl)
            refine g_aload_n 22 (gd rfl) rfl rfl ?_
            refine g_getI 25 (gd rfl) rfl rfl rfl (fun z36x22 e36x22 => ?_)
            have q36x22 : (Int32.ofInt 1) = z36x22 := (sF_get).trans e36x22.symm
            subst q36x22
            refine g_if_le 28 32 (gd rfl) rfl rfl (fun c36x25 => ?_) (fun c36x25 => ?_)
            · skip
              exact zn_le c36x25 (in_c 1 rfl) rfl
            · skip
              refine g_iconst 1 29 (gd rfl) rfl rfl ?_
              refine g_goto 33 (gd rfl) rfl ?_
              refine g_ireturn (gd rfl) rfl (nb01 (in_w 0 1 (in_c 1 rfl) rfl)) (hp36 _ _ ?_)
              show GG _ _ _ _ _ _ _ _ [.int (Int32.ofInt 1)] _ _ _
              refine g_if_eq 42 44 (gd rfl) rfl rfl (fun c39 => ?_) (fun c39 => ?_)
              · skip
                exact zn_eq c39 (in_c 1 rfl) rfl
              · skip
                refine g_iconst 0 43 (gd rfl) rfl rfl ?_
                exact g_ireturn (gd rfl) rfl rfl (hP _ _ ⟨(sF s 109 0 (Int32.ofInt 1)), hI36x18, (fr_sF rfl fr_rf), (Int32.ofInt 0), rfl, rfl, in_w (-1) 31 (in_c 0 rfl) rfl⟩)
        · skip
          have i28 := r_lt1 0 3999 c28 i22 (in_c 4000 rfl) rfl
          refine g_iconst 1 32 (gd rfl) rfl rfl ?_
          refine g_goto 36 (gd rfl) rfl ?_
          refine g_callv (X := _) (As := [.int (Int32.ofInt 0), .int (Int32.ofInt 1)]) (r := []) (b := A 109) (q := 109) 39 (gd rfl) rfl rfl rfl rfl rfl (ww_o rfl) (Nat.le_of_ble_eq_true rfl) (mc := 0) (ms := 0) (Nat.zero_le _) (Nat.zero_le _) (P := fun v u => _) ?_ (fun e u h => h) (fun v u h => h)
          intro po36 xx36 hp36 hx36
          refine g_enter2 (k := 270) (N := 300) (by omega) rfl (Nat.le_of_ble_eq_true rfl) ?_
          refine g_aload_n 1 (gd rfl) rfl rfl ?_
          refine g_iload_n 2 (gd rfl) rfl rfl ?_
          refine g_if_ne 5 9 (gd rfl) rfl rfl (fun c36x2 => ?_) (fun c36x2 => ?_)
          · skip
            exact zn_ne c36x2 (in_c 0 rfl) rfl
          · skip
            refine g_iconst 1 6 (gd rfl) rfl rfl ?_
            refine g_goto 18 (gd rfl) rfl ?_
            refine g_putI 21 (gd rfl) rfl rfl rfl rfl ?_
            have hI36x18 := inv_sF (q := 109) (j := 0) hI rfl (in_w 0 2 (in_c 1 rfl) rfl)
            refine g_aload_n 22 (gd rfl) rfl rfl ?_
            refine g_getI 25 (gd rfl) rfl rfl rfl (fun z36x22 e36x22 => ?_)
            have q36x22 : (Int32.ofInt 1) = z36x22 := (sF_get).trans e36x22.symm
            subst q36x22
            refine g_if_le 28 32 (gd rfl) rfl rfl (fun c36x25 => ?_) (fun c36x25 => ?_)
            · skip
              exact zn_le c36x25 (in_c 1 rfl) rfl
            · skip
              refine g_iconst 1 29 (gd rfl) rfl rfl ?_
              refine g_goto 33 (gd rfl) rfl ?_
              refine g_ireturn (gd rfl) rfl (nb01 (in_w 0 1 (in_c 1 rfl) rfl)) (hp36 _ _ ?_)
              show GG _ _ _ _ _ _ _ _ [.int (Int32.ofInt 1)] _ _ _
              refine g_if_eq 42 44 (gd rfl) rfl rfl (fun c39 => ?_) (fun c39 => ?_)
              · skip
                exact zn_eq c39 (in_c 1 rfl) rfl
              · skip
                refine g_iconst 0 43 (gd rfl) rfl rfl ?_
                exact g_ireturn (gd rfl) rfl rfl (hP _ _ ⟨(sF s 109 0 (Int32.ofInt 1)), hI36x18, (fr_sF rfl fr_rf), (Int32.ofInt 0), rfl, rfl, in_w (-1) 31 (in_c 0 rfl) rfl⟩)
    · skip
      have i7x10 := z_le (-1) 0 c7x10 i7x9 rfl
      have c7x10a := lc_le e7x9 c7x10
      have i7x10a := lr_le1 0 25 c7x10a i7x3a (l_c 25 rfl) rfl
      have i7x10b := l_b e2 i7x10a
      refine g_iconst 1 14 (gd rfl) rfl rfl ?_
      refine g_goto 18 (gd rfl) rfl ?_
      refine g_ireturn (gd rfl) rfl (nb01 (in_w 0 1 (in_c 1 rfl) rfl)) (hp7 _ _ ?_)
      show GG _ _ _ _ _ _ _ _ [.int (Int32.ofInt 1), .ref (A 109)] _ _ _
      refine g_aload_n 11 (gd rfl) rfl rfl ?_
      refine g_getA (q2 := 110) 14 (gd rfl) rfl rfl rfl rfl ?_
      refine g_iconst 0 15 (gd rfl) rfl rfl ?_
      refine g_iaload 16 (gd rfl) rfl (n := 3) rfl (in_ix (in_c 0 rfl) rfl) (fun z15 e15 => ?_)
      have i15 := nn_01 hI (in_c 0 rfl) rfl e15
      refine g_bipush 32 18 (gd rfl) rfl rfl ?_
      refine g_cmp_ge 21 35 (gd rfl) rfl rfl (fun c18 => ?_) (fun c18 => ?_)
      · skip
        have i18 := r_le2 32 32 c18 (in_c 32 rfl) i15 rfl
        refine g_iconst 0 36 (gd rfl) rfl rfl ?_
        refine g_callv (X := _) (As := [.int (Int32.ofInt 1), .int (Int32.ofInt 0)]) (r := []) (b := A 109) (q := 109) 39 (gd rfl) rfl rfl rfl rfl rfl (ww_o rfl) (Nat.le_of_ble_eq_true rfl) (mc := 0) (ms := 0) (Nat.zero_le _) (Nat.zero_le _) (P := fun v u => _) ?_ (fun e u h => h) (fun v u h => h)
        intro po36 xx36 hp36 hx36
        refine g_enter2 (k := 270) (N := 300) (by omega) rfl (Nat.le_of_ble_eq_true rfl) ?_
        refine g_aload_n 1 (gd rfl) rfl rfl ?_
        refine g_iload_n 2 (gd rfl) rfl rfl ?_
        refine g_if_ne 5 9 (gd rfl) rfl rfl (fun c36x2 => ?_) (fun c36x2 => ?_)
        · skip
          refine g_iload_n 10 (gd rfl) rfl rfl ?_
          refine g_if_ne 13 17 (gd rfl) rfl rfl (fun c36x10 => ?_) (fun c36x10 => ?_)
          · skip
            exact zn_ne c36x10 (in_c 0 rfl) rfl
          · skip
            refine g_iconst 2 14 (gd rfl) rfl rfl ?_
            refine g_goto 18 (gd rfl) rfl ?_
            refine g_putI 21 (gd rfl) rfl rfl rfl rfl ?_
            have hI36x18 := inv_sF (q := 109) (j := 0) hI rfl (in_w 0 2 (in_c 2 rfl) rfl)
            refine g_aload_n 22 (gd rfl) rfl rfl ?_
            refine g_getI 25 (gd rfl) rfl rfl rfl (fun z36x22 e36x22 => ?_)
            have q36x22 : (Int32.ofInt 2) = z36x22 := (sF_get).trans e36x22.symm
            subst q36x22
            refine g_if_le 28 32 (gd rfl) rfl rfl (fun c36x25 => ?_) (fun c36x25 => ?_)
            · skip
              exact zn_le c36x25 (in_c 2 rfl) rfl
            · skip
              refine g_iconst 1 29 (gd rfl) rfl rfl ?_
              refine g_goto 33 (gd rfl) rfl ?_
              refine g_ireturn (gd rfl) rfl (nb01 (in_w 0 1 (in_c 1 rfl) rfl)) (hp36 _ _ ?_)
              show GG _ _ _ _ _ _ _ _ [.int (Int32.ofInt 1)] _ _ _
              refine g_if_eq 42 44 (gd rfl) rfl rfl (fun c39 => ?_) (fun c39 => ?_)
              · skip
                exact zn_eq c39 (in_c 1 rfl) rfl
              · skip
                refine g_iconst 0 43 (gd rfl) rfl rfl ?_
                exact g_ireturn (gd rfl) rfl rfl (hP _ _ ⟨(sF s 109 0 (Int32.ofInt 2)), hI36x18, (fr_sF rfl fr_rf), (Int32.ofInt 0), rfl, rfl, in_w (-1) 31 (in_c 0 rfl) rfl⟩)
        · skip
          exact zn_eq c36x2 (in_c 1 rfl) rfl
      · skip
        have i18 := r_lt1 0 31 c18 i15 (in_c 32 rfl) rfl
        refine g_aload_n 22 (gd rfl) rfl rfl ?_
        refine g_getI 25 (gd rfl) rfl rfl rfl (fun z22 e22 => ?_)
        have i22 := inv_F hI 0 4000 rfl e22
        refine g_sipush 4000 28 (gd rfl) rfl rfl ?_
        refine g_cmp_ge 31 35 (gd rfl) rfl rfl (fun c28 => ?_) (fun c28 => ?_)
        · skip
          have i28 := r_le2 4000 4000 c28 (in_c 4000 rfl) i22 rfl
          refine g_iconst 0 36 (gd rfl) rfl rfl ?_
          refine g_callv (X := _) (As := [.int (Int32.ofInt 1), .int (Int32.ofInt 0)]) (r := []) (b := A 109) (q := 109) 39 (gd rfl) rfl rfl rfl rfl rfl (ww_o rfl) (Nat.le_of_ble_eq_true rfl) (mc := 0) (ms := 0) (Nat.zero_le _) (Nat.zero_le _) (P := fun v u => _) ?_ (fun e u h => h) (fun v u h => h)
          intro po36 xx36 hp36 hx36
          refine g_enter2 (k := 270) (N := 300) (by omega) rfl (Nat.le_of_ble_eq_true rfl) ?_
          refine g_aload_n 1 (gd rfl) rfl rfl ?_
          refine g_iload_n 2 (gd rfl) rfl rfl ?_
          refine g_if_ne 5 9 (gd rfl) rfl rfl (fun c36x2 => ?_) (fun c36x2 => ?_)
          · skip
            refine g_iload_n 10 (gd rfl) rfl rfl ?_
            refine g_if_ne 13 17 (gd rfl) rfl rfl (fun c36x10 => ?_) (fun c36x10 => ?_)
            · skip
              exact zn_ne c36x10 (in_c 0 rfl) rfl
            · skip
              refine g_iconst 2 14 (gd rfl) rfl rfl ?_
              refine g_goto 18 (gd rfl) rfl ?_
              refine g_putI 21 (gd rfl) rfl rfl rfl rfl ?_
              have hI36x18 := inv_sF (q := 109) (j := 0) hI rfl (in_w 0 2 (in_c 2 rfl) rfl)
              refine g_aload_n 22 (gd rfl) rfl rfl ?_
              refine g_getI 25 (gd rfl) rfl rfl rfl (fun z36x22 e36x22 => ?_)
              have q36x22 : (Int32.ofInt 2) = z36x22 := (sF_get).trans e36x22.symm
              subst q36x22
              refine g_if_le 28 32 (gd rfl) rfl rfl (fun c36x25 => ?_) (fun c36x25 => ?_)
              · skip
                exact zn_le c36x25 (in_c 2 rfl) rfl
              · skip
                refine g_iconst 1 29 (gd rfl) rfl rfl ?_
                refine g_goto 33 (gd rfl) rfl ?_
                refine g_ireturn (gd rfl) rfl (nb01 (in_w 0 1 (in_c 1 rfl) rfl)) (hp36 _ _ ?_)
                show GG _ _ _ _ _ _ _ _ [.int (Int32.ofInt 1)] _ _ _
                refine g_if_eq 42 44 (gd rfl) rfl rfl (fun c39 => ?_) (fun c39 => ?_)
                · skip
                  exact zn_eq c39 (in_c 1 rfl) rfl
                · skip
                  refine g_iconst 0 43 (gd rfl) rfl rfl ?_
                  exact g_ireturn (gd rfl) rfl rfl (hP _ _ ⟨(sF s 109 0 (Int32.ofInt 2)), hI36x18, (fr_sF rfl fr_rf), (Int32.ofInt 0), rfl, rfl, in_w (-1) 31 (in_c 0 rfl) rfl⟩)
          · skip
            exact zn_eq c36x2 (in_c 1 rfl) rfl
        · skip
          have i28 := r_lt1 0 3999 c28 i22 (in_c 4000 rfl) rfl
          refine g_iconst 1 32 (gd rfl) rfl rfl ?_
          refine g_goto 36 (gd rfl) rfl ?_
          refine g_callv (X := _) (As := [.int (Int32.ofInt 1), .int (Int32.ofInt 1)]) (r := []) (b := A 109) (q := 109) 39 (gd rfl) rfl rfl rfl rfl rfl (ww_o rfl) (Nat.le_of_ble_eq_true rfl) (mc := 0) (ms := 0) (Nat.zero_le _) (Nat.zero_le _) (P := fun v u => _) ?_ (fun e u h => h) (fun v u h => h)
          intro po36 xx36 hp36 hx36
          refine g_enter2 (k := 270) (N := 300) (by omega) rfl (Nat.le_of_ble_eq_true rfl) ?_
          refine g_aload_n 1 (gd rfl) rfl rfl ?_
          refine g_iload_n 2 (gd rfl) rfl rfl ?_
          refine g_if_ne 5 9 (gd rfl) rfl rfl (fun c36x2 => ?_) (fun c36x2 => ?_)
          · skip
            refine g_iload_n 10 (gd rfl) rfl rfl ?_
            refine g_if_ne 13 17 (gd rfl) rfl rfl (fun c36x10 => ?_) (fun c36x10 => ?_)
            · skip
              refine g_iconst 0 18 (gd rfl) rfl rfl ?_
              refine g_putI 21 (gd rfl) rfl rfl rfl rfl ?_
              have hI36x18 := inv_sF (q := 109) (j := 0) hI rfl (in_w 0 2 (in_c 0 rfl) rfl)
              refine g_aload_n 22 (gd rfl) rfl rfl ?_
              refine g_getI 25 (gd rfl) rfl rfl rfl (fun z36x22 e36x22 => ?_)
              have q36x22 : (Int32.ofInt 0) = z36x22 := (sF_get).trans e36x22.symm
              subst q36x22
              refine g_if_le 28 32 (gd rfl) rfl rfl (fun c36x25 => ?_) (fun c36x25 => ?_)
              · skip
                refine g_iconst 0 33 (gd rfl) rfl rfl ?_
                refine g_ireturn (gd rfl) rfl (nb01 (in_w 0 1 (in_c 0 rfl) rfl)) (hp36 _ _ ?_)
                show GG _ _ _ _ _ _ _ _ [.int (Int32.ofInt 0)] _ _ _
                refine g_if_eq 42 44 (gd rfl) rfl rfl (fun c39 => ?_) (fun c39 => ?_)
                · skip
                  refine g_aload_n 45 (gd rfl) rfl rfl ?_
                  refine g_iconst 0 46 (gd rfl) rfl rfl ?_
                  refine g_iload_n 47 (gd rfl) rfl rfl ?_
                  refine g_iconst 0 48 (gd rfl) rfl rfl ?_
                  refine g_iconst 0 49 (gd rfl) rfl rfl ?_
                  refine g_iconst 0 50 (gd rfl) rfl rfl ?_
                  refine g_iconst 0 51 (gd rfl) rfl rfl ?_
                  refine g_iconst 0 52 (gd rfl) rfl rfl ?_
                  have v52 : z22 = (sF s 109 0 (Int32.ofInt 0)).2.2.1 109 9 := sF_ne rfl (e22)
                  have p52 : MK (sF s 109 0 (Int32.ofInt 0)) (Int32.ofInt 0) x1 (Int32.ofInt 0) (Int32.ofInt 0) := by refine ⟨fun _ => ⟨by have a0 := i7x10b; unfold In at a0; have a1 := (in_c 0 rfl); unfold In at a1; have a2 := i28; unfold In at a2; have a3 := tx_i2l e2; omega, ?_⟩, fun h => absurd h (by decide), fun h => absurd h (by decide), fun h => absurd h (by decide), fun h => absurd h (by decide)⟩; have e0 : ((sF s 109 0 (Int32.ofInt 0))).1 110 0 = z15 := e15.symm; rw [e0]; exact i18.2
                  refine g_callv (X := _) (As := [.int (Int32.ofInt 0), .int x1, .int (Int32.ofInt 0), .int (Int32.ofInt 0), .int (Int32.ofInt 0), .int (Int32.ofInt 0), .int (Int32.ofInt 0)]) (r := []) (b := A 109) (q := 109) 55 (gd rfl) rfl rfl rfl rfl rfl (ww_o rfl) (Nat.le_of_ble_eq_true rfl) (Nat.zero_le _) (Nat.zero_le _) (k_274 (by omega) hI36x18 (in_w 0 4 (in_c 0 rfl) rfl) (in_w 0 159 i7x10b rfl) (in_w 0 31 (in_c 0 rfl) rfl) (in_w (-1000000) 1000000 (in_c 0 rfl) rfl) (in_w (-1000000) 1000000 (in_c 0 rfl) rfl) (in_w 0 1000000 (in_c 0 rfl) rfl) (in_w 0 25 (in_c 0 rfl) rfl) v52 (in_w 0 3999 i28 rfl) p52) (fun e u h => h) (fun v u h => ?_)
                  obtain ⟨s52, hI52, hF52, n52, rfl, rfl, p52a⟩ := h
                  obtain ⟨z52a, e52⟩ : ∃ w, w = s52.2.2.1 109 9 := ⟨_, rfl⟩
                  have i52a := inv_F hI52 0 4000 rfl e52
                  rw [← (show z22 = (sF s 109 0 (Int32.ofInt 0)).2.2.1 109 9 from sF_ne rfl (e22))] at n52
                  rw [← (show z52a = s52.2.2.1 109 9 from e52)] at n52
                  show GG _ _ _ _ _ _ _ _ [] _ _ _
                  refine g_aload_n 56 (gd rfl) rfl rfl ?_
                  refine g_getA (q2 := 110) 59 (gd rfl) rfl rfl rfl rfl ?_
                  refine g_iconst 0 60 (gd rfl) rfl rfl ?_
                  refine g_iaload 61 (gd rfl) rfl (n := 3) rfl (in_ix (in_c 0 rfl) rfl) (fun z60 e60 => ?_)
                  have i60 := nn_01 hI52 (in_c 0 rfl) rfl e60
                  refine g_iconst 1 62 (gd rfl) rfl rfl ?_
                  refine g_isub 63 (gd rfl) rfl (fun z62 e62 => ?_)
                  have i62 := in_sub (-1) 31 e62 i60 (in_c 1 rfl) rfl rfl
                  exact g_ireturn (gd rfl) rfl rfl (hP _ _ ⟨s52, hI52, (fr_tr rfl (fr_sF rfl fr_rf) hF52), z62, rfl, rfl, in_w (-1) 31 i62 rfl⟩)
                · skip
                  exact zn_ne c39 (in_c 0 rfl) rfl
              · skip
                exact zn_gt c36x25 (in_c 0 rfl) rfl
            · skip
              exact zn_eq c36x10 (in_c 1 rfl) rfl
          · skip
            exact zn_eq c36x2 (in_c 1 rfl) rfl

def fm_282 : FM := ([110, 111, 112, 113, 114, 115, 116, 117, 118, 119, 120, 121, 122, 123, 124], [], [(109, 0), (109, 9), (109, 18), (109, 19), (109, 20)], [])
/-- GraphHouseModel.arc -/
theorem k_282 {Z : AmZ} {A : Nat → Nat} {s : GS} {ex : va_W} {d : Nat} {X : AmX} {x1 : Int32} {x2 : Int32} {x3 : Int32} {x4 : Int32} {x5 : Int32} (hd : 4 ≤ d) (hI : Inv s)  : GC Z d 282 [.ref (A 109), .int x1, .int x2, .int x3, .int x4, .int x5] (WW Z A s ++ ex) 0 0 (fun v u => ∃ t : GS, Inv t ∧ Fr fm_282 s t ∧ ∃ z : Int32, v = some (.int z) ∧ u = WW Z A t ++ ex ∧ In z (-3) 159) X := by
  intro post xp hP hX
  refine g_enter2 (k := 282) (N := 900) (by omega) rfl (Nat.le_of_ble_eq_true rfl) ?_
  refine g_aload_n 1 (gd rfl) rfl rfl ?_
  refine g_aload_n 2 (gd rfl) rfl rfl ?_
  refine g_iload_n 3 (gd rfl) rfl rfl ?_
  refine g_callv (X := _) (As := [.int x1]) (r := [.ref (A 109)]) (b := A 109) (q := 109) 6 (gd rfl) rfl rfl rfl rfl rfl (ww_o rfl) (Nat.le_of_ble_eq_true rfl) (mc := 0) (ms := 0) (Nat.zero_le _) (Nat.zero_le _) (P := fun v u => _) ?_ (fun e u h => h) (fun v u h => h)
  intro po3 xx3 hp3 hx3
  refine g_enter2 (k := 277) (N := 300) (by omega) rfl (Nat.le_of_ble_eq_true rfl) ?_
  refine g_iload_n 1 (gd rfl) rfl rfl ?_
  refine g_if_lt 4 18 (gd rfl) rfl rfl (fun c3x1 => ?_) (fun c3x1 => ?_)
  · skip
    have i3x1 := z_lt (-2147483648) (-1) c3x1 (i_rng x1) rfl
    refine g_iconst 0 19 (gd rfl) rfl rfl ?_
    refine g_ireturn (gd rfl) rfl (nb01 (in_w 0 1 (in_c 0 rfl) rfl)) (hp3 _ _ ?_)
    show GG _ _ _ _ _ _ _ _ [.int (Int32.ofInt 0), .ref (A 109)] _ _ _
    refine g_if_eq 9 54 (gd rfl) rfl rfl (fun c6 => ?_) (fun c6 => ?_)
    · skip
      refine g_iconst 0 55 (gd rfl) rfl rfl ?_
      refine g_aload_n 56 (gd rfl) rfl rfl ?_
      refine g_getI 59 (gd rfl) rfl rfl rfl (fun z56 e56 => ?_)
      have i56 := inv_F hI 0 4000 rfl e56
      refine g_sipush 4000 62 (gd rfl) rfl rfl ?_
      refine g_cmp_ge 65 69 (gd rfl) rfl rfl (fun c62 => ?_) (fun c62 => ?_)
      · skip
        have i62 := r_le2 4000 4000 c62 (in_c 4000 rfl) i56 rfl
        refine g_iconst 0 70 (gd rfl) rfl rfl ?_
        refine g_callv (X := _) (As := [.int (Int32.ofInt 0), .int (Int32.ofInt 0)]) (r := []) (b := A 109) (q := 109) 73 (gd rfl) rfl rfl rfl rfl rfl (ww_o rfl) (Nat.le_of_ble_eq_true rfl) (mc := 0) (ms := 0) (Nat.zero_le _) (Nat.zero_le _) (P := fun v u => _) ?_ (fun e u h => h) (fun v u h => h)
        intro po70 xx70 hp70 hx70
        refine g_enter2 (k := 270) (N := 300) (by omega) rfl (Nat.le_of_ble_eq_true rfl) ?_
        refine g_aload_n 1 (gd rfl) rfl rfl ?_
        refine g_iload_n 2 (gd rfl) rfl rfl ?_
        refine g_if_ne 5 9 (gd rfl) rfl rfl (fun c70x2 => ?_) (fun c70x2 => ?_)
        · skip
          exact zn_ne c70x2 (in_c 0 rfl) rfl
        · skip
          refine g_iconst 1 6 (gd rfl) rfl rfl ?_
          refine g_goto 18 (gd rfl) rfl ?_
          refine g_putI 21 (gd rfl) rfl rfl rfl rfl ?_
          have hI70x18 := inv_sF (q := 109) (j := 0) hI rfl (in_w 0 2 (in_c 1 rfl) rfl)
          refine g_aload_n 22 (gd rfl) rfl rfl ?_
          refine g_getI 25 (gd rfl) rfl rfl rfl (fun z70x22 e70x22 => ?_)
          have q70x22 : (Int32.ofInt 1) = z70x22 := (sF_get).trans e70x22.symm
          subst q70x22
          refine g_if_le 28 32 (gd rfl) rfl rfl (fun c70x25 => ?_) (fun c70x25 => ?_)
          · skip
            exact zn_le c70x25 (in_c 1 rfl) rfl
          · skip
            refine g_iconst 1 29 (gd rfl) rfl rfl ?_
            refine g_goto 33 (gd rfl) rfl ?_
            refine g_ireturn (gd rfl) rfl (nb01 (in_w 0 1 (in_c 1 rfl) rfl)) (hp70 _ _ ?_)
            show GG _ _ _ _ _ _ _ _ [.int (Int32.ofInt 1)] _ _ _
            refine g_if_eq 76 78 (gd rfl) rfl rfl (fun c73 => ?_) (fun c73 => ?_)
            · skip
              exact zn_eq c73 (in_c 1 rfl) rfl
            · skip
              refine g_iconst 0 77 (gd rfl) rfl rfl ?_
              exact g_ireturn (gd rfl) rfl rfl (hP _ _ ⟨(sF s 109 0 (Int32.ofInt 1)), hI70x18, (fr_sF rfl fr_rf), (Int32.ofInt 0), rfl, rfl, in_w (-3) 159 (in_c 0 rfl) rfl⟩)
      · skip
        have i62 := r_lt1 0 3999 c62 i56 (in_c 4000 rfl) rfl
        refine g_iconst 1 66 (gd rfl) rfl rfl ?_
        refine g_goto 70 (gd rfl) rfl ?_
        refine g_callv (X := _) (As := [.int (Int32.ofInt 0), .int (Int32.ofInt 1)]) (r := []) (b := A 109) (q := 109) 73 (gd rfl) rfl rfl rfl rfl rfl (ww_o rfl) (Nat.le_of_ble_eq_true rfl) (mc := 0) (ms := 0) (Nat.zero_le _) (Nat.zero_le _) (P := fun v u => _) ?_ (fun e u h => h) (fun v u h => h)
        intro po70 xx70 hp70 hx70
        refine g_enter2 (k := 270) (N := 300) (by omega) rfl (Nat.le_of_ble_eq_true rfl) ?_
        refine g_aload_n 1 (gd rfl) rfl rfl ?_
        refine g_iload_n 2 (gd rfl) rfl rfl ?_
        refine g_if_ne 5 9 (gd rfl) rfl rfl (fun c70x2 => ?_) (fun c70x2 => ?_)
        · skip
          exact zn_ne c70x2 (in_c 0 rfl) rfl
        · skip
          refine g_iconst 1 6 (gd rfl) rfl rfl ?_
          refine g_goto 18 (gd rfl) rfl ?_
          refine g_putI 21 (gd rfl) rfl rfl rfl rfl ?_
          have hI70x18 := inv_sF (q := 109) (j := 0) hI rfl (in_w 0 2 (in_c 1 rfl) rfl)
          refine g_aload_n 22 (gd rfl) rfl rfl ?_
          refine g_getI 25 (gd rfl) rfl rfl rfl (fun z70x22 e70x22 => ?_)
          have q70x22 : (Int32.ofInt 1) = z70x22 := (sF_get).trans e70x22.symm
          subst q70x22
          refine g_if_le 28 32 (gd rfl) rfl rfl (fun c70x25 => ?_) (fun c70x25 => ?_)
          · skip
            exact zn_le c70x25 (in_c 1 rfl) rfl
          · skip
            refine g_iconst 1 29 (gd rfl) rfl rfl ?_
            refine g_goto 33 (gd rfl) rfl ?_
            refine g_ireturn (gd rfl) rfl (nb01 (in_w 0 1 (in_c 1 rfl) rfl)) (hp70 _ _ ?_)
            show GG _ _ _ _ _ _ _ _ [.int (Int32.ofInt 1)] _ _ _
            refine g_if_eq 76 78 (gd rfl) rfl rfl (fun c73 => ?_) (fun c73 => ?_)
            · skip
              exact zn_eq c73 (in_c 1 rfl) rfl
            · skip
              refine g_iconst 0 77 (gd rfl) rfl rfl ?_
              exact g_ireturn (gd rfl) rfl rfl (hP _ _ ⟨(sF s 109 0 (Int32.ofInt 1)), hI70x18, (fr_sF rfl fr_rf), (Int32.ofInt 0), rfl, rfl, in_w (-3) 159 (in_c 0 rfl) rfl⟩)
    · skip
      exact zn_ne c6 (in_c 0 rfl) rfl
  · skip
    have i3x1 := z_ge 0 2147483647 c3x1 (i_rng x1) rfl
    refine g_iload_n 5 (gd rfl) rfl rfl ?_
    refine g_aload_n 6 (gd rfl) rfl rfl ?_
    refine g_getA (q2 := 110) 9 (gd rfl) rfl rfl rfl rfl ?_
    refine g_iconst 0 10 (gd rfl) rfl rfl ?_
    refine g_iaload 11 (gd rfl) rfl (n := 3) rfl (in_ix (in_c 0 rfl) rfl) (fun z3x10 e3x10 => ?_)
    have i3x10 := nn_01 hI (in_c 0 rfl) rfl e3x10
    refine g_cmp_ge 14 18 (gd rfl) rfl rfl (fun c3x11 => ?_) (fun c3x11 => ?_)
    · skip
      refine g_iconst 0 19 (gd rfl) rfl rfl ?_
      refine g_ireturn (gd rfl) rfl (nb01 (in_w 0 1 (in_c 0 rfl) rfl)) (hp3 _ _ ?_)
      show GG _ _ _ _ _ _ _ _ [.int (Int32.ofInt 0), .ref (A 109)] _ _ _
      refine g_if_eq 9 54 (gd rfl) rfl rfl (fun c6 => ?_) (fun c6 => ?_)
      · skip
        refine g_iconst 0 55 (gd rfl) rfl rfl ?_
        refine g_aload_n 56 (gd rfl) rfl rfl ?_
        refine g_getI 59 (gd rfl) rfl rfl rfl (fun z56 e56 => ?_)
        have i56 := inv_F hI 0 4000 rfl e56
        refine g_sipush 4000 62 (gd rfl) rfl rfl ?_
        refine g_cmp_ge 65 69 (gd rfl) rfl rfl (fun c62 => ?_) (fun c62 => ?_)
        · skip
          have i62 := r_le2 4000 4000 c62 (in_c 4000 rfl) i56 rfl
          refine g_iconst 0 70 (gd rfl) rfl rfl ?_
          refine g_callv (X := _) (As := [.int (Int32.ofInt 0), .int (Int32.ofInt 0)]) (r := []) (b := A 109) (q := 109) 73 (gd rfl) rfl rfl rfl rfl rfl (ww_o rfl) (Nat.le_of_ble_eq_true rfl) (mc := 0) (ms := 0) (Nat.zero_le _) (Nat.zero_le _) (P := fun v u => _) ?_ (fun e u h => h) (fun v u h => h)
          intro po70 xx70 hp70 hx70
          refine g_enter2 (k := 270) (N := 300) (by omega) rfl (Nat.le_of_ble_eq_true rfl) ?_
          refine g_aload_n 1 (gd rfl) rfl rfl ?_
          refine g_iload_n 2 (gd rfl) rfl rfl ?_
          refine g_if_ne 5 9 (gd rfl) rfl rfl (fun c70x2 => ?_) (fun c70x2 => ?_)
          · skip
            exact zn_ne c70x2 (in_c 0 rfl) rfl
          · skip
            refine g_iconst 1 6 (gd rfl) rfl rfl ?_
            refine g_goto 18 (gd rfl) rfl ?_
            refine g_putI 21 (gd rfl) rfl rfl rfl rfl ?_
            have hI70x18 := inv_sF (q := 109) (j := 0) hI rfl (in_w 0 2 (in_c 1 rfl) rfl)
            refine g_aload_n 22 (gd rfl) rfl rfl ?_
            refine g_getI 25 (gd rfl) rfl rfl rfl (fun z70x22 e70x22 => ?_)
            have q70x22 : (Int32.ofInt 1) = z70x22 := (sF_get).trans e70x22.symm
            subst q70x22
            refine g_if_le 28 32 (gd rfl) rfl rfl (fun c70x25 => ?_) (fun c70x25 => ?_)
            · skip
              exact zn_le c70x25 (in_c 1 rfl) rfl
            · skip
              refine g_iconst 1 29 (gd rfl) rfl rfl ?_
              refine g_goto 33 (gd rfl) rfl ?_
              refine g_ireturn (gd rfl) rfl (nb01 (in_w 0 1 (in_c 1 rfl) rfl)) (hp70 _ _ ?_)
              show GG _ _ _ _ _ _ _ _ [.int (Int32.ofInt 1)] _ _ _
              refine g_if_eq 76 78 (gd rfl) rfl rfl (fun c73 => ?_) (fun c73 => ?_)
              · skip
                exact zn_eq c73 (in_c 1 rfl) rfl
              · skip
                refine g_iconst 0 77 (gd rfl) rfl rfl ?_
                exact g_ireturn (gd rfl) rfl rfl (hP _ _ ⟨(sF s 109 0 (Int32.ofInt 1)), hI70x18, (fr_sF rfl fr_rf), (Int32.ofInt 0), rfl, rfl, in_w (-3) 159 (in_c 0 rfl) rfl⟩)
        · skip
          have i62 := r_lt1 0 3999 c62 i56 (in_c 4000 rfl) rfl
          refine g_iconst 1 66 (gd rfl) rfl rfl ?_
          refine g_goto 70 (gd rfl) rfl ?_
          refine g_callv (X := _) (As := [.int (Int32.ofInt 0), .int (Int32.ofInt 1)]) (r := []) (b := A 109) (q := 109) 73 (gd rfl) rfl rfl rfl rfl rfl (ww_o rfl) (Nat.le_of_ble_eq_true rfl) (mc := 0) (ms := 0) (Nat.zero_le _) (Nat.zero_le _) (P := fun v u => _) ?_ (fun e u h => h) (fun v u h => h)
          intro po70 xx70 hp70 hx70
          refine g_enter2 (k := 270) (N := 300) (by omega) rfl (Nat.le_of_ble_eq_true rfl) ?_
          refine g_aload_n 1 (gd rfl) rfl rfl ?_
          refine g_iload_n 2 (gd rfl) rfl rfl ?_
          refine g_if_ne 5 9 (gd rfl) rfl rfl (fun c70x2 => ?_) (fun c70x2 => ?_)
          · skip
            exact zn_ne c70x2 (in_c 0 rfl) rfl
          · skip
            refine g_iconst 1 6 (gd rfl) rfl rfl ?_
            refine g_goto 18 (gd rfl) rfl ?_
            refine g_putI 21 (gd rfl) rfl rfl rfl rfl ?_
            have hI70x18 := inv_sF (q := 109) (j := 0) hI rfl (in_w 0 2 (in_c 1 rfl) rfl)
            refine g_aload_n 22 (gd rfl) rfl rfl ?_
            refine g_getI 25 (gd rfl) rfl rfl rfl (fun z70x22 e70x22 => ?_)
            have q70x22 : (Int32.ofInt 1) = z70x22 := (sF_get).trans e70x22.symm
            subst q70x22
            refine g_if_le 28 32 (gd rfl) rfl rfl (fun c70x25 => ?_) (fun c70x25 => ?_)
            · skip
              exact zn_le c70x25 (in_c 1 rfl) rfl
            · skip
              refine g_iconst 1 29 (gd rfl) rfl rfl ?_
              refine g_goto 33 (gd rfl) rfl ?_
              refine g_ireturn (gd rfl) rfl (nb01 (in_w 0 1 (in_c 1 rfl) rfl)) (hp70 _ _ ?_)
              show GG _ _ _ _ _ _ _ _ [.int (Int32.ofInt 1)] _ _ _
              refine g_if_eq 76 78 (gd rfl) rfl rfl (fun c73 => ?_) (fun c73 => ?_)
              · skip
                exact zn_eq c73 (in_c 1 rfl) rfl
              · skip
                refine g_iconst 0 77 (gd rfl) rfl rfl ?_
                exact g_ireturn (gd rfl) rfl rfl (hP _ _ ⟨(sF s 109 0 (Int32.ofInt 1)), hI70x18, (fr_sF rfl fr_rf), (Int32.ofInt 0), rfl, rfl, in_w (-3) 159 (in_c 0 rfl) rfl⟩)
      · skip
        exact zn_ne c6 (in_c 0 rfl) rfl
    · skip
      have i3x11 := r_lt1 0 31 c3x11 i3x1 i3x10 rfl
      have i3x11a := r_lt2 1 32 c3x11 i3x1 i3x10 rfl
      refine g_iconst 1 15 (gd rfl) rfl rfl ?_
      refine g_goto 19 (gd rfl) rfl ?_
      refine g_ireturn (gd rfl) rfl (nb01 (in_w 0 1 (in_c 1 rfl) rfl)) (hp3 _ _ ?_)
      show GG _ _ _ _ _ _ _ _ [.int (Int32.ofInt 1), .ref (A 109)] _ _ _
      refine g_if_eq 9 54 (gd rfl) rfl rfl (fun c6 => ?_) (fun c6 => ?_)
      · skip
        exact zn_eq c6 (in_c 1 rfl) rfl
      · skip
        refine g_aload_n 10 (gd rfl) rfl rfl ?_
        refine g_iload_n 11 (gd rfl) rfl rfl ?_
        refine g_callv (X := _) (As := [.int x2]) (r := [.ref (A 109)]) (b := A 109) (q := 109) 14 (gd rfl) rfl rfl rfl rfl rfl (ww_o rfl) (Nat.le_of_ble_eq_true rfl) (mc := 0) (ms := 0) (Nat.zero_le _) (Nat.zero_le _) (P := fun v u => _) ?_ (fun e u h => h) (fun v u h => h)
        intro po11 xx11 hp11 hx11
        refine g_enter2 (k := 277) (N := 300) (by omega) rfl (Nat.le_of_ble_eq_true rfl) ?_
        refine g_iload_n 1 (gd rfl) rfl rfl ?_
        refine g_if_lt 4 18 (gd rfl) rfl rfl (fun c11x1 => ?_) (fun c11x1 => ?_)
        · skip
          have i11x1 := z_lt (-2147483648) (-1) c11x1 (i_rng x2) rfl
          refine g_iconst 0 19 (gd rfl) rfl rfl ?_
          refine g_ireturn (gd rfl) rfl (nb01 (in_w 0 1 (in_c 0 rfl) rfl)) (hp11 _ _ ?_)
          show GG _ _ _ _ _ _ _ _ [.int (Int32.ofInt 0), .ref (A 109)] _ _ _
          refine g_if_eq 17 54 (gd rfl) rfl rfl (fun c14 => ?_) (fun c14 => ?_)
          · skip
            refine g_iconst 0 55 (gd rfl) rfl rfl ?_
            refine g_aload_n 56 (gd rfl) rfl rfl ?_
            refine g_getI 59 (gd rfl) rfl rfl rfl (fun z56 e56 => ?_)
            have i56 := inv_F hI 0 4000 rfl e56
            refine g_sipush 4000 62 (gd rfl) rfl rfl ?_
            refine g_cmp_ge 65 69 (gd rfl) rfl rfl (fun c62 => ?_) (fun c62 => ?_)
            · skip
              have i62 := r_le2 4000 4000 c62 (in_c 4000 rfl) i56 rfl
              refine g_iconst 0 70 (gd rfl) rfl rfl ?_
              refine g_callv (X := _) (As := [.int (Int32.ofInt 0), .int (Int32.ofInt 0)]) (r := []) (b := A 109) (q := 109) 73 (gd rfl) rfl rfl rfl rfl rfl (ww_o rfl) (Nat.le_of_ble_eq_true rfl) (mc := 0) (ms := 0) (Nat.zero_le _) (Nat.zero_le _) (P := fun v u => _) ?_ (fun e u h => h) (fun v u h => h)
              intro po70 xx70 hp70 hx70
              refine g_enter2 (k := 270) (N := 300) (by omega) rfl (Nat.le_of_ble_eq_true rfl) ?_
              refine g_aload_n 1 (gd rfl) rfl rfl ?_
              refine g_iload_n 2 (gd rfl) rfl rfl ?_
              refine g_if_ne 5 9 (gd rfl) rfl rfl (fun c70x2 => ?_) (fun c70x2 => ?_)
              · skip
                exact zn_ne c70x2 (in_c 0 rfl) rfl
              · skip
                refine g_iconst 1 6 (gd rfl) rfl rfl ?_
                refine g_goto 18 (gd rfl) rfl ?_
                refine g_putI 21 (gd rfl) rfl rfl rfl rfl ?_
                have hI70x18 := inv_sF (q := 109) (j := 0) hI rfl (in_w 0 2 (in_c 1 rfl) rfl)
                refine g_aload_n 22 (gd rfl) rfl rfl ?_
                refine g_getI 25 (gd rfl) rfl rfl rfl (fun z70x22 e70x22 => ?_)
                have q70x22 : (Int32.ofInt 1) = z70x22 := (sF_get).trans e70x22.symm
                subst q70x22
                refine g_if_le 28 32 (gd rfl) rfl rfl (fun c70x25 => ?_) (fun c70x25 => ?_)
                · skip
                  exact zn_le c70x25 (in_c 1 rfl) rfl
                · skip
                  refine g_iconst 1 29 (gd rfl) rfl rfl ?_
                  refine g_goto 33 (gd rfl) rfl ?_
                  refine g_ireturn (gd rfl) rfl (nb01 (in_w 0 1 (in_c 1 rfl) rfl)) (hp70 _ _ ?_)
                  show GG _ _ _ _ _ _ _ _ [.int (Int32.ofInt 1)] _ _ _
                  refine g_if_eq 76 78 (gd rfl) rfl rfl (fun c73 => ?_) (fun c73 => ?_)
                  · skip
                    exact zn_eq c73 (in_c 1 rfl) rfl
                  · skip
                    refine g_iconst 0 77 (gd rfl) rfl rfl ?_
                    exact g_ireturn (gd rfl) rfl rfl (hP _ _ ⟨(sF s 109 0 (Int32.ofInt 1)), hI70x18, (fr_sF rfl fr_rf), (Int32.ofInt 0), rfl, rfl, in_w (-3) 159 (in_c 0 rfl) rfl⟩)
            · skip
              have i62 := r_lt1 0 3999 c62 i56 (in_c 4000 rfl) rfl
              refine g_iconst 1 66 (gd rfl) rfl rfl ?_
              refine g_goto 70 (gd rfl) rfl ?_
              refine g_callv (X := _) (As := [.int (Int32.ofInt 0), .int (Int32.ofInt 1)]) (r := []) (b := A 109) (q := 109) 73 (gd rfl) rfl rfl rfl rfl rfl (ww_o rfl) (Nat.le_of_ble_eq_true rfl) (mc := 0) (ms := 0) (Nat.zero_le _) (Nat.zero_le _) (P := fun v u => _) ?_ (fun e u h => h) (fun v u h => h)
              intro po70 xx70 hp70 hx70
              refine g_enter2 (k := 270) (N := 300) (by omega) rfl (Nat.le_of_ble_eq_true rfl) ?_
              refine g_aload_n 1 (gd rfl) rfl rfl ?_
              refine g_iload_n 2 (gd rfl) rfl rfl ?_
              refine g_if_ne 5 9 (gd rfl) rfl rfl (fun c70x2 => ?_) (fun c70x2 => ?_)
              · skip
                exact zn_ne c70x2 (in_c 0 rfl) rfl
              · skip
                refine g_iconst 1 6 (gd rfl) rfl rfl ?_
                refine g_goto 18 (gd rfl) rfl ?_
                refine g_putI 21 (gd rfl) rfl rfl rfl rfl ?_
                have hI70x18 := inv_sF (q := 109) (j := 0) hI rfl (in_w 0 2 (in_c 1 rfl) rfl)
                refine g_aload_n 22 (gd rfl) rfl rfl ?_
                refine g_getI 25 (gd rfl) rfl rfl rfl (fun z70x22 e70x22 => ?_)
                have q70x22 : (Int32.ofInt 1) = z70x22 := (sF_get).trans e70x22.symm
                subst q70x22
                refine g_if_le 28 32 (gd rfl) rfl rfl (fun c70x25 => ?_) (fun c70x25 => ?_)
                · skip
                  exact zn_le c70x25 (in_c 1 rfl) rfl
                · skip
                  refine g_iconst 1 29 (gd rfl) rfl rfl ?_
                  refine g_goto 33 (gd rfl) rfl ?_
                  refine g_ireturn (gd rfl) rfl (nb01 (in_w 0 1 (in_c 1 rfl) rfl)) (hp70 _ _ ?_)
                  show GG _ _ _ _ _ _ _ _ [.int (Int32.ofInt 1)] _ _ _
                  refine g_if_eq 76 78 (gd rfl) rfl rfl (fun c73 => ?_) (fun c73 => ?_)
                  · skip
                    exact zn_eq c73 (in_c 1 rfl) rfl
                  · skip
                    refine g_iconst 0 77 (gd rfl) rfl rfl ?_
                    exact g_ireturn (gd rfl) rfl rfl (hP _ _ ⟨(sF s 109 0 (Int32.ofInt 1)), hI70x18, (fr_sF rfl fr_rf), (Int32.ofInt 0), rfl, rfl, in_w (-3) 159 (in_c 0 rfl) rfl⟩)
          · skip
            exact zn_ne c14 (in_c 0 rfl) rfl
        · skip
          have i11x1 := z_ge 0 2147483647 c11x1 (i_rng x2) rfl
          refine g_iload_n 5 (gd rfl) rfl rfl ?_
          refine g_aload_n 6 (gd rfl) rfl rfl ?_
          refine g_getA (q2 := 110) 9 (gd rfl) rfl rfl rfl rfl ?_
          refine g_iconst 0 10 (gd rfl) rfl rfl ?_
          refine g_iaload 11 (gd rfl) rfl (n := 3) rfl (in_ix (in_c 0 rfl) rfl) (fun z11x10 e11x10 => ?_)
          have q11x10 : z3x10 = z11x10 := (e3x10).trans e11x10.symm
          subst q11x10
          refine g_cmp_ge 14 18 (gd rfl) rfl rfl (fun c11x11 => ?_) (fun c11x11 => ?_)
          · skip
            have i11x11 := r_le2 1 2147483647 c11x11 i3x11a i11x1 rfl
            refine g_iconst 0 19 (gd rfl) rfl rfl ?_
            refine g_ireturn (gd rfl) rfl (nb01 (in_w 0 1 (in_c 0 rfl) rfl)) (hp11 _ _ ?_)
            show GG _ _ _ _ _ _ _ _ [.int (Int32.ofInt 0), .ref (A 109)] _ _ _
            refine g_if_eq 17 54 (gd rfl) rfl rfl (fun c14 => ?_) (fun c14 => ?_)
            · skip
              refine g_iconst 0 55 (gd rfl) rfl rfl ?_
              refine g_aload_n 56 (gd rfl) rfl rfl ?_
              refine g_getI 59 (gd rfl) rfl rfl rfl (fun z56 e56 => ?_)
              have i56 := inv_F hI 0 4000 rfl e56
              refine g_sipush 4000 62 (gd rfl) rfl rfl ?_
              refine g_cmp_ge 65 69 (gd rfl) rfl rfl (fun c62 => ?_) (fun c62 => ?_)
              · skip
                have i62 := r_le2 4000 4000 c62 (in_c 4000 rfl) i56 rfl
                refine g_iconst 0 70 (gd rfl) rfl rfl ?_
                refine g_callv (X := _) (As := [.int (Int32.ofInt 0), .int (Int32.ofInt 0)]) (r := []) (b := A 109) (q := 109) 73 (gd rfl) rfl rfl rfl rfl rfl (ww_o rfl) (Nat.le_of_ble_eq_true rfl) (mc := 0) (ms := 0) (Nat.zero_le _) (Nat.zero_le _) (P := fun v u => _) ?_ (fun e u h => h) (fun v u h => h)
                intro po70 xx70 hp70 hx70
                refine g_enter2 (k := 270) (N := 300) (by omega) rfl (Nat.le_of_ble_eq_true rfl) ?_
                refine g_aload_n 1 (gd rfl) rfl rfl ?_
                refine g_iload_n 2 (gd rfl) rfl rfl ?_
                refine g_if_ne 5 9 (gd rfl) rfl rfl (fun c70x2 => ?_) (fun c70x2 => ?_)
                · skip
                  exact zn_ne c70x2 (in_c 0 rfl) rfl
                · skip
                  refine g_iconst 1 6 (gd rfl) rfl rfl ?_
                  refine g_goto 18 (gd rfl) rfl ?_
                  refine g_putI 21 (gd rfl) rfl rfl rfl rfl ?_
                  have hI70x18 := inv_sF (q := 109) (j := 0) hI rfl (in_w 0 2 (in_c 1 rfl) rfl)
                  refine g_aload_n 22 (gd rfl) rfl rfl ?_
                  refine g_getI 25 (gd rfl) rfl rfl rfl (fun z70x22 e70x22 => ?_)
                  have q70x22 : (Int32.ofInt 1) = z70x22 := (sF_get).trans e70x22.symm
                  subst q70x22
                  refine g_if_le 28 32 (gd rfl) rfl rfl (fun c70x25 => ?_) (fun c70x25 => ?_)
                  · skip
                    exact zn_le c70x25 (in_c 1 rfl) rfl
                  · skip
                    refine g_iconst 1 29 (gd rfl) rfl rfl ?_
                    refine g_goto 33 (gd rfl) rfl ?_
                    refine g_ireturn (gd rfl) rfl (nb01 (in_w 0 1 (in_c 1 rfl) rfl)) (hp70 _ _ ?_)
                    show GG _ _ _ _ _ _ _ _ [.int (Int32.ofInt 1)] _ _ _
                    refine g_if_eq 76 78 (gd rfl) rfl rfl (fun c73 => ?_) (fun c73 => ?_)
                    · skip
                      exact zn_eq c73 (in_c 1 rfl) rfl
                    · skip
                      refine g_iconst 0 77 (gd rfl) rfl rfl ?_
                      exact g_ireturn (gd rfl) rfl rfl (hP _ _ ⟨(sF s 109 0 (Int32.ofInt 1)), hI70x18, (fr_sF rfl fr_rf), (Int32.ofInt 0), rfl, rfl, in_w (-3) 159 (in_c 0 rfl) rfl⟩)
              · skip
                have i62 := r_lt1 0 3999 c62 i56 (in_c 4000 rfl) rfl
                refine g_iconst 1 66 (gd rfl) rfl rfl ?_
                refine g_goto 70 (gd rfl) rfl ?_
                refine g_callv (X := _) (As := [.int (Int32.ofInt 0), .int (Int32.ofInt 1)]) (r := []) (b := A 109) (q := 109) 73 (gd rfl) rfl rfl rfl rfl rfl (ww_o rfl) (Nat.le_of_ble_eq_true rfl) (mc := 0) (ms := 0) (Nat.zero_le _) (Nat.zero_le _) (P := fun v u => _) ?_ (fun e u h => h) (fun v u h => h)
                intro po70 xx70 hp70 hx70
                refine g_enter2 (k := 270) (N := 300) (by omega) rfl (Nat.le_of_ble_eq_true rfl) ?_
                refine g_aload_n 1 (gd rfl) rfl rfl ?_
                refine g_iload_n 2 (gd rfl) rfl rfl ?_
                refine g_if_ne 5 9 (gd rfl) rfl rfl (fun c70x2 => ?_) (fun c70x2 => ?_)
                · skip
                  exact zn_ne c70x2 (in_c 0 rfl) rfl
                · skip
                  refine g_iconst 1 6 (gd rfl) rfl rfl ?_
                  refine g_goto 18 (gd rfl) rfl ?_
                  refine g_putI 21 (gd rfl) rfl rfl rfl rfl ?_
                  have hI70x18 := inv_sF (q := 109) (j := 0) hI rfl (in_w 0 2 (in_c 1 rfl) rfl)
                  refine g_aload_n 22 (gd rfl) rfl rfl ?_
                  refine g_getI 25 (gd rfl) rfl rfl rfl (fun z70x22 e70x22 => ?_)
                  have q70x22 : (Int32.ofInt 1) = z70x22 := (sF_get).trans e70x22.symm
                  subst q70x22
                  refine g_if_le 28 32 (gd rfl) rfl rfl (fun c70x25 => ?_) (fun c70x25 => ?_)
                  · skip
                    exact zn_le c70x25 (in_c 1 rfl) rfl
                  · skip
                    refine g_iconst 1 29 (gd rfl) rfl rfl ?_
                    refine g_goto 33 (gd rfl) rfl ?_
                    refine g_ireturn (gd rfl) rfl (nb01 (in_w 0 1 (in_c 1 rfl) rfl)) (hp70 _ _ ?_)
                    show GG _ _ _ _ _ _ _ _ [.int (Int32.ofInt 1)] _ _ _
                    refine g_if_eq 76 78 (gd rfl) rfl rfl (fun c73 => ?_) (fun c73 => ?_)
                    · skip
                      exact zn_eq c73 (in_c 1 rfl) rfl
                    · skip
                      refine g_iconst 0 77 (gd rfl) rfl rfl ?_
                      exact g_ireturn (gd rfl) rfl rfl (hP _ _ ⟨(sF s 109 0 (Int32.ofInt 1)), hI70x18, (fr_sF rfl fr_rf), (Int32.ofInt 0), rfl, rfl, in_w (-3) 159 (in_c 0 rfl) rfl⟩)
            · skip
              exact zn_ne c14 (in_c 0 rfl) rfl
          · skip
            have i11x11 := r_lt1 0 31 c11x11 i11x1 i3x11a rfl
            refine g_iconst 1 15 (gd rfl) rfl rfl ?_
            refine g_goto 19 (gd rfl) rfl ?_
            refine g_ireturn (gd rfl) rfl (nb01 (in_w 0 1 (in_c 1 rfl) rfl)) (hp11 _ _ ?_)
            show GG _ _ _ _ _ _ _ _ [.int (Int32.ofInt 1), .ref (A 109)] _ _ _
            refine g_if_eq 17 54 (gd rfl) rfl rfl (fun c14 => ?_) (fun c14 => ?_)
            · skip
              exact zn_eq c14 (in_c 1 rfl) rfl
            · skip
              refine g_iload_n 18 (gd rfl) rfl rfl ?_
              refine g_calls (As := [.int x3]) (r := [.ref (A 109)]) 21 (gd rfl) rfl rfl rfl rfl rfl (Nat.le_of_ble_eq_true rfl) (mc := 0) (ms := 0) (Nat.zero_le _) (Nat.zero_le _) (P := fun v u => _) ?_ (fun v u h => h)
              intro po18 xx18 hp18 hx18
              refine g_enter2 (k := 279) (N := 300) (by omega) rfl (Nat.le_of_ble_eq_true rfl) ?_
              refine g_iload_n 1 (gd rfl) rfl rfl ?_
              refine g_i2l 2 (gd rfl) rfl (fun z18x1 e18x1 => ?_)
              have i18x1 := l_i e18x1 (i_rng x3)
              refine g_ldc2_w (-1000000) 5 (gd rfl) rfl rfl ?_
              refine g_ldc2_w 1000000 8 (gd rfl) rfl rfl ?_
              refine g_calls (As := [.long z18x1, .long (Int64.ofInt (-1000000)), .long (Int64.ofInt 1000000)]) (r := []) 11 (gd rfl) rfl rfl rfl rfl rfl (Nat.le_of_ble_eq_true rfl) (mc := 0) (ms := 0) (Nat.zero_le _) (Nat.zero_le _) (P := fun v u => _) ?_ (fun v u h => h)
              intro po18x8 xx18x8 hp18x8 hx18x8
              refine g_enter2 (k := 269) (N := 300) (by omega) rfl (Nat.le_of_ble_eq_true rfl) ?_
              refine g_lload_n 1 (gd rfl) rfl rfl ?_
              refine g_lload_n 2 (gd rfl) rfl rfl ?_
              refine g_lcmp 3 (gd rfl) rfl (fun z18x8x2 e18x8x2 => ?_)
              have i18x8x2 := lc_in e18x8x2
              refine g_if_lt 6 17 (gd rfl) rfl rfl (fun c18x8x3 => ?_) (fun c18x8x3 => ?_)
              · skip
                have i18x8x3 := z_lt (-1) (-1) c18x8x3 i18x8x2 rfl
                have c18x8x3a := lc_lt e18x8x2 c18x8x3
                have i18x8x3a := lr_lt1 (-2147483648) (-1000001) c18x8x3a i18x1 (l_c (-1000000) rfl) rfl
                have i18x8x3b := l_b e18x1 i18x8x3a
                refine g_iconst 0 18 (gd rfl) rfl rfl ?_
                refine g_ireturn (gd rfl) rfl (nb01 (in_w 0 1 (in_c 0 rfl) rfl)) (hp18x8 _ _ ?_)
                show GG _ _ _ _ _ _ _ _ [.int (Int32.ofInt 0)] _ _ _
                refine g_ireturn (gd rfl) rfl (nb01 (in_w 0 1 (in_c 0 rfl) rfl)) (hp18 _ _ ?_)
                show GG _ _ _ _ _ _ _ _ [.int (Int32.ofInt 0), .ref (A 109)] _ _ _
                refine g_if_eq 24 54 (gd rfl) rfl rfl (fun c21 => ?_) (fun c21 => ?_)
                · skip
                  refine g_iconst 0 55 (gd rfl) rfl rfl ?_
                  refine g_aload_n 56 (gd rfl) rfl rfl ?_
                  refine g_getI 59 (gd rfl) rfl rfl rfl (fun z56 e56 => ?_)
                  have i56 := inv_F hI 0 4000 rfl e56
                  refine g_sipush 4000 62 (gd rfl) rfl rfl ?_
                  refine g_cmp_ge 65 69 (gd rfl) rfl rfl (fun c62 => ?_) (fun c62 => ?_)
                  · skip
                    have i62 := r_le2 4000 4000 c62 (in_c 4000 rfl) i56 rfl
                    refine g_iconst 0 70 (gd rfl) rfl rfl ?_
                    refine g_callv (X := _) (As := [.int (Int32.ofInt 0), .int (Int32.ofInt 0)]) (r := []) (b := A 109) (q := 109) 73 (gd rfl) rfl rfl rfl rfl rfl (ww_o rfl) (Nat.le_of_ble_eq_true rfl) (mc := 0) (ms := 0) (Nat.zero_le _) (Nat.zero_le _) (P := fun v u => _) ?_ (fun e u h => h) (fun v u h => h)
                    intro po70 xx70 hp70 hx70
                    refine g_enter2 (k := 270) (N := 300) (by omega) rfl (Nat.le_of_ble_eq_true rfl) ?_
                    refine g_aload_n 1 (gd rfl) rfl rfl ?_
                    refine g_iload_n 2 (gd rfl) rfl rfl ?_
                    refine g_if_ne 5 9 (gd rfl) rfl rfl (fun c70x2 => ?_) (fun c70x2 => ?_)
                    · skip
                      exact zn_ne c70x2 (in_c 0 rfl) rfl
                    · skip
                      refine g_iconst 1 6 (gd rfl) rfl rfl ?_
                      refine g_goto 18 (gd rfl) rfl ?_
                      refine g_putI 21 (gd rfl) rfl rfl rfl rfl ?_
                      have hI70x18 := inv_sF (q := 109) (j := 0) hI rfl (in_w 0 2 (in_c 1 rfl) rfl)
                      refine g_aload_n 22 (gd rfl) rfl rfl ?_
                      refine g_getI 25 (gd rfl) rfl rfl rfl (fun z70x22 e70x22 => ?_)
                      have q70x22 : (Int32.ofInt 1) = z70x22 := (sF_get).trans e70x22.symm
                      subst q70x22
                      refine g_if_le 28 32 (gd rfl) rfl rfl (fun c70x25 => ?_) (fun c70x25 => ?_)
                      · skip
                        exact zn_le c70x25 (in_c 1 rfl) rfl
                      · skip
                        refine g_iconst 1 29 (gd rfl) rfl rfl ?_
                        refine g_goto 33 (gd rfl) rfl ?_
                        refine g_ireturn (gd rfl) rfl (nb01 (in_w 0 1 (in_c 1 rfl) rfl)) (hp70 _ _ ?_)
                        show GG _ _ _ _ _ _ _ _ [.int (Int32.ofInt 1)] _ _ _
                        refine g_if_eq 76 78 (gd rfl) rfl rfl (fun c73 => ?_) (fun c73 => ?_)
                        · skip
                          exact zn_eq c73 (in_c 1 rfl) rfl
                        · skip
                          refine g_iconst 0 77 (gd rfl) rfl rfl ?_
                          exact g_ireturn (gd rfl) rfl rfl (hP _ _ ⟨(sF s 109 0 (Int32.ofInt 1)), hI70x18, (fr_sF rfl fr_rf), (Int32.ofInt 0), rfl, rfl, in_w (-3) 159 (in_c 0 rfl) rfl⟩)
                  · skip
                    have i62 := r_lt1 0 3999 c62 i56 (in_c 4000 rfl) rfl
                    refine g_iconst 1 66 (gd rfl) rfl rfl ?_
                    refine g_goto 70 (gd rfl) rfl ?_
                    refine g_callv (X := _) (As := [.int (Int32.ofInt 0), .int (Int32.ofInt 1)]) (r := []) (b := A 109) (q := 109) 73 (gd rfl) rfl rfl rfl rfl rfl (ww_o rfl) (Nat.le_of_ble_eq_true rfl) (mc := 0) (ms := 0) (Nat.zero_le _) (Nat.zero_le _) (P := fun v u => _) ?_ (fun e u h => h) (fun v u h => h)
                    intro po70 xx70 hp70 hx70
                    refine g_enter2 (k := 270) (N := 300) (by omega) rfl (Nat.le_of_ble_eq_true rfl) ?_
                    refine g_aload_n 1 (gd rfl) rfl rfl ?_
                    refine g_iload_n 2 (gd rfl) rfl rfl ?_
                    refine g_if_ne 5 9 (gd rfl) rfl rfl (fun c70x2 => ?_) (fun c70x2 => ?_)
                    · skip
                      exact zn_ne c70x2 (in_c 0 rfl) rfl
                    · skip
                      refine g_iconst 1 6 (gd rfl) rfl rfl ?_
                      refine g_goto 18 (gd rfl) rfl ?_
                      refine g_putI 21 (gd rfl) rfl rfl rfl rfl ?_
                      have hI70x18 := inv_sF (q := 109) (j := 0) hI rfl (in_w 0 2 (in_c 1 rfl) rfl)
                      refine g_aload_n 22 (gd rfl) rfl rfl ?_
                      refine g_getI 25 (gd rfl) rfl rfl rfl (fun z70x22 e70x22 => ?_)
                      have q70x22 : (Int32.ofInt 1) = z70x22 := (sF_get).trans e70x22.symm
                      subst q70x22
                      refine g_if_le 28 32 (gd rfl) rfl rfl (fun c70x25 => ?_) (fun c70x25 => ?_)
                      · skip
                        exact zn_le c70x25 (in_c 1 rfl) rfl
                      · skip
                        refine g_iconst 1 29 (gd rfl) rfl rfl ?_
                        refine g_goto 33 (gd rfl) rfl ?_
                        refine g_ireturn (gd rfl) rfl (nb01 (in_w 0 1 (in_c 1 rfl) rfl)) (hp70 _ _ ?_)
                        show GG _ _ _ _ _ _ _ _ [.int (Int32.ofInt 1)] _ _ _
                        refine g_if_eq 76 78 (gd rfl) rfl rfl (fun c73 => ?_) (fun c73 => ?_)
                        · skip
                          exact zn_eq c73 (in_c 1 rfl) rfl
                        · skip
                          refine g_iconst 0 77 (gd rfl) rfl rfl ?_
                          exact g_ireturn (gd rfl) rfl rfl (hP _ _ ⟨(sF s 109 0 (Int32.ofInt 1)), hI70x18, (fr_sF rfl fr_rf), (Int32.ofInt 0), rfl, rfl, in_w (-3) 159 (in_c 0 rfl) rfl⟩)
                · skip
                  exact zn_ne c21 (in_c 0 rfl) rfl
              · skip
                have i18x8x3 := z_ge 0 1 c18x8x3 i18x8x2 rfl
                have c18x8x3a := lc_ge e18x8x2 c18x8x3
                have i18x8x3a := lr_le2 (-1000000) 2147483647 c18x8x3a (l_c (-1000000) rfl) i18x1 rfl
                have i18x8x3b := l_b e18x1 i18x8x3a
                refine g_lload_n 7 (gd rfl) rfl rfl ?_
                refine g_lload 9 (gd rfl) rfl rfl ?_
                refine g_lcmp 10 (gd rfl) rfl (fun z18x8x9 e18x8x9 => ?_)
                have i18x8x9 := lc_in e18x8x9
                refine g_if_gt 13 17 (gd rfl) rfl rfl (fun c18x8x10 => ?_) (fun c18x8x10 => ?_)
                · skip
                  have i18x8x10 := z_gt 1 1 c18x8x10 i18x8x9 rfl
                  have c18x8x10a := lc_gt e18x8x9 c18x8x10
                  have i18x8x10a := lr_lt2 1000001 2147483647 c18x8x10a (l_c 1000000 rfl) i18x8x3a rfl
                  have i18x8x10b := l_b e18x1 i18x8x10a
                  refine g_iconst 0 18 (gd rfl) rfl rfl ?_
                  refine g_ireturn (gd rfl) rfl (nb01 (in_w 0 1 (in_c 0 rfl) rfl)) (hp18x8 _ _ ?_)
                  show GG _ _ _ _ _ _ _ _ [.int (Int32.ofInt 0)] _ _ _
                  refine g_ireturn (gd rfl) rfl (nb01 (in_w 0 1 (in_c 0 rfl) rfl)) (hp18 _ _ ?_)
                  show GG _ _ _ _ _ _ _ _ [.int (Int32.ofInt 0), .ref (A 109)] _ _ _
                  refine g_if_eq 24 54 (gd rfl) rfl rfl (fun c21 => ?_) (fun c21 => ?_)
                  · skip
                    refine g_iconst 0 55 (gd rfl) rfl rfl ?_
                    refine g_aload_n 56 (gd rfl) rfl rfl ?_
                    refine g_getI 59 (gd rfl) rfl rfl rfl (fun z56 e56 => ?_)
                    have i56 := inv_F hI 0 4000 rfl e56
                    refine g_sipush 4000 62 (gd rfl) rfl rfl ?_
                    refine g_cmp_ge 65 69 (gd rfl) rfl rfl (fun c62 => ?_) (fun c62 => ?_)
                    · skip
                      have i62 := r_le2 4000 4000 c62 (in_c 4000 rfl) i56 rfl
                      refine g_iconst 0 70 (gd rfl) rfl rfl ?_
                      refine g_callv (X := _) (As := [.int (Int32.ofInt 0), .int (Int32.ofInt 0)]) (r := []) (b := A 109) (q := 109) 73 (gd rfl) rfl rfl rfl rfl rfl (ww_o rfl) (Nat.le_of_ble_eq_true rfl) (mc := 0) (ms := 0) (Nat.zero_le _) (Nat.zero_le _) (P := fun v u => _) ?_ (fun e u h => h) (fun v u h => h)
                      intro po70 xx70 hp70 hx70
                      refine g_enter2 (k := 270) (N := 300) (by omega) rfl (Nat.le_of_ble_eq_true rfl) ?_
                      refine g_aload_n 1 (gd rfl) rfl rfl ?_
                      refine g_iload_n 2 (gd rfl) rfl rfl ?_
                      refine g_if_ne 5 9 (gd rfl) rfl rfl (fun c70x2 => ?_) (fun c70x2 => ?_)
                      · skip
                        exact zn_ne c70x2 (in_c 0 rfl) rfl
                      · skip
                        refine g_iconst 1 6 (gd rfl) rfl rfl ?_
                        refine g_goto 18 (gd rfl) rfl ?_
                        refine g_putI 21 (gd rfl) rfl rfl rfl rfl ?_
                        have hI70x18 := inv_sF (q := 109) (j := 0) hI rfl (in_w 0 2 (in_c 1 rfl) rfl)
                        refine g_aload_n 22 (gd rfl) rfl rfl ?_
                        refine g_getI 25 (gd rfl) rfl rfl rfl (fun z70x22 e70x22 => ?_)
                        have q70x22 : (Int32.ofInt 1) = z70x22 := (sF_get).trans e70x22.symm
                        subst q70x22
                        refine g_if_le 28 32 (gd rfl) rfl rfl (fun c70x25 => ?_) (fun c70x25 => ?_)
                        · skip
                          exact zn_le c70x25 (in_c 1 rfl) rfl
                        · skip
                          refine g_iconst 1 29 (gd rfl) rfl rfl ?_
                          refine g_goto 33 (gd rfl) rfl ?_
                          refine g_ireturn (gd rfl) rfl (nb01 (in_w 0 1 (in_c 1 rfl) rfl)) (hp70 _ _ ?_)
                          show GG _ _ _ _ _ _ _ _ [.int (Int32.ofInt 1)] _ _ _
                          refine g_if_eq 76 78 (gd rfl) rfl rfl (fun c73 => ?_) (fun c73 => ?_)
                          · skip
                            exact zn_eq c73 (in_c 1 rfl) rfl
                          · skip
                            refine g_iconst 0 77 (gd rfl) rfl rfl ?_
                            exact g_ireturn (gd rfl) rfl rfl (hP _ _ ⟨(sF s 109 0 (Int32.ofInt 1)), hI70x18, (fr_sF rfl fr_rf), (Int32.ofInt 0), rfl, rfl, in_w (-3) 159 (in_c 0 rfl) rfl⟩)
                    · skip
                      have i62 := r_lt1 0 3999 c62 i56 (in_c 4000 rfl) rfl
                      refine g_iconst 1 66 (gd rfl) rfl rfl ?_
                      refine g_goto 70 (gd rfl) rfl ?_
                      refine g_callv (X := _) (As := [.int (Int32.ofInt 0), .int (Int32.ofInt 1)]) (r := []) (b := A 109) (q := 109) 73 (gd rfl) rfl rfl rfl rfl rfl (ww_o rfl) (Nat.le_of_ble_eq_true rfl) (mc := 0) (ms := 0) (Nat.zero_le _) (Nat.zero_le _) (P := fun v u => _) ?_ (fun e u h => h) (fun v u h => h)
                      intro po70 xx70 hp70 hx70
                      refine g_enter2 (k := 270) (N := 300) (by omega) rfl (Nat.le_of_ble_eq_true rfl) ?_
                      refine g_aload_n 1 (gd rfl) rfl rfl ?_
                      refine g_iload_n 2 (gd rfl) rfl rfl ?_
                      refine g_if_ne 5 9 (gd rfl) rfl rfl (fun c70x2 => ?_) (fun c70x2 => ?_)
                      · skip
                        exact zn_ne c70x2 (in_c 0 rfl) rfl
                      · skip
                        refine g_iconst 1 6 (gd rfl) rfl rfl ?_
                        refine g_goto 18 (gd rfl) rfl ?_
                        refine g_putI 21 (gd rfl) rfl rfl rfl rfl ?_
                        have hI70x18 := inv_sF (q := 109) (j := 0) hI rfl (in_w 0 2 (in_c 1 rfl) rfl)
                        refine g_aload_n 22 (gd rfl) rfl rfl ?_
                        refine g_getI 25 (gd rfl) rfl rfl rfl (fun z70x22 e70x22 => ?_)
                        have q70x22 : (Int32.ofInt 1) = z70x22 := (sF_get).trans e70x22.symm
                        subst q70x22
                        refine g_if_le 28 32 (gd rfl) rfl rfl (fun c70x25 => ?_) (fun c70x25 => ?_)
                        · skip
                          exact zn_le c70x25 (in_c 1 rfl) rfl
                        · skip
                          refine g_iconst 1 29 (gd rfl) rfl rfl ?_
                          refine g_goto 33 (gd rfl) rfl ?_
                          refine g_ireturn (gd rfl) rfl (nb01 (in_w 0 1 (in_c 1 rfl) rfl)) (hp70 _ _ ?_)
                          show GG _ _ _ _ _ _ _ _ [.int (Int32.ofInt 1)] _ _ _
                          refine g_if_eq 76 78 (gd rfl) rfl rfl (fun c73 => ?_) (fun c73 => ?_)
                          · skip
                            exact zn_eq c73 (in_c 1 rfl) rfl
                          · skip
                            refine g_iconst 0 77 (gd rfl) rfl rfl ?_
                            exact g_ireturn (gd rfl) rfl rfl (hP _ _ ⟨(sF s 109 0 (Int32.ofInt 1)), hI70x18, (fr_sF rfl fr_rf), (Int32.ofInt 0), rfl, rfl, in_w (-3) 159 (in_c 0 rfl) rfl⟩)
                  · skip
                    exact zn_ne c21 (in_c 0 rfl) rfl
                · skip
                  have i18x8x10 := z_le (-1) 0 c18x8x10 i18x8x9 rfl
                  have c18x8x10a := lc_le e18x8x9 c18x8x10
                  have i18x8x10a := lr_le1 (-1000000) 1000000 c18x8x10a i18x8x3a (l_c 1000000 rfl) rfl
                  have i18x8x10b := l_b e18x1 i18x8x10a
                  refine g_iconst 1 14 (gd rfl) rfl rfl ?_
                  refine g_goto 18 (gd rfl) rfl ?_
                  refine g_ireturn (gd rfl) rfl (nb01 (in_w 0 1 (in_c 1 rfl) rfl)) (hp18x8 _ _ ?_)
                  show GG _ _ _ _ _ _ _ _ [.int (Int32.ofInt 1)] _ _ _
                  refine g_ireturn (gd rfl) rfl (nb01 (in_w 0 1 (in_c 1 rfl) rfl)) (hp18 _ _ ?_)
                  show GG _ _ _ _ _ _ _ _ [.int (Int32.ofInt 1), .ref (A 109)] _ _ _
                  refine g_if_eq 24 54 (gd rfl) rfl rfl (fun c21 => ?_) (fun c21 => ?_)
                  · skip
                    exact zn_eq c21 (in_c 1 rfl) rfl
                  · skip
                    refine g_iload 26 (gd rfl) rfl rfl ?_
                    refine g_i2l 27 (gd rfl) rfl (fun z26 e26 => ?_)
                    have i26 := l_i e26 (i_rng x4)
                    refine g_lconst 0 28 (gd rfl) rfl rfl ?_
                    refine g_ldc2_w 1000000 31 (gd rfl) rfl rfl ?_
                    refine g_calls (As := [.long z26, .long (Int64.ofInt 0), .long (Int64.ofInt 1000000)]) (r := [.ref (A 109)]) 34 (gd rfl) rfl rfl rfl rfl rfl (Nat.le_of_ble_eq_true rfl) (mc := 0) (ms := 0) (Nat.zero_le _) (Nat.zero_le _) (P := fun v u => _) ?_ (fun v u h => h)
                    intro po31 xx31 hp31 hx31
                    refine g_enter2 (k := 269) (N := 300) (by omega) rfl (Nat.le_of_ble_eq_true rfl) ?_
                    refine g_lload_n 1 (gd rfl) rfl rfl ?_
                    refine g_lload_n 2 (gd rfl) rfl rfl ?_
                    refine g_lcmp 3 (gd rfl) rfl (fun z31x2 e31x2 => ?_)
                    have i31x2 := lc_in e31x2
                    refine g_if_lt 6 17 (gd rfl) rfl rfl (fun c31x3 => ?_) (fun c31x3 => ?_)
                    · skip
                      have i31x3 := z_lt (-1) (-1) c31x3 i31x2 rfl
                      have c31x3a := lc_lt e31x2 c31x3
                      have i31x3a := lr_lt1 (-2147483648) (-1) c31x3a i26 (l_c 0 rfl) rfl
                      have i31x3b := l_b e26 i31x3a
                      refine g_iconst 0 18 (gd rfl) rfl rfl ?_
                      refine g_ireturn (gd rfl) rfl (nb01 (in_w 0 1 (in_c 0 rfl) rfl)) (hp31 _ _ ?_)
                      show GG _ _ _ _ _ _ _ _ [.int (Int32.ofInt 0), .ref (A 109)] _ _ _
                      refine g_if_eq 37 54 (gd rfl) rfl rfl (fun c34 => ?_) (fun c34 => ?_)
                      · skip
                        refine g_iconst 0 55 (gd rfl) rfl rfl ?_
                        refine g_aload_n 56 (gd rfl) rfl rfl ?_
                        refine g_getI 59 (gd rfl) rfl rfl rfl (fun z56 e56 => ?_)
                        have i56 := inv_F hI 0 4000 rfl e56
                        refine g_sipush 4000 62 (gd rfl) rfl rfl ?_
                        refine g_cmp_ge 65 69 (gd rfl) rfl rfl (fun c62 => ?_) (fun c62 => ?_)
                        · skip
                          have i62 := r_le2 4000 4000 c62 (in_c 4000 rfl) i56 rfl
                          refine g_iconst 0 70 (gd rfl) rfl rfl ?_
                          refine g_callv (X := _) (As := [.int (Int32.ofInt 0), .int (Int32.ofInt 0)]) (r := []) (b := A 109) (q := 109) 73 (gd rfl) rfl rfl rfl rfl rfl (ww_o rfl) (Nat.le_of_ble_eq_true rfl) (mc := 0) (ms := 0) (Nat.zero_le _) (Nat.zero_le _) (P := fun v u => _) ?_ (fun e u h => h) (fun v u h => h)
                          intro po70 xx70 hp70 hx70
                          refine g_enter2 (k := 270) (N := 300) (by omega) rfl (Nat.le_of_ble_eq_true rfl) ?_
                          refine g_aload_n 1 (gd rfl) rfl rfl ?_
                          refine g_iload_n 2 (gd rfl) rfl rfl ?_
                          refine g_if_ne 5 9 (gd rfl) rfl rfl (fun c70x2 => ?_) (fun c70x2 => ?_)
                          · skip
                            exact zn_ne c70x2 (in_c 0 rfl) rfl
                          · skip
                            refine g_iconst 1 6 (gd rfl) rfl rfl ?_
                            refine g_goto 18 (gd rfl) rfl ?_
                            refine g_putI 21 (gd rfl) rfl rfl rfl rfl ?_
                            have hI70x18 := inv_sF (q := 109) (j := 0) hI rfl (in_w 0 2 (in_c 1 rfl) rfl)
                            refine g_aload_n 22 (gd rfl) rfl rfl ?_
                            refine g_getI 25 (gd rfl) rfl rfl rfl (fun z70x22 e70x22 => ?_)
                            have q70x22 : (Int32.ofInt 1) = z70x22 := (sF_get).trans e70x22.symm
                            subst q70x22
                            refine g_if_le 28 32 (gd rfl) rfl rfl (fun c70x25 => ?_) (fun c70x25 => ?_)
                            · skip
                              exact zn_le c70x25 (in_c 1 rfl) rfl
                            · skip
                              refine g_iconst 1 29 (gd rfl) rfl rfl ?_
                              refine g_goto 33 (gd rfl) rfl ?_
                              refine g_ireturn (gd rfl) rfl (nb01 (in_w 0 1 (in_c 1 rfl) rfl)) (hp70 _ _ ?_)
                              show GG _ _ _ _ _ _ _ _ [.int (Int32.ofInt 1)] _ _ _
                              refine g_if_eq 76 78 (gd rfl) rfl rfl (fun c73 => ?_) (fun c73 => ?_)
                              · skip
                                exact zn_eq c73 (in_c 1 rfl) rfl
                              · skip
                                refine g_iconst 0 77 (gd rfl) rfl rfl ?_
                                exact g_ireturn (gd rfl) rfl rfl (hP _ _ ⟨(sF s 109 0 (Int32.ofInt 1)), hI70x18, (fr_sF rfl fr_rf), (Int32.ofInt 0), rfl, rfl, in_w (-3) 159 (in_c 0 rfl) rfl⟩)
                        · skip
                          have i62 := r_lt1 0 3999 c62 i56 (in_c 4000 rfl) rfl
                          refine g_iconst 1 66 (gd rfl) rfl rfl ?_
                          refine g_goto 70 (gd rfl) rfl ?_
                          refine g_callv (X := _) (As := [.int (Int32.ofInt 0), .int (Int32.ofInt 1)]) (r := []) (b := A 109) (q := 109) 73 (gd rfl) rfl rfl rfl rfl rfl (ww_o rfl) (Nat.le_of_ble_eq_true rfl) (mc := 0) (ms := 0) (Nat.zero_le _) (Nat.zero_le _) (P := fun v u => _) ?_ (fun e u h => h) (fun v u h => h)
                          intro po70 xx70 hp70 hx70
                          refine g_enter2 (k := 270) (N := 300) (by omega) rfl (Nat.le_of_ble_eq_true rfl) ?_
                          refine g_aload_n 1 (gd rfl) rfl rfl ?_
                          refine g_iload_n 2 (gd rfl) rfl rfl ?_
                          refine g_if_ne 5 9 (gd rfl) rfl rfl (fun c70x2 => ?_) (fun c70x2 => ?_)
                          · skip
                            exact zn_ne c70x2 (in_c 0 rfl) rfl
                          · skip
                            refine g_iconst 1 6 (gd rfl) rfl rfl ?_
                            refine g_goto 18 (gd rfl) rfl ?_
                            refine g_putI 21 (gd rfl) rfl rfl rfl rfl ?_
                            have hI70x18 := inv_sF (q := 109) (j := 0) hI rfl (in_w 0 2 (in_c 1 rfl) rfl)
                            refine g_aload_n 22 (gd rfl) rfl rfl ?_
                            refine g_getI 25 (gd rfl) rfl rfl rfl (fun z70x22 e70x22 => ?_)
                            have q70x22 : (Int32.ofInt 1) = z70x22 := (sF_get).trans e70x22.symm
                            subst q70x22
                            refine g_if_le 28 32 (gd rfl) rfl rfl (fun c70x25 => ?_) (fun c70x25 => ?_)
                            · skip
                              exact zn_le c70x25 (in_c 1 rfl) rfl
                            · skip
                              refine g_iconst 1 29 (gd rfl) rfl rfl ?_
                              refine g_goto 33 (gd rfl) rfl ?_
                              refine g_ireturn (gd rfl) rfl (nb01 (in_w 0 1 (in_c 1 rfl) rfl)) (hp70 _ _ ?_)
                              show GG _ _ _ _ _ _ _ _ [.int (Int32.ofInt 1)] _ _ _
                              refine g_if_eq 76 78 (gd rfl) rfl rfl (fun c73 => ?_) (fun c73 => ?_)
                              · skip
                                exact zn_eq c73 (in_c 1 rfl) rfl
                              · skip
                                refine g_iconst 0 77 (gd rfl) rfl rfl ?_
                                exact g_ireturn (gd rfl) rfl rfl (hP _ _ ⟨(sF s 109 0 (Int32.ofInt 1)), hI70x18, (fr_sF rfl fr_rf), (Int32.ofInt 0), rfl, rfl, in_w (-3) 159 (in_c 0 rfl) rfl⟩)
                      · skip
                        exact zn_ne c34 (in_c 0 rfl) rfl
                    · skip
                      have i31x3 := z_ge 0 1 c31x3 i31x2 rfl
                      have c31x3a := lc_ge e31x2 c31x3
                      have i31x3a := lr_le2 0 2147483647 c31x3a (l_c 0 rfl) i26 rfl
                      have i31x3b := l_b e26 i31x3a
                      refine g_lload_n 7 (gd rfl) rfl rfl ?_
                      refine g_lload 9 (gd rfl) rfl rfl ?_
                      refine g_lcmp 10 (gd rfl) rfl (fun z31x9 e31x9 => ?_)
                      have i31x9 := lc_in e31x9
                      refine g_if_gt 13 17 (gd rfl) rfl rfl (fun c31x10 => ?_) (fun c31x10 => ?_)
                      · skip
                        have i31x10 := z_gt 1 1 c31x10 i31x9 rfl
                        have c31x10a := lc_gt e31x9 c31x10
                        have i31x10a := lr_lt2 1000001 2147483647 c31x10a (l_c 1000000 rfl) i31x3a rfl
                        have i31x10b := l_b e26 i31x10a
                        refine g_iconst 0 18 (gd rfl) rfl rfl ?_
                        refine g_ireturn (gd rfl) rfl (nb01 (in_w 0 1 (in_c 0 rfl) rfl)) (hp31 _ _ ?_)
                        show GG _ _ _ _ _ _ _ _ [.int (Int32.ofInt 0), .ref (A 109)] _ _ _
                        refine g_if_eq 37 54 (gd rfl) rfl rfl (fun c34 => ?_) (fun c34 => ?_)
                        · skip
                          refine g_iconst 0 55 (gd rfl) rfl rfl ?_
                          refine g_aload_n 56 (gd rfl) rfl rfl ?_
                          refine g_getI 59 (gd rfl) rfl rfl rfl (fun z56 e56 => ?_)
                          have i56 := inv_F hI 0 4000 rfl e56
                          refine g_sipush 4000 62 (gd rfl) rfl rfl ?_
                          refine g_cmp_ge 65 69 (gd rfl) rfl rfl (fun c62 => ?_) (fun c62 => ?_)
                          · skip
                            have i62 := r_le2 4000 4000 c62 (in_c 4000 rfl) i56 rfl
                            refine g_iconst 0 70 (gd rfl) rfl rfl ?_
                            refine g_callv (X := _) (As := [.int (Int32.ofInt 0), .int (Int32.ofInt 0)]) (r := []) (b := A 109) (q := 109) 73 (gd rfl) rfl rfl rfl rfl rfl (ww_o rfl) (Nat.le_of_ble_eq_true rfl) (mc := 0) (ms := 0) (Nat.zero_le _) (Nat.zero_le _) (P := fun v u => _) ?_ (fun e u h => h) (fun v u h => h)
                            intro po70 xx70 hp70 hx70
                            refine g_enter2 (k := 270) (N := 300) (by omega) rfl (Nat.le_of_ble_eq_true rfl) ?_
                            refine g_aload_n 1 (gd rfl) rfl rfl ?_
                            refine g_iload_n 2 (gd rfl) rfl rfl ?_
                            refine g_if_ne 5 9 (gd rfl) rfl rfl (fun c70x2 => ?_) (fun c70x2 => ?_)
                            · skip
                              exact zn_ne c70x2 (in_c 0 rfl) rfl
                            · skip
                              refine g_iconst 1 6 (gd rfl) rfl rfl ?_
                              refine g_goto 18 (gd rfl) rfl ?_
                              refine g_putI 21 (gd rfl) rfl rfl rfl rfl ?_
                              have hI70x18 := inv_sF (q := 109) (j := 0) hI rfl (in_w 0 2 (in_c 1 rfl) rfl)
                              refine g_aload_n 22 (gd rfl) rfl rfl ?_
                              refine g_getI 25 (gd rfl) rfl rfl rfl (fun z70x22 e70x22 => ?_)
                              have q70x22 : (Int32.ofInt 1) = z70x22 := (sF_get).trans e70x22.symm
                              subst q70x22
                              refine g_if_le 28 32 (gd rfl) rfl rfl (fun c70x25 => ?_) (fun c70x25 => ?_)
                              · skip
                                exact zn_le c70x25 (in_c 1 rfl) rfl
                              · skip
                                refine g_iconst 1 29 (gd rfl) rfl rfl ?_
                                refine g_goto 33 (gd rfl) rfl ?_
                                refine g_ireturn (gd rfl) rfl (nb01 (in_w 0 1 (in_c 1 rfl) rfl)) (hp70 _ _ ?_)
                                show GG _ _ _ _ _ _ _ _ [.int (Int32.ofInt 1)] _ _ _
                                refine g_if_eq 76 78 (gd rfl) rfl rfl (fun c73 => ?_) (fun c73 => ?_)
                                · skip
                                  exact zn_eq c73 (in_c 1 rfl) rfl
                                · skip
                                  refine g_iconst 0 77 (gd rfl) rfl rfl ?_
                                  exact g_ireturn (gd rfl) rfl rfl (hP _ _ ⟨(sF s 109 0 (Int32.ofInt 1)), hI70x18, (fr_sF rfl fr_rf), (Int32.ofInt 0), rfl, rfl, in_w (-3) 159 (in_c 0 rfl) rfl⟩)
                          · skip
                            have i62 := r_lt1 0 3999 c62 i56 (in_c 4000 rfl) rfl
                            refine g_iconst 1 66 (gd rfl) rfl rfl ?_
                            refine g_goto 70 (gd rfl) rfl ?_
                            refine g_callv (X := _) (As := [.int (Int32.ofInt 0), .int (Int32.ofInt 1)]) (r := []) (b := A 109) (q := 109) 73 (gd rfl) rfl rfl rfl rfl rfl (ww_o rfl) (Nat.le_of_ble_eq_true rfl) (mc := 0) (ms := 0) (Nat.zero_le _) (Nat.zero_le _) (P := fun v u => _) ?_ (fun e u h => h) (fun v u h => h)
                            intro po70 xx70 hp70 hx70
                            refine g_enter2 (k := 270) (N := 300) (by omega) rfl (Nat.le_of_ble_eq_true rfl) ?_
                            refine g_aload_n 1 (gd rfl) rfl rfl ?_
                            refine g_iload_n 2 (gd rfl) rfl rfl ?_
                            refine g_if_ne 5 9 (gd rfl) rfl rfl (fun c70x2 => ?_) (fun c70x2 => ?_)
                            · skip
                              exact zn_ne c70x2 (in_c 0 rfl) rfl
                            · skip
                              refine g_iconst 1 6 (gd rfl) rfl rfl ?_
                              refine g_goto 18 (gd rfl) rfl ?_
                              refine g_putI 21 (gd rfl) rfl rfl rfl rfl ?_
                              have hI70x18 := inv_sF (q := 109) (j := 0) hI rfl (in_w 0 2 (in_c 1 rfl) rfl)
                              refine g_aload_n 22 (gd rfl) rfl rfl ?_
                              refine g_getI 25 (gd rfl) rfl rfl rfl (fun z70x22 e70x22 => ?_)
                              have q70x22 : (Int32.ofInt 1) = z70x22 := (sF_get).trans e70x22.symm
                              subst q70x22
                              refine g_if_le 28 32 (gd rfl) rfl rfl (fun c70x25 => ?_) (fun c70x25 => ?_)
                              · skip
                                exact zn_le c70x25 (in_c 1 rfl) rfl
                              · skip
                                refine g_iconst 1 29 (gd rfl) rfl rfl ?_
                                refine g_goto 33 (gd rfl) rfl ?_
                                refine g_ireturn (gd rfl) rfl (nb01 (in_w 0 1 (in_c 1 rfl) rfl)) (hp70 _ _ ?_)
                                show GG _ _ _ _ _ _ _ _ [.int (Int32.ofInt 1)] _ _ _
                                refine g_if_eq 76 78 (gd rfl) rfl rfl (fun c73 => ?_) (fun c73 => ?_)
                                · skip
                                  exact zn_eq c73 (in_c 1 rfl) rfl
                                · skip
                                  refine g_iconst 0 77 (gd rfl) rfl rfl ?_
                                  exact g_ireturn (gd rfl) rfl rfl (hP _ _ ⟨(sF s 109 0 (Int32.ofInt 1)), hI70x18, (fr_sF rfl fr_rf), (Int32.ofInt 0), rfl, rfl, in_w (-3) 159 (in_c 0 rfl) rfl⟩)
                        · skip
                          exact zn_ne c34 (in_c 0 rfl) rfl
                      · skip
                        have i31x10 := z_le (-1) 0 c31x10 i31x9 rfl
                        have c31x10a := lc_le e31x9 c31x10
                        have i31x10a := lr_le1 0 1000000 c31x10a i31x3a (l_c 1000000 rfl) rfl
                        have i31x10b := l_b e26 i31x10a
                        refine g_iconst 1 14 (gd rfl) rfl rfl ?_
                        refine g_goto 18 (gd rfl) rfl ?_
                        refine g_ireturn (gd rfl) rfl (nb01 (in_w 0 1 (in_c 1 rfl) rfl)) (hp31 _ _ ?_)
                        show GG _ _ _ _ _ _ _ _ [.int (Int32.ofInt 1), .ref (A 109)] _ _ _
                        refine g_if_eq 37 54 (gd rfl) rfl rfl (fun c34 => ?_) (fun c34 => ?_)
                        · skip
                          exact zn_eq c34 (in_c 1 rfl) rfl
                        · skip
                          refine g_iload 39 (gd rfl) rfl rfl ?_
                          refine g_i2l 40 (gd rfl) rfl (fun z39 e39 => ?_)
                          have i39 := l_i e39 (i_rng x5)
                          refine g_lconst 0 41 (gd rfl) rfl rfl ?_
                          refine g_ldc2_w 25 44 (gd rfl) rfl rfl ?_
                          refine g_calls (As := [.long z39, .long (Int64.ofInt 0), .long (Int64.ofInt 25)]) (r := [.ref (A 109)]) 47 (gd rfl) rfl rfl rfl rfl rfl (Nat.le_of_ble_eq_true rfl) (mc := 0) (ms := 0) (Nat.zero_le _) (Nat.zero_le _) (P := fun v u => _) ?_ (fun v u h => h)
                          intro po44 xx44 hp44 hx44
                          refine g_enter2 (k := 269) (N := 300) (by omega) rfl (Nat.le_of_ble_eq_true rfl) ?_
                          refine g_lload_n 1 (gd rfl) rfl rfl ?_
                          refine g_lload_n 2 (gd rfl) rfl rfl ?_
                          refine g_lcmp 3 (gd rfl) rfl (fun z44x2 e44x2 => ?_)
                          have i44x2 := lc_in e44x2
                          refine g_if_lt 6 17 (gd rfl) rfl rfl (fun c44x3 => ?_) (fun c44x3 => ?_)
                          · skip
                            have i44x3 := z_lt (-1) (-1) c44x3 i44x2 rfl
                            have c44x3a := lc_lt e44x2 c44x3
                            have i44x3a := lr_lt1 (-2147483648) (-1) c44x3a i39 (l_c 0 rfl) rfl
                            have i44x3b := l_b e39 i44x3a
                            refine g_iconst 0 18 (gd rfl) rfl rfl ?_
                            refine g_ireturn (gd rfl) rfl (nb01 (in_w 0 1 (in_c 0 rfl) rfl)) (hp44 _ _ ?_)
                            show GG _ _ _ _ _ _ _ _ [.int (Int32.ofInt 0), .ref (A 109)] _ _ _
                            refine g_if_eq 50 54 (gd rfl) rfl rfl (fun c47 => ?_) (fun c47 => ?_)
                            · skip
                              refine g_iconst 0 55 (gd rfl) rfl rfl ?_
                              refine g_aload_n 56 (gd rfl) rfl rfl ?_
                              refine g_getI 59 (gd rfl) rfl rfl rfl (fun z56 e56 => ?_)
                              have i56 := inv_F hI 0 4000 rfl e56
                              refine g_sipush 4000 62 (gd rfl) rfl rfl ?_
                              refine g_cmp_ge 65 69 (gd rfl) rfl rfl (fun c62 => ?_) (fun c62 => ?_)
                              · skip
                                have i62 := r_le2 4000 4000 c62 (in_c 4000 rfl) i56 rfl
                                refine g_iconst 0 70 (gd rfl) rfl rfl ?_
                                refine g_callv (X := _) (As := [.int (Int32.ofInt 0), .int (Int32.ofInt 0)]) (r := []) (b := A 109) (q := 109) 73 (gd rfl) rfl rfl rfl rfl rfl (ww_o rfl) (Nat.le_of_ble_eq_true rfl) (mc := 0) (ms := 0) (Nat.zero_le _) (Nat.zero_le _) (P := fun v u => _) ?_ (fun e u h => h) (fun v u h => h)
                                intro po70 xx70 hp70 hx70
                                refine g_enter2 (k := 270) (N := 300) (by omega) rfl (Nat.le_of_ble_eq_true rfl) ?_
                                refine g_aload_n 1 (gd rfl) rfl rfl ?_
                                refine g_iload_n 2 (gd rfl) rfl rfl ?_
                                refine g_if_ne 5 9 (gd rfl) rfl rfl (fun c70x2 => ?_) (fun c70x2 => ?_)
                                · skip
                                  exact zn_ne c70x2 (in_c 0 rfl) rfl
                                · skip
                                  refine g_iconst 1 6 (gd rfl) rfl rfl ?_
                                  refine g_goto 18 (gd rfl) rfl ?_
                                  refine g_putI 21 (gd rfl) rfl rfl rfl rfl ?_
                                  have hI70x18 := inv_sF (q := 109) (j := 0) hI rfl (in_w 0 2 (in_c 1 rfl) rfl)
                                  refine g_aload_n 22 (gd rfl) rfl rfl ?_
                                  refine g_getI 25 (gd rfl) rfl rfl rfl (fun z70x22 e70x22 => ?_)
                                  have q70x22 : (Int32.ofInt 1) = z70x22 := (sF_get).trans e70x22.symm
                                  subst q70x22
                                  refine g_if_le 28 32 (gd rfl) rfl rfl (fun c70x25 => ?_) (fun c70x25 => ?_)
                                  · skip
                                    exact zn_le c70x25 (in_c 1 rfl) rfl
                                  · skip
                                    refine g_iconst 1 29 (gd rfl) rfl rfl ?_
                                    refine g_goto 33 (gd rfl) rfl ?_
                                    refine g_ireturn (gd rfl) rfl (nb01 (in_w 0 1 (in_c 1 rfl) rfl)) (hp70 _ _ ?_)
                                    show GG _ _ _ _ _ _ _ _ [.int (Int32.ofInt 1)] _ _ _
                                    refine g_if_eq 76 78 (gd rfl) rfl rfl (fun c73 => ?_) (fun c73 => ?_)
                                    · skip
                                      exact zn_eq c73 (in_c 1 rfl) rfl
                                    · skip
                                      refine g_iconst 0 77 (gd rfl) rfl rfl ?_
                                      exact g_ireturn (gd rfl) rfl rfl (hP _ _ ⟨(sF s 109 0 (Int32.ofInt 1)), hI70x18, (fr_sF rfl fr_rf), (Int32.ofInt 0), rfl, rfl, in_w (-3) 159 (in_c 0 rfl) rfl⟩)
                              · skip
                                have i62 := r_lt1 0 3999 c62 i56 (in_c 4000 rfl) rfl
                                refine g_iconst 1 66 (gd rfl) rfl rfl ?_
                                refine g_goto 70 (gd rfl) rfl ?_
                                refine g_callv (X := _) (As := [.int (Int32.ofInt 0), .int (Int32.ofInt 1)]) (r := []) (b := A 109) (q := 109) 73 (gd rfl) rfl rfl rfl rfl rfl (ww_o rfl) (Nat.le_of_ble_eq_true rfl) (mc := 0) (ms := 0) (Nat.zero_le _) (Nat.zero_le _) (P := fun v u => _) ?_ (fun e u h => h) (fun v u h => h)
                                intro po70 xx70 hp70 hx70
                                refine g_enter2 (k := 270) (N := 300) (by omega) rfl (Nat.le_of_ble_eq_true rfl) ?_
                                refine g_aload_n 1 (gd rfl) rfl rfl ?_
                                refine g_iload_n 2 (gd rfl) rfl rfl ?_
                                refine g_if_ne 5 9 (gd rfl) rfl rfl (fun c70x2 => ?_) (fun c70x2 => ?_)
                                · skip
                                  exact zn_ne c70x2 (in_c 0 rfl) rfl
                                · skip
                                  refine g_iconst 1 6 (gd rfl) rfl rfl ?_
                                  refine g_goto 18 (gd rfl) rfl ?_
                                  refine g_putI 21 (gd rfl) rfl rfl rfl rfl ?_
                                  have hI70x18 := inv_sF (q := 109) (j := 0) hI rfl (in_w 0 2 (in_c 1 rfl) rfl)
                                  refine g_aload_n 22 (gd rfl) rfl rfl ?_
                                  refine g_getI 25 (gd rfl) rfl rfl rfl (fun z70x22 e70x22 => ?_)
                                  have q70x22 : (Int32.ofInt 1) = z70x22 := (sF_get).trans e70x22.symm
                                  subst q70x22
                                  refine g_if_le 28 32 (gd rfl) rfl rfl (fun c70x25 => ?_) (fun c70x25 => ?_)
                                  · skip
                                    exact zn_le c70x25 (in_c 1 rfl) rfl
                                  · skip
                                    refine g_iconst 1 29 (gd rfl) rfl rfl ?_
                                    refine g_goto 33 (gd rfl) rfl ?_
                                    refine g_ireturn (gd rfl) rfl (nb01 (in_w 0 1 (in_c 1 rfl) rfl)) (hp70 _ _ ?_)
                                    show GG _ _ _ _ _ _ _ _ [.int (Int32.ofInt 1)] _ _ _
                                    refine g_if_eq 76 78 (gd rfl) rfl rfl (fun c73 => ?_) (fun c73 => ?_)
                                    · skip
                                      exact zn_eq c73 (in_c 1 rfl) rfl
                                    · skip
                                      refine g_iconst 0 77 (gd rfl) rfl rfl ?_
                                      exact g_ireturn (gd rfl) rfl rfl (hP _ _ ⟨(sF s 109 0 (Int32.ofInt 1)), hI70x18, (fr_sF rfl fr_rf), (Int32.ofInt 0), rfl, rfl, in_w (-3) 159 (in_c 0 rfl) rfl⟩)
                            · skip
                              exact zn_ne c47 (in_c 0 rfl) rfl
                          · skip
                            have i44x3 := z_ge 0 1 c44x3 i44x2 rfl
                            have c44x3a := lc_ge e44x2 c44x3
                            have i44x3a := lr_le2 0 2147483647 c44x3a (l_c 0 rfl) i39 rfl
                            have i44x3b := l_b e39 i44x3a
                            refine g_lload_n 7 (gd rfl) rfl rfl ?_
                            refine g_lload 9 (gd rfl) rfl rfl ?_
                            refine g_lcmp 10 (gd rfl) rfl (fun z44x9 e44x9 => ?_)
                            have i44x9 := lc_in e44x9
                            refine g_if_gt 13 17 (gd rfl) rfl rfl (fun c44x10 => ?_) (fun c44x10 => ?_)
                            · skip
                              have i44x10 := z_gt 1 1 c44x10 i44x9 rfl
                              have c44x10a := lc_gt e44x9 c44x10
                              have i44x10a := lr_lt2 26 2147483647 c44x10a (l_c 25 rfl) i44x3a rfl
                              have i44x10b := l_b e39 i44x10a
                              refine g_iconst 0 18 (gd rfl) rfl rfl ?_
                              refine g_ireturn (gd rfl) rfl (nb01 (in_w 0 1 (in_c 0 rfl) rfl)) (hp44 _ _ ?_)
                              show GG _ _ _ _ _ _ _ _ [.int (Int32.ofInt 0), .ref (A 109)] _ _ _
                              refine g_if_eq 50 54 (gd rfl) rfl rfl (fun c47 => ?_) (fun c47 => ?_)
                              · skip
                                refine g_iconst 0 55 (gd rfl) rfl rfl ?_
                                refine g_aload_n 56 (gd rfl) rfl rfl ?_
                                refine g_getI 59 (gd rfl) rfl rfl rfl (fun z56 e56 => ?_)
                                have i56 := inv_F hI 0 4000 rfl e56
                                refine g_sipush 4000 62 (gd rfl) rfl rfl ?_
                                refine g_cmp_ge 65 69 (gd rfl) rfl rfl (fun c62 => ?_) (fun c62 => ?_)
                                · skip
                                  have i62 := r_le2 4000 4000 c62 (in_c 4000 rfl) i56 rfl
                                  refine g_iconst 0 70 (gd rfl) rfl rfl ?_
                                  refine g_callv (X := _) (As := [.int (Int32.ofInt 0), .int (Int32.ofInt 0)]) (r := []) (b := A 109) (q := 109) 73 (gd rfl) rfl rfl rfl rfl rfl (ww_o rfl) (Nat.le_of_ble_eq_true rfl) (mc := 0) (ms := 0) (Nat.zero_le _) (Nat.zero_le _) (P := fun v u => _) ?_ (fun e u h => h) (fun v u h => h)
                                  intro po70 xx70 hp70 hx70
                                  refine g_enter2 (k := 270) (N := 300) (by omega) rfl (Nat.le_of_ble_eq_true rfl) ?_
                                  refine g_aload_n 1 (gd rfl) rfl rfl ?_
                                  refine g_iload_n 2 (gd rfl) rfl rfl ?_
                                  refine g_if_ne 5 9 (gd rfl) rfl rfl (fun c70x2 => ?_) (fun c70x2 => ?_)
                                  · skip
                                    exact zn_ne c70x2 (in_c 0 rfl) rfl
                                  · skip
                                    refine g_iconst 1 6 (gd rfl) rfl rfl ?_
                                    refine g_goto 18 (gd rfl) rfl ?_
                                    refine g_putI 21 (gd rfl) rfl rfl rfl rfl ?_
                                    have hI70x18 := inv_sF (q := 109) (j := 0) hI rfl (in_w 0 2 (in_c 1 rfl) rfl)
                                    refine g_aload_n 22 (gd rfl) rfl rfl ?_
                                    refine g_getI 25 (gd rfl) rfl rfl rfl (fun z70x22 e70x22 => ?_)
                                    have q70x22 : (Int32.ofInt 1) = z70x22 := (sF_get).trans e70x22.symm
                                    subst q70x22
                                    refine g_if_le 28 32 (gd rfl) rfl rfl (fun c70x25 => ?_) (fun c70x25 => ?_)
                                    · skip
                                      exact zn_le c70x25 (in_c 1 rfl) rfl
                                    · skip
                                      refine g_iconst 1 29 (gd rfl) rfl rfl ?_
                                      refine g_goto 33 (gd rfl) rfl ?_
                                      refine g_ireturn (gd rfl) rfl (nb01 (in_w 0 1 (in_c 1 rfl) rfl)) (hp70 _ _ ?_)
                                      show GG _ _ _ _ _ _ _ _ [.int (Int32.ofInt 1)] _ _ _
                                      refine g_if_eq 76 78 (gd rfl) rfl rfl (fun c73 => ?_) (fun c73 => ?_)
                                      · skip
                                        exact zn_eq c73 (in_c 1 rfl) rfl
                                      · skip
                                        refine g_iconst 0 77 (gd rfl) rfl rfl ?_
                                        exact g_ireturn (gd rfl) rfl rfl (hP _ _ ⟨(sF s 109 0 (Int32.ofInt 1)), hI70x18, (fr_sF rfl fr_rf), (Int32.ofInt 0), rfl, rfl, in_w (-3) 159 (in_c 0 rfl) rfl⟩)
                                · skip
                                  have i62 := r_lt1 0 3999 c62 i56 (in_c 4000 rfl) rfl
                                  refine g_iconst 1 66 (gd rfl) rfl rfl ?_
                                  refine g_goto 70 (gd rfl) rfl ?_
                                  refine g_callv (X := _) (As := [.int (Int32.ofInt 0), .int (Int32.ofInt 1)]) (r := []) (b := A 109) (q := 109) 73 (gd rfl) rfl rfl rfl rfl rfl (ww_o rfl) (Nat.le_of_ble_eq_true rfl) (mc := 0) (ms := 0) (Nat.zero_le _) (Nat.zero_le _) (P := fun v u => _) ?_ (fun e u h => h) (fun v u h => h)
                                  intro po70 xx70 hp70 hx70
                                  refine g_enter2 (k := 270) (N := 300) (by omega) rfl (Nat.le_of_ble_eq_true rfl) ?_
                                  refine g_aload_n 1 (gd rfl) rfl rfl ?_
                                  refine g_iload_n 2 (gd rfl) rfl rfl ?_
                                  refine g_if_ne 5 9 (gd rfl) rfl rfl (fun c70x2 => ?_) (fun c70x2 => ?_)
                                  · skip
                                    exact zn_ne c70x2 (in_c 0 rfl) rfl
                                  · skip
                                    refine g_iconst 1 6 (gd rfl) rfl rfl ?_
                                    refine g_goto 18 (gd rfl) rfl ?_
                                    refine g_putI 21 (gd rfl) rfl rfl rfl rfl ?_
                                    have hI70x18 := inv_sF (q := 109) (j := 0) hI rfl (in_w 0 2 (in_c 1 rfl) rfl)
                                    refine g_aload_n 22 (gd rfl) rfl rfl ?_
                                    refine g_getI 25 (gd rfl) rfl rfl rfl (fun z70x22 e70x22 => ?_)
                                    have q70x22 : (Int32.ofInt 1) = z70x22 := (sF_get).trans e70x22.symm
                                    subst q70x22
                                    refine g_if_le 28 32 (gd rfl) rfl rfl (fun c70x25 => ?_) (fun c70x25 => ?_)
                                    · skip
                                      exact zn_le c70x25 (in_c 1 rfl) rfl
                                    · skip
                                      refine g_iconst 1 29 (gd rfl) rfl rfl ?_
                                      refine g_goto 33 (gd rfl) rfl ?_
                                      refine g_ireturn (gd rfl) rfl (nb01 (in_w 0 1 (in_c 1 rfl) rfl)) (hp70 _ _ ?_)
                                      show GG _ _ _ _ _ _ _ _ [.int (Int32.ofInt 1)] _ _ _
                                      refine g_if_eq 76 78 (gd rfl) rfl rfl (fun c73 => ?_) (fun c73 => ?_)
                                      · skip
                                        exact zn_eq c73 (in_c 1 rfl) rfl
                                      · skip
                                        refine g_iconst 0 77 (gd rfl) rfl rfl ?_
                                        exact g_ireturn (gd rfl) rfl rfl (hP _ _ ⟨(sF s 109 0 (Int32.ofInt 1)), hI70x18, (fr_sF rfl fr_rf), (Int32.ofInt 0), rfl, rfl, in_w (-3) 159 (in_c 0 rfl) rfl⟩)
                              · skip
                                exact zn_ne c47 (in_c 0 rfl) rfl
                            · skip
                              have i44x10 := z_le (-1) 0 c44x10 i44x9 rfl
                              have c44x10a := lc_le e44x9 c44x10
                              have i44x10a := lr_le1 0 25 c44x10a i44x3a (l_c 25 rfl) rfl
                              have i44x10b := l_b e39 i44x10a
                              refine g_iconst 1 14 (gd rfl) rfl rfl ?_
                              refine g_goto 18 (gd rfl) rfl ?_
                              refine g_ireturn (gd rfl) rfl (nb01 (in_w 0 1 (in_c 1 rfl) rfl)) (hp44 _ _ ?_)
                              show GG _ _ _ _ _ _ _ _ [.int (Int32.ofInt 1), .ref (A 109)] _ _ _
                              refine g_if_eq 50 54 (gd rfl) rfl rfl (fun c47 => ?_) (fun c47 => ?_)
                              · skip
                                exact zn_eq c47 (in_c 1 rfl) rfl
                              · skip
                                refine g_iconst 1 51 (gd rfl) rfl rfl ?_
                                refine g_goto 55 (gd rfl) rfl ?_
                                refine g_aload_n 56 (gd rfl) rfl rfl ?_
                                refine g_getI 59 (gd rfl) rfl rfl rfl (fun z56 e56 => ?_)
                                have i56 := inv_F hI 0 4000 rfl e56
                                refine g_sipush 4000 62 (gd rfl) rfl rfl ?_
                                refine g_cmp_ge 65 69 (gd rfl) rfl rfl (fun c62 => ?_) (fun c62 => ?_)
                                · skip
                                  have i62 := r_le2 4000 4000 c62 (in_c 4000 rfl) i56 rfl
                                  refine g_iconst 0 70 (gd rfl) rfl rfl ?_
                                  refine g_callv (X := _) (As := [.int (Int32.ofInt 1), .int (Int32.ofInt 0)]) (r := []) (b := A 109) (q := 109) 73 (gd rfl) rfl rfl rfl rfl rfl (ww_o rfl) (Nat.le_of_ble_eq_true rfl) (mc := 0) (ms := 0) (Nat.zero_le _) (Nat.zero_le _) (P := fun v u => _) ?_ (fun e u h => h) (fun v u h => h)
                                  intro po70 xx70 hp70 hx70
                                  refine g_enter2 (k := 270) (N := 300) (by omega) rfl (Nat.le_of_ble_eq_true rfl) ?_
                                  refine g_aload_n 1 (gd rfl) rfl rfl ?_
                                  refine g_iload_n 2 (gd rfl) rfl rfl ?_
                                  refine g_if_ne 5 9 (gd rfl) rfl rfl (fun c70x2 => ?_) (fun c70x2 => ?_)
                                  · skip
                                    refine g_iload_n 10 (gd rfl) rfl rfl ?_
                                    refine g_if_ne 13 17 (gd rfl) rfl rfl (fun c70x10 => ?_) (fun c70x10 => ?_)
                                    · skip
                                      exact zn_ne c70x10 (in_c 0 rfl) rfl
                                    · skip
                                      refine g_iconst 2 14 (gd rfl) rfl rfl ?_
                                      refine g_goto 18 (gd rfl) rfl ?_
                                      refine g_putI 21 (gd rfl) rfl rfl rfl rfl ?_
                                      have hI70x18 := inv_sF (q := 109) (j := 0) hI rfl (in_w 0 2 (in_c 2 rfl) rfl)
                                      refine g_aload_n 22 (gd rfl) rfl rfl ?_
                                      refine g_getI 25 (gd rfl) rfl rfl rfl (fun z70x22 e70x22 => ?_)
                                      have q70x22 : (Int32.ofInt 2) = z70x22 := (sF_get).trans e70x22.symm
                                      subst q70x22
                                      refine g_if_le 28 32 (gd rfl) rfl rfl (fun c70x25 => ?_) (fun c70x25 => ?_)
                                      · skip
                                        exact zn_le c70x25 (in_c 2 rfl) rfl
                                      · skip
                                        refine g_iconst 1 29 (gd rfl) rfl rfl ?_
                                        refine g_goto 33 (gd rfl) rfl ?_
                                        refine g_ireturn (gd rfl) rfl (nb01 (in_w 0 1 (in_c 1 rfl) rfl)) (hp70 _ _ ?_)
                                        show GG _ _ _ _ _ _ _ _ [.int (Int32.ofInt 1)] _ _ _
                                        refine g_if_eq 76 78 (gd rfl) rfl rfl (fun c73 => ?_) (fun c73 => ?_)
                                        · skip
                                          exact zn_eq c73 (in_c 1 rfl) rfl
                                        · skip
                                          refine g_iconst 0 77 (gd rfl) rfl rfl ?_
                                          exact g_ireturn (gd rfl) rfl rfl (hP _ _ ⟨(sF s 109 0 (Int32.ofInt 2)), hI70x18, (fr_sF rfl fr_rf), (Int32.ofInt 0), rfl, rfl, in_w (-3) 159 (in_c 0 rfl) rfl⟩)
                                  · skip
                                    exact zn_eq c70x2 (in_c 1 rfl) rfl
                                · skip
                                  have i62 := r_lt1 0 3999 c62 i56 (in_c 4000 rfl) rfl
                                  refine g_iconst 1 66 (gd rfl) rfl rfl ?_
                                  refine g_goto 70 (gd rfl) rfl ?_
                                  refine g_callv (X := _) (As := [.int (Int32.ofInt 1), .int (Int32.ofInt 1)]) (r := []) (b := A 109) (q := 109) 73 (gd rfl) rfl rfl rfl rfl rfl (ww_o rfl) (Nat.le_of_ble_eq_true rfl) (mc := 0) (ms := 0) (Nat.zero_le _) (Nat.zero_le _) (P := fun v u => _) ?_ (fun e u h => h) (fun v u h => h)
                                  intro po70 xx70 hp70 hx70
                                  refine g_enter2 (k := 270) (N := 300) (by omega) rfl (Nat.le_of_ble_eq_true rfl) ?_
                                  refine g_aload_n 1 (gd rfl) rfl rfl ?_
                                  refine g_iload_n 2 (gd rfl) rfl rfl ?_
                                  refine g_if_ne 5 9 (gd rfl) rfl rfl (fun c70x2 => ?_) (fun c70x2 => ?_)
                                  · skip
                                    refine g_iload_n 10 (gd rfl) rfl rfl ?_
                                    refine g_if_ne 13 17 (gd rfl) rfl rfl (fun c70x10 => ?_) (fun c70x10 => ?_)
                                    · skip
                                      refine g_iconst 0 18 (gd rfl) rfl rfl ?_
                                      refine g_putI 21 (gd rfl) rfl rfl rfl rfl ?_
                                      have hI70x18 := inv_sF (q := 109) (j := 0) hI rfl (in_w 0 2 (in_c 0 rfl) rfl)
                                      refine g_aload_n 22 (gd rfl) rfl rfl ?_
                                      refine g_getI 25 (gd rfl) rfl rfl rfl (fun z70x22 e70x22 => ?_)
                                      have q70x22 : (Int32.ofInt 0) = z70x22 := (sF_get).trans e70x22.symm
                                      subst q70x22
                                      refine g_if_le 28 32 (gd rfl) rfl rfl (fun c70x25 => ?_) (fun c70x25 => ?_)
                                      · skip
                                        refine g_iconst 0 33 (gd rfl) rfl rfl ?_
                                        refine g_ireturn (gd rfl) rfl (nb01 (in_w 0 1 (in_c 0 rfl) rfl)) (hp70 _ _ ?_)
                                        show GG _ _ _ _ _ _ _ _ [.int (Int32.ofInt 0)] _ _ _
                                        refine g_if_eq 76 78 (gd rfl) rfl rfl (fun c73 => ?_) (fun c73 => ?_)
                                        · skip
                                          refine g_aload_n 79 (gd rfl) rfl rfl ?_
                                          refine g_iconst 0 80 (gd rfl) rfl rfl ?_
                                          refine g_callv (X := _) (As := [.int (Int32.ofInt 0)]) (r := []) (b := A 109) (q := 109) 83 (gd rfl) rfl rfl rfl rfl rfl (ww_o rfl) (Nat.le_of_ble_eq_true rfl) (Nat.zero_le _) (Nat.zero_le _) (k_280 (by omega) hI70x18 (in_w 0 2 (in_c 0 rfl) rfl)) (fun e u h => h) (fun v u h => ?_)
                                          obtain ⟨z80, rfl, rfl, i80, p80⟩ := h
                                          show GG _ _ _ _ _ _ _ _ [.int z80] _ _ _
                                          refine g_istore 85 (gd rfl) rfl (Nat.le_of_ble_eq_true rfl) ?_
                                          refine g_iload 87 (gd rfl) rfl rfl ?_
                                          refine g_sipush 160 90 (gd rfl) rfl rfl ?_
                                          refine g_cmp_ne 93 96 (gd rfl) rfl rfl (fun c90 => ?_) (fun c90 => ?_)
                                          · skip
                                            have i90 := r_ne1 0 159 c90 i80 (in_c 160 rfl) rfl
                                            refine g_aload_n 97 (gd rfl) rfl rfl ?_
                                            refine g_iconst 1 98 (gd rfl) rfl rfl ?_
                                            refine g_iload 100 (gd rfl) rfl rfl ?_
                                            refine g_iload_n 101 (gd rfl) rfl rfl ?_
                                            refine g_iload_n 102 (gd rfl) rfl rfl ?_
                                            refine g_iload_n 103 (gd rfl) rfl rfl ?_
                                            refine g_iload 105 (gd rfl) rfl rfl ?_
                                            refine g_iload 107 (gd rfl) rfl rfl ?_
                                            have v107 : z56 = (sF s 109 0 (Int32.ofInt 0)).2.2.1 109 9 := sF_ne rfl (e56)
                                            have p107 : MK (sF s 109 0 (Int32.ofInt 0)) (Int32.ofInt 1) z80 x1 x2 := by refine ⟨fun h => absurd h (by decide), fun _ => ?_, fun h => absurd h (by decide), fun h => absurd h (by decide), fun h => absurd h (by decide)⟩; have e0 : ((sF s 109 0 (Int32.ofInt 0))).1 110 0 = z3x10 := e3x10.symm; rw [e0]; exact ⟨c3x11, by have a0 := i44x10b; unfold In at a0; have a1 := i31x10b; unfold In at a1; have a2 := i18x8x10b; unfold In at a2; have a3 := i11x11; unfold In at a3; have a4 := i3x11; unfold In at a4; have a5 := i90; unfold In at a5; have a6 := (in_c 0 rfl); unfold In at a6; have a7 := i62; unfold In at a7; have a8 := tx_i2l e39; have a9 := tx_i2l e26; have a10 := tx_i2l e18x1; omega, c11x11⟩
                                            refine g_callv (X := _) (As := [.int (Int32.ofInt 1), .int z80, .int x1, .int x2, .int x3, .int x4, .int x5]) (r := []) (b := A 109) (q := 109) 110 (gd rfl) rfl rfl rfl rfl rfl (ww_o rfl) (Nat.le_of_ble_eq_true rfl) (Nat.zero_le _) (Nat.zero_le _) (k_274 (by omega) hI70x18 (in_w 0 4 (in_c 1 rfl) rfl) (in_w 0 159 i90 rfl) (in_w 0 31 i3x11 rfl) (in_w (-1000000) 1000000 i11x11 rfl) (in_w (-1000000) 1000000 i18x8x10b rfl) (in_w 0 1000000 i31x10b rfl) (in_w 0 25 i44x10b rfl) v107 (in_w 0 3999 i62 rfl) p107) (fun e u h => h) (fun v u h => ?_)
                                            obtain ⟨s107, hI107, hF107, n107, rfl, rfl, p107a⟩ := h
                                            obtain ⟨z107a, e107⟩ : ∃ w, w = s107.2.2.1 109 9 := ⟨_, rfl⟩
                                            have i107a := inv_F hI107 0 4000 rfl e107
                                            rw [← (show z56 = (sF s 109 0 (Int32.ofInt 0)).2.2.1 109 9 from sF_ne rfl (e56))] at n107
                                            rw [← (show z107a = s107.2.2.1 109 9 from e107)] at n107
                                            show GG _ _ _ _ _ _ _ _ [] _ _ _
                                            refine g_iload 112 (gd rfl) rfl rfl ?_
                                            exact g_ireturn (gd rfl) rfl rfl (hP _ _ ⟨s107, hI107, (fr_tr rfl (fr_sF rfl fr_rf) hF107), z80, rfl, rfl, in_w (-3) 159 i90 rfl⟩)
                                          · skip
                                            have i90 := r_eq1 160 160 c90 i80 (in_c 160 rfl) rfl
                                            refine g_bipush (-3) 95 (gd rfl) rfl rfl ?_
                                            exact g_ireturn (gd rfl) rfl rfl (hP _ _ ⟨(sF s 109 0 (Int32.ofInt 0)), hI70x18, (fr_sF rfl fr_rf), (Int32.ofInt (-3)), rfl, rfl, in_w (-3) 159 (in_c (-3) rfl) rfl⟩)
                                        · skip
                                          exact zn_ne c73 (in_c 0 rfl) rfl
                                      · skip
                                        exact zn_gt c70x25 (in_c 0 rfl) rfl
                                    · skip
                                      exact zn_eq c70x10 (in_c 1 rfl) rfl
                                  · skip
                                    exact zn_eq c70x2 (in_c 1 rfl) rfl

def fm_283 : FM := ([110, 111, 112, 113, 114, 115, 116, 117, 118, 119, 120, 121, 122, 123, 124], [], [(109, 0), (109, 9), (109, 18), (109, 19), (109, 20)], [])
/-- GraphHouseModel.take -/
theorem k_283 {Z : AmZ} {A : Nat → Nat} {s : GS} {ex : va_W} {d : Nat} {X : AmX} {x1 : Int32} (hd : 3 ≤ d) (hI : Inv s)  : GC Z d 283 [.ref (A 109), .int x1] (WW Z A s ++ ex) 0 0 (fun v u => ∃ t : GS, Inv t ∧ Fr fm_283 s t ∧ ∃ z : Int32, v = some (.int z) ∧ u = WW Z A t ++ ex ∧ In z 0 4000) X := by
  intro post xp hP hX
  refine g_enter2 (k := 283) (N := 900) (by omega) rfl (Nat.le_of_ble_eq_true rfl) ?_
  refine g_aload_n 1 (gd rfl) rfl rfl ?_
  refine g_aload_n 2 (gd rfl) rfl rfl ?_
  refine g_iload_n 3 (gd rfl) rfl rfl ?_
  refine g_callv (X := _) (As := [.int x1]) (r := [.ref (A 109)]) (b := A 109) (q := 109) 6 (gd rfl) rfl rfl rfl rfl rfl (ww_o rfl) (Nat.le_of_ble_eq_true rfl) (mc := 0) (ms := 0) (Nat.zero_le _) (Nat.zero_le _) (P := fun v u => _) ?_ (fun e u h => h) (fun v u h => h)
  intro po3 xx3 hp3 hx3
  refine g_enter2 (k := 278) (N := 300) (by omega) rfl (Nat.le_of_ble_eq_true rfl) ?_
  refine g_iload_n 1 (gd rfl) rfl rfl ?_
  refine g_if_lt 4 24 (gd rfl) rfl rfl (fun c3x1 => ?_) (fun c3x1 => ?_)
  · skip
    have i3x1 := z_lt (-2147483648) (-1) c3x1 (i_rng x1) rfl
    refine g_iconst 0 25 (gd rfl) rfl rfl ?_
    refine g_ireturn (gd rfl) rfl (nb01 (in_w 0 1 (in_c 0 rfl) rfl)) (hp3 _ _ ?_)
    show GG _ _ _ _ _ _ _ _ [.int (Int32.ofInt 0), .ref (A 109)] _ _ _
    refine g_aload_n 7 (gd rfl) rfl rfl ?_
    refine g_getI 10 (gd rfl) rfl rfl rfl (fun z7 e7 => ?_)
    have i7 := inv_F hI 0 4000 rfl e7
    refine g_sipush 4000 13 (gd rfl) rfl rfl ?_
    refine g_cmp_ge 16 20 (gd rfl) rfl rfl (fun c13 => ?_) (fun c13 => ?_)
    · skip
      have i13 := r_le2 4000 4000 c13 (in_c 4000 rfl) i7 rfl
      refine g_iconst 0 21 (gd rfl) rfl rfl ?_
      refine g_callv (X := _) (As := [.int (Int32.ofInt 0), .int (Int32.ofInt 0)]) (r := []) (b := A 109) (q := 109) 24 (gd rfl) rfl rfl rfl rfl rfl (ww_o rfl) (Nat.le_of_ble_eq_true rfl) (mc := 0) (ms := 0) (Nat.zero_le _) (Nat.zero_le _) (P := fun v u => _) ?_ (fun e u h => h) (fun v u h => h)
      intro po21 xx21 hp21 hx21
      refine g_enter2 (k := 270) (N := 300) (by omega) rfl (Nat.le_of_ble_eq_true rfl) ?_
      refine g_aload_n 1 (gd rfl) rfl rfl ?_
      refine g_iload_n 2 (gd rfl) rfl rfl ?_
      refine g_if_ne 5 9 (gd rfl) rfl rfl (fun c21x2 => ?_) (fun c21x2 => ?_)
      · skip
        exact zn_ne c21x2 (in_c 0 rfl) rfl
      · skip
        refine g_iconst 1 6 (gd rfl) rfl rfl ?_
        refine g_goto 18 (gd rfl) rfl ?_
        refine g_putI 21 (gd rfl) rfl rfl rfl rfl ?_
        have hI21x18 := inv_sF (q := 109) (j := 0) hI rfl (in_w 0 2 (in_c 1 rfl) rfl)
        refine g_aload_n 22 (gd rfl) rfl rfl ?_
        refine g_getI 25 (gd rfl) rfl rfl rfl (fun z21x22 e21x22 => ?_)
        have q21x22 : (Int32.ofInt 1) = z21x22 := (sF_get).trans e21x22.symm
        subst q21x22
        refine g_if_le 28 32 (gd rfl) rfl rfl (fun c21x25 => ?_) (fun c21x25 => ?_)
        · skip
          exact zn_le c21x25 (in_c 1 rfl) rfl
        · skip
          refine g_iconst 1 29 (gd rfl) rfl rfl ?_
          refine g_goto 33 (gd rfl) rfl ?_
          refine g_ireturn (gd rfl) rfl (nb01 (in_w 0 1 (in_c 1 rfl) rfl)) (hp21 _ _ ?_)
          show GG _ _ _ _ _ _ _ _ [.int (Int32.ofInt 1)] _ _ _
          refine g_if_eq 27 29 (gd rfl) rfl rfl (fun c24 => ?_) (fun c24 => ?_)
          · skip
            exact zn_eq c24 (in_c 1 rfl) rfl
          · skip
            refine g_iconst 0 28 (gd rfl) rfl rfl ?_
            exact g_ireturn (gd rfl) rfl rfl (hP _ _ ⟨(sF s 109 0 (Int32.ofInt 1)), hI21x18, (fr_sF rfl fr_rf), (Int32.ofInt 0), rfl, rfl, in_w 0 4000 (in_c 0 rfl) rfl⟩)
    · skip
      have i13 := r_lt1 0 3999 c13 i7 (in_c 4000 rfl) rfl
      refine g_iconst 1 17 (gd rfl) rfl rfl ?_
      refine g_goto 21 (gd rfl) rfl ?_
      refine g_callv (X := _) (As := [.int (Int32.ofInt 0), .int (Int32.ofInt 1)]) (r := []) (b := A 109) (q := 109) 24 (gd rfl) rfl rfl rfl rfl rfl (ww_o rfl) (Nat.le_of_ble_eq_true rfl) (mc := 0) (ms := 0) (Nat.zero_le _) (Nat.zero_le _) (P := fun v u => _) ?_ (fun e u h => h) (fun v u h => h)
      intro po21 xx21 hp21 hx21
      refine g_enter2 (k := 270) (N := 300) (by omega) rfl (Nat.le_of_ble_eq_true rfl) ?_
      refine g_aload_n 1 (gd rfl) rfl rfl ?_
      refine g_iload_n 2 (gd rfl) rfl rfl ?_
      refine g_if_ne 5 9 (gd rfl) rfl rfl (fun c21x2 => ?_) (fun c21x2 => ?_)
      · skip
        exact zn_ne c21x2 (in_c 0 rfl) rfl
      · skip
        refine g_iconst 1 6 (gd rfl) rfl rfl ?_
        refine g_goto 18 (gd rfl) rfl ?_
        refine g_putI 21 (gd rfl) rfl rfl rfl rfl ?_
        have hI21x18 := inv_sF (q := 109) (j := 0) hI rfl (in_w 0 2 (in_c 1 rfl) rfl)
        refine g_aload_n 22 (gd rfl) rfl rfl ?_
        refine g_getI 25 (gd rfl) rfl rfl rfl (fun z21x22 e21x22 => ?_)
        have q21x22 : (Int32.ofInt 1) = z21x22 := (sF_get).trans e21x22.symm
        subst q21x22
        refine g_if_le 28 32 (gd rfl) rfl rfl (fun c21x25 => ?_) (fun c21x25 => ?_)
        · skip
          exact zn_le c21x25 (in_c 1 rfl) rfl
        · skip
          refine g_iconst 1 29 (gd rfl) rfl rfl ?_
          refine g_goto 33 (gd rfl) rfl ?_
          refine g_ireturn (gd rfl) rfl (nb01 (in_w 0 1 (in_c 1 rfl) rfl)) (hp21 _ _ ?_)
          show GG _ _ _ _ _ _ _ _ [.int (Int32.ofInt 1)] _ _ _
          refine g_if_eq 27 29 (gd rfl) rfl rfl (fun c24 => ?_) (fun c24 => ?_)
          · skip
            exact zn_eq c24 (in_c 1 rfl) rfl
          · skip
            refine g_iconst 0 28 (gd rfl) rfl rfl ?_
            exact g_ireturn (gd rfl) rfl rfl (hP _ _ ⟨(sF s 109 0 (Int32.ofInt 1)), hI21x18, (fr_sF rfl fr_rf), (Int32.ofInt 0), rfl, rfl, in_w 0 4000 (in_c 0 rfl) rfl⟩)
  · skip
    have i3x1 := z_ge 0 2147483647 c3x1 (i_rng x1) rfl
    refine g_iload_n 5 (gd rfl) rfl rfl ?_
    refine g_sipush 160 8 (gd rfl) rfl rfl ?_
    refine g_cmp_ge 11 24 (gd rfl) rfl rfl (fun c3x8 => ?_) (fun c3x8 => ?_)
    · skip
      have i3x8 := r_le2 160 2147483647 c3x8 (in_c 160 rfl) i3x1 rfl
      refine g_iconst 0 25 (gd rfl) rfl rfl ?_
      refine g_ireturn (gd rfl) rfl (nb01 (in_w 0 1 (in_c 0 rfl) rfl)) (hp3 _ _ ?_)
      show GG _ _ _ _ _ _ _ _ [.int (Int32.ofInt 0), .ref (A 109)] _ _ _
      refine g_aload_n 7 (gd rfl) rfl rfl ?_
      refine g_getI 10 (gd rfl) rfl rfl rfl (fun z7 e7 => ?_)
      have i7 := inv_F hI 0 4000 rfl e7
      refine g_sipush 4000 13 (gd rfl) rfl rfl ?_
      refine g_cmp_ge 16 20 (gd rfl) rfl rfl (fun c13 => ?_) (fun c13 => ?_)
      · skip
        have i13 := r_le2 4000 4000 c13 (in_c 4000 rfl) i7 rfl
        refine g_iconst 0 21 (gd rfl) rfl rfl ?_
        refine g_callv (X := _) (As := [.int (Int32.ofInt 0), .int (Int32.ofInt 0)]) (r := []) (b := A 109) (q := 109) 24 (gd rfl) rfl rfl rfl rfl rfl (ww_o rfl) (Nat.le_of_ble_eq_true rfl) (mc := 0) (ms := 0) (Nat.zero_le _) (Nat.zero_le _) (P := fun v u => _) ?_ (fun e u h => h) (fun v u h => h)
        intro po21 xx21 hp21 hx21
        refine g_enter2 (k := 270) (N := 300) (by omega) rfl (Nat.le_of_ble_eq_true rfl) ?_
        refine g_aload_n 1 (gd rfl) rfl rfl ?_
        refine g_iload_n 2 (gd rfl) rfl rfl ?_
        refine g_if_ne 5 9 (gd rfl) rfl rfl (fun c21x2 => ?_) (fun c21x2 => ?_)
        · skip
          exact zn_ne c21x2 (in_c 0 rfl) rfl
        · skip
          refine g_iconst 1 6 (gd rfl) rfl rfl ?_
          refine g_goto 18 (gd rfl) rfl ?_
          refine g_putI 21 (gd rfl) rfl rfl rfl rfl ?_
          have hI21x18 := inv_sF (q := 109) (j := 0) hI rfl (in_w 0 2 (in_c 1 rfl) rfl)
          refine g_aload_n 22 (gd rfl) rfl rfl ?_
          refine g_getI 25 (gd rfl) rfl rfl rfl (fun z21x22 e21x22 => ?_)
          have q21x22 : (Int32.ofInt 1) = z21x22 := (sF_get).trans e21x22.symm
          subst q21x22
          refine g_if_le 28 32 (gd rfl) rfl rfl (fun c21x25 => ?_) (fun c21x25 => ?_)
          · skip
            exact zn_le c21x25 (in_c 1 rfl) rfl
          · skip
            refine g_iconst 1 29 (gd rfl) rfl rfl ?_
            refine g_goto 33 (gd rfl) rfl ?_
            refine g_ireturn (gd rfl) rfl (nb01 (in_w 0 1 (in_c 1 rfl) rfl)) (hp21 _ _ ?_)
            show GG _ _ _ _ _ _ _ _ [.int (Int32.ofInt 1)] _ _ _
            refine g_if_eq 27 29 (gd rfl) rfl rfl (fun c24 => ?_) (fun c24 => ?_)
            · skip
              exact zn_eq c24 (in_c 1 rfl) rfl
            · skip
              refine g_iconst 0 28 (gd rfl) rfl rfl ?_
              exact g_ireturn (gd rfl) rfl rfl (hP _ _ ⟨(sF s 109 0 (Int32.ofInt 1)), hI21x18, (fr_sF rfl fr_rf), (Int32.ofInt 0), rfl, rfl, in_w 0 4000 (in_c 0 rfl) rfl⟩)
      · skip
        have i13 := r_lt1 0 3999 c13 i7 (in_c 4000 rfl) rfl
        refine g_iconst 1 17 (gd rfl) rfl rfl ?_
        refine g_goto 21 (gd rfl) rfl ?_
        refine g_callv (X := _) (As := [.int (Int32.ofInt 0), .int (Int32.ofInt 1)]) (r := []) (b := A 109) (q := 109) 24 (gd rfl) rfl rfl rfl rfl rfl (ww_o rfl) (Nat.le_of_ble_eq_true rfl) (mc := 0) (ms := 0) (Nat.zero_le _) (Nat.zero_le _) (P := fun v u => _) ?_ (fun e u h => h) (fun v u h => h)
        intro po21 xx21 hp21 hx21
        refine g_enter2 (k := 270) (N := 300) (by omega) rfl (Nat.le_of_ble_eq_true rfl) ?_
        refine g_aload_n 1 (gd rfl) rfl rfl ?_
        refine g_iload_n 2 (gd rfl) rfl rfl ?_
        refine g_if_ne 5 9 (gd rfl) rfl rfl (fun c21x2 => ?_) (fun c21x2 => ?_)
        · skip
          exact zn_ne c21x2 (in_c 0 rfl) rfl
        · skip
          refine g_iconst 1 6 (gd rfl) rfl rfl ?_
          refine g_goto 18 (gd rfl) rfl ?_
          refine g_putI 21 (gd rfl) rfl rfl rfl rfl ?_
          have hI21x18 := inv_sF (q := 109) (j := 0) hI rfl (in_w 0 2 (in_c 1 rfl) rfl)
          refine g_aload_n 22 (gd rfl) rfl rfl ?_
          refine g_getI 25 (gd rfl) rfl rfl rfl (fun z21x22 e21x22 => ?_)
          have q21x22 : (Int32.ofInt 1) = z21x22 := (sF_get).trans e21x22.symm
          subst q21x22
          refine g_if_le 28 32 (gd rfl) rfl rfl (fun c21x25 => ?_) (fun c21x25 => ?_)
          · skip
            exact zn_le c21x25 (in_c 1 rfl) rfl
          · skip
            refine g_iconst 1 29 (gd rfl) rfl rfl ?_
            refine g_goto 33 (gd rfl) rfl ?_
            refine g_ireturn (gd rfl) rfl (nb01 (in_w 0 1 (in_c 1 rfl) rfl)) (hp21 _ _ ?_)
            show GG _ _ _ _ _ _ _ _ [.int (Int32.ofInt 1)] _ _ _
            refine g_if_eq 27 29 (gd rfl) rfl rfl (fun c24 => ?_) (fun c24 => ?_)
            · skip
              exact zn_eq c24 (in_c 1 rfl) rfl
            · skip
              refine g_iconst 0 28 (gd rfl) rfl rfl ?_
              exact g_ireturn (gd rfl) rfl rfl (hP _ _ ⟨(sF s 109 0 (Int32.ofInt 1)), hI21x18, (fr_sF rfl fr_rf), (Int32.ofInt 0), rfl, rfl, in_w 0 4000 (in_c 0 rfl) rfl⟩)
    · skip
      have i3x8 := r_lt1 0 159 c3x8 i3x1 (in_c 160 rfl) rfl
      refine g_aload_n 12 (gd rfl) rfl rfl ?_
      refine g_getA (q2 := 112) 15 (gd rfl) rfl rfl rfl rfl ?_
      refine g_iload_n 16 (gd rfl) rfl rfl ?_
      refine g_baload 17 (gd rfl) rfl (n := 480) rfl (in_ix i3x8 rfl) (fun z3x16 e3x16 => ?_)
      have i3x16 := inv_I hI (n := 480) (t := 3) 0 1 rfl (in_ix i3x8 rfl) rfl e3x16
      refine g_if_eq 20 24 (gd rfl) rfl rfl (fun c3x17 => ?_) (fun c3x17 => ?_)
      · skip
        have i3x17 := z_eq 0 0 c3x17 i3x16 rfl
        refine g_iconst 0 25 (gd rfl) rfl rfl ?_
        refine g_ireturn (gd rfl) rfl (nb01 (in_w 0 1 (in_c 0 rfl) rfl)) (hp3 _ _ ?_)
        show GG _ _ _ _ _ _ _ _ [.int (Int32.ofInt 0), .ref (A 109)] _ _ _
        refine g_aload_n 7 (gd rfl) rfl rfl ?_
        refine g_getI 10 (gd rfl) rfl rfl rfl (fun z7 e7 => ?_)
        have i7 := inv_F hI 0 4000 rfl e7
        refine g_sipush 4000 13 (gd rfl) rfl rfl ?_
        refine g_cmp_ge 16 20 (gd rfl) rfl rfl (fun c13 => ?_) (fun c13 => ?_)
        · skip
          have i13 := r_le2 4000 4000 c13 (in_c 4000 rfl) i7 rfl
          refine g_iconst 0 21 (gd rfl) rfl rfl ?_
          refine g_callv (X := _) (As := [.int (Int32.ofInt 0), .int (Int32.ofInt 0)]) (r := []) (b := A 109) (q := 109) 24 (gd rfl) rfl rfl rfl rfl rfl (ww_o rfl) (Nat.le_of_ble_eq_true rfl) (mc := 0) (ms := 0) (Nat.zero_le _) (Nat.zero_le _) (P := fun v u => _) ?_ (fun e u h => h) (fun v u h => h)
          intro po21 xx21 hp21 hx21
          refine g_enter2 (k := 270) (N := 300) (by omega) rfl (Nat.le_of_ble_eq_true rfl) ?_
          refine g_aload_n 1 (gd rfl) rfl rfl ?_
          refine g_iload_n 2 (gd rfl) rfl rfl ?_
          refine g_if_ne 5 9 (gd rfl) rfl rfl (fun c21x2 => ?_) (fun c21x2 => ?_)
          · skip
            exact zn_ne c21x2 (in_c 0 rfl) rfl
          · skip
            refine g_iconst 1 6 (gd rfl) rfl rfl ?_
            refine g_goto 18 (gd rfl) rfl ?_
            refine g_putI 21 (gd rfl) rfl rfl rfl rfl ?_
            have hI21x18 := inv_sF (q := 109) (j := 0) hI rfl (in_w 0 2 (in_c 1 rfl) rfl)
            refine g_aload_n 22 (gd rfl) rfl rfl ?_
            refine g_getI 25 (gd rfl) rfl rfl rfl (fun z21x22 e21x22 => ?_)
            have q21x22 : (Int32.ofInt 1) = z21x22 := (sF_get).trans e21x22.symm
            subst q21x22
            refine g_if_le 28 32 (gd rfl) rfl rfl (fun c21x25 => ?_) (fun c21x25 => ?_)
            · skip
              exact zn_le c21x25 (in_c 1 rfl) rfl
            · skip
              refine g_iconst 1 29 (gd rfl) rfl rfl ?_
              refine g_goto 33 (gd rfl) rfl ?_
              refine g_ireturn (gd rfl) rfl (nb01 (in_w 0 1 (in_c 1 rfl) rfl)) (hp21 _ _ ?_)
              show GG _ _ _ _ _ _ _ _ [.int (Int32.ofInt 1)] _ _ _
              refine g_if_eq 27 29 (gd rfl) rfl rfl (fun c24 => ?_) (fun c24 => ?_)
              · skip
                exact zn_eq c24 (in_c 1 rfl) rfl
              · skip
                refine g_iconst 0 28 (gd rfl) rfl rfl ?_
                exact g_ireturn (gd rfl) rfl rfl (hP _ _ ⟨(sF s 109 0 (Int32.ofInt 1)), hI21x18, (fr_sF rfl fr_rf), (Int32.ofInt 0), rfl, rfl, in_w 0 4000 (in_c 0 rfl) rfl⟩)
        · skip
          have i13 := r_lt1 0 3999 c13 i7 (in_c 4000 rfl) rfl
          refine g_iconst 1 17 (gd rfl) rfl rfl ?_
          refine g_goto 21 (gd rfl) rfl ?_
          refine g_callv (X := _) (As := [.int (Int32.ofInt 0), .int (Int32.ofInt 1)]) (r := []) (b := A 109) (q := 109) 24 (gd rfl) rfl rfl rfl rfl rfl (ww_o rfl) (Nat.le_of_ble_eq_true rfl) (mc := 0) (ms := 0) (Nat.zero_le _) (Nat.zero_le _) (P := fun v u => _) ?_ (fun e u h => h) (fun v u h => h)
          intro po21 xx21 hp21 hx21
          refine g_enter2 (k := 270) (N := 300) (by omega) rfl (Nat.le_of_ble_eq_true rfl) ?_
          refine g_aload_n 1 (gd rfl) rfl rfl ?_
          refine g_iload_n 2 (gd rfl) rfl rfl ?_
          refine g_if_ne 5 9 (gd rfl) rfl rfl (fun c21x2 => ?_) (fun c21x2 => ?_)
          · skip
            exact zn_ne c21x2 (in_c 0 rfl) rfl
          · skip
            refine g_iconst 1 6 (gd rfl) rfl rfl ?_
            refine g_goto 18 (gd rfl) rfl ?_
            refine g_putI 21 (gd rfl) rfl rfl rfl rfl ?_
            have hI21x18 := inv_sF (q := 109) (j := 0) hI rfl (in_w 0 2 (in_c 1 rfl) rfl)
            refine g_aload_n 22 (gd rfl) rfl rfl ?_
            refine g_getI 25 (gd rfl) rfl rfl rfl (fun z21x22 e21x22 => ?_)
            have q21x22 : (Int32.ofInt 1) = z21x22 := (sF_get).trans e21x22.symm
            subst q21x22
            refine g_if_le 28 32 (gd rfl) rfl rfl (fun c21x25 => ?_) (fun c21x25 => ?_)
            · skip
              exact zn_le c21x25 (in_c 1 rfl) rfl
            · skip
              refine g_iconst 1 29 (gd rfl) rfl rfl ?_
              refine g_goto 33 (gd rfl) rfl ?_
              refine g_ireturn (gd rfl) rfl (nb01 (in_w 0 1 (in_c 1 rfl) rfl)) (hp21 _ _ ?_)
              show GG _ _ _ _ _ _ _ _ [.int (Int32.ofInt 1)] _ _ _
              refine g_if_eq 27 29 (gd rfl) rfl rfl (fun c24 => ?_) (fun c24 => ?_)
              · skip
                exact zn_eq c24 (in_c 1 rfl) rfl
              · skip
                refine g_iconst 0 28 (gd rfl) rfl rfl ?_
                exact g_ireturn (gd rfl) rfl rfl (hP _ _ ⟨(sF s 109 0 (Int32.ofInt 1)), hI21x18, (fr_sF rfl fr_rf), (Int32.ofInt 0), rfl, rfl, in_w 0 4000 (in_c 0 rfl) rfl⟩)
      · skip
        have i3x17 := z_ne 1 1 c3x17 i3x16 rfl
        refine g_iconst 1 21 (gd rfl) rfl rfl ?_
        refine g_goto 25 (gd rfl) rfl ?_
        refine g_ireturn (gd rfl) rfl (nb01 (in_w 0 1 (in_c 1 rfl) rfl)) (hp3 _ _ ?_)
        show GG _ _ _ _ _ _ _ _ [.int (Int32.ofInt 1), .ref (A 109)] _ _ _
        refine g_aload_n 7 (gd rfl) rfl rfl ?_
        refine g_getI 10 (gd rfl) rfl rfl rfl (fun z7 e7 => ?_)
        have i7 := inv_F hI 0 4000 rfl e7
        refine g_sipush 4000 13 (gd rfl) rfl rfl ?_
        refine g_cmp_ge 16 20 (gd rfl) rfl rfl (fun c13 => ?_) (fun c13 => ?_)
        · skip
          have i13 := r_le2 4000 4000 c13 (in_c 4000 rfl) i7 rfl
          refine g_iconst 0 21 (gd rfl) rfl rfl ?_
          refine g_callv (X := _) (As := [.int (Int32.ofInt 1), .int (Int32.ofInt 0)]) (r := []) (b := A 109) (q := 109) 24 (gd rfl) rfl rfl rfl rfl rfl (ww_o rfl) (Nat.le_of_ble_eq_true rfl) (mc := 0) (ms := 0) (Nat.zero_le _) (Nat.zero_le _) (P := fun v u => _) ?_ (fun e u h => h) (fun v u h => h)
          intro po21 xx21 hp21 hx21
          refine g_enter2 (k := 270) (N := 300) (by omega) rfl (Nat.le_of_ble_eq_true rfl) ?_
          refine g_aload_n 1 (gd rfl) rfl rfl ?_
          refine g_iload_n 2 (gd rfl) rfl rfl ?_
          refine g_if_ne 5 9 (gd rfl) rfl rfl (fun c21x2 => ?_) (fun c21x2 => ?_)
          · skip
            refine g_iload_n 10 (gd rfl) rfl rfl ?_
            refine g_if_ne 13 17 (gd rfl) rfl rfl (fun c21x10 => ?_) (fun c21x10 => ?_)
            · skip
              exact zn_ne c21x10 (in_c 0 rfl) rfl
            · skip
              refine g_iconst 2 14 (gd rfl) rfl rfl ?_
              refine g_goto 18 (gd rfl) rfl ?_
              refine g_putI 21 (gd rfl) rfl rfl rfl rfl ?_
              have hI21x18 := inv_sF (q := 109) (j := 0) hI rfl (in_w 0 2 (in_c 2 rfl) rfl)
              refine g_aload_n 22 (gd rfl) rfl rfl ?_
              refine g_getI 25 (gd rfl) rfl rfl rfl (fun z21x22 e21x22 => ?_)
              have q21x22 : (Int32.ofInt 2) = z21x22 := (sF_get).trans e21x22.symm
              subst q21x22
              refine g_if_le 28 32 (gd rfl) rfl rfl (fun c21x25 => ?_) (fun c21x25 => ?_)
              · skip
                exact zn_le c21x25 (in_c 2 rfl) rfl
              · skip
                refine g_iconst 1 29 (gd rfl) rfl rfl ?_
                refine g_goto 33 (gd rfl) rfl ?_
                refine g_ireturn (gd rfl) rfl (nb01 (in_w 0 1 (in_c 1 rfl) rfl)) (hp21 _ _ ?_)
                show GG _ _ _ _ _ _ _ _ [.int (Int32.ofInt 1)] _ _ _
                refine g_if_eq 27 29 (gd rfl) rfl rfl (fun c24 => ?_) (fun c24 => ?_)
                · skip
                  exact zn_eq c24 (in_c 1 rfl) rfl
                · skip
                  refine g_iconst 0 28 (gd rfl) rfl rfl ?_
                  exact g_ireturn (gd rfl) rfl rfl (hP _ _ ⟨(sF s 109 0 (Int32.ofInt 2)), hI21x18, (fr_sF rfl fr_rf), (Int32.ofInt 0), rfl, rfl, in_w 0 4000 (in_c 0 rfl) rfl⟩)
          · skip
            exact zn_eq c21x2 (in_c 1 rfl) rfl
        · skip
          have i13 := r_lt1 0 3999 c13 i7 (in_c 4000 rfl) rfl
          refine g_iconst 1 17 (gd rfl) rfl rfl ?_
          refine g_goto 21 (gd rfl) rfl ?_
          refine g_callv (X := _) (As := [.int (Int32.ofInt 1), .int (Int32.ofInt 1)]) (r := []) (b := A 109) (q := 109) 24 (gd rfl) rfl rfl rfl rfl rfl (ww_o rfl) (Nat.le_of_ble_eq_true rfl) (mc := 0) (ms := 0) (Nat.zero_le _) (Nat.zero_le _) (P := fun v u => _) ?_ (fun e u h => h) (fun v u h => h)
          intro po21 xx21 hp21 hx21
          refine g_enter2 (k := 270) (N := 300) (by omega) rfl (Nat.le_of_ble_eq_true rfl) ?_
          refine g_aload_n 1 (gd rfl) rfl rfl ?_
          refine g_iload_n 2 (gd rfl) rfl rfl ?_
          refine g_if_ne 5 9 (gd rfl) rfl rfl (fun c21x2 => ?_) (fun c21x2 => ?_)
          · skip
            refine g_iload_n 10 (gd rfl) rfl rfl ?_
            refine g_if_ne 13 17 (gd rfl) rfl rfl (fun c21x10 => ?_) (fun c21x10 => ?_)
            · skip
              refine g_iconst 0 18 (gd rfl) rfl rfl ?_
              refine g_putI 21 (gd rfl) rfl rfl rfl rfl ?_
              have hI21x18 := inv_sF (q := 109) (j := 0) hI rfl (in_w 0 2 (in_c 0 rfl) rfl)
              refine g_aload_n 22 (gd rfl) rfl rfl ?_
              refine g_getI 25 (gd rfl) rfl rfl rfl (fun z21x22 e21x22 => ?_)
              have q21x22 : (Int32.ofInt 0) = z21x22 := (sF_get).trans e21x22.symm
              subst q21x22
              refine g_if_le 28 32 (gd rfl) rfl rfl (fun c21x25 => ?_) (fun c21x25 => ?_)
              · skip
                refine g_iconst 0 33 (gd rfl) rfl rfl ?_
                refine g_ireturn (gd rfl) rfl (nb01 (in_w 0 1 (in_c 0 rfl) rfl)) (hp21 _ _ ?_)
                show GG _ _ _ _ _ _ _ _ [.int (Int32.ofInt 0)] _ _ _
                refine g_if_eq 27 29 (gd rfl) rfl rfl (fun c24 => ?_) (fun c24 => ?_)
                · skip
                  refine g_aload_n 30 (gd rfl) rfl rfl ?_
                  refine g_iconst 2 31 (gd rfl) rfl rfl ?_
                  refine g_iload_n 32 (gd rfl) rfl rfl ?_
                  refine g_iconst 0 33 (gd rfl) rfl rfl ?_
                  refine g_iconst 0 34 (gd rfl) rfl rfl ?_
                  refine g_iconst 0 35 (gd rfl) rfl rfl ?_
                  refine g_iconst 0 36 (gd rfl) rfl rfl ?_
                  refine g_iconst 0 37 (gd rfl) rfl rfl ?_
                  have v37 : z7 = (sF s 109 0 (Int32.ofInt 0)).2.2.1 109 9 := sF_ne rfl (e7)
                  have p37 : MK (sF s 109 0 (Int32.ofInt 0)) (Int32.ofInt 2) x1 (Int32.ofInt 0) (Int32.ofInt 0) := by exact ⟨fun h => absurd h (by decide), fun h => absurd h (by decide), fun h => absurd h (by decide), fun h => absurd h (by decide), fun h => absurd h (by decide)⟩
                  refine g_callv (X := _) (As := [.int (Int32.ofInt 2), .int x1, .int (Int32.ofInt 0), .int (Int32.ofInt 0), .int (Int32.ofInt 0), .int (Int32.ofInt 0), .int (Int32.ofInt 0)]) (r := []) (b := A 109) (q := 109) 40 (gd rfl) rfl rfl rfl rfl rfl (ww_o rfl) (Nat.le_of_ble_eq_true rfl) (Nat.zero_le _) (Nat.zero_le _) (k_274 (by omega) hI21x18 (in_w 0 4 (in_c 2 rfl) rfl) (in_w 0 159 i3x8 rfl) (in_w 0 31 (in_c 0 rfl) rfl) (in_w (-1000000) 1000000 (in_c 0 rfl) rfl) (in_w (-1000000) 1000000 (in_c 0 rfl) rfl) (in_w 0 1000000 (in_c 0 rfl) rfl) (in_w 0 25 (in_c 0 rfl) rfl) v37 (in_w 0 3999 i13 rfl) p37) (fun e u h => h) (fun v u h => ?_)
                  obtain ⟨s37, hI37, hF37, n37, rfl, rfl, p37a⟩ := h
                  obtain ⟨z37a, e37⟩ : ∃ w, w = s37.2.2.1 109 9 := ⟨_, rfl⟩
                  have i37a := inv_F hI37 0 4000 rfl e37
                  rw [← (show z7 = (sF s 109 0 (Int32.ofInt 0)).2.2.1 109 9 from sF_ne rfl (e7))] at n37
                  rw [← (show z37a = s37.2.2.1 109 9 from e37)] at n37
                  show GG _ _ _ _ _ _ _ _ [] _ _ _
                  refine g_aload_n 41 (gd rfl) rfl rfl ?_
                  refine g_getI 44 (gd rfl) rfl rfl rfl (fun z41 e41 => ?_)
                  have q41 : z37a = z41 := (e37).trans e41.symm
                  subst q41
                  exact g_ireturn (gd rfl) rfl rfl (hP _ _ ⟨s37, hI37, (fr_tr rfl (fr_sF rfl fr_rf) hF37), z37a, rfl, rfl, in_w 0 4000 i37a rfl⟩)
                · skip
                  exact zn_ne c24 (in_c 0 rfl) rfl
              · skip
                exact zn_gt c21x25 (in_c 0 rfl) rfl
            · skip
              exact zn_eq c21x10 (in_c 1 rfl) rfl
          · skip
            exact zn_eq c21x2 (in_c 1 rfl) rfl
