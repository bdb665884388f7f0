/-! methods, by vc.py -/
def fm_238_0 : FM := ([9, 10, 11, 12, 13, 14, 15, 39, 40, 41, 42, 43, 44, 45, 58, 59], [], [(2, 4), (32, 4), (56, 3)], [])
/-- GraphHouse.core -/
theorem k_238_0 {Z : AmZ} {A : Nat → Nat} {s : GS} {ex : va_W} {d : Nat} {x1 : Int32} (hd : 7 ≤ d) (hI : Inv s)  : GC Z d 238 [.ref (A 0), .int x1] (WW Z A s ++ ex) 3 18 (fun v u => ∃ t : GS, Inv t ∧ Fr fm_238_0 s t ∧ ∃ z : Int32, v = some (.int z) ∧ u = WW Z A t ++ ex ∧ In z (-2147483648) 2147483647) (gE1 Z A ex fm_238_0 s) := by
  intro post xp hP hX
  obtain ⟨u_0_2, e_0_2⟩ : ∃ w, w = s.2.2.1 0 2 := ⟨_, rfl⟩
  have ro_0_2 := inv_F hI (-1) 4000 rfl e_0_2
  obtain ⟨u_2_0, e_2_0⟩ : ∃ w, w = s.2.2.1 2 0 := ⟨_, rfl⟩
  have ro_2_0 := inv_F hI 0 4000 rfl e_2_0
  obtain ⟨u_2_1, e_2_1⟩ : ∃ w, w = s.2.2.1 2 1 := ⟨_, rfl⟩
  have ro_2_1 := inv_F hI 0 32 rfl e_2_1
  obtain ⟨u_32_0, e_32_0⟩ : ∃ w, w = s.2.2.1 32 0 := ⟨_, rfl⟩
  have ro_32_0 := inv_F hI 0 4000 rfl e_32_0
  obtain ⟨u_32_1, e_32_1⟩ : ∃ w, w = s.2.2.1 32 1 := ⟨_, rfl⟩
  have ro_32_1 := inv_F hI 0 32 rfl e_32_1
  refine g_enter2 (k := 238) (N := 900) (by omega) rfl (Nat.le_of_ble_eq_true rfl) (g_aload_n 1 (gd rfl) rfl rfl ?_)
  refine g_callv (X := _) (As := []) (r := []) (b := A 0) (q := 0) 4 (gd rfl) rfl rfl rfl rfl rfl (ww_o rfl) (Nat.le_of_ble_eq_true rfl) (mc := 0) (ms := 0) (Nat.zero_le _) (Nat.zero_le _) (P := fun v u => _) ?_ (fun e u h => h) (fun v u h => h)
  intro po1 xx1 hp1 hx1
  refine g_enter2 (k := 259) (N := 300) (by omega) rfl (Nat.le_of_ble_eq_true rfl) (g_aload_n 1 (gd rfl) rfl rfl (g_getIv (y := u_0_2) 4 (gd rfl) rfl rfl rfl (e_0_2) (g_iconst (-1) 5 (gd rfl) rfl rfl (g_cmp_ne 8 18 (gd rfl) rfl rfl (fun c1x5 => ?_) (fun c1x5 => ?_)))))
  · skip
    have i1x5 := r_ne1 0 4000 c1x5 ro_0_2 (in_c (-1) rfl) rfl
    refine g_aload_n 19 (gd rfl) rfl rfl (g_getA (q2 := 32) 22 (gd rfl) rfl rfl rfl rfl ?_)
    refine g_areturn (gd rfl) rfl (hp1 _ _ ?_)
    show GG _ _ _ _ _ _ _ _ [.ref (A 32)] _ _ _
    refine g_astore_n 5 (gd rfl) rfl (Nat.le_of_ble_eq_true rfl) (g_aload_n 6 (gd rfl) rfl rfl (g_iload_n 7 (gd rfl) rfl rfl ?_))
    refine g_callv (X := _) (As := [.int x1]) (r := []) (b := A 32) (q := 32) 10 (gd rfl) rfl rfl rfl rfl rfl (ww_o rfl) (Nat.le_of_ble_eq_true rfl) (mc := 0) (ms := 0) (Nat.zero_le _) (Nat.zero_le _) (P := fun v u => _) ?_ (fun e u h => h) (fun v u h => h)
    intro po7 xx7 hp7 hx7
    refine g_enter2 (k := 94) (N := 300) (by omega) rfl (Nat.le_of_ble_eq_true rfl) (g_iload_n 1 (gd rfl) rfl rfl (g_if_lt 4 16 (gd rfl) rfl rfl (fun c7x1 => ?_) (fun c7x1 => ?_)))
    · skip
      have i7x1 := z_lt (-2147483648) (-1) c7x1 (i_rng x1) rfl
      refine g_iconst 0 17 (gd rfl) rfl rfl ?_
      refine g_ireturn (gd rfl) rfl (nb01 (in_w 0 1 (in_c 0 rfl) rfl)) (hp7 _ _ ?_)
      show GG _ _ _ _ _ _ _ _ [.int (Int32.ofInt 0)] _ _ _
      refine g_thr (E := am_IA) (y := yX11_allow) 13 (gd rfl) rfl rfl (Or.inl ⟨rfl, rfl, rfl⟩) (by omega) (Nat.le_of_ble_eq_true rfl) (Nat.le_of_ble_eq_true rfl) (Nat.le_of_ble_eq_true rfl) (fun c10 => ?_) (fun c10 => ?_)
      · skip
        exact zn_ne c10 (in_c 0 rfl) rfl
      · skip
        exact (hX _ _ ⟨rfl, s, hI, fr_rf, rfl⟩)
    · skip
      have i7x1 := z_ge 0 2147483647 c7x1 (i_rng x1) rfl
      refine g_iload_n 5 (gd rfl) rfl rfl (g_aload_n 6 (gd rfl) rfl rfl (g_getIv (y := u_32_1) 9 (gd rfl) rfl rfl rfl (e_32_1) (g_cmp_ge 12 16 (gd rfl) rfl rfl (fun c7x9 => ?_) (fun c7x9 => ?_))))
      · skip
        refine g_iconst 0 17 (gd rfl) rfl rfl ?_
        refine g_ireturn (gd rfl) rfl (nb01 (in_w 0 1 (in_c 0 rfl) rfl)) (hp7 _ _ ?_)
        show GG _ _ _ _ _ _ _ _ [.int (Int32.ofInt 0)] _ _ _
        refine g_thr (E := am_IA) (y := yX11_allow) 13 (gd rfl) rfl rfl (Or.inl ⟨rfl, rfl, rfl⟩) (by omega) (Nat.le_of_ble_eq_true rfl) (Nat.le_of_ble_eq_true rfl) (Nat.le_of_ble_eq_true rfl) (fun c10 => ?_) (fun c10 => ?_)
        · skip
          exact zn_ne c10 (in_c 0 rfl) rfl
        · skip
          exact (hX _ _ ⟨rfl, s, hI, fr_rf, rfl⟩)
      · skip
        have i7x9 := r_lt1 0 31 c7x9 i7x1 ro_32_1 rfl
        have i7x9a := r_lt2 1 32 c7x9 i7x1 ro_32_1 rfl
        refine g_iconst 1 13 (gd rfl) rfl rfl (g_goto 17 (gd rfl) rfl ?_)
        refine g_ireturn (gd rfl) rfl (nb01 (in_w 0 1 (in_c 1 rfl) rfl)) (hp7 _ _ ?_)
        show GG _ _ _ _ _ _ _ _ [.int (Int32.ofInt 1)] _ _ _
        refine g_thr (E := am_IA) (y := yX11_allow) 13 (gd rfl) rfl rfl (Or.inl ⟨rfl, rfl, rfl⟩) (by omega) (Nat.le_of_ble_eq_true rfl) (Nat.le_of_ble_eq_true rfl) (Nat.le_of_ble_eq_true rfl) (fun c10 => ?_) (fun c10 => ?_)
        · skip
          refine g_aload_n 14 (gd rfl) rfl rfl (g_getA (q2 := 56) 17 (gd rfl) rfl rfl rfl rfl (g_aload_n 18 (gd rfl) rfl rfl (g_iload_n 19 (gd rfl) rfl rfl ?_)))
          refine g_callv (X := _) (As := [.ref (A 32), .int x1]) (r := []) (b := A 56) (q := 56) 22 (gd rfl) rfl rfl rfl rfl rfl (ww_o rfl) (Nat.le_of_ble_eq_true rfl) (mc := 0) (ms := 0) (Nat.zero_le _) (Nat.zero_le _) (P := fun v u => _) ?_ (fun e u h => h) (fun v u h => h)
          intro po19 xx19 hp19 hx19
          refine g_enter2 (k := 147) (N := 300) (by omega) rfl (Nat.le_of_ble_eq_true rfl) (g_aload_n 1 (gd rfl) rfl rfl (g_getI 4 (gd rfl) rfl rfl rfl (fun z19x1 e19x1 => have i19x1 := inv_F hI (-1) 4000 rfl e19x1; g_aload_n 5 (gd rfl) rfl rfl (g_getIv (y := u_32_0) 8 (gd rfl) rfl rfl rfl (e_32_0) (g_cmp_eq 11 24 (gd rfl) rfl rfl (fun c19x8 => ?_) (fun c19x8 => ?_))))))
          · skip
            have i19x8 := r_eq1 0 4000 c19x8 i19x1 ro_32_0 rfl
            refine g_aload_n 25 (gd rfl) rfl rfl (g_getA (q2 := 58) 28 (gd rfl) rfl rfl rfl rfl (g_iload_n 29 (gd rfl) rfl rfl (g_iaload 30 (gd rfl) rfl (n := 32) rfl (in_ix i7x9 rfl) (fun z19x29 e19x29 => ?_))))
            refine g_ireturn (gd rfl) rfl rfl (hp19 _ _ ?_)
            show GG _ _ _ _ _ _ _ _ [.int z19x29] _ _ _
            exact g_ireturn (gd rfl) rfl rfl (hP _ _ ⟨s, hI, fr_rf, z19x29, rfl, rfl, in_w (-2147483648) 2147483647 (i_rng z19x29) rfl⟩)
          · skip
            refine g_aload_n 12 (gd rfl) rfl rfl (g_aload_n 13 (gd rfl) rfl rfl (g_getIv (y := u_32_0) 16 (gd rfl) rfl rfl rfl (e_32_0) (g_putI 19 (gd rfl) rfl rfl rfl rfl (have hI19x16 := inv_sF (q := 56) (j := 3) hI rfl (in_w (-1) 4000 ro_32_0 rfl); g_aload_n 20 (gd rfl) rfl rfl (g_aload_n 21 (gd rfl) rfl rfl (g_callv (X := _) (As := [.ref (A 32)]) (r := []) (b := A 56) (q := 56) 24 (gd rfl) rfl rfl rfl rfl rfl (ww_o rfl) (Nat.le_of_ble_eq_true rfl) (Nat.zero_le _) (Nat.zero_le _) (k_148_56_32 (by omega) hI19x16 ) (fun e u h => h) (fun v u h => ?_)))))))
            obtain ⟨s19x21, hI19x21, hF19x21, rfl, rfl⟩ := h
            show GG _ _ _ _ _ _ _ _ [] _ _ _
            refine g_aload_n 25 (gd rfl) rfl rfl (g_getA (q2 := 58) 28 (gd rfl) rfl rfl rfl rfl (g_iload_n 29 (gd rfl) rfl rfl (g_iaload 30 (gd rfl) rfl (n := 32) rfl (in_ix i7x9 rfl) (fun z19x29 e19x29 => ?_))))
            refine g_ireturn (gd rfl) rfl rfl (hp19 _ _ ?_)
            show GG _ _ _ _ _ _ _ _ [.int z19x29] _ _ _
            exact g_ireturn (gd rfl) rfl rfl (hP _ _ ⟨s19x21, hI19x21, (fr_tr rfl (fr_sF rfl fr_rf) hF19x21), z19x29, rfl, rfl, in_w (-2147483648) 2147483647 (i_rng z19x29) rfl⟩)
        · skip
          exact zn_eq c10 (in_c 1 rfl) rfl
  · skip
    have i1x5 := r_eq1 (-1) (-1) c1x5 ro_0_2 (in_c (-1) rfl) rfl
    refine g_aload_n 9 (gd rfl) rfl rfl (g_getA (q2 := 1) 12 (gd rfl) rfl rfl rfl rfl (g_getA (q2 := 2) 15 (gd rfl) rfl rfl rfl rfl (g_goto 22 (gd rfl) rfl ?_)))
    refine g_areturn (gd rfl) rfl (hp1 _ _ ?_)
    show GG _ _ _ _ _ _ _ _ [.ref (A 2)] _ _ _
    refine g_astore_n 5 (gd rfl) rfl (Nat.le_of_ble_eq_true rfl) (g_aload_n 6 (gd rfl) rfl rfl (g_iload_n 7 (gd rfl) rfl rfl ?_))
    refine g_callv (X := _) (As := [.int x1]) (r := []) (b := A 2) (q := 2) 10 (gd rfl) rfl rfl rfl rfl rfl (ww_o rfl) (Nat.le_of_ble_eq_true rfl) (mc := 0) (ms := 0) (Nat.zero_le _) (Nat.zero_le _) (P := fun v u => _) ?_ (fun e u h => h) (fun v u h => h)
    intro po7 xx7 hp7 hx7
    refine g_enter2 (k := 94) (N := 300) (by omega) rfl (Nat.le_of_ble_eq_true rfl) (g_iload_n 1 (gd rfl) rfl rfl (g_if_lt 4 16 (gd rfl) rfl rfl (fun c7x1 => ?_) (fun c7x1 => ?_)))
    · skip
      have i7x1 := z_lt (-2147483648) (-1) c7x1 (i_rng x1) rfl
      refine g_iconst 0 17 (gd rfl) rfl rfl ?_
      refine g_ireturn (gd rfl) rfl (nb01 (in_w 0 1 (in_c 0 rfl) rfl)) (hp7 _ _ ?_)
      show GG _ _ _ _ _ _ _ _ [.int (Int32.ofInt 0)] _ _ _
      refine g_thr (E := am_IA) (y := yX11_allow) 13 (gd rfl) rfl rfl (Or.inl ⟨rfl, rfl, rfl⟩) (by omega) (Nat.le_of_ble_eq_true rfl) (Nat.le_of_ble_eq_true rfl) (Nat.le_of_ble_eq_true rfl) (fun c10 => ?_) (fun c10 => ?_)
      · skip
        exact zn_ne c10 (in_c 0 rfl) rfl
      · skip
        exact (hX _ _ ⟨rfl, s, hI, fr_rf, rfl⟩)
    · skip
      have i7x1 := z_ge 0 2147483647 c7x1 (i_rng x1) rfl
      refine g_iload_n 5 (gd rfl) rfl rfl (g_aload_n 6 (gd rfl) rfl rfl (g_getIv (y := u_2_1) 9 (gd rfl) rfl rfl rfl (e_2_1) (g_cmp_ge 12 16 (gd rfl) rfl rfl (fun c7x9 => ?_) (fun c7x9 => ?_))))
      · skip
        refine g_iconst 0 17 (gd rfl) rfl rfl ?_
        refine g_ireturn (gd rfl) rfl (nb01 (in_w 0 1 (in_c 0 rfl) rfl)) (hp7 _ _ ?_)
        show GG _ _ _ _ _ _ _ _ [.int (Int32.ofInt 0)] _ _ _
        refine g_thr (E := am_IA) (y := yX11_allow) 13 (gd rfl) rfl rfl (Or.inl ⟨rfl, rfl, rfl⟩) (by omega) (Nat.le_of_ble_eq_true rfl) (Nat.le_of_ble_eq_true rfl) (Nat.le_of_ble_eq_true rfl) (fun c10 => ?_) (fun c10 => ?_)
        · skip
          exact zn_ne c10 (in_c 0 rfl) rfl
        · skip
          exact (hX _ _ ⟨rfl, s, hI, fr_rf, rfl⟩)
      · skip
        have i7x9 := r_lt1 0 31 c7x9 i7x1 ro_2_1 rfl
        have i7x9a := r_lt2 1 32 c7x9 i7x1 ro_2_1 rfl
        refine g_iconst 1 13 (gd rfl) rfl rfl (g_goto 17 (gd rfl) rfl ?_)
        refine g_ireturn (gd rfl) rfl (nb01 (in_w 0 1 (in_c 1 rfl) rfl)) (hp7 _ _ ?_)
        show GG _ _ _ _ _ _ _ _ [.int (Int32.ofInt 1)] _ _ _
        refine g_thr (E := am_IA) (y := yX11_allow) 13 (gd rfl) rfl rfl (Or.inl ⟨rfl, rfl, rfl⟩) (by omega) (Nat.le_of_ble_eq_true rfl) (Nat.le_of_ble_eq_true rfl) (Nat.le_of_ble_eq_true rfl) (fun c10 => ?_) (fun c10 => ?_)
        · skip
          refine g_aload_n 14 (gd rfl) rfl rfl (g_getA (q2 := 56) 17 (gd rfl) rfl rfl rfl rfl (g_aload_n 18 (gd rfl) rfl rfl (g_iload_n 19 (gd rfl) rfl rfl ?_)))
          refine g_callv (X := _) (As := [.ref (A 2), .int x1]) (r := []) (b := A 56) (q := 56) 22 (gd rfl) rfl rfl rfl rfl rfl (ww_o rfl) (Nat.le_of_ble_eq_true rfl) (mc := 0) (ms := 0) (Nat.zero_le _) (Nat.zero_le _) (P := fun v u => _) ?_ (fun e u h => h) (fun v u h => h)
          intro po19 xx19 hp19 hx19
          refine g_enter2 (k := 147) (N := 300) (by omega) rfl (Nat.le_of_ble_eq_true rfl) (g_aload_n 1 (gd rfl) rfl rfl (g_getI 4 (gd rfl) rfl rfl rfl (fun z19x1 e19x1 => have i19x1 := inv_F hI (-1) 4000 rfl e19x1; g_aload_n 5 (gd rfl) rfl rfl (g_getIv (y := u_2_0) 8 (gd rfl) rfl rfl rfl (e_2_0) (g_cmp_eq 11 24 (gd rfl) rfl rfl (fun c19x8 => ?_) (fun c19x8 => ?_))))))
          · skip
            have i19x8 := r_eq1 0 4000 c19x8 i19x1 ro_2_0 rfl
            refine g_aload_n 25 (gd rfl) rfl rfl (g_getA (q2 := 58) 28 (gd rfl) rfl rfl rfl rfl (g_iload_n 29 (gd rfl) rfl rfl (g_iaload 30 (gd rfl) rfl (n := 32) rfl (in_ix i7x9 rfl) (fun z19x29 e19x29 => ?_))))
            refine g_ireturn (gd rfl) rfl rfl (hp19 _ _ ?_)
            show GG _ _ _ _ _ _ _ _ [.int z19x29] _ _ _
            exact g_ireturn (gd rfl) rfl rfl (hP _ _ ⟨s, hI, fr_rf, z19x29, rfl, rfl, in_w (-2147483648) 2147483647 (i_rng z19x29) rfl⟩)
          · skip
            refine g_aload_n 12 (gd rfl) rfl rfl (g_aload_n 13 (gd rfl) rfl rfl (g_getIv (y := u_2_0) 16 (gd rfl) rfl rfl rfl (e_2_0) (g_putI 19 (gd rfl) rfl rfl rfl rfl (have hI19x16 := inv_sF (q := 56) (j := 3) hI rfl (in_w (-1) 4000 ro_2_0 rfl); g_aload_n 20 (gd rfl) rfl rfl (g_aload_n 21 (gd rfl) rfl rfl (g_callv (X := _) (As := [.ref (A 2)]) (r := []) (b := A 56) (q := 56) 24 (gd rfl) rfl rfl rfl rfl rfl (ww_o rfl) (Nat.le_of_ble_eq_true rfl) (Nat.zero_le _) (Nat.zero_le _) (k_148_56_2 (by omega) hI19x16 ) (fun e u h => h) (fun v u h => ?_)))))))
            obtain ⟨s19x21, hI19x21, hF19x21, rfl, rfl⟩ := h
            show GG _ _ _ _ _ _ _ _ [] _ _ _
            refine g_aload_n 25 (gd rfl) rfl rfl (g_getA (q2 := 58) 28 (gd rfl) rfl rfl rfl rfl (g_iload_n 29 (gd rfl) rfl rfl (g_iaload 30 (gd rfl) rfl (n := 32) rfl (in_ix i7x9 rfl) (fun z19x29 e19x29 => ?_))))
            refine g_ireturn (gd rfl) rfl rfl (hp19 _ _ ?_)
            show GG _ _ _ _ _ _ _ _ [.int z19x29] _ _ _
            exact g_ireturn (gd rfl) rfl rfl (hP _ _ ⟨s19x21, hI19x21, (fr_tr rfl (fr_sF rfl fr_rf) hF19x21), z19x29, rfl, rfl, in_w (-2147483648) 2147483647 (i_rng z19x29) rfl⟩)
        · skip
          exact zn_eq c10 (in_c 1 rfl) rfl

def fm_241_0 : FM := ([66, 67, 68], [], [(65, 0), (65, 1), (65, 2), (65, 4)], [(65, 3)])
/-- GraphHouse.flow -/
theorem k_241_0 {Z : AmZ} {A : Nat → Nat} {s : GS} {ex : va_W} {d : Nat} {x1 : Int32} {x2 : Int32} (hd : 7 ≤ d) (hI : Inv s)  : GC Z d 241 [.ref (A 0), .int x1, .int x2] (WW Z A s ++ ex) 3 18 (fun v u => ∃ t : GS, Inv t ∧ Fr fm_241_0 s t ∧ ∃ z : Int64, v = some (.long z) ∧ u = WW Z A t ++ ex) (gE1 Z A ex fm_241_0 s) := by
  intro post xp hP hX
  obtain ⟨u_0_2, e_0_2⟩ : ∃ w, w = s.2.2.1 0 2 := ⟨_, rfl⟩
  have ro_0_2 := inv_F hI (-1) 4000 rfl e_0_2
  obtain ⟨u_2_1, e_2_1⟩ : ∃ w, w = s.2.2.1 2 1 := ⟨_, rfl⟩
  have ro_2_1 := inv_F hI 0 32 rfl e_2_1
  obtain ⟨u_32_1, e_32_1⟩ : ∃ w, w = s.2.2.1 32 1 := ⟨_, rfl⟩
  have ro_32_1 := inv_F hI 0 32 rfl e_32_1
  refine g_enter2 (k := 241) (N := 900) (by omega) rfl (Nat.le_of_ble_eq_true rfl) (g_aload_n 1 (gd rfl) rfl rfl ?_)
  refine g_callv (X := _) (As := []) (r := []) (b := A 0) (q := 0) 4 (gd rfl) rfl rfl rfl rfl rfl (ww_o rfl) (Nat.le_of_ble_eq_true rfl) (mc := 0) (ms := 0) (Nat.zero_le _) (Nat.zero_le _) (P := fun v u => _) ?_ (fun e u h => h) (fun v u h => h)
  intro po1 xx1 hp1 hx1
  refine g_enter2 (k := 259) (N := 300) (by omega) rfl (Nat.le_of_ble_eq_true rfl) (g_aload_n 1 (gd rfl) rfl rfl (g_getIv (y := u_0_2) 4 (gd rfl) rfl rfl rfl (e_0_2) (g_iconst (-1) 5 (gd rfl) rfl rfl (g_cmp_ne 8 18 (gd rfl) rfl rfl (fun c1x5 => ?_) (fun c1x5 => ?_)))))
  · skip
    have i1x5 := r_ne1 0 4000 c1x5 ro_0_2 (in_c (-1) rfl) rfl
    refine g_aload_n 19 (gd rfl) rfl rfl (g_getA (q2 := 32) 22 (gd rfl) rfl rfl rfl rfl ?_)
    refine g_areturn (gd rfl) rfl (hp1 _ _ ?_)
    show GG _ _ _ _ _ _ _ _ [.ref (A 32)] _ _ _
    refine g_astore_n 5 (gd rfl) rfl (Nat.le_of_ble_eq_true rfl) (g_aload_n 6 (gd rfl) rfl rfl (g_iload_n 7 (gd rfl) rfl rfl (g_iload_n 8 (gd rfl) rfl rfl ?_)))
    refine g_callv (X := _) (As := [.int x1, .int x2]) (r := []) (b := A 32) (q := 32) 11 (gd rfl) rfl rfl rfl rfl rfl (ww_o rfl) (Nat.le_of_ble_eq_true rfl) (mc := 0) (ms := 0) (Nat.zero_le _) (Nat.zero_le _) (P := fun v u => _) ?_ (fun e u h => h) (fun v u h => h)
    intro po8 xx8 hp8 hx8
    refine g_enter2 (k := 95) (N := 300) (by omega) rfl (Nat.le_of_ble_eq_true rfl) (g_aload_n 1 (gd rfl) rfl rfl (g_iload_n 2 (gd rfl) rfl rfl ?_))
    refine g_callv (X := _) (As := [.int x1]) (r := []) (b := A 32) (q := 32) 5 (gd rfl) rfl rfl rfl rfl rfl (ww_o rfl) (Nat.le_of_ble_eq_true rfl) (mc := 0) (ms := 0) (Nat.zero_le _) (Nat.zero_le _) (P := fun v u => _) ?_ (fun e u h => h) (fun v u h => h)
    intro po8x2 xx8x2 hp8x2 hx8x2
    refine g_enter2 (k := 94) (N := 300) (by omega) rfl (Nat.le_of_ble_eq_true rfl) (g_iload_n 1 (gd rfl) rfl rfl (g_if_lt 4 16 (gd rfl) rfl rfl (fun c8x2x1 => ?_) (fun c8x2x1 => ?_)))
    · skip
      have i8x2x1 := z_lt (-2147483648) (-1) c8x2x1 (i_rng x1) rfl
      refine g_iconst 0 17 (gd rfl) rfl rfl ?_
      refine g_ireturn (gd rfl) rfl (nb01 (in_w 0 1 (in_c 0 rfl) rfl)) (hp8x2 _ _ ?_)
      show GG _ _ _ _ _ _ _ _ [.int (Int32.ofInt 0)] _ _ _
      refine g_if_eq 8 25 (gd rfl) rfl rfl (fun c8x5 => ?_) (fun c8x5 => ?_)
      · skip
        refine g_iconst 0 26 (gd rfl) rfl rfl ?_
        refine g_ireturn (gd rfl) rfl (nb01 (in_w 0 1 (in_c 0 rfl) rfl)) (hp8 _ _ ?_)
        show GG _ _ _ _ _ _ _ _ [.int (Int32.ofInt 0)] _ _ _
        refine g_thr (E := am_IA) (y := yX11_allow) 14 (gd rfl) rfl rfl (Or.inl ⟨rfl, rfl, rfl⟩) (by omega) (Nat.le_of_ble_eq_true rfl) (Nat.le_of_ble_eq_true rfl) (Nat.le_of_ble_eq_true rfl) (fun c11 => ?_) (fun c11 => ?_)
        · skip
          exact zn_ne c11 (in_c 0 rfl) rfl
        · skip
          exact (hX _ _ ⟨rfl, s, hI, fr_rf, rfl⟩)
      · skip
        exact zn_ne c8x5 (in_c 0 rfl) rfl
    · skip
      have i8x2x1 := z_ge 0 2147483647 c8x2x1 (i_rng x1) rfl
      refine g_iload_n 5 (gd rfl) rfl rfl (g_aload_n 6 (gd rfl) rfl rfl (g_getIv (y := u_32_1) 9 (gd rfl) rfl rfl rfl (e_32_1) (g_cmp_ge 12 16 (gd rfl) rfl rfl (fun c8x2x9 => ?_) (fun c8x2x9 => ?_))))
      · skip
        refine g_iconst 0 17 (gd rfl) rfl rfl ?_
        refine g_ireturn (gd rfl) rfl (nb01 (in_w 0 1 (in_c 0 rfl) rfl)) (hp8x2 _ _ ?_)
        show GG _ _ _ _ _ _ _ _ [.int (Int32.ofInt 0)] _ _ _
        refine g_if_eq 8 25 (gd rfl) rfl rfl (fun c8x5 => ?_) (fun c8x5 => ?_)
        · skip
          refine g_iconst 0 26 (gd rfl) rfl rfl ?_
          refine g_ireturn (gd rfl) rfl (nb01 (in_w 0 1 (in_c 0 rfl) rfl)) (hp8 _ _ ?_)
          show GG _ _ _ _ _ _ _ _ [.int (Int32.ofInt 0)] _ _ _
          refine g_thr (E := am_IA) (y := yX11_allow) 14 (gd rfl) rfl rfl (Or.inl ⟨rfl, rfl, rfl⟩) (by omega) (Nat.le_of_ble_eq_true rfl) (Nat.le_of_ble_eq_true rfl) (Nat.le_of_ble_eq_true rfl) (fun c11 => ?_) (fun c11 => ?_)
          · skip
            exact zn_ne c11 (in_c 0 rfl) rfl
          · skip
            exact (hX _ _ ⟨rfl, s, hI, fr_rf, rfl⟩)
        · skip
          exact zn_ne c8x5 (in_c 0 rfl) rfl
      · skip
        have i8x2x9 := r_lt1 0 31 c8x2x9 i8x2x1 ro_32_1 rfl
        have i8x2x9a := r_lt2 1 32 c8x2x9 i8x2x1 ro_32_1 rfl
        refine g_iconst 1 13 (gd rfl) rfl rfl (g_goto 17 (gd rfl) rfl ?_)
        refine g_ireturn (gd rfl) rfl (nb01 (in_w 0 1 (in_c 1 rfl) rfl)) (hp8x2 _ _ ?_)
        show GG _ _ _ _ _ _ _ _ [.int (Int32.ofInt 1)] _ _ _
        refine g_if_eq 8 25 (gd rfl) rfl rfl (fun c8x5 => ?_) (fun c8x5 => ?_)
        · skip
          exact zn_eq c8x5 (in_c 1 rfl) rfl
        · skip
          refine g_aload_n 9 (gd rfl) rfl rfl (g_iload_n 10 (gd rfl) rfl rfl ?_)
          refine g_callv (X := _) (As := [.int x2]) (r := []) (b := A 32) (q := 32) 13 (gd rfl) rfl rfl rfl rfl rfl (ww_o rfl) (Nat.le_of_ble_eq_true rfl) (mc := 0) (ms := 0) (Nat.zero_le _) (Nat.zero_le _) (P := fun v u => _) ?_ (fun e u h => h) (fun v u h => h)
          intro po8x10 xx8x10 hp8x10 hx8x10
          refine g_enter2 (k := 94) (N := 300) (by omega) rfl (Nat.le_of_ble_eq_true rfl) (g_iload_n 1 (gd rfl) rfl rfl (g_if_lt 4 16 (gd rfl) rfl rfl (fun c8x10x1 => ?_) (fun c8x10x1 => ?_)))
          · skip
            have i8x10x1 := z_lt (-2147483648) (-1) c8x10x1 (i_rng x2) rfl
            refine g_iconst 0 17 (gd rfl) rfl rfl ?_
            refine g_ireturn (gd rfl) rfl (nb01 (in_w 0 1 (in_c 0 rfl) rfl)) (hp8x10 _ _ ?_)
            show GG _ _ _ _ _ _ _ _ [.int (Int32.ofInt 0)] _ _ _
            refine g_if_eq 16 25 (gd rfl) rfl rfl (fun c8x13 => ?_) (fun c8x13 => ?_)
            · skip
              refine g_iconst 0 26 (gd rfl) rfl rfl ?_
              refine g_ireturn (gd rfl) rfl (nb01 (in_w 0 1 (in_c 0 rfl) rfl)) (hp8 _ _ ?_)
              show GG _ _ _ _ _ _ _ _ [.int (Int32.ofInt 0)] _ _ _
              refine g_thr (E := am_IA) (y := yX11_allow) 14 (gd rfl) rfl rfl (Or.inl ⟨rfl, rfl, rfl⟩) (by omega) (Nat.le_of_ble_eq_true rfl) (Nat.le_of_ble_eq_true rfl) (Nat.le_of_ble_eq_true rfl) (fun c11 => ?_) (fun c11 => ?_)
              · skip
                exact zn_ne c11 (in_c 0 rfl) rfl
              · skip
                exact (hX _ _ ⟨rfl, s, hI, fr_rf, rfl⟩)
            · skip
              exact zn_ne c8x13 (in_c 0 rfl) rfl
          · skip
            have i8x10x1 := z_ge 0 2147483647 c8x10x1 (i_rng x2) rfl
            refine g_iload_n 5 (gd rfl) rfl rfl (g_aload_n 6 (gd rfl) rfl rfl (g_getIv (y := u_32_1) 9 (gd rfl) rfl rfl rfl (e_32_1) (g_cmp_ge 12 16 (gd rfl) rfl rfl (fun c8x10x9 => ?_) (fun c8x10x9 => ?_))))
            · skip
              have i8x10x9 := r_le2 1 2147483647 c8x10x9 i8x2x9a i8x10x1 rfl
              refine g_iconst 0 17 (gd rfl) rfl rfl ?_
              refine g_ireturn (gd rfl) rfl (nb01 (in_w 0 1 (in_c 0 rfl) rfl)) (hp8x10 _ _ ?_)
              show GG _ _ _ _ _ _ _ _ [.int (Int32.ofInt 0)] _ _ _
              refine g_if_eq 16 25 (gd rfl) rfl rfl (fun c8x13 => ?_) (fun c8x13 => ?_)
              · skip
                refine g_iconst 0 26 (gd rfl) rfl rfl ?_
                refine g_ireturn (gd rfl) rfl (nb01 (in_w 0 1 (in_c 0 rfl) rfl)) (hp8 _ _ ?_)
                show GG _ _ _ _ _ _ _ _ [.int (Int32.ofInt 0)] _ _ _
                refine g_thr (E := am_IA) (y := yX11_allow) 14 (gd rfl) rfl rfl (Or.inl ⟨rfl, rfl, rfl⟩) (by omega) (Nat.le_of_ble_eq_true rfl) (Nat.le_of_ble_eq_true rfl) (Nat.le_of_ble_eq_true rfl) (fun c11 => ?_) (fun c11 => ?_)
                · skip
                  exact zn_ne c11 (in_c 0 rfl) rfl
                · skip
                  exact (hX _ _ ⟨rfl, s, hI, fr_rf, rfl⟩)
              · skip
                exact zn_ne c8x13 (in_c 0 rfl) rfl
            · skip
              have i8x10x9 := r_lt1 0 31 c8x10x9 i8x10x1 i8x2x9a rfl
              refine g_iconst 1 13 (gd rfl) rfl rfl (g_goto 17 (gd rfl) rfl ?_)
              refine g_ireturn (gd rfl) rfl (nb01 (in_w 0 1 (in_c 1 rfl) rfl)) (hp8x10 _ _ ?_)
              show GG _ _ _ _ _ _ _ _ [.int (Int32.ofInt 1)] _ _ _
              refine g_if_eq 16 25 (gd rfl) rfl rfl (fun c8x13 => ?_) (fun c8x13 => ?_)
              · skip
                exact zn_eq c8x13 (in_c 1 rfl) rfl
              · skip
                refine g_iload_n 17 (gd rfl) rfl rfl (g_iload_n 18 (gd rfl) rfl rfl (g_cmp_eq 21 25 (gd rfl) rfl rfl (fun c8x18 => ?_) (fun c8x18 => ?_)))
                · skip
                  refine g_iconst 0 26 (gd rfl) rfl rfl ?_
                  refine g_ireturn (gd rfl) rfl (nb01 (in_w 0 1 (in_c 0 rfl) rfl)) (hp8 _ _ ?_)
                  show GG _ _ _ _ _ _ _ _ [.int (Int32.ofInt 0)] _ _ _
                  refine g_thr (E := am_IA) (y := yX11_allow) 14 (gd rfl) rfl rfl (Or.inl ⟨rfl, rfl, rfl⟩) (by omega) (Nat.le_of_ble_eq_true rfl) (Nat.le_of_ble_eq_true rfl) (Nat.le_of_ble_eq_true rfl) (fun c11 => ?_) (fun c11 => ?_)
                  · skip
                    exact zn_ne c11 (in_c 0 rfl) rfl
                  · skip
                    exact (hX _ _ ⟨rfl, s, hI, fr_rf, rfl⟩)
                · skip
                  refine g_iconst 1 22 (gd rfl) rfl rfl (g_goto 26 (gd rfl) rfl ?_)
                  refine g_ireturn (gd rfl) rfl (nb01 (in_w 0 1 (in_c 1 rfl) rfl)) (hp8 _ _ ?_)
                  show GG _ _ _ _ _ _ _ _ [.int (Int32.ofInt 1)] _ _ _
                  refine g_thr (E := am_IA) (y := yX11_allow) 14 (gd rfl) rfl rfl (Or.inl ⟨rfl, rfl, rfl⟩) (by omega) (Nat.le_of_ble_eq_true rfl) (Nat.le_of_ble_eq_true rfl) (Nat.le_of_ble_eq_true rfl) (fun c11 => ?_) (fun c11 => ?_)
                  · skip
                    refine g_aload_n 15 (gd rfl) rfl rfl (g_getA (q2 := 65) 18 (gd rfl) rfl rfl rfl rfl (g_aload_n 19 (gd rfl) rfl rfl (g_iload_n 20 (gd rfl) rfl rfl (g_iload_n 21 (gd rfl) rfl rfl (g_callv (X := _) (As := [.ref (A 32), .int x1, .int x2]) (r := []) (b := A 65) (q := 65) 24 (gd rfl) rfl rfl rfl rfl rfl (ww_o rfl) (Nat.le_of_ble_eq_true rfl) (Nat.zero_le _) (Nat.zero_le _) (k_75_65_32 (by omega) hI (in_w 0 31 i8x2x9 rfl) (in_w 0 31 i8x10x9 rfl)) (fun e u h => h) (fun v u h => ?_))))))
                    obtain ⟨s21, hI21, hF21, z21, rfl, rfl⟩ := h
                    show GG _ _ _ _ _ _ _ _ [.long z21] _ _ _
                    exact g_lreturn (gd rfl) rfl (hP _ _ ⟨s21, hI21, (fr_tr rfl fr_rf hF21), z21, rfl, rfl⟩)
                  · skip
                    exact zn_eq c11 (in_c 1 rfl) rfl
  · skip
    have i1x5 := r_eq1 (-1) (-1) c1x5 ro_0_2 (in_c (-1) rfl) rfl
    refine g_aload_n 9 (gd rfl) rfl rfl (g_getA (q2 := 1) 12 (gd rfl) rfl rfl rfl rfl (g_getA (q2 := 2) 15 (gd rfl) rfl rfl rfl rfl (g_goto 22 (gd rfl) rfl ?_)))
    refine g_areturn (gd rfl) rfl (hp1 _ _ ?_)
    show GG _ _ _ _ _ _ _ _ [.ref (A 2)] _ _ _
    refine g_astore_n 5 (gd rfl) rfl (Nat.le_of_ble_eq_true rfl) (g_aload_n 6 (gd rfl) rfl rfl (g_iload_n 7 (gd rfl) rfl rfl (g_iload_n 8 (gd rfl) rfl rfl ?_)))
    refine g_callv (X := _) (As := [.int x1, .int x2]) (r := []) (b := A 2) (q := 2) 11 (gd rfl) rfl rfl rfl rfl rfl (ww_o rfl) (Nat.le_of_ble_eq_true rfl) (mc := 0) (ms := 0) (Nat.zero_le _) (Nat.zero_le _) (P := fun v u => _) ?_ (fun e u h => h) (fun v u h => h)
    intro po8 xx8 hp8 hx8
    refine g_enter2 (k := 95) (N := 300) (by omega) rfl (Nat.le_of_ble_eq_true rfl) (g_aload_n 1 (gd rfl) rfl rfl (g_iload_n 2 (gd rfl) rfl rfl ?_))
    refine g_callv (X := _) (As := [.int x1]) (r := []) (b := A 2) (q := 2) 5 (gd rfl) rfl rfl rfl rfl rfl (ww_o rfl) (Nat.le_of_ble_eq_true rfl) (mc := 0) (ms := 0) (Nat.zero_le _) (Nat.zero_le _) (P := fun v u => _) ?_ (fun e u h => h) (fun v u h => h)
    intro po8x2 xx8x2 hp8x2 hx8x2
    refine g_enter2 (k := 94) (N := 300) (by omega) rfl (Nat.le_of_ble_eq_true rfl) (g_iload_n 1 (gd rfl) rfl rfl (g_if_lt 4 16 (gd rfl) rfl rfl (fun c8x2x1 => ?_) (fun c8x2x1 => ?_)))
    · skip
      have i8x2x1 := z_lt (-2147483648) (-1) c8x2x1 (i_rng x1) rfl
      refine g_iconst 0 17 (gd rfl) rfl rfl ?_
      refine g_ireturn (gd rfl) rfl (nb01 (in_w 0 1 (in_c 0 rfl) rfl)) (hp8x2 _ _ ?_)
      show GG _ _ _ _ _ _ _ _ [.int (Int32.ofInt 0)] _ _ _
      refine g_if_eq 8 25 (gd rfl) rfl rfl (fun c8x5 => ?_) (fun c8x5 => ?_)
      · skip
        refine g_iconst 0 26 (gd rfl) rfl rfl ?_
        refine g_ireturn (gd rfl) rfl (nb01 (in_w 0 1 (in_c 0 rfl) rfl)) (hp8 _ _ ?_)
        show GG _ _ _ _ _ _ _ _ [.int (Int32.ofInt 0)] _ _ _
        refine g_thr (E := am_IA) (y := yX11_allow) 14 (gd rfl) rfl rfl (Or.inl ⟨rfl, rfl, rfl⟩) (by omega) (Nat.le_of_ble_eq_true rfl) (Nat.le_of_ble_eq_true rfl) (Nat.le_of_ble_eq_true rfl) (fun c11 => ?_) (fun c11 => ?_)
        · skip
          exact zn_ne c11 (in_c 0 rfl) rfl
        · skip
          exact (hX _ _ ⟨rfl, s, hI, fr_rf, rfl⟩)
      · skip
        exact zn_ne c8x5 (in_c 0 rfl) rfl
    · skip
      have i8x2x1 := z_ge 0 2147483647 c8x2x1 (i_rng x1) rfl
      refine g_iload_n 5 (gd rfl) rfl rfl (g_aload_n 6 (gd rfl) rfl rfl (g_getIv (y := u_2_1) 9 (gd rfl) rfl rfl rfl (e_2_1) (g_cmp_ge 12 16 (gd rfl) rfl rfl (fun c8x2x9 => ?_) (fun c8x2x9 => ?_))))
      · skip
        refine g_iconst 0 17 (gd rfl) rfl rfl ?_
        refine g_ireturn (gd rfl) rfl (nb01 (in_w 0 1 (in_c 0 rfl) rfl)) (hp8x2 _ _ ?_)
        show GG _ _ _ _ _ _ _ _ [.int (Int32.ofInt 0)] _ _ _
        refine g_if_eq 8 25 (gd rfl) rfl rfl (fun c8x5 => ?_) (fun c8x5 => ?_)
        · skip
          refine g_iconst 0 26 (gd rfl) rfl rfl ?_
          refine g_ireturn (gd rfl) rfl (nb01 (in_w 0 1 (in_c 0 rfl) rfl)) (hp8 _ _ ?_)
          show GG _ _ _ _ _ _ _ _ [.int (Int32.ofInt 0)] _ _ _
          refine g_thr (E := am_IA) (y := yX11_allow) 14 (gd rfl) rfl rfl (Or.inl ⟨rfl, rfl, rfl⟩) (by omega) (Nat.le_of_ble_eq_true rfl) (Nat.le_of_ble_eq_true rfl) (Nat.le_of_ble_eq_true rfl) (fun c11 => ?_) (fun c11 => ?_)
          · skip
            exact zn_ne c11 (in_c 0 rfl) rfl
          · skip
            exact (hX _ _ ⟨rfl, s, hI, fr_rf, rfl⟩)
        · skip
          exact zn_ne c8x5 (in_c 0 rfl) rfl
      · skip
        have i8x2x9 := r_lt1 0 31 c8x2x9 i8x2x1 ro_2_1 rfl
        have i8x2x9a := r_lt2 1 32 c8x2x9 i8x2x1 ro_2_1 rfl
        refine g_iconst 1 13 (gd rfl) rfl rfl (g_goto 17 (gd rfl) rfl ?_)
        refine g_ireturn (gd rfl) rfl (nb01 (in_w 0 1 (in_c 1 rfl) rfl)) (hp8x2 _ _ ?_)
        show GG _ _ _ _ _ _ _ _ [.int (Int32.ofInt 1)] _ _ _
        refine g_if_eq 8 25 (gd rfl) rfl rfl (fun c8x5 => ?_) (fun c8x5 => ?_)
        · skip
          exact zn_eq c8x5 (in_c 1 rfl) rfl
        · skip
          refine g_aload_n 9 (gd rfl) rfl rfl (g_iload_n 10 (gd rfl) rfl rfl ?_)
          refine g_callv (X := _) (As := [.int x2]) (r := []) (b := A 2) (q := 2) 13 (gd rfl) rfl rfl rfl rfl rfl (ww_o rfl) (Nat.le_of_ble_eq_true rfl) (mc := 0) (ms := 0) (Nat.zero_le _) (Nat.zero_le _) (P := fun v u => _) ?_ (fun e u h => h) (fun v u h => h)
          intro po8x10 xx8x10 hp8x10 hx8x10
          refine g_enter2 (k := 94) (N := 300) (by omega) rfl (Nat.le_of_ble_eq_true rfl) (g_iload_n 1 (gd rfl) rfl rfl (g_if_lt 4 16 (gd rfl) rfl rfl (fun c8x10x1 => ?_) (fun c8x10x1 => ?_)))
          · skip
            have i8x10x1 := z_lt (-2147483648) (-1) c8x10x1 (i_rng x2) rfl
            refine g_iconst 0 17 (gd rfl) rfl rfl ?_
            refine g_ireturn (gd rfl) rfl (nb01 (in_w 0 1 (in_c 0 rfl) rfl)) (hp8x10 _ _ ?_)
            show GG _ _ _ _ _ _ _ _ [.int (Int32.ofInt 0)] _ _ _
            refine g_if_eq 16 25 (gd rfl) rfl rfl (fun c8x13 => ?_) (fun c8x13 => ?_)
            · skip
              refine g_iconst 0 26 (gd rfl) rfl rfl ?_
              refine g_ireturn (gd rfl) rfl (nb01 (in_w 0 1 (in_c 0 rfl) rfl)) (hp8 _ _ ?_)
              show GG _ _ _ _ _ _ _ _ [.int (Int32.ofInt 0)] _ _ _
              refine g_thr (E := am_IA) (y := yX11_allow) 14 (gd rfl) rfl rfl (Or.inl ⟨rfl, rfl, rfl⟩) (by omega) (Nat.le_of_ble_eq_true rfl) (Nat.le_of_ble_eq_true rfl) (Nat.le_of_ble_eq_true rfl) (fun c11 => ?_) (fun c11 => ?_)
              · skip
                exact zn_ne c11 (in_c 0 rfl) rfl
              · skip
                exact (hX _ _ ⟨rfl, s, hI, fr_rf, rfl⟩)
            · skip
              exact zn_ne c8x13 (in_c 0 rfl) rfl
          · skip
            have i8x10x1 := z_ge 0 2147483647 c8x10x1 (i_rng x2) rfl
            refine g_iload_n 5 (gd rfl) rfl rfl (g_aload_n 6 (gd rfl) rfl rfl (g_getIv (y := u_2_1) 9 (gd rfl) rfl rfl rfl (e_2_1) (g_cmp_ge 12 16 (gd rfl) rfl rfl (fun c8x10x9 => ?_) (fun c8x10x9 => ?_))))
            · skip
              have i8x10x9 := r_le2 1 2147483647 c8x10x9 i8x2x9a i8x10x1 rfl
              refine g_iconst 0 17 (gd rfl) rfl rfl ?_
              refine g_ireturn (gd rfl) rfl (nb01 (in_w 0 1 (in_c 0 rfl) rfl)) (hp8x10 _ _ ?_)
              show GG _ _ _ _ _ _ _ _ [.int (Int32.ofInt 0)] _ _ _
              refine g_if_eq 16 25 (gd rfl) rfl rfl (fun c8x13 => ?_) (fun c8x13 => ?_)
              · skip
                refine g_iconst 0 26 (gd rfl) rfl rfl ?_
                refine g_ireturn (gd rfl) rfl (nb01 (in_w 0 1 (in_c 0 rfl) rfl)) (hp8 _ _ ?_)
                show GG _ _ _ _ _ _ _ _ [.int (Int32.ofInt 0)] _ _ _
                refine g_thr (E := am_IA) (y := yX11_allow) 14 (gd rfl) rfl rfl (Or.inl ⟨rfl, rfl, rfl⟩) (by omega) (Nat.le_of_ble_eq_true rfl) (Nat.le_of_ble_eq_true rfl) (Nat.le_of_ble_eq_true rfl) (fun c11 => ?_) (fun c11 => ?_)
                · skip
                  exact zn_ne c11 (in_c 0 rfl) rfl
                · skip
                  exact (hX _ _ ⟨rfl, s, hI, fr_rf, rfl⟩)
              · skip
                exact zn_ne c8x13 (in_c 0 rfl) rfl
            · skip
              have i8x10x9 := r_lt1 0 31 c8x10x9 i8x10x1 i8x2x9a rfl
              refine g_iconst 1 13 (gd rfl) rfl rfl (g_goto 17 (gd rfl) rfl ?_)
              refine g_ireturn (gd rfl) rfl (nb01 (in_w 0 1 (in_c 1 rfl) rfl)) (hp8x10 _ _ ?_)
              show GG _ _ _ _ _ _ _ _ [.int (Int32.ofInt 1)] _ _ _
              refine g_if_eq 16 25 (gd rfl) rfl rfl (fun c8x13 => ?_) (fun c8x13 => ?_)
              · skip
                exact zn_eq c8x13 (in_c 1 rfl) rfl
              · skip
                refine g_iload_n 17 (gd rfl) rfl rfl (g_iload_n 18 (gd rfl) rfl rfl (g_cmp_eq 21 25 (gd rfl) rfl rfl (fun c8x18 => ?_) (fun c8x18 => ?_)))
                · skip
                  refine g_iconst 0 26 (gd rfl) rfl rfl ?_
                  refine g_ireturn (gd rfl) rfl (nb01 (in_w 0 1 (in_c 0 rfl) rfl)) (hp8 _ _ ?_)
                  show GG _ _ _ _ _ _ _ _ [.int (Int32.ofInt 0)] _ _ _
                  refine g_thr (E := am_IA) (y := yX11_allow) 14 (gd rfl) rfl rfl (Or.inl ⟨rfl, rfl, rfl⟩) (by omega) (Nat.le_of_ble_eq_true rfl) (Nat.le_of_ble_eq_true rfl) (Nat.le_of_ble_eq_true rfl) (fun c11 => ?_) (fun c11 => ?_)
                  · skip
                    exact zn_ne c11 (in_c 0 rfl) rfl
                  · skip
                    exact (hX _ _ ⟨rfl, s, hI, fr_rf, rfl⟩)
                · skip
                  refine g_iconst 1 22 (gd rfl) rfl rfl (g_goto 26 (gd rfl) rfl ?_)
                  refine g_ireturn (gd rfl) rfl (nb01 (in_w 0 1 (in_c 1 rfl) rfl)) (hp8 _ _ ?_)
                  show GG _ _ _ _ _ _ _ _ [.int (Int32.ofInt 1)] _ _ _
                  refine g_thr (E := am_IA) (y := yX11_allow) 14 (gd rfl) rfl rfl (Or.inl ⟨rfl, rfl, rfl⟩) (by omega) (Nat.le_of_ble_eq_true rfl) (Nat.le_of_ble_eq_true rfl) (Nat.le_of_ble_eq_true rfl) (fun c11 => ?_) (fun c11 => ?_)
                  · skip
                    refine g_aload_n 15 (gd rfl) rfl rfl (g_getA (q2 := 65) 18 (gd rfl) rfl rfl rfl rfl (g_aload_n 19 (gd rfl) rfl rfl (g_iload_n 20 (gd rfl) rfl rfl (g_iload_n 21 (gd rfl) rfl rfl (g_callv (X := _) (As := [.ref (A 2), .int x1, .int x2]) (r := []) (b := A 65) (q := 65) 24 (gd rfl) rfl rfl rfl rfl rfl (ww_o rfl) (Nat.le_of_ble_eq_true rfl) (Nat.zero_le _) (Nat.zero_le _) (k_75_65_2 (by omega) hI (in_w 0 31 i8x2x9 rfl) (in_w 0 31 i8x10x9 rfl)) (fun e u h => h) (fun v u h => ?_))))))
                    obtain ⟨s21, hI21, hF21, z21, rfl, rfl⟩ := h
                    show GG _ _ _ _ _ _ _ _ [.long z21] _ _ _
                    exact g_lreturn (gd rfl) rfl (hP _ _ ⟨s21, hI21, (fr_tr rfl fr_rf hF21), z21, rfl, rfl⟩)
                  · skip
                    exact zn_eq c11 (in_c 1 rfl) rfl

def fm_242_0 : FM := ([66, 67, 68], [], [(65, 0), (65, 1), (65, 2), (65, 4)], [(65, 3)])
/-- GraphHouse.side -/
theorem k_242_0 {Z : AmZ} {A : Nat → Nat} {s : GS} {ex : va_W} {d : Nat} {x1 : Int32} {x2 : Int32} {x3 : Int32} (hd : 7 ≤ d) (hI : Inv s)  : GC Z d 242 [.ref (A 0), .int x1, .int x2, .int x3] (WW Z A s ++ ex) 3 18 (fun v u => ∃ t : GS, Inv t ∧ Fr fm_242_0 s t ∧ ∃ z : Int32, v = some (.int z) ∧ u = WW Z A t ++ ex ∧ In z 0 1) (gE1 Z A ex fm_242_0 s) := by
  intro post xp hP hX
  obtain ⟨u_0_2, e_0_2⟩ : ∃ w, w = s.2.2.1 0 2 := ⟨_, rfl⟩
  have ro_0_2 := inv_F hI (-1) 4000 rfl e_0_2
  obtain ⟨u_2_1, e_2_1⟩ : ∃ w, w = s.2.2.1 2 1 := ⟨_, rfl⟩
  have ro_2_1 := inv_F hI 0 32 rfl e_2_1
  obtain ⟨u_32_1, e_32_1⟩ : ∃ w, w = s.2.2.1 32 1 := ⟨_, rfl⟩
  have ro_32_1 := inv_F hI 0 32 rfl e_32_1
  have ct29 : ∀ (sc29 : GS) , Inv sc29 → Fr fm_242_0 s sc29 → GG Z (d - 1) 242 post (gx xp) (901) 29 (fun j => xlook j [(0, .ref (A 0)), (1, .int x1), (2, .int x2), (3, .int x3)]) [] (WW Z A sc29 ++ ex) 3 18 := by
    intro sc29  hIc29 hFc29 
    refine g_iconst 0 30 (gd rfl) rfl rfl (g_thr (E := am_IA) (y := yX11_allow) 33 (gd rfl) rfl rfl (Or.inl ⟨rfl, rfl, rfl⟩) (by omega) (Nat.le_of_ble_eq_true rfl) (Nat.le_of_ble_eq_true rfl) (Nat.le_of_ble_eq_true rfl) (fun c30 => ?_) (fun c30 => ?_))
    · skip
      exact zn_ne c30 (in_c 0 rfl) rfl
    · skip
      exact (hX _ _ ⟨rfl, sc29, hIc29, hFc29, rfl⟩)
  refine g_enter2 (k := 242) (N := 1801) (by omega) rfl (Nat.le_of_ble_eq_true rfl) (g_aload_n 1 (gd rfl) rfl rfl ?_)
  refine g_callv (X := _) (As := []) (r := []) (b := A 0) (q := 0) 4 (gd rfl) rfl rfl rfl rfl rfl (ww_o rfl) (Nat.le_of_ble_eq_true rfl) (mc := 0) (ms := 0) (Nat.zero_le _) (Nat.zero_le _) (P := fun v u => _) ?_ (fun e u h => h) (fun v u h => h)
  intro po1 xx1 hp1 hx1
  refine g_enter2 (k := 259) (N := 300) (by omega) rfl (Nat.le_of_ble_eq_true rfl) (g_aload_n 1 (gd rfl) rfl rfl (g_getIv (y := u_0_2) 4 (gd rfl) rfl rfl rfl (e_0_2) (g_iconst (-1) 5 (gd rfl) rfl rfl (g_cmp_ne 8 18 (gd rfl) rfl rfl (fun c1x5 => ?_) (fun c1x5 => ?_)))))
  · skip
    have i1x5 := r_ne1 0 4000 c1x5 ro_0_2 (in_c (-1) rfl) rfl
    refine g_aload_n 19 (gd rfl) rfl rfl (g_getA (q2 := 32) 22 (gd rfl) rfl rfl rfl rfl ?_)
    refine g_areturn (gd rfl) rfl (hp1 _ _ ?_)
    show GG _ _ _ _ _ _ _ _ [.ref (A 32)] _ _ _
    refine g_astore 6 (gd rfl) rfl (Nat.le_of_ble_eq_true rfl) (g_aload 8 (gd rfl) rfl rfl (g_iload_n 9 (gd rfl) rfl rfl (g_iload_n 10 (gd rfl) rfl rfl ?_)))
    refine g_callv (X := _) (As := [.int x1, .int x2]) (r := []) (b := A 32) (q := 32) 13 (gd rfl) rfl rfl rfl rfl rfl (ww_o rfl) (Nat.le_of_ble_eq_true rfl) (mc := 0) (ms := 0) (Nat.zero_le _) (Nat.zero_le _) (P := fun v u => _) ?_ (fun e u h => h) (fun v u h => h)
    intro po10 xx10 hp10 hx10
    refine g_enter2 (k := 95) (N := 300) (by omega) rfl (Nat.le_of_ble_eq_true rfl) (g_aload_n 1 (gd rfl) rfl rfl (g_iload_n 2 (gd rfl) rfl rfl ?_))
    refine g_callv (X := _) (As := [.int x1]) (r := []) (b := A 32) (q := 32) 5 (gd rfl) rfl rfl rfl rfl rfl (ww_o rfl) (Nat.le_of_ble_eq_true rfl) (mc := 0) (ms := 0) (Nat.zero_le _) (Nat.zero_le _) (P := fun v u => _) ?_ (fun e u h => h) (fun v u h => h)
    intro po10x2 xx10x2 hp10x2 hx10x2
    refine g_enter2 (k := 94) (N := 300) (by omega) rfl (Nat.le_of_ble_eq_true rfl) (g_iload_n 1 (gd rfl) rfl rfl (g_if_lt 4 16 (gd rfl) rfl rfl (fun c10x2x1 => ?_) (fun c10x2x1 => ?_)))
    · skip
      have i10x2x1 := z_lt (-2147483648) (-1) c10x2x1 (i_rng x1) rfl
      refine g_iconst 0 17 (gd rfl) rfl rfl ?_
      refine g_ireturn (gd rfl) rfl (nb01 (in_w 0 1 (in_c 0 rfl) rfl)) (hp10x2 _ _ ?_)
      show GG _ _ _ _ _ _ _ _ [.int (Int32.ofInt 0)] _ _ _
      refine g_if_eq 8 25 (gd rfl) rfl rfl (fun c10x5 => ?_) (fun c10x5 => ?_)
      · skip
        refine g_iconst 0 26 (gd rfl) rfl rfl ?_
        refine g_ireturn (gd rfl) rfl (nb01 (in_w 0 1 (in_c 0 rfl) rfl)) (hp10 _ _ ?_)
        show GG _ _ _ _ _ _ _ _ [.int (Int32.ofInt 0)] _ _ _
        refine g_if_eq 16 29 (gd rfl) rfl rfl (fun c13 => ?_) (fun c13 => ?_)
        · skip
          exact gg_w (by omega) (gg_f (gf_cons rfl (gf_cons rfl (gf_cons rfl (gf_cons rfl gf_nil)))) (ct29 s  hI fr_rf ))
        · skip
          exact zn_ne c13 (in_c 0 rfl) rfl
      · skip
        exact zn_ne c10x5 (in_c 0 rfl) rfl
    · skip
      have i10x2x1 := z_ge 0 2147483647 c10x2x1 (i_rng x1) rfl
      refine g_iload_n 5 (gd rfl) rfl rfl (g_aload_n 6 (gd rfl) rfl rfl (g_getIv (y := u_32_1) 9 (gd rfl) rfl rfl rfl (e_32_1) (g_cmp_ge 12 16 (gd rfl) rfl rfl (fun c10x2x9 => ?_) (fun c10x2x9 => ?_))))
      · skip
        refine g_iconst 0 17 (gd rfl) rfl rfl ?_
        refine g_ireturn (gd rfl) rfl (nb01 (in_w 0 1 (in_c 0 rfl) rfl)) (hp10x2 _ _ ?_)
        show GG _ _ _ _ _ _ _ _ [.int (Int32.ofInt 0)] _ _ _
        refine g_if_eq 8 25 (gd rfl) rfl rfl (fun c10x5 => ?_) (fun c10x5 => ?_)
        · skip
          refine g_iconst 0 26 (gd rfl) rfl rfl ?_
          refine g_ireturn (gd rfl) rfl (nb01 (in_w 0 1 (in_c 0 rfl) rfl)) (hp10 _ _ ?_)
          show GG _ _ _ _ _ _ _ _ [.int (Int32.ofInt 0)] _ _ _
          refine g_if_eq 16 29 (gd rfl) rfl rfl (fun c13 => ?_) (fun c13 => ?_)
          · skip
            exact gg_w (by omega) (gg_f (gf_cons rfl (gf_cons rfl (gf_cons rfl (gf_cons rfl gf_nil)))) (ct29 s  hI fr_rf ))
          · skip
            exact zn_ne c13 (in_c 0 rfl) rfl
        · skip
          exact zn_ne c10x5 (in_c 0 rfl) rfl
      · skip
        have i10x2x9 := r_lt1 0 31 c10x2x9 i10x2x1 ro_32_1 rfl
        have i10x2x9a := r_lt2 1 32 c10x2x9 i10x2x1 ro_32_1 rfl
        refine g_iconst 1 13 (gd rfl) rfl rfl (g_goto 17 (gd rfl) rfl ?_)
        refine g_ireturn (gd rfl) rfl (nb01 (in_w 0 1 (in_c 1 rfl) rfl)) (hp10x2 _ _ ?_)
        show GG _ _ _ _ _ _ _ _ [.int (Int32.ofInt 1)] _ _ _
        refine g_if_eq 8 25 (gd rfl) rfl rfl (fun c10x5 => ?_) (fun c10x5 => ?_)
        · skip
          exact zn_eq c10x5 (in_c 1 rfl) rfl
        · skip
          refine g_aload_n 9 (gd rfl) rfl rfl (g_iload_n 10 (gd rfl) rfl rfl ?_)
          refine g_callv (X := _) (As := [.int x2]) (r := []) (b := A 32) (q := 32) 13 (gd rfl) rfl rfl rfl rfl rfl (ww_o rfl) (Nat.le_of_ble_eq_true rfl) (mc := 0) (ms := 0) (Nat.zero_le _) (Nat.zero_le _) (P := fun v u => _) ?_ (fun e u h => h) (fun v u h => h)
          intro po10x10 xx10x10 hp10x10 hx10x10
          refine g_enter2 (k := 94) (N := 300) (by omega) rfl (Nat.le_of_ble_eq_true rfl) (g_iload_n 1 (gd rfl) rfl rfl (g_if_lt 4 16 (gd rfl) rfl rfl (fun c10x10x1 => ?_) (fun c10x10x1 => ?_)))
          · skip
            have i10x10x1 := z_lt (-2147483648) (-1) c10x10x1 (i_rng x2) rfl
            refine g_iconst 0 17 (gd rfl) rfl rfl ?_
            refine g_ireturn (gd rfl) rfl (nb01 (in_w 0 1 (in_c 0 rfl) rfl)) (hp10x10 _ _ ?_)
            show GG _ _ _ _ _ _ _ _ [.int (Int32.ofInt 0)] _ _ _
            refine g_if_eq 16 25 (gd rfl) rfl rfl (fun c10x13 => ?_) (fun c10x13 => ?_)
            · skip
              refine g_iconst 0 26 (gd rfl) rfl rfl ?_
              refine g_ireturn (gd rfl) rfl (nb01 (in_w 0 1 (in_c 0 rfl) rfl)) (hp10 _ _ ?_)
              show GG _ _ _ _ _ _ _ _ [.int (Int32.ofInt 0)] _ _ _
              refine g_if_eq 16 29 (gd rfl) rfl rfl (fun c13 => ?_) (fun c13 => ?_)
              · skip
                exact gg_w (by omega) (gg_f (gf_cons rfl (gf_cons rfl (gf_cons rfl (gf_cons rfl gf_nil)))) (ct29 s  hI fr_rf ))
              · skip
                exact zn_ne c13 (in_c 0 rfl) rfl
            · skip
              exact zn_ne c10x13 (in_c 0 rfl) rfl
          · skip
            have i10x10x1 := z_ge 0 2147483647 c10x10x1 (i_rng x2) rfl
            refine g_iload_n 5 (gd rfl) rfl rfl (g_aload_n 6 (gd rfl) rfl rfl (g_getIv (y := u_32_1) 9 (gd rfl) rfl rfl rfl (e_32_1) (g_cmp_ge 12 16 (gd rfl) rfl rfl (fun c10x10x9 => ?_) (fun c10x10x9 => ?_))))
            · skip
              have i10x10x9 := r_le2 1 2147483647 c10x10x9 i10x2x9a i10x10x1 rfl
              refine g_iconst 0 17 (gd rfl) rfl rfl ?_
              refine g_ireturn (gd rfl) rfl (nb01 (in_w 0 1 (in_c 0 rfl) rfl)) (hp10x10 _ _ ?_)
              show GG _ _ _ _ _ _ _ _ [.int (Int32.ofInt 0)] _ _ _
              refine g_if_eq 16 25 (gd rfl) rfl rfl (fun c10x13 => ?_) (fun c10x13 => ?_)
              · skip
                refine g_iconst 0 26 (gd rfl) rfl rfl ?_
                refine g_ireturn (gd rfl) rfl (nb01 (in_w 0 1 (in_c 0 rfl) rfl)) (hp10 _ _ ?_)
                show GG _ _ _ _ _ _ _ _ [.int (Int32.ofInt 0)] _ _ _
                refine g_if_eq 16 29 (gd rfl) rfl rfl (fun c13 => ?_) (fun c13 => ?_)
                · skip
                  exact gg_w (by omega) (gg_f (gf_cons rfl (gf_cons rfl (gf_cons rfl (gf_cons rfl gf_nil)))) (ct29 s  hI fr_rf ))
                · skip
                  exact zn_ne c13 (in_c 0 rfl) rfl
              · skip
                exact zn_ne c10x13 (in_c 0 rfl) rfl
            · skip
              have i10x10x9 := r_lt1 0 31 c10x10x9 i10x10x1 i10x2x9a rfl
              refine g_iconst 1 13 (gd rfl) rfl rfl (g_goto 17 (gd rfl) rfl ?_)
              refine g_ireturn (gd rfl) rfl (nb01 (in_w 0 1 (in_c 1 rfl) rfl)) (hp10x10 _ _ ?_)
              show GG _ _ _ _ _ _ _ _ [.int (Int32.ofInt 1)] _ _ _
              refine g_if_eq 16 25 (gd rfl) rfl rfl (fun c10x13 => ?_) (fun c10x13 => ?_)
              · skip
                exact zn_eq c10x13 (in_c 1 rfl) rfl
              · skip
                refine g_iload_n 17 (gd rfl) rfl rfl (g_iload_n 18 (gd rfl) rfl rfl (g_cmp_eq 21 25 (gd rfl) rfl rfl (fun c10x18 => ?_) (fun c10x18 => ?_)))
                · skip
                  refine g_iconst 0 26 (gd rfl) rfl rfl ?_
                  refine g_ireturn (gd rfl) rfl (nb01 (in_w 0 1 (in_c 0 rfl) rfl)) (hp10 _ _ ?_)
                  show GG _ _ _ _ _ _ _ _ [.int (Int32.ofInt 0)] _ _ _
                  refine g_if_eq 16 29 (gd rfl) rfl rfl (fun c13 => ?_) (fun c13 => ?_)
                  · skip
                    exact gg_w (by omega) (gg_f (gf_cons rfl (gf_cons rfl (gf_cons rfl (gf_cons rfl gf_nil)))) (ct29 s  hI fr_rf ))
                  · skip
                    exact zn_ne c13 (in_c 0 rfl) rfl
                · skip
                  refine g_iconst 1 22 (gd rfl) rfl rfl (g_goto 26 (gd rfl) rfl ?_)
                  refine g_ireturn (gd rfl) rfl (nb01 (in_w 0 1 (in_c 1 rfl) rfl)) (hp10 _ _ ?_)
                  show GG _ _ _ _ _ _ _ _ [.int (Int32.ofInt 1)] _ _ _
                  refine g_if_eq 16 29 (gd rfl) rfl rfl (fun c13 => ?_) (fun c13 => ?_)
                  · skip
                    exact zn_eq c13 (in_c 1 rfl) rfl
                  · skip
                    refine g_aload 18 (gd rfl) rfl rfl (g_iload_n 19 (gd rfl) rfl rfl ?_)
                    refine g_callv (X := _) (As := [.int x3]) (r := []) (b := A 32) (q := 32) 22 (gd rfl) rfl rfl rfl rfl rfl (ww_o rfl) (Nat.le_of_ble_eq_true rfl) (mc := 0) (ms := 0) (Nat.zero_le _) (Nat.zero_le _) (P := fun v u => _) ?_ (fun e u h => h) (fun v u h => h)
                    intro po19 xx19 hp19 hx19
                    refine g_enter2 (k := 94) (N := 300) (by omega) rfl (Nat.le_of_ble_eq_true rfl) (g_iload_n 1 (gd rfl) rfl rfl (g_if_lt 4 16 (gd rfl) rfl rfl (fun c19x1 => ?_) (fun c19x1 => ?_)))
                    · skip
                      have i19x1 := z_lt (-2147483648) (-1) c19x1 (i_rng x3) rfl
                      refine g_iconst 0 17 (gd rfl) rfl rfl ?_
                      refine g_ireturn (gd rfl) rfl (nb01 (in_w 0 1 (in_c 0 rfl) rfl)) (hp19 _ _ ?_)
                      show GG _ _ _ _ _ _ _ _ [.int (Int32.ofInt 0)] _ _ _
                      refine g_if_eq 25 29 (gd rfl) rfl rfl (fun c22 => ?_) (fun c22 => ?_)
                      · skip
                        exact gg_w (by omega) (gg_f (gf_cons rfl (gf_cons rfl (gf_cons rfl (gf_cons rfl gf_nil)))) (ct29 s  hI fr_rf ))
                      · skip
                        exact zn_ne c22 (in_c 0 rfl) rfl
                    · skip
                      have i19x1 := z_ge 0 2147483647 c19x1 (i_rng x3) rfl
                      refine g_iload_n 5 (gd rfl) rfl rfl (g_aload_n 6 (gd rfl) rfl rfl (g_getIv (y := u_32_1) 9 (gd rfl) rfl rfl rfl (e_32_1) (g_cmp_ge 12 16 (gd rfl) rfl rfl (fun c19x9 => ?_) (fun c19x9 => ?_))))
                      · skip
                        have i19x9 := r_le2 1 2147483647 c19x9 i10x2x9a i19x1 rfl
                        refine g_iconst 0 17 (gd rfl) rfl rfl ?_
                        refine g_ireturn (gd rfl) rfl (nb01 (in_w 0 1 (in_c 0 rfl) rfl)) (hp19 _ _ ?_)
                        show GG _ _ _ _ _ _ _ _ [.int (Int32.ofInt 0)] _ _ _
                        refine g_if_eq 25 29 (gd rfl) rfl rfl (fun c22 => ?_) (fun c22 => ?_)
                        · skip
                          exact gg_w (by omega) (gg_f (gf_cons rfl (gf_cons rfl (gf_cons rfl (gf_cons rfl gf_nil)))) (ct29 s  hI fr_rf ))
                        · skip
                          exact zn_ne c22 (in_c 0 rfl) rfl
                      · skip
                        have i19x9 := r_lt1 0 31 c19x9 i19x1 i10x2x9a rfl
                        refine g_iconst 1 13 (gd rfl) rfl rfl (g_goto 17 (gd rfl) rfl ?_)
                        refine g_ireturn (gd rfl) rfl (nb01 (in_w 0 1 (in_c 1 rfl) rfl)) (hp19 _ _ ?_)
                        show GG _ _ _ _ _ _ _ _ [.int (Int32.ofInt 1)] _ _ _
                        refine g_if_eq 25 29 (gd rfl) rfl rfl (fun c22 => ?_) (fun c22 => ?_)
                        · skip
                          exact zn_eq c22 (in_c 1 rfl) rfl
                        · skip
                          refine g_iconst 1 26 (gd rfl) rfl rfl (g_goto 30 (gd rfl) rfl (g_thr (E := am_IA) (y := yX11_allow) 33 (gd rfl) rfl rfl (Or.inl ⟨rfl, rfl, rfl⟩) (by omega) (Nat.le_of_ble_eq_true rfl) (Nat.le_of_ble_eq_true rfl) (Nat.le_of_ble_eq_true rfl) (fun c30 => ?_) (fun c30 => ?_)))
                          · skip
                            refine g_aload_n 34 (gd rfl) rfl rfl (g_getA (q2 := 65) 37 (gd rfl) rfl rfl rfl rfl (g_aload 39 (gd rfl) rfl rfl (g_iload_n 40 (gd rfl) rfl rfl (g_iload_n 41 (gd rfl) rfl rfl (g_callv (X := _) (As := [.ref (A 32), .int x1, .int x2]) (r := []) (b := A 65) (q := 65) 44 (gd rfl) rfl rfl rfl rfl rfl (ww_o rfl) (Nat.le_of_ble_eq_true rfl) (Nat.zero_le _) (Nat.zero_le _) (k_75_65_32 (by omega) hI (in_w 0 31 i10x2x9 rfl) (in_w 0 31 i10x10x9 rfl)) (fun e u h => h) (fun v u h => ?_))))))
                            obtain ⟨s41, hI41, hF41, z41, rfl, rfl⟩ := h
                            show GG _ _ _ _ _ _ _ _ [.long z41] _ _ _
                            refine g_pop2 45 (gd rfl) rfl rfl (g_aload_n 46 (gd rfl) rfl rfl (g_getA (q2 := 65) 49 (gd rfl) rfl rfl rfl rfl (g_getI 52 (gd rfl) rfl rfl rfl (fun z49 e49 => g_iload_n 53 (gd rfl) rfl rfl (g_ishr 54 (gd rfl) rfl (fun z53 e53 => g_iconst 1 55 (gd rfl) rfl rfl (g_iand 56 (gd rfl) rfl (fun z55 e55 => have i55 := in_and2 e55 (in_c 1 rfl) rfl; g_if_eq 59 63 (gd rfl) rfl rfl (fun c56 => ?_) (fun c56 => ?_)))))))))
                            · skip
                              have i56 := z_eq 0 0 c56 i55 rfl
                              exact g_iconst 0 64 (gd rfl) rfl rfl (g_ireturn (gd rfl) rfl (nb01 (in_w 0 1 (in_c 0 rfl) rfl)) (hP _ _ ⟨s41, hI41, (fr_tr rfl fr_rf hF41), (Int32.ofInt 0), rfl, rfl, in_w 0 1 (in_c 0 rfl) rfl⟩))
                            · skip
                              have i56 := z_ne 1 1 c56 i55 rfl
                              exact g_iconst 1 60 (gd rfl) rfl rfl (g_goto 64 (gd rfl) rfl (g_ireturn (gd rfl) rfl (nb01 (in_w 0 1 (in_c 1 rfl) rfl)) (hP _ _ ⟨s41, hI41, (fr_tr rfl fr_rf hF41), (Int32.ofInt 1), rfl, rfl, in_w 0 1 (in_c 1 rfl) rfl⟩)))
                          · skip
                            exact zn_eq c30 (in_c 1 rfl) rfl
  · skip
    have i1x5 := r_eq1 (-1) (-1) c1x5 ro_0_2 (in_c (-1) rfl) rfl
    refine g_aload_n 9 (gd rfl) rfl rfl (g_getA (q2 := 1) 12 (gd rfl) rfl rfl rfl rfl (g_getA (q2 := 2) 15 (gd rfl) rfl rfl rfl rfl (g_goto 22 (gd rfl) rfl ?_)))
    refine g_areturn (gd rfl) rfl (hp1 _ _ ?_)
    show GG _ _ _ _ _ _ _ _ [.ref (A 2)] _ _ _
    refine g_astore 6 (gd rfl) rfl (Nat.le_of_ble_eq_true rfl) (g_aload 8 (gd rfl) rfl rfl (g_iload_n 9 (gd rfl) rfl rfl (g_iload_n 10 (gd rfl) rfl rfl ?_)))
    refine g_callv (X := _) (As := [.int x1, .int x2]) (r := []) (b := A 2) (q := 2) 13 (gd rfl) rfl rfl rfl rfl rfl (ww_o rfl) (Nat.le_of_ble_eq_true rfl) (mc := 0) (ms := 0) (Nat.zero_le _) (Nat.zero_le _) (P := fun v u => _) ?_ (fun e u h => h) (fun v u h => h)
    intro po10 xx10 hp10 hx10
    refine g_enter2 (k := 95) (N := 300) (by omega) rfl (Nat.le_of_ble_eq_true rfl) (g_aload_n 1 (gd rfl) rfl rfl (g_iload_n 2 (gd rfl) rfl rfl ?_))
    refine g_callv (X := _) (As := [.int x1]) (r := []) (b := A 2) (q := 2) 5 (gd rfl) rfl rfl rfl rfl rfl (ww_o rfl) (Nat.le_of_ble_eq_true rfl) (mc := 0) (ms := 0) (Nat.zero_le _) (Nat.zero_le _) (P := fun v u => _) ?_ (fun e u h => h) (fun v u h => h)
    intro po10x2 xx10x2 hp10x2 hx10x2
    refine g_enter2 (k := 94) (N := 300) (by omega) rfl (Nat.le_of_ble_eq_true rfl) (g_iload_n 1 (gd rfl) rfl rfl (g_if_lt 4 16 (gd rfl) rfl rfl (fun c10x2x1 => ?_) (fun c10x2x1 => ?_)))
    · skip
      have i10x2x1 := z_lt (-2147483648) (-1) c10x2x1 (i_rng x1) rfl
      refine g_iconst 0 17 (gd rfl) rfl rfl ?_
      refine g_ireturn (gd rfl) rfl (nb01 (in_w 0 1 (in_c 0 rfl) rfl)) (hp10x2 _ _ ?_)
      show GG _ _ _ _ _ _ _ _ [.int (Int32.ofInt 0)] _ _ _
      refine g_if_eq 8 25 (gd rfl) rfl rfl (fun c10x5 => ?_) (fun c10x5 => ?_)
      · skip
        refine g_iconst 0 26 (gd rfl) rfl rfl ?_
        refine g_ireturn (gd rfl) rfl (nb01 (in_w 0 1 (in_c 0 rfl) rfl)) (hp10 _ _ ?_)
        show GG _ _ _ _ _ _ _ _ [.int (Int32.ofInt 0)] _ _ _
        refine g_if_eq 16 29 (gd rfl) rfl rfl (fun c13 => ?_) (fun c13 => ?_)
        · skip
          exact gg_w (by omega) (gg_f (gf_cons rfl (gf_cons rfl (gf_cons rfl (gf_cons rfl gf_nil)))) (ct29 s  hI fr_rf ))
        · skip
          exact zn_ne c13 (in_c 0 rfl) rfl
      · skip
        exact zn_ne c10x5 (in_c 0 rfl) rfl
    · skip
      have i10x2x1 := z_ge 0 2147483647 c10x2x1 (i_rng x1) rfl
      refine g_iload_n 5 (gd rfl) rfl rfl (g_aload_n 6 (gd rfl) rfl rfl (g_getIv (y := u_2_1) 9 (gd rfl) rfl rfl rfl (e_2_1) (g_cmp_ge 12 16 (gd rfl) rfl rfl (fun c10x2x9 => ?_) (fun c10x2x9 => ?_))))
      · skip
        refine g_iconst 0 17 (gd rfl) rfl rfl ?_
        refine g_ireturn (gd rfl) rfl (nb01 (in_w 0 1 (in_c 0 rfl) rfl)) (hp10x2 _ _ ?_)
        show GG _ _ _ _ _ _ _ _ [.int (Int32.ofInt 0)] _ _ _
        refine g_if_eq 8 25 (gd rfl) rfl rfl (fun c10x5 => ?_) (fun c10x5 => ?_)
        · skip
          refine g_iconst 0 26 (gd rfl) rfl rfl ?_
          refine g_ireturn (gd rfl) rfl (nb01 (in_w 0 1 (in_c 0 rfl) rfl)) (hp10 _ _ ?_)
          show GG _ _ _ _ _ _ _ _ [.int (Int32.ofInt 0)] _ _ _
          refine g_if_eq 16 29 (gd rfl) rfl rfl (fun c13 => ?_) (fun c13 => ?_)
          · skip
            exact gg_w (by omega) (gg_f (gf_cons rfl (gf_cons rfl (gf_cons rfl (gf_cons rfl gf_nil)))) (ct29 s  hI fr_rf ))
          · skip
            exact zn_ne c13 (in_c 0 rfl) rfl
        · skip
          exact zn_ne c10x5 (in_c 0 rfl) rfl
      · skip
        have i10x2x9 := r_lt1 0 31 c10x2x9 i10x2x1 ro_2_1 rfl
        have i10x2x9a := r_lt2 1 32 c10x2x9 i10x2x1 ro_2_1 rfl
        refine g_iconst 1 13 (gd rfl) rfl rfl (g_goto 17 (gd rfl) rfl ?_)
        refine g_ireturn (gd rfl) rfl (nb01 (in_w 0 1 (in_c 1 rfl) rfl)) (hp10x2 _ _ ?_)
        show GG _ _ _ _ _ _ _ _ [.int (Int32.ofInt 1)] _ _ _
        refine g_if_eq 8 25 (gd rfl) rfl rfl (fun c10x5 => ?_) (fun c10x5 => ?_)
        · skip
          exact zn_eq c10x5 (in_c 1 rfl) rfl
        · skip
          refine g_aload_n 9 (gd rfl) rfl rfl (g_iload_n 10 (gd rfl) rfl rfl ?_)
          refine g_callv (X := _) (As := [.int x2]) (r := []) (b := A 2) (q := 2) 13 (gd rfl) rfl rfl rfl rfl rfl (ww_o rfl) (Nat.le_of_ble_eq_true rfl) (mc := 0) (ms := 0) (Nat.zero_le _) (Nat.zero_le _) (P := fun v u => _) ?_ (fun e u h => h) (fun v u h => h)
          intro po10x10 xx10x10 hp10x10 hx10x10
          refine g_enter2 (k := 94) (N := 300) (by omega) rfl (Nat.le_of_ble_eq_true rfl) (g_iload_n 1 (gd rfl) rfl rfl (g_if_lt 4 16 (gd rfl) rfl rfl (fun c10x10x1 => ?_) (fun c10x10x1 => ?_)))
          · skip
            have i10x10x1 := z_lt (-2147483648) (-1) c10x10x1 (i_rng x2) rfl
            refine g_iconst 0 17 (gd rfl) rfl rfl ?_
            refine g_ireturn (gd rfl) rfl (nb01 (in_w 0 1 (in_c 0 rfl) rfl)) (hp10x10 _ _ ?_)
            show GG _ _ _ _ _ _ _ _ [.int (Int32.ofInt 0)] _ _ _
            refine g_if_eq 16 25 (gd rfl) rfl rfl (fun c10x13 => ?_) (fun c10x13 => ?_)
            · skip
              refine g_iconst 0 26 (gd rfl) rfl rfl ?_
              refine g_ireturn (gd rfl) rfl (nb01 (in_w 0 1 (in_c 0 rfl) rfl)) (hp10 _ _ ?_)
              show GG _ _ _ _ _ _ _ _ [.int (Int32.ofInt 0)] _ _ _
              refine g_if_eq 16 29 (gd rfl) rfl rfl (fun c13 => ?_) (fun c13 => ?_)
              · skip
                exact gg_w (by omega) (gg_f (gf_cons rfl (gf_cons rfl (gf_cons rfl (gf_cons rfl gf_nil)))) (ct29 s  hI fr_rf ))
              · skip
                exact zn_ne c13 (in_c 0 rfl) rfl
            · skip
              exact zn_ne c10x13 (in_c 0 rfl) rfl
          · skip
            have i10x10x1 := z_ge 0 2147483647 c10x10x1 (i_rng x2) rfl
            refine g_iload_n 5 (gd rfl) rfl rfl (g_aload_n 6 (gd rfl) rfl rfl (g_getIv (y := u_2_1) 9 (gd rfl) rfl rfl rfl (e_2_1) (g_cmp_ge 12 16 (gd rfl) rfl rfl (fun c10x10x9 => ?_) (fun c10x10x9 => ?_))))
            · skip
              have i10x10x9 := r_le2 1 2147483647 c10x10x9 i10x2x9a i10x10x1 rfl
              refine g_iconst 0 17 (gd rfl) rfl rfl ?_
              refine g_ireturn (gd rfl) rfl (nb01 (in_w 0 1 (in_c 0 rfl) rfl)) (hp10x10 _ _ ?_)
              show GG _ _ _ _ _ _ _ _ [.int (Int32.ofInt 0)] _ _ _
              refine g_if_eq 16 25 (gd rfl) rfl rfl (fun c10x13 => ?_) (fun c10x13 => ?_)
              · skip
                refine g_iconst 0 26 (gd rfl) rfl rfl ?_
                refine g_ireturn (gd rfl) rfl (nb01 (in_w 0 1 (in_c 0 rfl) rfl)) (hp10 _ _ ?_)
                show GG _ _ _ _ _ _ _ _ [.int (Int32.ofInt 0)] _ _ _
                refine g_if_eq 16 29 (gd rfl) rfl rfl (fun c13 => ?_) (fun c13 => ?_)
                · skip
                  exact gg_w (by omega) (gg_f (gf_cons rfl (gf_cons rfl (gf_cons rfl (gf_cons rfl gf_nil)))) (ct29 s  hI fr_rf ))
                · skip
                  exact zn_ne c13 (in_c 0 rfl) rfl
              · skip
                exact zn_ne c10x13 (in_c 0 rfl) rfl
            · skip
              have i10x10x9 := r_lt1 0 31 c10x10x9 i10x10x1 i10x2x9a rfl
              refine g_iconst 1 13 (gd rfl) rfl rfl (g_goto 17 (gd rfl) rfl ?_)
              refine g_ireturn (gd rfl) rfl (nb01 (in_w 0 1 (in_c 1 rfl) rfl)) (hp10x10 _ _ ?_)
              show GG _ _ _ _ _ _ _ _ [.int (Int32.ofInt 1)] _ _ _
              refine g_if_eq 16 25 (gd rfl) rfl rfl (fun c10x13 => ?_) (fun c10x13 => ?_)
              · skip
                exact zn_eq c10x13 (in_c 1 rfl) rfl
              · skip
                refine g_iload_n 17 (gd rfl) rfl rfl (g_iload_n 18 (gd rfl) rfl rfl (g_cmp_eq 21 25 (gd rfl) rfl rfl (fun c10x18 => ?_) (fun c10x18 => ?_)))
                · skip
                  refine g_iconst 0 26 (gd rfl) rfl rfl ?_
                  refine g_ireturn (gd rfl) rfl (nb01 (in_w 0 1 (in_c 0 rfl) rfl)) (hp10 _ _ ?_)
                  show GG _ _ _ _ _ _ _ _ [.int (Int32.ofInt 0)] _ _ _
                  refine g_if_eq 16 29 (gd rfl) rfl rfl (fun c13 => ?_) (fun c13 => ?_)
                  · skip
                    exact gg_w (by omega) (gg_f (gf_cons rfl (gf_cons rfl (gf_cons rfl (gf_cons rfl gf_nil)))) (ct29 s  hI fr_rf ))
                  · skip
                    exact zn_ne c13 (in_c 0 rfl) rfl
                · skip
                  refine g_iconst 1 22 (gd rfl) rfl rfl (g_goto 26 (gd rfl) rfl ?_)
                  refine g_ireturn (gd rfl) rfl (nb01 (in_w 0 1 (in_c 1 rfl) rfl)) (hp10 _ _ ?_)
                  show GG _ _ _ _ _ _ _ _ [.int (Int32.ofInt 1)] _ _ _
                  refine g_if_eq 16 29 (gd rfl) rfl rfl (fun c13 => ?_) (fun c13 => ?_)
                  · skip
                    exact zn_eq c13 (in_c 1 rfl) rfl
                  · skip
                    refine g_aload 18 (gd rfl) rfl rfl (g_iload_n 19 (gd rfl) rfl rfl ?_)
                    refine g_callv (X := _) (As := [.int x3]) (r := []) (b := A 2) (q := 2) 22 (gd rfl) rfl rfl rfl rfl rfl (ww_o rfl) (Nat.le_of_ble_eq_true rfl) (mc := 0) (ms := 0) (Nat.zero_le _) (Nat.zero_le _) (P := fun v u => _) ?_ (fun e u h => h) (fun v u h => h)
                    intro po19 xx19 hp19 hx19
                    refine g_enter2 (k := 94) (N := 300) (by omega) rfl (Nat.le_of_ble_eq_true rfl) (g_iload_n 1 (gd rfl) rfl rfl (g_if_lt 4 16 (gd rfl) rfl rfl (fun c19x1 => ?_) (fun c19x1 => ?_)))
                    · skip
                      have i19x1 := z_lt (-2147483648) (-1) c19x1 (i_rng x3) rfl
                      refine g_iconst 0 17 (gd rfl) rfl rfl ?_
                      refine g_ireturn (gd rfl) rfl (nb01 (in_w 0 1 (in_c 0 rfl) rfl)) (hp19 _ _ ?_)
                      show GG _ _ _ _ _ _ _ _ [.int (Int32.ofInt 0)] _ _ _
                      refine g_if_eq 25 29 (gd rfl) rfl rfl (fun c22 => ?_) (fun c22 => ?_)
                      · skip
                        exact gg_w (by omega) (gg_f (gf_cons rfl (gf_cons rfl (gf_cons rfl (gf_cons rfl gf_nil)))) (ct29 s  hI fr_rf ))
                      · skip
                        exact zn_ne c22 (in_c 0 rfl) rfl
                    · skip
                      have i19x1 := z_ge 0 2147483647 c19x1 (i_rng x3) rfl
                      refine g_iload_n 5 (gd rfl) rfl rfl (g_aload_n 6 (gd rfl) rfl rfl (g_getIv (y := u_2_1) 9 (gd rfl) rfl rfl rfl (e_2_1) (g_cmp_ge 12 16 (gd rfl) rfl rfl (fun c19x9 => ?_) (fun c19x9 => ?_))))
                      · skip
                        have i19x9 := r_le2 1 2147483647 c19x9 i10x2x9a i19x1 rfl
                        refine g_iconst 0 17 (gd rfl) rfl rfl ?_
                        refine g_ireturn (gd rfl) rfl (nb01 (in_w 0 1 (in_c 0 rfl) rfl)) (hp19 _ _ ?_)
                        show GG _ _ _ _ _ _ _ _ [.int (Int32.ofInt 0)] _ _ _
                        refine g_if_eq 25 29 (gd rfl) rfl rfl (fun c22 => ?_) (fun c22 => ?_)
                        · skip
                          exact gg_w (by omega) (gg_f (gf_cons rfl (gf_cons rfl (gf_cons rfl (gf_cons rfl gf_nil)))) (ct29 s  hI fr_rf ))
                        · skip
                          exact zn_ne c22 (in_c 0 rfl) rfl
                      · skip
                        have i19x9 := r_lt1 0 31 c19x9 i19x1 i10x2x9a rfl
                        refine g_iconst 1 13 (gd rfl) rfl rfl (g_goto 17 (gd rfl) rfl ?_)
                        refine g_ireturn (gd rfl) rfl (nb01 (in_w 0 1 (in_c 1 rfl) rfl)) (hp19 _ _ ?_)
                        show GG _ _ _ _ _ _ _ _ [.int (Int32.ofInt 1)] _ _ _
                        refine g_if_eq 25 29 (gd rfl) rfl rfl (fun c22 => ?_) (fun c22 => ?_)
                        · skip
                          exact zn_eq c22 (in_c 1 rfl) rfl
                        · skip
                          refine g_iconst 1 26 (gd rfl) rfl rfl (g_goto 30 (gd rfl) rfl (g_thr (E := am_IA) (y := yX11_allow) 33 (gd rfl) rfl rfl (Or.inl ⟨rfl, rfl, rfl⟩) (by omega) (Nat.le_of_ble_eq_true rfl) (Nat.le_of_ble_eq_true rfl) (Nat.le_of_ble_eq_true rfl) (fun c30 => ?_) (fun c30 => ?_)))
                          · skip
                            refine g_aload_n 34 (gd rfl) rfl rfl (g_getA (q2 := 65) 37 (gd rfl) rfl rfl rfl rfl (g_aload 39 (gd rfl) rfl rfl (g_iload_n 40 (gd rfl) rfl rfl (g_iload_n 41 (gd rfl) rfl rfl (g_callv (X := _) (As := [.ref (A 2), .int x1, .int x2]) (r := []) (b := A 65) (q := 65) 44 (gd rfl) rfl rfl rfl rfl rfl (ww_o rfl) (Nat.le_of_ble_eq_true rfl) (Nat.zero_le _) (Nat.zero_le _) (k_75_65_2 (by omega) hI (in_w 0 31 i10x2x9 rfl) (in_w 0 31 i10x10x9 rfl)) (fun e u h => h) (fun v u h => ?_))))))
                            obtain ⟨s41, hI41, hF41, z41, rfl, rfl⟩ := h
                            show GG _ _ _ _ _ _ _ _ [.long z41] _ _ _
                            refine g_pop2 45 (gd rfl) rfl rfl (g_aload_n 46 (gd rfl) rfl rfl (g_getA (q2 := 65) 49 (gd rfl) rfl rfl rfl rfl (g_getI 52 (gd rfl) rfl rfl rfl (fun z49 e49 => g_iload_n 53 (gd rfl) rfl rfl (g_ishr 54 (gd rfl) rfl (fun z53 e53 => g_iconst 1 55 (gd rfl) rfl rfl (g_iand 56 (gd rfl) rfl (fun z55 e55 => have i55 := in_and2 e55 (in_c 1 rfl) rfl; g_if_eq 59 63 (gd rfl) rfl rfl (fun c56 => ?_) (fun c56 => ?_)))))))))
                            · skip
                              have i56 := z_eq 0 0 c56 i55 rfl
                              exact g_iconst 0 64 (gd rfl) rfl rfl (g_ireturn (gd rfl) rfl (nb01 (in_w 0 1 (in_c 0 rfl) rfl)) (hP _ _ ⟨s41, hI41, (fr_tr rfl fr_rf hF41), (Int32.ofInt 0), rfl, rfl, in_w 0 1 (in_c 0 rfl) rfl⟩))
                            · skip
                              have i56 := z_ne 1 1 c56 i55 rfl
                              exact g_iconst 1 60 (gd rfl) rfl rfl (g_goto 64 (gd rfl) rfl (g_ireturn (gd rfl) rfl (nb01 (in_w 0 1 (in_c 1 rfl) rfl)) (hP _ _ ⟨s41, hI41, (fr_tr rfl fr_rf hF41), (Int32.ofInt 1), rfl, rfl, in_w 0 1 (in_c 1 rfl) rfl⟩)))
                          · skip
                            exact zn_eq c30 (in_c 1 rfl) rfl

def fm_245_0 : FM := ([77, 78, 81, 82, 83], [79, 80], [(76, 0)], [])
/-- GraphHouse.tree -/
theorem k_245_0 {Z : AmZ} {A : Nat → Nat} {s : GS} {ex : va_W} {d : Nat} {x1 : Int32} {u_2_1 : Int32} {u_32_1 : Int32} (hd : 7 ≤ d) (hI : Inv s) (e_2_1 : u_2_1 = s.2.2.1 2 1) (e_32_1 : u_32_1 = s.2.2.1 32 1) (q_0 : KL s) : GC Z d 245 [.ref (A 0), .int x1] (WW Z A s ++ ex) 3 18 (fun v u => ∃ t : GS, Inv t ∧ Fr fm_245_0 s t ∧ ∃ z : Int64, v = some (.long z) ∧ u = WW Z A t ++ ex) (gE1 Z A ex ([], [], [], []) s) := by
  intro post xp hP hX
  obtain ⟨u_0_2, e_0_2⟩ : ∃ w, w = s.2.2.1 0 2 := ⟨_, rfl⟩
  have ro_0_2 := inv_F hI (-1) 4000 rfl e_0_2
  have ro_2_1 := inv_F hI 0 32 rfl e_2_1
  have ro_32_1 := inv_F hI 0 32 rfl e_32_1
  refine g_enter2 (k := 245) (N := 900) (by omega) rfl (Nat.le_of_ble_eq_true rfl) (g_aload_n 1 (gd rfl) rfl rfl ?_)
  refine g_callv (X := _) (As := []) (r := []) (b := A 0) (q := 0) 4 (gd rfl) rfl rfl rfl rfl rfl (ww_o rfl) (Nat.le_of_ble_eq_true rfl) (mc := 0) (ms := 0) (Nat.zero_le _) (Nat.zero_le _) (P := fun v u => _) ?_ (fun e u h => h) (fun v u h => h)
  intro po1 xx1 hp1 hx1
  refine g_enter2 (k := 259) (N := 300) (by omega) rfl (Nat.le_of_ble_eq_true rfl) (g_aload_n 1 (gd rfl) rfl rfl (g_getIv (y := u_0_2) 4 (gd rfl) rfl rfl rfl (e_0_2) (g_iconst (-1) 5 (gd rfl) rfl rfl (g_cmp_ne 8 18 (gd rfl) rfl rfl (fun c1x5 => ?_) (fun c1x5 => ?_)))))
  · skip
    have i1x5 := r_ne1 0 4000 c1x5 ro_0_2 (in_c (-1) rfl) rfl
    refine g_aload_n 19 (gd rfl) rfl rfl (g_getA (q2 := 32) 22 (gd rfl) rfl rfl rfl rfl ?_)
    refine g_areturn (gd rfl) rfl (hp1 _ _ ?_)
    show GG _ _ _ _ _ _ _ _ [.ref (A 32)] _ _ _
    refine g_astore_n 5 (gd rfl) rfl (Nat.le_of_ble_eq_true rfl) (g_aload_n 6 (gd rfl) rfl rfl (g_iload_n 7 (gd rfl) rfl rfl ?_))
    refine g_callv (X := _) (As := [.int x1]) (r := []) (b := A 32) (q := 32) 10 (gd rfl) rfl rfl rfl rfl rfl (ww_o rfl) (Nat.le_of_ble_eq_true rfl) (mc := 0) (ms := 0) (Nat.zero_le _) (Nat.zero_le _) (P := fun v u => _) ?_ (fun e u h => h) (fun v u h => h)
    intro po7 xx7 hp7 hx7
    refine g_enter2 (k := 94) (N := 300) (by omega) rfl (Nat.le_of_ble_eq_true rfl) (g_iload_n 1 (gd rfl) rfl rfl (g_if_lt 4 16 (gd rfl) rfl rfl (fun c7x1 => ?_) (fun c7x1 => ?_)))
    · skip
      have i7x1 := z_lt (-2147483648) (-1) c7x1 (i_rng x1) rfl
      refine g_iconst 0 17 (gd rfl) rfl rfl ?_
      refine g_ireturn (gd rfl) rfl (nb01 (in_w 0 1 (in_c 0 rfl) rfl)) (hp7 _ _ ?_)
      show GG _ _ _ _ _ _ _ _ [.int (Int32.ofInt 0)] _ _ _
      refine g_thr (E := am_IA) (y := yX11_allow) 13 (gd rfl) rfl rfl (Or.inl ⟨rfl, rfl, rfl⟩) (by omega) (Nat.le_of_ble_eq_true rfl) (Nat.le_of_ble_eq_true rfl) (Nat.le_of_ble_eq_true rfl) (fun c10 => ?_) (fun c10 => ?_)
      · skip
        exact zn_ne c10 (in_c 0 rfl) rfl
      · skip
        exact (hX _ _ ⟨rfl, s, hI, fr_rf, rfl⟩)
    · skip
      have i7x1 := z_ge 0 2147483647 c7x1 (i_rng x1) rfl
      refine g_iload_n 5 (gd rfl) rfl rfl (g_aload_n 6 (gd rfl) rfl rfl (g_getIv (y := u_32_1) 9 (gd rfl) rfl rfl rfl (e_32_1) (g_cmp_ge 12 16 (gd rfl) rfl rfl (fun c7x9 => ?_) (fun c7x9 => ?_))))
      · skip
        refine g_iconst 0 17 (gd rfl) rfl rfl ?_
        refine g_ireturn (gd rfl) rfl (nb01 (in_w 0 1 (in_c 0 rfl) rfl)) (hp7 _ _ ?_)
        show GG _ _ _ _ _ _ _ _ [.int (Int32.ofInt 0)] _ _ _
        refine g_thr (E := am_IA) (y := yX11_allow) 13 (gd rfl) rfl rfl (Or.inl ⟨rfl, rfl, rfl⟩) (by omega) (Nat.le_of_ble_eq_true rfl) (Nat.le_of_ble_eq_true rfl) (Nat.le_of_ble_eq_true rfl) (fun c10 => ?_) (fun c10 => ?_)
        · skip
          exact zn_ne c10 (in_c 0 rfl) rfl
        · skip
          exact (hX _ _ ⟨rfl, s, hI, fr_rf, rfl⟩)
      · skip
        have i7x9 := r_lt1 0 31 c7x9 i7x1 (inv_F hI 0 32 rfl e_32_1) rfl
        have i7x9a := r_lt2 1 32 c7x9 i7x1 (inv_F hI 0 32 rfl e_32_1) rfl
        refine g_iconst 1 13 (gd rfl) rfl rfl (g_goto 17 (gd rfl) rfl ?_)
        refine g_ireturn (gd rfl) rfl (nb01 (in_w 0 1 (in_c 1 rfl) rfl)) (hp7 _ _ ?_)
        show GG _ _ _ _ _ _ _ _ [.int (Int32.ofInt 1)] _ _ _
        refine g_thr (E := am_IA) (y := yX11_allow) 13 (gd rfl) rfl rfl (Or.inl ⟨rfl, rfl, rfl⟩) (by omega) (Nat.le_of_ble_eq_true rfl) (Nat.le_of_ble_eq_true rfl) (Nat.le_of_ble_eq_true rfl) (fun c10 => ?_) (fun c10 => ?_)
        · skip
          refine g_aload_n 14 (gd rfl) rfl rfl (g_getA (q2 := 76) 17 (gd rfl) rfl rfl rfl rfl (g_aload_n 18 (gd rfl) rfl rfl (g_iload_n 19 (gd rfl) rfl rfl ?_)))
          have n19 : (x1).toInt < (u_32_1).toInt := by exact (have a0 := in_u i7x9; have a1 := in_u i1x5; have a2 := in_u i7x9a; have a3 := in_u ((inv_F hI 0 32 rfl e_2_1)); by omega)
          have p19 : KN (s.1 34) (s.1 35) (s.2.2.1 32 1) := by first | exact q_0.2.2.2.1.2 | exact q_0.2.2.2.2.2
          refine g_callv (X := _) (As := [.ref (A 32), .int x1]) (r := []) (b := A 76) (q := 76) 22 (gd rfl) rfl rfl rfl rfl rfl (ww_o rfl) (Nat.le_of_ble_eq_true rfl) (Nat.zero_le _) (Nat.zero_le _) (k_180_76_32 (by omega) hI (in_w 0 31 i7x9 rfl) e_32_1 n19 p19) (fun e u h => h) (fun v u h => ?_)
          obtain ⟨s19, hI19, hF19, z19, rfl, rfl⟩ := h
          show GG _ _ _ _ _ _ _ _ [.long z19] _ _ _
          exact g_lreturn (gd rfl) rfl (hP _ _ ⟨s19, hI19, (fr_tr rfl fr_rf hF19), z19, rfl, rfl⟩)
        · skip
          exact zn_eq c10 (in_c 1 rfl) rfl
  · skip
    have i1x5 := r_eq1 (-1) (-1) c1x5 ro_0_2 (in_c (-1) rfl) rfl
    refine g_aload_n 9 (gd rfl) rfl rfl (g_getA (q2 := 1) 12 (gd rfl) rfl rfl rfl rfl (g_getA (q2 := 2) 15 (gd rfl) rfl rfl rfl rfl (g_goto 22 (gd rfl) rfl ?_)))
    refine g_areturn (gd rfl) rfl (hp1 _ _ ?_)
    show GG _ _ _ _ _ _ _ _ [.ref (A 2)] _ _ _
    refine g_astore_n 5 (gd rfl) rfl (Nat.le_of_ble_eq_true rfl) (g_aload_n 6 (gd rfl) rfl rfl (g_iload_n 7 (gd rfl) rfl rfl ?_))
    refine g_callv (X := _) (As := [.int x1]) (r := []) (b := A 2) (q := 2) 10 (gd rfl) rfl rfl rfl rfl rfl (ww_o rfl) (Nat.le_of_ble_eq_true rfl) (mc := 0) (ms := 0) (Nat.zero_le _) (Nat.zero_le _) (P := fun v u => _) ?_ (fun e u h => h) (fun v u h => h)
    intro po7 xx7 hp7 hx7
    refine g_enter2 (k := 94) (N := 300) (by omega) rfl (Nat.le_of_ble_eq_true rfl) (g_iload_n 1 (gd rfl) rfl rfl (g_if_lt 4 16 (gd rfl) rfl rfl (fun c7x1 => ?_) (fun c7x1 => ?_)))
    · skip
      have i7x1 := z_lt (-2147483648) (-1) c7x1 (i_rng x1) rfl
      refine g_iconst 0 17 (gd rfl) rfl rfl ?_
      refine g_ireturn (gd rfl) rfl (nb01 (in_w 0 1 (in_c 0 rfl) rfl)) (hp7 _ _ ?_)
      show GG _ _ _ _ _ _ _ _ [.int (Int32.ofInt 0)] _ _ _
      refine g_thr (E := am_IA) (y := yX11_allow) 13 (gd rfl) rfl rfl (Or.inl ⟨rfl, rfl, rfl⟩) (by omega) (Nat.le_of_ble_eq_true rfl) (Nat.le_of_ble_eq_true rfl) (Nat.le_of_ble_eq_true rfl) (fun c10 => ?_) (fun c10 => ?_)
      · skip
        exact zn_ne c10 (in_c 0 rfl) rfl
      · skip
        exact (hX _ _ ⟨rfl, s, hI, fr_rf, rfl⟩)
    · skip
      have i7x1 := z_ge 0 2147483647 c7x1 (i_rng x1) rfl
      refine g_iload_n 5 (gd rfl) rfl rfl (g_aload_n 6 (gd rfl) rfl rfl (g_getIv (y := u_2_1) 9 (gd rfl) rfl rfl rfl (e_2_1) (g_cmp_ge 12 16 (gd rfl) rfl rfl (fun c7x9 => ?_) (fun c7x9 => ?_))))
      · skip
        refine g_iconst 0 17 (gd rfl) rfl rfl ?_
        refine g_ireturn (gd rfl) rfl (nb01 (in_w 0 1 (in_c 0 rfl) rfl)) (hp7 _ _ ?_)
        show GG _ _ _ _ _ _ _ _ [.int (Int32.ofInt 0)] _ _ _
        refine g_thr (E := am_IA) (y := yX11_allow) 13 (gd rfl) rfl rfl (Or.inl ⟨rfl, rfl, rfl⟩) (by omega) (Nat.le_of_ble_eq_true rfl) (Nat.le_of_ble_eq_true rfl) (Nat.le_of_ble_eq_true rfl) (fun c10 => ?_) (fun c10 => ?_)
        · skip
          exact zn_ne c10 (in_c 0 rfl) rfl
        · skip
          exact (hX _ _ ⟨rfl, s, hI, fr_rf, rfl⟩)
      · skip
        have i7x9 := r_lt1 0 31 c7x9 i7x1 (inv_F hI 0 32 rfl e_2_1) rfl
        have i7x9a := r_lt2 1 32 c7x9 i7x1 (inv_F hI 0 32 rfl e_2_1) rfl
        refine g_iconst 1 13 (gd rfl) rfl rfl (g_goto 17 (gd rfl) rfl ?_)
        refine g_ireturn (gd rfl) rfl (nb01 (in_w 0 1 (in_c 1 rfl) rfl)) (hp7 _ _ ?_)
        show GG _ _ _ _ _ _ _ _ [.int (Int32.ofInt 1)] _ _ _
        refine g_thr (E := am_IA) (y := yX11_allow) 13 (gd rfl) rfl rfl (Or.inl ⟨rfl, rfl, rfl⟩) (by omega) (Nat.le_of_ble_eq_true rfl) (Nat.le_of_ble_eq_true rfl) (Nat.le_of_ble_eq_true rfl) (fun c10 => ?_) (fun c10 => ?_)
        · skip
          refine g_aload_n 14 (gd rfl) rfl rfl (g_getA (q2 := 76) 17 (gd rfl) rfl rfl rfl rfl (g_aload_n 18 (gd rfl) rfl rfl (g_iload_n 19 (gd rfl) rfl rfl ?_)))
          have n19 : (x1).toInt < (u_2_1).toInt := by exact (have a0 := in_u i7x9; have a1 := in_u i1x5; have a2 := in_u ((inv_F hI 0 32 rfl e_32_1)); have a3 := in_u i7x9a; by omega)
          have p19 : KN (s.1 4) (s.1 5) (s.2.2.1 2 1) := by first | exact q_0.2.2.2.1.2 | exact q_0.2.2.2.2.2
          refine g_callv (X := _) (As := [.ref (A 2), .int x1]) (r := []) (b := A 76) (q := 76) 22 (gd rfl) rfl rfl rfl rfl rfl (ww_o rfl) (Nat.le_of_ble_eq_true rfl) (Nat.zero_le _) (Nat.zero_le _) (k_180_76_2 (by omega) hI (in_w 0 31 i7x9 rfl) e_2_1 n19 p19) (fun e u h => h) (fun v u h => ?_)
          obtain ⟨s19, hI19, hF19, z19, rfl, rfl⟩ := h
          show GG _ _ _ _ _ _ _ _ [.long z19] _ _ _
          exact g_lreturn (gd rfl) rfl (hP _ _ ⟨s19, hI19, (fr_tr rfl fr_rf hF19), z19, rfl, rfl⟩)
        · skip
          exact zn_eq c10 (in_c 1 rfl) rfl

def fm_246_0 : FM := ([84], [], [], [])
/-- GraphHouse.span -/
theorem k_246_0 {Z : AmZ} {A : Nat → Nat} {s : GS} {ex : va_W} {d : Nat} {x1 : Int32} (hd : 7 ≤ d) (hI : Inv s)  : GC Z d 246 [.ref (A 0), .int x1] (WW Z A s ++ ex) 3 18 (fun v u => ∃ t : GS, Inv t ∧ Fr fm_246_0 s t ∧ ∃ z : Int32, v = some (.int z) ∧ u = WW Z A t ++ ex ∧ In z 0 1) (gE1 Z A ex fm_246_0 s) := by
  intro post xp hP hX
  obtain ⟨u_0_2, e_0_2⟩ : ∃ w, w = s.2.2.1 0 2 := ⟨_, rfl⟩
  have ro_0_2 := inv_F hI (-1) 4000 rfl e_0_2
  obtain ⟨u_2_3, e_2_3⟩ : ∃ w, w = s.2.2.1 2 3 := ⟨_, rfl⟩
  have ro_2_3 := inv_F hI 0 160 rfl e_2_3
  obtain ⟨u_32_3, e_32_3⟩ : ∃ w, w = s.2.2.1 32 3 := ⟨_, rfl⟩
  have ro_32_3 := inv_F hI 0 160 rfl e_32_3
  refine g_enter2 (k := 246) (N := 900) (by omega) rfl (Nat.le_of_ble_eq_true rfl) (g_aload_n 1 (gd rfl) rfl rfl ?_)
  refine g_callv (X := _) (As := []) (r := []) (b := A 0) (q := 0) 4 (gd rfl) rfl rfl rfl rfl rfl (ww_o rfl) (Nat.le_of_ble_eq_true rfl) (mc := 0) (ms := 0) (Nat.zero_le _) (Nat.zero_le _) (P := fun v u => _) ?_ (fun e u h => h) (fun v u h => h)
  intro po1 xx1 hp1 hx1
  refine g_enter2 (k := 259) (N := 300) (by omega) rfl (Nat.le_of_ble_eq_true rfl) (g_aload_n 1 (gd rfl) rfl rfl (g_getIv (y := u_0_2) 4 (gd rfl) rfl rfl rfl (e_0_2) (g_iconst (-1) 5 (gd rfl) rfl rfl (g_cmp_ne 8 18 (gd rfl) rfl rfl (fun c1x5 => ?_) (fun c1x5 => ?_)))))
  · skip
    have i1x5 := r_ne1 0 4000 c1x5 ro_0_2 (in_c (-1) rfl) rfl
    refine g_aload_n 19 (gd rfl) rfl rfl (g_getA (q2 := 32) 22 (gd rfl) rfl rfl rfl rfl ?_)
    refine g_areturn (gd rfl) rfl (hp1 _ _ ?_)
    show GG _ _ _ _ _ _ _ _ [.ref (A 32)] _ _ _
    refine g_astore_n 5 (gd rfl) rfl (Nat.le_of_ble_eq_true rfl) (g_aload_n 6 (gd rfl) rfl rfl (g_iload_n 7 (gd rfl) rfl rfl ?_))
    refine g_callv (X := _) (As := [.int x1]) (r := []) (b := A 32) (q := 32) 10 (gd rfl) rfl rfl rfl rfl rfl (ww_o rfl) (Nat.le_of_ble_eq_true rfl) (mc := 0) (ms := 0) (Nat.zero_le _) (Nat.zero_le _) (P := fun v u => _) ?_ (fun e u h => h) (fun v u h => h)
    intro po7 xx7 hp7 hx7
    refine g_enter2 (k := 96) (N := 300) (by omega) rfl (Nat.le_of_ble_eq_true rfl) (g_iload_n 1 (gd rfl) rfl rfl (g_if_lt 4 26 (gd rfl) rfl rfl (fun c7x1 => ?_) (fun c7x1 => ?_)))
    · skip
      have i7x1 := z_lt (-2147483648) (-1) c7x1 (i_rng x1) rfl
      refine g_iconst 0 27 (gd rfl) rfl rfl ?_
      refine g_ireturn (gd rfl) rfl (nb01 (in_w 0 1 (in_c 0 rfl) rfl)) (hp7 _ _ ?_)
      show GG _ _ _ _ _ _ _ _ [.int (Int32.ofInt 0)] _ _ _
      refine g_thr (E := am_IA) (y := yX11_allow) 13 (gd rfl) rfl rfl (Or.inl ⟨rfl, rfl, rfl⟩) (by omega) (Nat.le_of_ble_eq_true rfl) (Nat.le_of_ble_eq_true rfl) (Nat.le_of_ble_eq_true rfl) (fun c10 => ?_) (fun c10 => ?_)
      · skip
        exact zn_ne c10 (in_c 0 rfl) rfl
      · skip
        exact (hX _ _ ⟨rfl, s, hI, fr_rf, rfl⟩)
    · skip
      have i7x1 := z_ge 0 2147483647 c7x1 (i_rng x1) rfl
      refine g_iload_n 5 (gd rfl) rfl rfl (g_aload_n 6 (gd rfl) rfl rfl (g_getIv (y := u_32_3) 9 (gd rfl) rfl rfl rfl (e_32_3) (g_cmp_ge 12 26 (gd rfl) rfl rfl (fun c7x9 => ?_) (fun c7x9 => ?_))))
      · skip
        refine g_iconst 0 27 (gd rfl) rfl rfl ?_
        refine g_ireturn (gd rfl) rfl (nb01 (in_w 0 1 (in_c 0 rfl) rfl)) (hp7 _ _ ?_)
        show GG _ _ _ _ _ _ _ _ [.int (Int32.ofInt 0)] _ _ _
        refine g_thr (E := am_IA) (y := yX11_allow) 13 (gd rfl) rfl rfl (Or.inl ⟨rfl, rfl, rfl⟩) (by omega) (Nat.le_of_ble_eq_true rfl) (Nat.le_of_ble_eq_true rfl) (Nat.le_of_ble_eq_true rfl) (fun c10 => ?_) (fun c10 => ?_)
        · skip
          exact zn_ne c10 (in_c 0 rfl) rfl
        · skip
          exact (hX _ _ ⟨rfl, s, hI, fr_rf, rfl⟩)
      · skip
        have i7x9 := r_lt1 0 159 c7x9 i7x1 ro_32_3 rfl
        have i7x9a := r_lt2 1 160 c7x9 i7x1 ro_32_3 rfl
        refine g_aload_n 13 (gd rfl) rfl rfl (g_getA (q2 := 34) 16 (gd rfl) rfl rfl rfl rfl (g_iload_n 17 (gd rfl) rfl rfl (g_iaload 18 (gd rfl) rfl (n := 160) rfl (in_ix i7x9 rfl) (fun z7x17 e7x17 => have i7x17 := inv_I hI (n := 160) (t := 0) (-1) 31 rfl (in_ix i7x9 rfl) rfl e7x17; g_iconst (-1) 19 (gd rfl) rfl rfl (g_cmp_eq 22 26 (gd rfl) rfl rfl (fun c7x19 => ?_) (fun c7x19 => ?_))))))
        · skip
          have i7x19 := r_eq1 (-1) (-1) c7x19 i7x17 (in_c (-1) rfl) rfl
          refine g_iconst 0 27 (gd rfl) rfl rfl ?_
          refine g_ireturn (gd rfl) rfl (nb01 (in_w 0 1 (in_c 0 rfl) rfl)) (hp7 _ _ ?_)
          show GG _ _ _ _ _ _ _ _ [.int (Int32.ofInt 0)] _ _ _
          refine g_thr (E := am_IA) (y := yX11_allow) 13 (gd rfl) rfl rfl (Or.inl ⟨rfl, rfl, rfl⟩) (by omega) (Nat.le_of_ble_eq_true rfl) (Nat.le_of_ble_eq_true rfl) (Nat.le_of_ble_eq_true rfl) (fun c10 => ?_) (fun c10 => ?_)
          · skip
            exact zn_ne c10 (in_c 0 rfl) rfl
          · skip
            exact (hX _ _ ⟨rfl, s, hI, fr_rf, rfl⟩)
        · skip
          have i7x19 := r_ne1 0 31 c7x19 i7x17 (in_c (-1) rfl) rfl
          refine g_iconst 1 23 (gd rfl) rfl rfl (g_goto 27 (gd rfl) rfl ?_)
          refine g_ireturn (gd rfl) rfl (nb01 (in_w 0 1 (in_c 1 rfl) rfl)) (hp7 _ _ ?_)
          show GG _ _ _ _ _ _ _ _ [.int (Int32.ofInt 1)] _ _ _
          refine g_thr (E := am_IA) (y := yX11_allow) 13 (gd rfl) rfl rfl (Or.inl ⟨rfl, rfl, rfl⟩) (by omega) (Nat.le_of_ble_eq_true rfl) (Nat.le_of_ble_eq_true rfl) (Nat.le_of_ble_eq_true rfl) (fun c10 => ?_) (fun c10 => ?_)
          · skip
            refine g_aload_n 14 (gd rfl) rfl rfl (g_getA (q2 := 76) 17 (gd rfl) rfl rfl rfl rfl (g_aload_n 18 (gd rfl) rfl rfl (g_iload_n 19 (gd rfl) rfl rfl (g_callv (X := _) (As := [.ref (A 32), .int x1]) (r := []) (b := A 76) (q := 76) 22 (gd rfl) rfl rfl rfl rfl rfl (ww_o rfl) (Nat.le_of_ble_eq_true rfl) (Nat.zero_le _) (Nat.zero_le _) (k_186_76_32 (by omega) hI (in_w 0 159 i7x9 rfl)) (fun e u h => h) (fun v u h => ?_)))))
            obtain ⟨s19, hI19, hF19, z19, rfl, rfl, i19⟩ := h
            show GG _ _ _ _ _ _ _ _ [.int z19] _ _ _
            exact g_ireturn (gd rfl) rfl (nb01 (in_w 0 1 i19 rfl)) (hP _ _ ⟨s19, hI19, (fr_tr rfl fr_rf hF19), z19, rfl, rfl, in_w 0 1 i19 rfl⟩)
          · skip
            exact zn_eq c10 (in_c 1 rfl) rfl
  · skip
    have i1x5 := r_eq1 (-1) (-1) c1x5 ro_0_2 (in_c (-1) rfl) rfl
    refine g_aload_n 9 (gd rfl) rfl rfl (g_getA (q2 := 1) 12 (gd rfl) rfl rfl rfl rfl (g_getA (q2 := 2) 15 (gd rfl) rfl rfl rfl rfl (g_goto 22 (gd rfl) rfl ?_)))
    refine g_areturn (gd rfl) rfl (hp1 _ _ ?_)
    show GG _ _ _ _ _ _ _ _ [.ref (A 2)] _ _ _
    refine g_astore_n 5 (gd rfl) rfl (Nat.le_of_ble_eq_true rfl) (g_aload_n 6 (gd rfl) rfl rfl (g_iload_n 7 (gd rfl) rfl rfl ?_))
    refine g_callv (X := _) (As := [.int x1]) (r := []) (b := A 2) (q := 2) 10 (gd rfl) rfl rfl rfl rfl rfl (ww_o rfl) (Nat.le_of_ble_eq_true rfl) (mc := 0) (ms := 0) (Nat.zero_le _) (Nat.zero_le _) (P := fun v u => _) ?_ (fun e u h => h) (fun v u h => h)
    intro po7 xx7 hp7 hx7
    refine g_enter2 (k := 96) (N := 300) (by omega) rfl (Nat.le_of_ble_eq_true rfl) (g_iload_n 1 (gd rfl) rfl rfl (g_if_lt 4 26 (gd rfl) rfl rfl (fun c7x1 => ?_) (fun c7x1 => ?_)))
    · skip
      have i7x1 := z_lt (-2147483648) (-1) c7x1 (i_rng x1) rfl
      refine g_iconst 0 27 (gd rfl) rfl rfl ?_
      refine g_ireturn (gd rfl) rfl (nb01 (in_w 0 1 (in_c 0 rfl) rfl)) (hp7 _ _ ?_)
      show GG _ _ _ _ _ _ _ _ [.int (Int32.ofInt 0)] _ _ _
      refine g_thr (E := am_IA) (y := yX11_allow) 13 (gd rfl) rfl rfl (Or.inl ⟨rfl, rfl, rfl⟩) (by omega) (Nat.le_of_ble_eq_true rfl) (Nat.le_of_ble_eq_true rfl) (Nat.le_of_ble_eq_true rfl) (fun c10 => ?_) (fun c10 => ?_)
      · skip
        exact zn_ne c10 (in_c 0 rfl) rfl
      · skip
        exact (hX _ _ ⟨rfl, s, hI, fr_rf, rfl⟩)
    · skip
      have i7x1 := z_ge 0 2147483647 c7x1 (i_rng x1) rfl
      refine g_iload_n 5 (gd rfl) rfl rfl (g_aload_n 6 (gd rfl) rfl rfl (g_getIv (y := u_2_3) 9 (gd rfl) rfl rfl rfl (e_2_3) (g_cmp_ge 12 26 (gd rfl) rfl rfl (fun c7x9 => ?_) (fun c7x9 => ?_))))
      · skip
        refine g_iconst 0 27 (gd rfl) rfl rfl ?_
        refine g_ireturn (gd rfl) rfl (nb01 (in_w 0 1 (in_c 0 rfl) rfl)) (hp7 _ _ ?_)
        show GG _ _ _ _ _ _ _ _ [.int (Int32.ofInt 0)] _ _ _
        refine g_thr (E := am_IA) (y := yX11_allow) 13 (gd rfl) rfl rfl (Or.inl ⟨rfl, rfl, rfl⟩) (by omega) (Nat.le_of_ble_eq_true rfl) (Nat.le_of_ble_eq_true rfl) (Nat.le_of_ble_eq_true rfl) (fun c10 => ?_) (fun c10 => ?_)
        · skip
          exact zn_ne c10 (in_c 0 rfl) rfl
        · skip
          exact (hX _ _ ⟨rfl, s, hI, fr_rf, rfl⟩)
      · skip
        have i7x9 := r_lt1 0 159 c7x9 i7x1 ro_2_3 rfl
        have i7x9a := r_lt2 1 160 c7x9 i7x1 ro_2_3 rfl
        refine g_aload_n 13 (gd rfl) rfl rfl (g_getA (q2 := 4) 16 (gd rfl) rfl rfl rfl rfl (g_iload_n 17 (gd rfl) rfl rfl (g_iaload 18 (gd rfl) rfl (n := 160) rfl (in_ix i7x9 rfl) (fun z7x17 e7x17 => have i7x17 := inv_I hI (n := 160) (t := 0) (-1) 31 rfl (in_ix i7x9 rfl) rfl e7x17; g_iconst (-1) 19 (gd rfl) rfl rfl (g_cmp_eq 22 26 (gd rfl) rfl rfl (fun c7x19 => ?_) (fun c7x19 => ?_))))))
        · skip
          have i7x19 := r_eq1 (-1) (-1) c7x19 i7x17 (in_c (-1) rfl) rfl
          refine g_iconst 0 27 (gd rfl) rfl rfl ?_
          refine g_ireturn (gd rfl) rfl (nb01 (in_w 0 1 (in_c 0 rfl) rfl)) (hp7 _ _ ?_)
          show GG _ _ _ _ _ _ _ _ [.int (Int32.ofInt 0)] _ _ _
          refine g_thr (E := am_IA) (y := yX11_allow) 13 (gd rfl) rfl rfl (Or.inl ⟨rfl, rfl, rfl⟩) (by omega) (Nat.le_of_ble_eq_true rfl) (Nat.le_of_ble_eq_true rfl) (Nat.le_of_ble_eq_true rfl) (fun c10 => ?_) (fun c10 => ?_)
          · skip
            exact zn_ne c10 (in_c 0 rfl) rfl
          · skip
            exact (hX _ _ ⟨rfl, s, hI, fr_rf, rfl⟩)
        · skip
          have i7x19 := r_ne1 0 31 c7x19 i7x17 (in_c (-1) rfl) rfl
          refine g_iconst 1 23 (gd rfl) rfl rfl (g_goto 27 (gd rfl) rfl ?_)
          refine g_ireturn (gd rfl) rfl (nb01 (in_w 0 1 (in_c 1 rfl) rfl)) (hp7 _ _ ?_)
          show GG _ _ _ _ _ _ _ _ [.int (Int32.ofInt 1)] _ _ _
          refine g_thr (E := am_IA) (y := yX11_allow) 13 (gd rfl) rfl rfl (Or.inl ⟨rfl, rfl, rfl⟩) (by omega) (Nat.le_of_ble_eq_true rfl) (Nat.le_of_ble_eq_true rfl) (Nat.le_of_ble_eq_true rfl) (fun c10 => ?_) (fun c10 => ?_)
          · skip
            refine g_aload_n 14 (gd rfl) rfl rfl (g_getA (q2 := 76) 17 (gd rfl) rfl rfl rfl rfl (g_aload_n 18 (gd rfl) rfl rfl (g_iload_n 19 (gd rfl) rfl rfl (g_callv (X := _) (As := [.ref (A 2), .int x1]) (r := []) (b := A 76) (q := 76) 22 (gd rfl) rfl rfl rfl rfl rfl (ww_o rfl) (Nat.le_of_ble_eq_true rfl) (Nat.zero_le _) (Nat.zero_le _) (k_186_76_2 (by omega) hI (in_w 0 159 i7x9 rfl)) (fun e u h => h) (fun v u h => ?_)))))
            obtain ⟨s19, hI19, hF19, z19, rfl, rfl, i19⟩ := h
            show GG _ _ _ _ _ _ _ _ [.int z19] _ _ _
            exact g_ireturn (gd rfl) rfl (nb01 (in_w 0 1 i19 rfl)) (hP _ _ ⟨s19, hI19, (fr_tr rfl fr_rf hF19), z19, rfl, rfl, in_w 0 1 i19 rfl⟩)
          · skip
            exact zn_eq c10 (in_c 1 rfl) rfl

def fm_248_0 : FM := ([9, 10, 11, 12, 13, 14, 15, 39, 40, 41, 42, 43, 44, 45], [87, 88], [(2, 4), (32, 4), (86, 0), (86, 1)], [])
/-- GraphHouse.rank -/
theorem k_248_0 {Z : AmZ} {A : Nat → Nat} {s : GS} {ex : va_W} {d : Nat} {x1 : Int32} {x2 : Int32} (hd : 7 ≤ d) (hI : Inv s)  : GC Z d 248 [.ref (A 0), .int x1, .int x2] (WW Z A s ++ ex) 3 18 (fun v u => ∃ xa ya : Nat, ∃ t : GS, Inv t ∧ Fr fm_248_0 s t ∧ ∃ z : Int64, v = some (.long z) ∧ u = WW Z (a2 A xa ya) t ++ ex) (gE1 Z A ex fm_248_0 s) := by
  intro post xp hP hX
  obtain ⟨u_0_2, e_0_2⟩ : ∃ w, w = s.2.2.1 0 2 := ⟨_, rfl⟩
  have ro_0_2 := inv_F hI (-1) 4000 rfl e_0_2
  obtain ⟨u_2_1, e_2_1⟩ : ∃ w, w = s.2.2.1 2 1 := ⟨_, rfl⟩
  have ro_2_1 := inv_F hI 0 32 rfl e_2_1
  obtain ⟨u_32_1, e_32_1⟩ : ∃ w, w = s.2.2.1 32 1 := ⟨_, rfl⟩
  have ro_32_1 := inv_F hI 0 32 rfl e_32_1
  refine g_enter2 (k := 248) (N := 900) (by omega) rfl (Nat.le_of_ble_eq_true rfl) (g_aload_n 1 (gd rfl) rfl rfl ?_)
  refine g_callv (X := _) (As := []) (r := []) (b := A 0) (q := 0) 4 (gd rfl) rfl rfl rfl rfl rfl (ww_o rfl) (Nat.le_of_ble_eq_true rfl) (mc := 0) (ms := 0) (Nat.zero_le _) (Nat.zero_le _) (P := fun v u => _) ?_ (fun e u h => h) (fun v u h => h)
  intro po1 xx1 hp1 hx1
  refine g_enter2 (k := 259) (N := 300) (by omega) rfl (Nat.le_of_ble_eq_true rfl) (g_aload_n 1 (gd rfl) rfl rfl (g_getIv (y := u_0_2) 4 (gd rfl) rfl rfl rfl (e_0_2) (g_iconst (-1) 5 (gd rfl) rfl rfl (g_cmp_ne 8 18 (gd rfl) rfl rfl (fun c1x5 => ?_) (fun c1x5 => ?_)))))
  · skip
    have i1x5 := r_ne1 0 4000 c1x5 ro_0_2 (in_c (-1) rfl) rfl
    refine g_aload_n 19 (gd rfl) rfl rfl (g_getA (q2 := 32) 22 (gd rfl) rfl rfl rfl rfl ?_)
    refine g_areturn (gd rfl) rfl (hp1 _ _ ?_)
    show GG _ _ _ _ _ _ _ _ [.ref (A 32)] _ _ _
    refine g_astore_n 5 (gd rfl) rfl (Nat.le_of_ble_eq_true rfl) (g_aload_n 6 (gd rfl) rfl rfl (g_iload_n 7 (gd rfl) rfl rfl ?_))
    refine g_callv (X := _) (As := [.int x1]) (r := []) (b := A 32) (q := 32) 10 (gd rfl) rfl rfl rfl rfl rfl (ww_o rfl) (Nat.le_of_ble_eq_true rfl) (mc := 0) (ms := 0) (Nat.zero_le _) (Nat.zero_le _) (P := fun v u => _) ?_ (fun e u h => h) (fun v u h => h)
    intro po7 xx7 hp7 hx7
    refine g_enter2 (k := 94) (N := 300) (by omega) rfl (Nat.le_of_ble_eq_true rfl) (g_iload_n 1 (gd rfl) rfl rfl (g_if_lt 4 16 (gd rfl) rfl rfl (fun c7x1 => ?_) (fun c7x1 => ?_)))
    · skip
      have i7x1 := z_lt (-2147483648) (-1) c7x1 (i_rng x1) rfl
      refine g_iconst 0 17 (gd rfl) rfl rfl ?_
      refine g_ireturn (gd rfl) rfl (nb01 (in_w 0 1 (in_c 0 rfl) rfl)) (hp7 _ _ ?_)
      show GG _ _ _ _ _ _ _ _ [.int (Int32.ofInt 0)] _ _ _
      refine g_if_eq 13 27 (gd rfl) rfl rfl (fun c10 => ?_) (fun c10 => ?_)
      · skip
        refine g_iconst 0 28 (gd rfl) rfl rfl (g_thr (E := am_IA) (y := yX11_allow) 31 (gd rfl) rfl rfl (Or.inl ⟨rfl, rfl, rfl⟩) (by omega) (Nat.le_of_ble_eq_true rfl) (Nat.le_of_ble_eq_true rfl) (Nat.le_of_ble_eq_true rfl) (fun c28 => ?_) (fun c28 => ?_))
        · skip
          exact zn_ne c28 (in_c 0 rfl) rfl
        · skip
          exact (hX _ _ ⟨rfl, s, hI, fr_rf, rfl⟩)
      · skip
        exact zn_ne c10 (in_c 0 rfl) rfl
    · skip
      have i7x1 := z_ge 0 2147483647 c7x1 (i_rng x1) rfl
      refine g_iload_n 5 (gd rfl) rfl rfl (g_aload_n 6 (gd rfl) rfl rfl (g_getIv (y := u_32_1) 9 (gd rfl) rfl rfl rfl (e_32_1) (g_cmp_ge 12 16 (gd rfl) rfl rfl (fun c7x9 => ?_) (fun c7x9 => ?_))))
      · skip
        refine g_iconst 0 17 (gd rfl) rfl rfl ?_
        refine g_ireturn (gd rfl) rfl (nb01 (in_w 0 1 (in_c 0 rfl) rfl)) (hp7 _ _ ?_)
        show GG _ _ _ _ _ _ _ _ [.int (Int32.ofInt 0)] _ _ _
        refine g_if_eq 13 27 (gd rfl) rfl rfl (fun c10 => ?_) (fun c10 => ?_)
        · skip
          refine g_iconst 0 28 (gd rfl) rfl rfl (g_thr (E := am_IA) (y := yX11_allow) 31 (gd rfl) rfl rfl (Or.inl ⟨rfl, rfl, rfl⟩) (by omega) (Nat.le_of_ble_eq_true rfl) (Nat.le_of_ble_eq_true rfl) (Nat.le_of_ble_eq_true rfl) (fun c28 => ?_) (fun c28 => ?_))
          · skip
            exact zn_ne c28 (in_c 0 rfl) rfl
          · skip
            exact (hX _ _ ⟨rfl, s, hI, fr_rf, rfl⟩)
        · skip
          exact zn_ne c10 (in_c 0 rfl) rfl
      · skip
        have i7x9 := r_lt1 0 31 c7x9 i7x1 ro_32_1 rfl
        have i7x9a := r_lt2 1 32 c7x9 i7x1 ro_32_1 rfl
        refine g_iconst 1 13 (gd rfl) rfl rfl (g_goto 17 (gd rfl) rfl ?_)
        refine g_ireturn (gd rfl) rfl (nb01 (in_w 0 1 (in_c 1 rfl) rfl)) (hp7 _ _ ?_)
        show GG _ _ _ _ _ _ _ _ [.int (Int32.ofInt 1)] _ _ _
        refine g_if_eq 13 27 (gd rfl) rfl rfl (fun c10 => ?_) (fun c10 => ?_)
        · skip
          exact zn_eq c10 (in_c 1 rfl) rfl
        · skip
          refine g_iload_n 14 (gd rfl) rfl rfl (g_if_lt 17 27 (gd rfl) rfl rfl (fun c14 => ?_) (fun c14 => ?_))
          · skip
            have i14 := z_lt (-2147483648) (-1) c14 (i_rng x2) rfl
            refine g_iconst 0 28 (gd rfl) rfl rfl (g_thr (E := am_IA) (y := yX11_allow) 31 (gd rfl) rfl rfl (Or.inl ⟨rfl, rfl, rfl⟩) (by omega) (Nat.le_of_ble_eq_true rfl) (Nat.le_of_ble_eq_true rfl) (Nat.le_of_ble_eq_true rfl) (fun c28 => ?_) (fun c28 => ?_))
            · skip
              exact zn_ne c28 (in_c 0 rfl) rfl
            · skip
              exact (hX _ _ ⟨rfl, s, hI, fr_rf, rfl⟩)
          · skip
            have i14 := z_ge 0 2147483647 c14 (i_rng x2) rfl
            refine g_iload_n 18 (gd rfl) rfl rfl (g_bipush 40 20 (gd rfl) rfl rfl (g_cmp_gt 23 27 (gd rfl) rfl rfl (fun c20 => ?_) (fun c20 => ?_)))
            · skip
              have i20 := r_lt2 41 2147483647 c20 (in_c 40 rfl) i14 rfl
              refine g_iconst 0 28 (gd rfl) rfl rfl (g_thr (E := am_IA) (y := yX11_allow) 31 (gd rfl) rfl rfl (Or.inl ⟨rfl, rfl, rfl⟩) (by omega) (Nat.le_of_ble_eq_true rfl) (Nat.le_of_ble_eq_true rfl) (Nat.le_of_ble_eq_true rfl) (fun c28 => ?_) (fun c28 => ?_))
              · skip
                exact zn_ne c28 (in_c 0 rfl) rfl
              · skip
                exact (hX _ _ ⟨rfl, s, hI, fr_rf, rfl⟩)
            · skip
              have i20 := r_le1 0 40 c20 i14 (in_c 40 rfl) rfl
              refine g_iconst 1 24 (gd rfl) rfl rfl (g_goto 28 (gd rfl) rfl (g_thr (E := am_IA) (y := yX11_allow) 31 (gd rfl) rfl rfl (Or.inl ⟨rfl, rfl, rfl⟩) (by omega) (Nat.le_of_ble_eq_true rfl) (Nat.le_of_ble_eq_true rfl) (Nat.le_of_ble_eq_true rfl) (fun c28 => ?_) (fun c28 => ?_)))
              · skip
                refine g_aload_n 32 (gd rfl) rfl rfl (g_getA (q2 := 86) 35 (gd rfl) rfl rfl rfl rfl (g_aload_n 36 (gd rfl) rfl rfl (g_iload_n 37 (gd rfl) rfl rfl (g_iload_n 38 (gd rfl) rfl rfl (g_callv (X := _) (As := [.ref (A 32), .int x1, .int x2]) (r := []) (b := A 86) (q := 86) 41 (gd rfl) rfl rfl rfl rfl rfl (ww_o rfl) (Nat.le_of_ble_eq_true rfl) (Nat.zero_le _) (Nat.zero_le _) (k_109_86_32 (by omega) hI (in_w 0 31 i7x9 rfl) (in_w 0 40 i20 rfl)) (fun e u h => h) (fun v u h => ?_))))))
                obtain ⟨xa38, ya38, s38, hI38, hF38, z38, rfl, rfl⟩ := h
                show GG _ _ _ _ _ _ _ _ [.long z38] _ _ _
                exact g_lreturn (gd rfl) rfl (hP _ _ ⟨xa38, ya38, s38, hI38, (fr_tr rfl fr_rf hF38), z38, rfl, rfl⟩)
              · skip
                exact zn_eq c28 (in_c 1 rfl) rfl
  · skip
    have i1x5 := r_eq1 (-1) (-1) c1x5 ro_0_2 (in_c (-1) rfl) rfl
    refine g_aload_n 9 (gd rfl) rfl rfl (g_getA (q2 := 1) 12 (gd rfl) rfl rfl rfl rfl (g_getA (q2 := 2) 15 (gd rfl) rfl rfl rfl rfl (g_goto 22 (gd rfl) rfl ?_)))
    refine g_areturn (gd rfl) rfl (hp1 _ _ ?_)
    show GG _ _ _ _ _ _ _ _ [.ref (A 2)] _ _ _
    refine g_astore_n 5 (gd rfl) rfl (Nat.le_of_ble_eq_true rfl) (g_aload_n 6 (gd rfl) rfl rfl (g_iload_n 7 (gd rfl) rfl rfl ?_))
    refine g_callv (X := _) (As := [.int x1]) (r := []) (b := A 2) (q := 2) 10 (gd rfl) rfl rfl rfl rfl rfl (ww_o rfl) (Nat.le_of_ble_eq_true rfl) (mc := 0) (ms := 0) (Nat.zero_le _) (Nat.zero_le _) (P := fun v u => _) ?_ (fun e u h => h) (fun v u h => h)
    intro po7 xx7 hp7 hx7
    refine g_enter2 (k := 94) (N := 300) (by omega) rfl (Nat.le_of_ble_eq_true rfl) (g_iload_n 1 (gd rfl) rfl rfl (g_if_lt 4 16 (gd rfl) rfl rfl (fun c7x1 => ?_) (fun c7x1 => ?_)))
    · skip
      have i7x1 := z_lt (-2147483648) (-1) c7x1 (i_rng x1) rfl
      refine g_iconst 0 17 (gd rfl) rfl rfl ?_
      refine g_ireturn (gd rfl) rfl (nb01 (in_w 0 1 (in_c 0 rfl) rfl)) (hp7 _ _ ?_)
      show GG _ _ _ _ _ _ _ _ [.int (Int32.ofInt 0)] _ _ _
      refine g_if_eq 13 27 (gd rfl) rfl rfl (fun c10 => ?_) (fun c10 => ?_)
      · skip
        refine g_iconst 0 28 (gd rfl) rfl rfl (g_thr (E := am_IA) (y := yX11_allow) 31 (gd rfl) rfl rfl (Or.inl ⟨rfl, rfl, rfl⟩) (by omega) (Nat.le_of_ble_eq_true rfl) (Nat.le_of_ble_eq_true rfl) (Nat.le_of_ble_eq_true rfl) (fun c28 => ?_) (fun c28 => ?_))
        · skip
          exact zn_ne c28 (in_c 0 rfl) rfl
        · skip
          exact (hX _ _ ⟨rfl, s, hI, fr_rf, rfl⟩)
      · skip
        exact zn_ne c10 (in_c 0 rfl) rfl
    · skip
      have i7x1 := z_ge 0 2147483647 c7x1 (i_rng x1) rfl
      refine g_iload_n 5 (gd rfl) rfl rfl (g_aload_n 6 (gd rfl) rfl rfl (g_getIv (y := u_2_1) 9 (gd rfl) rfl rfl rfl (e_2_1) (g_cmp_ge 12 16 (gd rfl) rfl rfl (fun c7x9 => ?_) (fun c7x9 => ?_))))
      · skip
        refine g_iconst 0 17 (gd rfl) rfl rfl ?_
        refine g_ireturn (gd rfl) rfl (nb01 (in_w 0 1 (in_c 0 rfl) rfl)) (hp7 _ _ ?_)
        show GG _ _ _ _ _ _ _ _ [.int (Int32.ofInt 0)] _ _ _
        refine g_if_eq 13 27 (gd rfl) rfl rfl (fun c10 => ?_) (fun c10 => ?_)
        · skip
          refine g_iconst 0 28 (gd rfl) rfl rfl (g_thr (E := am_IA) (y := yX11_allow) 31 (gd rfl) rfl rfl (Or.inl ⟨rfl, rfl, rfl⟩) (by omega) (Nat.le_of_ble_eq_true rfl) (Nat.le_of_ble_eq_true rfl) (Nat.le_of_ble_eq_true rfl) (fun c28 => ?_) (fun c28 => ?_))
          · skip
            exact zn_ne c28 (in_c 0 rfl) rfl
          · skip
            exact (hX _ _ ⟨rfl, s, hI, fr_rf, rfl⟩)
        · skip
          exact zn_ne c10 (in_c 0 rfl) rfl
      · skip
        have i7x9 := r_lt1 0 31 c7x9 i7x1 ro_2_1 rfl
        have i7x9a := r_lt2 1 32 c7x9 i7x1 ro_2_1 rfl
        refine g_iconst 1 13 (gd rfl) rfl rfl (g_goto 17 (gd rfl) rfl ?_)
        refine g_ireturn (gd rfl) rfl (nb01 (in_w 0 1 (in_c 1 rfl) rfl)) (hp7 _ _ ?_)
        show GG _ _ _ _ _ _ _ _ [.int (Int32.ofInt 1)] _ _ _
        refine g_if_eq 13 27 (gd rfl) rfl rfl (fun c10 => ?_) (fun c10 => ?_)
        · skip
          exact zn_eq c10 (in_c 1 rfl) rfl
        · skip
          refine g_iload_n 14 (gd rfl) rfl rfl (g_if_lt 17 27 (gd rfl) rfl rfl (fun c14 => ?_) (fun c14 => ?_))
          · skip
            have i14 := z_lt (-2147483648) (-1) c14 (i_rng x2) rfl
            refine g_iconst 0 28 (gd rfl) rfl rfl (g_thr (E := am_IA) (y := yX11_allow) 31 (gd rfl) rfl rfl (Or.inl ⟨rfl, rfl, rfl⟩) (by omega) (Nat.le_of_ble_eq_true rfl) (Nat.le_of_ble_eq_true rfl) (Nat.le_of_ble_eq_true rfl) (fun c28 => ?_) (fun c28 => ?_))
            · skip
              exact zn_ne c28 (in_c 0 rfl) rfl
            · skip
              exact (hX _ _ ⟨rfl, s, hI, fr_rf, rfl⟩)
          · skip
            have i14 := z_ge 0 2147483647 c14 (i_rng x2) rfl
            refine g_iload_n 18 (gd rfl) rfl rfl (g_bipush 40 20 (gd rfl) rfl rfl (g_cmp_gt 23 27 (gd rfl) rfl rfl (fun c20 => ?_) (fun c20 => ?_)))
            · skip
              have i20 := r_lt2 41 2147483647 c20 (in_c 40 rfl) i14 rfl
              refine g_iconst 0 28 (gd rfl) rfl rfl (g_thr (E := am_IA) (y := yX11_allow) 31 (gd rfl) rfl rfl (Or.inl ⟨rfl, rfl, rfl⟩) (by omega) (Nat.le_of_ble_eq_true rfl) (Nat.le_of_ble_eq_true rfl) (Nat.le_of_ble_eq_true rfl) (fun c28 => ?_) (fun c28 => ?_))
              · skip
                exact zn_ne c28 (in_c 0 rfl) rfl
              · skip
                exact (hX _ _ ⟨rfl, s, hI, fr_rf, rfl⟩)
            · skip
              have i20 := r_le1 0 40 c20 i14 (in_c 40 rfl) rfl
              refine g_iconst 1 24 (gd rfl) rfl rfl (g_goto 28 (gd rfl) rfl (g_thr (E := am_IA) (y := yX11_allow) 31 (gd rfl) rfl rfl (Or.inl ⟨rfl, rfl, rfl⟩) (by omega) (Nat.le_of_ble_eq_true rfl) (Nat.le_of_ble_eq_true rfl) (Nat.le_of_ble_eq_true rfl) (fun c28 => ?_) (fun c28 => ?_)))
              · skip
                refine g_aload_n 32 (gd rfl) rfl rfl (g_getA (q2 := 86) 35 (gd rfl) rfl rfl rfl rfl (g_aload_n 36 (gd rfl) rfl rfl (g_iload_n 37 (gd rfl) rfl rfl (g_iload_n 38 (gd rfl) rfl rfl (g_callv (X := _) (As := [.ref (A 2), .int x1, .int x2]) (r := []) (b := A 86) (q := 86) 41 (gd rfl) rfl rfl rfl rfl rfl (ww_o rfl) (Nat.le_of_ble_eq_true rfl) (Nat.zero_le _) (Nat.zero_le _) (k_109_86_2 (by omega) hI (in_w 0 31 i7x9 rfl) (in_w 0 40 i20 rfl)) (fun e u h => h) (fun v u h => ?_))))))
                obtain ⟨xa38, ya38, s38, hI38, hF38, z38, rfl, rfl⟩ := h
                show GG _ _ _ _ _ _ _ _ [.long z38] _ _ _
                exact g_lreturn (gd rfl) rfl (hP _ _ ⟨xa38, ya38, s38, hI38, (fr_tr rfl fr_rf hF38), z38, rfl, rfl⟩)
              · skip
                exact zn_eq c28 (in_c 1 rfl) rfl

def fm_249_0 : FM := ([9, 10, 11, 12, 13, 14, 15, 39, 40, 41, 42, 43, 44, 45, 52, 54], [53], [(2, 4), (32, 4)], [])
/-- GraphHouse.shortest -/
theorem k_249_0 {Z : AmZ} {A : Nat → Nat} {s : GS} {ex : va_W} {d : Nat} {x1 : Int32} {x2 : Int32} {x3 : Int32} {x4 : Int32} (hd : 7 ≤ d) (hI : Inv s)  : GC Z d 249 [.ref (A 0), .int x1, .int x2, .int x3, .int x4] (WW Z A s ++ ex) 3 18 (fun v u => ∃ t : GS, Inv t ∧ Fr fm_249_0 s t ∧ ∃ z : Int32, v = some (.int z) ∧ u = WW Z A t ++ ex ∧ In z (-2147483648) 2147483647) (gE1 Z A ex fm_249_0 s) := by
  intro post xp hP hX
  obtain ⟨u_0_2, e_0_2⟩ : ∃ w, w = s.2.2.1 0 2 := ⟨_, rfl⟩
  have ro_0_2 := inv_F hI (-1) 4000 rfl e_0_2
  obtain ⟨u_2_1, e_2_1⟩ : ∃ w, w = s.2.2.1 2 1 := ⟨_, rfl⟩
  have ro_2_1 := inv_F hI 0 32 rfl e_2_1
  obtain ⟨u_32_1, e_32_1⟩ : ∃ w, w = s.2.2.1 32 1 := ⟨_, rfl⟩
  have ro_32_1 := inv_F hI 0 32 rfl e_32_1
  have ct47 : ∀ (sc47 : GS) , Inv sc47 → Fr fm_249_0 s sc47 → GG Z (d - 1) 249 post (gx xp) (901) 47 (fun j => xlook j [(0, .ref (A 0)), (1, .int x1), (2, .int x2), (3, .int x3), (4, .int x4)]) [] (WW Z A sc47 ++ ex) 3 18 := by
    intro sc47  hIc47 hFc47 
    refine g_iconst 0 48 (gd rfl) rfl rfl (g_thr (E := am_IA) (y := yX11_allow) 51 (gd rfl) rfl rfl (Or.inl ⟨rfl, rfl, rfl⟩) (by omega) (Nat.le_of_ble_eq_true rfl) (Nat.le_of_ble_eq_true rfl) (Nat.le_of_ble_eq_true rfl) (fun c48 => ?_) (fun c48 => ?_))
    · skip
      exact zn_ne c48 (in_c 0 rfl) rfl
    · skip
      exact (hX _ _ ⟨rfl, sc47, hIc47, hFc47, rfl⟩)
  refine g_enter2 (k := 249) (N := 1801) (by omega) rfl (Nat.le_of_ble_eq_true rfl) (g_aload_n 1 (gd rfl) rfl rfl ?_)
  refine g_callv (X := _) (As := []) (r := []) (b := A 0) (q := 0) 4 (gd rfl) rfl rfl rfl rfl rfl (ww_o rfl) (Nat.le_of_ble_eq_true rfl) (mc := 0) (ms := 0) (Nat.zero_le _) (Nat.zero_le _) (P := fun v u => _) ?_ (fun e u h => h) (fun v u h => h)
  intro po1 xx1 hp1 hx1
  refine g_enter2 (k := 259) (N := 300) (by omega) rfl (Nat.le_of_ble_eq_true rfl) (g_aload_n 1 (gd rfl) rfl rfl (g_getIv (y := u_0_2) 4 (gd rfl) rfl rfl rfl (e_0_2) (g_iconst (-1) 5 (gd rfl) rfl rfl (g_cmp_ne 8 18 (gd rfl) rfl rfl (fun c1x5 => ?_) (fun c1x5 => ?_)))))
  · skip
    have i1x5 := r_ne1 0 4000 c1x5 ro_0_2 (in_c (-1) rfl) rfl
    refine g_aload_n 19 (gd rfl) rfl rfl (g_getA (q2 := 32) 22 (gd rfl) rfl rfl rfl rfl ?_)
    refine g_areturn (gd rfl) rfl (hp1 _ _ ?_)
    show GG _ _ _ _ _ _ _ _ [.ref (A 32)] _ _ _
    refine g_astore 6 (gd rfl) rfl (Nat.le_of_ble_eq_true rfl) (g_aload 8 (gd rfl) rfl rfl (g_iload_n 9 (gd rfl) rfl rfl ?_))
    refine g_callv (X := _) (As := [.int x1]) (r := []) (b := A 32) (q := 32) 12 (gd rfl) rfl rfl rfl rfl rfl (ww_o rfl) (Nat.le_of_ble_eq_true rfl) (mc := 0) (ms := 0) (Nat.zero_le _) (Nat.zero_le _) (P := fun v u => _) ?_ (fun e u h => h) (fun v u h => h)
    intro po9 xx9 hp9 hx9
    refine g_enter2 (k := 94) (N := 300) (by omega) rfl (Nat.le_of_ble_eq_true rfl) (g_iload_n 1 (gd rfl) rfl rfl (g_if_lt 4 16 (gd rfl) rfl rfl (fun c9x1 => ?_) (fun c9x1 => ?_)))
    · skip
      have i9x1 := z_lt (-2147483648) (-1) c9x1 (i_rng x1) rfl
      refine g_iconst 0 17 (gd rfl) rfl rfl ?_
      refine g_ireturn (gd rfl) rfl (nb01 (in_w 0 1 (in_c 0 rfl) rfl)) (hp9 _ _ ?_)
      show GG _ _ _ _ _ _ _ _ [.int (Int32.ofInt 0)] _ _ _
      refine g_if_eq 15 47 (gd rfl) rfl rfl (fun c12 => ?_) (fun c12 => ?_)
      · skip
        exact gg_w (by omega) (gg_f (gf_cons rfl (gf_cons rfl (gf_cons rfl (gf_cons rfl (gf_cons rfl gf_nil))))) (ct47 s  hI fr_rf ))
      · skip
        exact zn_ne c12 (in_c 0 rfl) rfl
    · skip
      have i9x1 := z_ge 0 2147483647 c9x1 (i_rng x1) rfl
      refine g_iload_n 5 (gd rfl) rfl rfl (g_aload_n 6 (gd rfl) rfl rfl (g_getIv (y := u_32_1) 9 (gd rfl) rfl rfl rfl (e_32_1) (g_cmp_ge 12 16 (gd rfl) rfl rfl (fun c9x9 => ?_) (fun c9x9 => ?_))))
      · skip
        refine g_iconst 0 17 (gd rfl) rfl rfl ?_
        refine g_ireturn (gd rfl) rfl (nb01 (in_w 0 1 (in_c 0 rfl) rfl)) (hp9 _ _ ?_)
        show GG _ _ _ _ _ _ _ _ [.int (Int32.ofInt 0)] _ _ _
        refine g_if_eq 15 47 (gd rfl) rfl rfl (fun c12 => ?_) (fun c12 => ?_)
        · skip
          exact gg_w (by omega) (gg_f (gf_cons rfl (gf_cons rfl (gf_cons rfl (gf_cons rfl (gf_cons rfl gf_nil))))) (ct47 s  hI fr_rf ))
        · skip
          exact zn_ne c12 (in_c 0 rfl) rfl
      · skip
        have i9x9 := r_lt1 0 31 c9x9 i9x1 ro_32_1 rfl
        have i9x9a := r_lt2 1 32 c9x9 i9x1 ro_32_1 rfl
        refine g_iconst 1 13 (gd rfl) rfl rfl (g_goto 17 (gd rfl) rfl ?_)
        refine g_ireturn (gd rfl) rfl (nb01 (in_w 0 1 (in_c 1 rfl) rfl)) (hp9 _ _ ?_)
        show GG _ _ _ _ _ _ _ _ [.int (Int32.ofInt 1)] _ _ _
        refine g_if_eq 15 47 (gd rfl) rfl rfl (fun c12 => ?_) (fun c12 => ?_)
        · skip
          exact zn_eq c12 (in_c 1 rfl) rfl
        · skip
          refine g_aload 17 (gd rfl) rfl rfl (g_iload_n 18 (gd rfl) rfl rfl ?_)
          refine g_callv (X := _) (As := [.int x2]) (r := []) (b := A 32) (q := 32) 21 (gd rfl) rfl rfl rfl rfl rfl (ww_o rfl) (Nat.le_of_ble_eq_true rfl) (mc := 0) (ms := 0) (Nat.zero_le _) (Nat.zero_le _) (P := fun v u => _) ?_ (fun e u h => h) (fun v u h => h)
          intro po18 xx18 hp18 hx18
          refine g_enter2 (k := 94) (N := 300) (by omega) rfl (Nat.le_of_ble_eq_true rfl) (g_iload_n 1 (gd rfl) rfl rfl (g_if_lt 4 16 (gd rfl) rfl rfl (fun c18x1 => ?_) (fun c18x1 => ?_)))
          · skip
            have i18x1 := z_lt (-2147483648) (-1) c18x1 (i_rng x2) rfl
            refine g_iconst 0 17 (gd rfl) rfl rfl ?_
            refine g_ireturn (gd rfl) rfl (nb01 (in_w 0 1 (in_c 0 rfl) rfl)) (hp18 _ _ ?_)
            show GG _ _ _ _ _ _ _ _ [.int (Int32.ofInt 0)] _ _ _
            refine g_if_eq 24 47 (gd rfl) rfl rfl (fun c21 => ?_) (fun c21 => ?_)
            · skip
              exact gg_w (by omega) (gg_f (gf_cons rfl (gf_cons rfl (gf_cons rfl (gf_cons rfl (gf_cons rfl gf_nil))))) (ct47 s  hI fr_rf ))
            · skip
              exact zn_ne c21 (in_c 0 rfl) rfl
          · skip
            have i18x1 := z_ge 0 2147483647 c18x1 (i_rng x2) rfl
            refine g_iload_n 5 (gd rfl) rfl rfl (g_aload_n 6 (gd rfl) rfl rfl (g_getIv (y := u_32_1) 9 (gd rfl) rfl rfl rfl (e_32_1) (g_cmp_ge 12 16 (gd rfl) rfl rfl (fun c18x9 => ?_) (fun c18x9 => ?_))))
            · skip
              have i18x9 := r_le2 1 2147483647 c18x9 i9x9a i18x1 rfl
              refine g_iconst 0 17 (gd rfl) rfl rfl ?_
              refine g_ireturn (gd rfl) rfl (nb01 (in_w 0 1 (in_c 0 rfl) rfl)) (hp18 _ _ ?_)
              show GG _ _ _ _ _ _ _ _ [.int (Int32.ofInt 0)] _ _ _
              refine g_if_eq 24 47 (gd rfl) rfl rfl (fun c21 => ?_) (fun c21 => ?_)
              · skip
                exact gg_w (by omega) (gg_f (gf_cons rfl (gf_cons rfl (gf_cons rfl (gf_cons rfl (gf_cons rfl gf_nil))))) (ct47 s  hI fr_rf ))
              · skip
                exact zn_ne c21 (in_c 0 rfl) rfl
            · skip
              have i18x9 := r_lt1 0 31 c18x9 i18x1 i9x9a rfl
              refine g_iconst 1 13 (gd rfl) rfl rfl (g_goto 17 (gd rfl) rfl ?_)
              refine g_ireturn (gd rfl) rfl (nb01 (in_w 0 1 (in_c 1 rfl) rfl)) (hp18 _ _ ?_)
              show GG _ _ _ _ _ _ _ _ [.int (Int32.ofInt 1)] _ _ _
              refine g_if_eq 24 47 (gd rfl) rfl rfl (fun c21 => ?_) (fun c21 => ?_)
              · skip
                exact zn_eq c21 (in_c 1 rfl) rfl
              · skip
                refine g_iload_n 25 (gd rfl) rfl rfl (g_if_lt 28 47 (gd rfl) rfl rfl (fun c25 => ?_) (fun c25 => ?_))
                · skip
                  have i25 := z_lt (-2147483648) (-1) c25 (i_rng x3) rfl
                  exact gg_w (by omega) (gg_f (gf_cons rfl (gf_cons rfl (gf_cons rfl (gf_cons rfl (gf_cons rfl gf_nil))))) (ct47 s  hI fr_rf ))
                · skip
                  have i25 := z_ge 0 2147483647 c25 (i_rng x3) rfl
                  refine g_iload_n 29 (gd rfl) rfl rfl (g_iconst 2 30 (gd rfl) rfl rfl (g_cmp_gt 33 47 (gd rfl) rfl rfl (fun c30 => ?_) (fun c30 => ?_)))
                  · skip
                    have i30 := r_lt2 3 2147483647 c30 (in_c 2 rfl) i25 rfl
                    exact gg_w (by omega) (gg_f (gf_cons rfl (gf_cons rfl (gf_cons rfl (gf_cons rfl (gf_cons rfl gf_nil))))) (ct47 s  hI fr_rf ))
                  · skip
                    have i30 := r_le1 0 2 c30 i25 (in_c 2 rfl) rfl
                    refine g_aload 35 (gd rfl) rfl rfl (g_iload 37 (gd rfl) rfl rfl ?_)
                    refine g_callv (X := _) (As := [.int x4]) (r := []) (b := A 32) (q := 32) 40 (gd rfl) rfl rfl rfl rfl rfl (ww_o rfl) (Nat.le_of_ble_eq_true rfl) (mc := 0) (ms := 0) (Nat.zero_le _) (Nat.zero_le _) (P := fun v u => _) ?_ (fun e u h => h) (fun v u h => h)
                    intro po37 xx37 hp37 hx37
                    refine g_enter2 (k := 94) (N := 300) (by omega) rfl (Nat.le_of_ble_eq_true rfl) (g_iload_n 1 (gd rfl) rfl rfl (g_if_lt 4 16 (gd rfl) rfl rfl (fun c37x1 => ?_) (fun c37x1 => ?_)))
                    · skip
                      have i37x1 := z_lt (-2147483648) (-1) c37x1 (i_rng x4) rfl
                      refine g_iconst 0 17 (gd rfl) rfl rfl ?_
                      refine g_ireturn (gd rfl) rfl (nb01 (in_w 0 1 (in_c 0 rfl) rfl)) (hp37 _ _ ?_)
                      show GG _ _ _ _ _ _ _ _ [.int (Int32.ofInt 0)] _ _ _
                      refine g_if_eq 43 47 (gd rfl) rfl rfl (fun c40 => ?_) (fun c40 => ?_)
                      · skip
                        exact gg_w (by omega) (gg_f (gf_cons rfl (gf_cons rfl (gf_cons rfl (gf_cons rfl (gf_cons rfl gf_nil))))) (ct47 s  hI fr_rf ))
                      · skip
                        exact zn_ne c40 (in_c 0 rfl) rfl
                    · skip
                      have i37x1 := z_ge 0 2147483647 c37x1 (i_rng x4) rfl
                      refine g_iload_n 5 (gd rfl) rfl rfl (g_aload_n 6 (gd rfl) rfl rfl (g_getIv (y := u_32_1) 9 (gd rfl) rfl rfl rfl (e_32_1) (g_cmp_ge 12 16 (gd rfl) rfl rfl (fun c37x9 => ?_) (fun c37x9 => ?_))))
                      · skip
                        have i37x9 := r_le2 1 2147483647 c37x9 i9x9a i37x1 rfl
                        refine g_iconst 0 17 (gd rfl) rfl rfl ?_
                        refine g_ireturn (gd rfl) rfl (nb01 (in_w 0 1 (in_c 0 rfl) rfl)) (hp37 _ _ ?_)
                        show GG _ _ _ _ _ _ _ _ [.int (Int32.ofInt 0)] _ _ _
                        refine g_if_eq 43 47 (gd rfl) rfl rfl (fun c40 => ?_) (fun c40 => ?_)
                        · skip
                          exact gg_w (by omega) (gg_f (gf_cons rfl (gf_cons rfl (gf_cons rfl (gf_cons rfl (gf_cons rfl gf_nil))))) (ct47 s  hI fr_rf ))
                        · skip
                          exact zn_ne c40 (in_c 0 rfl) rfl
                      · skip
                        have i37x9 := r_lt1 0 31 c37x9 i37x1 i9x9a rfl
                        refine g_iconst 1 13 (gd rfl) rfl rfl (g_goto 17 (gd rfl) rfl ?_)
                        refine g_ireturn (gd rfl) rfl (nb01 (in_w 0 1 (in_c 1 rfl) rfl)) (hp37 _ _ ?_)
                        show GG _ _ _ _ _ _ _ _ [.int (Int32.ofInt 1)] _ _ _
                        refine g_if_eq 43 47 (gd rfl) rfl rfl (fun c40 => ?_) (fun c40 => ?_)
                        · skip
                          exact zn_eq c40 (in_c 1 rfl) rfl
                        · skip
                          refine g_iconst 1 44 (gd rfl) rfl rfl (g_goto 48 (gd rfl) rfl (g_thr (E := am_IA) (y := yX11_allow) 51 (gd rfl) rfl rfl (Or.inl ⟨rfl, rfl, rfl⟩) (by omega) (Nat.le_of_ble_eq_true rfl) (Nat.le_of_ble_eq_true rfl) (Nat.le_of_ble_eq_true rfl) (fun c48 => ?_) (fun c48 => ?_)))
                          · skip
                            refine g_iload_n 52 (gd rfl) rfl rfl (g_if_ne 55 67 (gd rfl) rfl rfl (fun c52 => ?_) (fun c52 => ?_))
                            · skip
                              have i52 := z_ne 1 2 c52 i30 rfl
                              refine g_iload_n 68 (gd rfl) rfl rfl (g_iconst 1 69 (gd rfl) rfl rfl (g_cmp_ne 72 87 (gd rfl) rfl rfl (fun c69 => ?_) (fun c69 => ?_)))
                              · skip
                                have i69 := r_ne1 2 2 c69 i52 (in_c 1 rfl) rfl
                                refine g_aload_n 88 (gd rfl) rfl rfl (g_getA (q2 := 49) 91 (gd rfl) rfl rfl rfl rfl (g_aload 93 (gd rfl) rfl rfl (g_iload_n 94 (gd rfl) rfl rfl (g_iload_n 95 (gd rfl) rfl rfl (g_iload 97 (gd rfl) rfl rfl (g_callv (X := _) (As := [.ref (A 32), .int x1, .int x2, .int x4]) (r := []) (b := A 49) (q := 49) 100 (gd rfl) rfl rfl rfl rfl rfl (ww_o rfl) (Nat.le_of_ble_eq_true rfl) (Nat.zero_le _) (Nat.zero_le _) (k_203_49_32 (by omega) hI (in_w 0 31 i9x9 rfl) (in_w 0 31 i18x9 rfl) (in_w 0 31 i37x9 rfl)) (fun e u h => h) (fun v u h => ?_)))))))
                                obtain ⟨s97, hI97, hF97, z97, rfl, rfl, i97⟩ := h
                                show GG _ _ _ _ _ _ _ _ [.int z97] _ _ _
                                exact g_ireturn (gd rfl) rfl rfl (hP _ _ ⟨s97, hI97, (fr_tr rfl fr_rf hF97), z97, rfl, rfl, in_w (-2147483648) 2147483647 i97 rfl⟩)
                              · skip
                                have i69 := r_eq1 1 1 c69 i52 (in_c 1 rfl) rfl
                                refine g_aload_n 73 (gd rfl) rfl rfl (g_getA (q2 := 49) 76 (gd rfl) rfl rfl rfl rfl (g_aload 78 (gd rfl) rfl rfl (g_iload_n 79 (gd rfl) rfl rfl (g_iload_n 80 (gd rfl) rfl rfl (g_iload_n 81 (gd rfl) rfl rfl (g_callv (X := _) (As := [.ref (A 32), .int x1, .int x2, .int x1]) (r := []) (b := A 49) (q := 49) 84 (gd rfl) rfl rfl rfl rfl rfl (ww_o rfl) (Nat.le_of_ble_eq_true rfl) (Nat.zero_le _) (Nat.zero_le _) (k_203_49_32 (by omega) hI (in_w 0 31 i9x9 rfl) (in_w 0 31 i18x9 rfl) (in_w 0 31 i9x9 rfl)) (fun e u h => h) (fun v u h => ?_)))))))
                                obtain ⟨s81, hI81, hF81, z81, rfl, rfl, i81⟩ := h
                                show GG _ _ _ _ _ _ _ _ [.int z81] _ _ _
                                exact g_goto 100 (gd rfl) rfl (g_ireturn (gd rfl) rfl rfl (hP _ _ ⟨s81, hI81, (fr_tr rfl fr_rf hF81), z81, rfl, rfl, in_w (-2147483648) 2147483647 i81 rfl⟩))
                            · skip
                              have i52 := z_eq 0 0 c52 i30 rfl
                              refine g_aload_n 56 (gd rfl) rfl rfl (g_getA (q2 := 49) 59 (gd rfl) rfl rfl rfl rfl (g_aload 61 (gd rfl) rfl rfl (g_iload_n 62 (gd rfl) rfl rfl (g_iload_n 63 (gd rfl) rfl rfl ?_))))
                              refine g_callv (X := _) (As := [.ref (A 32), .int x1, .int x2]) (r := []) (b := A 49) (q := 49) 66 (gd rfl) rfl rfl rfl rfl rfl (ww_o rfl) (Nat.le_of_ble_eq_true rfl) (mc := 0) (ms := 0) (Nat.zero_le _) (Nat.zero_le _) (P := fun v u => _) ?_ (fun e u h => h) (fun v u h => h)
                              intro po63 xx63 hp63 hx63
                              refine g_enter2 (k := 202) (N := 300) (by omega) rfl (Nat.le_of_ble_eq_true rfl) (g_aload_n 1 (gd rfl) rfl rfl (g_aload_n 2 (gd rfl) rfl rfl (g_iload_n 3 (gd rfl) rfl rfl (g_callv (X := _) (As := [.ref (A 32), .int x1]) (r := []) (b := A 49) (q := 49) 6 (gd rfl) rfl rfl rfl rfl rfl (ww_o rfl) (Nat.le_of_ble_eq_true rfl) (Nat.zero_le _) (Nat.zero_le _) (k_204_49_32 (by omega) hI (in_w 0 31 i9x9 rfl)) (fun e u h => h) (fun v u h => ?_)))))
                              obtain ⟨s63x3, hI63x3, hF63x3, rfl, rfl⟩ := h
                              show GG _ _ _ _ _ _ _ _ [] _ _ _
                              refine g_aload_n 7 (gd rfl) rfl rfl (g_getA (q2 := 52) 10 (gd rfl) rfl rfl rfl rfl (g_iload_n 11 (gd rfl) rfl rfl (g_iaload 12 (gd rfl) rfl (n := 32) rfl (in_ix i18x9 rfl) (fun z63x11 e63x11 => ?_))))
                              refine g_ireturn (gd rfl) rfl rfl (hp63 _ _ ?_)
                              show GG _ _ _ _ _ _ _ _ [.int z63x11] _ _ _
                              exact g_ireturn (gd rfl) rfl rfl (hP _ _ ⟨s63x3, hI63x3, (fr_tr rfl fr_rf hF63x3), z63x11, rfl, rfl, in_w (-2147483648) 2147483647 (i_rng z63x11) rfl⟩)
                          · skip
                            exact zn_eq c48 (in_c 1 rfl) rfl
  · skip
    have i1x5 := r_eq1 (-1) (-1) c1x5 ro_0_2 (in_c (-1) rfl) rfl
    refine g_aload_n 9 (gd rfl) rfl rfl (g_getA (q2 := 1) 12 (gd rfl) rfl rfl rfl rfl (g_getA (q2 := 2) 15 (gd rfl) rfl rfl rfl rfl (g_goto 22 (gd rfl) rfl ?_)))
    refine g_areturn (gd rfl) rfl (hp1 _ _ ?_)
    show GG _ _ _ _ _ _ _ _ [.ref (A 2)] _ _ _
    refine g_astore 6 (gd rfl) rfl (Nat.le_of_ble_eq_true rfl) (g_aload 8 (gd rfl) rfl rfl (g_iload_n 9 (gd rfl) rfl rfl ?_))
    refine g_callv (X := _) (As := [.int x1]) (r := []) (b := A 2) (q := 2) 12 (gd rfl) rfl rfl rfl rfl rfl (ww_o rfl) (Nat.le_of_ble_eq_true rfl) (mc := 0) (ms := 0) (Nat.zero_le _) (Nat.zero_le _) (P := fun v u => _) ?_ (fun e u h => h) (fun v u h => h)
    intro po9 xx9 hp9 hx9
    refine g_enter2 (k := 94) (N := 300) (by omega) rfl (Nat.le_of_ble_eq_true rfl) (g_iload_n 1 (gd rfl) rfl rfl (g_if_lt 4 16 (gd rfl) rfl rfl (fun c9x1 => ?_) (fun c9x1 => ?_)))
    · skip
      have i9x1 := z_lt (-2147483648) (-1) c9x1 (i_rng x1) rfl
      refine g_iconst 0 17 (gd rfl) rfl rfl ?_
      refine g_ireturn (gd rfl) rfl (nb01 (in_w 0 1 (in_c 0 rfl) rfl)) (hp9 _ _ ?_)
      show GG _ _ _ _ _ _ _ _ [.int (Int32.ofInt 0)] _ _ _
      refine g_if_eq 15 47 (gd rfl) rfl rfl (fun c12 => ?_) (fun c12 => ?_)
      · skip
        exact gg_w (by omega) (gg_f (gf_cons rfl (gf_cons rfl (gf_cons rfl (gf_cons rfl (gf_cons rfl gf_nil))))) (ct47 s  hI fr_rf ))
      · skip
        exact zn_ne c12 (in_c 0 rfl) rfl
    · skip
      have i9x1 := z_ge 0 2147483647 c9x1 (i_rng x1) rfl
      refine g_iload_n 5 (gd rfl) rfl rfl (g_aload_n 6 (gd rfl) rfl rfl (g_getIv (y := u_2_1) 9 (gd rfl) rfl rfl rfl (e_2_1) (g_cmp_ge 12 16 (gd rfl) rfl rfl (fun c9x9 => ?_) (fun c9x9 => ?_))))
      · skip
        refine g_iconst 0 17 (gd rfl) rfl rfl ?_
        refine g_ireturn (gd rfl) rfl (nb01 (in_w 0 1 (in_c 0 rfl) rfl)) (hp9 _ _ ?_)
        show GG _ _ _ _ _ _ _ _ [.int (Int32.ofInt 0)] _ _ _
        refine g_if_eq 15 47 (gd rfl) rfl rfl (fun c12 => ?_) (fun c12 => ?_)
        · skip
          exact gg_w (by omega) (gg_f (gf_cons rfl (gf_cons rfl (gf_cons rfl (gf_cons rfl (gf_cons rfl gf_nil))))) (ct47 s  hI fr_rf ))
        · skip
          exact zn_ne c12 (in_c 0 rfl) rfl
      · skip
        have i9x9 := r_lt1 0 31 c9x9 i9x1 ro_2_1 rfl
        have i9x9a := r_lt2 1 32 c9x9 i9x1 ro_2_1 rfl
        refine g_iconst 1 13 (gd rfl) rfl rfl (g_goto 17 (gd rfl) rfl ?_)
        refine g_ireturn (gd rfl) rfl (nb01 (in_w 0 1 (in_c 1 rfl) rfl)) (hp9 _ _ ?_)
        show GG _ _ _ _ _ _ _ _ [.int (Int32.ofInt 1)] _ _ _
        refine g_if_eq 15 47 (gd rfl) rfl rfl (fun c12 => ?_) (fun c12 => ?_)
        · skip
          exact zn_eq c12 (in_c 1 rfl) rfl
        · skip
          refine g_aload 17 (gd rfl) rfl rfl (g_iload_n 18 (gd rfl) rfl rfl ?_)
          refine g_callv (X := _) (As := [.int x2]) (r := []) (b := A 2) (q := 2) 21 (gd rfl) rfl rfl rfl rfl rfl (ww_o rfl) (Nat.le_of_ble_eq_true rfl) (mc := 0) (ms := 0) (Nat.zero_le _) (Nat.zero_le _) (P := fun v u => _) ?_ (fun e u h => h) (fun v u h => h)
          intro po18 xx18 hp18 hx18
          refine g_enter2 (k := 94) (N := 300) (by omega) rfl (Nat.le_of_ble_eq_true rfl) (g_iload_n 1 (gd rfl) rfl rfl (g_if_lt 4 16 (gd rfl) rfl rfl (fun c18x1 => ?_) (fun c18x1 => ?_)))
          · skip
            have i18x1 := z_lt (-2147483648) (-1) c18x1 (i_rng x2) rfl
            refine g_iconst 0 17 (gd rfl) rfl rfl ?_
            refine g_ireturn (gd rfl) rfl (nb01 (in_w 0 1 (in_c 0 rfl) rfl)) (hp18 _ _ ?_)
            show GG _ _ _ _ _ _ _ _ [.int (Int32.ofInt 0)] _ _ _
            refine g_if_eq 24 47 (gd rfl) rfl rfl (fun c21 => ?_) (fun c21 => ?_)
            · skip
              exact gg_w (by omega) (gg_f (gf_cons rfl (gf_cons rfl (gf_cons rfl (gf_cons rfl (gf_cons rfl gf_nil))))) (ct47 s  hI fr_rf ))
            · skip
              exact zn_ne c21 (in_c 0 rfl) rfl
          · skip
            have i18x1 := z_ge 0 2147483647 c18x1 (i_rng x2) rfl
            refine g_iload_n 5 (gd rfl) rfl rfl (g_aload_n 6 (gd rfl) rfl rfl (g_getIv (y := u_2_1) 9 (gd rfl) rfl rfl rfl (e_2_1) (g_cmp_ge 12 16 (gd rfl) rfl rfl (fun c18x9 => ?_) (fun c18x9 => ?_))))
            · skip
              have i18x9 := r_le2 1 2147483647 c18x9 i9x9a i18x1 rfl
              refine g_iconst 0 17 (gd rfl) rfl rfl ?_
              refine g_ireturn (gd rfl) rfl (nb01 (in_w 0 1 (in_c 0 rfl) rfl)) (hp18 _ _ ?_)
              show GG _ _ _ _ _ _ _ _ [.int (Int32.ofInt 0)] _ _ _
              refine g_if_eq 24 47 (gd rfl) rfl rfl (fun c21 => ?_) (fun c21 => ?_)
              · skip
                exact gg_w (by omega) (gg_f (gf_cons rfl (gf_cons rfl (gf_cons rfl (gf_cons rfl (gf_cons rfl gf_nil))))) (ct47 s  hI fr_rf ))
              · skip
                exact zn_ne c21 (in_c 0 rfl) rfl
            · skip
              have i18x9 := r_lt1 0 31 c18x9 i18x1 i9x9a rfl
              refine g_iconst 1 13 (gd rfl) rfl rfl (g_goto 17 (gd rfl) rfl ?_)
              refine g_ireturn (gd rfl) rfl (nb01 (in_w 0 1 (in_c 1 rfl) rfl)) (hp18 _ _ ?_)
              show GG _ _ _ _ _ _ _ _ [.int (Int32.ofInt 1)] _ _ _
              refine g_if_eq 24 47 (gd rfl) rfl rfl (fun c21 => ?_) (fun c21 => ?_)
              · skip
                exact zn_eq c21 (in_c 1 rfl) rfl
              · skip
                refine g_iload_n 25 (gd rfl) rfl rfl (g_if_lt 28 47 (gd rfl) rfl rfl (fun c25 => ?_) (fun c25 => ?_))
                · skip
                  have i25 := z_lt (-2147483648) (-1) c25 (i_rng x3) rfl
                  exact gg_w (by omega) (gg_f (gf_cons rfl (gf_cons rfl (gf_cons rfl (gf_cons rfl (gf_cons rfl gf_nil))))) (ct47 s  hI fr_rf ))
                · skip
                  have i25 := z_ge 0 2147483647 c25 (i_rng x3) rfl
                  refine g_iload_n 29 (gd rfl) rfl rfl (g_iconst 2 30 (gd rfl) rfl rfl (g_cmp_gt 33 47 (gd rfl) rfl rfl (fun c30 => ?_) (fun c30 => ?_)))
                  · skip
                    have i30 := r_lt2 3 2147483647 c30 (in_c 2 rfl) i25 rfl
                    exact gg_w (by omega) (gg_f (gf_cons rfl (gf_cons rfl (gf_cons rfl (gf_cons rfl (gf_cons rfl gf_nil))))) (ct47 s  hI fr_rf ))
                  · skip
                    have i30 := r_le1 0 2 c30 i25 (in_c 2 rfl) rfl
                    refine g_aload 35 (gd rfl) rfl rfl (g_iload 37 (gd rfl) rfl rfl ?_)
                    refine g_callv (X := _) (As := [.int x4]) (r := []) (b := A 2) (q := 2) 40 (gd rfl) rfl rfl rfl rfl rfl (ww_o rfl) (Nat.le_of_ble_eq_true rfl) (mc := 0) (ms := 0) (Nat.zero_le _) (Nat.zero_le _) (P := fun v u => _) ?_ (fun e u h => h) (fun v u h => h)
                    intro po37 xx37 hp37 hx37
                    refine g_enter2 (k := 94) (N := 300) (by omega) rfl (Nat.le_of_ble_eq_true rfl) (g_iload_n 1 (gd rfl) rfl rfl (g_if_lt 4 16 (gd rfl) rfl rfl (fun c37x1 => ?_) (fun c37x1 => ?_)))
                    · skip
                      have i37x1 := z_lt (-2147483648) (-1) c37x1 (i_rng x4) rfl
                      refine g_iconst 0 17 (gd rfl) rfl rfl ?_
                      refine g_ireturn (gd rfl) rfl (nb01 (in_w 0 1 (in_c 0 rfl) rfl)) (hp37 _ _ ?_)
                      show GG _ _ _ _ _ _ _ _ [.int (Int32.ofInt 0)] _ _ _
                      refine g_if_eq 43 47 (gd rfl) rfl rfl (fun c40 => ?_) (fun c40 => ?_)
                      · skip
                        exact gg_w (by omega) (gg_f (gf_cons rfl (gf_cons rfl (gf_cons rfl (gf_cons rfl (gf_cons rfl gf_nil))))) (ct47 s  hI fr_rf ))
                      · skip
                        exact zn_ne c40 (in_c 0 rfl) rfl
                    · skip
                      have i37x1 := z_ge 0 2147483647 c37x1 (i_rng x4) rfl
                      refine g_iload_n 5 (gd rfl) rfl rfl (g_aload_n 6 (gd rfl) rfl rfl (g_getIv (y := u_2_1) 9 (gd rfl) rfl rfl rfl (e_2_1) (g_cmp_ge 12 16 (gd rfl) rfl rfl (fun c37x9 => ?_) (fun c37x9 => ?_))))
                      · skip
                        have i37x9 := r_le2 1 2147483647 c37x9 i9x9a i37x1 rfl
                        refine g_iconst 0 17 (gd rfl) rfl rfl ?_
                        refine g_ireturn (gd rfl) rfl (nb01 (in_w 0 1 (in_c 0 rfl) rfl)) (hp37 _ _ ?_)
                        show GG _ _ _ _ _ _ _ _ [.int (Int32.ofInt 0)] _ _ _
                        refine g_if_eq 43 47 (gd rfl) rfl rfl (fun c40 => ?_) (fun c40 => ?_)
                        · skip
                          exact gg_w (by omega) (gg_f (gf_cons rfl (gf_cons rfl (gf_cons rfl (gf_cons rfl (gf_cons rfl gf_nil))))) (ct47 s  hI fr_rf ))
                        · skip
                          exact zn_ne c40 (in_c 0 rfl) rfl
                      · skip
                        have i37x9 := r_lt1 0 31 c37x9 i37x1 i9x9a rfl
                        refine g_iconst 1 13 (gd rfl) rfl rfl (g_goto 17 (gd rfl) rfl ?_)
                        refine g_ireturn (gd rfl) rfl (nb01 (in_w 0 1 (in_c 1 rfl) rfl)) (hp37 _ _ ?_)
                        show GG _ _ _ _ _ _ _ _ [.int (Int32.ofInt 1)] _ _ _
                        refine g_if_eq 43 47 (gd rfl) rfl rfl (fun c40 => ?_) (fun c40 => ?_)
                        · skip
                          exact zn_eq c40 (in_c 1 rfl) rfl
                        · skip
                          refine g_iconst 1 44 (gd rfl) rfl rfl (g_goto 48 (gd rfl) rfl (g_thr (E := am_IA) (y := yX11_allow) 51 (gd rfl) rfl rfl (Or.inl ⟨rfl, rfl, rfl⟩) (by omega) (Nat.le_of_ble_eq_true rfl) (Nat.le_of_ble_eq_true rfl) (Nat.le_of_ble_eq_true rfl) (fun c48 => ?_) (fun c48 => ?_)))
                          · skip
                            refine g_iload_n 52 (gd rfl) rfl rfl (g_if_ne 55 67 (gd rfl) rfl rfl (fun c52 => ?_) (fun c52 => ?_))
                            · skip
                              have i52 := z_ne 1 2 c52 i30 rfl
                              refine g_iload_n 68 (gd rfl) rfl rfl (g_iconst 1 69 (gd rfl) rfl rfl (g_cmp_ne 72 87 (gd rfl) rfl rfl (fun c69 => ?_) (fun c69 => ?_)))
                              · skip
                                have i69 := r_ne1 2 2 c69 i52 (in_c 1 rfl) rfl
                                refine g_aload_n 88 (gd rfl) rfl rfl (g_getA (q2 := 49) 91 (gd rfl) rfl rfl rfl rfl (g_aload 93 (gd rfl) rfl rfl (g_iload_n 94 (gd rfl) rfl rfl (g_iload_n 95 (gd rfl) rfl rfl (g_iload 97 (gd rfl) rfl rfl (g_callv (X := _) (As := [.ref (A 2), .int x1, .int x2, .int x4]) (r := []) (b := A 49) (q := 49) 100 (gd rfl) rfl rfl rfl rfl rfl (ww_o rfl) (Nat.le_of_ble_eq_true rfl) (Nat.zero_le _) (Nat.zero_le _) (k_203_49_2 (by omega) hI (in_w 0 31 i9x9 rfl) (in_w 0 31 i18x9 rfl) (in_w 0 31 i37x9 rfl)) (fun e u h => h) (fun v u h => ?_)))))))
                                obtain ⟨s97, hI97, hF97, z97, rfl, rfl, i97⟩ := h
                                show GG _ _ _ _ _ _ _ _ [.int z97] _ _ _
                                exact g_ireturn (gd rfl) rfl rfl (hP _ _ ⟨s97, hI97, (fr_tr rfl fr_rf hF97), z97, rfl, rfl, in_w (-2147483648) 2147483647 i97 rfl⟩)
                              · skip
                                have i69 := r_eq1 1 1 c69 i52 (in_c 1 rfl) rfl
                                refine g_aload_n 73 (gd rfl) rfl rfl (g_getA (q2 := 49) 76 (gd rfl) rfl rfl rfl rfl (g_aload 78 (gd rfl) rfl rfl (g_iload_n 79 (gd rfl) rfl rfl (g_iload_n 80 (gd rfl) rfl rfl (g_iload_n 81 (gd rfl) rfl rfl (g_callv (X := _) (As := [.ref (A 2), .int x1, .int x2, .int x1]) (r := []) (b := A 49) (q := 49) 84 (gd rfl) rfl rfl rfl rfl rfl (ww_o rfl) (Nat.le_of_ble_eq_true rfl) (Nat.zero_le _) (Nat.zero_le _) (k_203_49_2 (by omega) hI (in_w 0 31 i9x9 rfl) (in_w 0 31 i18x9 rfl) (in_w 0 31 i9x9 rfl)) (fun e u h => h) (fun v u h => ?_)))))))
                                obtain ⟨s81, hI81, hF81, z81, rfl, rfl, i81⟩ := h
                                show GG _ _ _ _ _ _ _ _ [.int z81] _ _ _
                                exact g_goto 100 (gd rfl) rfl (g_ireturn (gd rfl) rfl rfl (hP _ _ ⟨s81, hI81, (fr_tr rfl fr_rf hF81), z81, rfl, rfl, in_w (-2147483648) 2147483647 i81 rfl⟩))
                            · skip
                              have i52 := z_eq 0 0 c52 i30 rfl
                              refine g_aload_n 56 (gd rfl) rfl rfl (g_getA (q2 := 49) 59 (gd rfl) rfl rfl rfl rfl (g_aload 61 (gd rfl) rfl rfl (g_iload_n 62 (gd rfl) rfl rfl (g_iload_n 63 (gd rfl) rfl rfl ?_))))
                              refine g_callv (X := _) (As := [.ref (A 2), .int x1, .int x2]) (r := []) (b := A 49) (q := 49) 66 (gd rfl) rfl rfl rfl rfl rfl (ww_o rfl) (Nat.le_of_ble_eq_true rfl) (mc := 0) (ms := 0) (Nat.zero_le _) (Nat.zero_le _) (P := fun v u => _) ?_ (fun e u h => h) (fun v u h => h)
                              intro po63 xx63 hp63 hx63
                              refine g_enter2 (k := 202) (N := 300) (by omega) rfl (Nat.le_of_ble_eq_true rfl) (g_aload_n 1 (gd rfl) rfl rfl (g_aload_n 2 (gd rfl) rfl rfl (g_iload_n 3 (gd rfl) rfl rfl (g_callv (X := _) (As := [.ref (A 2), .int x1]) (r := []) (b := A 49) (q := 49) 6 (gd rfl) rfl rfl rfl rfl rfl (ww_o rfl) (Nat.le_of_ble_eq_true rfl) (Nat.zero_le _) (Nat.zero_le _) (k_204_49_2 (by omega) hI (in_w 0 31 i9x9 rfl)) (fun e u h => h) (fun v u h => ?_)))))
                              obtain ⟨s63x3, hI63x3, hF63x3, rfl, rfl⟩ := h
                              show GG _ _ _ _ _ _ _ _ [] _ _ _
                              refine g_aload_n 7 (gd rfl) rfl rfl (g_getA (q2 := 52) 10 (gd rfl) rfl rfl rfl rfl (g_iload_n 11 (gd rfl) rfl rfl (g_iaload 12 (gd rfl) rfl (n := 32) rfl (in_ix i18x9 rfl) (fun z63x11 e63x11 => ?_))))
                              refine g_ireturn (gd rfl) rfl rfl (hp63 _ _ ?_)
                              show GG _ _ _ _ _ _ _ _ [.int z63x11] _ _ _
                              exact g_ireturn (gd rfl) rfl rfl (hP _ _ ⟨s63x3, hI63x3, (fr_tr rfl fr_rf hF63x3), z63x11, rfl, rfl, in_w (-2147483648) 2147483647 (i_rng z63x11) rfl⟩)
                          · skip
                            exact zn_eq c48 (in_c 1 rfl) rfl

def fm_253_0 : FM := ([97], [95, 96, 98], [(46, 2), (46, 6), (46, 7)], [(94, 0), (94, 1)])
/-- GraphHouse.pattern -/
theorem k_253_0 {Z : AmZ} {A : Nat → Nat} {s : GS} {ex : va_W} {d : Nat} {X : AmX}  (hd : 7 ≤ d) (hI : Inv s)  : GC Z d 253 [.ref (A 0)] (WW Z A s ++ ex) 3 18 (fun v u => ∃ t : GS, Inv t ∧ Fr fm_253_0 s t ∧ ∃ z : Int32, v = some (.int z) ∧ u = WW Z A t ++ ex ∧ In z (-4) 0) X := by
  intro post xp hP hX
  obtain ⟨u_46_1, e_46_1⟩ : ∃ w, w = s.2.2.1 46 1 := ⟨_, rfl⟩
  have ro_46_1 := inv_F hI 0 1000 rfl e_46_1
  refine g_enter2 (k := 253) (N := 900) (by omega) rfl (Nat.le_of_ble_eq_true rfl) (g_aload_n 1 (gd rfl) rfl rfl (g_getA (q2 := 94) 4 (gd rfl) rfl rfl rfl rfl (g_aload_n 5 (gd rfl) rfl rfl (g_getA (q2 := 46) 8 (gd rfl) rfl rfl rfl rfl ?_))))
  refine g_callv (X := _) (As := [.ref (A 46)]) (r := []) (b := A 94) (q := 94) 11 (gd rfl) rfl rfl rfl rfl rfl (ww_o rfl) (Nat.le_of_ble_eq_true rfl) (mc := 0) (ms := 0) (Nat.zero_le _) (Nat.zero_le _) (P := fun v u => _) ?_ (fun e u h => h) (fun v u h => h)
  intro po8 xx8 hp8 hx8
  refine g_enter2 (k := 154) (N := 300) (by omega) rfl (Nat.le_of_ble_eq_true rfl) (g_aload_n 1 (gd rfl) rfl rfl ?_)
  refine g_callv (X := _) (As := []) (r := []) (b := A 46) (q := 46) 4 (gd rfl) rfl rfl rfl rfl rfl (ww_o rfl) (Nat.le_of_ble_eq_true rfl) (mc := 0) (ms := 0) (Nat.zero_le _) (Nat.zero_le _) (P := fun v u => _) ?_ (fun e u h => h) (fun v u h => h)
  intro po8x1 xx8x1 hp8x1 hx8x1
  refine g_enter2 (k := 167) (N := 300) (by omega) rfl (Nat.le_of_ble_eq_true rfl) (g_aload_n 1 (gd rfl) rfl rfl (g_iconst 0 2 (gd rfl) rfl rfl (g_putI 5 (gd rfl) rfl rfl rfl rfl (have hI8x1x2 := inv_sF (q := 46) (j := 2) hI rfl (in_w 0 1000 (in_c 0 rfl) rfl); g_aload_n 6 (gd rfl) rfl rfl (g_iconst (-1) 7 (gd rfl) rfl rfl (g_putI 10 (gd rfl) rfl rfl rfl rfl (have hI8x1x7 := inv_sF (q := 46) (j := 6) hI8x1x2 rfl (in_w (-1) 5 (in_c (-1) rfl) rfl); g_aload_n 11 (gd rfl) rfl rfl (g_iconst (-1) 12 (gd rfl) rfl rfl (g_putI 15 (gd rfl) rfl rfl rfl rfl ?_)))))))))
  have hI8x1x12 := inv_sF (q := 46) (j := 7) hI8x1x7 rfl (in_w (-1) 1000 (in_c (-1) rfl) rfl)
  refine g_return (gd rfl) rfl (hp8x1 _ _ ?_)
  show GG _ _ _ _ _ _ _ _ [] _ _ _
  refine g_aload_n 5 (gd rfl) rfl rfl (g_getIv (y := u_46_1) 8 (gd rfl) rfl rfl rfl (sF_ne rfl (sF_ne rfl (sF_ne rfl (e_46_1)))) (g_bipush 60 10 (gd rfl) rfl rfl (g_cmp_le 13 21 (gd rfl) rfl rfl (fun c8x10 => ?_) (fun c8x10 => ?_))))
  · skip
    have i8x10 := r_le1 0 60 c8x10 ro_46_1 (in_c 60 rfl) rfl
    refine g_aload_n 22 (gd rfl) rfl rfl (g_calls (As := [.ref (A 46)]) (r := []) 25 (gd rfl) rfl rfl rfl rfl rfl (Nat.le_of_ble_eq_true rfl) (Nat.zero_le _) (Nat.zero_le _) (k_155_46 (by omega) hI8x1x12 ) (fun v u h => ?_))
    obtain ⟨s8x22, hI8x22, hF8x22, z8x22, rfl, rfl, i8x22⟩ := h
    show GG _ _ _ _ _ _ _ _ [.int z8x22] _ _ _
    refine g_if_ne 28 30 (gd rfl) rfl rfl (fun c8x25 => ?_) (fun c8x25 => ?_)
    · skip
      have i8x25 := z_ne 1 1 c8x25 i8x22 rfl
      refine g_aload_n 31 (gd rfl) rfl rfl (g_aload_n 32 (gd rfl) rfl rfl (have v8x32 : u_46_1 = s8x22.2.2.1 46 1 := fr_F (s := (sF (sF (sF s 46 2 (Int32.ofInt 0)) 46 6 (Int32.ofInt (-1))) 46 7 (Int32.ofInt (-1)))) (sF_ne rfl (sF_ne rfl (sF_ne rfl (e_46_1)))) hF8x22 rfl; g_callv (X := _) (As := [.ref (A 46)]) (r := []) (b := A 94) (q := 94) 35 (gd rfl) rfl rfl rfl rfl rfl (ww_o rfl) (Nat.le_of_ble_eq_true rfl) (Nat.zero_le _) (Nat.zero_le _) (k_158_94_46 (by omega) hI8x22 v8x32 (in_w 0 60 i8x10 rfl)) (fun e u h => h) (fun v u h => ?_)))
      obtain ⟨s8x32, hI8x32, hF8x32, rfl, rfl⟩ := h
      show GG _ _ _ _ _ _ _ _ [] _ _ _
      refine g_iconst 1 36 (gd rfl) rfl rfl ?_
      refine g_ireturn (gd rfl) rfl (nb01 (in_w 0 1 (in_c 1 rfl) rfl)) (hp8 _ _ ?_)
      show GG _ _ _ _ _ _ _ _ [.int (Int32.ofInt 1)] _ _ _
      refine g_if_eq 14 18 (gd rfl) rfl rfl (fun c11 => ?_) (fun c11 => ?_)
      · skip
        exact zn_eq c11 (in_c 1 rfl) rfl
      · skip
        exact g_iconst 0 15 (gd rfl) rfl rfl (g_goto 20 (gd rfl) rfl (g_ireturn (gd rfl) rfl rfl (hP _ _ ⟨s8x32, hI8x32, (fr_tr rfl (fr_tr rfl (fr_sF rfl (fr_sF rfl (fr_sF rfl fr_rf))) hF8x22) hF8x32), (Int32.ofInt 0), rfl, rfl, in_w (-4) 0 (in_c 0 rfl) rfl⟩)))
    · skip
      have i8x25 := z_eq 0 0 c8x25 i8x22 rfl
      refine g_iconst 0 29 (gd rfl) rfl rfl ?_
      refine g_ireturn (gd rfl) rfl (nb01 (in_w 0 1 (in_c 0 rfl) rfl)) (hp8 _ _ ?_)
      show GG _ _ _ _ _ _ _ _ [.int (Int32.ofInt 0)] _ _ _
      refine g_if_eq 14 18 (gd rfl) rfl rfl (fun c11 => ?_) (fun c11 => ?_)
      · skip
        exact g_bipush (-4) 20 (gd rfl) rfl rfl (g_ireturn (gd rfl) rfl rfl (hP _ _ ⟨s8x22, hI8x22, (fr_tr rfl (fr_sF rfl (fr_sF rfl (fr_sF rfl fr_rf))) hF8x22), (Int32.ofInt (-4)), rfl, rfl, in_w (-4) 0 (in_c (-4) rfl) rfl⟩))
      · skip
        exact zn_ne c11 (in_c 0 rfl) rfl
  · skip
    have i8x10 := r_lt2 61 1000 c8x10 (in_c 60 rfl) ro_46_1 rfl
    refine g_aload_n 14 (gd rfl) rfl rfl (g_iconst 2 15 (gd rfl) rfl rfl (g_bipush 60 17 (gd rfl) rfl rfl (g_callv (X := _) (As := [.int (Int32.ofInt 2), .int (Int32.ofInt 60)]) (r := []) (b := A 46) (q := 46) 20 (gd rfl) rfl rfl rfl rfl rfl (ww_o rfl) (Nat.le_of_ble_eq_true rfl) (Nat.zero_le _) (Nat.zero_le _) (k_168_46 (by omega) hI8x1x12 (in_w 1 5 (in_c 2 rfl) rfl) (in_w 0 1000 (in_c 60 rfl) rfl)) (fun e u h => h) (fun v u h => ?_))))
    obtain ⟨s8x17, hI8x17, hF8x17, z8x17, rfl, rfl, i8x17⟩ := h
    show GG _ _ _ _ _ _ _ _ [.int z8x17] _ _ _
    refine g_ireturn (gd rfl) rfl (nb01 (in_w 0 1 i8x17 rfl)) (hp8 _ _ ?_)
    show GG _ _ _ _ _ _ _ _ [.int z8x17] _ _ _
    refine g_if_eq 14 18 (gd rfl) rfl rfl (fun c11 => ?_) (fun c11 => ?_)
    · skip
      exact g_bipush (-4) 20 (gd rfl) rfl rfl (g_ireturn (gd rfl) rfl rfl (hP _ _ ⟨s8x17, hI8x17, (fr_tr rfl (fr_sF rfl (fr_sF rfl (fr_sF rfl fr_rf))) hF8x17), (Int32.ofInt (-4)), rfl, rfl, in_w (-4) 0 (in_c (-4) rfl) rfl⟩))
    · skip
      exact zn_ne c11 i8x17 rfl

def fm_274 : FM := ([110, 111, 112, 113, 114, 115, 116, 117, 118, 119, 120, 121, 122, 123, 124], [], [(109, 9), (109, 18), (109, 19), (109, 20)], [])
def fm_281 : FM := ([110, 111, 112, 113, 114, 115, 116, 117, 118, 119, 120, 121, 122, 123, 124], [], [(109, 0), (109, 9), (109, 18), (109, 19), (109, 20)], [])