/-! methods, by vc.py -/
/-- GraphHouse$Flows.nearestLack -/
theorem k_85_65 {Z : AmZ} {A : Nat → Nat} {s : GS} {ex : va_W} {d : Nat} {X : AmX} {x1 : Int32} {x2 : Int32} (hd : 3 ≤ d) (hI : Inv s) (h1 : In x1 0 32) (h2 : In x2 1 65536) : GC Z d 85 [.ref (A 65), .int x1, .int x2] (WW Z A s ++ ex) 0 0 (fun v u => ∃ t : GS, Inv t ∧ ∃ z : Int32, v = some (.int z) ∧ u = WW Z A t ++ ex ∧ In z (-1) 31) X := by
  intro post xp hP hX
  have ct54 : ∀ (k54 : Nat) (s : GS) (y54_3 : Int32) (y54_4 : Int32), Inv s → In y54_3 (-1) 31 → In y54_4 0 32 → 32 - (y54_4).toInt < (k54 : Int) → GG Z (d - 1) 85 post (gx xp) (1 + k54 * 900) 54 (fun j => xlook j [(0, .ref (A 65)), (1, .int x1), (2, .int x2), (3, .int y54_3), (4, .int y54_4)]) [] (WW Z A s ++ ex) 0 0 := by
    intro k54
    induction k54 with
    | zero => intro s y54_3 y54_4 hI j54_3 j54_4 mm54; exact m_no mm54 j54_4 rfl
    | succ k54 ih54 =>
      intro s y54_3 y54_4 hI j54_3 j54_4 mm54
      refine gg_w (M := 1 + k54 * 900 + 900) (by omega) ?_
      refine g_iload 56 (gd rfl) rfl rfl ?_
      refine g_iload_n 57 (gd rfl) rfl rfl ?_
      refine g_cmp_ge 60 117 (gd rfl) rfl rfl (fun c1 => ?_) (fun c1 => ?_)
      · skip
        refine g_iload_n 118 (gd rfl) rfl rfl ?_
        exact g_ireturn (gd rfl) rfl rfl (hP _ _ ⟨s, hI, y54_3, rfl, rfl, in_w (-1) 31 j54_3 rfl⟩)
      · skip
        have i2 := r_lt1 0 31 c1 j54_4 h1 rfl
        have i3 := r_lt2 1 32 c1 j54_4 h1 rfl
        refine g_aload_n 61 (gd rfl) rfl rfl ?_
        refine g_getA (q2 := 74) 64 (gd rfl) rfl rfl rfl rfl rfl ?_
        refine g_iload 66 (gd rfl) rfl rfl ?_
        refine g_iaload 67 (gd rfl) rfl (n := 32) rfl (in_ix i2 rfl) (fun z4 e5 => ?_)
        refine g_iload_n 68 (gd rfl) rfl rfl ?_
        refine g_ineg 69 (gd rfl) rfl (fun z6 e7 => ?_)
        have i8 := in_neg (-65536) (-1) e7 h2 rfl
        refine g_cmp_gt 72 111 (gd rfl) rfl rfl (fun c9 => ?_) (fun c9 => ?_)
        · skip
          have i10 := r_lt2 (-65535) 2147483647 c9 i8 (i_rng z4) rfl
          refine g_iinc 114 (gd rfl) rfl rfl (Nat.le_of_ble_eq_true rfl) (fun z11 e12 => ?_)
          have i13 := in_add 1 32 e12 i2 (in_c 1 rfl) rfl rfl
          refine g_goto 54 (gd rfl) rfl ?_
          exact gg_w (by omega) (gg_f (gf_cons rfl (gf_cons rfl (gf_cons rfl (gf_cons rfl (gf_cons rfl gf_nil))))) (ih54 s y54_3 z11 hI (in_w (-1) 31 j54_3 rfl) (in_w 0 32 i13 rfl) (m_up mm54 (t_add e12 i2 (in_c 1 rfl) rfl) (in_w 1 1 (in_c 1 rfl) rfl))))
        · skip
          have i14 := r_le1 (-2147483648) (-1) c9 (i_rng z4) i8 rfl
          refine g_aload_n 73 (gd rfl) rfl rfl ?_
          refine g_getA (q2 := 75) 76 (gd rfl) rfl rfl rfl rfl rfl ?_
          refine g_iload 78 (gd rfl) rfl rfl ?_
          refine g_laload 79 (gd rfl) rfl (n := 32) rfl (in_ix i2 rfl) (fun z15 e16 => ?_)
          refine g_ldc2_w 9223372036854775807 82 (gd rfl) rfl rfl ?_
          refine g_lcmp 83 (gd rfl) rfl (fun z17 e18 => ?_)
          have i19 := lc_in e18
          refine g_if_eq 86 111 (gd rfl) rfl rfl (fun c20 => ?_) (fun c20 => ?_)
          · skip
            have i21 := z_eq 0 0 c20 i19 rfl
            have c22 := lc_eq e18 c20
            have i23 := lr_eq1 9223372036854775807 9223372036854775807 c22 (l_rng z15) (l_c 9223372036854775807 rfl) rfl
            refine g_iinc 114 (gd rfl) rfl rfl (Nat.le_of_ble_eq_true rfl) (fun z24 e25 => ?_)
            have i26 := in_add 1 32 e25 i2 (in_c 1 rfl) rfl rfl
            refine g_goto 54 (gd rfl) rfl ?_
            exact gg_w (by omega) (gg_f (gf_cons rfl (gf_cons rfl (gf_cons rfl (gf_cons rfl (gf_cons rfl gf_nil))))) (ih54 s y54_3 z24 hI (in_w (-1) 31 j54_3 rfl) (in_w 0 32 i26 rfl) (m_up mm54 (t_add e25 i2 (in_c 1 rfl) rfl) (in_w 1 1 (in_c 1 rfl) rfl))))
          · skip
            have c27 := lc_ne e18 c20
            have i28 := lr_ne1 (-9223372036854775808) 9223372036854775806 c27 (l_rng z15) (l_c 9223372036854775807 rfl) rfl
            refine g_iload_n 87 (gd rfl) rfl rfl ?_
            refine g_iconst (-1) 88 (gd rfl) rfl rfl ?_
            refine g_cmp_eq 91 108 (gd rfl) rfl rfl (fun c29 => ?_) (fun c29 => ?_)
            · skip
              have i30 := r_eq1 (-1) (-1) c29 j54_3 (in_c (-1) rfl) rfl
              refine g_iload 110 (gd rfl) rfl rfl ?_
              refine g_istore_n 111 (gd rfl) rfl (Nat.le_of_ble_eq_true rfl) ?_
              refine g_iinc 114 (gd rfl) rfl rfl (Nat.le_of_ble_eq_true rfl) (fun z31 e32 => ?_)
              have i33 := in_add 1 32 e32 i2 (in_c 1 rfl) rfl rfl
              refine g_goto 54 (gd rfl) rfl ?_
              exact gg_w (by omega) (gg_f (gf_cons rfl (gf_cons rfl (gf_cons rfl (gf_cons rfl (gf_cons rfl gf_nil))))) (ih54 s y54_4 z31 hI (in_w (-1) 31 i2 rfl) (in_w 0 32 i33 rfl) (m_up mm54 (t_add e32 i2 (in_c 1 rfl) rfl) (in_w 1 1 (in_c 1 rfl) rfl))))
            · skip
              have i34 := r_ne1 0 31 c29 j54_3 (in_c (-1) rfl) rfl
              refine g_aload_n 92 (gd rfl) rfl rfl ?_
              refine g_getA (q2 := 75) 95 (gd rfl) rfl rfl rfl rfl rfl ?_
              refine g_iload 97 (gd rfl) rfl rfl ?_
              refine g_laload 98 (gd rfl) rfl (n := 32) rfl (in_ix i2 rfl) (fun z35 e36 => ?_)
              refine g_aload_n 99 (gd rfl) rfl rfl ?_
              refine g_getA (q2 := 75) 102 (gd rfl) rfl rfl rfl rfl rfl ?_
              refine g_iload_n 103 (gd rfl) rfl rfl ?_
              refine g_laload 104 (gd rfl) rfl (n := 32) rfl (in_ix i34 rfl) (fun z37 e38 => ?_)
              refine g_lcmp 105 (gd rfl) rfl (fun z39 e40 => ?_)
              have i41 := lc_in e40
              refine g_if_ge 108 111 (gd rfl) rfl rfl (fun c42 => ?_) (fun c42 => ?_)
              · skip
                have i43 := z_ge 0 1 c42 i41 rfl
                have c44 := lc_ge e40 c42
                refine g_iinc 114 (gd rfl) rfl rfl (Nat.le_of_ble_eq_true rfl) (fun z45 e46 => ?_)
                have i47 := in_add 1 32 e46 i2 (in_c 1 rfl) rfl rfl
                refine g_goto 54 (gd rfl) rfl ?_
                exact gg_w (by omega) (gg_f (gf_cons rfl (gf_cons rfl (gf_cons rfl (gf_cons rfl (gf_cons rfl gf_nil))))) (ih54 s y54_3 z45 hI (in_w (-1) 31 i34 rfl) (in_w 0 32 i47 rfl) (m_up mm54 (t_add e46 i2 (in_c 1 rfl) rfl) (in_w 1 1 (in_c 1 rfl) rfl))))
              · skip
                have i48 := z_lt (-1) (-1) c42 i41 rfl
                have c49 := lc_lt e40 c42
                have i50 := lr_lt1 (-9223372036854775808) 9223372036854775806 c49 (l_rng z35) (l_rng z37) rfl
                have i51 := lr_lt2 (-9223372036854775807) 9223372036854775807 c49 (l_rng z35) (l_rng z37) rfl
                refine g_iload 110 (gd rfl) rfl rfl ?_
                refine g_istore_n 111 (gd rfl) rfl (Nat.le_of_ble_eq_true rfl) ?_
                refine g_iinc 114 (gd rfl) rfl rfl (Nat.le_of_ble_eq_true rfl) (fun z52 e53 => ?_)
                have i54 := in_add 1 32 e53 i2 (in_c 1 rfl) rfl rfl
                refine g_goto 54 (gd rfl) rfl ?_
                exact gg_w (by omega) (gg_f (gf_cons rfl (gf_cons rfl (gf_cons rfl (gf_cons rfl (gf_cons rfl gf_nil))))) (ih54 s y54_4 z52 hI (in_w (-1) 31 i2 rfl) (in_w 0 32 i54 rfl) (m_up mm54 (t_add e53 i2 (in_c 1 rfl) rfl) (in_w 1 1 (in_c 1 rfl) rfl))))
  have ct2 : ∀ (k2 : Nat) (s : GS) (y2_3 : Int32), Inv s → In y2_3 0 32 → 32 - (y2_3).toInt < (k2 : Int) → GG Z (d - 1) 85 post (gx xp) (29702 + k2 * 900) 2 (fun j => xlook j [(0, .ref (A 65)), (1, .int x1), (2, .int x2), (3, .int y2_3)]) [] (WW Z A s ++ ex) 0 0 := by
    intro k2
    induction k2 with
    | zero => intro s y2_3 hI j2_3 mm2; exact m_no mm2 j2_3 rfl
    | succ k2 ih2 =>
      intro s y2_3 hI j2_3 mm2
      refine gg_w (M := 29702 + k2 * 900 + 900) (by omega) ?_
      refine g_iload_n 3 (gd rfl) rfl rfl ?_
      refine g_iload_n 4 (gd rfl) rfl rfl ?_
      refine g_cmp_ge 7 43 (gd rfl) rfl rfl (fun c55 => ?_) (fun c55 => ?_)
      · skip
        refine g_aload_n 44 (gd rfl) rfl rfl ?_
        refine g_iload_n 45 (gd rfl) rfl rfl ?_
        refine g_iload_n 46 (gd rfl) rfl rfl ?_
        refine g_callv (X := _) (As := [.int x1, .int x2]) (r := []) (b := A 65) (q := 65) 49 (gd rfl) rfl rfl rfl rfl rfl (ww_o rfl) (Nat.le_of_ble_eq_true rfl) (Nat.zero_le _) (Nat.zero_le _) (k_86_65 (by omega) hI (in_w 0 32 h1 rfl) (in_w 1 1048576 h2 rfl)) (fun e u h => h) (fun v u h => ?_)
        obtain ⟨s56, hI57, rfl, rfl⟩ := h
        show GG _ _ _ _ _ _ _ _ [] _ _ _
        refine g_iconst (-1) 50 (gd rfl) rfl rfl ?_
        refine g_istore_n 51 (gd rfl) rfl (Nat.le_of_ble_eq_true rfl) ?_
        refine g_iconst 0 52 (gd rfl) rfl rfl ?_
        refine g_istore 54 (gd rfl) rfl (Nat.le_of_ble_eq_true rfl) ?_
        exact gg_w (by omega) (gg_f (gf_cons rfl (gf_cons rfl (gf_cons rfl (gf_cons rfl (gf_cons rfl gf_nil))))) (ct54 33 s56 (Int32.ofInt (-1)) (Int32.ofInt 0) hI57 (in_w (-1) 31 (in_c (-1) rfl) rfl) (in_w 0 32 (in_c 0 rfl) rfl) (m_in 33 (in_w 0 32 (in_c 0 rfl) rfl) rfl)))
      · skip
        have i60 := r_lt1 0 31 c55 j2_3 h1 rfl
        have i61 := r_lt2 1 32 c55 j2_3 h1 rfl
        refine g_aload_n 8 (gd rfl) rfl rfl ?_
        refine g_getA (q2 := 75) 11 (gd rfl) rfl rfl rfl rfl rfl ?_
        refine g_iload_n 12 (gd rfl) rfl rfl ?_
        refine g_aload_n 13 (gd rfl) rfl rfl ?_
        refine g_getA (q2 := 74) 16 (gd rfl) rfl rfl rfl rfl rfl ?_
        refine g_iload_n 17 (gd rfl) rfl rfl ?_
        refine g_iaload 18 (gd rfl) rfl (n := 32) rfl (in_ix i60 rfl) (fun z62 e63 => ?_)
        refine g_iload_n 19 (gd rfl) rfl rfl ?_
        refine g_cmp_lt 22 26 (gd rfl) rfl rfl (fun c64 => ?_) (fun c64 => ?_)
        · skip
          have i65 := r_lt1 (-2147483648) 65535 c64 (i_rng z62) h2 rfl
          refine g_ldc2_w 9223372036854775807 29 (gd rfl) rfl rfl ?_
          refine g_lastore 30 (gd rfl) rfl (n := 32) rfl (in_ix i60 rfl) ?_
          have hI66 := inv_sL (q := 75) (j := y2_3.toNatClampNeg) (x := (Int64.ofInt 9223372036854775807)) hI
          refine g_aload_n 31 (gd rfl) rfl rfl ?_
          refine g_getA (q2 := 68) 34 (gd rfl) rfl rfl rfl rfl rfl ?_
          refine g_iload_n 35 (gd rfl) rfl rfl ?_
          refine g_iconst (-1) 36 (gd rfl) rfl rfl ?_
          refine g_iastore 37 (gd rfl) rfl (n := 32) rfl (in_ix i60 rfl) ?_
          have hI67 := inv_sI (q := 68) (j := y2_3.toNatClampNeg) hI66 rfl (in_w (-1) 319 (in_c (-1) rfl) rfl)
          refine g_iinc 40 (gd rfl) rfl rfl (Nat.le_of_ble_eq_true rfl) (fun z68 e69 => ?_)
          have i70 := in_add 1 32 e69 i60 (in_c 1 rfl) rfl rfl
          refine g_goto 2 (gd rfl) rfl ?_
          exact gg_w (by omega) (gg_f (gf_cons rfl (gf_cons rfl (gf_cons rfl (gf_cons rfl gf_nil)))) (ih2 (sI (sL s 75 y2_3.toNatClampNeg (Int64.ofInt 9223372036854775807)) 68 y2_3.toNatClampNeg (Int32.ofInt (-1))) z68 hI67 (in_w 0 32 i70 rfl) (m_up mm2 (t_add e69 i60 (in_c 1 rfl) rfl) (in_w 1 1 (in_c 1 rfl) rfl))))
        · skip
          have i71 := r_le2 1 2147483647 c64 h2 (i_rng z62) rfl
          refine g_lconst 0 23 (gd rfl) rfl rfl ?_
          refine g_goto 29 (gd rfl) rfl ?_
          refine g_lastore 30 (gd rfl) rfl (n := 32) rfl (in_ix i60 rfl) ?_
          have hI72 := inv_sL (q := 75) (j := y2_3.toNatClampNeg) (x := (Int64.ofInt 0)) hI
          refine g_aload_n 31 (gd rfl) rfl rfl ?_
          refine g_getA (q2 := 68) 34 (gd rfl) rfl rfl rfl rfl rfl ?_
          refine g_iload_n 35 (gd rfl) rfl rfl ?_
          refine g_iconst (-1) 36 (gd rfl) rfl rfl ?_
          refine g_iastore 37 (gd rfl) rfl (n := 32) rfl (in_ix i60 rfl) ?_
          have hI73 := inv_sI (q := 68) (j := y2_3.toNatClampNeg) hI72 rfl (in_w (-1) 319 (in_c (-1) rfl) rfl)
          refine g_iinc 40 (gd rfl) rfl rfl (Nat.le_of_ble_eq_true rfl) (fun z74 e75 => ?_)
          have i76 := in_add 1 32 e75 i60 (in_c 1 rfl) rfl rfl
          refine g_goto 2 (gd rfl) rfl ?_
          exact gg_w (by omega) (gg_f (gf_cons rfl (gf_cons rfl (gf_cons rfl (gf_cons rfl gf_nil)))) (ih2 (sI (sL s 75 y2_3.toNatClampNeg (Int64.ofInt 0)) 68 y2_3.toNatClampNeg (Int32.ofInt (-1))) z74 hI73 (in_w 0 32 i76 rfl) (m_up mm2 (t_add e75 i60 (in_c 1 rfl) rfl) (in_w 1 1 (in_c 1 rfl) rfl))))
  refine g_enter2 (k := 85) (N := 60302) (by omega) rfl (Nat.le_of_ble_eq_true rfl) ?_
  refine g_iconst 0 1 (gd rfl) rfl rfl ?_
  refine g_istore_n 2 (gd rfl) rfl (Nat.le_of_ble_eq_true rfl) ?_
  exact gg_w (by omega) (gg_f (gf_cons rfl (gf_cons rfl (gf_cons rfl (gf_cons rfl gf_nil)))) (ct2 33 s (Int32.ofInt 0) hI (in_w 0 32 (in_c 0 rfl) rfl) (m_in 33 (in_w 0 32 (in_c 0 rfl) rfl) rfl)))
