/-! methods, by vc.py -/
/-- GraphHouse$Flows.layArcs -/
theorem k_80_65_2 {Z : AmZ} {A : Nat → Nat} {s : GS} {ex : va_W} {d : Nat} {X : AmX}  (hd : 3 ≤ d) (hI : Inv s)  : GC Z d 80 [.ref (A 65), .ref (A 2)] (WW Z A s ++ ex) 0 0 (fun v u => ∃ t : GS, Inv t ∧ ∃ z : Int64, v = some (.long z) ∧ u = WW Z A t ++ ex) X := by
  intro post xp hP hX
  have ct18 : ∀ (k18 : Nat) (s : GS) (y18_2 : Int64) (y18_4 : Int32), Inv s → In y18_4 0 160 → 160 - (y18_4).toInt < (k18 : Int) → GG Z (d - 1) 80 post (gx xp) (1 + k18 * 900) 18 (fun j => xlook j [(0, .ref (A 65)), (1, .ref (A 2)), (2, .long y18_2), (4, .int y18_4)]) [] (WW Z A s ++ ex) 0 0 := by
    intro k18
    induction k18 with
    | zero => intro s y18_2 y18_4 hI j18_4 mm18; exact m_no mm18 j18_4 rfl
    | succ k18 ih18 =>
      intro s y18_2 y18_4 hI j18_4 mm18
      refine gg_w (M := 1 + k18 * 900 + 900) (by omega) ?_
      refine g_iload 20 (gd rfl) rfl rfl ?_
      refine g_aload_n 21 (gd rfl) rfl rfl ?_
      refine g_getI 24 (gd rfl) rfl rfl rfl (fun z1 e2 => ?_)
      have i3 := inv_F hI 0 160 rfl e2
      refine g_cmp_ge 27 118 (gd rfl) rfl rfl (fun c4 => ?_) (fun c4 => ?_)
      · skip
        refine g_lload_n 119 (gd rfl) rfl rfl ?_
        exact g_lreturn (gd rfl) rfl (hP _ _ ⟨s, hI, y18_2, rfl, rfl⟩)
      · skip
        have i5 := r_lt1 0 159 c4 j18_4 i3 rfl
        have i6 := r_lt2 1 160 c4 j18_4 i3 rfl
        refine g_aload_n 28 (gd rfl) rfl rfl ?_
        refine g_iload 30 (gd rfl) rfl rfl ?_
        refine g_callv (X := _) (As := [.int y18_4]) (r := []) (b := A 2) (q := 2) 33 (gd rfl) rfl rfl rfl rfl rfl (ww_o rfl) (Nat.le_of_ble_eq_true rfl) (mc := 0) (ms := 0) (Nat.zero_le _) (Nat.zero_le _) (P := fun v u => _) ?_ (fun e u h => h) (fun v u h => h)
        intro po7 xx8 hp9 hx10
        refine g_enter2 (k := 97) (N := 300) (by omega) rfl (Nat.le_of_ble_eq_true rfl) ?_
        refine g_aload_n 1 (gd rfl) rfl rfl ?_
        refine g_getA (q2 := 4) 4 (gd rfl) rfl rfl rfl rfl rfl ?_
        refine g_iload_n 5 (gd rfl) rfl rfl ?_
        refine g_iaload 6 (gd rfl) rfl (n := 160) rfl (in_ix i5 rfl) (fun z11 e12 => ?_)
        have i13 := inv_I hI (n := 160) (t := 0) (-1) 31 rfl (in_ix i5 rfl) rfl e12
        refine g_iconst (-1) 7 (gd rfl) rfl rfl ?_
        refine g_cmp_eq 10 29 (gd rfl) rfl rfl (fun c14 => ?_) (fun c14 => ?_)
        · skip
          have i15 := r_eq1 (-1) (-1) c14 i13 (in_c (-1) rfl) rfl
          refine g_iconst 0 30 (gd rfl) rfl rfl ?_
          refine g_ireturn (gd rfl) rfl (nb01 (in_w 0 1 (in_c 0 rfl) rfl)) (hp9 _ _ ?_)
          show GG _ _ _ _ _ _ _ _ [.int (Int32.ofInt 0)] _ _ _
          refine g_if_eq 36 71 (gd rfl) rfl rfl (fun c16 => ?_) (fun c16 => ?_)
          · skip
            refine g_aload_n 72 (gd rfl) rfl rfl ?_
            refine g_getA (q2 := 4) 75 (gd rfl) rfl rfl rfl rfl rfl ?_
            refine g_iload 77 (gd rfl) rfl rfl ?_
            refine g_iaload 78 (gd rfl) rfl (n := 160) rfl (in_ix i5 rfl) (fun z17 e18 => ?_)
            have q19 : z11 = z17 := (e12).trans e18.symm
            subst q19
            refine g_iconst (-1) 79 (gd rfl) rfl rfl ?_
            refine g_cmp_eq 82 112 (gd rfl) rfl rfl (fun c20 => ?_) (fun c20 => ?_)
            · skip
              refine g_iinc 115 (gd rfl) rfl rfl (Nat.le_of_ble_eq_true rfl) (fun z21 e22 => ?_)
              have i23 := in_add 1 160 e22 i5 (in_c 1 rfl) rfl rfl
              refine g_goto 18 (gd rfl) rfl ?_
              exact gg_w (by omega) (gg_f (gf_cons rfl (gf_cons rfl (gf_cons rfl (gf_cons rfl gf_nil)))) (ih18 s y18_2 z21 hI (in_w 0 160 i23 rfl) (m_up mm18 (t_add e22 i5 (in_c 1 rfl) rfl) (in_w 1 1 (in_c 1 rfl) rfl))))
            · skip
              exact n_ne c20 i15 (in_c (-1) rfl) rfl
          · skip
            exact zn_ne c16 (in_c 0 rfl) rfl
        · skip
          have i24 := r_ne1 0 31 c14 i13 (in_c (-1) rfl) rfl
          refine g_aload_n 11 (gd rfl) rfl rfl ?_
          refine g_getA (q2 := 4) 14 (gd rfl) rfl rfl rfl rfl rfl ?_
          refine g_iload_n 15 (gd rfl) rfl rfl ?_
          refine g_iaload 16 (gd rfl) rfl (n := 160) rfl (in_ix i5 rfl) (fun z25 e26 => ?_)
          have q27 : z11 = z25 := (e12).trans e26.symm
          subst q27
          refine g_aload_n 17 (gd rfl) rfl rfl ?_
          refine g_getA (q2 := 5) 20 (gd rfl) rfl rfl rfl rfl rfl ?_
          refine g_iload_n 21 (gd rfl) rfl rfl ?_
          refine g_iaload 22 (gd rfl) rfl (n := 160) rfl (in_ix i5 rfl) (fun z28 e29 => ?_)
          have i30 := inv_I hI (n := 160) (t := 0) 0 31 rfl (in_ix i5 rfl) rfl e29
          refine g_cmp_eq 25 29 (gd rfl) rfl rfl (fun c31 => ?_) (fun c31 => ?_)
          · skip
            refine g_iconst 0 30 (gd rfl) rfl rfl ?_
            refine g_ireturn (gd rfl) rfl (nb01 (in_w 0 1 (in_c 0 rfl) rfl)) (hp9 _ _ ?_)
            show GG _ _ _ _ _ _ _ _ [.int (Int32.ofInt 0)] _ _ _
            refine g_if_eq 36 71 (gd rfl) rfl rfl (fun c32 => ?_) (fun c32 => ?_)
            · skip
              refine g_aload_n 72 (gd rfl) rfl rfl ?_
              refine g_getA (q2 := 4) 75 (gd rfl) rfl rfl rfl rfl rfl ?_
              refine g_iload 77 (gd rfl) rfl rfl ?_
              refine g_iaload 78 (gd rfl) rfl (n := 160) rfl (in_ix i5 rfl) (fun z33 e34 => ?_)
              have q35 : z11 = z33 := (e12).trans e34.symm
              subst q35
              refine g_iconst (-1) 79 (gd rfl) rfl rfl ?_
              refine g_cmp_eq 82 112 (gd rfl) rfl rfl (fun c36 => ?_) (fun c36 => ?_)
              · skip
                exact n_eq c36 i24 (in_c (-1) rfl) rfl
              · skip
                refine g_aload_n 83 (gd rfl) rfl rfl ?_
                refine g_getA (q2 := 6) 86 (gd rfl) rfl rfl rfl rfl rfl ?_
                refine g_iload 88 (gd rfl) rfl rfl ?_
                refine g_iaload 89 (gd rfl) rfl (n := 160) rfl (in_ix i5 rfl) (fun z37 e38 => ?_)
                have i39 := inv_I hI (n := 160) (t := 0) (-1000000) 1000000 rfl (in_ix i5 rfl) rfl e38
                refine g_if_ge 92 112 (gd rfl) rfl rfl (fun c40 => ?_) (fun c40 => ?_)
                · skip
                  have i41 := z_ge 0 1000000 c40 i39 rfl
                  refine g_iinc 115 (gd rfl) rfl rfl (Nat.le_of_ble_eq_true rfl) (fun z42 e43 => ?_)
                  have i44 := in_add 1 160 e43 i5 (in_c 1 rfl) rfl rfl
                  refine g_goto 18 (gd rfl) rfl ?_
                  exact gg_w (by omega) (gg_f (gf_cons rfl (gf_cons rfl (gf_cons rfl (gf_cons rfl gf_nil)))) (ih18 s y18_2 z42 hI (in_w 0 160 i44 rfl) (m_up mm18 (t_add e43 i5 (in_c 1 rfl) rfl) (in_w 1 1 (in_c 1 rfl) rfl))))
                · skip
                  have i45 := z_lt (-1000000) (-1) c40 i39 rfl
                  refine g_lload_n 93 (gd rfl) rfl rfl ?_
                  refine g_aload_n 94 (gd rfl) rfl rfl ?_
                  refine g_getA (q2 := 6) 97 (gd rfl) rfl rfl rfl rfl rfl ?_
                  refine g_iload 99 (gd rfl) rfl rfl ?_
                  refine g_iaload 100 (gd rfl) rfl (n := 160) rfl (in_ix i5 rfl) (fun z46 e47 => ?_)
                  have q48 : z37 = z46 := (e38).trans e47.symm
                  subst q48
                  refine g_i2l 101 (gd rfl) rfl (fun z49 e50 => ?_)
                  have i51 := l_i e50 i45
                  refine g_aload_n 102 (gd rfl) rfl rfl ?_
                  refine g_getA (q2 := 7) 105 (gd rfl) rfl rfl rfl rfl rfl ?_
                  refine g_iload 107 (gd rfl) rfl rfl ?_
                  refine g_iaload 108 (gd rfl) rfl (n := 160) rfl (in_ix i5 rfl) (fun z52 e53 => ?_)
                  have i54 := inv_I hI (n := 160) (t := 0) 0 1000000 rfl (in_ix i5 rfl) rfl e53
                  refine g_i2l 109 (gd rfl) rfl (fun z55 e56 => ?_)
                  have i57 := l_i e56 i54
                  refine g_lmul 110 (gd rfl) rfl (fun z58 e59 => ?_)
                  refine g_ladd 111 (gd rfl) rfl (fun z60 e61 => ?_)
                  refine g_lstore_n 112 (gd rfl) rfl (Nat.le_of_ble_eq_true rfl) ?_
                  refine g_iinc 115 (gd rfl) rfl rfl (Nat.le_of_ble_eq_true rfl) (fun z62 e63 => ?_)
                  have i64 := in_add 1 160 e63 i5 (in_c 1 rfl) rfl rfl
                  refine g_goto 18 (gd rfl) rfl ?_
                  exact gg_w (by omega) (gg_f (gf_cons rfl (gf_cons rfl (gf_cons rfl (gf_cons rfl gf_nil)))) (ih18 s z60 z62 hI (in_w 0 160 i64 rfl) (m_up mm18 (t_add e63 i5 (in_c 1 rfl) rfl) (in_w 1 1 (in_c 1 rfl) rfl))))
            · skip
              exact zn_ne c32 (in_c 0 rfl) rfl
          · skip
            refine g_iconst 1 26 (gd rfl) rfl rfl ?_
            refine g_goto 30 (gd rfl) rfl ?_
            refine g_ireturn (gd rfl) rfl (nb01 (in_w 0 1 (in_c 1 rfl) rfl)) (hp9 _ _ ?_)
            show GG _ _ _ _ _ _ _ _ [.int (Int32.ofInt 1)] _ _ _
            refine g_if_eq 36 71 (gd rfl) rfl rfl (fun c65 => ?_) (fun c65 => ?_)
            · skip
              exact zn_eq c65 (in_c 1 rfl) rfl
            · skip
              refine g_aload_n 37 (gd rfl) rfl rfl ?_
              refine g_aload_n 38 (gd rfl) rfl rfl ?_
              refine g_getA (q2 := 4) 41 (gd rfl) rfl rfl rfl rfl rfl ?_
              refine g_iload 43 (gd rfl) rfl rfl ?_
              refine g_iaload 44 (gd rfl) rfl (n := 160) rfl (in_ix i5 rfl) (fun z66 e67 => ?_)
              have q68 : z11 = z66 := (e12).trans e67.symm
              subst q68
              refine g_aload_n 45 (gd rfl) rfl rfl ?_
              refine g_getA (q2 := 5) 48 (gd rfl) rfl rfl rfl rfl rfl ?_
              refine g_iload 50 (gd rfl) rfl rfl ?_
              refine g_iaload 51 (gd rfl) rfl (n := 160) rfl (in_ix i5 rfl) (fun z69 e70 => ?_)
              have q71 : z28 = z69 := (e29).trans e70.symm
              subst q71
              refine g_aload_n 52 (gd rfl) rfl rfl ?_
              refine g_getA (q2 := 6) 55 (gd rfl) rfl rfl rfl rfl rfl ?_
              refine g_iload 57 (gd rfl) rfl rfl ?_
              refine g_iaload 58 (gd rfl) rfl (n := 160) rfl (in_ix i5 rfl) (fun z72 e73 => ?_)
              have i74 := inv_I hI (n := 160) (t := 0) (-1000000) 1000000 rfl (in_ix i5 rfl) rfl e73
              refine g_aload_n 59 (gd rfl) rfl rfl ?_
              refine g_getA (q2 := 7) 62 (gd rfl) rfl rfl rfl rfl rfl ?_
              refine g_iload 64 (gd rfl) rfl rfl ?_
              refine g_iaload 65 (gd rfl) rfl (n := 160) rfl (in_ix i5 rfl) (fun z75 e76 => ?_)
              have i77 := inv_I hI (n := 160) (t := 0) 0 1000000 rfl (in_ix i5 rfl) rfl e76
              refine g_callv (X := _) (As := [.int z11, .int z28, .int z72, .int z75]) (r := []) (b := A 65) (q := 65) 68 (gd rfl) rfl rfl rfl rfl rfl (ww_o rfl) (Nat.le_of_ble_eq_true rfl) (Nat.zero_le _) (Nat.zero_le _) (k_84_65 (by omega) hI (in_w 0 31 i24 rfl) (in_w 0 31 i30 rfl) (in_w (-1000000) 1000000 i74 rfl) (in_w 0 1000000 i77 rfl)) (fun e u h => h) (fun v u h => ?_)
              obtain ⟨s78, hI79, rfl, rfl⟩ := h
              show GG _ _ _ _ _ _ _ _ [] _ _ _
              refine g_goto 112 (gd rfl) rfl ?_
              refine g_iinc 115 (gd rfl) rfl rfl (Nat.le_of_ble_eq_true rfl) (fun z82 e83 => ?_)
              have i84 := in_add 1 160 e83 i5 (in_c 1 rfl) rfl rfl
              refine g_goto 18 (gd rfl) rfl ?_
              exact gg_w (by omega) (gg_f (gf_cons rfl (gf_cons rfl (gf_cons rfl (gf_cons rfl gf_nil)))) (ih18 s78 y18_2 z82 hI79 (in_w 0 160 i84 rfl) (m_up mm18 (t_add e83 i5 (in_c 1 rfl) rfl) (in_w 1 1 (in_c 1 rfl) rfl))))
  refine g_enter2 (k := 80) (N := 145801) (by omega) rfl (Nat.le_of_ble_eq_true rfl) ?_
  refine g_aload_n 1 (gd rfl) rfl rfl ?_
  refine g_getA (q2 := 74) 4 (gd rfl) rfl rfl rfl rfl rfl ?_
  refine g_iconst 0 5 (gd rfl) rfl rfl ?_
  refine g_calls (As := [.ref (A 74), .int (Int32.ofInt 0)]) (r := []) 8 (gd rfl) rfl rfl rfl rfl rfl (Nat.le_of_ble_eq_true rfl) (Nat.zero_le _) (Nat.zero_le _) (k_fillI 74 (by omega) hI (in_c 0 rfl) (n := 32) rfl rfl rfl rfl) (fun v u h => ?_)
  obtain ⟨s85, hI86, rfl, rfl⟩ := h
  show GG _ _ _ _ _ _ _ _ [] _ _ _
  refine g_aload_n 9 (gd rfl) rfl rfl ?_
  refine g_iconst 0 10 (gd rfl) rfl rfl ?_
  refine g_putI 13 (gd rfl) rfl rfl rfl rfl ?_
  have hI87 := inv_sF (q := 65) (j := 8) hI86 rfl (in_w 0 160 (in_c 0 rfl) rfl)
  refine g_lconst 0 14 (gd rfl) rfl rfl ?_
  refine g_lstore_n 15 (gd rfl) rfl (Nat.le_of_ble_eq_true rfl) ?_
  refine g_iconst 0 16 (gd rfl) rfl rfl ?_
  refine g_istore 18 (gd rfl) rfl (Nat.le_of_ble_eq_true rfl) ?_
  exact gg_w (by omega) (gg_f (gf_cons rfl (gf_cons rfl (gf_cons rfl (gf_cons rfl gf_nil)))) (ct18 161 (sF s85 65 8 (Int32.ofInt 0)) (Int64.ofInt 0) (Int32.ofInt 0) hI87 (in_w 0 160 (in_c 0 rfl) rfl) (m_in 161 (in_w 0 160 (in_c 0 rfl) rfl) rfl)))

/-- GraphHouse$Flows.layArcs -/
theorem k_80_65_32 {Z : AmZ} {A : Nat → Nat} {s : GS} {ex : va_W} {d : Nat} {X : AmX}  (hd : 3 ≤ d) (hI : Inv s)  : GC Z d 80 [.ref (A 65), .ref (A 32)] (WW Z A s ++ ex) 0 0 (fun v u => ∃ t : GS, Inv t ∧ ∃ z : Int64, v = some (.long z) ∧ u = WW Z A t ++ ex) X := by
  intro post xp hP hX
  have ct18 : ∀ (k18 : Nat) (s : GS) (y18_2 : Int64) (y18_4 : Int32), Inv s → In y18_4 0 160 → 160 - (y18_4).toInt < (k18 : Int) → GG Z (d - 1) 80 post (gx xp) (1 + k18 * 900) 18 (fun j => xlook j [(0, .ref (A 65)), (1, .ref (A 32)), (2, .long y18_2), (4, .int y18_4)]) [] (WW Z A s ++ ex) 0 0 := by
    intro k18
    induction k18 with
    | zero => intro s y18_2 y18_4 hI j18_4 mm18; exact m_no mm18 j18_4 rfl
    | succ k18 ih18 =>
      intro s y18_2 y18_4 hI j18_4 mm18
      refine gg_w (M := 1 + k18 * 900 + 900) (by omega) ?_
      refine g_iload 20 (gd rfl) rfl rfl ?_
      refine g_aload_n 21 (gd rfl) rfl rfl ?_
      refine g_getI 24 (gd rfl) rfl rfl rfl (fun z1 e2 => ?_)
      have i3 := inv_F hI 0 160 rfl e2
      refine g_cmp_ge 27 118 (gd rfl) rfl rfl (fun c4 => ?_) (fun c4 => ?_)
      · skip
        refine g_lload_n 119 (gd rfl) rfl rfl ?_
        exact g_lreturn (gd rfl) rfl (hP _ _ ⟨s, hI, y18_2, rfl, rfl⟩)
      · skip
        have i5 := r_lt1 0 159 c4 j18_4 i3 rfl
        have i6 := r_lt2 1 160 c4 j18_4 i3 rfl
        refine g_aload_n 28 (gd rfl) rfl rfl ?_
        refine g_iload 30 (gd rfl) rfl rfl ?_
        refine g_callv (X := _) (As := [.int y18_4]) (r := []) (b := A 32) (q := 32) 33 (gd rfl) rfl rfl rfl rfl rfl (ww_o rfl) (Nat.le_of_ble_eq_true rfl) (mc := 0) (ms := 0) (Nat.zero_le _) (Nat.zero_le _) (P := fun v u => _) ?_ (fun e u h => h) (fun v u h => h)
        intro po7 xx8 hp9 hx10
        refine g_enter2 (k := 97) (N := 300) (by omega) rfl (Nat.le_of_ble_eq_true rfl) ?_
        refine g_aload_n 1 (gd rfl) rfl rfl ?_
        refine g_getA (q2 := 34) 4 (gd rfl) rfl rfl rfl rfl rfl ?_
        refine g_iload_n 5 (gd rfl) rfl rfl ?_
        refine g_iaload 6 (gd rfl) rfl (n := 160) rfl (in_ix i5 rfl) (fun z11 e12 => ?_)
        have i13 := inv_I hI (n := 160) (t := 0) (-1) 31 rfl (in_ix i5 rfl) rfl e12
        refine g_iconst (-1) 7 (gd rfl) rfl rfl ?_
        refine g_cmp_eq 10 29 (gd rfl) rfl rfl (fun c14 => ?_) (fun c14 => ?_)
        · skip
          have i15 := r_eq1 (-1) (-1) c14 i13 (in_c (-1) rfl) rfl
          refine g_iconst 0 30 (gd rfl) rfl rfl ?_
          refine g_ireturn (gd rfl) rfl (nb01 (in_w 0 1 (in_c 0 rfl) rfl)) (hp9 _ _ ?_)
          show GG _ _ _ _ _ _ _ _ [.int (Int32.ofInt 0)] _ _ _
          refine g_if_eq 36 71 (gd rfl) rfl rfl (fun c16 => ?_) (fun c16 => ?_)
          · skip
            refine g_aload_n 72 (gd rfl) rfl rfl ?_
            refine g_getA (q2 := 34) 75 (gd rfl) rfl rfl rfl rfl rfl ?_
            refine g_iload 77 (gd rfl) rfl rfl ?_
            refine g_iaload 78 (gd rfl) rfl (n := 160) rfl (in_ix i5 rfl) (fun z17 e18 => ?_)
            have q19 : z11 = z17 := (e12).trans e18.symm
            subst q19
            refine g_iconst (-1) 79 (gd rfl) rfl rfl ?_
            refine g_cmp_eq 82 112 (gd rfl) rfl rfl (fun c20 => ?_) (fun c20 => ?_)
            · skip
              refine g_iinc 115 (gd rfl) rfl rfl (Nat.le_of_ble_eq_true rfl) (fun z21 e22 => ?_)
              have i23 := in_add 1 160 e22 i5 (in_c 1 rfl) rfl rfl
              refine g_goto 18 (gd rfl) rfl ?_
              exact gg_w (by omega) (gg_f (gf_cons rfl (gf_cons rfl (gf_cons rfl (gf_cons rfl gf_nil)))) (ih18 s y18_2 z21 hI (in_w 0 160 i23 rfl) (m_up mm18 (t_add e22 i5 (in_c 1 rfl) rfl) (in_w 1 1 (in_c 1 rfl) rfl))))
            · skip
              exact n_ne c20 i15 (in_c (-1) rfl) rfl
          · skip
            exact zn_ne c16 (in_c 0 rfl) rfl
        · skip
          have i24 := r_ne1 0 31 c14 i13 (in_c (-1) rfl) rfl
          refine g_aload_n 11 (gd rfl) rfl rfl ?_
          refine g_getA (q2 := 34) 14 (gd rfl) rfl rfl rfl rfl rfl ?_
          refine g_iload_n 15 (gd rfl) rfl rfl ?_
          refine g_iaload 16 (gd rfl) rfl (n := 160) rfl (in_ix i5 rfl) (fun z25 e26 => ?_)
          have q27 : z11 = z25 := (e12).trans e26.symm
          subst q27
          refine g_aload_n 17 (gd rfl) rfl rfl ?_
          refine g_getA (q2 := 35) 20 (gd rfl) rfl rfl rfl rfl rfl ?_
          refine g_iload_n 21 (gd rfl) rfl rfl ?_
          refine g_iaload 22 (gd rfl) rfl (n := 160) rfl (in_ix i5 rfl) (fun z28 e29 => ?_)
          have i30 := inv_I hI (n := 160) (t := 0) 0 31 rfl (in_ix i5 rfl) rfl e29
          refine g_cmp_eq 25 29 (gd rfl) rfl rfl (fun c31 => ?_) (fun c31 => ?_)
          · skip
            refine g_iconst 0 30 (gd rfl) rfl rfl ?_
            refine g_ireturn (gd rfl) rfl (nb01 (in_w 0 1 (in_c 0 rfl) rfl)) (hp9 _ _ ?_)
            show GG _ _ _ _ _ _ _ _ [.int (Int32.ofInt 0)] _ _ _
            refine g_if_eq 36 71 (gd rfl) rfl rfl (fun c32 => ?_) (fun c32 => ?_)
            · skip
              refine g_aload_n 72 (gd rfl) rfl rfl ?_
              refine g_getA (q2 := 34) 75 (gd rfl) rfl rfl rfl rfl rfl ?_
              refine g_iload 77 (gd rfl) rfl rfl ?_
              refine g_iaload 78 (gd rfl) rfl (n := 160) rfl (in_ix i5 rfl) (fun z33 e34 => ?_)
              have q35 : z11 = z33 := (e12).trans e34.symm
              subst q35
              refine g_iconst (-1) 79 (gd rfl) rfl rfl ?_
              refine g_cmp_eq 82 112 (gd rfl) rfl rfl (fun c36 => ?_) (fun c36 => ?_)
              · skip
                exact n_eq c36 i24 (in_c (-1) rfl) rfl
              · skip
                refine g_aload_n 83 (gd rfl) rfl rfl ?_
                refine g_getA (q2 := 36) 86 (gd rfl) rfl rfl rfl rfl rfl ?_
                refine g_iload 88 (gd rfl) rfl rfl ?_
                refine g_iaload 89 (gd rfl) rfl (n := 160) rfl (in_ix i5 rfl) (fun z37 e38 => ?_)
                have i39 := inv_I hI (n := 160) (t := 0) (-1000000) 1000000 rfl (in_ix i5 rfl) rfl e38
                refine g_if_ge 92 112 (gd rfl) rfl rfl (fun c40 => ?_) (fun c40 => ?_)
                · skip
                  have i41 := z_ge 0 1000000 c40 i39 rfl
                  refine g_iinc 115 (gd rfl) rfl rfl (Nat.le_of_ble_eq_true rfl) (fun z42 e43 => ?_)
                  have i44 := in_add 1 160 e43 i5 (in_c 1 rfl) rfl rfl
                  refine g_goto 18 (gd rfl) rfl ?_
                  exact gg_w (by omega) (gg_f (gf_cons rfl (gf_cons rfl (gf_cons rfl (gf_cons rfl gf_nil)))) (ih18 s y18_2 z42 hI (in_w 0 160 i44 rfl) (m_up mm18 (t_add e43 i5 (in_c 1 rfl) rfl) (in_w 1 1 (in_c 1 rfl) rfl))))
                · skip
                  have i45 := z_lt (-1000000) (-1) c40 i39 rfl
                  refine g_lload_n 93 (gd rfl) rfl rfl ?_
                  refine g_aload_n 94 (gd rfl) rfl rfl ?_
                  refine g_getA (q2 := 36) 97 (gd rfl) rfl rfl rfl rfl rfl ?_
                  refine g_iload 99 (gd rfl) rfl rfl ?_
                  refine g_iaload 100 (gd rfl) rfl (n := 160) rfl (in_ix i5 rfl) (fun z46 e47 => ?_)
                  have q48 : z37 = z46 := (e38).trans e47.symm
                  subst q48
                  refine g_i2l 101 (gd rfl) rfl (fun z49 e50 => ?_)
                  have i51 := l_i e50 i45
                  refine g_aload_n 102 (gd rfl) rfl rfl ?_
                  refine g_getA (q2 := 37) 105 (gd rfl) rfl rfl rfl rfl rfl ?_
                  refine g_iload 107 (gd rfl) rfl rfl ?_
                  refine g_iaload 108 (gd rfl) rfl (n := 160) rfl (in_ix i5 rfl) (fun z52 e53 => ?_)
                  have i54 := inv_I hI (n := 160) (t := 0) 0 1000000 rfl (in_ix i5 rfl) rfl e53
                  refine g_i2l 109 (gd rfl) rfl (fun z55 e56 => ?_)
                  have i57 := l_i e56 i54
                  refine g_lmul 110 (gd rfl) rfl (fun z58 e59 => ?_)
                  refine g_ladd 111 (gd rfl) rfl (fun z60 e61 => ?_)
                  refine g_lstore_n 112 (gd rfl) rfl (Nat.le_of_ble_eq_true rfl) ?_
                  refine g_iinc 115 (gd rfl) rfl rfl (Nat.le_of_ble_eq_true rfl) (fun z62 e63 => ?_)
                  have i64 := in_add 1 160 e63 i5 (in_c 1 rfl) rfl rfl
                  refine g_goto 18 (gd rfl) rfl ?_
                  exact gg_w (by omega) (gg_f (gf_cons rfl (gf_cons rfl (gf_cons rfl (gf_cons rfl gf_nil)))) (ih18 s z60 z62 hI (in_w 0 160 i64 rfl) (m_up mm18 (t_add e63 i5 (in_c 1 rfl) rfl) (in_w 1 1 (in_c 1 rfl) rfl))))
            · skip
              exact zn_ne c32 (in_c 0 rfl) rfl
          · skip
            refine g_iconst 1 26 (gd rfl) rfl rfl ?_
            refine g_goto 30 (gd rfl) rfl ?_
            refine g_ireturn (gd rfl) rfl (nb01 (in_w 0 1 (in_c 1 rfl) rfl)) (hp9 _ _ ?_)
            show GG _ _ _ _ _ _ _ _ [.int (Int32.ofInt 1)] _ _ _
            refine g_if_eq 36 71 (gd rfl) rfl rfl (fun c65 => ?_) (fun c65 => ?_)
            · skip
              exact zn_eq c65 (in_c 1 rfl) rfl
            · skip
              refine g_aload_n 37 (gd rfl) rfl rfl ?_
              refine g_aload_n 38 (gd rfl) rfl rfl ?_
              refine g_getA (q2 := 34) 41 (gd rfl) rfl rfl rfl rfl rfl ?_
              refine g_iload 43 (gd rfl) rfl rfl ?_
              refine g_iaload 44 (gd rfl) rfl (n := 160) rfl (in_ix i5 rfl) (fun z66 e67 => ?_)
              have q68 : z11 = z66 := (e12).trans e67.symm
              subst q68
              refine g_aload_n 45 (gd rfl) rfl rfl ?_
              refine g_getA (q2 := 35) 48 (gd rfl) rfl rfl rfl rfl rfl ?_
              refine g_iload 50 (gd rfl) rfl rfl ?_
              refine g_iaload 51 (gd rfl) rfl (n := 160) rfl (in_ix i5 rfl) (fun z69 e70 => ?_)
              have q71 : z28 = z69 := (e29).trans e70.symm
              subst q71
              refine g_aload_n 52 (gd rfl) rfl rfl ?_
              refine g_getA (q2 := 36) 55 (gd rfl) rfl rfl rfl rfl rfl ?_
              refine g_iload 57 (gd rfl) rfl rfl ?_
              refine g_iaload 58 (gd rfl) rfl (n := 160) rfl (in_ix i5 rfl) (fun z72 e73 => ?_)
              have i74 := inv_I hI (n := 160) (t := 0) (-1000000) 1000000 rfl (in_ix i5 rfl) rfl e73
              refine g_aload_n 59 (gd rfl) rfl rfl ?_
              refine g_getA (q2 := 37) 62 (gd rfl) rfl rfl rfl rfl rfl ?_
              refine g_iload 64 (gd rfl) rfl rfl ?_
              refine g_iaload 65 (gd rfl) rfl (n := 160) rfl (in_ix i5 rfl) (fun z75 e76 => ?_)
              have i77 := inv_I hI (n := 160) (t := 0) 0 1000000 rfl (in_ix i5 rfl) rfl e76
              refine g_callv (X := _) (As := [.int z11, .int z28, .int z72, .int z75]) (r := []) (b := A 65) (q := 65) 68 (gd rfl) rfl rfl rfl rfl rfl (ww_o rfl) (Nat.le_of_ble_eq_true rfl) (Nat.zero_le _) (Nat.zero_le _) (k_84_65 (by omega) hI (in_w 0 31 i24 rfl) (in_w 0 31 i30 rfl) (in_w (-1000000) 1000000 i74 rfl) (in_w 0 1000000 i77 rfl)) (fun e u h => h) (fun v u h => ?_)
              obtain ⟨s78, hI79, rfl, rfl⟩ := h
              show GG _ _ _ _ _ _ _ _ [] _ _ _
              refine g_goto 112 (gd rfl) rfl ?_
              refine g_iinc 115 (gd rfl) rfl rfl (Nat.le_of_ble_eq_true rfl) (fun z82 e83 => ?_)
              have i84 := in_add 1 160 e83 i5 (in_c 1 rfl) rfl rfl
              refine g_goto 18 (gd rfl) rfl ?_
              exact gg_w (by omega) (gg_f (gf_cons rfl (gf_cons rfl (gf_cons rfl (gf_cons rfl gf_nil)))) (ih18 s78 y18_2 z82 hI79 (in_w 0 160 i84 rfl) (m_up mm18 (t_add e83 i5 (in_c 1 rfl) rfl) (in_w 1 1 (in_c 1 rfl) rfl))))
  refine g_enter2 (k := 80) (N := 145801) (by omega) rfl (Nat.le_of_ble_eq_true rfl) ?_
  refine g_aload_n 1 (gd rfl) rfl rfl ?_
  refine g_getA (q2 := 74) 4 (gd rfl) rfl rfl rfl rfl rfl ?_
  refine g_iconst 0 5 (gd rfl) rfl rfl ?_
  refine g_calls (As := [.ref (A 74), .int (Int32.ofInt 0)]) (r := []) 8 (gd rfl) rfl rfl rfl rfl rfl (Nat.le_of_ble_eq_true rfl) (Nat.zero_le _) (Nat.zero_le _) (k_fillI 74 (by omega) hI (in_c 0 rfl) (n := 32) rfl rfl rfl rfl) (fun v u h => ?_)
  obtain ⟨s85, hI86, rfl, rfl⟩ := h
  show GG _ _ _ _ _ _ _ _ [] _ _ _
  refine g_aload_n 9 (gd rfl) rfl rfl ?_
  refine g_iconst 0 10 (gd rfl) rfl rfl ?_
  refine g_putI 13 (gd rfl) rfl rfl rfl rfl ?_
  have hI87 := inv_sF (q := 65) (j := 8) hI86 rfl (in_w 0 160 (in_c 0 rfl) rfl)
  refine g_lconst 0 14 (gd rfl) rfl rfl ?_
  refine g_lstore_n 15 (gd rfl) rfl (Nat.le_of_ble_eq_true rfl) ?_
  refine g_iconst 0 16 (gd rfl) rfl rfl ?_
  refine g_istore 18 (gd rfl) rfl (Nat.le_of_ble_eq_true rfl) ?_
  exact gg_w (by omega) (gg_f (gf_cons rfl (gf_cons rfl (gf_cons rfl (gf_cons rfl gf_nil)))) (ct18 161 (sF s85 65 8 (Int32.ofInt 0)) (Int64.ofInt 0) (Int32.ofInt 0) hI87 (in_w 0 160 (in_c 0 rfl) rfl) (m_in 161 (in_w 0 160 (in_c 0 rfl) rfl) rfl)))

/-- GraphHouse$Flows.relaxAll -/
theorem k_86_65 {Z : AmZ} {A : Nat → Nat} {s : GS} {ex : va_W} {d : Nat} {X : AmX} {x1 : Int32} {x2 : Int32} (hd : 2 ≤ d) (hI : Inv s) (h1 : In x1 0 32) (h2 : In x2 1 1048576) : GC Z d 86 [.ref (A 65), .int x1, .int x2] (WW Z A s ++ ex) 0 0 (fun v u => ∃ t : GS, Inv t ∧ v = none ∧ u = WW Z A t ++ ex) X := by
  intro post xp hP hX
  have ct5 : ∀ (k5 : Nat) (s : GS) (y5_3 : Int32) (y5_4 : Int32), Inv s → In y5_3 0 1 → In y5_4 0 33 → 33 - (y5_4).toInt < (k5 : Int) → GG Z (d - 1) 86 post (gx xp) (1 + k5 * 147601) 5 (fun j => xlook j [(0, .ref (A 65)), (1, .int x1), (2, .int x2), (3, .int y5_3), (4, .int y5_4)]) [] (WW Z A s ++ ex) 0 0 := by
    intro k5
    induction k5 with
    | zero => intro s y5_3 y5_4 hI j5_3 j5_4 mm5; exact m_no mm5 j5_4 rfl
    | succ k5 ih5 =>
      intro s y5_3 y5_4 hI j5_3 j5_4 mm5
      refine gg_w (M := 1 + k5 * 147601 + 147601) (by omega) ?_
      have ct20 : ∀ (k20 : Nat) (s : GS) (y20_3 : Int32) (y20_5 : Int32), Inv s → In y20_3 0 1 → In y5_4 0 32 → In y20_5 0 160 → 160 - (y20_5).toInt < (k20 : Int) → GG Z (d - 1) 86 post (gx xp) (1 + k5 * 147601 + 1 + k20 * 900) 20 (fun j => xlook j [(0, .ref (A 65)), (1, .int x1), (2, .int x2), (3, .int y20_3), (4, .int y5_4), (5, .int y20_5)]) [] (WW Z A s ++ ex) 0 0 := by
        intro k20
        induction k20 with
        | zero => intro s y20_3 y20_5 hI j20_3 j20_4 j20_5 mm20; exact m_no mm20 j20_5 rfl
        | succ k20 ih20 =>
          intro s y20_3 y20_5 hI j20_3 j20_4 j20_5 mm20
          refine gg_w (M := 1 + k5 * 147601 + 1 + k20 * 900 + 900) (by omega) ?_
          refine g_iload 22 (gd rfl) rfl rfl ?_
          refine g_aload_n 23 (gd rfl) rfl rfl ?_
          refine g_getI 26 (gd rfl) rfl rfl rfl (fun z1 e2 => ?_)
          have i3 := inv_F hI 0 160 rfl e2
          refine g_cmp_ge 29 45 (gd rfl) rfl rfl (fun c4 => ?_) (fun c4 => ?_)
          · skip
            refine g_iinc 48 (gd rfl) rfl rfl (Nat.le_of_ble_eq_true rfl) (fun z5 e6 => ?_)
            have i7 := in_add 1 33 e6 j20_4 (in_c 1 rfl) rfl rfl
            refine g_goto 5 (gd rfl) rfl ?_
            exact gg_w (by omega) (gg_f (gf_cons rfl (gf_cons rfl (gf_cons rfl (gf_cons rfl (gf_cons rfl gf_nil))))) (ih5 s y20_3 z5 hI (in_w 0 1 j20_3 rfl) (in_w 0 33 i7 rfl) (m_up mm5 (t_add e6 j20_4 (in_c 1 rfl) rfl) (in_w 1 1 (in_c 1 rfl) rfl))))
          · skip
            have i8 := r_lt1 0 159 c4 j20_5 i3 rfl
            have i9 := r_lt2 1 160 c4 j20_5 i3 rfl
            refine g_iload_n 30 (gd rfl) rfl rfl ?_
            refine g_aload_n 31 (gd rfl) rfl rfl ?_
            refine g_iload 33 (gd rfl) rfl rfl ?_
            refine g_iload_n 34 (gd rfl) rfl rfl ?_
            refine g_callv (X := _) (As := [.int y20_5, .int x2]) (r := [.int y20_3]) (b := A 65) (q := 65) 37 (gd rfl) rfl rfl rfl rfl rfl (ww_o rfl) (Nat.le_of_ble_eq_true rfl) (Nat.zero_le _) (Nat.zero_le _) (k_87_65 (by omega) hI (in_w 0 159 i8 rfl) (in_w 1 1048576 h2 rfl)) (fun e u h => h) (fun v u h => ?_)
            obtain ⟨s10, hI11, z12, rfl, rfl, i13⟩ := h
            show GG _ _ _ _ _ _ _ _ [.int z12, .int y20_3] _ _ _
            refine g_ior 38 (gd rfl) rfl (fun z14 e15 => ?_)
            have i16 := in_or 1 e15 (in_w 0 1 j20_3 rfl) (in_w 0 1 i13 rfl) rfl
            refine g_istore_n 39 (gd rfl) rfl (Nat.le_of_ble_eq_true rfl) ?_
            refine g_iinc 42 (gd rfl) rfl rfl (Nat.le_of_ble_eq_true rfl) (fun z17 e18 => ?_)
            have i19 := in_add 1 160 e18 i8 (in_c 1 rfl) rfl rfl
            refine g_goto 20 (gd rfl) rfl ?_
            exact gg_w (by omega) (gg_f (gf_cons rfl (gf_cons rfl (gf_cons rfl (gf_cons rfl (gf_cons rfl (gf_cons rfl gf_nil)))))) (ih20 s10 z14 z17 hI11 (in_w 0 1 i16 rfl) (in_w 0 32 j20_4 rfl) (in_w 0 160 i19 rfl) (m_up mm20 (t_add e18 i8 (in_c 1 rfl) rfl) (in_w 1 1 (in_c 1 rfl) rfl))))
      refine g_iload 7 (gd rfl) rfl rfl ?_
      refine g_iload_n 8 (gd rfl) rfl rfl ?_
      refine g_cmp_gt 11 51 (gd rfl) rfl rfl (fun c20 => ?_) (fun c20 => ?_)
      · skip
        have i21 := r_lt2 1 33 c20 h1 j5_4 rfl
        exact g_return (gd rfl) rfl (hP _ _ ⟨s, hI, rfl, rfl⟩)
      · skip
        have i22 := r_le1 0 32 c20 j5_4 h1 rfl
        refine g_iload_n 12 (gd rfl) rfl rfl ?_
        refine g_if_eq 15 51 (gd rfl) rfl rfl (fun c23 => ?_) (fun c23 => ?_)
        · skip
          have i24 := z_eq 0 0 c23 j5_3 rfl
          exact g_return (gd rfl) rfl (hP _ _ ⟨s, hI, rfl, rfl⟩)
        · skip
          have i25 := z_ne 1 1 c23 j5_3 rfl
          refine g_iconst 0 16 (gd rfl) rfl rfl ?_
          refine g_istore_n 17 (gd rfl) rfl (Nat.le_of_ble_eq_true rfl) ?_
          refine g_iconst 0 18 (gd rfl) rfl rfl ?_
          refine g_istore 20 (gd rfl) rfl (Nat.le_of_ble_eq_true rfl) ?_
          exact gg_w (by omega) (gg_f (gf_cons rfl (gf_cons rfl (gf_cons rfl (gf_cons rfl (gf_cons rfl (gf_cons rfl gf_nil)))))) (ct20 161 s (Int32.ofInt 0) (Int32.ofInt 0) hI (in_w 0 1 (in_c 0 rfl) rfl) (in_w 0 32 i22 rfl) (in_w 0 160 (in_c 0 rfl) rfl) (m_in 161 (in_w 0 160 (in_c 0 rfl) rfl) rfl)))
  refine g_enter2 (k := 86) (N := 5019335) (by omega) rfl (Nat.le_of_ble_eq_true rfl) ?_
  refine g_iconst 1 1 (gd rfl) rfl rfl ?_
  refine g_istore_n 2 (gd rfl) rfl (Nat.le_of_ble_eq_true rfl) ?_
  refine g_iconst 0 3 (gd rfl) rfl rfl ?_
  refine g_istore 5 (gd rfl) rfl (Nat.le_of_ble_eq_true rfl) ?_
  exact gg_w (by omega) (gg_f (gf_cons rfl (gf_cons rfl (gf_cons rfl (gf_cons rfl (gf_cons rfl gf_nil))))) (ct5 34 s (Int32.ofInt 1) (Int32.ofInt 0) hI (in_w 0 1 (in_c 1 rfl) rfl) (in_w 0 33 (in_c 0 rfl) rfl) (m_in 34 (in_w 0 33 (in_c 0 rfl) rfl) rfl)))

/-- GraphHouse$Parts.isBridge -/
theorem k_142_56_2 {Z : AmZ} {A : Nat → Nat} {s : GS} {ex : va_W} {d : Nat} {X : AmX} {x2 : Int32} (hd : 5 ≤ d) (hI : Inv s) (h2 : In x2 0 159) : GC Z d 142 [.ref (A 56), .ref (A 2), .int x2] (WW Z A s ++ ex) 0 0 (fun v u => ∃ t : GS, Inv t ∧ ∃ z : Int32, v = some (.int z) ∧ u = WW Z A t ++ ex ∧ In z 0 1) X := by
  intro post xp hP hX
  have ct28 : ∀ (k28 : Nat) (s : GS) (y28_3 : Int32) (y28_4 : Int32) (y28_5 : Int32), Inv s → In y28_3 0 31 → In y28_4 0 31 → In y28_5 0 160 → 160 - (y28_5).toInt < (k28 : Int) → GG Z (d - 1) 142 post (gx xp) (1 + k28 * 900) 28 (fun j => xlook j [(0, .ref (A 56)), (1, .ref (A 2)), (2, .int x2), (3, .int y28_3), (4, .int y28_4), (5, .int y28_5)]) [] (WW Z A s ++ ex) 0 0 := by
    intro k28
    induction k28 with
    | zero => intro s y28_3 y28_4 y28_5 hI j28_3 j28_4 j28_5 mm28; exact m_no mm28 j28_5 rfl
    | succ k28 ih28 =>
      intro s y28_3 y28_4 y28_5 hI j28_3 j28_4 j28_5 mm28
      refine gg_w (M := 1 + k28 * 900 + 900) (by omega) ?_
      refine g_iload 30 (gd rfl) rfl rfl ?_
      refine g_aload_n 31 (gd rfl) rfl rfl ?_
      refine g_getI 34 (gd rfl) rfl rfl rfl (fun z1 e2 => ?_)
      have i3 := inv_F hI 0 160 rfl e2
      refine g_cmp_ge 37 106 (gd rfl) rfl rfl (fun c4 => ?_) (fun c4 => ?_)
      · skip
        refine g_aload_n 107 (gd rfl) rfl rfl ?_
        refine g_callv (X := _) (As := []) (r := []) (b := A 2) (q := 2) 110 (gd rfl) rfl rfl rfl rfl rfl (ww_o rfl) (Nat.le_of_ble_eq_true rfl) (Nat.zero_le _) (Nat.zero_le _) (k_106_2 (by omega) hI ) (fun e u h => h) (fun v u h => ?_)
        obtain ⟨s5, hI6, rfl, rfl⟩ := h
        show GG _ _ _ _ _ _ _ _ [] _ _ _
        refine g_aload_n 111 (gd rfl) rfl rfl ?_
        refine g_getA (q2 := 9) 114 (gd rfl) rfl rfl rfl rfl rfl ?_
        refine g_aload_n 115 (gd rfl) rfl rfl ?_
        refine g_getA (q2 := 9) 118 (gd rfl) rfl rfl rfl rfl rfl ?_
        refine g_iload_n 119 (gd rfl) rfl rfl ?_
        refine g_iaload 120 (gd rfl) rfl (n := 32) rfl (in_ix j28_3 rfl) (fun z9 e10 => ?_)
        refine g_iconst 1 121 (gd rfl) rfl rfl ?_
        refine g_iload 123 (gd rfl) rfl rfl ?_
        refine g_ishl 124 (gd rfl) rfl (fun z11 e12 => ?_)
        refine g_iconst (-1) 125 (gd rfl) rfl rfl ?_
        refine g_ixor 126 (gd rfl) rfl (fun z13 e14 => ?_)
        refine g_iand 127 (gd rfl) rfl (fun z15 e16 => ?_)
        refine g_iconst 1 128 (gd rfl) rfl rfl ?_
        refine g_iload_n 129 (gd rfl) rfl rfl ?_
        refine g_ishl 130 (gd rfl) rfl (fun z17 e18 => ?_)
        refine g_iconst (-1) 131 (gd rfl) rfl rfl ?_
        refine g_ixor 132 (gd rfl) rfl (fun z19 e20 => ?_)
        refine g_calls (As := [.ref (A 9), .int z15, .int z19]) (r := []) 135 (gd rfl) rfl rfl rfl rfl rfl (Nat.le_of_ble_eq_true rfl) (Nat.zero_le _) (Nat.zero_le _) (k_266_9 (by omega) hI6 ) (fun v u h => ?_)
        obtain ⟨z21, rfl, rfl, i22⟩ := h
        show GG _ _ _ _ _ _ _ _ [.int z21] _ _ _
        refine g_istore 137 (gd rfl) rfl (Nat.le_of_ble_eq_true rfl) ?_
        refine g_iload 139 (gd rfl) rfl rfl ?_
        refine g_iload 141 (gd rfl) rfl rfl ?_
        refine g_ishr 142 (gd rfl) rfl (fun z23 e24 => ?_)
        refine g_iconst 1 143 (gd rfl) rfl rfl ?_
        refine g_iand 144 (gd rfl) rfl (fun z25 e26 => ?_)
        have i27 := in_and2 e26 (in_c 1 rfl) rfl
        refine g_if_ne 147 151 (gd rfl) rfl rfl (fun c28 => ?_) (fun c28 => ?_)
        · skip
          have i29 := z_ne 1 1 c28 i27 rfl
          refine g_iconst 0 152 (gd rfl) rfl rfl ?_
          exact g_ireturn (gd rfl) rfl (nb01 (in_w 0 1 (in_c 0 rfl) rfl)) (hP _ _ ⟨s5, hI6, (Int32.ofInt 0), rfl, rfl, in_w 0 1 (in_c 0 rfl) rfl⟩)
        · skip
          have i30 := z_eq 0 0 c28 i27 rfl
          refine g_iconst 1 148 (gd rfl) rfl rfl ?_
          refine g_goto 152 (gd rfl) rfl ?_
          exact g_ireturn (gd rfl) rfl (nb01 (in_w 0 1 (in_c 1 rfl) rfl)) (hP _ _ ⟨s5, hI6, (Int32.ofInt 1), rfl, rfl, in_w 0 1 (in_c 1 rfl) rfl⟩)
      · skip
        have i31 := r_lt1 0 159 c4 j28_5 i3 rfl
        have i32 := r_lt2 1 160 c4 j28_5 i3 rfl
        refine g_iload 39 (gd rfl) rfl rfl ?_
        refine g_iload_n 40 (gd rfl) rfl rfl ?_
        refine g_cmp_eq 43 100 (gd rfl) rfl rfl (fun c33 => ?_) (fun c33 => ?_)
        · skip
          refine g_iinc 103 (gd rfl) rfl rfl (Nat.le_of_ble_eq_true rfl) (fun z34 e35 => ?_)
          have i36 := in_add 1 160 e35 i31 (in_c 1 rfl) rfl rfl
          refine g_goto 28 (gd rfl) rfl ?_
          exact gg_w (by omega) (gg_f (gf_cons rfl (gf_cons rfl (gf_cons rfl (gf_cons rfl (gf_cons rfl (gf_cons rfl gf_nil)))))) (ih28 s y28_3 y28_4 z34 hI (in_w 0 31 j28_3 rfl) (in_w 0 31 j28_4 rfl) (in_w 0 160 i36 rfl) (m_up mm28 (t_add e35 i31 (in_c 1 rfl) rfl) (in_w 1 1 (in_c 1 rfl) rfl))))
        · skip
          refine g_aload_n 44 (gd rfl) rfl rfl ?_
          refine g_iload 46 (gd rfl) rfl rfl ?_
          refine g_callv (X := _) (As := [.int y28_5]) (r := []) (b := A 2) (q := 2) 49 (gd rfl) rfl rfl rfl rfl rfl (ww_o rfl) (Nat.le_of_ble_eq_true rfl) (mc := 0) (ms := 0) (Nat.zero_le _) (Nat.zero_le _) (P := fun v u => _) ?_ (fun e u h => h) (fun v u h => h)
          intro po37 xx38 hp39 hx40
          refine g_enter2 (k := 97) (N := 300) (by omega) rfl (Nat.le_of_ble_eq_true rfl) ?_
          refine g_aload_n 1 (gd rfl) rfl rfl ?_
          refine g_getA (q2 := 4) 4 (gd rfl) rfl rfl rfl rfl rfl ?_
          refine g_iload_n 5 (gd rfl) rfl rfl ?_
          refine g_iaload 6 (gd rfl) rfl (n := 160) rfl (in_ix i31 rfl) (fun z41 e42 => ?_)
          have i43 := inv_I hI (n := 160) (t := 0) (-1) 31 rfl (in_ix i31 rfl) rfl e42
          refine g_iconst (-1) 7 (gd rfl) rfl rfl ?_
          refine g_cmp_eq 10 29 (gd rfl) rfl rfl (fun c44 => ?_) (fun c44 => ?_)
          · skip
            have i45 := r_eq1 (-1) (-1) c44 i43 (in_c (-1) rfl) rfl
            refine g_iconst 0 30 (gd rfl) rfl rfl ?_
            refine g_ireturn (gd rfl) rfl (nb01 (in_w 0 1 (in_c 0 rfl) rfl)) (hp39 _ _ ?_)
            show GG _ _ _ _ _ _ _ _ [.int (Int32.ofInt 0)] _ _ _
            refine g_if_eq 52 100 (gd rfl) rfl rfl (fun c46 => ?_) (fun c46 => ?_)
            · skip
              refine g_iinc 103 (gd rfl) rfl rfl (Nat.le_of_ble_eq_true rfl) (fun z47 e48 => ?_)
              have i49 := in_add 1 160 e48 i31 (in_c 1 rfl) rfl rfl
              refine g_goto 28 (gd rfl) rfl ?_
              exact gg_w (by omega) (gg_f (gf_cons rfl (gf_cons rfl (gf_cons rfl (gf_cons rfl (gf_cons rfl (gf_cons rfl gf_nil)))))) (ih28 s y28_3 y28_4 z47 hI (in_w 0 31 j28_3 rfl) (in_w 0 31 j28_4 rfl) (in_w 0 160 i49 rfl) (m_up mm28 (t_add e48 i31 (in_c 1 rfl) rfl) (in_w 1 1 (in_c 1 rfl) rfl))))
            · skip
              exact zn_ne c46 (in_c 0 rfl) rfl
          · skip
            have i50 := r_ne1 0 31 c44 i43 (in_c (-1) rfl) rfl
            refine g_aload_n 11 (gd rfl) rfl rfl ?_
            refine g_getA (q2 := 4) 14 (gd rfl) rfl rfl rfl rfl rfl ?_
            refine g_iload_n 15 (gd rfl) rfl rfl ?_
            refine g_iaload 16 (gd rfl) rfl (n := 160) rfl (in_ix i31 rfl) (fun z51 e52 => ?_)
            have q53 : z41 = z51 := (e42).trans e52.symm
            subst q53
            refine g_aload_n 17 (gd rfl) rfl rfl ?_
            refine g_getA (q2 := 5) 20 (gd rfl) rfl rfl rfl rfl rfl ?_
            refine g_iload_n 21 (gd rfl) rfl rfl ?_
            refine g_iaload 22 (gd rfl) rfl (n := 160) rfl (in_ix i31 rfl) (fun z54 e55 => ?_)
            have i56 := inv_I hI (n := 160) (t := 0) 0 31 rfl (in_ix i31 rfl) rfl e55
            refine g_cmp_eq 25 29 (gd rfl) rfl rfl (fun c57 => ?_) (fun c57 => ?_)
            · skip
              refine g_iconst 0 30 (gd rfl) rfl rfl ?_
              refine g_ireturn (gd rfl) rfl (nb01 (in_w 0 1 (in_c 0 rfl) rfl)) (hp39 _ _ ?_)
              show GG _ _ _ _ _ _ _ _ [.int (Int32.ofInt 0)] _ _ _
              refine g_if_eq 52 100 (gd rfl) rfl rfl (fun c58 => ?_) (fun c58 => ?_)
              · skip
                refine g_iinc 103 (gd rfl) rfl rfl (Nat.le_of_ble_eq_true rfl) (fun z59 e60 => ?_)
                have i61 := in_add 1 160 e60 i31 (in_c 1 rfl) rfl rfl
                refine g_goto 28 (gd rfl) rfl ?_
                exact gg_w (by omega) (gg_f (gf_cons rfl (gf_cons rfl (gf_cons rfl (gf_cons rfl (gf_cons rfl (gf_cons rfl gf_nil)))))) (ih28 s y28_3 y28_4 z59 hI (in_w 0 31 j28_3 rfl) (in_w 0 31 j28_4 rfl) (in_w 0 160 i61 rfl) (m_up mm28 (t_add e60 i31 (in_c 1 rfl) rfl) (in_w 1 1 (in_c 1 rfl) rfl))))
              · skip
                exact zn_ne c58 (in_c 0 rfl) rfl
            · skip
              refine g_iconst 1 26 (gd rfl) rfl rfl ?_
              refine g_goto 30 (gd rfl) rfl ?_
              refine g_ireturn (gd rfl) rfl (nb01 (in_w 0 1 (in_c 1 rfl) rfl)) (hp39 _ _ ?_)
              show GG _ _ _ _ _ _ _ _ [.int (Int32.ofInt 1)] _ _ _
              refine g_if_eq 52 100 (gd rfl) rfl rfl (fun c62 => ?_) (fun c62 => ?_)
              · skip
                exact zn_eq c62 (in_c 1 rfl) rfl
              · skip
                refine g_aload_n 53 (gd rfl) rfl rfl ?_
                refine g_getA (q2 := 4) 56 (gd rfl) rfl rfl rfl rfl rfl ?_
                refine g_iload 58 (gd rfl) rfl rfl ?_
                refine g_iaload 59 (gd rfl) rfl (n := 160) rfl (in_ix i31 rfl) (fun z63 e64 => ?_)
                have q65 : z41 = z63 := (e42).trans e64.symm
                subst q65
                refine g_iload_n 60 (gd rfl) rfl rfl ?_
                refine g_cmp_ne 63 75 (gd rfl) rfl rfl (fun c66 => ?_) (fun c66 => ?_)
                · skip
                  refine g_aload_n 76 (gd rfl) rfl rfl ?_
                  refine g_getA (q2 := 4) 79 (gd rfl) rfl rfl rfl rfl rfl ?_
                  refine g_iload 81 (gd rfl) rfl rfl ?_
                  refine g_iaload 82 (gd rfl) rfl (n := 160) rfl (in_ix i31 rfl) (fun z67 e68 => ?_)
                  have q69 : z41 = z67 := (e42).trans e68.symm
                  subst q69
                  refine g_iload 84 (gd rfl) rfl rfl ?_
                  refine g_cmp_ne 87 100 (gd rfl) rfl rfl (fun c70 => ?_) (fun c70 => ?_)
                  · skip
                    refine g_iinc 103 (gd rfl) rfl rfl (Nat.le_of_ble_eq_true rfl) (fun z71 e72 => ?_)
                    have i73 := in_add 1 160 e72 i31 (in_c 1 rfl) rfl rfl
                    refine g_goto 28 (gd rfl) rfl ?_
                    exact gg_w (by omega) (gg_f (gf_cons rfl (gf_cons rfl (gf_cons rfl (gf_cons rfl (gf_cons rfl (gf_cons rfl gf_nil)))))) (ih28 s y28_3 y28_4 z71 hI (in_w 0 31 j28_3 rfl) (in_w 0 31 j28_4 rfl) (in_w 0 160 i73 rfl) (m_up mm28 (t_add e72 i31 (in_c 1 rfl) rfl) (in_w 1 1 (in_c 1 rfl) rfl))))
                  · skip
                    refine g_aload_n 88 (gd rfl) rfl rfl ?_
                    refine g_getA (q2 := 5) 91 (gd rfl) rfl rfl rfl rfl rfl ?_
                    refine g_iload 93 (gd rfl) rfl rfl ?_
                    refine g_iaload 94 (gd rfl) rfl (n := 160) rfl (in_ix i31 rfl) (fun z74 e75 => ?_)
                    have q76 : z54 = z74 := (e55).trans e75.symm
                    subst q76
                    refine g_iload_n 95 (gd rfl) rfl rfl ?_
                    refine g_cmp_ne 98 100 (gd rfl) rfl rfl (fun c77 => ?_) (fun c77 => ?_)
                    · skip
                      refine g_iinc 103 (gd rfl) rfl rfl (Nat.le_of_ble_eq_true rfl) (fun z78 e79 => ?_)
                      have i80 := in_add 1 160 e79 i31 (in_c 1 rfl) rfl rfl
                      refine g_goto 28 (gd rfl) rfl ?_
                      exact gg_w (by omega) (gg_f (gf_cons rfl (gf_cons rfl (gf_cons rfl (gf_cons rfl (gf_cons rfl (gf_cons rfl gf_nil)))))) (ih28 s y28_3 y28_4 z78 hI (in_w 0 31 j28_3 rfl) (in_w 0 31 j28_4 rfl) (in_w 0 160 i80 rfl) (m_up mm28 (t_add e79 i31 (in_c 1 rfl) rfl) (in_w 1 1 (in_c 1 rfl) rfl))))
                    · skip
                      refine g_iconst 0 99 (gd rfl) rfl rfl ?_
                      exact g_ireturn (gd rfl) rfl (nb01 (in_w 0 1 (in_c 0 rfl) rfl)) (hP _ _ ⟨s, hI, (Int32.ofInt 0), rfl, rfl, in_w 0 1 (in_c 0 rfl) rfl⟩)
                · skip
                  refine g_aload_n 64 (gd rfl) rfl rfl ?_
                  refine g_getA (q2 := 5) 67 (gd rfl) rfl rfl rfl rfl rfl ?_
                  refine g_iload 69 (gd rfl) rfl rfl ?_
                  refine g_iaload 70 (gd rfl) rfl (n := 160) rfl (in_ix i31 rfl) (fun z81 e82 => ?_)
                  have q83 : z54 = z81 := (e55).trans e82.symm
                  subst q83
                  refine g_iload 72 (gd rfl) rfl rfl ?_
                  refine g_cmp_eq 75 98 (gd rfl) rfl rfl (fun c84 => ?_) (fun c84 => ?_)
                  · skip
                    refine g_iconst 0 99 (gd rfl) rfl rfl ?_
                    exact g_ireturn (gd rfl) rfl (nb01 (in_w 0 1 (in_c 0 rfl) rfl)) (hP _ _ ⟨s, hI, (Int32.ofInt 0), rfl, rfl, in_w 0 1 (in_c 0 rfl) rfl⟩)
                  · skip
                    refine g_aload_n 76 (gd rfl) rfl rfl ?_
                    refine g_getA (q2 := 4) 79 (gd rfl) rfl rfl rfl rfl rfl ?_
                    refine g_iload 81 (gd rfl) rfl rfl ?_
                    refine g_iaload 82 (gd rfl) rfl (n := 160) rfl (in_ix i31 rfl) (fun z85 e86 => ?_)
                    have q87 : z41 = z85 := (e42).trans e86.symm
                    subst q87
                    refine g_iload 84 (gd rfl) rfl rfl ?_
                    refine g_cmp_ne 87 100 (gd rfl) rfl rfl (fun c88 => ?_) (fun c88 => ?_)
                    · skip
                      refine g_iinc 103 (gd rfl) rfl rfl (Nat.le_of_ble_eq_true rfl) (fun z89 e90 => ?_)
                      have i91 := in_add 1 160 e90 i31 (in_c 1 rfl) rfl rfl
                      refine g_goto 28 (gd rfl) rfl ?_
                      exact gg_w (by omega) (gg_f (gf_cons rfl (gf_cons rfl (gf_cons rfl (gf_cons rfl (gf_cons rfl (gf_cons rfl gf_nil)))))) (ih28 s y28_3 y28_4 z89 hI (in_w 0 31 j28_3 rfl) (in_w 0 31 j28_4 rfl) (in_w 0 160 i91 rfl) (m_up mm28 (t_add e90 i31 (in_c 1 rfl) rfl) (in_w 1 1 (in_c 1 rfl) rfl))))
                    · skip
                      refine g_aload_n 88 (gd rfl) rfl rfl ?_
                      refine g_getA (q2 := 5) 91 (gd rfl) rfl rfl rfl rfl rfl ?_
                      refine g_iload 93 (gd rfl) rfl rfl ?_
                      refine g_iaload 94 (gd rfl) rfl (n := 160) rfl (in_ix i31 rfl) (fun z92 e93 => ?_)
                      have q94 : z54 = z92 := (e55).trans e93.symm
                      subst q94
                      refine g_iload_n 95 (gd rfl) rfl rfl ?_
                      refine g_cmp_ne 98 100 (gd rfl) rfl rfl (fun c95 => ?_) (fun c95 => ?_)
                      · skip
                        refine g_iinc 103 (gd rfl) rfl rfl (Nat.le_of_ble_eq_true rfl) (fun z96 e97 => ?_)
                        have i98 := in_add 1 160 e97 i31 (in_c 1 rfl) rfl rfl
                        refine g_goto 28 (gd rfl) rfl ?_
                        exact gg_w (by omega) (gg_f (gf_cons rfl (gf_cons rfl (gf_cons rfl (gf_cons rfl (gf_cons rfl (gf_cons rfl gf_nil)))))) (ih28 s y28_3 y28_4 z96 hI (in_w 0 31 j28_3 rfl) (in_w 0 31 j28_4 rfl) (in_w 0 160 i98 rfl) (m_up mm28 (t_add e97 i31 (in_c 1 rfl) rfl) (in_w 1 1 (in_c 1 rfl) rfl))))
                      · skip
                        refine g_iconst 0 99 (gd rfl) rfl rfl ?_
                        exact g_ireturn (gd rfl) rfl (nb01 (in_w 0 1 (in_c 0 rfl) rfl)) (hP _ _ ⟨s, hI, (Int32.ofInt 0), rfl, rfl, in_w 0 1 (in_c 0 rfl) rfl⟩)
  refine g_enter2 (k := 142) (N := 145801) (by omega) rfl (Nat.le_of_ble_eq_true rfl) ?_
  refine g_aload_n 1 (gd rfl) rfl rfl ?_
  refine g_iload_n 2 (gd rfl) rfl rfl ?_
  refine g_callv (X := _) (As := [.int x2]) (r := []) (b := A 2) (q := 2) 5 (gd rfl) rfl rfl rfl rfl rfl (ww_o rfl) (Nat.le_of_ble_eq_true rfl) (mc := 0) (ms := 0) (Nat.zero_le _) (Nat.zero_le _) (P := fun v u => _) ?_ (fun e u h => h) (fun v u h => h)
  intro po99 xx100 hp101 hx102
  refine g_enter2 (k := 97) (N := 300) (by omega) rfl (Nat.le_of_ble_eq_true rfl) ?_
  refine g_aload_n 1 (gd rfl) rfl rfl ?_
  refine g_getA (q2 := 4) 4 (gd rfl) rfl rfl rfl rfl rfl ?_
  refine g_iload_n 5 (gd rfl) rfl rfl ?_
  refine g_iaload 6 (gd rfl) rfl (n := 160) rfl (in_ix h2 rfl) (fun z103 e104 => ?_)
  have i105 := inv_I hI (n := 160) (t := 0) (-1) 31 rfl (in_ix h2 rfl) rfl e104
  refine g_iconst (-1) 7 (gd rfl) rfl rfl ?_
  refine g_cmp_eq 10 29 (gd rfl) rfl rfl (fun c106 => ?_) (fun c106 => ?_)
  · skip
    have i107 := r_eq1 (-1) (-1) c106 i105 (in_c (-1) rfl) rfl
    refine g_iconst 0 30 (gd rfl) rfl rfl ?_
    refine g_ireturn (gd rfl) rfl (nb01 (in_w 0 1 (in_c 0 rfl) rfl)) (hp101 _ _ ?_)
    show GG _ _ _ _ _ _ _ _ [.int (Int32.ofInt 0)] _ _ _
    refine g_if_ne 8 10 (gd rfl) rfl rfl (fun c108 => ?_) (fun c108 => ?_)
    · skip
      exact zn_ne c108 (in_c 0 rfl) rfl
    · skip
      refine g_iconst 0 9 (gd rfl) rfl rfl ?_
      exact g_ireturn (gd rfl) rfl (nb01 (in_w 0 1 (in_c 0 rfl) rfl)) (hP _ _ ⟨s, hI, (Int32.ofInt 0), rfl, rfl, in_w 0 1 (in_c 0 rfl) rfl⟩)
  · skip
    have i109 := r_ne1 0 31 c106 i105 (in_c (-1) rfl) rfl
    refine g_aload_n 11 (gd rfl) rfl rfl ?_
    refine g_getA (q2 := 4) 14 (gd rfl) rfl rfl rfl rfl rfl ?_
    refine g_iload_n 15 (gd rfl) rfl rfl ?_
    refine g_iaload 16 (gd rfl) rfl (n := 160) rfl (in_ix h2 rfl) (fun z110 e111 => ?_)
    have q112 : z103 = z110 := (e104).trans e111.symm
    subst q112
    refine g_aload_n 17 (gd rfl) rfl rfl ?_
    refine g_getA (q2 := 5) 20 (gd rfl) rfl rfl rfl rfl rfl ?_
    refine g_iload_n 21 (gd rfl) rfl rfl ?_
    refine g_iaload 22 (gd rfl) rfl (n := 160) rfl (in_ix h2 rfl) (fun z113 e114 => ?_)
    have i115 := inv_I hI (n := 160) (t := 0) 0 31 rfl (in_ix h2 rfl) rfl e114
    refine g_cmp_eq 25 29 (gd rfl) rfl rfl (fun c116 => ?_) (fun c116 => ?_)
    · skip
      refine g_iconst 0 30 (gd rfl) rfl rfl ?_
      refine g_ireturn (gd rfl) rfl (nb01 (in_w 0 1 (in_c 0 rfl) rfl)) (hp101 _ _ ?_)
      show GG _ _ _ _ _ _ _ _ [.int (Int32.ofInt 0)] _ _ _
      refine g_if_ne 8 10 (gd rfl) rfl rfl (fun c117 => ?_) (fun c117 => ?_)
      · skip
        exact zn_ne c117 (in_c 0 rfl) rfl
      · skip
        refine g_iconst 0 9 (gd rfl) rfl rfl ?_
        exact g_ireturn (gd rfl) rfl (nb01 (in_w 0 1 (in_c 0 rfl) rfl)) (hP _ _ ⟨s, hI, (Int32.ofInt 0), rfl, rfl, in_w 0 1 (in_c 0 rfl) rfl⟩)
    · skip
      refine g_iconst 1 26 (gd rfl) rfl rfl ?_
      refine g_goto 30 (gd rfl) rfl ?_
      refine g_ireturn (gd rfl) rfl (nb01 (in_w 0 1 (in_c 1 rfl) rfl)) (hp101 _ _ ?_)
      show GG _ _ _ _ _ _ _ _ [.int (Int32.ofInt 1)] _ _ _
      refine g_if_ne 8 10 (gd rfl) rfl rfl (fun c118 => ?_) (fun c118 => ?_)
      · skip
        refine g_aload_n 11 (gd rfl) rfl rfl ?_
        refine g_getA (q2 := 4) 14 (gd rfl) rfl rfl rfl rfl rfl ?_
        refine g_iload_n 15 (gd rfl) rfl rfl ?_
        refine g_iaload 16 (gd rfl) rfl (n := 160) rfl (in_ix h2 rfl) (fun z119 e120 => ?_)
        have q121 : z103 = z119 := (e104).trans e120.symm
        subst q121
        refine g_istore_n 17 (gd rfl) rfl (Nat.le_of_ble_eq_true rfl) ?_
        refine g_aload_n 18 (gd rfl) rfl rfl ?_
        refine g_getA (q2 := 5) 21 (gd rfl) rfl rfl rfl rfl rfl ?_
        refine g_iload_n 22 (gd rfl) rfl rfl ?_
        refine g_iaload 23 (gd rfl) rfl (n := 160) rfl (in_ix h2 rfl) (fun z122 e123 => ?_)
        have q124 : z113 = z122 := (e114).trans e123.symm
        subst q124
        refine g_istore 25 (gd rfl) rfl (Nat.le_of_ble_eq_true rfl) ?_
        refine g_iconst 0 26 (gd rfl) rfl rfl ?_
        refine g_istore 28 (gd rfl) rfl (Nat.le_of_ble_eq_true rfl) ?_
        exact gg_w (by omega) (gg_f (gf_cons rfl (gf_cons rfl (gf_cons rfl (gf_cons rfl (gf_cons rfl (gf_cons rfl gf_nil)))))) (ct28 161 s z103 z113 (Int32.ofInt 0) hI (in_w 0 31 i109 rfl) (in_w 0 31 i115 rfl) (in_w 0 160 (in_c 0 rfl) rfl) (m_in 161 (in_w 0 160 (in_c 0 rfl) rfl) rfl)))
      · skip
        exact zn_eq c118 (in_c 1 rfl) rfl

/-- GraphHouse$Parts.isBridge -/
theorem k_142_56_32 {Z : AmZ} {A : Nat → Nat} {s : GS} {ex : va_W} {d : Nat} {X : AmX} {x2 : Int32} (hd : 5 ≤ d) (hI : Inv s) (h2 : In x2 0 159) : GC Z d 142 [.ref (A 56), .ref (A 32), .int x2] (WW Z A s ++ ex) 0 0 (fun v u => ∃ t : GS, Inv t ∧ ∃ z : Int32, v = some (.int z) ∧ u = WW Z A t ++ ex ∧ In z 0 1) X := by
  intro post xp hP hX
  have ct28 : ∀ (k28 : Nat) (s : GS) (y28_3 : Int32) (y28_4 : Int32) (y28_5 : Int32), Inv s → In y28_3 0 31 → In y28_4 0 31 → In y28_5 0 160 → 160 - (y28_5).toInt < (k28 : Int) → GG Z (d - 1) 142 post (gx xp) (1 + k28 * 900) 28 (fun j => xlook j [(0, .ref (A 56)), (1, .ref (A 32)), (2, .int x2), (3, .int y28_3), (4, .int y28_4), (5, .int y28_5)]) [] (WW Z A s ++ ex) 0 0 := by
    intro k28
    induction k28 with
    | zero => intro s y28_3 y28_4 y28_5 hI j28_3 j28_4 j28_5 mm28; exact m_no mm28 j28_5 rfl
    | succ k28 ih28 =>
      intro s y28_3 y28_4 y28_5 hI j28_3 j28_4 j28_5 mm28
      refine gg_w (M := 1 + k28 * 900 + 900) (by omega) ?_
      refine g_iload 30 (gd rfl) rfl rfl ?_
      refine g_aload_n 31 (gd rfl) rfl rfl ?_
      refine g_getI 34 (gd rfl) rfl rfl rfl (fun z1 e2 => ?_)
      have i3 := inv_F hI 0 160 rfl e2
      refine g_cmp_ge 37 106 (gd rfl) rfl rfl (fun c4 => ?_) (fun c4 => ?_)
      · skip
        refine g_aload_n 107 (gd rfl) rfl rfl ?_
        refine g_callv (X := _) (As := []) (r := []) (b := A 32) (q := 32) 110 (gd rfl) rfl rfl rfl rfl rfl (ww_o rfl) (Nat.le_of_ble_eq_true rfl) (Nat.zero_le _) (Nat.zero_le _) (k_106_32 (by omega) hI ) (fun e u h => h) (fun v u h => ?_)
        obtain ⟨s5, hI6, rfl, rfl⟩ := h
        show GG _ _ _ _ _ _ _ _ [] _ _ _
        refine g_aload_n 111 (gd rfl) rfl rfl ?_
        refine g_getA (q2 := 39) 114 (gd rfl) rfl rfl rfl rfl rfl ?_
        refine g_aload_n 115 (gd rfl) rfl rfl ?_
        refine g_getA (q2 := 39) 118 (gd rfl) rfl rfl rfl rfl rfl ?_
        refine g_iload_n 119 (gd rfl) rfl rfl ?_
        refine g_iaload 120 (gd rfl) rfl (n := 32) rfl (in_ix j28_3 rfl) (fun z9 e10 => ?_)
        refine g_iconst 1 121 (gd rfl) rfl rfl ?_
        refine g_iload 123 (gd rfl) rfl rfl ?_
        refine g_ishl 124 (gd rfl) rfl (fun z11 e12 => ?_)
        refine g_iconst (-1) 125 (gd rfl) rfl rfl ?_
        refine g_ixor 126 (gd rfl) rfl (fun z13 e14 => ?_)
        refine g_iand 127 (gd rfl) rfl (fun z15 e16 => ?_)
        refine g_iconst 1 128 (gd rfl) rfl rfl ?_
        refine g_iload_n 129 (gd rfl) rfl rfl ?_
        refine g_ishl 130 (gd rfl) rfl (fun z17 e18 => ?_)
        refine g_iconst (-1) 131 (gd rfl) rfl rfl ?_
        refine g_ixor 132 (gd rfl) rfl (fun z19 e20 => ?_)
        refine g_calls (As := [.ref (A 39), .int z15, .int z19]) (r := []) 135 (gd rfl) rfl rfl rfl rfl rfl (Nat.le_of_ble_eq_true rfl) (Nat.zero_le _) (Nat.zero_le _) (k_266_39 (by omega) hI6 ) (fun v u h => ?_)
        obtain ⟨z21, rfl, rfl, i22⟩ := h
        show GG _ _ _ _ _ _ _ _ [.int z21] _ _ _
        refine g_istore 137 (gd rfl) rfl (Nat.le_of_ble_eq_true rfl) ?_
        refine g_iload 139 (gd rfl) rfl rfl ?_
        refine g_iload 141 (gd rfl) rfl rfl ?_
        refine g_ishr 142 (gd rfl) rfl (fun z23 e24 => ?_)
        refine g_iconst 1 143 (gd rfl) rfl rfl ?_
        refine g_iand 144 (gd rfl) rfl (fun z25 e26 => ?_)
        have i27 := in_and2 e26 (in_c 1 rfl) rfl
        refine g_if_ne 147 151 (gd rfl) rfl rfl (fun c28 => ?_) (fun c28 => ?_)
        · skip
          have i29 := z_ne 1 1 c28 i27 rfl
          refine g_iconst 0 152 (gd rfl) rfl rfl ?_
          exact g_ireturn (gd rfl) rfl (nb01 (in_w 0 1 (in_c 0 rfl) rfl)) (hP _ _ ⟨s5, hI6, (Int32.ofInt 0), rfl, rfl, in_w 0 1 (in_c 0 rfl) rfl⟩)
        · skip
          have i30 := z_eq 0 0 c28 i27 rfl
          refine g_iconst 1 148 (gd rfl) rfl rfl ?_
          refine g_goto 152 (gd rfl) rfl ?_
          exact g_ireturn (gd rfl) rfl (nb01 (in_w 0 1 (in_c 1 rfl) rfl)) (hP _ _ ⟨s5, hI6, (Int32.ofInt 1), rfl, rfl, in_w 0 1 (in_c 1 rfl) rfl⟩)
      · skip
        have i31 := r_lt1 0 159 c4 j28_5 i3 rfl
        have i32 := r_lt2 1 160 c4 j28_5 i3 rfl
        refine g_iload 39 (gd rfl) rfl rfl ?_
        refine g_iload_n 40 (gd rfl) rfl rfl ?_
        refine g_cmp_eq 43 100 (gd rfl) rfl rfl (fun c33 => ?_) (fun c33 => ?_)
        · skip
          refine g_iinc 103 (gd rfl) rfl rfl (Nat.le_of_ble_eq_true rfl) (fun z34 e35 => ?_)
          have i36 := in_add 1 160 e35 i31 (in_c 1 rfl) rfl rfl
          refine g_goto 28 (gd rfl) rfl ?_
          exact gg_w (by omega) (gg_f (gf_cons rfl (gf_cons rfl (gf_cons rfl (gf_cons rfl (gf_cons rfl (gf_cons rfl gf_nil)))))) (ih28 s y28_3 y28_4 z34 hI (in_w 0 31 j28_3 rfl) (in_w 0 31 j28_4 rfl) (in_w 0 160 i36 rfl) (m_up mm28 (t_add e35 i31 (in_c 1 rfl) rfl) (in_w 1 1 (in_c 1 rfl) rfl))))
        · skip
          refine g_aload_n 44 (gd rfl) rfl rfl ?_
          refine g_iload 46 (gd rfl) rfl rfl ?_
          refine g_callv (X := _) (As := [.int y28_5]) (r := []) (b := A 32) (q := 32) 49 (gd rfl) rfl rfl rfl rfl rfl (ww_o rfl) (Nat.le_of_ble_eq_true rfl) (mc := 0) (ms := 0) (Nat.zero_le _) (Nat.zero_le _) (P := fun v u => _) ?_ (fun e u h => h) (fun v u h => h)
          intro po37 xx38 hp39 hx40
          refine g_enter2 (k := 97) (N := 300) (by omega) rfl (Nat.le_of_ble_eq_true rfl) ?_
          refine g_aload_n 1 (gd rfl) rfl rfl ?_
          refine g_getA (q2 := 34) 4 (gd rfl) rfl rfl rfl rfl rfl ?_
          refine g_iload_n 5 (gd rfl) rfl rfl ?_
          refine g_iaload 6 (gd rfl) rfl (n := 160) rfl (in_ix i31 rfl) (fun z41 e42 => ?_)
          have i43 := inv_I hI (n := 160) (t := 0) (-1) 31 rfl (in_ix i31 rfl) rfl e42
          refine g_iconst (-1) 7 (gd rfl) rfl rfl ?_
          refine g_cmp_eq 10 29 (gd rfl) rfl rfl (fun c44 => ?_) (fun c44 => ?_)
          · skip
            have i45 := r_eq1 (-1) (-1) c44 i43 (in_c (-1) rfl) rfl
            refine g_iconst 0 30 (gd rfl) rfl rfl ?_
            refine g_ireturn (gd rfl) rfl (nb01 (in_w 0 1 (in_c 0 rfl) rfl)) (hp39 _ _ ?_)
            show GG _ _ _ _ _ _ _ _ [.int (Int32.ofInt 0)] _ _ _
            refine g_if_eq 52 100 (gd rfl) rfl rfl (fun c46 => ?_) (fun c46 => ?_)
            · skip
              refine g_iinc 103 (gd rfl) rfl rfl (Nat.le_of_ble_eq_true rfl) (fun z47 e48 => ?_)
              have i49 := in_add 1 160 e48 i31 (in_c 1 rfl) rfl rfl
              refine g_goto 28 (gd rfl) rfl ?_
              exact gg_w (by omega) (gg_f (gf_cons rfl (gf_cons rfl (gf_cons rfl (gf_cons rfl (gf_cons rfl (gf_cons rfl gf_nil)))))) (ih28 s y28_3 y28_4 z47 hI (in_w 0 31 j28_3 rfl) (in_w 0 31 j28_4 rfl) (in_w 0 160 i49 rfl) (m_up mm28 (t_add e48 i31 (in_c 1 rfl) rfl) (in_w 1 1 (in_c 1 rfl) rfl))))
            · skip
              exact zn_ne c46 (in_c 0 rfl) rfl
          · skip
            have i50 := r_ne1 0 31 c44 i43 (in_c (-1) rfl) rfl
            refine g_aload_n 11 (gd rfl) rfl rfl ?_
            refine g_getA (q2 := 34) 14 (gd rfl) rfl rfl rfl rfl rfl ?_
            refine g_iload_n 15 (gd rfl) rfl rfl ?_
            refine g_iaload 16 (gd rfl) rfl (n := 160) rfl (in_ix i31 rfl) (fun z51 e52 => ?_)
            have q53 : z41 = z51 := (e42).trans e52.symm
            subst q53
            refine g_aload_n 17 (gd rfl) rfl rfl ?_
            refine g_getA (q2 := 35) 20 (gd rfl) rfl rfl rfl rfl rfl ?_
            refine g_iload_n 21 (gd rfl) rfl rfl ?_
            refine g_iaload 22 (gd rfl) rfl (n := 160) rfl (in_ix i31 rfl) (fun z54 e55 => ?_)
            have i56 := inv_I hI (n := 160) (t := 0) 0 31 rfl (in_ix i31 rfl) rfl e55
            refine g_cmp_eq 25 29 (gd rfl) rfl rfl (fun c57 => ?_) (fun c57 => ?_)
            · skip
              refine g_iconst 0 30 (gd rfl) rfl rfl ?_
              refine g_ireturn (gd rfl) rfl (nb01 (in_w 0 1 (in_c 0 rfl) rfl)) (hp39 _ _ ?_)
              show GG _ _ _ _ _ _ _ _ [.int (Int32.ofInt 0)] _ _ _
              refine g_if_eq 52 100 (gd rfl) rfl rfl (fun c58 => ?_) (fun c58 => ?_)
              · skip
                refine g_iinc 103 (gd rfl) rfl rfl (Nat.le_of_ble_eq_true rfl) (fun z59 e60 => ?_)
                have i61 := in_add 1 160 e60 i31 (in_c 1 rfl) rfl rfl
                refine g_goto 28 (gd rfl) rfl ?_
                exact gg_w (by omega) (gg_f (gf_cons rfl (gf_cons rfl (gf_cons rfl (gf_cons rfl (gf_cons rfl (gf_cons rfl gf_nil)))))) (ih28 s y28_3 y28_4 z59 hI (in_w 0 31 j28_3 rfl) (in_w 0 31 j28_4 rfl) (in_w 0 160 i61 rfl) (m_up mm28 (t_add e60 i31 (in_c 1 rfl) rfl) (in_w 1 1 (in_c 1 rfl) rfl))))
              · skip
                exact zn_ne c58 (in_c 0 rfl) rfl
            · skip
              refine g_iconst 1 26 (gd rfl) rfl rfl ?_
              refine g_goto 30 (gd rfl) rfl ?_
              refine g_ireturn (gd rfl) rfl (nb01 (in_w 0 1 (in_c 1 rfl) rfl)) (hp39 _ _ ?_)
              show GG _ _ _ _ _ _ _ _ [.int (Int32.ofInt 1)] _ _ _
              refine g_if_eq 52 100 (gd rfl) rfl rfl (fun c62 => ?_) (fun c62 => ?_)
              · skip
                exact zn_eq c62 (in_c 1 rfl) rfl
              · skip
                refine g_aload_n 53 (gd rfl) rfl rfl ?_
                refine g_getA (q2 := 34) 56 (gd rfl) rfl rfl rfl rfl rfl ?_
                refine g_iload 58 (gd rfl) rfl rfl ?_
                refine g_iaload 59 (gd rfl) rfl (n := 160) rfl (in_ix i31 rfl) (fun z63 e64 => ?_)
                have q65 : z41 = z63 := (e42).trans e64.symm
                subst q65
                refine g_iload_n 60 (gd rfl) rfl rfl ?_
                refine g_cmp_ne 63 75 (gd rfl) rfl rfl (fun c66 => ?_) (fun c66 => ?_)
                · skip
                  refine g_aload_n 76 (gd rfl) rfl rfl ?_
                  refine g_getA (q2 := 34) 79 (gd rfl) rfl rfl rfl rfl rfl ?_
                  refine g_iload 81 (gd rfl) rfl rfl ?_
                  refine g_iaload 82 (gd rfl) rfl (n := 160) rfl (in_ix i31 rfl) (fun z67 e68 => ?_)
                  have q69 : z41 = z67 := (e42).trans e68.symm
                  subst q69
                  refine g_iload 84 (gd rfl) rfl rfl ?_
                  refine g_cmp_ne 87 100 (gd rfl) rfl rfl (fun c70 => ?_) (fun c70 => ?_)
                  · skip
                    refine g_iinc 103 (gd rfl) rfl rfl (Nat.le_of_ble_eq_true rfl) (fun z71 e72 => ?_)
                    have i73 := in_add 1 160 e72 i31 (in_c 1 rfl) rfl rfl
                    refine g_goto 28 (gd rfl) rfl ?_
                    exact gg_w (by omega) (gg_f (gf_cons rfl (gf_cons rfl (gf_cons rfl (gf_cons rfl (gf_cons rfl (gf_cons rfl gf_nil)))))) (ih28 s y28_3 y28_4 z71 hI (in_w 0 31 j28_3 rfl) (in_w 0 31 j28_4 rfl) (in_w 0 160 i73 rfl) (m_up mm28 (t_add e72 i31 (in_c 1 rfl) rfl) (in_w 1 1 (in_c 1 rfl) rfl))))
                  · skip
                    refine g_aload_n 88 (gd rfl) rfl rfl ?_
                    refine g_getA (q2 := 35) 91 (gd rfl) rfl rfl rfl rfl rfl ?_
                    refine g_iload 93 (gd rfl) rfl rfl ?_
                    refine g_iaload 94 (gd rfl) rfl (n := 160) rfl (in_ix i31 rfl) (fun z74 e75 => ?_)
                    have q76 : z54 = z74 := (e55).trans e75.symm
                    subst q76
                    refine g_iload_n 95 (gd rfl) rfl rfl ?_
                    refine g_cmp_ne 98 100 (gd rfl) rfl rfl (fun c77 => ?_) (fun c77 => ?_)
                    · skip
                      refine g_iinc 103 (gd rfl) rfl rfl (Nat.le_of_ble_eq_true rfl) (fun z78 e79 => ?_)
                      have i80 := in_add 1 160 e79 i31 (in_c 1 rfl) rfl rfl
                      refine g_goto 28 (gd rfl) rfl ?_
                      exact gg_w (by omega) (gg_f (gf_cons rfl (gf_cons rfl (gf_cons rfl (gf_cons rfl (gf_cons rfl (gf_cons rfl gf_nil)))))) (ih28 s y28_3 y28_4 z78 hI (in_w 0 31 j28_3 rfl) (in_w 0 31 j28_4 rfl) (in_w 0 160 i80 rfl) (m_up mm28 (t_add e79 i31 (in_c 1 rfl) rfl) (in_w 1 1 (in_c 1 rfl) rfl))))
                    · skip
                      refine g_iconst 0 99 (gd rfl) rfl rfl ?_
                      exact g_ireturn (gd rfl) rfl (nb01 (in_w 0 1 (in_c 0 rfl) rfl)) (hP _ _ ⟨s, hI, (Int32.ofInt 0), rfl, rfl, in_w 0 1 (in_c 0 rfl) rfl⟩)
                · skip
                  refine g_aload_n 64 (gd rfl) rfl rfl ?_
                  refine g_getA (q2 := 35) 67 (gd rfl) rfl rfl rfl rfl rfl ?_
                  refine g_iload 69 (gd rfl) rfl rfl ?_
                  refine g_iaload 70 (gd rfl) rfl (n := 160) rfl (in_ix i31 rfl) (fun z81 e82 => ?_)
                  have q83 : z54 = z81 := (e55).trans e82.symm
                  subst q83
                  refine g_iload 72 (gd rfl) rfl rfl ?_
                  refine g_cmp_eq 75 98 (gd rfl) rfl rfl (fun c84 => ?_) (fun c84 => ?_)
                  · skip
                    refine g_iconst 0 99 (gd rfl) rfl rfl ?_
                    exact g_ireturn (gd rfl) rfl (nb01 (in_w 0 1 (in_c 0 rfl) rfl)) (hP _ _ ⟨s, hI, (Int32.ofInt 0), rfl, rfl, in_w 0 1 (in_c 0 rfl) rfl⟩)
                  · skip
                    refine g_aload_n 76 (gd rfl) rfl rfl ?_
                    refine g_getA (q2 := 34) 79 (gd rfl) rfl rfl rfl rfl rfl ?_
                    refine g_iload 81 (gd rfl) rfl rfl ?_
                    refine g_iaload 82 (gd rfl) rfl (n := 160) rfl (in_ix i31 rfl) (fun z85 e86 => ?_)
                    have q87 : z41 = z85 := (e42).trans e86.symm
                    subst q87
                    refine g_iload 84 (gd rfl) rfl rfl ?_
                    refine g_cmp_ne 87 100 (gd rfl) rfl rfl (fun c88 => ?_) (fun c88 => ?_)
                    · skip
                      refine g_iinc 103 (gd rfl) rfl rfl (Nat.le_of_ble_eq_true rfl) (fun z89 e90 => ?_)
                      have i91 := in_add 1 160 e90 i31 (in_c 1 rfl) rfl rfl
                      refine g_goto 28 (gd rfl) rfl ?_
                      exact gg_w (by omega) (gg_f (gf_cons rfl (gf_cons rfl (gf_cons rfl (gf_cons rfl (gf_cons rfl (gf_cons rfl gf_nil)))))) (ih28 s y28_3 y28_4 z89 hI (in_w 0 31 j28_3 rfl) (in_w 0 31 j28_4 rfl) (in_w 0 160 i91 rfl) (m_up mm28 (t_add e90 i31 (in_c 1 rfl) rfl) (in_w 1 1 (in_c 1 rfl) rfl))))
                    · skip
                      refine g_aload_n 88 (gd rfl) rfl rfl ?_
                      refine g_getA (q2 := 35) 91 (gd rfl) rfl rfl rfl rfl rfl ?_
                      refine g_iload 93 (gd rfl) rfl rfl ?_
                      refine g_iaload 94 (gd rfl) rfl (n := 160) rfl (in_ix i31 rfl) (fun z92 e93 => ?_)
                      have q94 : z54 = z92 := (e55).trans e93.symm
                      subst q94
                      refine g_iload_n 95 (gd rfl) rfl rfl ?_
                      refine g_cmp_ne 98 100 (gd rfl) rfl rfl (fun c95 => ?_) (fun c95 => ?_)
                      · skip
                        refine g_iinc 103 (gd rfl) rfl rfl (Nat.le_of_ble_eq_true rfl) (fun z96 e97 => ?_)
                        have i98 := in_add 1 160 e97 i31 (in_c 1 rfl) rfl rfl
                        refine g_goto 28 (gd rfl) rfl ?_
                        exact gg_w (by omega) (gg_f (gf_cons rfl (gf_cons rfl (gf_cons rfl (gf_cons rfl (gf_cons rfl (gf_cons rfl gf_nil)))))) (ih28 s y28_3 y28_4 z96 hI (in_w 0 31 j28_3 rfl) (in_w 0 31 j28_4 rfl) (in_w 0 160 i98 rfl) (m_up mm28 (t_add e97 i31 (in_c 1 rfl) rfl) (in_w 1 1 (in_c 1 rfl) rfl))))
                      · skip
                        refine g_iconst 0 99 (gd rfl) rfl rfl ?_
                        exact g_ireturn (gd rfl) rfl (nb01 (in_w 0 1 (in_c 0 rfl) rfl)) (hP _ _ ⟨s, hI, (Int32.ofInt 0), rfl, rfl, in_w 0 1 (in_c 0 rfl) rfl⟩)
  refine g_enter2 (k := 142) (N := 145801) (by omega) rfl (Nat.le_of_ble_eq_true rfl) ?_
  refine g_aload_n 1 (gd rfl) rfl rfl ?_
  refine g_iload_n 2 (gd rfl) rfl rfl ?_
  refine g_callv (X := _) (As := [.int x2]) (r := []) (b := A 32) (q := 32) 5 (gd rfl) rfl rfl rfl rfl rfl (ww_o rfl) (Nat.le_of_ble_eq_true rfl) (mc := 0) (ms := 0) (Nat.zero_le _) (Nat.zero_le _) (P := fun v u => _) ?_ (fun e u h => h) (fun v u h => h)
  intro po99 xx100 hp101 hx102
  refine g_enter2 (k := 97) (N := 300) (by omega) rfl (Nat.le_of_ble_eq_true rfl) ?_
  refine g_aload_n 1 (gd rfl) rfl rfl ?_
  refine g_getA (q2 := 34) 4 (gd rfl) rfl rfl rfl rfl rfl ?_
  refine g_iload_n 5 (gd rfl) rfl rfl ?_
  refine g_iaload 6 (gd rfl) rfl (n := 160) rfl (in_ix h2 rfl) (fun z103 e104 => ?_)
  have i105 := inv_I hI (n := 160) (t := 0) (-1) 31 rfl (in_ix h2 rfl) rfl e104
  refine g_iconst (-1) 7 (gd rfl) rfl rfl ?_
  refine g_cmp_eq 10 29 (gd rfl) rfl rfl (fun c106 => ?_) (fun c106 => ?_)
  · skip
    have i107 := r_eq1 (-1) (-1) c106 i105 (in_c (-1) rfl) rfl
    refine g_iconst 0 30 (gd rfl) rfl rfl ?_
    refine g_ireturn (gd rfl) rfl (nb01 (in_w 0 1 (in_c 0 rfl) rfl)) (hp101 _ _ ?_)
    show GG _ _ _ _ _ _ _ _ [.int (Int32.ofInt 0)] _ _ _
    refine g_if_ne 8 10 (gd rfl) rfl rfl (fun c108 => ?_) (fun c108 => ?_)
    · skip
      exact zn_ne c108 (in_c 0 rfl) rfl
    · skip
      refine g_iconst 0 9 (gd rfl) rfl rfl ?_
      exact g_ireturn (gd rfl) rfl (nb01 (in_w 0 1 (in_c 0 rfl) rfl)) (hP _ _ ⟨s, hI, (Int32.ofInt 0), rfl, rfl, in_w 0 1 (in_c 0 rfl) rfl⟩)
  · skip
    have i109 := r_ne1 0 31 c106 i105 (in_c (-1) rfl) rfl
    refine g_aload_n 11 (gd rfl) rfl rfl ?_
    refine g_getA (q2 := 34) 14 (gd rfl) rfl rfl rfl rfl rfl ?_
    refine g_iload_n 15 (gd rfl) rfl rfl ?_
    refine g_iaload 16 (gd rfl) rfl (n := 160) rfl (in_ix h2 rfl) (fun z110 e111 => ?_)
    have q112 : z103 = z110 := (e104).trans e111.symm
    subst q112
    refine g_aload_n 17 (gd rfl) rfl rfl ?_
    refine g_getA (q2 := 35) 20 (gd rfl) rfl rfl rfl rfl rfl ?_
    refine g_iload_n 21 (gd rfl) rfl rfl ?_
    refine g_iaload 22 (gd rfl) rfl (n := 160) rfl (in_ix h2 rfl) (fun z113 e114 => ?_)
    have i115 := inv_I hI (n := 160) (t := 0) 0 31 rfl (in_ix h2 rfl) rfl e114
    refine g_cmp_eq 25 29 (gd rfl) rfl rfl (fun c116 => ?_) (fun c116 => ?_)
    · skip
      refine g_iconst 0 30 (gd rfl) rfl rfl ?_
      refine g_ireturn (gd rfl) rfl (nb01 (in_w 0 1 (in_c 0 rfl) rfl)) (hp101 _ _ ?_)
      show GG _ _ _ _ _ _ _ _ [.int (Int32.ofInt 0)] _ _ _
      refine g_if_ne 8 10 (gd rfl) rfl rfl (fun c117 => ?_) (fun c117 => ?_)
      · skip
        exact zn_ne c117 (in_c 0 rfl) rfl
      · skip
        refine g_iconst 0 9 (gd rfl) rfl rfl ?_
        exact g_ireturn (gd rfl) rfl (nb01 (in_w 0 1 (in_c 0 rfl) rfl)) (hP _ _ ⟨s, hI, (Int32.ofInt 0), rfl, rfl, in_w 0 1 (in_c 0 rfl) rfl⟩)
    · skip
      refine g_iconst 1 26 (gd rfl) rfl rfl ?_
      refine g_goto 30 (gd rfl) rfl ?_
      refine g_ireturn (gd rfl) rfl (nb01 (in_w 0 1 (in_c 1 rfl) rfl)) (hp101 _ _ ?_)
      show GG _ _ _ _ _ _ _ _ [.int (Int32.ofInt 1)] _ _ _
      refine g_if_ne 8 10 (gd rfl) rfl rfl (fun c118 => ?_) (fun c118 => ?_)
      · skip
        refine g_aload_n 11 (gd rfl) rfl rfl ?_
        refine g_getA (q2 := 34) 14 (gd rfl) rfl rfl rfl rfl rfl ?_
        refine g_iload_n 15 (gd rfl) rfl rfl ?_
        refine g_iaload 16 (gd rfl) rfl (n := 160) rfl (in_ix h2 rfl) (fun z119 e120 => ?_)
        have q121 : z103 = z119 := (e104).trans e120.symm
        subst q121
        refine g_istore_n 17 (gd rfl) rfl (Nat.le_of_ble_eq_true rfl) ?_
        refine g_aload_n 18 (gd rfl) rfl rfl ?_
        refine g_getA (q2 := 35) 21 (gd rfl) rfl rfl rfl rfl rfl ?_
        refine g_iload_n 22 (gd rfl) rfl rfl ?_
        refine g_iaload 23 (gd rfl) rfl (n := 160) rfl (in_ix h2 rfl) (fun z122 e123 => ?_)
        have q124 : z113 = z122 := (e114).trans e123.symm
        subst q124
        refine g_istore 25 (gd rfl) rfl (Nat.le_of_ble_eq_true rfl) ?_
        refine g_iconst 0 26 (gd rfl) rfl rfl ?_
        refine g_istore 28 (gd rfl) rfl (Nat.le_of_ble_eq_true rfl) ?_
        exact gg_w (by omega) (gg_f (gf_cons rfl (gf_cons rfl (gf_cons rfl (gf_cons rfl (gf_cons rfl (gf_cons rfl gf_nil)))))) (ct28 161 s z103 z113 (Int32.ofInt 0) hI (in_w 0 31 i109 rfl) (in_w 0 31 i115 rfl) (in_w 0 160 (in_c 0 rfl) rfl) (m_in 161 (in_w 0 160 (in_c 0 rfl) rfl) rfl)))
      · skip
        exact zn_eq c118 (in_c 1 rfl) rfl

/-- GraphHouse$Parts.makeOrder -/
theorem k_145_56_2 {Z : AmZ} {A : Nat → Nat} {s : GS} {ex : va_W} {d : Nat} {X : AmX}  (hd : 5 ≤ d) (hI : Inv s)  : GC Z d 145 [.ref (A 56), .ref (A 2)] (WW Z A s ++ ex) 0 0 (fun v u => ∃ t : GS, Inv t ∧ v = none ∧ u = WW Z A t ++ ex) X := by
  intro post xp hP hX
  have ct11 : ∀ (k11 : Nat) (s : GS) (y11_2 : Int32) (y11_3 : Int32), Inv s → In y11_3 0 32 → 32 - (y11_3).toInt < (k11 : Int) → GG Z (d - 1) 145 post (gx xp) (1 + k11 * 900) 11 (fun j => xlook j [(0, .ref (A 56)), (1, .ref (A 2)), (2, .int y11_2), (3, .int y11_3)]) [] (WW Z A s ++ ex) 0 0 := by
    intro k11
    induction k11 with
    | zero => intro s y11_2 y11_3 hI j11_3 mm11; exact m_no mm11 j11_3 rfl
    | succ k11 ih11 =>
      intro s y11_2 y11_3 hI j11_3 mm11
      refine gg_w (M := 1 + k11 * 900 + 900) (by omega) ?_
      refine g_iload_n 12 (gd rfl) rfl rfl ?_
      refine g_aload_n 13 (gd rfl) rfl rfl ?_
      refine g_getI 16 (gd rfl) rfl rfl rfl (fun z1 e2 => ?_)
      have i3 := inv_F hI 0 32 rfl e2
      refine g_cmp_ge 19 61 (gd rfl) rfl rfl (fun c4 => ?_) (fun c4 => ?_)
      · skip
        refine g_aload_n 62 (gd rfl) rfl rfl ?_
        refine g_aload_n 63 (gd rfl) rfl rfl ?_
        refine g_getI 66 (gd rfl) rfl rfl rfl (fun z5 e6 => ?_)
        have q7 : z1 = z5 := (e2).trans e6.symm
        subst q7
        refine g_putI 69 (gd rfl) rfl rfl rfl rfl ?_
        have hI8 := inv_sF (q := 56) (j := 1) hI rfl (in_w 0 32 i3 rfl)
        exact g_return (gd rfl) rfl (hP _ _ ⟨(sF s 56 1 z1), hI8, rfl, rfl⟩)
      · skip
        have i9 := r_lt1 0 31 c4 j11_3 i3 rfl
        have i10 := r_lt2 1 32 c4 j11_3 i3 rfl
        refine g_aload_n 20 (gd rfl) rfl rfl ?_
        refine g_iload_n 21 (gd rfl) rfl rfl ?_
        refine g_calls (As := [.ref (A 2), .int y11_2]) (r := []) 24 (gd rfl) rfl rfl rfl rfl rfl (Nat.le_of_ble_eq_true rfl) (Nat.zero_le _) (Nat.zero_le _) (k_146_2 (by omega) hI ) (fun v u h => ?_)
        obtain ⟨z11, rfl, rfl, i12⟩ := h
        show GG _ _ _ _ _ _ _ _ [.int z11] _ _ _
        refine g_istore 26 (gd rfl) rfl (Nat.le_of_ble_eq_true rfl) ?_
        refine g_iload 28 (gd rfl) rfl rfl ?_
        refine g_iconst (-1) 29 (gd rfl) rfl rfl ?_
        refine g_cmp_ne 32 38 (gd rfl) rfl rfl (fun c13 => ?_) (fun c13 => ?_)
        · skip
          have i14 := r_ne1 0 31 c13 i12 (in_c (-1) rfl) rfl
          refine g_aload_n 39 (gd rfl) rfl rfl ?_
          refine g_getA (q2 := 57) 42 (gd rfl) rfl rfl rfl rfl rfl ?_
          refine g_iload_n 43 (gd rfl) rfl rfl ?_
          refine g_iload 45 (gd rfl) rfl rfl ?_
          refine g_iastore 46 (gd rfl) rfl (n := 32) rfl (in_ix i9 rfl) ?_
          have hI15 := inv_sI (q := 57) (j := y11_3.toNatClampNeg) hI rfl (in_w 0 31 i14 rfl)
          refine g_iload_n 47 (gd rfl) rfl rfl ?_
          refine g_iconst 1 48 (gd rfl) rfl rfl ?_
          refine g_iload 50 (gd rfl) rfl rfl ?_
          refine g_ishl 51 (gd rfl) rfl (fun z16 e17 => ?_)
          refine g_iconst (-1) 52 (gd rfl) rfl rfl ?_
          refine g_ixor 53 (gd rfl) rfl (fun z18 e19 => ?_)
          refine g_iand 54 (gd rfl) rfl (fun z20 e21 => ?_)
          refine g_istore_n 55 (gd rfl) rfl (Nat.le_of_ble_eq_true rfl) ?_
          refine g_iinc 58 (gd rfl) rfl rfl (Nat.le_of_ble_eq_true rfl) (fun z22 e23 => ?_)
          have i24 := in_add 1 32 e23 i9 (in_c 1 rfl) rfl rfl
          refine g_goto 11 (gd rfl) rfl ?_
          exact gg_w (by omega) (gg_f (gf_cons rfl (gf_cons rfl (gf_cons rfl (gf_cons rfl gf_nil)))) (ih11 (sI s 57 y11_3.toNatClampNeg z11) z20 z22 hI15 (in_w 0 32 i24 rfl) (m_up mm11 (t_add e23 i9 (in_c 1 rfl) rfl) (in_w 1 1 (in_c 1 rfl) rfl))))
        · skip
          have i25 := r_eq1 (-1) (-1) c13 i12 (in_c (-1) rfl) rfl
          refine g_aload_n 33 (gd rfl) rfl rfl ?_
          refine g_iconst 0 34 (gd rfl) rfl rfl ?_
          refine g_putI 37 (gd rfl) rfl rfl rfl rfl ?_
          have hI26 := inv_sF (q := 56) (j := 1) hI rfl (in_w 0 32 (in_c 0 rfl) rfl)
          exact g_return (gd rfl) rfl (hP _ _ ⟨(sF s 56 1 (Int32.ofInt 0)), hI26, rfl, rfl⟩)
  refine g_enter2 (k := 145) (N := 30601) (by omega) rfl (Nat.le_of_ble_eq_true rfl) ?_
  refine g_aload_n 1 (gd rfl) rfl rfl ?_
  refine g_callv (X := _) (As := []) (r := []) (b := A 2) (q := 2) 4 (gd rfl) rfl rfl rfl rfl rfl (ww_o rfl) (Nat.le_of_ble_eq_true rfl) (Nat.zero_le _) (Nat.zero_le _) (k_106_2 (by omega) hI ) (fun e u h => h) (fun v u h => ?_)
  obtain ⟨s27, hI28, rfl, rfl⟩ := h
  show GG _ _ _ _ _ _ _ _ [] _ _ _
  refine g_aload_n 5 (gd rfl) rfl rfl ?_
  refine g_callv (X := _) (As := []) (r := []) (b := A 2) (q := 2) 8 (gd rfl) rfl rfl rfl rfl rfl (ww_o rfl) (Nat.le_of_ble_eq_true rfl) (mc := 0) (ms := 0) (Nat.zero_le _) (Nat.zero_le _) (P := fun v u => _) ?_ (fun e u h => h) (fun v u h => h)
  intro po31 xx32 hp33 hx34
  refine g_enter2 (k := 102) (N := 300) (by omega) rfl (Nat.le_of_ble_eq_true rfl) ?_
  refine g_aload_n 1 (gd rfl) rfl rfl ?_
  refine g_getI 4 (gd rfl) rfl rfl rfl (fun z35 e36 => ?_)
  have i37 := inv_F hI28 0 32 rfl e36
  refine g_bipush 32 6 (gd rfl) rfl rfl ?_
  refine g_cmp_lt 9 13 (gd rfl) rfl rfl (fun c38 => ?_) (fun c38 => ?_)
  · skip
    have i39 := r_lt1 0 31 c38 i37 (in_c 32 rfl) rfl
    refine g_iconst 1 14 (gd rfl) rfl rfl ?_
    refine g_aload_n 15 (gd rfl) rfl rfl ?_
    refine g_getI 18 (gd rfl) rfl rfl rfl (fun z40 e41 => ?_)
    have q42 : z35 = z40 := (e36).trans e41.symm
    subst q42
    refine g_ishl 19 (gd rfl) rfl (fun z43 e44 => ?_)
    refine g_iconst 1 20 (gd rfl) rfl rfl ?_
    refine g_isub 21 (gd rfl) rfl (fun z45 e46 => ?_)
    refine g_ireturn (gd rfl) rfl rfl (hp33 _ _ ?_)
    show GG _ _ _ _ _ _ _ _ [.int z45] _ _ _
    refine g_istore_n 9 (gd rfl) rfl (Nat.le_of_ble_eq_true rfl) ?_
    refine g_iconst 0 10 (gd rfl) rfl rfl ?_
    refine g_istore_n 11 (gd rfl) rfl (Nat.le_of_ble_eq_true rfl) ?_
    exact gg_w (by omega) (gg_f (gf_cons rfl (gf_cons rfl (gf_cons rfl (gf_cons rfl gf_nil)))) (ct11 33 s27 z45 (Int32.ofInt 0) hI28 (in_w 0 32 (in_c 0 rfl) rfl) (m_in 33 (in_w 0 32 (in_c 0 rfl) rfl) rfl)))
  · skip
    have i47 := r_le2 32 32 c38 (in_c 32 rfl) i37 rfl
    refine g_iconst (-1) 10 (gd rfl) rfl rfl ?_
    refine g_goto 21 (gd rfl) rfl ?_
    refine g_ireturn (gd rfl) rfl rfl (hp33 _ _ ?_)
    show GG _ _ _ _ _ _ _ _ [.int (Int32.ofInt (-1))] _ _ _
    refine g_istore_n 9 (gd rfl) rfl (Nat.le_of_ble_eq_true rfl) ?_
    refine g_iconst 0 10 (gd rfl) rfl rfl ?_
    refine g_istore_n 11 (gd rfl) rfl (Nat.le_of_ble_eq_true rfl) ?_
    exact gg_w (by omega) (gg_f (gf_cons rfl (gf_cons rfl (gf_cons rfl (gf_cons rfl gf_nil)))) (ct11 33 s27 (Int32.ofInt (-1)) (Int32.ofInt 0) hI28 (in_w 0 32 (in_c 0 rfl) rfl) (m_in 33 (in_w 0 32 (in_c 0 rfl) rfl) rfl)))

/-- GraphHouse$Parts.makeOrder -/
theorem k_145_56_32 {Z : AmZ} {A : Nat → Nat} {s : GS} {ex : va_W} {d : Nat} {X : AmX}  (hd : 5 ≤ d) (hI : Inv s)  : GC Z d 145 [.ref (A 56), .ref (A 32)] (WW Z A s ++ ex) 0 0 (fun v u => ∃ t : GS, Inv t ∧ v = none ∧ u = WW Z A t ++ ex) X := by
  intro post xp hP hX
  have ct11 : ∀ (k11 : Nat) (s : GS) (y11_2 : Int32) (y11_3 : Int32), Inv s → In y11_3 0 32 → 32 - (y11_3).toInt < (k11 : Int) → GG Z (d - 1) 145 post (gx xp) (1 + k11 * 900) 11 (fun j => xlook j [(0, .ref (A 56)), (1, .ref (A 32)), (2, .int y11_2), (3, .int y11_3)]) [] (WW Z A s ++ ex) 0 0 := by
    intro k11
    induction k11 with
    | zero => intro s y11_2 y11_3 hI j11_3 mm11; exact m_no mm11 j11_3 rfl
    | succ k11 ih11 =>
      intro s y11_2 y11_3 hI j11_3 mm11
      refine gg_w (M := 1 + k11 * 900 + 900) (by omega) ?_
      refine g_iload_n 12 (gd rfl) rfl rfl ?_
      refine g_aload_n 13 (gd rfl) rfl rfl ?_
      refine g_getI 16 (gd rfl) rfl rfl rfl (fun z1 e2 => ?_)
      have i3 := inv_F hI 0 32 rfl e2
      refine g_cmp_ge 19 61 (gd rfl) rfl rfl (fun c4 => ?_) (fun c4 => ?_)
      · skip
        refine g_aload_n 62 (gd rfl) rfl rfl ?_
        refine g_aload_n 63 (gd rfl) rfl rfl ?_
        refine g_getI 66 (gd rfl) rfl rfl rfl (fun z5 e6 => ?_)
        have q7 : z1 = z5 := (e2).trans e6.symm
        subst q7
        refine g_putI 69 (gd rfl) rfl rfl rfl rfl ?_
        have hI8 := inv_sF (q := 56) (j := 1) hI rfl (in_w 0 32 i3 rfl)
        exact g_return (gd rfl) rfl (hP _ _ ⟨(sF s 56 1 z1), hI8, rfl, rfl⟩)
      · skip
        have i9 := r_lt1 0 31 c4 j11_3 i3 rfl
        have i10 := r_lt2 1 32 c4 j11_3 i3 rfl
        refine g_aload_n 20 (gd rfl) rfl rfl ?_
        refine g_iload_n 21 (gd rfl) rfl rfl ?_
        refine g_calls (As := [.ref (A 32), .int y11_2]) (r := []) 24 (gd rfl) rfl rfl rfl rfl rfl (Nat.le_of_ble_eq_true rfl) (Nat.zero_le _) (Nat.zero_le _) (k_146_32 (by omega) hI ) (fun v u h => ?_)
        obtain ⟨z11, rfl, rfl, i12⟩ := h
        show GG _ _ _ _ _ _ _ _ [.int z11] _ _ _
        refine g_istore 26 (gd rfl) rfl (Nat.le_of_ble_eq_true rfl) ?_
        refine g_iload 28 (gd rfl) rfl rfl ?_
        refine g_iconst (-1) 29 (gd rfl) rfl rfl ?_
        refine g_cmp_ne 32 38 (gd rfl) rfl rfl (fun c13 => ?_) (fun c13 => ?_)
        · skip
          have i14 := r_ne1 0 31 c13 i12 (in_c (-1) rfl) rfl
          refine g_aload_n 39 (gd rfl) rfl rfl ?_
          refine g_getA (q2 := 57) 42 (gd rfl) rfl rfl rfl rfl rfl ?_
          refine g_iload_n 43 (gd rfl) rfl rfl ?_
          refine g_iload 45 (gd rfl) rfl rfl ?_
          refine g_iastore 46 (gd rfl) rfl (n := 32) rfl (in_ix i9 rfl) ?_
          have hI15 := inv_sI (q := 57) (j := y11_3.toNatClampNeg) hI rfl (in_w 0 31 i14 rfl)
          refine g_iload_n 47 (gd rfl) rfl rfl ?_
          refine g_iconst 1 48 (gd rfl) rfl rfl ?_
          refine g_iload 50 (gd rfl) rfl rfl ?_
          refine g_ishl 51 (gd rfl) rfl (fun z16 e17 => ?_)
          refine g_iconst (-1) 52 (gd rfl) rfl rfl ?_
          refine g_ixor 53 (gd rfl) rfl (fun z18 e19 => ?_)
          refine g_iand 54 (gd rfl) rfl (fun z20 e21 => ?_)
          refine g_istore_n 55 (gd rfl) rfl (Nat.le_of_ble_eq_true rfl) ?_
          refine g_iinc 58 (gd rfl) rfl rfl (Nat.le_of_ble_eq_true rfl) (fun z22 e23 => ?_)
          have i24 := in_add 1 32 e23 i9 (in_c 1 rfl) rfl rfl
          refine g_goto 11 (gd rfl) rfl ?_
          exact gg_w (by omega) (gg_f (gf_cons rfl (gf_cons rfl (gf_cons rfl (gf_cons rfl gf_nil)))) (ih11 (sI s 57 y11_3.toNatClampNeg z11) z20 z22 hI15 (in_w 0 32 i24 rfl) (m_up mm11 (t_add e23 i9 (in_c 1 rfl) rfl) (in_w 1 1 (in_c 1 rfl) rfl))))
        · skip
          have i25 := r_eq1 (-1) (-1) c13 i12 (in_c (-1) rfl) rfl
          refine g_aload_n 33 (gd rfl) rfl rfl ?_
          refine g_iconst 0 34 (gd rfl) rfl rfl ?_
          refine g_putI 37 (gd rfl) rfl rfl rfl rfl ?_
          have hI26 := inv_sF (q := 56) (j := 1) hI rfl (in_w 0 32 (in_c 0 rfl) rfl)
          exact g_return (gd rfl) rfl (hP _ _ ⟨(sF s 56 1 (Int32.ofInt 0)), hI26, rfl, rfl⟩)
  refine g_enter2 (k := 145) (N := 30601) (by omega) rfl (Nat.le_of_ble_eq_true rfl) ?_
  refine g_aload_n 1 (gd rfl) rfl rfl ?_
  refine g_callv (X := _) (As := []) (r := []) (b := A 32) (q := 32) 4 (gd rfl) rfl rfl rfl rfl rfl (ww_o rfl) (Nat.le_of_ble_eq_true rfl) (Nat.zero_le _) (Nat.zero_le _) (k_106_32 (by omega) hI ) (fun e u h => h) (fun v u h => ?_)
  obtain ⟨s27, hI28, rfl, rfl⟩ := h
  show GG _ _ _ _ _ _ _ _ [] _ _ _
  refine g_aload_n 5 (gd rfl) rfl rfl ?_
  refine g_callv (X := _) (As := []) (r := []) (b := A 32) (q := 32) 8 (gd rfl) rfl rfl rfl rfl rfl (ww_o rfl) (Nat.le_of_ble_eq_true rfl) (mc := 0) (ms := 0) (Nat.zero_le _) (Nat.zero_le _) (P := fun v u => _) ?_ (fun e u h => h) (fun v u h => h)
  intro po31 xx32 hp33 hx34
  refine g_enter2 (k := 102) (N := 300) (by omega) rfl (Nat.le_of_ble_eq_true rfl) ?_
  refine g_aload_n 1 (gd rfl) rfl rfl ?_
  refine g_getI 4 (gd rfl) rfl rfl rfl (fun z35 e36 => ?_)
  have i37 := inv_F hI28 0 32 rfl e36
  refine g_bipush 32 6 (gd rfl) rfl rfl ?_
  refine g_cmp_lt 9 13 (gd rfl) rfl rfl (fun c38 => ?_) (fun c38 => ?_)
  · skip
    have i39 := r_lt1 0 31 c38 i37 (in_c 32 rfl) rfl
    refine g_iconst 1 14 (gd rfl) rfl rfl ?_
    refine g_aload_n 15 (gd rfl) rfl rfl ?_
    refine g_getI 18 (gd rfl) rfl rfl rfl (fun z40 e41 => ?_)
    have q42 : z35 = z40 := (e36).trans e41.symm
    subst q42
    refine g_ishl 19 (gd rfl) rfl (fun z43 e44 => ?_)
    refine g_iconst 1 20 (gd rfl) rfl rfl ?_
    refine g_isub 21 (gd rfl) rfl (fun z45 e46 => ?_)
    refine g_ireturn (gd rfl) rfl rfl (hp33 _ _ ?_)
    show GG _ _ _ _ _ _ _ _ [.int z45] _ _ _
    refine g_istore_n 9 (gd rfl) rfl (Nat.le_of_ble_eq_true rfl) ?_
    refine g_iconst 0 10 (gd rfl) rfl rfl ?_
    refine g_istore_n 11 (gd rfl) rfl (Nat.le_of_ble_eq_true rfl) ?_
    exact gg_w (by omega) (gg_f (gf_cons rfl (gf_cons rfl (gf_cons rfl (gf_cons rfl gf_nil)))) (ct11 33 s27 z45 (Int32.ofInt 0) hI28 (in_w 0 32 (in_c 0 rfl) rfl) (m_in 33 (in_w 0 32 (in_c 0 rfl) rfl) rfl)))
  · skip
    have i47 := r_le2 32 32 c38 (in_c 32 rfl) i37 rfl
    refine g_iconst (-1) 10 (gd rfl) rfl rfl ?_
    refine g_goto 21 (gd rfl) rfl ?_
    refine g_ireturn (gd rfl) rfl rfl (hp33 _ _ ?_)
    show GG _ _ _ _ _ _ _ _ [.int (Int32.ofInt (-1))] _ _ _
    refine g_istore_n 9 (gd rfl) rfl (Nat.le_of_ble_eq_true rfl) ?_
    refine g_iconst 0 10 (gd rfl) rfl rfl ?_
    refine g_istore_n 11 (gd rfl) rfl (Nat.le_of_ble_eq_true rfl) ?_
    exact gg_w (by omega) (gg_f (gf_cons rfl (gf_cons rfl (gf_cons rfl (gf_cons rfl gf_nil)))) (ct11 33 s27 (Int32.ofInt (-1)) (Int32.ofInt 0) hI28 (in_w 0 32 (in_c 0 rfl) rfl) (m_in 33 (in_w 0 32 (in_c 0 rfl) rfl) rfl)))

/-- GraphHouse$Question.isGood -/
theorem k_155_46 {Z : AmZ} {A : Nat → Nat} {s : GS} {ex : va_W} {d : Nat} {X : AmX}  (hd : 4 ≤ d) (hI : Inv s)  : GC Z d 155 [.ref (A 46)] (WW Z A s ++ ex) 0 0 (fun v u => ∃ t : GS, Inv t ∧ ∃ z : Int32, v = some (.int z) ∧ u = WW Z A t ++ ex ∧ In z 0 1) X := by
  intro post xp hP hX
  have ct108 : ∀ (s : GS) (y108_1 : Int32) (y108_2 : Int32) (y108_3 : Int32), Inv s → In y108_1 0 0 → In y108_2 0 1 → In y108_3 0 2001 → GG Z (d - 1) 155 post (gx xp) (901) 108 (fun j => xlook j [(0, .ref (A 46)), (1, .int y108_1), (2, .int y108_2), (3, .int y108_3)]) [] (WW Z A s ++ ex) 0 0 := by
    intro s y108_1 y108_2 y108_3 hI j108_1 j108_2 j108_3
    refine g_iconst 1 109 (gd rfl) rfl rfl ?_
    refine g_goto 113 (gd rfl) rfl ?_
    exact g_ireturn (gd rfl) rfl (nb01 (in_w 0 1 (in_c 1 rfl) rfl)) (hP _ _ ⟨s, hI, (Int32.ofInt 1), rfl, rfl, in_w 0 1 (in_c 1 rfl) rfl⟩)
  have ct6 : ∀ (k6 : Nat) (s : GS) (y6_1 : Int32) (y6_2 : Int32) (y6_3 : Int32), Inv s → In y6_2 0 1 → In y6_3 0 2001 → 2001 - (y6_3).toInt < (k6 : Int) → GG Z (d - 1) 155 post (gx xp) (902 + k6 * 3603) 6 (fun j => xlook j [(0, .ref (A 46)), (1, .int y6_1), (2, .int y6_2), (3, .int y6_3)]) [] (WW Z A s ++ ex) 0 0 := by
    intro k6
    induction k6 with
    | zero => intro s y6_1 y6_2 y6_3 hI j6_2 j6_3 mm6; exact m_no mm6 j6_3 rfl
    | succ k6 ih6 =>
      intro s y6_1 y6_2 y6_3 hI j6_2 j6_3 mm6
      refine gg_w (M := 902 + k6 * 3603 + 3603) (by omega) ?_
      have ct80 : ∀ (s : GS) (y80_1 : Int32) (y80_4 : Int32) (y80_5 : Int32), Inv s → In y6_3 0 1000 → In y80_4 41 122 → In y80_5 (-1) (-1) → GG Z (d - 1) 155 post (gx xp) (902 + k6 * 3603 + 901) 80 (fun j => xlook j [(0, .ref (A 46)), (1, .int y80_1), (2, .int y6_2), (3, .int y6_3), (4, .int y80_4), (5, .int y80_5)]) [] (WW Z A s ++ ex) 0 0 := by
        intro s y80_1 y80_4 y80_5 hI j80_3 j80_4 j80_5
        refine g_iconst 1 81 (gd rfl) rfl rfl ?_
        refine g_goto 85 (gd rfl) rfl ?_
        refine g_istore_n 86 (gd rfl) rfl (Nat.le_of_ble_eq_true rfl) ?_
        refine g_iinc 89 (gd rfl) rfl rfl (Nat.le_of_ble_eq_true rfl) (fun z1 e2 => ?_)
        have i3 := in_add 1 1001 e2 j80_3 (in_c 1 rfl) rfl rfl
        refine g_goto 6 (gd rfl) rfl ?_
        exact gg_w (by omega) (gg_f (gf_cons rfl (gf_cons rfl (gf_cons rfl (gf_cons rfl gf_nil)))) (ih6 s y80_1 (Int32.ofInt 1) z1 hI (in_w 0 1 (in_c 1 rfl) rfl) (in_w 0 2001 i3 rfl) (m_up mm6 (t_add e2 j80_3 (in_c 1 rfl) rfl) (in_w 1 1 (in_c 1 rfl) rfl))))
      have ct65 : ∀ (s : GS) (y65_1 : Int32) (y65_4 : Int32) (y65_5 : Int32), Inv s → In y6_3 0 1000 → In y65_4 40 124 → In y65_5 (-1) (-1) → GG Z (d - 1) 155 post (gx xp) (902 + k6 * 3603 + 1802) 65 (fun j => xlook j [(0, .ref (A 46)), (1, .int y65_1), (2, .int y6_2), (3, .int y6_3), (4, .int y65_4), (5, .int y65_5)]) [] (WW Z A s ++ ex) 0 0 := by
        intro s y65_1 y65_4 y65_5 hI j65_3 j65_4 j65_5
        refine g_iload 67 (gd rfl) rfl rfl ?_
        refine g_bipush 41 69 (gd rfl) rfl rfl ?_
        refine g_cmp_eq 72 80 (gd rfl) rfl rfl (fun c4 => ?_) (fun c4 => ?_)
        · skip
          have i5 := r_eq1 41 41 c4 j65_4 (in_c 41 rfl) rfl
          exact gg_w (by omega) (gg_f (gf_cons rfl (gf_cons rfl (gf_cons rfl (gf_cons rfl (gf_cons rfl (gf_cons rfl gf_nil)))))) (ct80 s y65_1 y65_4 y65_5 hI (in_w 0 1000 j65_3 rfl) (in_w 41 122 i5 rfl) (in_w (-1) (-1) j65_5 rfl)))
        · skip
          refine g_iload 74 (gd rfl) rfl rfl ?_
          refine g_calls (As := [.int y65_4]) (r := []) 77 (gd rfl) rfl rfl rfl rfl rfl (Nat.le_of_ble_eq_true rfl) (mc := 0) (ms := 0) (Nat.zero_le _) (Nat.zero_le _) (P := fun v u => _) ?_ (fun v u h => h)
          intro po6 xx7 hp8 hx9
          refine g_enter2 (k := 157) (N := 300) (by omega) rfl (Nat.le_of_ble_eq_true rfl) ?_
          refine g_iload_n 1 (gd rfl) rfl rfl ?_
          refine g_bipush 46 3 (gd rfl) rfl rfl ?_
          refine g_cmp_eq 6 18 (gd rfl) rfl rfl (fun c10 => ?_) (fun c10 => ?_)
          · skip
            have i11 := r_eq1 46 46 c10 j65_4 (in_c 46 rfl) rfl
            refine g_iconst 1 19 (gd rfl) rfl rfl ?_
            refine g_goto 23 (gd rfl) rfl ?_
            refine g_ireturn (gd rfl) rfl (nb01 (in_w 0 1 (in_c 1 rfl) rfl)) (hp8 _ _ ?_)
            show GG _ _ _ _ _ _ _ _ [.int (Int32.ofInt 1)] _ _ _
            refine g_if_eq 80 84 (gd rfl) rfl rfl (fun c12 => ?_) (fun c12 => ?_)
            · skip
              exact zn_eq c12 (in_c 1 rfl) rfl
            · skip
              exact gg_w (by omega) (gg_f (gf_cons rfl (gf_cons rfl (gf_cons rfl (gf_cons rfl (gf_cons rfl (gf_cons rfl gf_nil)))))) (ct80 s y65_1 y65_4 y65_5 hI (in_w 0 1000 j65_3 rfl) (in_w 41 122 i11 rfl) (in_w (-1) (-1) j65_5 rfl)))
          · skip
            refine g_iload_n 7 (gd rfl) rfl rfl ?_
            refine g_bipush 97 9 (gd rfl) rfl rfl ?_
            refine g_cmp_lt 12 22 (gd rfl) rfl rfl (fun c13 => ?_) (fun c13 => ?_)
            · skip
              have i14 := r_lt1 40 96 c13 j65_4 (in_c 97 rfl) rfl
              refine g_iconst 0 23 (gd rfl) rfl rfl ?_
              refine g_ireturn (gd rfl) rfl (nb01 (in_w 0 1 (in_c 0 rfl) rfl)) (hp8 _ _ ?_)
              show GG _ _ _ _ _ _ _ _ [.int (Int32.ofInt 0)] _ _ _
              refine g_if_eq 80 84 (gd rfl) rfl rfl (fun c15 => ?_) (fun c15 => ?_)
              · skip
                refine g_iconst 0 85 (gd rfl) rfl rfl ?_
                refine g_istore_n 86 (gd rfl) rfl (Nat.le_of_ble_eq_true rfl) ?_
                refine g_iinc 89 (gd rfl) rfl rfl (Nat.le_of_ble_eq_true rfl) (fun z16 e17 => ?_)
                have i18 := in_add 1 1001 e17 j65_3 (in_c 1 rfl) rfl rfl
                refine g_goto 6 (gd rfl) rfl ?_
                exact gg_w (by omega) (gg_f (gf_cons rfl (gf_cons rfl (gf_cons rfl (gf_cons rfl gf_nil)))) (ih6 s y65_1 (Int32.ofInt 0) z16 hI (in_w 0 1 (in_c 0 rfl) rfl) (in_w 0 2001 i18 rfl) (m_up mm6 (t_add e17 j65_3 (in_c 1 rfl) rfl) (in_w 1 1 (in_c 1 rfl) rfl))))
              · skip
                exact zn_ne c15 (in_c 0 rfl) rfl
            · skip
              have i19 := r_le2 97 124 c13 (in_c 97 rfl) j65_4 rfl
              refine g_iload_n 13 (gd rfl) rfl rfl ?_
              refine g_bipush 122 15 (gd rfl) rfl rfl ?_
              refine g_cmp_gt 18 22 (gd rfl) rfl rfl (fun c20 => ?_) (fun c20 => ?_)
              · skip
                have i21 := r_lt2 123 124 c20 (in_c 122 rfl) i19 rfl
                refine g_iconst 0 23 (gd rfl) rfl rfl ?_
                refine g_ireturn (gd rfl) rfl (nb01 (in_w 0 1 (in_c 0 rfl) rfl)) (hp8 _ _ ?_)
                show GG _ _ _ _ _ _ _ _ [.int (Int32.ofInt 0)] _ _ _
                refine g_if_eq 80 84 (gd rfl) rfl rfl (fun c22 => ?_) (fun c22 => ?_)
                · skip
                  refine g_iconst 0 85 (gd rfl) rfl rfl ?_
                  refine g_istore_n 86 (gd rfl) rfl (Nat.le_of_ble_eq_true rfl) ?_
                  refine g_iinc 89 (gd rfl) rfl rfl (Nat.le_of_ble_eq_true rfl) (fun z23 e24 => ?_)
                  have i25 := in_add 1 1001 e24 j65_3 (in_c 1 rfl) rfl rfl
                  refine g_goto 6 (gd rfl) rfl ?_
                  exact gg_w (by omega) (gg_f (gf_cons rfl (gf_cons rfl (gf_cons rfl (gf_cons rfl gf_nil)))) (ih6 s y65_1 (Int32.ofInt 0) z23 hI (in_w 0 1 (in_c 0 rfl) rfl) (in_w 0 2001 i25 rfl) (m_up mm6 (t_add e24 j65_3 (in_c 1 rfl) rfl) (in_w 1 1 (in_c 1 rfl) rfl))))
                · skip
                  exact zn_ne c22 (in_c 0 rfl) rfl
              · skip
                have i26 := r_le1 97 122 c20 i19 (in_c 122 rfl) rfl
                refine g_iconst 1 19 (gd rfl) rfl rfl ?_
                refine g_goto 23 (gd rfl) rfl ?_
                refine g_ireturn (gd rfl) rfl (nb01 (in_w 0 1 (in_c 1 rfl) rfl)) (hp8 _ _ ?_)
                show GG _ _ _ _ _ _ _ _ [.int (Int32.ofInt 1)] _ _ _
                refine g_if_eq 80 84 (gd rfl) rfl rfl (fun c27 => ?_) (fun c27 => ?_)
                · skip
                  exact zn_eq c27 (in_c 1 rfl) rfl
                · skip
                  exact gg_w (by omega) (gg_f (gf_cons rfl (gf_cons rfl (gf_cons rfl (gf_cons rfl (gf_cons rfl (gf_cons rfl gf_nil)))))) (ct80 s y65_1 y65_4 y65_5 hI (in_w 0 1000 j65_3 rfl) (in_w 41 122 i26 rfl) (in_w (-1) (-1) j65_5 rfl)))
      have ct55 : ∀ (s : GS) (y55_1 : Int32) (y55_4 : Int32) (y55_5 : Int32), Inv s → In y6_3 0 1000 → In y55_4 40 124 → In y55_5 (-1) (-1) → GG Z (d - 1) 155 post (gx xp) (902 + k6 * 3603 + 2703) 55 (fun j => xlook j [(0, .ref (A 46)), (1, .int y55_1), (2, .int y6_2), (3, .int y6_3), (4, .int y55_4), (5, .int y55_5)]) [] (WW Z A s ++ ex) 0 0 := by
        intro s y55_1 y55_4 y55_5 hI j55_3 j55_4 j55_5
        refine g_iload 57 (gd rfl) rfl rfl ?_
        refine g_bipush 41 59 (gd rfl) rfl rfl ?_
        refine g_cmp_ne 62 65 (gd rfl) rfl rfl (fun c28 => ?_) (fun c28 => ?_)
        · skip
          exact gg_w (by omega) (gg_f (gf_cons rfl (gf_cons rfl (gf_cons rfl (gf_cons rfl (gf_cons rfl (gf_cons rfl gf_nil)))))) (ct65 s y55_1 y55_4 y55_5 hI (in_w 0 1000 j55_3 rfl) (in_w 40 124 j55_4 rfl) (in_w (-1) (-1) j55_5 rfl)))
        · skip
          have i29 := r_eq1 41 41 c28 j55_4 (in_c 41 rfl) rfl
          refine g_iinc 65 (gd rfl) rfl rfl (Nat.le_of_ble_eq_true rfl) (fun z30 e31 => ?_)
          exact gg_w (by omega) (gg_f (gf_cons rfl (gf_cons rfl (gf_cons rfl (gf_cons rfl (gf_cons rfl (gf_cons rfl gf_nil)))))) (ct65 s z30 y55_4 y55_5 hI (in_w 0 1000 j55_3 rfl) (in_w 40 124 i29 rfl) (in_w (-1) (-1) j55_5 rfl)))
      refine g_iload_n 7 (gd rfl) rfl rfl ?_
      refine g_aload_n 8 (gd rfl) rfl rfl ?_
      refine g_getI 11 (gd rfl) rfl rfl rfl (fun z32 e33 => ?_)
      have i34 := inv_F hI 0 1000 rfl e33
      refine g_cmp_ge 14 92 (gd rfl) rfl rfl (fun c35 => ?_) (fun c35 => ?_)
      · skip
        refine g_iload_n 93 (gd rfl) rfl rfl ?_
        refine g_if_eq 96 108 (gd rfl) rfl rfl (fun c36 => ?_) (fun c36 => ?_)
        · skip
          have i37 := z_eq 0 0 c36 (i_rng y6_1) rfl
          exact gg_w (by omega) (gg_f (gf_cons rfl (gf_cons rfl (gf_cons rfl (gf_cons rfl gf_nil)))) (ct108 s y6_1 y6_2 y6_3 hI (in_w 0 0 i37 rfl) (in_w 0 1 j6_2 rfl) (in_w 0 2001 j6_3 rfl)))
        · skip
          refine g_aload_n 97 (gd rfl) rfl rfl ?_
          refine g_iconst 2 98 (gd rfl) rfl rfl ?_
          refine g_aload_n 99 (gd rfl) rfl rfl ?_
          refine g_getI 102 (gd rfl) rfl rfl rfl (fun z38 e39 => ?_)
          have q40 : z32 = z38 := (e33).trans e39.symm
          subst q40
          refine g_callv (X := _) (As := [.int (Int32.ofInt 2), .int z32]) (r := []) (b := A 46) (q := 46) 105 (gd rfl) rfl rfl rfl rfl rfl (ww_o rfl) (Nat.le_of_ble_eq_true rfl) (Nat.zero_le _) (Nat.zero_le _) (k_168_46 (by omega) hI (in_w 1 4 (in_c 2 rfl) rfl) (in_w 0 1000 i34 rfl)) (fun e u h => h) (fun v u h => ?_)
          obtain ⟨s41, hI42, z43, rfl, rfl, i44⟩ := h
          show GG _ _ _ _ _ _ _ _ [.int z43] _ _ _
          refine g_if_eq 108 112 (gd rfl) rfl rfl (fun c45 => ?_) (fun c45 => ?_)
          · skip
            refine g_iconst 0 113 (gd rfl) rfl rfl ?_
            exact g_ireturn (gd rfl) rfl (nb01 (in_w 0 1 (in_c 0 rfl) rfl)) (hP _ _ ⟨s41, hI42, (Int32.ofInt 0), rfl, rfl, in_w 0 1 (in_c 0 rfl) rfl⟩)
          · skip
            exact zn_ne c45 i44 rfl
      · skip
        have i46 := r_lt1 0 999 c35 j6_3 i34 rfl
        have i47 := r_lt2 1 1000 c35 j6_3 i34 rfl
        refine g_aload_n 15 (gd rfl) rfl rfl ?_
        refine g_getA (q2 := 47) 18 (gd rfl) rfl rfl rfl rfl rfl ?_
        refine g_iload_n 19 (gd rfl) rfl rfl ?_
        refine g_caload 20 (gd rfl) rfl (n := 1000) rfl (in_ix i46 rfl) (fun z48 e49 => ?_)
        have i50 := inv_I hI (n := 1000) (t := 2) 0 65535 rfl (in_ix i46 rfl) rfl e49
        refine g_istore 22 (gd rfl) rfl (Nat.le_of_ble_eq_true rfl) ?_
        refine g_iload 24 (gd rfl) rfl rfl ?_
        refine g_iload_n 25 (gd rfl) rfl rfl ?_
        refine g_iload_n 26 (gd rfl) rfl rfl ?_
        refine g_calls (As := [.int z48, .int y6_2, .int y6_1]) (r := []) 29 (gd rfl) rfl rfl rfl rfl rfl (Nat.le_of_ble_eq_true rfl) (mc := 0) (ms := 0) (Nat.zero_le _) (Nat.zero_le _) (P := fun v u => _) ?_ (fun v u h => h)
        intro po51 xx52 hp53 hx54
        refine g_enter2 (k := 156) (N := 300) (by omega) rfl (Nat.le_of_ble_eq_true rfl) ?_
        refine g_iload_n 1 (gd rfl) rfl rfl ?_
        refine g_lsw [(40, 70), (41, 82), (42, 60), (43, 60), (63, 60), (124, 92)] 94 (gd rfl) rfl rfl rfl ⟨fun c55 => ?_, fun c55_0 => ⟨fun c55 => ?_, fun c55_1 => ⟨fun c55 => ?_, fun c55_2 => ⟨fun c55 => ?_, fun c55_3 => ⟨fun c55 => ?_, fun c55_4 => ⟨fun c55 => ?_, fun c55_5 => ?_⟩⟩⟩⟩⟩⟩
        · skip
          have i56 := sw_eq c55
          refine g_iload_n 71 (gd rfl) rfl rfl ?_
          refine g_bipush 10 73 (gd rfl) rfl rfl ?_
          refine g_cmp_ge 76 80 (gd rfl) rfl rfl (fun c57 => ?_) (fun c57 => ?_)
          · skip
            have i58 := r_le2 10 2147483647 c57 (in_c 10 rfl) (i_rng y6_1) rfl
            refine g_iconst 3 81 (gd rfl) rfl rfl ?_
            refine g_ireturn (gd rfl) rfl rfl (hp53 _ _ ?_)
            show GG _ _ _ _ _ _ _ _ [.int (Int32.ofInt 3)] _ _ _
            refine g_istore 31 (gd rfl) rfl (Nat.le_of_ble_eq_true rfl) ?_
            refine g_iload 33 (gd rfl) rfl rfl ?_
            refine g_iconst (-1) 34 (gd rfl) rfl rfl ?_
            refine g_cmp_eq 37 45 (gd rfl) rfl rfl (fun c59 => ?_) (fun c59 => ?_)
            · skip
              exact n_eq c59 (in_c 3 rfl) (in_c (-1) rfl) rfl
            · skip
              refine g_aload_n 38 (gd rfl) rfl rfl ?_
              refine g_iload 40 (gd rfl) rfl rfl ?_
              refine g_iload_n 41 (gd rfl) rfl rfl ?_
              refine g_callv (X := _) (As := [.int (Int32.ofInt 3), .int y6_3]) (r := []) (b := A 46) (q := 46) 44 (gd rfl) rfl rfl rfl rfl rfl (ww_o rfl) (Nat.le_of_ble_eq_true rfl) (Nat.zero_le _) (Nat.zero_le _) (k_168_46 (by omega) hI (in_w 1 4 (in_c 3 rfl) rfl) (in_w 0 1000 i46 rfl)) (fun e u h => h) (fun v u h => ?_)
              obtain ⟨s60, hI61, z62, rfl, rfl, i63⟩ := h
              show GG _ _ _ _ _ _ _ _ [.int z62] _ _ _
              exact g_ireturn (gd rfl) rfl (nb01 (in_w 0 1 i63 rfl)) (hP _ _ ⟨s60, hI61, z62, rfl, rfl, in_w 0 1 i63 rfl⟩)
          · skip
            have i64 := r_lt1 (-2147483648) 9 c57 (i_rng y6_1) (in_c 10 rfl) rfl
            refine g_iconst (-1) 77 (gd rfl) rfl rfl ?_
            refine g_goto 81 (gd rfl) rfl ?_
            refine g_ireturn (gd rfl) rfl rfl (hp53 _ _ ?_)
            show GG _ _ _ _ _ _ _ _ [.int (Int32.ofInt (-1))] _ _ _
            refine g_istore 31 (gd rfl) rfl (Nat.le_of_ble_eq_true rfl) ?_
            refine g_iload 33 (gd rfl) rfl rfl ?_
            refine g_iconst (-1) 34 (gd rfl) rfl rfl ?_
            refine g_cmp_eq 37 45 (gd rfl) rfl rfl (fun c65 => ?_) (fun c65 => ?_)
            · skip
              refine g_iload 47 (gd rfl) rfl rfl ?_
              refine g_bipush 40 49 (gd rfl) rfl rfl ?_
              refine g_cmp_ne 52 55 (gd rfl) rfl rfl (fun c66 => ?_) (fun c66 => ?_)
              · skip
                exact n_ne c66 i56 (in_c 40 rfl) rfl
              · skip
                refine g_iinc 55 (gd rfl) rfl rfl (Nat.le_of_ble_eq_true rfl) (fun z67 e68 => ?_)
                have i69 := in_add (-2147483647) 10 e68 i64 (in_c 1 rfl) rfl rfl
                exact gg_w (by omega) (gg_f (gf_cons rfl (gf_cons rfl (gf_cons rfl (gf_cons rfl (gf_cons rfl (gf_cons rfl gf_nil)))))) (ct55 s z67 z48 (Int32.ofInt (-1)) hI (in_w 0 1000 i46 rfl) (in_w 40 124 i56 rfl) (in_w (-1) (-1) (in_c (-1) rfl) rfl)))
            · skip
              exact n_ne c65 (in_c (-1) rfl) (in_c (-1) rfl) rfl
        · skip
          have i70 := sw_eq c55
          refine g_iload_n 83 (gd rfl) rfl rfl ?_
          refine g_if_le 86 90 (gd rfl) rfl rfl (fun c71 => ?_) (fun c71 => ?_)
          · skip
            have i72 := z_le (-2147483648) 0 c71 (i_rng y6_1) rfl
            refine g_iconst 2 91 (gd rfl) rfl rfl ?_
            refine g_ireturn (gd rfl) rfl rfl (hp53 _ _ ?_)
            show GG _ _ _ _ _ _ _ _ [.int (Int32.ofInt 2)] _ _ _
            refine g_istore 31 (gd rfl) rfl (Nat.le_of_ble_eq_true rfl) ?_
            refine g_iload 33 (gd rfl) rfl rfl ?_
            refine g_iconst (-1) 34 (gd rfl) rfl rfl ?_
            refine g_cmp_eq 37 45 (gd rfl) rfl rfl (fun c73 => ?_) (fun c73 => ?_)
            · skip
              exact n_eq c73 (in_c 2 rfl) (in_c (-1) rfl) rfl
            · skip
              refine g_aload_n 38 (gd rfl) rfl rfl ?_
              refine g_iload 40 (gd rfl) rfl rfl ?_
              refine g_iload_n 41 (gd rfl) rfl rfl ?_
              refine g_callv (X := _) (As := [.int (Int32.ofInt 2), .int y6_3]) (r := []) (b := A 46) (q := 46) 44 (gd rfl) rfl rfl rfl rfl rfl (ww_o rfl) (Nat.le_of_ble_eq_true rfl) (Nat.zero_le _) (Nat.zero_le _) (k_168_46 (by omega) hI (in_w 1 4 (in_c 2 rfl) rfl) (in_w 0 1000 i46 rfl)) (fun e u h => h) (fun v u h => ?_)
              obtain ⟨s74, hI75, z76, rfl, rfl, i77⟩ := h
              show GG _ _ _ _ _ _ _ _ [.int z76] _ _ _
              exact g_ireturn (gd rfl) rfl (nb01 (in_w 0 1 i77 rfl)) (hP _ _ ⟨s74, hI75, z76, rfl, rfl, in_w 0 1 i77 rfl⟩)
          · skip
            have i78 := z_gt 1 2147483647 c71 (i_rng y6_1) rfl
            refine g_iconst (-1) 87 (gd rfl) rfl rfl ?_
            refine g_goto 91 (gd rfl) rfl ?_
            refine g_ireturn (gd rfl) rfl rfl (hp53 _ _ ?_)
            show GG _ _ _ _ _ _ _ _ [.int (Int32.ofInt (-1))] _ _ _
            refine g_istore 31 (gd rfl) rfl (Nat.le_of_ble_eq_true rfl) ?_
            refine g_iload 33 (gd rfl) rfl rfl ?_
            refine g_iconst (-1) 34 (gd rfl) rfl rfl ?_
            refine g_cmp_eq 37 45 (gd rfl) rfl rfl (fun c79 => ?_) (fun c79 => ?_)
            · skip
              refine g_iload 47 (gd rfl) rfl rfl ?_
              refine g_bipush 40 49 (gd rfl) rfl rfl ?_
              refine g_cmp_ne 52 55 (gd rfl) rfl rfl (fun c80 => ?_) (fun c80 => ?_)
              · skip
                exact gg_w (by omega) (gg_f (gf_cons rfl (gf_cons rfl (gf_cons rfl (gf_cons rfl (gf_cons rfl (gf_cons rfl gf_nil)))))) (ct55 s y6_1 z48 (Int32.ofInt (-1)) hI (in_w 0 1000 i46 rfl) (in_w 40 124 i70 rfl) (in_w (-1) (-1) (in_c (-1) rfl) rfl)))
              · skip
                exact n_eq c80 i70 (in_c 40 rfl) rfl
            · skip
              exact n_ne c79 (in_c (-1) rfl) (in_c (-1) rfl) rfl
        · skip
          have i81 := sw_eq c55
          refine g_iload_n 61 (gd rfl) rfl rfl ?_
          refine g_if_eq 64 68 (gd rfl) rfl rfl (fun c82 => ?_) (fun c82 => ?_)
          · skip
            have i83 := z_eq 0 0 c82 j6_2 rfl
            refine g_iconst 2 69 (gd rfl) rfl rfl ?_
            refine g_ireturn (gd rfl) rfl rfl (hp53 _ _ ?_)
            show GG _ _ _ _ _ _ _ _ [.int (Int32.ofInt 2)] _ _ _
            refine g_istore 31 (gd rfl) rfl (Nat.le_of_ble_eq_true rfl) ?_
            refine g_iload 33 (gd rfl) rfl rfl ?_
            refine g_iconst (-1) 34 (gd rfl) rfl rfl ?_
            refine g_cmp_eq 37 45 (gd rfl) rfl rfl (fun c84 => ?_) (fun c84 => ?_)
            · skip
              exact n_eq c84 (in_c 2 rfl) (in_c (-1) rfl) rfl
            · skip
              refine g_aload_n 38 (gd rfl) rfl rfl ?_
              refine g_iload 40 (gd rfl) rfl rfl ?_
              refine g_iload_n 41 (gd rfl) rfl rfl ?_
              refine g_callv (X := _) (As := [.int (Int32.ofInt 2), .int y6_3]) (r := []) (b := A 46) (q := 46) 44 (gd rfl) rfl rfl rfl rfl rfl (ww_o rfl) (Nat.le_of_ble_eq_true rfl) (Nat.zero_le _) (Nat.zero_le _) (k_168_46 (by omega) hI (in_w 1 4 (in_c 2 rfl) rfl) (in_w 0 1000 i46 rfl)) (fun e u h => h) (fun v u h => ?_)
              obtain ⟨s85, hI86, z87, rfl, rfl, i88⟩ := h
              show GG _ _ _ _ _ _ _ _ [.int z87] _ _ _
              exact g_ireturn (gd rfl) rfl (nb01 (in_w 0 1 i88 rfl)) (hP _ _ ⟨s85, hI86, z87, rfl, rfl, in_w 0 1 i88 rfl⟩)
          · skip
            have i89 := z_ne 1 1 c82 j6_2 rfl
            refine g_iconst (-1) 65 (gd rfl) rfl rfl ?_
            refine g_goto 69 (gd rfl) rfl ?_
            refine g_ireturn (gd rfl) rfl rfl (hp53 _ _ ?_)
            show GG _ _ _ _ _ _ _ _ [.int (Int32.ofInt (-1))] _ _ _
            refine g_istore 31 (gd rfl) rfl (Nat.le_of_ble_eq_true rfl) ?_
            refine g_iload 33 (gd rfl) rfl rfl ?_
            refine g_iconst (-1) 34 (gd rfl) rfl rfl ?_
            refine g_cmp_eq 37 45 (gd rfl) rfl rfl (fun c90 => ?_) (fun c90 => ?_)
            · skip
              refine g_iload 47 (gd rfl) rfl rfl ?_
              refine g_bipush 40 49 (gd rfl) rfl rfl ?_
              refine g_cmp_ne 52 55 (gd rfl) rfl rfl (fun c91 => ?_) (fun c91 => ?_)
              · skip
                exact gg_w (by omega) (gg_f (gf_cons rfl (gf_cons rfl (gf_cons rfl (gf_cons rfl (gf_cons rfl (gf_cons rfl gf_nil)))))) (ct55 s y6_1 z48 (Int32.ofInt (-1)) hI (in_w 0 1000 i46 rfl) (in_w 40 124 i81 rfl) (in_w (-1) (-1) (in_c (-1) rfl) rfl)))
              · skip
                exact n_eq c91 i81 (in_c 40 rfl) rfl
            · skip
              exact n_ne c90 (in_c (-1) rfl) (in_c (-1) rfl) rfl
        · skip
          have i92 := sw_eq c55
          refine g_iload_n 61 (gd rfl) rfl rfl ?_
          refine g_if_eq 64 68 (gd rfl) rfl rfl (fun c93 => ?_) (fun c93 => ?_)
          · skip
            have i94 := z_eq 0 0 c93 j6_2 rfl
            refine g_iconst 2 69 (gd rfl) rfl rfl ?_
            refine g_ireturn (gd rfl) rfl rfl (hp53 _ _ ?_)
            show GG _ _ _ _ _ _ _ _ [.int (Int32.ofInt 2)] _ _ _
            refine g_istore 31 (gd rfl) rfl (Nat.le_of_ble_eq_true rfl) ?_
            refine g_iload 33 (gd rfl) rfl rfl ?_
            refine g_iconst (-1) 34 (gd rfl) rfl rfl ?_
            refine g_cmp_eq 37 45 (gd rfl) rfl rfl (fun c95 => ?_) (fun c95 => ?_)
            · skip
              exact n_eq c95 (in_c 2 rfl) (in_c (-1) rfl) rfl
            · skip
              refine g_aload_n 38 (gd rfl) rfl rfl ?_
              refine g_iload 40 (gd rfl) rfl rfl ?_
              refine g_iload_n 41 (gd rfl) rfl rfl ?_
              refine g_callv (X := _) (As := [.int (Int32.ofInt 2), .int y6_3]) (r := []) (b := A 46) (q := 46) 44 (gd rfl) rfl rfl rfl rfl rfl (ww_o rfl) (Nat.le_of_ble_eq_true rfl) (Nat.zero_le _) (Nat.zero_le _) (k_168_46 (by omega) hI (in_w 1 4 (in_c 2 rfl) rfl) (in_w 0 1000 i46 rfl)) (fun e u h => h) (fun v u h => ?_)
              obtain ⟨s96, hI97, z98, rfl, rfl, i99⟩ := h
              show GG _ _ _ _ _ _ _ _ [.int z98] _ _ _
              exact g_ireturn (gd rfl) rfl (nb01 (in_w 0 1 i99 rfl)) (hP _ _ ⟨s96, hI97, z98, rfl, rfl, in_w 0 1 i99 rfl⟩)
          · skip
            have i100 := z_ne 1 1 c93 j6_2 rfl
            refine g_iconst (-1) 65 (gd rfl) rfl rfl ?_
            refine g_goto 69 (gd rfl) rfl ?_
            refine g_ireturn (gd rfl) rfl rfl (hp53 _ _ ?_)
            show GG _ _ _ _ _ _ _ _ [.int (Int32.ofInt (-1))] _ _ _
            refine g_istore 31 (gd rfl) rfl (Nat.le_of_ble_eq_true rfl) ?_
            refine g_iload 33 (gd rfl) rfl rfl ?_
            refine g_iconst (-1) 34 (gd rfl) rfl rfl ?_
            refine g_cmp_eq 37 45 (gd rfl) rfl rfl (fun c101 => ?_) (fun c101 => ?_)
            · skip
              refine g_iload 47 (gd rfl) rfl rfl ?_
              refine g_bipush 40 49 (gd rfl) rfl rfl ?_
              refine g_cmp_ne 52 55 (gd rfl) rfl rfl (fun c102 => ?_) (fun c102 => ?_)
              · skip
                exact gg_w (by omega) (gg_f (gf_cons rfl (gf_cons rfl (gf_cons rfl (gf_cons rfl (gf_cons rfl (gf_cons rfl gf_nil)))))) (ct55 s y6_1 z48 (Int32.ofInt (-1)) hI (in_w 0 1000 i46 rfl) (in_w 40 124 i92 rfl) (in_w (-1) (-1) (in_c (-1) rfl) rfl)))
              · skip
                exact n_eq c102 i92 (in_c 40 rfl) rfl
            · skip
              exact n_ne c101 (in_c (-1) rfl) (in_c (-1) rfl) rfl
        · skip
          have i103 := sw_eq c55
          refine g_iload_n 61 (gd rfl) rfl rfl ?_
          refine g_if_eq 64 68 (gd rfl) rfl rfl (fun c104 => ?_) (fun c104 => ?_)
          · skip
            have i105 := z_eq 0 0 c104 j6_2 rfl
            refine g_iconst 2 69 (gd rfl) rfl rfl ?_
            refine g_ireturn (gd rfl) rfl rfl (hp53 _ _ ?_)
            show GG _ _ _ _ _ _ _ _ [.int (Int32.ofInt 2)] _ _ _
            refine g_istore 31 (gd rfl) rfl (Nat.le_of_ble_eq_true rfl) ?_
            refine g_iload 33 (gd rfl) rfl rfl ?_
            refine g_iconst (-1) 34 (gd rfl) rfl rfl ?_
            refine g_cmp_eq 37 45 (gd rfl) rfl rfl (fun c106 => ?_) (fun c106 => ?_)
            · skip
              exact n_eq c106 (in_c 2 rfl) (in_c (-1) rfl) rfl
            · skip
              refine g_aload_n 38 (gd rfl) rfl rfl ?_
              refine g_iload 40 (gd rfl) rfl rfl ?_
              refine g_iload_n 41 (gd rfl) rfl rfl ?_
              refine g_callv (X := _) (As := [.int (Int32.ofInt 2), .int y6_3]) (r := []) (b := A 46) (q := 46) 44 (gd rfl) rfl rfl rfl rfl rfl (ww_o rfl) (Nat.le_of_ble_eq_true rfl) (Nat.zero_le _) (Nat.zero_le _) (k_168_46 (by omega) hI (in_w 1 4 (in_c 2 rfl) rfl) (in_w 0 1000 i46 rfl)) (fun e u h => h) (fun v u h => ?_)
              obtain ⟨s107, hI108, z109, rfl, rfl, i110⟩ := h
              show GG _ _ _ _ _ _ _ _ [.int z109] _ _ _
              exact g_ireturn (gd rfl) rfl (nb01 (in_w 0 1 i110 rfl)) (hP _ _ ⟨s107, hI108, z109, rfl, rfl, in_w 0 1 i110 rfl⟩)
          · skip
            have i111 := z_ne 1 1 c104 j6_2 rfl
            refine g_iconst (-1) 65 (gd rfl) rfl rfl ?_
            refine g_goto 69 (gd rfl) rfl ?_
            refine g_ireturn (gd rfl) rfl rfl (hp53 _ _ ?_)
            show GG _ _ _ _ _ _ _ _ [.int (Int32.ofInt (-1))] _ _ _
            refine g_istore 31 (gd rfl) rfl (Nat.le_of_ble_eq_true rfl) ?_
            refine g_iload 33 (gd rfl) rfl rfl ?_
            refine g_iconst (-1) 34 (gd rfl) rfl rfl ?_
            refine g_cmp_eq 37 45 (gd rfl) rfl rfl (fun c112 => ?_) (fun c112 => ?_)
            · skip
              refine g_iload 47 (gd rfl) rfl rfl ?_
              refine g_bipush 40 49 (gd rfl) rfl rfl ?_
              refine g_cmp_ne 52 55 (gd rfl) rfl rfl (fun c113 => ?_) (fun c113 => ?_)
              · skip
                exact gg_w (by omega) (gg_f (gf_cons rfl (gf_cons rfl (gf_cons rfl (gf_cons rfl (gf_cons rfl (gf_cons rfl gf_nil)))))) (ct55 s y6_1 z48 (Int32.ofInt (-1)) hI (in_w 0 1000 i46 rfl) (in_w 40 124 i103 rfl) (in_w (-1) (-1) (in_c (-1) rfl) rfl)))
              · skip
                exact n_eq c113 i103 (in_c 40 rfl) rfl
            · skip
              exact n_ne c112 (in_c (-1) rfl) (in_c (-1) rfl) rfl
        · skip
          have i114 := sw_eq c55
          refine g_iconst (-1) 93 (gd rfl) rfl rfl ?_
          refine g_ireturn (gd rfl) rfl rfl (hp53 _ _ ?_)
          show GG _ _ _ _ _ _ _ _ [.int (Int32.ofInt (-1))] _ _ _
          refine g_istore 31 (gd rfl) rfl (Nat.le_of_ble_eq_true rfl) ?_
          refine g_iload 33 (gd rfl) rfl rfl ?_
          refine g_iconst (-1) 34 (gd rfl) rfl rfl ?_
          refine g_cmp_eq 37 45 (gd rfl) rfl rfl (fun c115 => ?_) (fun c115 => ?_)
          · skip
            refine g_iload 47 (gd rfl) rfl rfl ?_
            refine g_bipush 40 49 (gd rfl) rfl rfl ?_
            refine g_cmp_ne 52 55 (gd rfl) rfl rfl (fun c116 => ?_) (fun c116 => ?_)
            · skip
              exact gg_w (by omega) (gg_f (gf_cons rfl (gf_cons rfl (gf_cons rfl (gf_cons rfl (gf_cons rfl (gf_cons rfl gf_nil)))))) (ct55 s y6_1 z48 (Int32.ofInt (-1)) hI (in_w 0 1000 i46 rfl) (in_w 40 124 i114 rfl) (in_w (-1) (-1) (in_c (-1) rfl) rfl)))
            · skip
              exact n_eq c116 i114 (in_c 40 rfl) rfl
          · skip
            exact n_ne c115 (in_c (-1) rfl) (in_c (-1) rfl) rfl
        · skip
          refine g_iload_n 95 (gd rfl) rfl rfl ?_
          refine g_calls (As := [.int z48]) (r := []) 98 (gd rfl) rfl rfl rfl rfl rfl (Nat.le_of_ble_eq_true rfl) (mc := 0) (ms := 0) (Nat.zero_le _) (Nat.zero_le _) (P := fun v u => _) ?_ (fun v u h => h)
          intro po117 xx118 hp119 hx120
          refine g_enter2 (k := 157) (N := 300) (by omega) rfl (Nat.le_of_ble_eq_true rfl) ?_
          refine g_iload_n 1 (gd rfl) rfl rfl ?_
          refine g_bipush 46 3 (gd rfl) rfl rfl ?_
          refine g_cmp_eq 6 18 (gd rfl) rfl rfl (fun c121 => ?_) (fun c121 => ?_)
          · skip
            have i122 := r_eq1 46 46 c121 i50 (in_c 46 rfl) rfl
            refine g_iconst 1 19 (gd rfl) rfl rfl ?_
            refine g_goto 23 (gd rfl) rfl ?_
            refine g_ireturn (gd rfl) rfl (nb01 (in_w 0 1 (in_c 1 rfl) rfl)) (hp119 _ _ ?_)
            show GG _ _ _ _ _ _ _ _ [.int (Int32.ofInt 1)] _ _ _
            refine g_if_eq 101 105 (gd rfl) rfl rfl (fun c123 => ?_) (fun c123 => ?_)
            · skip
              exact zn_eq c123 (in_c 1 rfl) rfl
            · skip
              refine g_iconst (-1) 102 (gd rfl) rfl rfl ?_
              refine g_goto 106 (gd rfl) rfl ?_
              refine g_ireturn (gd rfl) rfl rfl (hp53 _ _ ?_)
              show GG _ _ _ _ _ _ _ _ [.int (Int32.ofInt (-1))] _ _ _
              refine g_istore 31 (gd rfl) rfl (Nat.le_of_ble_eq_true rfl) ?_
              refine g_iload 33 (gd rfl) rfl rfl ?_
              refine g_iconst (-1) 34 (gd rfl) rfl rfl ?_
              refine g_cmp_eq 37 45 (gd rfl) rfl rfl (fun c124 => ?_) (fun c124 => ?_)
              · skip
                refine g_iload 47 (gd rfl) rfl rfl ?_
                refine g_bipush 40 49 (gd rfl) rfl rfl ?_
                refine g_cmp_ne 52 55 (gd rfl) rfl rfl (fun c125 => ?_) (fun c125 => ?_)
                · skip
                  exact gg_w (by omega) (gg_f (gf_cons rfl (gf_cons rfl (gf_cons rfl (gf_cons rfl (gf_cons rfl (gf_cons rfl gf_nil)))))) (ct55 s y6_1 z48 (Int32.ofInt (-1)) hI (in_w 0 1000 i46 rfl) (in_w 40 124 i122 rfl) (in_w (-1) (-1) (in_c (-1) rfl) rfl)))
                · skip
                  exact n_eq c125 i122 (in_c 40 rfl) rfl
              · skip
                exact n_ne c124 (in_c (-1) rfl) (in_c (-1) rfl) rfl
          · skip
            refine g_iload_n 7 (gd rfl) rfl rfl ?_
            refine g_bipush 97 9 (gd rfl) rfl rfl ?_
            refine g_cmp_lt 12 22 (gd rfl) rfl rfl (fun c126 => ?_) (fun c126 => ?_)
            · skip
              have i127 := r_lt1 0 96 c126 i50 (in_c 97 rfl) rfl
              refine g_iconst 0 23 (gd rfl) rfl rfl ?_
              refine g_ireturn (gd rfl) rfl (nb01 (in_w 0 1 (in_c 0 rfl) rfl)) (hp119 _ _ ?_)
              show GG _ _ _ _ _ _ _ _ [.int (Int32.ofInt 0)] _ _ _
              refine g_if_eq 101 105 (gd rfl) rfl rfl (fun c128 => ?_) (fun c128 => ?_)
              · skip
                refine g_iconst 1 106 (gd rfl) rfl rfl ?_
                refine g_ireturn (gd rfl) rfl rfl (hp53 _ _ ?_)
                show GG _ _ _ _ _ _ _ _ [.int (Int32.ofInt 1)] _ _ _
                refine g_istore 31 (gd rfl) rfl (Nat.le_of_ble_eq_true rfl) ?_
                refine g_iload 33 (gd rfl) rfl rfl ?_
                refine g_iconst (-1) 34 (gd rfl) rfl rfl ?_
                refine g_cmp_eq 37 45 (gd rfl) rfl rfl (fun c129 => ?_) (fun c129 => ?_)
                · skip
                  exact n_eq c129 (in_c 1 rfl) (in_c (-1) rfl) rfl
                · skip
                  refine g_aload_n 38 (gd rfl) rfl rfl ?_
                  refine g_iload 40 (gd rfl) rfl rfl ?_
                  refine g_iload_n 41 (gd rfl) rfl rfl ?_
                  refine g_callv (X := _) (As := [.int (Int32.ofInt 1), .int y6_3]) (r := []) (b := A 46) (q := 46) 44 (gd rfl) rfl rfl rfl rfl rfl (ww_o rfl) (Nat.le_of_ble_eq_true rfl) (Nat.zero_le _) (Nat.zero_le _) (k_168_46 (by omega) hI (in_w 1 4 (in_c 1 rfl) rfl) (in_w 0 1000 i46 rfl)) (fun e u h => h) (fun v u h => ?_)
                  obtain ⟨s130, hI131, z132, rfl, rfl, i133⟩ := h
                  show GG _ _ _ _ _ _ _ _ [.int z132] _ _ _
                  exact g_ireturn (gd rfl) rfl (nb01 (in_w 0 1 i133 rfl)) (hP _ _ ⟨s130, hI131, z132, rfl, rfl, in_w 0 1 i133 rfl⟩)
              · skip
                exact zn_ne c128 (in_c 0 rfl) rfl
            · skip
              have i134 := r_le2 97 65535 c126 (in_c 97 rfl) i50 rfl
              refine g_iload_n 13 (gd rfl) rfl rfl ?_
              refine g_bipush 122 15 (gd rfl) rfl rfl ?_
              refine g_cmp_gt 18 22 (gd rfl) rfl rfl (fun c135 => ?_) (fun c135 => ?_)
              · skip
                have i136 := r_lt2 123 65535 c135 (in_c 122 rfl) i134 rfl
                refine g_iconst 0 23 (gd rfl) rfl rfl ?_
                refine g_ireturn (gd rfl) rfl (nb01 (in_w 0 1 (in_c 0 rfl) rfl)) (hp119 _ _ ?_)
                show GG _ _ _ _ _ _ _ _ [.int (Int32.ofInt 0)] _ _ _
                refine g_if_eq 101 105 (gd rfl) rfl rfl (fun c137 => ?_) (fun c137 => ?_)
                · skip
                  refine g_iconst 1 106 (gd rfl) rfl rfl ?_
                  refine g_ireturn (gd rfl) rfl rfl (hp53 _ _ ?_)
                  show GG _ _ _ _ _ _ _ _ [.int (Int32.ofInt 1)] _ _ _
                  refine g_istore 31 (gd rfl) rfl (Nat.le_of_ble_eq_true rfl) ?_
                  refine g_iload 33 (gd rfl) rfl rfl ?_
                  refine g_iconst (-1) 34 (gd rfl) rfl rfl ?_
                  refine g_cmp_eq 37 45 (gd rfl) rfl rfl (fun c138 => ?_) (fun c138 => ?_)
                  · skip
                    exact n_eq c138 (in_c 1 rfl) (in_c (-1) rfl) rfl
                  · skip
                    refine g_aload_n 38 (gd rfl) rfl rfl ?_
                    refine g_iload 40 (gd rfl) rfl rfl ?_
                    refine g_iload_n 41 (gd rfl) rfl rfl ?_
                    refine g_callv (X := _) (As := [.int (Int32.ofInt 1), .int y6_3]) (r := []) (b := A 46) (q := 46) 44 (gd rfl) rfl rfl rfl rfl rfl (ww_o rfl) (Nat.le_of_ble_eq_true rfl) (Nat.zero_le _) (Nat.zero_le _) (k_168_46 (by omega) hI (in_w 1 4 (in_c 1 rfl) rfl) (in_w 0 1000 i46 rfl)) (fun e u h => h) (fun v u h => ?_)
                    obtain ⟨s139, hI140, z141, rfl, rfl, i142⟩ := h
                    show GG _ _ _ _ _ _ _ _ [.int z141] _ _ _
                    exact g_ireturn (gd rfl) rfl (nb01 (in_w 0 1 i142 rfl)) (hP _ _ ⟨s139, hI140, z141, rfl, rfl, in_w 0 1 i142 rfl⟩)
                · skip
                  exact zn_ne c137 (in_c 0 rfl) rfl
              · skip
                have i143 := r_le1 97 122 c135 i134 (in_c 122 rfl) rfl
                refine g_iconst 1 19 (gd rfl) rfl rfl ?_
                refine g_goto 23 (gd rfl) rfl ?_
                refine g_ireturn (gd rfl) rfl (nb01 (in_w 0 1 (in_c 1 rfl) rfl)) (hp119 _ _ ?_)
                show GG _ _ _ _ _ _ _ _ [.int (Int32.ofInt 1)] _ _ _
                refine g_if_eq 101 105 (gd rfl) rfl rfl (fun c144 => ?_) (fun c144 => ?_)
                · skip
                  exact zn_eq c144 (in_c 1 rfl) rfl
                · skip
                  refine g_iconst (-1) 102 (gd rfl) rfl rfl ?_
                  refine g_goto 106 (gd rfl) rfl ?_
                  refine g_ireturn (gd rfl) rfl rfl (hp53 _ _ ?_)
                  show GG _ _ _ _ _ _ _ _ [.int (Int32.ofInt (-1))] _ _ _
                  refine g_istore 31 (gd rfl) rfl (Nat.le_of_ble_eq_true rfl) ?_
                  refine g_iload 33 (gd rfl) rfl rfl ?_
                  refine g_iconst (-1) 34 (gd rfl) rfl rfl ?_
                  refine g_cmp_eq 37 45 (gd rfl) rfl rfl (fun c145 => ?_) (fun c145 => ?_)
                  · skip
                    refine g_iload 47 (gd rfl) rfl rfl ?_
                    refine g_bipush 40 49 (gd rfl) rfl rfl ?_
                    refine g_cmp_ne 52 55 (gd rfl) rfl rfl (fun c146 => ?_) (fun c146 => ?_)
                    · skip
                      exact gg_w (by omega) (gg_f (gf_cons rfl (gf_cons rfl (gf_cons rfl (gf_cons rfl (gf_cons rfl (gf_cons rfl gf_nil)))))) (ct55 s y6_1 z48 (Int32.ofInt (-1)) hI (in_w 0 1000 i46 rfl) (in_w 40 124 i143 rfl) (in_w (-1) (-1) (in_c (-1) rfl) rfl)))
                    · skip
                      exact n_eq c146 i143 (in_c 40 rfl) rfl
                  · skip
                    exact n_ne c145 (in_c (-1) rfl) (in_c (-1) rfl) rfl
  refine g_enter2 (k := 155) (N := 7215008) (by omega) rfl (Nat.le_of_ble_eq_true rfl) ?_
  refine g_iconst 0 1 (gd rfl) rfl rfl ?_
  refine g_istore_n 2 (gd rfl) rfl (Nat.le_of_ble_eq_true rfl) ?_
  refine g_iconst 0 3 (gd rfl) rfl rfl ?_
  refine g_istore_n 4 (gd rfl) rfl (Nat.le_of_ble_eq_true rfl) ?_
  refine g_iconst 0 5 (gd rfl) rfl rfl ?_
  refine g_istore_n 6 (gd rfl) rfl (Nat.le_of_ble_eq_true rfl) ?_
  exact gg_w (by omega) (gg_f (gf_cons rfl (gf_cons rfl (gf_cons rfl (gf_cons rfl gf_nil)))) (ct6 2002 s (Int32.ofInt 0) (Int32.ofInt 0) (Int32.ofInt 0) hI (in_w 0 1 (in_c 0 rfl) rfl) (in_w 0 2001 (in_c 0 rfl) rfl) (m_in 2002 (in_w 0 2001 (in_c 0 rfl) rfl) rfl)))

/-- GraphHouse$Trees.isSpanning -/
theorem k_186_76_2 {Z : AmZ} {A : Nat → Nat} {s : GS} {ex : va_W} {d : Nat} {X : AmX} {x2 : Int32} (hd : 5 ≤ d) (hI : Inv s) (h2 : In x2 0 159) : GC Z d 186 [.ref (A 76), .ref (A 2), .int x2] (WW Z A s ++ ex) 0 0 (fun v u => ∃ t : GS, Inv t ∧ ∃ z : Int32, v = some (.int z) ∧ u = WW Z A t ++ ex ∧ In z 0 1) X := by
  intro post xp hP hX
  have ct20 : ∀ (k20 : Nat) (s : GS) (y20_3 : Int32), Inv s → In y20_3 0 160 → 160 - (y20_3).toInt < (k20 : Int) → GG Z (d - 1) 186 post (gx xp) (1 + k20 * 900) 20 (fun j => xlook j [(0, .ref (A 76)), (1, .ref (A 2)), (2, .int x2), (3, .int y20_3)]) [] (WW Z A s ++ ex) 0 0 := by
    intro k20
    induction k20 with
    | zero => intro s y20_3 hI j20_3 mm20; exact m_no mm20 j20_3 rfl
    | succ k20 ih20 =>
      intro s y20_3 hI j20_3 mm20
      refine gg_w (M := 1 + k20 * 900 + 900) (by omega) ?_
      refine g_iload_n 21 (gd rfl) rfl rfl ?_
      refine g_aload_n 22 (gd rfl) rfl rfl ?_
      refine g_getI 25 (gd rfl) rfl rfl rfl (fun z1 e2 => ?_)
      have i3 := inv_F hI 0 160 rfl e2
      refine g_cmp_ge 28 95 (gd rfl) rfl rfl (fun c4 => ?_) (fun c4 => ?_)
      · skip
        refine g_aload_n 96 (gd rfl) rfl rfl ?_
        refine g_getA (q2 := 84) 99 (gd rfl) rfl rfl rfl rfl rfl ?_
        refine g_iconst 1 100 (gd rfl) rfl rfl ?_
        refine g_aload_n 101 (gd rfl) rfl rfl ?_
        refine g_getA (q2 := 4) 104 (gd rfl) rfl rfl rfl rfl rfl ?_
        refine g_iload_n 105 (gd rfl) rfl rfl ?_
        refine g_iaload 106 (gd rfl) rfl (n := 160) rfl (in_ix h2 rfl) (fun z5 e6 => ?_)
        have i7 := inv_I hI (n := 160) (t := 0) (-1) 31 rfl (in_ix h2 rfl) rfl e6
        refine g_ishl 107 (gd rfl) rfl (fun z8 e9 => ?_)
        refine g_iconst (-1) 108 (gd rfl) rfl rfl ?_
        refine g_calls (As := [.ref (A 84), .int z8, .int (Int32.ofInt (-1))]) (r := []) 111 (gd rfl) rfl rfl rfl rfl rfl (Nat.le_of_ble_eq_true rfl) (Nat.zero_le _) (Nat.zero_le _) (k_266_84 (by omega) hI (in_w (-1) (-1) (in_c (-1) rfl) rfl)) (fun v u h => ?_)
        obtain ⟨z10, rfl, rfl, i11⟩ := h
        show GG _ _ _ _ _ _ _ _ [.int z10] _ _ _
        refine g_aload_n 112 (gd rfl) rfl rfl ?_
        refine g_getA (q2 := 5) 115 (gd rfl) rfl rfl rfl rfl rfl ?_
        refine g_iload_n 116 (gd rfl) rfl rfl ?_
        refine g_iaload 117 (gd rfl) rfl (n := 160) rfl (in_ix h2 rfl) (fun z12 e13 => ?_)
        have i14 := inv_I hI (n := 160) (t := 0) 0 31 rfl (in_ix h2 rfl) rfl e13
        refine g_ishr 118 (gd rfl) rfl (fun z15 e16 => ?_)
        refine g_iconst 1 119 (gd rfl) rfl rfl ?_
        refine g_iand 120 (gd rfl) rfl (fun z17 e18 => ?_)
        have i19 := in_and2 e18 (in_c 1 rfl) rfl
        refine g_if_ne 123 127 (gd rfl) rfl rfl (fun c20 => ?_) (fun c20 => ?_)
        · skip
          have i21 := z_ne 1 1 c20 i19 rfl
          refine g_iconst 0 128 (gd rfl) rfl rfl ?_
          exact g_ireturn (gd rfl) rfl (nb01 (in_w 0 1 (in_c 0 rfl) rfl)) (hP _ _ ⟨s, hI, (Int32.ofInt 0), rfl, rfl, in_w 0 1 (in_c 0 rfl) rfl⟩)
        · skip
          have i22 := z_eq 0 0 c20 i19 rfl
          refine g_iconst 1 124 (gd rfl) rfl rfl ?_
          refine g_goto 128 (gd rfl) rfl ?_
          exact g_ireturn (gd rfl) rfl (nb01 (in_w 0 1 (in_c 1 rfl) rfl)) (hP _ _ ⟨s, hI, (Int32.ofInt 1), rfl, rfl, in_w 0 1 (in_c 1 rfl) rfl⟩)
      · skip
        have i23 := r_lt1 0 159 c4 j20_3 i3 rfl
        have i24 := r_lt2 1 160 c4 j20_3 i3 rfl
        refine g_aload_n 29 (gd rfl) rfl rfl ?_
        refine g_iload_n 30 (gd rfl) rfl rfl ?_
        refine g_callv (X := _) (As := [.int y20_3]) (r := []) (b := A 2) (q := 2) 33 (gd rfl) rfl rfl rfl rfl rfl (ww_o rfl) (Nat.le_of_ble_eq_true rfl) (mc := 0) (ms := 0) (Nat.zero_le _) (Nat.zero_le _) (P := fun v u => _) ?_ (fun e u h => h) (fun v u h => h)
        intro po25 xx26 hp27 hx28
        refine g_enter2 (k := 97) (N := 300) (by omega) rfl (Nat.le_of_ble_eq_true rfl) ?_
        refine g_aload_n 1 (gd rfl) rfl rfl ?_
        refine g_getA (q2 := 4) 4 (gd rfl) rfl rfl rfl rfl rfl ?_
        refine g_iload_n 5 (gd rfl) rfl rfl ?_
        refine g_iaload 6 (gd rfl) rfl (n := 160) rfl (in_ix i23 rfl) (fun z29 e30 => ?_)
        have i31 := inv_I hI (n := 160) (t := 0) (-1) 31 rfl (in_ix i23 rfl) rfl e30
        refine g_iconst (-1) 7 (gd rfl) rfl rfl ?_
        refine g_cmp_eq 10 29 (gd rfl) rfl rfl (fun c32 => ?_) (fun c32 => ?_)
        · skip
          have i33 := r_eq1 (-1) (-1) c32 i31 (in_c (-1) rfl) rfl
          refine g_iconst 0 30 (gd rfl) rfl rfl ?_
          refine g_ireturn (gd rfl) rfl (nb01 (in_w 0 1 (in_c 0 rfl) rfl)) (hp27 _ _ ?_)
          show GG _ _ _ _ _ _ _ _ [.int (Int32.ofInt 0)] _ _ _
          refine g_if_eq 36 89 (gd rfl) rfl rfl (fun c34 => ?_) (fun c34 => ?_)
          · skip
            refine g_iinc 92 (gd rfl) rfl rfl (Nat.le_of_ble_eq_true rfl) (fun z35 e36 => ?_)
            have i37 := in_add 1 160 e36 i23 (in_c 1 rfl) rfl rfl
            refine g_goto 20 (gd rfl) rfl ?_
            exact gg_w (by omega) (gg_f (gf_cons rfl (gf_cons rfl (gf_cons rfl (gf_cons rfl gf_nil)))) (ih20 s z35 hI (in_w 0 160 i37 rfl) (m_up mm20 (t_add e36 i23 (in_c 1 rfl) rfl) (in_w 1 1 (in_c 1 rfl) rfl))))
          · skip
            exact zn_ne c34 (in_c 0 rfl) rfl
        · skip
          have i38 := r_ne1 0 31 c32 i31 (in_c (-1) rfl) rfl
          refine g_aload_n 11 (gd rfl) rfl rfl ?_
          refine g_getA (q2 := 4) 14 (gd rfl) rfl rfl rfl rfl rfl ?_
          refine g_iload_n 15 (gd rfl) rfl rfl ?_
          refine g_iaload 16 (gd rfl) rfl (n := 160) rfl (in_ix i23 rfl) (fun z39 e40 => ?_)
          have q41 : z29 = z39 := (e30).trans e40.symm
          subst q41
          refine g_aload_n 17 (gd rfl) rfl rfl ?_
          refine g_getA (q2 := 5) 20 (gd rfl) rfl rfl rfl rfl rfl ?_
          refine g_iload_n 21 (gd rfl) rfl rfl ?_
          refine g_iaload 22 (gd rfl) rfl (n := 160) rfl (in_ix i23 rfl) (fun z42 e43 => ?_)
          have i44 := inv_I hI (n := 160) (t := 0) 0 31 rfl (in_ix i23 rfl) rfl e43
          refine g_cmp_eq 25 29 (gd rfl) rfl rfl (fun c45 => ?_) (fun c45 => ?_)
          · skip
            refine g_iconst 0 30 (gd rfl) rfl rfl ?_
            refine g_ireturn (gd rfl) rfl (nb01 (in_w 0 1 (in_c 0 rfl) rfl)) (hp27 _ _ ?_)
            show GG _ _ _ _ _ _ _ _ [.int (Int32.ofInt 0)] _ _ _
            refine g_if_eq 36 89 (gd rfl) rfl rfl (fun c46 => ?_) (fun c46 => ?_)
            · skip
              refine g_iinc 92 (gd rfl) rfl rfl (Nat.le_of_ble_eq_true rfl) (fun z47 e48 => ?_)
              have i49 := in_add 1 160 e48 i23 (in_c 1 rfl) rfl rfl
              refine g_goto 20 (gd rfl) rfl ?_
              exact gg_w (by omega) (gg_f (gf_cons rfl (gf_cons rfl (gf_cons rfl (gf_cons rfl gf_nil)))) (ih20 s z47 hI (in_w 0 160 i49 rfl) (m_up mm20 (t_add e48 i23 (in_c 1 rfl) rfl) (in_w 1 1 (in_c 1 rfl) rfl))))
            · skip
              exact zn_ne c46 (in_c 0 rfl) rfl
          · skip
            refine g_iconst 1 26 (gd rfl) rfl rfl ?_
            refine g_goto 30 (gd rfl) rfl ?_
            refine g_ireturn (gd rfl) rfl (nb01 (in_w 0 1 (in_c 1 rfl) rfl)) (hp27 _ _ ?_)
            show GG _ _ _ _ _ _ _ _ [.int (Int32.ofInt 1)] _ _ _
            refine g_if_eq 36 89 (gd rfl) rfl rfl (fun c50 => ?_) (fun c50 => ?_)
            · skip
              exact zn_eq c50 (in_c 1 rfl) rfl
            · skip
              refine g_aload_n 37 (gd rfl) rfl rfl ?_
              refine g_iload_n 38 (gd rfl) rfl rfl ?_
              refine g_iload_n 39 (gd rfl) rfl rfl ?_
              refine g_calls (As := [.ref (A 2), .int y20_3, .int x2]) (r := []) 42 (gd rfl) rfl rfl rfl rfl rfl (Nat.le_of_ble_eq_true rfl) (mc := 0) (ms := 0) (Nat.zero_le _) (Nat.zero_le _) (P := fun v u => _) ?_ (fun v u h => h)
              intro po51 xx52 hp53 hx54
              refine g_enter2 (k := 187) (N := 300) (by omega) rfl (Nat.le_of_ble_eq_true rfl) ?_
              refine g_aload_n 1 (gd rfl) rfl rfl ?_
              refine g_getA (q2 := 6) 4 (gd rfl) rfl rfl rfl rfl rfl ?_
              refine g_iload_n 5 (gd rfl) rfl rfl ?_
              refine g_iaload 6 (gd rfl) rfl (n := 160) rfl (in_ix i23 rfl) (fun z55 e56 => ?_)
              have i57 := inv_I hI (n := 160) (t := 0) (-1000000) 1000000 rfl (in_ix i23 rfl) rfl e56
              refine g_aload_n 7 (gd rfl) rfl rfl ?_
              refine g_getA (q2 := 6) 10 (gd rfl) rfl rfl rfl rfl rfl ?_
              refine g_iload_n 11 (gd rfl) rfl rfl ?_
              refine g_iaload 12 (gd rfl) rfl (n := 160) rfl (in_ix h2 rfl) (fun z58 e59 => ?_)
              have i60 := inv_I hI (n := 160) (t := 0) (-1000000) 1000000 rfl (in_ix h2 rfl) rfl e59
              refine g_cmp_lt 15 35 (gd rfl) rfl rfl (fun c61 => ?_) (fun c61 => ?_)
              · skip
                have i62 := r_lt1 (-1000000) 999999 c61 i57 i60 rfl
                have i63 := r_lt2 (-999999) 1000000 c61 i57 i60 rfl
                refine g_iconst 1 36 (gd rfl) rfl rfl ?_
                refine g_goto 40 (gd rfl) rfl ?_
                refine g_ireturn (gd rfl) rfl (nb01 (in_w 0 1 (in_c 1 rfl) rfl)) (hp53 _ _ ?_)
                show GG _ _ _ _ _ _ _ _ [.int (Int32.ofInt 1)] _ _ _
                refine g_if_eq 45 89 (gd rfl) rfl rfl (fun c64 => ?_) (fun c64 => ?_)
                · skip
                  exact zn_eq c64 (in_c 1 rfl) rfl
                · skip
                  refine g_aload_n 46 (gd rfl) rfl rfl ?_
                  refine g_getA (q2 := 84) 49 (gd rfl) rfl rfl rfl rfl rfl ?_
                  refine g_aload_n 50 (gd rfl) rfl rfl ?_
                  refine g_getA (q2 := 4) 53 (gd rfl) rfl rfl rfl rfl rfl ?_
                  refine g_iload_n 54 (gd rfl) rfl rfl ?_
                  refine g_iaload 55 (gd rfl) rfl (n := 160) rfl (in_ix i23 rfl) (fun z65 e66 => ?_)
                  have q67 : z29 = z65 := (e30).trans e66.symm
                  subst q67
                  refine g_dup2 56 (gd rfl) rfl rfl rfl ?_
                  refine g_iaload 57 (gd rfl) rfl (n := 32) rfl (in_ix i38 rfl) (fun z68 e69 => ?_)
                  refine g_iconst 1 58 (gd rfl) rfl rfl ?_
                  refine g_aload_n 59 (gd rfl) rfl rfl ?_
                  refine g_getA (q2 := 5) 62 (gd rfl) rfl rfl rfl rfl rfl ?_
                  refine g_iload_n 63 (gd rfl) rfl rfl ?_
                  refine g_iaload 64 (gd rfl) rfl (n := 160) rfl (in_ix i23 rfl) (fun z70 e71 => ?_)
                  have q72 : z42 = z70 := (e43).trans e71.symm
                  subst q72
                  refine g_ishl 65 (gd rfl) rfl (fun z73 e74 => ?_)
                  refine g_ior 66 (gd rfl) rfl (fun z75 e76 => ?_)
                  refine g_iastore 67 (gd rfl) rfl (n := 32) rfl (in_ix i38 rfl) ?_
                  have hI77 := inv_sI (q := 84) (j := z29.toNatClampNeg) hI rfl (in_w (-2147483648) 2147483647 (i_rng z75) rfl)
                  refine g_aload_n 68 (gd rfl) rfl rfl ?_
                  refine g_getA (q2 := 84) 71 (gd rfl) rfl rfl rfl rfl rfl ?_
                  refine g_aload_n 72 (gd rfl) rfl rfl ?_
                  refine g_getA (q2 := 5) 75 (gd rfl) rfl rfl rfl rfl rfl ?_
                  refine g_iload_n 76 (gd rfl) rfl rfl ?_
                  refine g_iaload 77 (gd rfl) rfl (n := 160) rfl (in_ix i23 rfl) (fun z78 e79 => ?_)
                  have q80 : z42 = z78 := (sI_ne rfl (e43)).trans e79.symm
                  subst q80
                  refine g_dup2 78 (gd rfl) rfl rfl rfl ?_
                  refine g_iaload 79 (gd rfl) rfl (n := 32) rfl (in_ix i44 rfl) (fun z81 e82 => ?_)
                  refine g_iconst 1 80 (gd rfl) rfl rfl ?_
                  refine g_aload_n 81 (gd rfl) rfl rfl ?_
                  refine g_getA (q2 := 4) 84 (gd rfl) rfl rfl rfl rfl rfl ?_
                  refine g_iload_n 85 (gd rfl) rfl rfl ?_
                  refine g_iaload 86 (gd rfl) rfl (n := 160) rfl (in_ix i23 rfl) (fun z83 e84 => ?_)
                  have q85 : z29 = z83 := (sI_ne rfl (e30)).trans e84.symm
                  subst q85
                  refine g_ishl 87 (gd rfl) rfl (fun z86 e87 => ?_)
                  refine g_ior 88 (gd rfl) rfl (fun z88 e89 => ?_)
                  refine g_iastore 89 (gd rfl) rfl (n := 32) rfl (in_ix i44 rfl) ?_
                  have hI90 := inv_sI (q := 84) (j := z42.toNatClampNeg) hI77 rfl (in_w (-2147483648) 2147483647 (i_rng z88) rfl)
                  refine g_iinc 92 (gd rfl) rfl rfl (Nat.le_of_ble_eq_true rfl) (fun z91 e92 => ?_)
                  have i93 := in_add 1 160 e92 i23 (in_c 1 rfl) rfl rfl
                  refine g_goto 20 (gd rfl) rfl ?_
                  exact gg_w (by omega) (gg_f (gf_cons rfl (gf_cons rfl (gf_cons rfl (gf_cons rfl gf_nil)))) (ih20 (sI (sI s 84 z29.toNatClampNeg z75) 84 z42.toNatClampNeg z88) z91 hI90 (in_w 0 160 i93 rfl) (m_up mm20 (t_add e92 i23 (in_c 1 rfl) rfl) (in_w 1 1 (in_c 1 rfl) rfl))))
              · skip
                refine g_aload_n 16 (gd rfl) rfl rfl ?_
                refine g_getA (q2 := 6) 19 (gd rfl) rfl rfl rfl rfl rfl ?_
                refine g_iload_n 20 (gd rfl) rfl rfl ?_
                refine g_iaload 21 (gd rfl) rfl (n := 160) rfl (in_ix i23 rfl) (fun z94 e95 => ?_)
                have q96 : z55 = z94 := (e56).trans e95.symm
                subst q96
                refine g_aload_n 22 (gd rfl) rfl rfl ?_
                refine g_getA (q2 := 6) 25 (gd rfl) rfl rfl rfl rfl rfl ?_
                refine g_iload_n 26 (gd rfl) rfl rfl ?_
                refine g_iaload 27 (gd rfl) rfl (n := 160) rfl (in_ix h2 rfl) (fun z97 e98 => ?_)
                have q99 : z58 = z97 := (e59).trans e98.symm
                subst q99
                refine g_cmp_ne 30 39 (gd rfl) rfl rfl (fun c100 => ?_) (fun c100 => ?_)
                · skip
                  refine g_iconst 0 40 (gd rfl) rfl rfl ?_
                  refine g_ireturn (gd rfl) rfl (nb01 (in_w 0 1 (in_c 0 rfl) rfl)) (hp53 _ _ ?_)
                  show GG _ _ _ _ _ _ _ _ [.int (Int32.ofInt 0)] _ _ _
                  refine g_if_eq 45 89 (gd rfl) rfl rfl (fun c101 => ?_) (fun c101 => ?_)
                  · skip
                    refine g_iinc 92 (gd rfl) rfl rfl (Nat.le_of_ble_eq_true rfl) (fun z102 e103 => ?_)
                    have i104 := in_add 1 160 e103 i23 (in_c 1 rfl) rfl rfl
                    refine g_goto 20 (gd rfl) rfl ?_
                    exact gg_w (by omega) (gg_f (gf_cons rfl (gf_cons rfl (gf_cons rfl (gf_cons rfl gf_nil)))) (ih20 s z102 hI (in_w 0 160 i104 rfl) (m_up mm20 (t_add e103 i23 (in_c 1 rfl) rfl) (in_w 1 1 (in_c 1 rfl) rfl))))
                  · skip
                    exact zn_ne c101 (in_c 0 rfl) rfl
                · skip
                  refine g_iload_n 31 (gd rfl) rfl rfl ?_
                  refine g_iload_n 32 (gd rfl) rfl rfl ?_
                  refine g_cmp_ge 35 39 (gd rfl) rfl rfl (fun c105 => ?_) (fun c105 => ?_)
                  · skip
                    refine g_iconst 0 40 (gd rfl) rfl rfl ?_
                    refine g_ireturn (gd rfl) rfl (nb01 (in_w 0 1 (in_c 0 rfl) rfl)) (hp53 _ _ ?_)
                    show GG _ _ _ _ _ _ _ _ [.int (Int32.ofInt 0)] _ _ _
                    refine g_if_eq 45 89 (gd rfl) rfl rfl (fun c106 => ?_) (fun c106 => ?_)
                    · skip
                      refine g_iinc 92 (gd rfl) rfl rfl (Nat.le_of_ble_eq_true rfl) (fun z107 e108 => ?_)
                      have i109 := in_add 1 160 e108 i23 (in_c 1 rfl) rfl rfl
                      refine g_goto 20 (gd rfl) rfl ?_
                      exact gg_w (by omega) (gg_f (gf_cons rfl (gf_cons rfl (gf_cons rfl (gf_cons rfl gf_nil)))) (ih20 s z107 hI (in_w 0 160 i109 rfl) (m_up mm20 (t_add e108 i23 (in_c 1 rfl) rfl) (in_w 1 1 (in_c 1 rfl) rfl))))
                    · skip
                      exact zn_ne c106 (in_c 0 rfl) rfl
                  · skip
                    have i110 := r_lt1 0 158 c105 i23 h2 rfl
                    have i111 := r_lt2 1 159 c105 i23 h2 rfl
                    refine g_iconst 1 36 (gd rfl) rfl rfl ?_
                    refine g_goto 40 (gd rfl) rfl ?_
                    refine g_ireturn (gd rfl) rfl (nb01 (in_w 0 1 (in_c 1 rfl) rfl)) (hp53 _ _ ?_)
                    show GG _ _ _ _ _ _ _ _ [.int (Int32.ofInt 1)] _ _ _
                    refine g_if_eq 45 89 (gd rfl) rfl rfl (fun c112 => ?_) (fun c112 => ?_)
                    · skip
                      exact zn_eq c112 (in_c 1 rfl) rfl
                    · skip
                      refine g_aload_n 46 (gd rfl) rfl rfl ?_
                      refine g_getA (q2 := 84) 49 (gd rfl) rfl rfl rfl rfl rfl ?_
                      refine g_aload_n 50 (gd rfl) rfl rfl ?_
                      refine g_getA (q2 := 4) 53 (gd rfl) rfl rfl rfl rfl rfl ?_
                      refine g_iload_n 54 (gd rfl) rfl rfl ?_
                      refine g_iaload 55 (gd rfl) rfl (n := 160) rfl (in_ix i110 rfl) (fun z113 e114 => ?_)
                      have q115 : z29 = z113 := (e30).trans e114.symm
                      subst q115
                      refine g_dup2 56 (gd rfl) rfl rfl rfl ?_
                      refine g_iaload 57 (gd rfl) rfl (n := 32) rfl (in_ix i38 rfl) (fun z116 e117 => ?_)
                      refine g_iconst 1 58 (gd rfl) rfl rfl ?_
                      refine g_aload_n 59 (gd rfl) rfl rfl ?_
                      refine g_getA (q2 := 5) 62 (gd rfl) rfl rfl rfl rfl rfl ?_
                      refine g_iload_n 63 (gd rfl) rfl rfl ?_
                      refine g_iaload 64 (gd rfl) rfl (n := 160) rfl (in_ix i110 rfl) (fun z118 e119 => ?_)
                      have q120 : z42 = z118 := (e43).trans e119.symm
                      subst q120
                      refine g_ishl 65 (gd rfl) rfl (fun z121 e122 => ?_)
                      refine g_ior 66 (gd rfl) rfl (fun z123 e124 => ?_)
                      refine g_iastore 67 (gd rfl) rfl (n := 32) rfl (in_ix i38 rfl) ?_
                      have hI125 := inv_sI (q := 84) (j := z29.toNatClampNeg) hI rfl (in_w (-2147483648) 2147483647 (i_rng z123) rfl)
                      refine g_aload_n 68 (gd rfl) rfl rfl ?_
                      refine g_getA (q2 := 84) 71 (gd rfl) rfl rfl rfl rfl rfl ?_
                      refine g_aload_n 72 (gd rfl) rfl rfl ?_
                      refine g_getA (q2 := 5) 75 (gd rfl) rfl rfl rfl rfl rfl ?_
                      refine g_iload_n 76 (gd rfl) rfl rfl ?_
                      refine g_iaload 77 (gd rfl) rfl (n := 160) rfl (in_ix i110 rfl) (fun z126 e127 => ?_)
                      have q128 : z42 = z126 := (sI_ne rfl (e43)).trans e127.symm
                      subst q128
                      refine g_dup2 78 (gd rfl) rfl rfl rfl ?_
                      refine g_iaload 79 (gd rfl) rfl (n := 32) rfl (in_ix i44 rfl) (fun z129 e130 => ?_)
                      refine g_iconst 1 80 (gd rfl) rfl rfl ?_
                      refine g_aload_n 81 (gd rfl) rfl rfl ?_
                      refine g_getA (q2 := 4) 84 (gd rfl) rfl rfl rfl rfl rfl ?_
                      refine g_iload_n 85 (gd rfl) rfl rfl ?_
                      refine g_iaload 86 (gd rfl) rfl (n := 160) rfl (in_ix i110 rfl) (fun z131 e132 => ?_)
                      have q133 : z29 = z131 := (sI_ne rfl (e30)).trans e132.symm
                      subst q133
                      refine g_ishl 87 (gd rfl) rfl (fun z134 e135 => ?_)
                      refine g_ior 88 (gd rfl) rfl (fun z136 e137 => ?_)
                      refine g_iastore 89 (gd rfl) rfl (n := 32) rfl (in_ix i44 rfl) ?_
                      have hI138 := inv_sI (q := 84) (j := z42.toNatClampNeg) hI125 rfl (in_w (-2147483648) 2147483647 (i_rng z136) rfl)
                      refine g_iinc 92 (gd rfl) rfl rfl (Nat.le_of_ble_eq_true rfl) (fun z139 e140 => ?_)
                      have i141 := in_add 1 159 e140 i110 (in_c 1 rfl) rfl rfl
                      refine g_goto 20 (gd rfl) rfl ?_
                      exact gg_w (by omega) (gg_f (gf_cons rfl (gf_cons rfl (gf_cons rfl (gf_cons rfl gf_nil)))) (ih20 (sI (sI s 84 z29.toNatClampNeg z123) 84 z42.toNatClampNeg z136) z139 hI138 (in_w 0 160 i141 rfl) (m_up mm20 (t_add e140 i110 (in_c 1 rfl) rfl) (in_w 1 1 (in_c 1 rfl) rfl))))
  refine g_enter2 (k := 186) (N := 145801) (by omega) rfl (Nat.le_of_ble_eq_true rfl) ?_
  refine g_aload_n 1 (gd rfl) rfl rfl ?_
  refine g_iload_n 2 (gd rfl) rfl rfl ?_
  refine g_callv (X := _) (As := [.int x2]) (r := []) (b := A 2) (q := 2) 5 (gd rfl) rfl rfl rfl rfl rfl (ww_o rfl) (Nat.le_of_ble_eq_true rfl) (mc := 0) (ms := 0) (Nat.zero_le _) (Nat.zero_le _) (P := fun v u => _) ?_ (fun e u h => h) (fun v u h => h)
  intro po142 xx143 hp144 hx145
  refine g_enter2 (k := 97) (N := 300) (by omega) rfl (Nat.le_of_ble_eq_true rfl) ?_
  refine g_aload_n 1 (gd rfl) rfl rfl ?_
  refine g_getA (q2 := 4) 4 (gd rfl) rfl rfl rfl rfl rfl ?_
  refine g_iload_n 5 (gd rfl) rfl rfl ?_
  refine g_iaload 6 (gd rfl) rfl (n := 160) rfl (in_ix h2 rfl) (fun z146 e147 => ?_)
  have i148 := inv_I hI (n := 160) (t := 0) (-1) 31 rfl (in_ix h2 rfl) rfl e147
  refine g_iconst (-1) 7 (gd rfl) rfl rfl ?_
  refine g_cmp_eq 10 29 (gd rfl) rfl rfl (fun c149 => ?_) (fun c149 => ?_)
  · skip
    have i150 := r_eq1 (-1) (-1) c149 i148 (in_c (-1) rfl) rfl
    refine g_iconst 0 30 (gd rfl) rfl rfl ?_
    refine g_ireturn (gd rfl) rfl (nb01 (in_w 0 1 (in_c 0 rfl) rfl)) (hp144 _ _ ?_)
    show GG _ _ _ _ _ _ _ _ [.int (Int32.ofInt 0)] _ _ _
    refine g_if_ne 8 10 (gd rfl) rfl rfl (fun c151 => ?_) (fun c151 => ?_)
    · skip
      exact zn_ne c151 (in_c 0 rfl) rfl
    · skip
      refine g_iconst 0 9 (gd rfl) rfl rfl ?_
      exact g_ireturn (gd rfl) rfl (nb01 (in_w 0 1 (in_c 0 rfl) rfl)) (hP _ _ ⟨s, hI, (Int32.ofInt 0), rfl, rfl, in_w 0 1 (in_c 0 rfl) rfl⟩)
  · skip
    have i152 := r_ne1 0 31 c149 i148 (in_c (-1) rfl) rfl
    refine g_aload_n 11 (gd rfl) rfl rfl ?_
    refine g_getA (q2 := 4) 14 (gd rfl) rfl rfl rfl rfl rfl ?_
    refine g_iload_n 15 (gd rfl) rfl rfl ?_
    refine g_iaload 16 (gd rfl) rfl (n := 160) rfl (in_ix h2 rfl) (fun z153 e154 => ?_)
    have q155 : z146 = z153 := (e147).trans e154.symm
    subst q155
    refine g_aload_n 17 (gd rfl) rfl rfl ?_
    refine g_getA (q2 := 5) 20 (gd rfl) rfl rfl rfl rfl rfl ?_
    refine g_iload_n 21 (gd rfl) rfl rfl ?_
    refine g_iaload 22 (gd rfl) rfl (n := 160) rfl (in_ix h2 rfl) (fun z156 e157 => ?_)
    have i158 := inv_I hI (n := 160) (t := 0) 0 31 rfl (in_ix h2 rfl) rfl e157
    refine g_cmp_eq 25 29 (gd rfl) rfl rfl (fun c159 => ?_) (fun c159 => ?_)
    · skip
      refine g_iconst 0 30 (gd rfl) rfl rfl ?_
      refine g_ireturn (gd rfl) rfl (nb01 (in_w 0 1 (in_c 0 rfl) rfl)) (hp144 _ _ ?_)
      show GG _ _ _ _ _ _ _ _ [.int (Int32.ofInt 0)] _ _ _
      refine g_if_ne 8 10 (gd rfl) rfl rfl (fun c160 => ?_) (fun c160 => ?_)
      · skip
        exact zn_ne c160 (in_c 0 rfl) rfl
      · skip
        refine g_iconst 0 9 (gd rfl) rfl rfl ?_
        exact g_ireturn (gd rfl) rfl (nb01 (in_w 0 1 (in_c 0 rfl) rfl)) (hP _ _ ⟨s, hI, (Int32.ofInt 0), rfl, rfl, in_w 0 1 (in_c 0 rfl) rfl⟩)
    · skip
      refine g_iconst 1 26 (gd rfl) rfl rfl ?_
      refine g_goto 30 (gd rfl) rfl ?_
      refine g_ireturn (gd rfl) rfl (nb01 (in_w 0 1 (in_c 1 rfl) rfl)) (hp144 _ _ ?_)
      show GG _ _ _ _ _ _ _ _ [.int (Int32.ofInt 1)] _ _ _
      refine g_if_ne 8 10 (gd rfl) rfl rfl (fun c161 => ?_) (fun c161 => ?_)
      · skip
        refine g_aload_n 11 (gd rfl) rfl rfl ?_
        refine g_getA (q2 := 84) 14 (gd rfl) rfl rfl rfl rfl rfl ?_
        refine g_iconst 0 15 (gd rfl) rfl rfl ?_
        refine g_calls (As := [.ref (A 84), .int (Int32.ofInt 0)]) (r := []) 18 (gd rfl) rfl rfl rfl rfl rfl (Nat.le_of_ble_eq_true rfl) (Nat.zero_le _) (Nat.zero_le _) (k_fillI 84 (by omega) hI (in_c 0 rfl) (n := 32) rfl rfl rfl rfl) (fun v u h => ?_)
        obtain ⟨s162, hI163, rfl, rfl⟩ := h
        show GG _ _ _ _ _ _ _ _ [] _ _ _
        refine g_iconst 0 19 (gd rfl) rfl rfl ?_
        refine g_istore_n 20 (gd rfl) rfl (Nat.le_of_ble_eq_true rfl) ?_
        exact gg_w (by omega) (gg_f (gf_cons rfl (gf_cons rfl (gf_cons rfl (gf_cons rfl gf_nil)))) (ct20 161 s162 (Int32.ofInt 0) hI163 (in_w 0 160 (in_c 0 rfl) rfl) (m_in 161 (in_w 0 160 (in_c 0 rfl) rfl) rfl)))
      · skip
        exact zn_eq c161 (in_c 1 rfl) rfl

/-- GraphHouse$Trees.isSpanning -/
theorem k_186_76_32 {Z : AmZ} {A : Nat → Nat} {s : GS} {ex : va_W} {d : Nat} {X : AmX} {x2 : Int32} (hd : 5 ≤ d) (hI : Inv s) (h2 : In x2 0 159) : GC Z d 186 [.ref (A 76), .ref (A 32), .int x2] (WW Z A s ++ ex) 0 0 (fun v u => ∃ t : GS, Inv t ∧ ∃ z : Int32, v = some (.int z) ∧ u = WW Z A t ++ ex ∧ In z 0 1) X := by
  intro post xp hP hX
  have ct20 : ∀ (k20 : Nat) (s : GS) (y20_3 : Int32), Inv s → In y20_3 0 160 → 160 - (y20_3).toInt < (k20 : Int) → GG Z (d - 1) 186 post (gx xp) (1 + k20 * 900) 20 (fun j => xlook j [(0, .ref (A 76)), (1, .ref (A 32)), (2, .int x2), (3, .int y20_3)]) [] (WW Z A s ++ ex) 0 0 := by
    intro k20
    induction k20 with
    | zero => intro s y20_3 hI j20_3 mm20; exact m_no mm20 j20_3 rfl
    | succ k20 ih20 =>
      intro s y20_3 hI j20_3 mm20
      refine gg_w (M := 1 + k20 * 900 + 900) (by omega) ?_
      refine g_iload_n 21 (gd rfl) rfl rfl ?_
      refine g_aload_n 22 (gd rfl) rfl rfl ?_
      refine g_getI 25 (gd rfl) rfl rfl rfl (fun z1 e2 => ?_)
      have i3 := inv_F hI 0 160 rfl e2
      refine g_cmp_ge 28 95 (gd rfl) rfl rfl (fun c4 => ?_) (fun c4 => ?_)
      · skip
        refine g_aload_n 96 (gd rfl) rfl rfl ?_
        refine g_getA (q2 := 84) 99 (gd rfl) rfl rfl rfl rfl rfl ?_
        refine g_iconst 1 100 (gd rfl) rfl rfl ?_
        refine g_aload_n 101 (gd rfl) rfl rfl ?_
        refine g_getA (q2 := 34) 104 (gd rfl) rfl rfl rfl rfl rfl ?_
        refine g_iload_n 105 (gd rfl) rfl rfl ?_
        refine g_iaload 106 (gd rfl) rfl (n := 160) rfl (in_ix h2 rfl) (fun z5 e6 => ?_)
        have i7 := inv_I hI (n := 160) (t := 0) (-1) 31 rfl (in_ix h2 rfl) rfl e6
        refine g_ishl 107 (gd rfl) rfl (fun z8 e9 => ?_)
        refine g_iconst (-1) 108 (gd rfl) rfl rfl ?_
        refine g_calls (As := [.ref (A 84), .int z8, .int (Int32.ofInt (-1))]) (r := []) 111 (gd rfl) rfl rfl rfl rfl rfl (Nat.le_of_ble_eq_true rfl) (Nat.zero_le _) (Nat.zero_le _) (k_266_84 (by omega) hI (in_w (-1) (-1) (in_c (-1) rfl) rfl)) (fun v u h => ?_)
        obtain ⟨z10, rfl, rfl, i11⟩ := h
        show GG _ _ _ _ _ _ _ _ [.int z10] _ _ _
        refine g_aload_n 112 (gd rfl) rfl rfl ?_
        refine g_getA (q2 := 35) 115 (gd rfl) rfl rfl rfl rfl rfl ?_
        refine g_iload_n 116 (gd rfl) rfl rfl ?_
        refine g_iaload 117 (gd rfl) rfl (n := 160) rfl (in_ix h2 rfl) (fun z12 e13 => ?_)
        have i14 := inv_I hI (n := 160) (t := 0) 0 31 rfl (in_ix h2 rfl) rfl e13
        refine g_ishr 118 (gd rfl) rfl (fun z15 e16 => ?_)
        refine g_iconst 1 119 (gd rfl) rfl rfl ?_
        refine g_iand 120 (gd rfl) rfl (fun z17 e18 => ?_)
        have i19 := in_and2 e18 (in_c 1 rfl) rfl
        refine g_if_ne 123 127 (gd rfl) rfl rfl (fun c20 => ?_) (fun c20 => ?_)
        · skip
          have i21 := z_ne 1 1 c20 i19 rfl
          refine g_iconst 0 128 (gd rfl) rfl rfl ?_
          exact g_ireturn (gd rfl) rfl (nb01 (in_w 0 1 (in_c 0 rfl) rfl)) (hP _ _ ⟨s, hI, (Int32.ofInt 0), rfl, rfl, in_w 0 1 (in_c 0 rfl) rfl⟩)
        · skip
          have i22 := z_eq 0 0 c20 i19 rfl
          refine g_iconst 1 124 (gd rfl) rfl rfl ?_
          refine g_goto 128 (gd rfl) rfl ?_
          exact g_ireturn (gd rfl) rfl (nb01 (in_w 0 1 (in_c 1 rfl) rfl)) (hP _ _ ⟨s, hI, (Int32.ofInt 1), rfl, rfl, in_w 0 1 (in_c 1 rfl) rfl⟩)
      · skip
        have i23 := r_lt1 0 159 c4 j20_3 i3 rfl
        have i24 := r_lt2 1 160 c4 j20_3 i3 rfl
        refine g_aload_n 29 (gd rfl) rfl rfl ?_
        refine g_iload_n 30 (gd rfl) rfl rfl ?_
        refine g_callv (X := _) (As := [.int y20_3]) (r := []) (b := A 32) (q := 32) 33 (gd rfl) rfl rfl rfl rfl rfl (ww_o rfl) (Nat.le_of_ble_eq_true rfl) (mc := 0) (ms := 0) (Nat.zero_le _) (Nat.zero_le _) (P := fun v u => _) ?_ (fun e u h => h) (fun v u h => h)
        intro po25 xx26 hp27 hx28
        refine g_enter2 (k := 97) (N := 300) (by omega) rfl (Nat.le_of_ble_eq_true rfl) ?_
        refine g_aload_n 1 (gd rfl) rfl rfl ?_
        refine g_getA (q2 := 34) 4 (gd rfl) rfl rfl rfl rfl rfl ?_
        refine g_iload_n 5 (gd rfl) rfl rfl ?_
        refine g_iaload 6 (gd rfl) rfl (n := 160) rfl (in_ix i23 rfl) (fun z29 e30 => ?_)
        have i31 := inv_I hI (n := 160) (t := 0) (-1) 31 rfl (in_ix i23 rfl) rfl e30
        refine g_iconst (-1) 7 (gd rfl) rfl rfl ?_
        refine g_cmp_eq 10 29 (gd rfl) rfl rfl (fun c32 => ?_) (fun c32 => ?_)
        · skip
          have i33 := r_eq1 (-1) (-1) c32 i31 (in_c (-1) rfl) rfl
          refine g_iconst 0 30 (gd rfl) rfl rfl ?_
          refine g_ireturn (gd rfl) rfl (nb01 (in_w 0 1 (in_c 0 rfl) rfl)) (hp27 _ _ ?_)
          show GG _ _ _ _ _ _ _ _ [.int (Int32.ofInt 0)] _ _ _
          refine g_if_eq 36 89 (gd rfl) rfl rfl (fun c34 => ?_) (fun c34 => ?_)
          · skip
            refine g_iinc 92 (gd rfl) rfl rfl (Nat.le_of_ble_eq_true rfl) (fun z35 e36 => ?_)
            have i37 := in_add 1 160 e36 i23 (in_c 1 rfl) rfl rfl
            refine g_goto 20 (gd rfl) rfl ?_
            exact gg_w (by omega) (gg_f (gf_cons rfl (gf_cons rfl (gf_cons rfl (gf_cons rfl gf_nil)))) (ih20 s z35 hI (in_w 0 160 i37 rfl) (m_up mm20 (t_add e36 i23 (in_c 1 rfl) rfl) (in_w 1 1 (in_c 1 rfl) rfl))))
          · skip
            exact zn_ne c34 (in_c 0 rfl) rfl
        · skip
          have i38 := r_ne1 0 31 c32 i31 (in_c (-1) rfl) rfl
          refine g_aload_n 11 (gd rfl) rfl rfl ?_
          refine g_getA (q2 := 34) 14 (gd rfl) rfl rfl rfl rfl rfl ?_
          refine g_iload_n 15 (gd rfl) rfl rfl ?_
          refine g_iaload 16 (gd rfl) rfl (n := 160) rfl (in_ix i23 rfl) (fun z39 e40 => ?_)
          have q41 : z29 = z39 := (e30).trans e40.symm
          subst q41
          refine g_aload_n 17 (gd rfl) rfl rfl ?_
          refine g_getA (q2 := 35) 20 (gd rfl) rfl rfl rfl rfl rfl ?_
          refine g_iload_n 21 (gd rfl) rfl rfl ?_
          refine g_iaload 22 (gd rfl) rfl (n := 160) rfl (in_ix i23 rfl) (fun z42 e43 => ?_)
          have i44 := inv_I hI (n := 160) (t := 0) 0 31 rfl (in_ix i23 rfl) rfl e43
          refine g_cmp_eq 25 29 (gd rfl) rfl rfl (fun c45 => ?_) (fun c45 => ?_)
          · skip
            refine g_iconst 0 30 (gd rfl) rfl rfl ?_
            refine g_ireturn (gd rfl) rfl (nb01 (in_w 0 1 (in_c 0 rfl) rfl)) (hp27 _ _ ?_)
            show GG _ _ _ _ _ _ _ _ [.int (Int32.ofInt 0)] _ _ _
            refine g_if_eq 36 89 (gd rfl) rfl rfl (fun c46 => ?_) (fun c46 => ?_)
            · skip
              refine g_iinc 92 (gd rfl) rfl rfl (Nat.le_of_ble_eq_true rfl) (fun z47 e48 => ?_)
              have i49 := in_add 1 160 e48 i23 (in_c 1 rfl) rfl rfl
              refine g_goto 20 (gd rfl) rfl ?_
              exact gg_w (by omega) (gg_f (gf_cons rfl (gf_cons rfl (gf_cons rfl (gf_cons rfl gf_nil)))) (ih20 s z47 hI (in_w 0 160 i49 rfl) (m_up mm20 (t_add e48 i23 (in_c 1 rfl) rfl) (in_w 1 1 (in_c 1 rfl) rfl))))
            · skip
              exact zn_ne c46 (in_c 0 rfl) rfl
          · skip
            refine g_iconst 1 26 (gd rfl) rfl rfl ?_
            refine g_goto 30 (gd rfl) rfl ?_
            refine g_ireturn (gd rfl) rfl (nb01 (in_w 0 1 (in_c 1 rfl) rfl)) (hp27 _ _ ?_)
            show GG _ _ _ _ _ _ _ _ [.int (Int32.ofInt 1)] _ _ _
            refine g_if_eq 36 89 (gd rfl) rfl rfl (fun c50 => ?_) (fun c50 => ?_)
            · skip
              exact zn_eq c50 (in_c 1 rfl) rfl
            · skip
              refine g_aload_n 37 (gd rfl) rfl rfl ?_
              refine g_iload_n 38 (gd rfl) rfl rfl ?_
              refine g_iload_n 39 (gd rfl) rfl rfl ?_
              refine g_calls (As := [.ref (A 32), .int y20_3, .int x2]) (r := []) 42 (gd rfl) rfl rfl rfl rfl rfl (Nat.le_of_ble_eq_true rfl) (mc := 0) (ms := 0) (Nat.zero_le _) (Nat.zero_le _) (P := fun v u => _) ?_ (fun v u h => h)
              intro po51 xx52 hp53 hx54
              refine g_enter2 (k := 187) (N := 300) (by omega) rfl (Nat.le_of_ble_eq_true rfl) ?_
              refine g_aload_n 1 (gd rfl) rfl rfl ?_
              refine g_getA (q2 := 36) 4 (gd rfl) rfl rfl rfl rfl rfl ?_
              refine g_iload_n 5 (gd rfl) rfl rfl ?_
              refine g_iaload 6 (gd rfl) rfl (n := 160) rfl (in_ix i23 rfl) (fun z55 e56 => ?_)
              have i57 := inv_I hI (n := 160) (t := 0) (-1000000) 1000000 rfl (in_ix i23 rfl) rfl e56
              refine g_aload_n 7 (gd rfl) rfl rfl ?_
              refine g_getA (q2 := 36) 10 (gd rfl) rfl rfl rfl rfl rfl ?_
              refine g_iload_n 11 (gd rfl) rfl rfl ?_
              refine g_iaload 12 (gd rfl) rfl (n := 160) rfl (in_ix h2 rfl) (fun z58 e59 => ?_)
              have i60 := inv_I hI (n := 160) (t := 0) (-1000000) 1000000 rfl (in_ix h2 rfl) rfl e59
              refine g_cmp_lt 15 35 (gd rfl) rfl rfl (fun c61 => ?_) (fun c61 => ?_)
              · skip
                have i62 := r_lt1 (-1000000) 999999 c61 i57 i60 rfl
                have i63 := r_lt2 (-999999) 1000000 c61 i57 i60 rfl
                refine g_iconst 1 36 (gd rfl) rfl rfl ?_
                refine g_goto 40 (gd rfl) rfl ?_
                refine g_ireturn (gd rfl) rfl (nb01 (in_w 0 1 (in_c 1 rfl) rfl)) (hp53 _ _ ?_)
                show GG _ _ _ _ _ _ _ _ [.int (Int32.ofInt 1)] _ _ _
                refine g_if_eq 45 89 (gd rfl) rfl rfl (fun c64 => ?_) (fun c64 => ?_)
                · skip
                  exact zn_eq c64 (in_c 1 rfl) rfl
                · skip
                  refine g_aload_n 46 (gd rfl) rfl rfl ?_
                  refine g_getA (q2 := 84) 49 (gd rfl) rfl rfl rfl rfl rfl ?_
                  refine g_aload_n 50 (gd rfl) rfl rfl ?_
                  refine g_getA (q2 := 34) 53 (gd rfl) rfl rfl rfl rfl rfl ?_
                  refine g_iload_n 54 (gd rfl) rfl rfl ?_
                  refine g_iaload 55 (gd rfl) rfl (n := 160) rfl (in_ix i23 rfl) (fun z65 e66 => ?_)
                  have q67 : z29 = z65 := (e30).trans e66.symm
                  subst q67
                  refine g_dup2 56 (gd rfl) rfl rfl rfl ?_
                  refine g_iaload 57 (gd rfl) rfl (n := 32) rfl (in_ix i38 rfl) (fun z68 e69 => ?_)
                  refine g_iconst 1 58 (gd rfl) rfl rfl ?_
                  refine g_aload_n 59 (gd rfl) rfl rfl ?_
                  refine g_getA (q2 := 35) 62 (gd rfl) rfl rfl rfl rfl rfl ?_
                  refine g_iload_n 63 (gd rfl) rfl rfl ?_
                  refine g_iaload 64 (gd rfl) rfl (n := 160) rfl (in_ix i23 rfl) (fun z70 e71 => ?_)
                  have q72 : z42 = z70 := (e43).trans e71.symm
                  subst q72
                  refine g_ishl 65 (gd rfl) rfl (fun z73 e74 => ?_)
                  refine g_ior 66 (gd rfl) rfl (fun z75 e76 => ?_)
                  refine g_iastore 67 (gd rfl) rfl (n := 32) rfl (in_ix i38 rfl) ?_
                  have hI77 := inv_sI (q := 84) (j := z29.toNatClampNeg) hI rfl (in_w (-2147483648) 2147483647 (i_rng z75) rfl)
                  refine g_aload_n 68 (gd rfl) rfl rfl ?_
                  refine g_getA (q2 := 84) 71 (gd rfl) rfl rfl rfl rfl rfl ?_
                  refine g_aload_n 72 (gd rfl) rfl rfl ?_
                  refine g_getA (q2 := 35) 75 (gd rfl) rfl rfl rfl rfl rfl ?_
                  refine g_iload_n 76 (gd rfl) rfl rfl ?_
                  refine g_iaload 77 (gd rfl) rfl (n := 160) rfl (in_ix i23 rfl) (fun z78 e79 => ?_)
                  have q80 : z42 = z78 := (sI_ne rfl (e43)).trans e79.symm
                  subst q80
                  refine g_dup2 78 (gd rfl) rfl rfl rfl ?_
                  refine g_iaload 79 (gd rfl) rfl (n := 32) rfl (in_ix i44 rfl) (fun z81 e82 => ?_)
                  refine g_iconst 1 80 (gd rfl) rfl rfl ?_
                  refine g_aload_n 81 (gd rfl) rfl rfl ?_
                  refine g_getA (q2 := 34) 84 (gd rfl) rfl rfl rfl rfl rfl ?_
                  refine g_iload_n 85 (gd rfl) rfl rfl ?_
                  refine g_iaload 86 (gd rfl) rfl (n := 160) rfl (in_ix i23 rfl) (fun z83 e84 => ?_)
                  have q85 : z29 = z83 := (sI_ne rfl (e30)).trans e84.symm
                  subst q85
                  refine g_ishl 87 (gd rfl) rfl (fun z86 e87 => ?_)
                  refine g_ior 88 (gd rfl) rfl (fun z88 e89 => ?_)
                  refine g_iastore 89 (gd rfl) rfl (n := 32) rfl (in_ix i44 rfl) ?_
                  have hI90 := inv_sI (q := 84) (j := z42.toNatClampNeg) hI77 rfl (in_w (-2147483648) 2147483647 (i_rng z88) rfl)
                  refine g_iinc 92 (gd rfl) rfl rfl (Nat.le_of_ble_eq_true rfl) (fun z91 e92 => ?_)
                  have i93 := in_add 1 160 e92 i23 (in_c 1 rfl) rfl rfl
                  refine g_goto 20 (gd rfl) rfl ?_
                  exact gg_w (by omega) (gg_f (gf_cons rfl (gf_cons rfl (gf_cons rfl (gf_cons rfl gf_nil)))) (ih20 (sI (sI s 84 z29.toNatClampNeg z75) 84 z42.toNatClampNeg z88) z91 hI90 (in_w 0 160 i93 rfl) (m_up mm20 (t_add e92 i23 (in_c 1 rfl) rfl) (in_w 1 1 (in_c 1 rfl) rfl))))
              · skip
                refine g_aload_n 16 (gd rfl) rfl rfl ?_
                refine g_getA (q2 := 36) 19 (gd rfl) rfl rfl rfl rfl rfl ?_
                refine g_iload_n 20 (gd rfl) rfl rfl ?_
                refine g_iaload 21 (gd rfl) rfl (n := 160) rfl (in_ix i23 rfl) (fun z94 e95 => ?_)
                have q96 : z55 = z94 := (e56).trans e95.symm
                subst q96
                refine g_aload_n 22 (gd rfl) rfl rfl ?_
                refine g_getA (q2 := 36) 25 (gd rfl) rfl rfl rfl rfl rfl ?_
                refine g_iload_n 26 (gd rfl) rfl rfl ?_
                refine g_iaload 27 (gd rfl) rfl (n := 160) rfl (in_ix h2 rfl) (fun z97 e98 => ?_)
                have q99 : z58 = z97 := (e59).trans e98.symm
                subst q99
                refine g_cmp_ne 30 39 (gd rfl) rfl rfl (fun c100 => ?_) (fun c100 => ?_)
                · skip
                  refine g_iconst 0 40 (gd rfl) rfl rfl ?_
                  refine g_ireturn (gd rfl) rfl (nb01 (in_w 0 1 (in_c 0 rfl) rfl)) (hp53 _ _ ?_)
                  show GG _ _ _ _ _ _ _ _ [.int (Int32.ofInt 0)] _ _ _
                  refine g_if_eq 45 89 (gd rfl) rfl rfl (fun c101 => ?_) (fun c101 => ?_)
                  · skip
                    refine g_iinc 92 (gd rfl) rfl rfl (Nat.le_of_ble_eq_true rfl) (fun z102 e103 => ?_)
                    have i104 := in_add 1 160 e103 i23 (in_c 1 rfl) rfl rfl
                    refine g_goto 20 (gd rfl) rfl ?_
                    exact gg_w (by omega) (gg_f (gf_cons rfl (gf_cons rfl (gf_cons rfl (gf_cons rfl gf_nil)))) (ih20 s z102 hI (in_w 0 160 i104 rfl) (m_up mm20 (t_add e103 i23 (in_c 1 rfl) rfl) (in_w 1 1 (in_c 1 rfl) rfl))))
                  · skip
                    exact zn_ne c101 (in_c 0 rfl) rfl
                · skip
                  refine g_iload_n 31 (gd rfl) rfl rfl ?_
                  refine g_iload_n 32 (gd rfl) rfl rfl ?_
                  refine g_cmp_ge 35 39 (gd rfl) rfl rfl (fun c105 => ?_) (fun c105 => ?_)
                  · skip
                    refine g_iconst 0 40 (gd rfl) rfl rfl ?_
                    refine g_ireturn (gd rfl) rfl (nb01 (in_w 0 1 (in_c 0 rfl) rfl)) (hp53 _ _ ?_)
                    show GG _ _ _ _ _ _ _ _ [.int (Int32.ofInt 0)] _ _ _
                    refine g_if_eq 45 89 (gd rfl) rfl rfl (fun c106 => ?_) (fun c106 => ?_)
                    · skip
                      refine g_iinc 92 (gd rfl) rfl rfl (Nat.le_of_ble_eq_true rfl) (fun z107 e108 => ?_)
                      have i109 := in_add 1 160 e108 i23 (in_c 1 rfl) rfl rfl
                      refine g_goto 20 (gd rfl) rfl ?_
                      exact gg_w (by omega) (gg_f (gf_cons rfl (gf_cons rfl (gf_cons rfl (gf_cons rfl gf_nil)))) (ih20 s z107 hI (in_w 0 160 i109 rfl) (m_up mm20 (t_add e108 i23 (in_c 1 rfl) rfl) (in_w 1 1 (in_c 1 rfl) rfl))))
                    · skip
                      exact zn_ne c106 (in_c 0 rfl) rfl
                  · skip
                    have i110 := r_lt1 0 158 c105 i23 h2 rfl
                    have i111 := r_lt2 1 159 c105 i23 h2 rfl
                    refine g_iconst 1 36 (gd rfl) rfl rfl ?_
                    refine g_goto 40 (gd rfl) rfl ?_
                    refine g_ireturn (gd rfl) rfl (nb01 (in_w 0 1 (in_c 1 rfl) rfl)) (hp53 _ _ ?_)
                    show GG _ _ _ _ _ _ _ _ [.int (Int32.ofInt 1)] _ _ _
                    refine g_if_eq 45 89 (gd rfl) rfl rfl (fun c112 => ?_) (fun c112 => ?_)
                    · skip
                      exact zn_eq c112 (in_c 1 rfl) rfl
                    · skip
                      refine g_aload_n 46 (gd rfl) rfl rfl ?_
                      refine g_getA (q2 := 84) 49 (gd rfl) rfl rfl rfl rfl rfl ?_
                      refine g_aload_n 50 (gd rfl) rfl rfl ?_
                      refine g_getA (q2 := 34) 53 (gd rfl) rfl rfl rfl rfl rfl ?_
                      refine g_iload_n 54 (gd rfl) rfl rfl ?_
                      refine g_iaload 55 (gd rfl) rfl (n := 160) rfl (in_ix i110 rfl) (fun z113 e114 => ?_)
                      have q115 : z29 = z113 := (e30).trans e114.symm
                      subst q115
                      refine g_dup2 56 (gd rfl) rfl rfl rfl ?_
                      refine g_iaload 57 (gd rfl) rfl (n := 32) rfl (in_ix i38 rfl) (fun z116 e117 => ?_)
                      refine g_iconst 1 58 (gd rfl) rfl rfl ?_
                      refine g_aload_n 59 (gd rfl) rfl rfl ?_
                      refine g_getA (q2 := 35) 62 (gd rfl) rfl rfl rfl rfl rfl ?_
                      refine g_iload_n 63 (gd rfl) rfl rfl ?_
                      refine g_iaload 64 (gd rfl) rfl (n := 160) rfl (in_ix i110 rfl) (fun z118 e119 => ?_)
                      have q120 : z42 = z118 := (e43).trans e119.symm
                      subst q120
                      refine g_ishl 65 (gd rfl) rfl (fun z121 e122 => ?_)
                      refine g_ior 66 (gd rfl) rfl (fun z123 e124 => ?_)
                      refine g_iastore 67 (gd rfl) rfl (n := 32) rfl (in_ix i38 rfl) ?_
                      have hI125 := inv_sI (q := 84) (j := z29.toNatClampNeg) hI rfl (in_w (-2147483648) 2147483647 (i_rng z123) rfl)
                      refine g_aload_n 68 (gd rfl) rfl rfl ?_
                      refine g_getA (q2 := 84) 71 (gd rfl) rfl rfl rfl rfl rfl ?_
                      refine g_aload_n 72 (gd rfl) rfl rfl ?_
                      refine g_getA (q2 := 35) 75 (gd rfl) rfl rfl rfl rfl rfl ?_
                      refine g_iload_n 76 (gd rfl) rfl rfl ?_
                      refine g_iaload 77 (gd rfl) rfl (n := 160) rfl (in_ix i110 rfl) (fun z126 e127 => ?_)
                      have q128 : z42 = z126 := (sI_ne rfl (e43)).trans e127.symm
                      subst q128
                      refine g_dup2 78 (gd rfl) rfl rfl rfl ?_
                      refine g_iaload 79 (gd rfl) rfl (n := 32) rfl (in_ix i44 rfl) (fun z129 e130 => ?_)
                      refine g_iconst 1 80 (gd rfl) rfl rfl ?_
                      refine g_aload_n 81 (gd rfl) rfl rfl ?_
                      refine g_getA (q2 := 34) 84 (gd rfl) rfl rfl rfl rfl rfl ?_
                      refine g_iload_n 85 (gd rfl) rfl rfl ?_
                      refine g_iaload 86 (gd rfl) rfl (n := 160) rfl (in_ix i110 rfl) (fun z131 e132 => ?_)
                      have q133 : z29 = z131 := (sI_ne rfl (e30)).trans e132.symm
                      subst q133
                      refine g_ishl 87 (gd rfl) rfl (fun z134 e135 => ?_)
                      refine g_ior 88 (gd rfl) rfl (fun z136 e137 => ?_)
                      refine g_iastore 89 (gd rfl) rfl (n := 32) rfl (in_ix i44 rfl) ?_
                      have hI138 := inv_sI (q := 84) (j := z42.toNatClampNeg) hI125 rfl (in_w (-2147483648) 2147483647 (i_rng z136) rfl)
                      refine g_iinc 92 (gd rfl) rfl rfl (Nat.le_of_ble_eq_true rfl) (fun z139 e140 => ?_)
                      have i141 := in_add 1 159 e140 i110 (in_c 1 rfl) rfl rfl
                      refine g_goto 20 (gd rfl) rfl ?_
                      exact gg_w (by omega) (gg_f (gf_cons rfl (gf_cons rfl (gf_cons rfl (gf_cons rfl gf_nil)))) (ih20 (sI (sI s 84 z29.toNatClampNeg z123) 84 z42.toNatClampNeg z136) z139 hI138 (in_w 0 160 i141 rfl) (m_up mm20 (t_add e140 i110 (in_c 1 rfl) rfl) (in_w 1 1 (in_c 1 rfl) rfl))))
  refine g_enter2 (k := 186) (N := 145801) (by omega) rfl (Nat.le_of_ble_eq_true rfl) ?_
  refine g_aload_n 1 (gd rfl) rfl rfl ?_
  refine g_iload_n 2 (gd rfl) rfl rfl ?_
  refine g_callv (X := _) (As := [.int x2]) (r := []) (b := A 32) (q := 32) 5 (gd rfl) rfl rfl rfl rfl rfl (ww_o rfl) (Nat.le_of_ble_eq_true rfl) (mc := 0) (ms := 0) (Nat.zero_le _) (Nat.zero_le _) (P := fun v u => _) ?_ (fun e u h => h) (fun v u h => h)
  intro po142 xx143 hp144 hx145
  refine g_enter2 (k := 97) (N := 300) (by omega) rfl (Nat.le_of_ble_eq_true rfl) ?_
  refine g_aload_n 1 (gd rfl) rfl rfl ?_
  refine g_getA (q2 := 34) 4 (gd rfl) rfl rfl rfl rfl rfl ?_
  refine g_iload_n 5 (gd rfl) rfl rfl ?_
  refine g_iaload 6 (gd rfl) rfl (n := 160) rfl (in_ix h2 rfl) (fun z146 e147 => ?_)
  have i148 := inv_I hI (n := 160) (t := 0) (-1) 31 rfl (in_ix h2 rfl) rfl e147
  refine g_iconst (-1) 7 (gd rfl) rfl rfl ?_
  refine g_cmp_eq 10 29 (gd rfl) rfl rfl (fun c149 => ?_) (fun c149 => ?_)
  · skip
    have i150 := r_eq1 (-1) (-1) c149 i148 (in_c (-1) rfl) rfl
    refine g_iconst 0 30 (gd rfl) rfl rfl ?_
    refine g_ireturn (gd rfl) rfl (nb01 (in_w 0 1 (in_c 0 rfl) rfl)) (hp144 _ _ ?_)
    show GG _ _ _ _ _ _ _ _ [.int (Int32.ofInt 0)] _ _ _
    refine g_if_ne 8 10 (gd rfl) rfl rfl (fun c151 => ?_) (fun c151 => ?_)
    · skip
      exact zn_ne c151 (in_c 0 rfl) rfl
    · skip
      refine g_iconst 0 9 (gd rfl) rfl rfl ?_
      exact g_ireturn (gd rfl) rfl (nb01 (in_w 0 1 (in_c 0 rfl) rfl)) (hP _ _ ⟨s, hI, (Int32.ofInt 0), rfl, rfl, in_w 0 1 (in_c 0 rfl) rfl⟩)
  · skip
    have i152 := r_ne1 0 31 c149 i148 (in_c (-1) rfl) rfl
    refine g_aload_n 11 (gd rfl) rfl rfl ?_
    refine g_getA (q2 := 34) 14 (gd rfl) rfl rfl rfl rfl rfl ?_
    refine g_iload_n 15 (gd rfl) rfl rfl ?_
    refine g_iaload 16 (gd rfl) rfl (n := 160) rfl (in_ix h2 rfl) (fun z153 e154 => ?_)
    have q155 : z146 = z153 := (e147).trans e154.symm
    subst q155
    refine g_aload_n 17 (gd rfl) rfl rfl ?_
    refine g_getA (q2 := 35) 20 (gd rfl) rfl rfl rfl rfl rfl ?_
    refine g_iload_n 21 (gd rfl) rfl rfl ?_
    refine g_iaload 22 (gd rfl) rfl (n := 160) rfl (in_ix h2 rfl) (fun z156 e157 => ?_)
    have i158 := inv_I hI (n := 160) (t := 0) 0 31 rfl (in_ix h2 rfl) rfl e157
    refine g_cmp_eq 25 29 (gd rfl) rfl rfl (fun c159 => ?_) (fun c159 => ?_)
    · skip
      refine g_iconst 0 30 (gd rfl) rfl rfl ?_
      refine g_ireturn (gd rfl) rfl (nb01 (in_w 0 1 (in_c 0 rfl) rfl)) (hp144 _ _ ?_)
      show GG _ _ _ _ _ _ _ _ [.int (Int32.ofInt 0)] _ _ _
      refine g_if_ne 8 10 (gd rfl) rfl rfl (fun c160 => ?_) (fun c160 => ?_)
      · skip
        exact zn_ne c160 (in_c 0 rfl) rfl
      · skip
        refine g_iconst 0 9 (gd rfl) rfl rfl ?_
        exact g_ireturn (gd rfl) rfl (nb01 (in_w 0 1 (in_c 0 rfl) rfl)) (hP _ _ ⟨s, hI, (Int32.ofInt 0), rfl, rfl, in_w 0 1 (in_c 0 rfl) rfl⟩)
    · skip
      refine g_iconst 1 26 (gd rfl) rfl rfl ?_
      refine g_goto 30 (gd rfl) rfl ?_
      refine g_ireturn (gd rfl) rfl (nb01 (in_w 0 1 (in_c 1 rfl) rfl)) (hp144 _ _ ?_)
      show GG _ _ _ _ _ _ _ _ [.int (Int32.ofInt 1)] _ _ _
      refine g_if_ne 8 10 (gd rfl) rfl rfl (fun c161 => ?_) (fun c161 => ?_)
      · skip
        refine g_aload_n 11 (gd rfl) rfl rfl ?_
        refine g_getA (q2 := 84) 14 (gd rfl) rfl rfl rfl rfl rfl ?_
        refine g_iconst 0 15 (gd rfl) rfl rfl ?_
        refine g_calls (As := [.ref (A 84), .int (Int32.ofInt 0)]) (r := []) 18 (gd rfl) rfl rfl rfl rfl rfl (Nat.le_of_ble_eq_true rfl) (Nat.zero_le _) (Nat.zero_le _) (k_fillI 84 (by omega) hI (in_c 0 rfl) (n := 32) rfl rfl rfl rfl) (fun v u h => ?_)
        obtain ⟨s162, hI163, rfl, rfl⟩ := h
        show GG _ _ _ _ _ _ _ _ [] _ _ _
        refine g_iconst 0 19 (gd rfl) rfl rfl ?_
        refine g_istore_n 20 (gd rfl) rfl (Nat.le_of_ble_eq_true rfl) ?_
        exact gg_w (by omega) (gg_f (gf_cons rfl (gf_cons rfl (gf_cons rfl (gf_cons rfl gf_nil)))) (ct20 161 s162 (Int32.ofInt 0) hI163 (in_w 0 160 (in_c 0 rfl) rfl) (m_in 161 (in_w 0 160 (in_c 0 rfl) rfl) rfl)))
      · skip
        exact zn_eq c161 (in_c 1 rfl) rfl

/-- GraphHouse$Ways.gather -/
theorem k_208_49_2_r {Z : AmZ} {A : Nat → Nat} {ex : va_W} (kk : Nat) : ∀ {s : GS} {d : Nat} {X : AmX} {x2 : Int32} {x3 : Int32} {x4 : Int32} {x5 : Int64}, 6 + kk * 3 ≤ d → Inv s → In x2 0 31 → In x4 0 4 → 4 - (x4).toInt < (kk : Int) → GC Z d 208 [.ref (A 49), .ref (A 2), .int x2, .int x3, .int x4, .long x5] (WW Z A s ++ ex) 0 0 (fun v u => ∃ t : GS, Inv t ∧ v = none ∧ u = WW Z A t ++ ex) X := by
  induction kk with
  | zero => intro s d X x2 x3 x4 x5 hd hI h2 h4 hm; exact m_no hm h4 rfl
  | succ kk ih =>
    intro s d X x2 x3 x4 x5 hd hI h2 h4 hm
    intro post xp hP hX
    have ct8 : ∀ (k8 : Nat) (s : GS) (y8_7 : Int32), Inv s → In y8_7 0 160 → 160 - (y8_7).toInt < (k8 : Int) → GG Z (d - 1) 208 post (gx xp) (1 + k8 * 900) 8 (fun j => xlook j [(0, .ref (A 49)), (1, .ref (A 2)), (2, .int x2), (3, .int x3), (4, .int x4), (5, .long x5), (7, .int y8_7)]) [] (WW Z A s ++ ex) 0 0 := by
      intro k8
      induction k8 with
      | zero => intro s y8_7 hI j8_7 mm8; exact m_no mm8 j8_7 rfl
      | succ k8 ih8 =>
        intro s y8_7 hI j8_7 mm8
        refine gg_w (M := 1 + k8 * 900 + 900) (by omega) ?_
        refine g_iload 10 (gd rfl) rfl rfl ?_
        refine g_aload_n 11 (gd rfl) rfl rfl ?_
        refine g_getA (q2 := 12) 14 (gd rfl) rfl rfl rfl rfl rfl ?_
        refine g_iload_n 15 (gd rfl) rfl rfl ?_
        refine g_iconst 1 16 (gd rfl) rfl rfl ?_
        refine g_iadd 17 (gd rfl) rfl (fun z1 e2 => ?_)
        have i3 := in_add 1 32 e2 h2 (in_c 1 rfl) rfl rfl
        refine g_iaload 18 (gd rfl) rfl (n := 33) rfl (in_ix i3 rfl) (fun z4 e5 => ?_)
        have i6 := inv_I hI (n := 33) (t := 0) 0 160 rfl (in_ix i3 rfl) rfl e5
        refine g_cmp_ge 21 184 (gd rfl) rfl rfl (fun c7 => ?_) (fun c7 => ?_)
        · skip
          exact g_return (gd rfl) rfl (hP _ _ ⟨s, hI, rfl, rfl⟩)
        · skip
          have i8 := r_lt1 0 159 c7 j8_7 i6 rfl
          have i9 := r_lt2 1 160 c7 j8_7 i6 rfl
          refine g_aload_n 22 (gd rfl) rfl rfl ?_
          refine g_getI 25 (gd rfl) rfl rfl rfl (fun z10 e11 => ?_)
          have i12 := inv_F hI 0 2001 rfl e11
          refine g_sipush 2000 28 (gd rfl) rfl rfl ?_
          refine g_cmp_gt 31 184 (gd rfl) rfl rfl (fun c13 => ?_) (fun c13 => ?_)
          · skip
            have i14 := r_lt2 2001 2001 c13 (in_c 2000 rfl) i12 rfl
            exact g_return (gd rfl) rfl (hP _ _ ⟨s, hI, rfl, rfl⟩)
          · skip
            have i15 := r_le1 0 2000 c13 i12 (in_c 2000 rfl) rfl
            refine g_iload 33 (gd rfl) rfl rfl ?_
            refine g_iconst 4 34 (gd rfl) rfl rfl ?_
            refine g_cmp_ge 37 184 (gd rfl) rfl rfl (fun c16 => ?_) (fun c16 => ?_)
            · skip
              have i17 := r_le2 4 4 c16 (in_c 4 rfl) h4 rfl
              exact g_return (gd rfl) rfl (hP _ _ ⟨s, hI, rfl, rfl⟩)
            · skip
              have i18 := r_lt1 0 3 c16 h4 (in_c 4 rfl) rfl
              refine g_aload_n 38 (gd rfl) rfl rfl ?_
              refine g_getA (q2 := 13) 41 (gd rfl) rfl rfl rfl rfl rfl ?_
              refine g_iload 43 (gd rfl) rfl rfl ?_
              refine g_iaload 44 (gd rfl) rfl (n := 160) rfl (in_ix i8 rfl) (fun z19 e20 => ?_)
              have i21 := inv_I hI (n := 160) (t := 0) 0 159 rfl (in_ix i8 rfl) rfl e20
              refine g_istore 46 (gd rfl) rfl (Nat.le_of_ble_eq_true rfl) ?_
              refine g_aload_n 47 (gd rfl) rfl rfl ?_
              refine g_getA (q2 := 5) 50 (gd rfl) rfl rfl rfl rfl rfl ?_
              refine g_iload 52 (gd rfl) rfl rfl ?_
              refine g_iaload 53 (gd rfl) rfl (n := 160) rfl (in_ix i21 rfl) (fun z22 e23 => ?_)
              have i24 := inv_I hI (n := 160) (t := 0) 0 31 rfl (in_ix i21 rfl) rfl e23
              refine g_istore 55 (gd rfl) rfl (Nat.le_of_ble_eq_true rfl) ?_
              refine g_lload 57 (gd rfl) rfl rfl ?_
              refine g_aload_n 58 (gd rfl) rfl rfl ?_
              refine g_getA (q2 := 6) 61 (gd rfl) rfl rfl rfl rfl rfl ?_
              refine g_iload 63 (gd rfl) rfl rfl ?_
              refine g_iaload 64 (gd rfl) rfl (n := 160) rfl (in_ix i21 rfl) (fun z25 e26 => ?_)
              have i27 := inv_I hI (n := 160) (t := 0) (-1000000) 1000000 rfl (in_ix i21 rfl) rfl e26
              refine g_i2l 65 (gd rfl) rfl (fun z28 e29 => ?_)
              have i30 := l_i e29 i27
              refine g_bipush 35 67 (gd rfl) rfl rfl ?_
              refine g_lshl 68 (gd rfl) rfl (fun z31 e32 => ?_)
              refine g_ladd 69 (gd rfl) rfl (fun z33 e34 => ?_)
              refine g_iload 71 (gd rfl) rfl rfl ?_
              refine g_i2l 72 (gd rfl) rfl (fun z35 e36 => ?_)
              have i37 := l_i e36 i21
              refine g_bipush 24 74 (gd rfl) rfl rfl ?_
              refine g_bipush 8 76 (gd rfl) rfl rfl ?_
              refine g_iload 78 (gd rfl) rfl rfl ?_
              refine g_imul 79 (gd rfl) rfl (fun z38 e39 => ?_)
              have i40 := in_mulc 8 0 24 (Or.inl e39) i18 rfl rfl
              refine g_isub 80 (gd rfl) rfl (fun z41 e42 => ?_)
              have i43 := in_sub 0 24 e42 (in_c 24 rfl) i40 rfl rfl
              refine g_lshl 81 (gd rfl) rfl (fun z44 e45 => ?_)
              refine g_ladd 82 (gd rfl) rfl (fun z46 e47 => ?_)
              refine g_lstore 84 (gd rfl) rfl (Nat.le_of_ble_eq_true rfl) ?_
              refine g_iload 86 (gd rfl) rfl rfl ?_
              refine g_aload_n 87 (gd rfl) rfl rfl ?_
              refine g_getI 90 (gd rfl) rfl rfl rfl (fun z48 e49 => ?_)
              have i50 := inv_F hI 0 31 rfl e49
              refine g_cmp_ne 93 130 (gd rfl) rfl rfl (fun c51 => ?_) (fun c51 => ?_)
              · skip
                refine g_iload_n 131 (gd rfl) rfl rfl ?_
                refine g_iload 133 (gd rfl) rfl rfl ?_
                refine g_ishr 134 (gd rfl) rfl (fun z52 e53 => ?_)
                refine g_iconst 1 135 (gd rfl) rfl rfl ?_
                refine g_iand 136 (gd rfl) rfl (fun z54 e55 => ?_)
                have i56 := in_and2 e55 (in_c 1 rfl) rfl
                refine g_if_ne 139 178 (gd rfl) rfl rfl (fun c57 => ?_) (fun c57 => ?_)
                · skip
                  have i58 := z_ne 1 1 c57 i56 rfl
                  refine g_iinc 181 (gd rfl) rfl rfl (Nat.le_of_ble_eq_true rfl) (fun z59 e60 => ?_)
                  have i61 := in_add 1 160 e60 i8 (in_c 1 rfl) rfl rfl
                  refine g_goto 8 (gd rfl) rfl ?_
                  exact gg_w (by omega) (gg_f (gf_cons rfl (gf_cons rfl (gf_cons rfl (gf_cons rfl (gf_cons rfl (gf_cons rfl (gf_cons rfl gf_nil))))))) (ih8 s z59 hI (in_w 0 160 i61 rfl) (m_up mm8 (t_add e60 i8 (in_c 1 rfl) rfl) (in_w 1 1 (in_c 1 rfl) rfl))))
                · skip
                  have i62 := z_eq 0 0 c57 i56 rfl
                  refine g_aload_n 140 (gd rfl) rfl rfl ?_
                  refine g_aload_n 141 (gd rfl) rfl rfl ?_
                  refine g_iload 143 (gd rfl) rfl rfl ?_
                  refine g_iload_n 144 (gd rfl) rfl rfl ?_
                  refine g_iconst 1 145 (gd rfl) rfl rfl ?_
                  refine g_iload 147 (gd rfl) rfl rfl ?_
                  refine g_ishl 148 (gd rfl) rfl (fun z63 e64 => ?_)
                  refine g_ior 149 (gd rfl) rfl (fun z65 e66 => ?_)
                  refine g_iconst 3 150 (gd rfl) rfl rfl ?_
                  refine g_iload 152 (gd rfl) rfl rfl ?_
                  refine g_isub 153 (gd rfl) rfl (fun z67 e68 => ?_)
                  have i69 := in_sub 0 3 e68 (in_c 3 rfl) i18 rfl rfl
                  refine g_callv (X := _) (As := [.ref (A 2), .int z22, .int z65, .int z67]) (r := []) (b := A 49) (q := 49) 156 (gd rfl) rfl rfl rfl rfl rfl (ww_o rfl) (Nat.le_of_ble_eq_true rfl) (Nat.zero_le _) (Nat.zero_le _) (k_209_49_2 (by omega) hI (in_w 0 31 i24 rfl) (in_w 0 3 i69 rfl)) (fun e u h => h) (fun v u h => ?_)
                  obtain ⟨z70, rfl, rfl, i71⟩ := h
                  show GG _ _ _ _ _ _ _ _ [.int z70] _ _ _
                  refine g_if_eq 159 178 (gd rfl) rfl rfl (fun c72 => ?_) (fun c72 => ?_)
                  · skip
                    have i73 := z_eq 0 0 c72 i71 rfl
                    refine g_iinc 181 (gd rfl) rfl rfl (Nat.le_of_ble_eq_true rfl) (fun z74 e75 => ?_)
                    have i76 := in_add 1 160 e75 i8 (in_c 1 rfl) rfl rfl
                    refine g_goto 8 (gd rfl) rfl ?_
                    exact gg_w (by omega) (gg_f (gf_cons rfl (gf_cons rfl (gf_cons rfl (gf_cons rfl (gf_cons rfl (gf_cons rfl (gf_cons rfl gf_nil))))))) (ih8 s z74 hI (in_w 0 160 i76 rfl) (m_up mm8 (t_add e75 i8 (in_c 1 rfl) rfl) (in_w 1 1 (in_c 1 rfl) rfl))))
                  · skip
                    have i77 := z_ne 1 1 c72 i71 rfl
                    refine g_aload_n 160 (gd rfl) rfl rfl ?_
                    refine g_aload_n 161 (gd rfl) rfl rfl ?_
                    refine g_iload 163 (gd rfl) rfl rfl ?_
                    refine g_iload_n 164 (gd rfl) rfl rfl ?_
                    refine g_iconst 1 165 (gd rfl) rfl rfl ?_
                    refine g_iload 167 (gd rfl) rfl rfl ?_
                    refine g_ishl 168 (gd rfl) rfl (fun z78 e79 => ?_)
                    refine g_ior 169 (gd rfl) rfl (fun z80 e81 => ?_)
                    refine g_iload 171 (gd rfl) rfl rfl ?_
                    refine g_iconst 1 172 (gd rfl) rfl rfl ?_
                    refine g_iadd 173 (gd rfl) rfl (fun z82 e83 => ?_)
                    have i84 := in_add 1 4 e83 i18 (in_c 1 rfl) rfl rfl
                    refine g_lload 175 (gd rfl) rfl rfl ?_
                    have n85 : 4 - (z82).toInt < ((kk : Nat) : Int) := by have a0 := i24; unfold In at a0; have a1 := i21; unfold In at a1; have a2 := i8; unfold In at a2; have a3 := i18; unfold In at a3; have a4 := h2; unfold In at a4; have a5 := i50; unfold In at a5; have a6 := i15; unfold In at a6; have a7 := i84; unfold In at a7; have a8 := t_add e83 i18 (in_c 1 rfl) rfl; have a9 := (in_c 1 rfl); unfold In at a9; have a10 := i69; unfold In at a10; have a11 := t_sub e68 (in_c 3 rfl) i18 rfl; have a12 := (in_c 3 rfl); unfold In at a12; have a13 := i43; unfold In at a13; have a14 := t_sub e42 (in_c 24 rfl) i40 rfl; have a15 := i40; unfold In at a15; have a16 := (t_mulc 8 (Or.inl e39) i18 rfl).1; have a17 := (in_c 24 rfl); unfold In at a17; have a18 := i3; unfold In at a18; have a19 := t_add e2 h2 (in_c 1 rfl) rfl; omega
                    refine g_callv (X := _) (As := [.ref (A 2), .int z22, .int z80, .int z82, .long z46]) (r := []) (b := A 49) (q := 49) 178 (gd rfl) rfl rfl rfl rfl rfl (ww_o rfl) (Nat.le_of_ble_eq_true rfl) (Nat.zero_le _) (Nat.zero_le _) (ih (by omega) hI (in_w 0 31 i24 rfl) (in_w 0 4 i84 rfl) n85) (fun e u h => h) (fun v u h => ?_)
                    obtain ⟨s86, hI87, rfl, rfl⟩ := h
                    show GG _ _ _ _ _ _ _ _ [] _ _ _
                    refine g_iinc 181 (gd rfl) rfl rfl (Nat.le_of_ble_eq_true rfl) (fun z90 e91 => ?_)
                    have i92 := in_add 1 160 e91 i8 (in_c 1 rfl) rfl rfl
                    refine g_goto 8 (gd rfl) rfl ?_
                    exact gg_w (by omega) (gg_f (gf_cons rfl (gf_cons rfl (gf_cons rfl (gf_cons rfl (gf_cons rfl (gf_cons rfl (gf_cons rfl gf_nil))))))) (ih8 s86 z90 hI87 (in_w 0 160 i92 rfl) (m_up mm8 (t_add e91 i8 (in_c 1 rfl) rfl) (in_w 1 1 (in_c 1 rfl) rfl))))
              · skip
                refine g_aload_n 94 (gd rfl) rfl rfl ?_
                refine g_getA (q2 := 55) 97 (gd rfl) rfl rfl rfl rfl rfl ?_
                refine g_aload_n 98 (gd rfl) rfl rfl ?_
                refine g_getI 101 (gd rfl) rfl rfl rfl (fun z93 e94 => ?_)
                have q95 : z10 = z93 := (e11).trans e94.symm
                subst q95
                refine g_lload 103 (gd rfl) rfl rfl ?_
                refine g_ldc2_w 137438953472000000 106 (gd rfl) rfl rfl ?_
                refine g_ladd 107 (gd rfl) rfl (fun z96 e97 => ?_)
                refine g_iload 109 (gd rfl) rfl rfl ?_
                refine g_iconst 1 110 (gd rfl) rfl rfl ?_
                refine g_iadd 111 (gd rfl) rfl (fun z98 e99 => ?_)
                have i100 := in_add 1 4 e99 i18 (in_c 1 rfl) rfl rfl
                refine g_i2l 112 (gd rfl) rfl (fun z101 e102 => ?_)
                have i103 := l_i e102 i100
                refine g_bipush 32 114 (gd rfl) rfl rfl ?_
                refine g_lshl 115 (gd rfl) rfl (fun z104 e105 => ?_)
                refine g_ladd 116 (gd rfl) rfl (fun z106 e107 => ?_)
                refine g_lastore 117 (gd rfl) rfl (n := 2001) rfl (in_ix i15 rfl) ?_
                have hI108 := inv_sL (q := 55) (j := z10.toNatClampNeg) (x := z106) hI
                refine g_aload_n 118 (gd rfl) rfl rfl ?_
                refine g_dup 119 (gd rfl) rfl rfl ?_
                refine g_getI 122 (gd rfl) rfl rfl rfl (fun z109 e110 => ?_)
                have q111 : z10 = z109 := (e11).trans e110.symm
                subst q111
                refine g_iconst 1 123 (gd rfl) rfl rfl ?_
                refine g_iadd 124 (gd rfl) rfl (fun z112 e113 => ?_)
                have i114 := in_add 1 2001 e113 i15 (in_c 1 rfl) rfl rfl
                refine g_putI 127 (gd rfl) rfl rfl rfl rfl ?_
                have hI115 := inv_sF (q := 49) (j := 11) hI108 rfl (in_w 0 2001 i114 rfl)
                refine g_goto 178 (gd rfl) rfl ?_
                refine g_iinc 181 (gd rfl) rfl rfl (Nat.le_of_ble_eq_true rfl) (fun z116 e117 => ?_)
                have i118 := in_add 1 160 e117 i8 (in_c 1 rfl) rfl rfl
                refine g_goto 8 (gd rfl) rfl ?_
                exact gg_w (by omega) (gg_f (gf_cons rfl (gf_cons rfl (gf_cons rfl (gf_cons rfl (gf_cons rfl (gf_cons rfl (gf_cons rfl gf_nil))))))) (ih8 (sF (sL s 55 z10.toNatClampNeg z106) 49 11 z112) z116 hI115 (in_w 0 160 i118 rfl) (m_up mm8 (t_add e117 i8 (in_c 1 rfl) rfl) (in_w 1 1 (in_c 1 rfl) rfl))))
    refine g_enter2 (k := 208) (N := 145801) (by omega) rfl (Nat.le_of_ble_eq_true rfl) ?_
    refine g_aload_n 1 (gd rfl) rfl rfl ?_
    refine g_getA (q2 := 12) 4 (gd rfl) rfl rfl rfl rfl rfl ?_
    refine g_iload_n 5 (gd rfl) rfl rfl ?_
    refine g_iaload 6 (gd rfl) rfl (n := 33) rfl (in_ix h2 rfl) (fun z119 e120 => ?_)
    have i121 := inv_I hI (n := 33) (t := 0) 0 160 rfl (in_ix h2 rfl) rfl e120
    refine g_istore 8 (gd rfl) rfl (Nat.le_of_ble_eq_true rfl) ?_
    exact gg_w (by omega) (gg_f (gf_cons rfl (gf_cons rfl (gf_cons rfl (gf_cons rfl (gf_cons rfl (gf_cons rfl (gf_cons rfl gf_nil))))))) (ct8 161 s z119 hI (in_w 0 160 i121 rfl) (m_in 161 (in_w 0 160 i121 rfl) rfl)))
theorem k_208_49_2 {Z : AmZ} {A : Nat → Nat} {s : GS} {ex : va_W} {d : Nat} {X : AmX} {x2 : Int32} {x3 : Int32} {x4 : Int32} {x5 : Int64} (hd : 21 ≤ d) (hI : Inv s) (h2 : In x2 0 31) (h4 : In x4 0 4) : GC Z d 208 [.ref (A 49), .ref (A 2), .int x2, .int x3, .int x4, .long x5] (WW Z A s ++ ex) 0 0 (fun v u => ∃ t : GS, Inv t ∧ v = none ∧ u = WW Z A t ++ ex) X := k_208_49_2_r 5 (by omega) hI h2 h4 (m_in 5 h4 rfl)

/-- GraphHouse$Ways.gather -/
theorem k_208_49_32_r {Z : AmZ} {A : Nat → Nat} {ex : va_W} (kk : Nat) : ∀ {s : GS} {d : Nat} {X : AmX} {x2 : Int32} {x3 : Int32} {x4 : Int32} {x5 : Int64}, 6 + kk * 3 ≤ d → Inv s → In x2 0 31 → In x4 0 4 → 4 - (x4).toInt < (kk : Int) → GC Z d 208 [.ref (A 49), .ref (A 32), .int x2, .int x3, .int x4, .long x5] (WW Z A s ++ ex) 0 0 (fun v u => ∃ t : GS, Inv t ∧ v = none ∧ u = WW Z A t ++ ex) X := by
  induction kk with
  | zero => intro s d X x2 x3 x4 x5 hd hI h2 h4 hm; exact m_no hm h4 rfl
  | succ kk ih =>
    intro s d X x2 x3 x4 x5 hd hI h2 h4 hm
    intro post xp hP hX
    have ct8 : ∀ (k8 : Nat) (s : GS) (y8_7 : Int32), Inv s → In y8_7 0 160 → 160 - (y8_7).toInt < (k8 : Int) → GG Z (d - 1) 208 post (gx xp) (1 + k8 * 900) 8 (fun j => xlook j [(0, .ref (A 49)), (1, .ref (A 32)), (2, .int x2), (3, .int x3), (4, .int x4), (5, .long x5), (7, .int y8_7)]) [] (WW Z A s ++ ex) 0 0 := by
      intro k8
      induction k8 with
      | zero => intro s y8_7 hI j8_7 mm8; exact m_no mm8 j8_7 rfl
      | succ k8 ih8 =>
        intro s y8_7 hI j8_7 mm8
        refine gg_w (M := 1 + k8 * 900 + 900) (by omega) ?_
        refine g_iload 10 (gd rfl) rfl rfl ?_
        refine g_aload_n 11 (gd rfl) rfl rfl ?_
        refine g_getA (q2 := 42) 14 (gd rfl) rfl rfl rfl rfl rfl ?_
        refine g_iload_n 15 (gd rfl) rfl rfl ?_
        refine g_iconst 1 16 (gd rfl) rfl rfl ?_
        refine g_iadd 17 (gd rfl) rfl (fun z1 e2 => ?_)
        have i3 := in_add 1 32 e2 h2 (in_c 1 rfl) rfl rfl
        refine g_iaload 18 (gd rfl) rfl (n := 33) rfl (in_ix i3 rfl) (fun z4 e5 => ?_)
        have i6 := inv_I hI (n := 33) (t := 0) 0 160 rfl (in_ix i3 rfl) rfl e5
        refine g_cmp_ge 21 184 (gd rfl) rfl rfl (fun c7 => ?_) (fun c7 => ?_)
        · skip
          exact g_return (gd rfl) rfl (hP _ _ ⟨s, hI, rfl, rfl⟩)
        · skip
          have i8 := r_lt1 0 159 c7 j8_7 i6 rfl
          have i9 := r_lt2 1 160 c7 j8_7 i6 rfl
          refine g_aload_n 22 (gd rfl) rfl rfl ?_
          refine g_getI 25 (gd rfl) rfl rfl rfl (fun z10 e11 => ?_)
          have i12 := inv_F hI 0 2001 rfl e11
          refine g_sipush 2000 28 (gd rfl) rfl rfl ?_
          refine g_cmp_gt 31 184 (gd rfl) rfl rfl (fun c13 => ?_) (fun c13 => ?_)
          · skip
            have i14 := r_lt2 2001 2001 c13 (in_c 2000 rfl) i12 rfl
            exact g_return (gd rfl) rfl (hP _ _ ⟨s, hI, rfl, rfl⟩)
          · skip
            have i15 := r_le1 0 2000 c13 i12 (in_c 2000 rfl) rfl
            refine g_iload 33 (gd rfl) rfl rfl ?_
            refine g_iconst 4 34 (gd rfl) rfl rfl ?_
            refine g_cmp_ge 37 184 (gd rfl) rfl rfl (fun c16 => ?_) (fun c16 => ?_)
            · skip
              have i17 := r_le2 4 4 c16 (in_c 4 rfl) h4 rfl
              exact g_return (gd rfl) rfl (hP _ _ ⟨s, hI, rfl, rfl⟩)
            · skip
              have i18 := r_lt1 0 3 c16 h4 (in_c 4 rfl) rfl
              refine g_aload_n 38 (gd rfl) rfl rfl ?_
              refine g_getA (q2 := 43) 41 (gd rfl) rfl rfl rfl rfl rfl ?_
              refine g_iload 43 (gd rfl) rfl rfl ?_
              refine g_iaload 44 (gd rfl) rfl (n := 160) rfl (in_ix i8 rfl) (fun z19 e20 => ?_)
              have i21 := inv_I hI (n := 160) (t := 0) 0 159 rfl (in_ix i8 rfl) rfl e20
              refine g_istore 46 (gd rfl) rfl (Nat.le_of_ble_eq_true rfl) ?_
              refine g_aload_n 47 (gd rfl) rfl rfl ?_
              refine g_getA (q2 := 35) 50 (gd rfl) rfl rfl rfl rfl rfl ?_
              refine g_iload 52 (gd rfl) rfl rfl ?_
              refine g_iaload 53 (gd rfl) rfl (n := 160) rfl (in_ix i21 rfl) (fun z22 e23 => ?_)
              have i24 := inv_I hI (n := 160) (t := 0) 0 31 rfl (in_ix i21 rfl) rfl e23
              refine g_istore 55 (gd rfl) rfl (Nat.le_of_ble_eq_true rfl) ?_
              refine g_lload 57 (gd rfl) rfl rfl ?_
              refine g_aload_n 58 (gd rfl) rfl rfl ?_
              refine g_getA (q2 := 36) 61 (gd rfl) rfl rfl rfl rfl rfl ?_
              refine g_iload 63 (gd rfl) rfl rfl ?_
              refine g_iaload 64 (gd rfl) rfl (n := 160) rfl (in_ix i21 rfl) (fun z25 e26 => ?_)
              have i27 := inv_I hI (n := 160) (t := 0) (-1000000) 1000000 rfl (in_ix i21 rfl) rfl e26
              refine g_i2l 65 (gd rfl) rfl (fun z28 e29 => ?_)
              have i30 := l_i e29 i27
              refine g_bipush 35 67 (gd rfl) rfl rfl ?_
              refine g_lshl 68 (gd rfl) rfl (fun z31 e32 => ?_)
              refine g_ladd 69 (gd rfl) rfl (fun z33 e34 => ?_)
              refine g_iload 71 (gd rfl) rfl rfl ?_
              refine g_i2l 72 (gd rfl) rfl (fun z35 e36 => ?_)
              have i37 := l_i e36 i21
              refine g_bipush 24 74 (gd rfl) rfl rfl ?_
              refine g_bipush 8 76 (gd rfl) rfl rfl ?_
              refine g_iload 78 (gd rfl) rfl rfl ?_
              refine g_imul 79 (gd rfl) rfl (fun z38 e39 => ?_)
              have i40 := in_mulc 8 0 24 (Or.inl e39) i18 rfl rfl
              refine g_isub 80 (gd rfl) rfl (fun z41 e42 => ?_)
              have i43 := in_sub 0 24 e42 (in_c 24 rfl) i40 rfl rfl
              refine g_lshl 81 (gd rfl) rfl (fun z44 e45 => ?_)
              refine g_ladd 82 (gd rfl) rfl (fun z46 e47 => ?_)
              refine g_lstore 84 (gd rfl) rfl (Nat.le_of_ble_eq_true rfl) ?_
              refine g_iload 86 (gd rfl) rfl rfl ?_
              refine g_aload_n 87 (gd rfl) rfl rfl ?_
              refine g_getI 90 (gd rfl) rfl rfl rfl (fun z48 e49 => ?_)
              have i50 := inv_F hI 0 31 rfl e49
              refine g_cmp_ne 93 130 (gd rfl) rfl rfl (fun c51 => ?_) (fun c51 => ?_)
              · skip
                refine g_iload_n 131 (gd rfl) rfl rfl ?_
                refine g_iload 133 (gd rfl) rfl rfl ?_
                refine g_ishr 134 (gd rfl) rfl (fun z52 e53 => ?_)
                refine g_iconst 1 135 (gd rfl) rfl rfl ?_
                refine g_iand 136 (gd rfl) rfl (fun z54 e55 => ?_)
                have i56 := in_and2 e55 (in_c 1 rfl) rfl
                refine g_if_ne 139 178 (gd rfl) rfl rfl (fun c57 => ?_) (fun c57 => ?_)
                · skip
                  have i58 := z_ne 1 1 c57 i56 rfl
                  refine g_iinc 181 (gd rfl) rfl rfl (Nat.le_of_ble_eq_true rfl) (fun z59 e60 => ?_)
                  have i61 := in_add 1 160 e60 i8 (in_c 1 rfl) rfl rfl
                  refine g_goto 8 (gd rfl) rfl ?_
                  exact gg_w (by omega) (gg_f (gf_cons rfl (gf_cons rfl (gf_cons rfl (gf_cons rfl (gf_cons rfl (gf_cons rfl (gf_cons rfl gf_nil))))))) (ih8 s z59 hI (in_w 0 160 i61 rfl) (m_up mm8 (t_add e60 i8 (in_c 1 rfl) rfl) (in_w 1 1 (in_c 1 rfl) rfl))))
                · skip
                  have i62 := z_eq 0 0 c57 i56 rfl
                  refine g_aload_n 140 (gd rfl) rfl rfl ?_
                  refine g_aload_n 141 (gd rfl) rfl rfl ?_
                  refine g_iload 143 (gd rfl) rfl rfl ?_
                  refine g_iload_n 144 (gd rfl) rfl rfl ?_
                  refine g_iconst 1 145 (gd rfl) rfl rfl ?_
                  refine g_iload 147 (gd rfl) rfl rfl ?_
                  refine g_ishl 148 (gd rfl) rfl (fun z63 e64 => ?_)
                  refine g_ior 149 (gd rfl) rfl (fun z65 e66 => ?_)
                  refine g_iconst 3 150 (gd rfl) rfl rfl ?_
                  refine g_iload 152 (gd rfl) rfl rfl ?_
                  refine g_isub 153 (gd rfl) rfl (fun z67 e68 => ?_)
                  have i69 := in_sub 0 3 e68 (in_c 3 rfl) i18 rfl rfl
                  refine g_callv (X := _) (As := [.ref (A 32), .int z22, .int z65, .int z67]) (r := []) (b := A 49) (q := 49) 156 (gd rfl) rfl rfl rfl rfl rfl (ww_o rfl) (Nat.le_of_ble_eq_true rfl) (Nat.zero_le _) (Nat.zero_le _) (k_209_49_32 (by omega) hI (in_w 0 31 i24 rfl) (in_w 0 3 i69 rfl)) (fun e u h => h) (fun v u h => ?_)
                  obtain ⟨z70, rfl, rfl, i71⟩ := h
                  show GG _ _ _ _ _ _ _ _ [.int z70] _ _ _
                  refine g_if_eq 159 178 (gd rfl) rfl rfl (fun c72 => ?_) (fun c72 => ?_)
                  · skip
                    have i73 := z_eq 0 0 c72 i71 rfl
                    refine g_iinc 181 (gd rfl) rfl rfl (Nat.le_of_ble_eq_true rfl) (fun z74 e75 => ?_)
                    have i76 := in_add 1 160 e75 i8 (in_c 1 rfl) rfl rfl
                    refine g_goto 8 (gd rfl) rfl ?_
                    exact gg_w (by omega) (gg_f (gf_cons rfl (gf_cons rfl (gf_cons rfl (gf_cons rfl (gf_cons rfl (gf_cons rfl (gf_cons rfl gf_nil))))))) (ih8 s z74 hI (in_w 0 160 i76 rfl) (m_up mm8 (t_add e75 i8 (in_c 1 rfl) rfl) (in_w 1 1 (in_c 1 rfl) rfl))))
                  · skip
                    have i77 := z_ne 1 1 c72 i71 rfl
                    refine g_aload_n 160 (gd rfl) rfl rfl ?_
                    refine g_aload_n 161 (gd rfl) rfl rfl ?_
                    refine g_iload 163 (gd rfl) rfl rfl ?_
                    refine g_iload_n 164 (gd rfl) rfl rfl ?_
                    refine g_iconst 1 165 (gd rfl) rfl rfl ?_
                    refine g_iload 167 (gd rfl) rfl rfl ?_
                    refine g_ishl 168 (gd rfl) rfl (fun z78 e79 => ?_)
                    refine g_ior 169 (gd rfl) rfl (fun z80 e81 => ?_)
                    refine g_iload 171 (gd rfl) rfl rfl ?_
                    refine g_iconst 1 172 (gd rfl) rfl rfl ?_
                    refine g_iadd 173 (gd rfl) rfl (fun z82 e83 => ?_)
                    have i84 := in_add 1 4 e83 i18 (in_c 1 rfl) rfl rfl
                    refine g_lload 175 (gd rfl) rfl rfl ?_
                    have n85 : 4 - (z82).toInt < ((kk : Nat) : Int) := by have a0 := i24; unfold In at a0; have a1 := i21; unfold In at a1; have a2 := i8; unfold In at a2; have a3 := i18; unfold In at a3; have a4 := h2; unfold In at a4; have a5 := i50; unfold In at a5; have a6 := i15; unfold In at a6; have a7 := i84; unfold In at a7; have a8 := t_add e83 i18 (in_c 1 rfl) rfl; have a9 := (in_c 1 rfl); unfold In at a9; have a10 := i69; unfold In at a10; have a11 := t_sub e68 (in_c 3 rfl) i18 rfl; have a12 := (in_c 3 rfl); unfold In at a12; have a13 := i43; unfold In at a13; have a14 := t_sub e42 (in_c 24 rfl) i40 rfl; have a15 := i40; unfold In at a15; have a16 := (t_mulc 8 (Or.inl e39) i18 rfl).1; have a17 := (in_c 24 rfl); unfold In at a17; have a18 := i3; unfold In at a18; have a19 := t_add e2 h2 (in_c 1 rfl) rfl; omega
                    refine g_callv (X := _) (As := [.ref (A 32), .int z22, .int z80, .int z82, .long z46]) (r := []) (b := A 49) (q := 49) 178 (gd rfl) rfl rfl rfl rfl rfl (ww_o rfl) (Nat.le_of_ble_eq_true rfl) (Nat.zero_le _) (Nat.zero_le _) (ih (by omega) hI (in_w 0 31 i24 rfl) (in_w 0 4 i84 rfl) n85) (fun e u h => h) (fun v u h => ?_)
                    obtain ⟨s86, hI87, rfl, rfl⟩ := h
                    show GG _ _ _ _ _ _ _ _ [] _ _ _
                    refine g_iinc 181 (gd rfl) rfl rfl (Nat.le_of_ble_eq_true rfl) (fun z90 e91 => ?_)
                    have i92 := in_add 1 160 e91 i8 (in_c 1 rfl) rfl rfl
                    refine g_goto 8 (gd rfl) rfl ?_
                    exact gg_w (by omega) (gg_f (gf_cons rfl (gf_cons rfl (gf_cons rfl (gf_cons rfl (gf_cons rfl (gf_cons rfl (gf_cons rfl gf_nil))))))) (ih8 s86 z90 hI87 (in_w 0 160 i92 rfl) (m_up mm8 (t_add e91 i8 (in_c 1 rfl) rfl) (in_w 1 1 (in_c 1 rfl) rfl))))
              · skip
                refine g_aload_n 94 (gd rfl) rfl rfl ?_
                refine g_getA (q2 := 55) 97 (gd rfl) rfl rfl rfl rfl rfl ?_
                refine g_aload_n 98 (gd rfl) rfl rfl ?_
                refine g_getI 101 (gd rfl) rfl rfl rfl (fun z93 e94 => ?_)
                have q95 : z10 = z93 := (e11).trans e94.symm
                subst q95
                refine g_lload 103 (gd rfl) rfl rfl ?_
                refine g_ldc2_w 137438953472000000 106 (gd rfl) rfl rfl ?_
                refine g_ladd 107 (gd rfl) rfl (fun z96 e97 => ?_)
                refine g_iload 109 (gd rfl) rfl rfl ?_
                refine g_iconst 1 110 (gd rfl) rfl rfl ?_
                refine g_iadd 111 (gd rfl) rfl (fun z98 e99 => ?_)
                have i100 := in_add 1 4 e99 i18 (in_c 1 rfl) rfl rfl
                refine g_i2l 112 (gd rfl) rfl (fun z101 e102 => ?_)
                have i103 := l_i e102 i100
                refine g_bipush 32 114 (gd rfl) rfl rfl ?_
                refine g_lshl 115 (gd rfl) rfl (fun z104 e105 => ?_)
                refine g_ladd 116 (gd rfl) rfl (fun z106 e107 => ?_)
                refine g_lastore 117 (gd rfl) rfl (n := 2001) rfl (in_ix i15 rfl) ?_
                have hI108 := inv_sL (q := 55) (j := z10.toNatClampNeg) (x := z106) hI
                refine g_aload_n 118 (gd rfl) rfl rfl ?_
                refine g_dup 119 (gd rfl) rfl rfl ?_
                refine g_getI 122 (gd rfl) rfl rfl rfl (fun z109 e110 => ?_)
                have q111 : z10 = z109 := (e11).trans e110.symm
                subst q111
                refine g_iconst 1 123 (gd rfl) rfl rfl ?_
                refine g_iadd 124 (gd rfl) rfl (fun z112 e113 => ?_)
                have i114 := in_add 1 2001 e113 i15 (in_c 1 rfl) rfl rfl
                refine g_putI 127 (gd rfl) rfl rfl rfl rfl ?_
                have hI115 := inv_sF (q := 49) (j := 11) hI108 rfl (in_w 0 2001 i114 rfl)
                refine g_goto 178 (gd rfl) rfl ?_
                refine g_iinc 181 (gd rfl) rfl rfl (Nat.le_of_ble_eq_true rfl) (fun z116 e117 => ?_)
                have i118 := in_add 1 160 e117 i8 (in_c 1 rfl) rfl rfl
                refine g_goto 8 (gd rfl) rfl ?_
                exact gg_w (by omega) (gg_f (gf_cons rfl (gf_cons rfl (gf_cons rfl (gf_cons rfl (gf_cons rfl (gf_cons rfl (gf_cons rfl gf_nil))))))) (ih8 (sF (sL s 55 z10.toNatClampNeg z106) 49 11 z112) z116 hI115 (in_w 0 160 i118 rfl) (m_up mm8 (t_add e117 i8 (in_c 1 rfl) rfl) (in_w 1 1 (in_c 1 rfl) rfl))))
    refine g_enter2 (k := 208) (N := 145801) (by omega) rfl (Nat.le_of_ble_eq_true rfl) ?_
    refine g_aload_n 1 (gd rfl) rfl rfl ?_
    refine g_getA (q2 := 42) 4 (gd rfl) rfl rfl rfl rfl rfl ?_
    refine g_iload_n 5 (gd rfl) rfl rfl ?_
    refine g_iaload 6 (gd rfl) rfl (n := 33) rfl (in_ix h2 rfl) (fun z119 e120 => ?_)
    have i121 := inv_I hI (n := 33) (t := 0) 0 160 rfl (in_ix h2 rfl) rfl e120
    refine g_istore 8 (gd rfl) rfl (Nat.le_of_ble_eq_true rfl) ?_
    exact gg_w (by omega) (gg_f (gf_cons rfl (gf_cons rfl (gf_cons rfl (gf_cons rfl (gf_cons rfl (gf_cons rfl (gf_cons rfl gf_nil))))))) (ct8 161 s z119 hI (in_w 0 160 i121 rfl) (m_in 161 (in_w 0 160 i121 rfl) rfl)))
theorem k_208_49_32 {Z : AmZ} {A : Nat → Nat} {s : GS} {ex : va_W} {d : Nat} {X : AmX} {x2 : Int32} {x3 : Int32} {x4 : Int32} {x5 : Int64} (hd : 21 ≤ d) (hI : Inv s) (h2 : In x2 0 31) (h4 : In x4 0 4) : GC Z d 208 [.ref (A 49), .ref (A 32), .int x2, .int x3, .int x4, .long x5] (WW Z A s ++ ex) 0 0 (fun v u => ∃ t : GS, Inv t ∧ v = none ∧ u = WW Z A t ++ ex) X := k_208_49_32_r 5 (by omega) hI h2 h4 (m_in 5 h4 rfl)

/-- GraphHouse.part -/
theorem k_234_0 {Z : AmZ} {A : Nat → Nat} {s : GS} {ex : va_W} {d : Nat} {x1 : Int32} {x2 : Int32} (hd : 7 ≤ d) (hI : Inv s)  : GC Z d 234 [.ref (A 0), .int x1, .int x2] (WW Z A s ++ ex) 3 18 (fun v u => ∃ t : GS, Inv t ∧ ∃ z : Int32, v = some (.int z) ∧ u = WW Z A t ++ ex ∧ In z 0 32) (gE1 Z A ex) := by
  intro post xp hP hX
  refine g_enter2 (k := 234) (N := 900) (by omega) rfl (Nat.le_of_ble_eq_true rfl) ?_
  refine g_aload_n 1 (gd rfl) rfl rfl ?_
  refine g_callv (X := _) (As := []) (r := []) (b := A 0) (q := 0) 4 (gd rfl) rfl rfl rfl rfl rfl (ww_o rfl) (Nat.le_of_ble_eq_true rfl) (mc := 0) (ms := 0) (Nat.zero_le _) (Nat.zero_le _) (P := fun v u => _) ?_ (fun e u h => h) (fun v u h => h)
  intro po1 xx2 hp3 hx4
  refine g_enter2 (k := 259) (N := 300) (by omega) rfl (Nat.le_of_ble_eq_true rfl) ?_
  refine g_aload_n 1 (gd rfl) rfl rfl ?_
  refine g_getI 4 (gd rfl) rfl rfl rfl (fun z5 e6 => ?_)
  have i7 := inv_F hI (-1) 4000 rfl e6
  refine g_iconst (-1) 5 (gd rfl) rfl rfl ?_
  refine g_cmp_ne 8 18 (gd rfl) rfl rfl (fun c8 => ?_) (fun c8 => ?_)
  · skip
    have i9 := r_ne1 0 4000 c8 i7 (in_c (-1) rfl) rfl
    refine g_aload_n 19 (gd rfl) rfl rfl ?_
    refine g_getA (q2 := 32) 22 (gd rfl) rfl rfl rfl rfl rfl ?_
    refine g_areturn (gd rfl) rfl (hp3 _ _ ?_)
    show GG _ _ _ _ _ _ _ _ [.ref (A 32)] _ _ _
    refine g_astore_n 5 (gd rfl) rfl (Nat.le_of_ble_eq_true rfl) ?_
    refine g_iload_n 6 (gd rfl) rfl rfl ?_
    refine g_if_lt 9 26 (gd rfl) rfl rfl (fun c10 => ?_) (fun c10 => ?_)
    · skip
      have i11 := z_lt (-2147483648) (-1) c10 (i_rng x1) rfl
      refine g_iconst 0 27 (gd rfl) rfl rfl ?_
      refine g_thr (E := am_IA) (y := yX11_allow) 30 (gd rfl) rfl rfl (Or.inl ⟨rfl, rfl, rfl⟩) (by omega) (Nat.le_of_ble_eq_true rfl) (Nat.le_of_ble_eq_true rfl) (Nat.le_of_ble_eq_true rfl) (fun c12 => ?_) (fun c12 => ?_)
      · skip
        exact zn_ne c12 (in_c 0 rfl) rfl
      · skip
        exact (hX _ _ ⟨rfl, s, hI, rfl⟩)
    · skip
      have i13 := z_ge 0 2147483647 c10 (i_rng x1) rfl
      refine g_iload_n 10 (gd rfl) rfl rfl ?_
      refine g_iconst 1 11 (gd rfl) rfl rfl ?_
      refine g_cmp_gt 14 26 (gd rfl) rfl rfl (fun c14 => ?_) (fun c14 => ?_)
      · skip
        have i15 := r_lt2 2 2147483647 c14 (in_c 1 rfl) i13 rfl
        refine g_iconst 0 27 (gd rfl) rfl rfl ?_
        refine g_thr (E := am_IA) (y := yX11_allow) 30 (gd rfl) rfl rfl (Or.inl ⟨rfl, rfl, rfl⟩) (by omega) (Nat.le_of_ble_eq_true rfl) (Nat.le_of_ble_eq_true rfl) (Nat.le_of_ble_eq_true rfl) (fun c16 => ?_) (fun c16 => ?_)
        · skip
          exact zn_ne c16 (in_c 0 rfl) rfl
        · skip
          exact (hX _ _ ⟨rfl, s, hI, rfl⟩)
      · skip
        have i17 := r_le1 0 1 c14 i13 (in_c 1 rfl) rfl
        refine g_aload_n 15 (gd rfl) rfl rfl ?_
        refine g_iload_n 16 (gd rfl) rfl rfl ?_
        refine g_callv (X := _) (As := [.int x2]) (r := []) (b := A 32) (q := 32) 19 (gd rfl) rfl rfl rfl rfl rfl (ww_o rfl) (Nat.le_of_ble_eq_true rfl) (mc := 0) (ms := 0) (Nat.zero_le _) (Nat.zero_le _) (P := fun v u => _) ?_ (fun e u h => h) (fun v u h => h)
        intro po18 xx19 hp20 hx21
        refine g_enter2 (k := 94) (N := 300) (by omega) rfl (Nat.le_of_ble_eq_true rfl) ?_
        refine g_iload_n 1 (gd rfl) rfl rfl ?_
        refine g_if_lt 4 16 (gd rfl) rfl rfl (fun c22 => ?_) (fun c22 => ?_)
        · skip
          have i23 := z_lt (-2147483648) (-1) c22 (i_rng x2) rfl
          refine g_iconst 0 17 (gd rfl) rfl rfl ?_
          refine g_ireturn (gd rfl) rfl (nb01 (in_w 0 1 (in_c 0 rfl) rfl)) (hp20 _ _ ?_)
          show GG _ _ _ _ _ _ _ _ [.int (Int32.ofInt 0)] _ _ _
          refine g_if_eq 22 26 (gd rfl) rfl rfl (fun c24 => ?_) (fun c24 => ?_)
          · skip
            refine g_iconst 0 27 (gd rfl) rfl rfl ?_
            refine g_thr (E := am_IA) (y := yX11_allow) 30 (gd rfl) rfl rfl (Or.inl ⟨rfl, rfl, rfl⟩) (by omega) (Nat.le_of_ble_eq_true rfl) (Nat.le_of_ble_eq_true rfl) (Nat.le_of_ble_eq_true rfl) (fun c25 => ?_) (fun c25 => ?_)
            · skip
              exact zn_ne c25 (in_c 0 rfl) rfl
            · skip
              exact (hX _ _ ⟨rfl, s, hI, rfl⟩)
          · skip
            exact zn_ne c24 (in_c 0 rfl) rfl
        · skip
          have i26 := z_ge 0 2147483647 c22 (i_rng x2) rfl
          refine g_iload_n 5 (gd rfl) rfl rfl ?_
          refine g_aload_n 6 (gd rfl) rfl rfl ?_
          refine g_getI 9 (gd rfl) rfl rfl rfl (fun z27 e28 => ?_)
          have i29 := inv_F hI 0 32 rfl e28
          refine g_cmp_ge 12 16 (gd rfl) rfl rfl (fun c30 => ?_) (fun c30 => ?_)
          · skip
            refine g_iconst 0 17 (gd rfl) rfl rfl ?_
            refine g_ireturn (gd rfl) rfl (nb01 (in_w 0 1 (in_c 0 rfl) rfl)) (hp20 _ _ ?_)
            show GG _ _ _ _ _ _ _ _ [.int (Int32.ofInt 0)] _ _ _
            refine g_if_eq 22 26 (gd rfl) rfl rfl (fun c31 => ?_) (fun c31 => ?_)
            · skip
              refine g_iconst 0 27 (gd rfl) rfl rfl ?_
              refine g_thr (E := am_IA) (y := yX11_allow) 30 (gd rfl) rfl rfl (Or.inl ⟨rfl, rfl, rfl⟩) (by omega) (Nat.le_of_ble_eq_true rfl) (Nat.le_of_ble_eq_true rfl) (Nat.le_of_ble_eq_true rfl) (fun c32 => ?_) (fun c32 => ?_)
              · skip
                exact zn_ne c32 (in_c 0 rfl) rfl
              · skip
                exact (hX _ _ ⟨rfl, s, hI, rfl⟩)
            · skip
              exact zn_ne c31 (in_c 0 rfl) rfl
          · skip
            have i33 := r_lt1 0 31 c30 i26 i29 rfl
            have i34 := r_lt2 1 32 c30 i26 i29 rfl
            refine g_iconst 1 13 (gd rfl) rfl rfl ?_
            refine g_goto 17 (gd rfl) rfl ?_
            refine g_ireturn (gd rfl) rfl (nb01 (in_w 0 1 (in_c 1 rfl) rfl)) (hp20 _ _ ?_)
            show GG _ _ _ _ _ _ _ _ [.int (Int32.ofInt 1)] _ _ _
            refine g_if_eq 22 26 (gd rfl) rfl rfl (fun c35 => ?_) (fun c35 => ?_)
            · skip
              exact zn_eq c35 (in_c 1 rfl) rfl
            · skip
              refine g_iconst 1 23 (gd rfl) rfl rfl ?_
              refine g_goto 27 (gd rfl) rfl ?_
              refine g_thr (E := am_IA) (y := yX11_allow) 30 (gd rfl) rfl rfl (Or.inl ⟨rfl, rfl, rfl⟩) (by omega) (Nat.le_of_ble_eq_true rfl) (Nat.le_of_ble_eq_true rfl) (Nat.le_of_ble_eq_true rfl) (fun c36 => ?_) (fun c36 => ?_)
              · skip
                refine g_iload_n 31 (gd rfl) rfl rfl ?_
                refine g_if_ne 34 46 (gd rfl) rfl rfl (fun c37 => ?_) (fun c37 => ?_)
                · skip
                  have i38 := z_ne 1 1 c37 i17 rfl
                  refine g_aload_n 47 (gd rfl) rfl rfl ?_
                  refine g_getA (q2 := 56) 50 (gd rfl) rfl rfl rfl rfl rfl ?_
                  refine g_aload_n 51 (gd rfl) rfl rfl ?_
                  refine g_iload_n 52 (gd rfl) rfl rfl ?_
                  refine g_callv (X := _) (As := [.ref (A 32), .int x2]) (r := []) (b := A 56) (q := 56) 55 (gd rfl) rfl rfl rfl rfl rfl (ww_o rfl) (Nat.le_of_ble_eq_true rfl) (mc := 0) (ms := 0) (Nat.zero_le _) (Nat.zero_le _) (P := fun v u => _) ?_ (fun e u h => h) (fun v u h => h)
                  intro po39 xx40 hp41 hx42
                  refine g_enter2 (k := 141) (N := 300) (by omega) rfl (Nat.le_of_ble_eq_true rfl) ?_
                  refine g_aload_n 1 (gd rfl) rfl rfl ?_
                  refine g_callv (X := _) (As := []) (r := []) (b := A 32) (q := 32) 4 (gd rfl) rfl rfl rfl rfl rfl (ww_o rfl) (Nat.le_of_ble_eq_true rfl) (Nat.zero_le _) (Nat.zero_le _) (k_106_32 (by omega) hI ) (fun e u h => h) (fun v u h => ?_)
                  obtain ⟨s43, hI44, rfl, rfl⟩ := h
                  show GG _ _ _ _ _ _ _ _ [] _ _ _
                  refine g_aload_n 5 (gd rfl) rfl rfl ?_
                  refine g_getA (q2 := 39) 8 (gd rfl) rfl rfl rfl rfl rfl ?_
                  refine g_iconst 1 9 (gd rfl) rfl rfl ?_
                  refine g_iload_n 10 (gd rfl) rfl rfl ?_
                  refine g_ishl 11 (gd rfl) rfl (fun z47 e48 => ?_)
                  refine g_iconst (-1) 12 (gd rfl) rfl rfl ?_
                  refine g_calls (As := [.ref (A 39), .int z47, .int (Int32.ofInt (-1))]) (r := []) 15 (gd rfl) rfl rfl rfl rfl rfl (Nat.le_of_ble_eq_true rfl) (Nat.zero_le _) (Nat.zero_le _) (k_266_39 (by omega) hI44 ) (fun v u h => ?_)
                  obtain ⟨z49, rfl, rfl, i50⟩ := h
                  show GG _ _ _ _ _ _ _ _ [.int z49] _ _ _
                  refine g_calls (As := [.int z49]) (r := []) 18 (gd rfl) rfl rfl rfl rfl rfl (Nat.le_of_ble_eq_true rfl) (Nat.zero_le _) (Nat.zero_le _) (k_264 (by omega)) (fun v u h => ?_)
                  obtain ⟨z51, rfl, rfl, i52⟩ := h
                  show GG _ _ _ _ _ _ _ _ [.int z51] _ _ _
                  refine g_ireturn (gd rfl) rfl rfl (hp41 _ _ ?_)
                  show GG _ _ _ _ _ _ _ _ [.int z51] _ _ _
                  exact g_ireturn (gd rfl) rfl rfl (hP _ _ ⟨s43, hI44, z51, rfl, rfl, in_w 0 32 i52 rfl⟩)
                · skip
                  have i53 := z_eq 0 0 c37 i17 rfl
                  refine g_aload_n 35 (gd rfl) rfl rfl ?_
                  refine g_getA (q2 := 56) 38 (gd rfl) rfl rfl rfl rfl rfl ?_
                  refine g_aload_n 39 (gd rfl) rfl rfl ?_
                  refine g_iload_n 40 (gd rfl) rfl rfl ?_
                  refine g_callv (X := _) (As := [.ref (A 32), .int x2]) (r := []) (b := A 56) (q := 56) 43 (gd rfl) rfl rfl rfl rfl rfl (ww_o rfl) (Nat.le_of_ble_eq_true rfl) (mc := 0) (ms := 0) (Nat.zero_le _) (Nat.zero_le _) (P := fun v u => _) ?_ (fun e u h => h) (fun v u h => h)
                  intro po54 xx55 hp56 hx57
                  refine g_enter2 (k := 140) (N := 300) (by omega) rfl (Nat.le_of_ble_eq_true rfl) ?_
                  refine g_aload_n 1 (gd rfl) rfl rfl ?_
                  refine g_callv (X := _) (As := []) (r := []) (b := A 32) (q := 32) 4 (gd rfl) rfl rfl rfl rfl rfl (ww_o rfl) (Nat.le_of_ble_eq_true rfl) (Nat.zero_le _) (Nat.zero_le _) (k_106_32 (by omega) hI ) (fun e u h => h) (fun v u h => ?_)
                  obtain ⟨s58, hI59, rfl, rfl⟩ := h
                  show GG _ _ _ _ _ _ _ _ [] _ _ _
                  refine g_aload_n 5 (gd rfl) rfl rfl ?_
                  refine g_getA (q2 := 40) 8 (gd rfl) rfl rfl rfl rfl rfl ?_
                  refine g_iconst 1 9 (gd rfl) rfl rfl ?_
                  refine g_iload_n 10 (gd rfl) rfl rfl ?_
                  refine g_ishl 11 (gd rfl) rfl (fun z62 e63 => ?_)
                  refine g_iconst (-1) 12 (gd rfl) rfl rfl ?_
                  refine g_calls (As := [.ref (A 40), .int z62, .int (Int32.ofInt (-1))]) (r := []) 15 (gd rfl) rfl rfl rfl rfl rfl (Nat.le_of_ble_eq_true rfl) (Nat.zero_le _) (Nat.zero_le _) (k_266_40 (by omega) hI59 (in_w (-1) (-1) (in_c (-1) rfl) rfl)) (fun v u h => ?_)
                  obtain ⟨z64, rfl, rfl, i65⟩ := h
                  show GG _ _ _ _ _ _ _ _ [.int z64] _ _ _
                  refine g_aload_n 16 (gd rfl) rfl rfl ?_
                  refine g_getA (q2 := 41) 19 (gd rfl) rfl rfl rfl rfl rfl ?_
                  refine g_iconst 1 20 (gd rfl) rfl rfl ?_
                  refine g_iload_n 21 (gd rfl) rfl rfl ?_
                  refine g_ishl 22 (gd rfl) rfl (fun z66 e67 => ?_)
                  refine g_iconst (-1) 23 (gd rfl) rfl rfl ?_
                  refine g_calls (As := [.ref (A 41), .int z66, .int (Int32.ofInt (-1))]) (r := [.int z64]) 26 (gd rfl) rfl rfl rfl rfl rfl (Nat.le_of_ble_eq_true rfl) (Nat.zero_le _) (Nat.zero_le _) (k_266_41 (by omega) hI59 (in_w (-1) (-1) (in_c (-1) rfl) rfl)) (fun v u h => ?_)
                  obtain ⟨z68, rfl, rfl, i69⟩ := h
                  show GG _ _ _ _ _ _ _ _ [.int z68, .int z64] _ _ _
                  refine g_iand 27 (gd rfl) rfl (fun z70 e71 => ?_)
                  refine g_calls (As := [.int z70]) (r := []) 30 (gd rfl) rfl rfl rfl rfl rfl (Nat.le_of_ble_eq_true rfl) (Nat.zero_le _) (Nat.zero_le _) (k_264 (by omega)) (fun v u h => ?_)
                  obtain ⟨z72, rfl, rfl, i73⟩ := h
                  show GG _ _ _ _ _ _ _ _ [.int z72] _ _ _
                  refine g_ireturn (gd rfl) rfl rfl (hp56 _ _ ?_)
                  show GG _ _ _ _ _ _ _ _ [.int z72] _ _ _
                  refine g_goto 55 (gd rfl) rfl ?_
                  exact g_ireturn (gd rfl) rfl rfl (hP _ _ ⟨s58, hI59, z72, rfl, rfl, in_w 0 32 i73 rfl⟩)
              · skip
                exact zn_eq c36 (in_c 1 rfl) rfl
  · skip
    have i74 := r_eq1 (-1) (-1) c8 i7 (in_c (-1) rfl) rfl
    refine g_aload_n 9 (gd rfl) rfl rfl ?_
    refine g_getA (q2 := 1) 12 (gd rfl) rfl rfl rfl rfl rfl ?_
    refine g_getA (q2 := 2) 15 (gd rfl) rfl rfl rfl rfl rfl ?_
    refine g_goto 22 (gd rfl) rfl ?_
    refine g_areturn (gd rfl) rfl (hp3 _ _ ?_)
    show GG _ _ _ _ _ _ _ _ [.ref (A 2)] _ _ _
    refine g_astore_n 5 (gd rfl) rfl (Nat.le_of_ble_eq_true rfl) ?_
    refine g_iload_n 6 (gd rfl) rfl rfl ?_
    refine g_if_lt 9 26 (gd rfl) rfl rfl (fun c75 => ?_) (fun c75 => ?_)
    · skip
      have i76 := z_lt (-2147483648) (-1) c75 (i_rng x1) rfl
      refine g_iconst 0 27 (gd rfl) rfl rfl ?_
      refine g_thr (E := am_IA) (y := yX11_allow) 30 (gd rfl) rfl rfl (Or.inl ⟨rfl, rfl, rfl⟩) (by omega) (Nat.le_of_ble_eq_true rfl) (Nat.le_of_ble_eq_true rfl) (Nat.le_of_ble_eq_true rfl) (fun c77 => ?_) (fun c77 => ?_)
      · skip
        exact zn_ne c77 (in_c 0 rfl) rfl
      · skip
        exact (hX _ _ ⟨rfl, s, hI, rfl⟩)
    · skip
      have i78 := z_ge 0 2147483647 c75 (i_rng x1) rfl
      refine g_iload_n 10 (gd rfl) rfl rfl ?_
      refine g_iconst 1 11 (gd rfl) rfl rfl ?_
      refine g_cmp_gt 14 26 (gd rfl) rfl rfl (fun c79 => ?_) (fun c79 => ?_)
      · skip
        have i80 := r_lt2 2 2147483647 c79 (in_c 1 rfl) i78 rfl
        refine g_iconst 0 27 (gd rfl) rfl rfl ?_
        refine g_thr (E := am_IA) (y := yX11_allow) 30 (gd rfl) rfl rfl (Or.inl ⟨rfl, rfl, rfl⟩) (by omega) (Nat.le_of_ble_eq_true rfl) (Nat.le_of_ble_eq_true rfl) (Nat.le_of_ble_eq_true rfl) (fun c81 => ?_) (fun c81 => ?_)
        · skip
          exact zn_ne c81 (in_c 0 rfl) rfl
        · skip
          exact (hX _ _ ⟨rfl, s, hI, rfl⟩)
      · skip
        have i82 := r_le1 0 1 c79 i78 (in_c 1 rfl) rfl
        refine g_aload_n 15 (gd rfl) rfl rfl ?_
        refine g_iload_n 16 (gd rfl) rfl rfl ?_
        refine g_callv (X := _) (As := [.int x2]) (r := []) (b := A 2) (q := 2) 19 (gd rfl) rfl rfl rfl rfl rfl (ww_o rfl) (Nat.le_of_ble_eq_true rfl) (mc := 0) (ms := 0) (Nat.zero_le _) (Nat.zero_le _) (P := fun v u => _) ?_ (fun e u h => h) (fun v u h => h)
        intro po83 xx84 hp85 hx86
        refine g_enter2 (k := 94) (N := 300) (by omega) rfl (Nat.le_of_ble_eq_true rfl) ?_
        refine g_iload_n 1 (gd rfl) rfl rfl ?_
        refine g_if_lt 4 16 (gd rfl) rfl rfl (fun c87 => ?_) (fun c87 => ?_)
        · skip
          have i88 := z_lt (-2147483648) (-1) c87 (i_rng x2) rfl
          refine g_iconst 0 17 (gd rfl) rfl rfl ?_
          refine g_ireturn (gd rfl) rfl (nb01 (in_w 0 1 (in_c 0 rfl) rfl)) (hp85 _ _ ?_)
          show GG _ _ _ _ _ _ _ _ [.int (Int32.ofInt 0)] _ _ _
          refine g_if_eq 22 26 (gd rfl) rfl rfl (fun c89 => ?_) (fun c89 => ?_)
          · skip
            refine g_iconst 0 27 (gd rfl) rfl rfl ?_
            refine g_thr (E := am_IA) (y := yX11_allow) 30 (gd rfl) rfl rfl (Or.inl ⟨rfl, rfl, rfl⟩) (by omega) (Nat.le_of_ble_eq_true rfl) (Nat.le_of_ble_eq_true rfl) (Nat.le_of_ble_eq_true rfl) (fun c90 => ?_) (fun c90 => ?_)
            · skip
              exact zn_ne c90 (in_c 0 rfl) rfl
            · skip
              exact (hX _ _ ⟨rfl, s, hI, rfl⟩)
          · skip
            exact zn_ne c89 (in_c 0 rfl) rfl
        · skip
          have i91 := z_ge 0 2147483647 c87 (i_rng x2) rfl
          refine g_iload_n 5 (gd rfl) rfl rfl ?_
          refine g_aload_n 6 (gd rfl) rfl rfl ?_
          refine g_getI 9 (gd rfl) rfl rfl rfl (fun z92 e93 => ?_)
          have i94 := inv_F hI 0 32 rfl e93
          refine g_cmp_ge 12 16 (gd rfl) rfl rfl (fun c95 => ?_) (fun c95 => ?_)
          · skip
            refine g_iconst 0 17 (gd rfl) rfl rfl ?_
            refine g_ireturn (gd rfl) rfl (nb01 (in_w 0 1 (in_c 0 rfl) rfl)) (hp85 _ _ ?_)
            show GG _ _ _ _ _ _ _ _ [.int (Int32.ofInt 0)] _ _ _
            refine g_if_eq 22 26 (gd rfl) rfl rfl (fun c96 => ?_) (fun c96 => ?_)
            · skip
              refine g_iconst 0 27 (gd rfl) rfl rfl ?_
              refine g_thr (E := am_IA) (y := yX11_allow) 30 (gd rfl) rfl rfl (Or.inl ⟨rfl, rfl, rfl⟩) (by omega) (Nat.le_of_ble_eq_true rfl) (Nat.le_of_ble_eq_true rfl) (Nat.le_of_ble_eq_true rfl) (fun c97 => ?_) (fun c97 => ?_)
              · skip
                exact zn_ne c97 (in_c 0 rfl) rfl
              · skip
                exact (hX _ _ ⟨rfl, s, hI, rfl⟩)
            · skip
              exact zn_ne c96 (in_c 0 rfl) rfl
          · skip
            have i98 := r_lt1 0 31 c95 i91 i94 rfl
            have i99 := r_lt2 1 32 c95 i91 i94 rfl
            refine g_iconst 1 13 (gd rfl) rfl rfl ?_
            refine g_goto 17 (gd rfl) rfl ?_
            refine g_ireturn (gd rfl) rfl (nb01 (in_w 0 1 (in_c 1 rfl) rfl)) (hp85 _ _ ?_)
            show GG _ _ _ _ _ _ _ _ [.int (Int32.ofInt 1)] _ _ _
            refine g_if_eq 22 26 (gd rfl) rfl rfl (fun c100 => ?_) (fun c100 => ?_)
            · skip
              exact zn_eq c100 (in_c 1 rfl) rfl
            · skip
              refine g_iconst 1 23 (gd rfl) rfl rfl ?_
              refine g_goto 27 (gd rfl) rfl ?_
              refine g_thr (E := am_IA) (y := yX11_allow) 30 (gd rfl) rfl rfl (Or.inl ⟨rfl, rfl, rfl⟩) (by omega) (Nat.le_of_ble_eq_true rfl) (Nat.le_of_ble_eq_true rfl) (Nat.le_of_ble_eq_true rfl) (fun c101 => ?_) (fun c101 => ?_)
              · skip
                refine g_iload_n 31 (gd rfl) rfl rfl ?_
                refine g_if_ne 34 46 (gd rfl) rfl rfl (fun c102 => ?_) (fun c102 => ?_)
                · skip
                  have i103 := z_ne 1 1 c102 i82 rfl
                  refine g_aload_n 47 (gd rfl) rfl rfl ?_
                  refine g_getA (q2 := 56) 50 (gd rfl) rfl rfl rfl rfl rfl ?_
                  refine g_aload_n 51 (gd rfl) rfl rfl ?_
                  refine g_iload_n 52 (gd rfl) rfl rfl ?_
                  refine g_callv (X := _) (As := [.ref (A 2), .int x2]) (r := []) (b := A 56) (q := 56) 55 (gd rfl) rfl rfl rfl rfl rfl (ww_o rfl) (Nat.le_of_ble_eq_true rfl) (mc := 0) (ms := 0) (Nat.zero_le _) (Nat.zero_le _) (P := fun v u => _) ?_ (fun e u h => h) (fun v u h => h)
                  intro po104 xx105 hp106 hx107
                  refine g_enter2 (k := 141) (N := 300) (by omega) rfl (Nat.le_of_ble_eq_true rfl) ?_
                  refine g_aload_n 1 (gd rfl) rfl rfl ?_
                  refine g_callv (X := _) (As := []) (r := []) (b := A 2) (q := 2) 4 (gd rfl) rfl rfl rfl rfl rfl (ww_o rfl) (Nat.le_of_ble_eq_true rfl) (Nat.zero_le _) (Nat.zero_le _) (k_106_2 (by omega) hI ) (fun e u h => h) (fun v u h => ?_)
                  obtain ⟨s108, hI109, rfl, rfl⟩ := h
                  show GG _ _ _ _ _ _ _ _ [] _ _ _
                  refine g_aload_n 5 (gd rfl) rfl rfl ?_
                  refine g_getA (q2 := 9) 8 (gd rfl) rfl rfl rfl rfl rfl ?_
                  refine g_iconst 1 9 (gd rfl) rfl rfl ?_
                  refine g_iload_n 10 (gd rfl) rfl rfl ?_
                  refine g_ishl 11 (gd rfl) rfl (fun z112 e113 => ?_)
                  refine g_iconst (-1) 12 (gd rfl) rfl rfl ?_
                  refine g_calls (As := [.ref (A 9), .int z112, .int (Int32.ofInt (-1))]) (r := []) 15 (gd rfl) rfl rfl rfl rfl rfl (Nat.le_of_ble_eq_true rfl) (Nat.zero_le _) (Nat.zero_le _) (k_266_9 (by omega) hI109 ) (fun v u h => ?_)
                  obtain ⟨z114, rfl, rfl, i115⟩ := h
                  show GG _ _ _ _ _ _ _ _ [.int z114] _ _ _
                  refine g_calls (As := [.int z114]) (r := []) 18 (gd rfl) rfl rfl rfl rfl rfl (Nat.le_of_ble_eq_true rfl) (Nat.zero_le _) (Nat.zero_le _) (k_264 (by omega)) (fun v u h => ?_)
                  obtain ⟨z116, rfl, rfl, i117⟩ := h
                  show GG _ _ _ _ _ _ _ _ [.int z116] _ _ _
                  refine g_ireturn (gd rfl) rfl rfl (hp106 _ _ ?_)
                  show GG _ _ _ _ _ _ _ _ [.int z116] _ _ _
                  exact g_ireturn (gd rfl) rfl rfl (hP _ _ ⟨s108, hI109, z116, rfl, rfl, in_w 0 32 i117 rfl⟩)
                · skip
                  have i118 := z_eq 0 0 c102 i82 rfl
                  refine g_aload_n 35 (gd rfl) rfl rfl ?_
                  refine g_getA (q2 := 56) 38 (gd rfl) rfl rfl rfl rfl rfl ?_
                  refine g_aload_n 39 (gd rfl) rfl rfl ?_
                  refine g_iload_n 40 (gd rfl) rfl rfl ?_
                  refine g_callv (X := _) (As := [.ref (A 2), .int x2]) (r := []) (b := A 56) (q := 56) 43 (gd rfl) rfl rfl rfl rfl rfl (ww_o rfl) (Nat.le_of_ble_eq_true rfl) (mc := 0) (ms := 0) (Nat.zero_le _) (Nat.zero_le _) (P := fun v u => _) ?_ (fun e u h => h) (fun v u h => h)
                  intro po119 xx120 hp121 hx122
                  refine g_enter2 (k := 140) (N := 300) (by omega) rfl (Nat.le_of_ble_eq_true rfl) ?_
                  refine g_aload_n 1 (gd rfl) rfl rfl ?_
                  refine g_callv (X := _) (As := []) (r := []) (b := A 2) (q := 2) 4 (gd rfl) rfl rfl rfl rfl rfl (ww_o rfl) (Nat.le_of_ble_eq_true rfl) (Nat.zero_le _) (Nat.zero_le _) (k_106_2 (by omega) hI ) (fun e u h => h) (fun v u h => ?_)
                  obtain ⟨s123, hI124, rfl, rfl⟩ := h
                  show GG _ _ _ _ _ _ _ _ [] _ _ _
                  refine g_aload_n 5 (gd rfl) rfl rfl ?_
                  refine g_getA (q2 := 10) 8 (gd rfl) rfl rfl rfl rfl rfl ?_
                  refine g_iconst 1 9 (gd rfl) rfl rfl ?_
                  refine g_iload_n 10 (gd rfl) rfl rfl ?_
                  refine g_ishl 11 (gd rfl) rfl (fun z127 e128 => ?_)
                  refine g_iconst (-1) 12 (gd rfl) rfl rfl ?_
                  refine g_calls (As := [.ref (A 10), .int z127, .int (Int32.ofInt (-1))]) (r := []) 15 (gd rfl) rfl rfl rfl rfl rfl (Nat.le_of_ble_eq_true rfl) (Nat.zero_le _) (Nat.zero_le _) (k_266_10 (by omega) hI124 (in_w (-1) (-1) (in_c (-1) rfl) rfl)) (fun v u h => ?_)
                  obtain ⟨z129, rfl, rfl, i130⟩ := h
                  show GG _ _ _ _ _ _ _ _ [.int z129] _ _ _
                  refine g_aload_n 16 (gd rfl) rfl rfl ?_
                  refine g_getA (q2 := 11) 19 (gd rfl) rfl rfl rfl rfl rfl ?_
                  refine g_iconst 1 20 (gd rfl) rfl rfl ?_
                  refine g_iload_n 21 (gd rfl) rfl rfl ?_
                  refine g_ishl 22 (gd rfl) rfl (fun z131 e132 => ?_)
                  refine g_iconst (-1) 23 (gd rfl) rfl rfl ?_
                  refine g_calls (As := [.ref (A 11), .int z131, .int (Int32.ofInt (-1))]) (r := [.int z129]) 26 (gd rfl) rfl rfl rfl rfl rfl (Nat.le_of_ble_eq_true rfl) (Nat.zero_le _) (Nat.zero_le _) (k_266_11 (by omega) hI124 (in_w (-1) (-1) (in_c (-1) rfl) rfl)) (fun v u h => ?_)
                  obtain ⟨z133, rfl, rfl, i134⟩ := h
                  show GG _ _ _ _ _ _ _ _ [.int z133, .int z129] _ _ _
                  refine g_iand 27 (gd rfl) rfl (fun z135 e136 => ?_)
                  refine g_calls (As := [.int z135]) (r := []) 30 (gd rfl) rfl rfl rfl rfl rfl (Nat.le_of_ble_eq_true rfl) (Nat.zero_le _) (Nat.zero_le _) (k_264 (by omega)) (fun v u h => ?_)
                  obtain ⟨z137, rfl, rfl, i138⟩ := h
                  show GG _ _ _ _ _ _ _ _ [.int z137] _ _ _
                  refine g_ireturn (gd rfl) rfl rfl (hp121 _ _ ?_)
                  show GG _ _ _ _ _ _ _ _ [.int z137] _ _ _
                  refine g_goto 55 (gd rfl) rfl ?_
                  exact g_ireturn (gd rfl) rfl rfl (hP _ _ ⟨s123, hI124, z137, rfl, rfl, in_w 0 32 i138 rfl⟩)
              · skip
                exact zn_eq c101 (in_c 1 rfl) rfl

/-- GraphHouse.bridge -/
theorem k_235_0 {Z : AmZ} {A : Nat → Nat} {s : GS} {ex : va_W} {d : Nat} {x1 : Int32} (hd : 7 ≤ d) (hI : Inv s)  : GC Z d 235 [.ref (A 0), .int x1] (WW Z A s ++ ex) 3 18 (fun v u => ∃ t : GS, Inv t ∧ ∃ z : Int32, v = some (.int z) ∧ u = WW Z A t ++ ex ∧ In z 0 1) (gE1 Z A ex) := by
  intro post xp hP hX
  refine g_enter2 (k := 235) (N := 900) (by omega) rfl (Nat.le_of_ble_eq_true rfl) ?_
  refine g_aload_n 1 (gd rfl) rfl rfl ?_
  refine g_callv (X := _) (As := []) (r := []) (b := A 0) (q := 0) 4 (gd rfl) rfl rfl rfl rfl rfl (ww_o rfl) (Nat.le_of_ble_eq_true rfl) (mc := 0) (ms := 0) (Nat.zero_le _) (Nat.zero_le _) (P := fun v u => _) ?_ (fun e u h => h) (fun v u h => h)
  intro po1 xx2 hp3 hx4
  refine g_enter2 (k := 259) (N := 300) (by omega) rfl (Nat.le_of_ble_eq_true rfl) ?_
  refine g_aload_n 1 (gd rfl) rfl rfl ?_
  refine g_getI 4 (gd rfl) rfl rfl rfl (fun z5 e6 => ?_)
  have i7 := inv_F hI (-1) 4000 rfl e6
  refine g_iconst (-1) 5 (gd rfl) rfl rfl ?_
  refine g_cmp_ne 8 18 (gd rfl) rfl rfl (fun c8 => ?_) (fun c8 => ?_)
  · skip
    have i9 := r_ne1 0 4000 c8 i7 (in_c (-1) rfl) rfl
    refine g_aload_n 19 (gd rfl) rfl rfl ?_
    refine g_getA (q2 := 32) 22 (gd rfl) rfl rfl rfl rfl rfl ?_
    refine g_areturn (gd rfl) rfl (hp3 _ _ ?_)
    show GG _ _ _ _ _ _ _ _ [.ref (A 32)] _ _ _
    refine g_astore_n 5 (gd rfl) rfl (Nat.le_of_ble_eq_true rfl) ?_
    refine g_aload_n 6 (gd rfl) rfl rfl ?_
    refine g_iload_n 7 (gd rfl) rfl rfl ?_
    refine g_callv (X := _) (As := [.int x1]) (r := []) (b := A 32) (q := 32) 10 (gd rfl) rfl rfl rfl rfl rfl (ww_o rfl) (Nat.le_of_ble_eq_true rfl) (mc := 0) (ms := 0) (Nat.zero_le _) (Nat.zero_le _) (P := fun v u => _) ?_ (fun e u h => h) (fun v u h => h)
    intro po10 xx11 hp12 hx13
    refine g_enter2 (k := 96) (N := 300) (by omega) rfl (Nat.le_of_ble_eq_true rfl) ?_
    refine g_iload_n 1 (gd rfl) rfl rfl ?_
    refine g_if_lt 4 26 (gd rfl) rfl rfl (fun c14 => ?_) (fun c14 => ?_)
    · skip
      have i15 := z_lt (-2147483648) (-1) c14 (i_rng x1) rfl
      refine g_iconst 0 27 (gd rfl) rfl rfl ?_
      refine g_ireturn (gd rfl) rfl (nb01 (in_w 0 1 (in_c 0 rfl) rfl)) (hp12 _ _ ?_)
      show GG _ _ _ _ _ _ _ _ [.int (Int32.ofInt 0)] _ _ _
      refine g_thr (E := am_IA) (y := yX11_allow) 13 (gd rfl) rfl rfl (Or.inl ⟨rfl, rfl, rfl⟩) (by omega) (Nat.le_of_ble_eq_true rfl) (Nat.le_of_ble_eq_true rfl) (Nat.le_of_ble_eq_true rfl) (fun c16 => ?_) (fun c16 => ?_)
      · skip
        exact zn_ne c16 (in_c 0 rfl) rfl
      · skip
        exact (hX _ _ ⟨rfl, s, hI, rfl⟩)
    · skip
      have i17 := z_ge 0 2147483647 c14 (i_rng x1) rfl
      refine g_iload_n 5 (gd rfl) rfl rfl ?_
      refine g_aload_n 6 (gd rfl) rfl rfl ?_
      refine g_getI 9 (gd rfl) rfl rfl rfl (fun z18 e19 => ?_)
      have i20 := inv_F hI 0 160 rfl e19
      refine g_cmp_ge 12 26 (gd rfl) rfl rfl (fun c21 => ?_) (fun c21 => ?_)
      · skip
        refine g_iconst 0 27 (gd rfl) rfl rfl ?_
        refine g_ireturn (gd rfl) rfl (nb01 (in_w 0 1 (in_c 0 rfl) rfl)) (hp12 _ _ ?_)
        show GG _ _ _ _ _ _ _ _ [.int (Int32.ofInt 0)] _ _ _
        refine g_thr (E := am_IA) (y := yX11_allow) 13 (gd rfl) rfl rfl (Or.inl ⟨rfl, rfl, rfl⟩) (by omega) (Nat.le_of_ble_eq_true rfl) (Nat.le_of_ble_eq_true rfl) (Nat.le_of_ble_eq_true rfl) (fun c22 => ?_) (fun c22 => ?_)
        · skip
          exact zn_ne c22 (in_c 0 rfl) rfl
        · skip
          exact (hX _ _ ⟨rfl, s, hI, rfl⟩)
      · skip
        have i23 := r_lt1 0 159 c21 i17 i20 rfl
        have i24 := r_lt2 1 160 c21 i17 i20 rfl
        refine g_aload_n 13 (gd rfl) rfl rfl ?_
        refine g_getA (q2 := 34) 16 (gd rfl) rfl rfl rfl rfl rfl ?_
        refine g_iload_n 17 (gd rfl) rfl rfl ?_
        refine g_iaload 18 (gd rfl) rfl (n := 160) rfl (in_ix i23 rfl) (fun z25 e26 => ?_)
        have i27 := inv_I hI (n := 160) (t := 0) (-1) 31 rfl (in_ix i23 rfl) rfl e26
        refine g_iconst (-1) 19 (gd rfl) rfl rfl ?_
        refine g_cmp_eq 22 26 (gd rfl) rfl rfl (fun c28 => ?_) (fun c28 => ?_)
        · skip
          have i29 := r_eq1 (-1) (-1) c28 i27 (in_c (-1) rfl) rfl
          refine g_iconst 0 27 (gd rfl) rfl rfl ?_
          refine g_ireturn (gd rfl) rfl (nb01 (in_w 0 1 (in_c 0 rfl) rfl)) (hp12 _ _ ?_)
          show GG _ _ _ _ _ _ _ _ [.int (Int32.ofInt 0)] _ _ _
          refine g_thr (E := am_IA) (y := yX11_allow) 13 (gd rfl) rfl rfl (Or.inl ⟨rfl, rfl, rfl⟩) (by omega) (Nat.le_of_ble_eq_true rfl) (Nat.le_of_ble_eq_true rfl) (Nat.le_of_ble_eq_true rfl) (fun c30 => ?_) (fun c30 => ?_)
          · skip
            exact zn_ne c30 (in_c 0 rfl) rfl
          · skip
            exact (hX _ _ ⟨rfl, s, hI, rfl⟩)
        · skip
          have i31 := r_ne1 0 31 c28 i27 (in_c (-1) rfl) rfl
          refine g_iconst 1 23 (gd rfl) rfl rfl ?_
          refine g_goto 27 (gd rfl) rfl ?_
          refine g_ireturn (gd rfl) rfl (nb01 (in_w 0 1 (in_c 1 rfl) rfl)) (hp12 _ _ ?_)
          show GG _ _ _ _ _ _ _ _ [.int (Int32.ofInt 1)] _ _ _
          refine g_thr (E := am_IA) (y := yX11_allow) 13 (gd rfl) rfl rfl (Or.inl ⟨rfl, rfl, rfl⟩) (by omega) (Nat.le_of_ble_eq_true rfl) (Nat.le_of_ble_eq_true rfl) (Nat.le_of_ble_eq_true rfl) (fun c32 => ?_) (fun c32 => ?_)
          · skip
            refine g_aload_n 14 (gd rfl) rfl rfl ?_
            refine g_getA (q2 := 56) 17 (gd rfl) rfl rfl rfl rfl rfl ?_
            refine g_aload_n 18 (gd rfl) rfl rfl ?_
            refine g_iload_n 19 (gd rfl) rfl rfl ?_
            refine g_callv (X := _) (As := [.ref (A 32), .int x1]) (r := []) (b := A 56) (q := 56) 22 (gd rfl) rfl rfl rfl rfl rfl (ww_o rfl) (Nat.le_of_ble_eq_true rfl) (Nat.zero_le _) (Nat.zero_le _) (k_142_56_32 (by omega) hI (in_w 0 159 i23 rfl)) (fun e u h => h) (fun v u h => ?_)
            obtain ⟨s33, hI34, z35, rfl, rfl, i36⟩ := h
            show GG _ _ _ _ _ _ _ _ [.int z35] _ _ _
            exact g_ireturn (gd rfl) rfl (nb01 (in_w 0 1 i36 rfl)) (hP _ _ ⟨s33, hI34, z35, rfl, rfl, in_w 0 1 i36 rfl⟩)
          · skip
            exact zn_eq c32 (in_c 1 rfl) rfl
  · skip
    have i37 := r_eq1 (-1) (-1) c8 i7 (in_c (-1) rfl) rfl
    refine g_aload_n 9 (gd rfl) rfl rfl ?_
    refine g_getA (q2 := 1) 12 (gd rfl) rfl rfl rfl rfl rfl ?_
    refine g_getA (q2 := 2) 15 (gd rfl) rfl rfl rfl rfl rfl ?_
    refine g_goto 22 (gd rfl) rfl ?_
    refine g_areturn (gd rfl) rfl (hp3 _ _ ?_)
    show GG _ _ _ _ _ _ _ _ [.ref (A 2)] _ _ _
    refine g_astore_n 5 (gd rfl) rfl (Nat.le_of_ble_eq_true rfl) ?_
    refine g_aload_n 6 (gd rfl) rfl rfl ?_
    refine g_iload_n 7 (gd rfl) rfl rfl ?_
    refine g_callv (X := _) (As := [.int x1]) (r := []) (b := A 2) (q := 2) 10 (gd rfl) rfl rfl rfl rfl rfl (ww_o rfl) (Nat.le_of_ble_eq_true rfl) (mc := 0) (ms := 0) (Nat.zero_le _) (Nat.zero_le _) (P := fun v u => _) ?_ (fun e u h => h) (fun v u h => h)
    intro po38 xx39 hp40 hx41
    refine g_enter2 (k := 96) (N := 300) (by omega) rfl (Nat.le_of_ble_eq_true rfl) ?_
    refine g_iload_n 1 (gd rfl) rfl rfl ?_
    refine g_if_lt 4 26 (gd rfl) rfl rfl (fun c42 => ?_) (fun c42 => ?_)
    · skip
      have i43 := z_lt (-2147483648) (-1) c42 (i_rng x1) rfl
      refine g_iconst 0 27 (gd rfl) rfl rfl ?_
      refine g_ireturn (gd rfl) rfl (nb01 (in_w 0 1 (in_c 0 rfl) rfl)) (hp40 _ _ ?_)
      show GG _ _ _ _ _ _ _ _ [.int (Int32.ofInt 0)] _ _ _
      refine g_thr (E := am_IA) (y := yX11_allow) 13 (gd rfl) rfl rfl (Or.inl ⟨rfl, rfl, rfl⟩) (by omega) (Nat.le_of_ble_eq_true rfl) (Nat.le_of_ble_eq_true rfl) (Nat.le_of_ble_eq_true rfl) (fun c44 => ?_) (fun c44 => ?_)
      · skip
        exact zn_ne c44 (in_c 0 rfl) rfl
      · skip
        exact (hX _ _ ⟨rfl, s, hI, rfl⟩)
    · skip
      have i45 := z_ge 0 2147483647 c42 (i_rng x1) rfl
      refine g_iload_n 5 (gd rfl) rfl rfl ?_
      refine g_aload_n 6 (gd rfl) rfl rfl ?_
      refine g_getI 9 (gd rfl) rfl rfl rfl (fun z46 e47 => ?_)
      have i48 := inv_F hI 0 160 rfl e47
      refine g_cmp_ge 12 26 (gd rfl) rfl rfl (fun c49 => ?_) (fun c49 => ?_)
      · skip
        refine g_iconst 0 27 (gd rfl) rfl rfl ?_
        refine g_ireturn (gd rfl) rfl (nb01 (in_w 0 1 (in_c 0 rfl) rfl)) (hp40 _ _ ?_)
        show GG _ _ _ _ _ _ _ _ [.int (Int32.ofInt 0)] _ _ _
        refine g_thr (E := am_IA) (y := yX11_allow) 13 (gd rfl) rfl rfl (Or.inl ⟨rfl, rfl, rfl⟩) (by omega) (Nat.le_of_ble_eq_true rfl) (Nat.le_of_ble_eq_true rfl) (Nat.le_of_ble_eq_true rfl) (fun c50 => ?_) (fun c50 => ?_)
        · skip
          exact zn_ne c50 (in_c 0 rfl) rfl
        · skip
          exact (hX _ _ ⟨rfl, s, hI, rfl⟩)
      · skip
        have i51 := r_lt1 0 159 c49 i45 i48 rfl
        have i52 := r_lt2 1 160 c49 i45 i48 rfl
        refine g_aload_n 13 (gd rfl) rfl rfl ?_
        refine g_getA (q2 := 4) 16 (gd rfl) rfl rfl rfl rfl rfl ?_
        refine g_iload_n 17 (gd rfl) rfl rfl ?_
        refine g_iaload 18 (gd rfl) rfl (n := 160) rfl (in_ix i51 rfl) (fun z53 e54 => ?_)
        have i55 := inv_I hI (n := 160) (t := 0) (-1) 31 rfl (in_ix i51 rfl) rfl e54
        refine g_iconst (-1) 19 (gd rfl) rfl rfl ?_
        refine g_cmp_eq 22 26 (gd rfl) rfl rfl (fun c56 => ?_) (fun c56 => ?_)
        · skip
          have i57 := r_eq1 (-1) (-1) c56 i55 (in_c (-1) rfl) rfl
          refine g_iconst 0 27 (gd rfl) rfl rfl ?_
          refine g_ireturn (gd rfl) rfl (nb01 (in_w 0 1 (in_c 0 rfl) rfl)) (hp40 _ _ ?_)
          show GG _ _ _ _ _ _ _ _ [.int (Int32.ofInt 0)] _ _ _
          refine g_thr (E := am_IA) (y := yX11_allow) 13 (gd rfl) rfl rfl (Or.inl ⟨rfl, rfl, rfl⟩) (by omega) (Nat.le_of_ble_eq_true rfl) (Nat.le_of_ble_eq_true rfl) (Nat.le_of_ble_eq_true rfl) (fun c58 => ?_) (fun c58 => ?_)
          · skip
            exact zn_ne c58 (in_c 0 rfl) rfl
          · skip
            exact (hX _ _ ⟨rfl, s, hI, rfl⟩)
        · skip
          have i59 := r_ne1 0 31 c56 i55 (in_c (-1) rfl) rfl
          refine g_iconst 1 23 (gd rfl) rfl rfl ?_
          refine g_goto 27 (gd rfl) rfl ?_
          refine g_ireturn (gd rfl) rfl (nb01 (in_w 0 1 (in_c 1 rfl) rfl)) (hp40 _ _ ?_)
          show GG _ _ _ _ _ _ _ _ [.int (Int32.ofInt 1)] _ _ _
          refine g_thr (E := am_IA) (y := yX11_allow) 13 (gd rfl) rfl rfl (Or.inl ⟨rfl, rfl, rfl⟩) (by omega) (Nat.le_of_ble_eq_true rfl) (Nat.le_of_ble_eq_true rfl) (Nat.le_of_ble_eq_true rfl) (fun c60 => ?_) (fun c60 => ?_)
          · skip
            refine g_aload_n 14 (gd rfl) rfl rfl ?_
            refine g_getA (q2 := 56) 17 (gd rfl) rfl rfl rfl rfl rfl ?_
            refine g_aload_n 18 (gd rfl) rfl rfl ?_
            refine g_iload_n 19 (gd rfl) rfl rfl ?_
            refine g_callv (X := _) (As := [.ref (A 2), .int x1]) (r := []) (b := A 56) (q := 56) 22 (gd rfl) rfl rfl rfl rfl rfl (ww_o rfl) (Nat.le_of_ble_eq_true rfl) (Nat.zero_le _) (Nat.zero_le _) (k_142_56_2 (by omega) hI (in_w 0 159 i51 rfl)) (fun e u h => h) (fun v u h => ?_)
            obtain ⟨s61, hI62, z63, rfl, rfl, i64⟩ := h
            show GG _ _ _ _ _ _ _ _ [.int z63] _ _ _
            exact g_ireturn (gd rfl) rfl (nb01 (in_w 0 1 i64 rfl)) (hP _ _ ⟨s61, hI62, z63, rfl, rfl, in_w 0 1 i64 rfl⟩)
          · skip
            exact zn_eq c60 (in_c 1 rfl) rfl

/-- GraphHouse.cut -/
theorem k_236_0 {Z : AmZ} {A : Nat → Nat} {s : GS} {ex : va_W} {d : Nat} {x1 : Int32} (hd : 7 ≤ d) (hI : Inv s)  : GC Z d 236 [.ref (A 0), .int x1] (WW Z A s ++ ex) 3 18 (fun v u => ∃ t : GS, Inv t ∧ ∃ z : Int32, v = some (.int z) ∧ u = WW Z A t ++ ex ∧ In z 0 1) (gE1 Z A ex) := by
  intro post xp hP hX
  refine g_enter2 (k := 236) (N := 900) (by omega) rfl (Nat.le_of_ble_eq_true rfl) ?_
  refine g_aload_n 1 (gd rfl) rfl rfl ?_
  refine g_callv (X := _) (As := []) (r := []) (b := A 0) (q := 0) 4 (gd rfl) rfl rfl rfl rfl rfl (ww_o rfl) (Nat.le_of_ble_eq_true rfl) (mc := 0) (ms := 0) (Nat.zero_le _) (Nat.zero_le _) (P := fun v u => _) ?_ (fun e u h => h) (fun v u h => h)
  intro po1 xx2 hp3 hx4
  refine g_enter2 (k := 259) (N := 300) (by omega) rfl (Nat.le_of_ble_eq_true rfl) ?_
  refine g_aload_n 1 (gd rfl) rfl rfl ?_
  refine g_getI 4 (gd rfl) rfl rfl rfl (fun z5 e6 => ?_)
  have i7 := inv_F hI (-1) 4000 rfl e6
  refine g_iconst (-1) 5 (gd rfl) rfl rfl ?_
  refine g_cmp_ne 8 18 (gd rfl) rfl rfl (fun c8 => ?_) (fun c8 => ?_)
  · skip
    have i9 := r_ne1 0 4000 c8 i7 (in_c (-1) rfl) rfl
    refine g_aload_n 19 (gd rfl) rfl rfl ?_
    refine g_getA (q2 := 32) 22 (gd rfl) rfl rfl rfl rfl rfl ?_
    refine g_areturn (gd rfl) rfl (hp3 _ _ ?_)
    show GG _ _ _ _ _ _ _ _ [.ref (A 32)] _ _ _
    refine g_astore_n 5 (gd rfl) rfl (Nat.le_of_ble_eq_true rfl) ?_
    refine g_aload_n 6 (gd rfl) rfl rfl ?_
    refine g_iload_n 7 (gd rfl) rfl rfl ?_
    refine g_callv (X := _) (As := [.int x1]) (r := []) (b := A 32) (q := 32) 10 (gd rfl) rfl rfl rfl rfl rfl (ww_o rfl) (Nat.le_of_ble_eq_true rfl) (mc := 0) (ms := 0) (Nat.zero_le _) (Nat.zero_le _) (P := fun v u => _) ?_ (fun e u h => h) (fun v u h => h)
    intro po10 xx11 hp12 hx13
    refine g_enter2 (k := 94) (N := 300) (by omega) rfl (Nat.le_of_ble_eq_true rfl) ?_
    refine g_iload_n 1 (gd rfl) rfl rfl ?_
    refine g_if_lt 4 16 (gd rfl) rfl rfl (fun c14 => ?_) (fun c14 => ?_)
    · skip
      have i15 := z_lt (-2147483648) (-1) c14 (i_rng x1) rfl
      refine g_iconst 0 17 (gd rfl) rfl rfl ?_
      refine g_ireturn (gd rfl) rfl (nb01 (in_w 0 1 (in_c 0 rfl) rfl)) (hp12 _ _ ?_)
      show GG _ _ _ _ _ _ _ _ [.int (Int32.ofInt 0)] _ _ _
      refine g_thr (E := am_IA) (y := yX11_allow) 13 (gd rfl) rfl rfl (Or.inl ⟨rfl, rfl, rfl⟩) (by omega) (Nat.le_of_ble_eq_true rfl) (Nat.le_of_ble_eq_true rfl) (Nat.le_of_ble_eq_true rfl) (fun c16 => ?_) (fun c16 => ?_)
      · skip
        exact zn_ne c16 (in_c 0 rfl) rfl
      · skip
        exact (hX _ _ ⟨rfl, s, hI, rfl⟩)
    · skip
      have i17 := z_ge 0 2147483647 c14 (i_rng x1) rfl
      refine g_iload_n 5 (gd rfl) rfl rfl ?_
      refine g_aload_n 6 (gd rfl) rfl rfl ?_
      refine g_getI 9 (gd rfl) rfl rfl rfl (fun z18 e19 => ?_)
      have i20 := inv_F hI 0 32 rfl e19
      refine g_cmp_ge 12 16 (gd rfl) rfl rfl (fun c21 => ?_) (fun c21 => ?_)
      · skip
        refine g_iconst 0 17 (gd rfl) rfl rfl ?_
        refine g_ireturn (gd rfl) rfl (nb01 (in_w 0 1 (in_c 0 rfl) rfl)) (hp12 _ _ ?_)
        show GG _ _ _ _ _ _ _ _ [.int (Int32.ofInt 0)] _ _ _
        refine g_thr (E := am_IA) (y := yX11_allow) 13 (gd rfl) rfl rfl (Or.inl ⟨rfl, rfl, rfl⟩) (by omega) (Nat.le_of_ble_eq_true rfl) (Nat.le_of_ble_eq_true rfl) (Nat.le_of_ble_eq_true rfl) (fun c22 => ?_) (fun c22 => ?_)
        · skip
          exact zn_ne c22 (in_c 0 rfl) rfl
        · skip
          exact (hX _ _ ⟨rfl, s, hI, rfl⟩)
      · skip
        have i23 := r_lt1 0 31 c21 i17 i20 rfl
        have i24 := r_lt2 1 32 c21 i17 i20 rfl
        refine g_iconst 1 13 (gd rfl) rfl rfl ?_
        refine g_goto 17 (gd rfl) rfl ?_
        refine g_ireturn (gd rfl) rfl (nb01 (in_w 0 1 (in_c 1 rfl) rfl)) (hp12 _ _ ?_)
        show GG _ _ _ _ _ _ _ _ [.int (Int32.ofInt 1)] _ _ _
        refine g_thr (E := am_IA) (y := yX11_allow) 13 (gd rfl) rfl rfl (Or.inl ⟨rfl, rfl, rfl⟩) (by omega) (Nat.le_of_ble_eq_true rfl) (Nat.le_of_ble_eq_true rfl) (Nat.le_of_ble_eq_true rfl) (fun c25 => ?_) (fun c25 => ?_)
        · skip
          refine g_aload_n 14 (gd rfl) rfl rfl ?_
          refine g_getA (q2 := 56) 17 (gd rfl) rfl rfl rfl rfl rfl ?_
          refine g_aload_n 18 (gd rfl) rfl rfl ?_
          refine g_iload_n 19 (gd rfl) rfl rfl ?_
          refine g_callv (X := _) (As := [.ref (A 32), .int x1]) (r := []) (b := A 56) (q := 56) 22 (gd rfl) rfl rfl rfl rfl rfl (ww_o rfl) (Nat.le_of_ble_eq_true rfl) (mc := 0) (ms := 0) (Nat.zero_le _) (Nat.zero_le _) (P := fun v u => _) ?_ (fun e u h => h) (fun v u h => h)
          intro po26 xx27 hp28 hx29
          refine g_enter2 (k := 143) (N := 300) (by omega) rfl (Nat.le_of_ble_eq_true rfl) ?_
          refine g_aload_n 1 (gd rfl) rfl rfl ?_
          refine g_callv (X := _) (As := []) (r := []) (b := A 32) (q := 32) 4 (gd rfl) rfl rfl rfl rfl rfl (ww_o rfl) (Nat.le_of_ble_eq_true rfl) (Nat.zero_le _) (Nat.zero_le _) (k_106_32 (by omega) hI ) (fun e u h => h) (fun v u h => ?_)
          obtain ⟨s30, hI31, rfl, rfl⟩ := h
          show GG _ _ _ _ _ _ _ _ [] _ _ _
          refine g_aload_n 5 (gd rfl) rfl rfl ?_
          refine g_getA (q2 := 39) 8 (gd rfl) rfl rfl rfl rfl rfl ?_
          refine g_iload_n 9 (gd rfl) rfl rfl ?_
          refine g_iaload 10 (gd rfl) rfl (n := 32) rfl (in_ix i23 rfl) (fun z34 e35 => ?_)
          refine g_istore_n 11 (gd rfl) rfl (Nat.le_of_ble_eq_true rfl) ?_
          refine g_aload_n 12 (gd rfl) rfl rfl ?_
          refine g_getA (q2 := 39) 15 (gd rfl) rfl rfl rfl rfl rfl ?_
          refine g_iload_n 16 (gd rfl) rfl rfl ?_
          refine g_iload_n 17 (gd rfl) rfl rfl ?_
          refine g_ineg 18 (gd rfl) rfl (fun z36 e37 => ?_)
          refine g_iand 19 (gd rfl) rfl (fun z38 e39 => ?_)
          refine g_iconst 1 20 (gd rfl) rfl rfl ?_
          refine g_iload_n 21 (gd rfl) rfl rfl ?_
          refine g_ishl 22 (gd rfl) rfl (fun z40 e41 => ?_)
          refine g_iconst (-1) 23 (gd rfl) rfl rfl ?_
          refine g_ixor 24 (gd rfl) rfl (fun z42 e43 => ?_)
          refine g_calls (As := [.ref (A 39), .int z38, .int z42]) (r := []) 27 (gd rfl) rfl rfl rfl rfl rfl (Nat.le_of_ble_eq_true rfl) (Nat.zero_le _) (Nat.zero_le _) (k_266_39 (by omega) hI31 ) (fun v u h => ?_)
          obtain ⟨z44, rfl, rfl, i45⟩ := h
          show GG _ _ _ _ _ _ _ _ [.int z44] _ _ _
          refine g_istore 29 (gd rfl) rfl (Nat.le_of_ble_eq_true rfl) ?_
          refine g_iload_n 30 (gd rfl) rfl rfl ?_
          refine g_iload 32 (gd rfl) rfl rfl ?_
          refine g_iconst (-1) 33 (gd rfl) rfl rfl ?_
          refine g_ixor 34 (gd rfl) rfl (fun z46 e47 => ?_)
          refine g_iand 35 (gd rfl) rfl (fun z48 e49 => ?_)
          refine g_if_eq 38 42 (gd rfl) rfl rfl (fun c50 => ?_) (fun c50 => ?_)
          · skip
            have i51 := z_eq 0 0 c50 (i_rng z48) rfl
            refine g_iconst 0 43 (gd rfl) rfl rfl ?_
            refine g_ireturn (gd rfl) rfl (nb01 (in_w 0 1 (in_c 0 rfl) rfl)) (hp28 _ _ ?_)
            show GG _ _ _ _ _ _ _ _ [.int (Int32.ofInt 0)] _ _ _
            exact g_ireturn (gd rfl) rfl (nb01 (in_w 0 1 (in_c 0 rfl) rfl)) (hP _ _ ⟨s30, hI31, (Int32.ofInt 0), rfl, rfl, in_w 0 1 (in_c 0 rfl) rfl⟩)
          · skip
            refine g_iconst 1 39 (gd rfl) rfl rfl ?_
            refine g_goto 43 (gd rfl) rfl ?_
            refine g_ireturn (gd rfl) rfl (nb01 (in_w 0 1 (in_c 1 rfl) rfl)) (hp28 _ _ ?_)
            show GG _ _ _ _ _ _ _ _ [.int (Int32.ofInt 1)] _ _ _
            exact g_ireturn (gd rfl) rfl (nb01 (in_w 0 1 (in_c 1 rfl) rfl)) (hP _ _ ⟨s30, hI31, (Int32.ofInt 1), rfl, rfl, in_w 0 1 (in_c 1 rfl) rfl⟩)
        · skip
          exact zn_eq c25 (in_c 1 rfl) rfl
  · skip
    have i52 := r_eq1 (-1) (-1) c8 i7 (in_c (-1) rfl) rfl
    refine g_aload_n 9 (gd rfl) rfl rfl ?_
    refine g_getA (q2 := 1) 12 (gd rfl) rfl rfl rfl rfl rfl ?_
    refine g_getA (q2 := 2) 15 (gd rfl) rfl rfl rfl rfl rfl ?_
    refine g_goto 22 (gd rfl) rfl ?_
    refine g_areturn (gd rfl) rfl (hp3 _ _ ?_)
    show GG _ _ _ _ _ _ _ _ [.ref (A 2)] _ _ _
    refine g_astore_n 5 (gd rfl) rfl (Nat.le_of_ble_eq_true rfl) ?_
    refine g_aload_n 6 (gd rfl) rfl rfl ?_
    refine g_iload_n 7 (gd rfl) rfl rfl ?_
    refine g_callv (X := _) (As := [.int x1]) (r := []) (b := A 2) (q := 2) 10 (gd rfl) rfl rfl rfl rfl rfl (ww_o rfl) (Nat.le_of_ble_eq_true rfl) (mc := 0) (ms := 0) (Nat.zero_le _) (Nat.zero_le _) (P := fun v u => _) ?_ (fun e u h => h) (fun v u h => h)
    intro po53 xx54 hp55 hx56
    refine g_enter2 (k := 94) (N := 300) (by omega) rfl (Nat.le_of_ble_eq_true rfl) ?_
    refine g_iload_n 1 (gd rfl) rfl rfl ?_
    refine g_if_lt 4 16 (gd rfl) rfl rfl (fun c57 => ?_) (fun c57 => ?_)
    · skip
      have i58 := z_lt (-2147483648) (-1) c57 (i_rng x1) rfl
      refine g_iconst 0 17 (gd rfl) rfl rfl ?_
      refine g_ireturn (gd rfl) rfl (nb01 (in_w 0 1 (in_c 0 rfl) rfl)) (hp55 _ _ ?_)
      show GG _ _ _ _ _ _ _ _ [.int (Int32.ofInt 0)] _ _ _
      refine g_thr (E := am_IA) (y := yX11_allow) 13 (gd rfl) rfl rfl (Or.inl ⟨rfl, rfl, rfl⟩) (by omega) (Nat.le_of_ble_eq_true rfl) (Nat.le_of_ble_eq_true rfl) (Nat.le_of_ble_eq_true rfl) (fun c59 => ?_) (fun c59 => ?_)
      · skip
        exact zn_ne c59 (in_c 0 rfl) rfl
      · skip
        exact (hX _ _ ⟨rfl, s, hI, rfl⟩)
    · skip
      have i60 := z_ge 0 2147483647 c57 (i_rng x1) rfl
      refine g_iload_n 5 (gd rfl) rfl rfl ?_
      refine g_aload_n 6 (gd rfl) rfl rfl ?_
      refine g_getI 9 (gd rfl) rfl rfl rfl (fun z61 e62 => ?_)
      have i63 := inv_F hI 0 32 rfl e62
      refine g_cmp_ge 12 16 (gd rfl) rfl rfl (fun c64 => ?_) (fun c64 => ?_)
      · skip
        refine g_iconst 0 17 (gd rfl) rfl rfl ?_
        refine g_ireturn (gd rfl) rfl (nb01 (in_w 0 1 (in_c 0 rfl) rfl)) (hp55 _ _ ?_)
        show GG _ _ _ _ _ _ _ _ [.int (Int32.ofInt 0)] _ _ _
        refine g_thr (E := am_IA) (y := yX11_allow) 13 (gd rfl) rfl rfl (Or.inl ⟨rfl, rfl, rfl⟩) (by omega) (Nat.le_of_ble_eq_true rfl) (Nat.le_of_ble_eq_true rfl) (Nat.le_of_ble_eq_true rfl) (fun c65 => ?_) (fun c65 => ?_)
        · skip
          exact zn_ne c65 (in_c 0 rfl) rfl
        · skip
          exact (hX _ _ ⟨rfl, s, hI, rfl⟩)
      · skip
        have i66 := r_lt1 0 31 c64 i60 i63 rfl
        have i67 := r_lt2 1 32 c64 i60 i63 rfl
        refine g_iconst 1 13 (gd rfl) rfl rfl ?_
        refine g_goto 17 (gd rfl) rfl ?_
        refine g_ireturn (gd rfl) rfl (nb01 (in_w 0 1 (in_c 1 rfl) rfl)) (hp55 _ _ ?_)
        show GG _ _ _ _ _ _ _ _ [.int (Int32.ofInt 1)] _ _ _
        refine g_thr (E := am_IA) (y := yX11_allow) 13 (gd rfl) rfl rfl (Or.inl ⟨rfl, rfl, rfl⟩) (by omega) (Nat.le_of_ble_eq_true rfl) (Nat.le_of_ble_eq_true rfl) (Nat.le_of_ble_eq_true rfl) (fun c68 => ?_) (fun c68 => ?_)
        · skip
          refine g_aload_n 14 (gd rfl) rfl rfl ?_
          refine g_getA (q2 := 56) 17 (gd rfl) rfl rfl rfl rfl rfl ?_
          refine g_aload_n 18 (gd rfl) rfl rfl ?_
          refine g_iload_n 19 (gd rfl) rfl rfl ?_
          refine g_callv (X := _) (As := [.ref (A 2), .int x1]) (r := []) (b := A 56) (q := 56) 22 (gd rfl) rfl rfl rfl rfl rfl (ww_o rfl) (Nat.le_of_ble_eq_true rfl) (mc := 0) (ms := 0) (Nat.zero_le _) (Nat.zero_le _) (P := fun v u => _) ?_ (fun e u h => h) (fun v u h => h)
          intro po69 xx70 hp71 hx72
          refine g_enter2 (k := 143) (N := 300) (by omega) rfl (Nat.le_of_ble_eq_true rfl) ?_
          refine g_aload_n 1 (gd rfl) rfl rfl ?_
          refine g_callv (X := _) (As := []) (r := []) (b := A 2) (q := 2) 4 (gd rfl) rfl rfl rfl rfl rfl (ww_o rfl) (Nat.le_of_ble_eq_true rfl) (Nat.zero_le _) (Nat.zero_le _) (k_106_2 (by omega) hI ) (fun e u h => h) (fun v u h => ?_)
          obtain ⟨s73, hI74, rfl, rfl⟩ := h
          show GG _ _ _ _ _ _ _ _ [] _ _ _
          refine g_aload_n 5 (gd rfl) rfl rfl ?_
          refine g_getA (q2 := 9) 8 (gd rfl) rfl rfl rfl rfl rfl ?_
          refine g_iload_n 9 (gd rfl) rfl rfl ?_
          refine g_iaload 10 (gd rfl) rfl (n := 32) rfl (in_ix i66 rfl) (fun z77 e78 => ?_)
          refine g_istore_n 11 (gd rfl) rfl (Nat.le_of_ble_eq_true rfl) ?_
          refine g_aload_n 12 (gd rfl) rfl rfl ?_
          refine g_getA (q2 := 9) 15 (gd rfl) rfl rfl rfl rfl rfl ?_
          refine g_iload_n 16 (gd rfl) rfl rfl ?_
          refine g_iload_n 17 (gd rfl) rfl rfl ?_
          refine g_ineg 18 (gd rfl) rfl (fun z79 e80 => ?_)
          refine g_iand 19 (gd rfl) rfl (fun z81 e82 => ?_)
          refine g_iconst 1 20 (gd rfl) rfl rfl ?_
          refine g_iload_n 21 (gd rfl) rfl rfl ?_
          refine g_ishl 22 (gd rfl) rfl (fun z83 e84 => ?_)
          refine g_iconst (-1) 23 (gd rfl) rfl rfl ?_
          refine g_ixor 24 (gd rfl) rfl (fun z85 e86 => ?_)
          refine g_calls (As := [.ref (A 9), .int z81, .int z85]) (r := []) 27 (gd rfl) rfl rfl rfl rfl rfl (Nat.le_of_ble_eq_true rfl) (Nat.zero_le _) (Nat.zero_le _) (k_266_9 (by omega) hI74 ) (fun v u h => ?_)
          obtain ⟨z87, rfl, rfl, i88⟩ := h
          show GG _ _ _ _ _ _ _ _ [.int z87] _ _ _
          refine g_istore 29 (gd rfl) rfl (Nat.le_of_ble_eq_true rfl) ?_
          refine g_iload_n 30 (gd rfl) rfl rfl ?_
          refine g_iload 32 (gd rfl) rfl rfl ?_
          refine g_iconst (-1) 33 (gd rfl) rfl rfl ?_
          refine g_ixor 34 (gd rfl) rfl (fun z89 e90 => ?_)
          refine g_iand 35 (gd rfl) rfl (fun z91 e92 => ?_)
          refine g_if_eq 38 42 (gd rfl) rfl rfl (fun c93 => ?_) (fun c93 => ?_)
          · skip
            have i94 := z_eq 0 0 c93 (i_rng z91) rfl
            refine g_iconst 0 43 (gd rfl) rfl rfl ?_
            refine g_ireturn (gd rfl) rfl (nb01 (in_w 0 1 (in_c 0 rfl) rfl)) (hp71 _ _ ?_)
            show GG _ _ _ _ _ _ _ _ [.int (Int32.ofInt 0)] _ _ _
            exact g_ireturn (gd rfl) rfl (nb01 (in_w 0 1 (in_c 0 rfl) rfl)) (hP _ _ ⟨s73, hI74, (Int32.ofInt 0), rfl, rfl, in_w 0 1 (in_c 0 rfl) rfl⟩)
          · skip
            refine g_iconst 1 39 (gd rfl) rfl rfl ?_
            refine g_goto 43 (gd rfl) rfl ?_
            refine g_ireturn (gd rfl) rfl (nb01 (in_w 0 1 (in_c 1 rfl) rfl)) (hp71 _ _ ?_)
            show GG _ _ _ _ _ _ _ _ [.int (Int32.ofInt 1)] _ _ _
            exact g_ireturn (gd rfl) rfl (nb01 (in_w 0 1 (in_c 1 rfl) rfl)) (hP _ _ ⟨s73, hI74, (Int32.ofInt 1), rfl, rfl, in_w 0 1 (in_c 1 rfl) rfl⟩)
        · skip
          exact zn_eq c68 (in_c 1 rfl) rfl
