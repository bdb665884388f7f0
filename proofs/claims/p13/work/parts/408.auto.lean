/-! methods, by vc.py -/
/-- GraphHouse$Flows.turnEarners -/
theorem k_81_65 {Z : AmZ} {A : Nat → Nat} {s : GS} {ex : va_W} {d : Nat} {X : AmX} {x1 : Int32} {x2 : Int32} {x3 : Int32} (hd : 3 ≤ d) (hI : Inv s) (h1 : In x1 0 32) (h2 : In x2 1 1048576) (h3 : In x3 1 65536) : GC Z d 81 [.ref (A 65), .int x1, .int x2, .int x3] (WW Z A s ++ ex) 0 0 (fun v u => ∃ t : GS, Inv t ∧ v = none ∧ u = WW Z A t ++ ex) X := by
  intro post xp hP hX
  have ct17 : ∀ (k17 : Nat) (s : GS) (y17_4 : Int32), Inv s → In y17_4 0 160 → 160 - (y17_4).toInt < (k17 : Int) → GG Z (d - 1) 81 post (gx xp) (1 + k17 * 900) 17 (fun j => xlook j [(0, .ref (A 65)), (1, .int x1), (2, .int x2), (3, .int x3), (4, .int y17_4)]) [] (WW Z A s ++ ex) 0 0 := by
    intro k17
    induction k17 with
    | zero => intro s y17_4 hI j17_4 mm17; exact m_no mm17 j17_4 rfl
    | succ k17 ih17 =>
      intro s y17_4 hI j17_4 mm17
      refine gg_w (M := 1 + k17 * 900 + 900) (by omega) ?_
      refine g_iload 19 (gd rfl) rfl rfl ?_
      refine g_aload_n 20 (gd rfl) rfl rfl ?_
      refine g_getI 23 (gd rfl) rfl rfl rfl (fun z1 e2 => ?_)
      have i3 := inv_F hI 0 160 rfl e2
      refine g_cmp_ge 26 141 (gd rfl) rfl rfl (fun c4 => ?_) (fun c4 => ?_)
      · skip
        exact g_return (gd rfl) rfl (hP _ _ ⟨s, hI, rfl, rfl⟩)
      · skip
        have i5 := r_lt1 0 159 c4 j17_4 i3 rfl
        have i6 := r_lt2 1 160 c4 j17_4 i3 rfl
        refine g_aload_n 27 (gd rfl) rfl rfl ?_
        refine g_getA (q2 := 75) 30 (gd rfl) rfl rfl rfl rfl rfl ?_
        refine g_aload_n 31 (gd rfl) rfl rfl ?_
        refine g_getA (q2 := 69) 34 (gd rfl) rfl rfl rfl rfl rfl ?_
        refine g_iload 36 (gd rfl) rfl rfl ?_
        refine g_iaload 37 (gd rfl) rfl (n := 160) rfl (in_ix i5 rfl) (fun z7 e8 => ?_)
        have i9 := inv_I hI (n := 160) (t := 0) 0 31 rfl (in_ix i5 rfl) rfl e8
        refine g_laload 38 (gd rfl) rfl (n := 32) rfl (in_ix i9 rfl) (fun z10 e11 => ?_)
        refine g_aload_n 39 (gd rfl) rfl rfl ?_
        refine g_getA (q2 := 71) 42 (gd rfl) rfl rfl rfl rfl rfl ?_
        refine g_iload 44 (gd rfl) rfl rfl ?_
        refine g_iaload 45 (gd rfl) rfl (n := 160) rfl (in_ix i5 rfl) (fun z12 e13 => ?_)
        have i14 := inv_I hI (n := 160) (t := 0) (-1000000) 1000000 rfl (in_ix i5 rfl) rfl e13
        refine g_i2l 46 (gd rfl) rfl (fun z15 e16 => ?_)
        have i17 := l_i e16 i14
        refine g_ladd 47 (gd rfl) rfl (fun z18 e19 => ?_)
        refine g_aload_n 48 (gd rfl) rfl rfl ?_
        refine g_getA (q2 := 75) 51 (gd rfl) rfl rfl rfl rfl rfl ?_
        refine g_aload_n 52 (gd rfl) rfl rfl ?_
        refine g_getA (q2 := 70) 55 (gd rfl) rfl rfl rfl rfl rfl ?_
        refine g_iload 57 (gd rfl) rfl rfl ?_
        refine g_iaload 58 (gd rfl) rfl (n := 160) rfl (in_ix i5 rfl) (fun z20 e21 => ?_)
        have i22 := inv_I hI (n := 160) (t := 0) 0 31 rfl (in_ix i5 rfl) rfl e21
        refine g_laload 59 (gd rfl) rfl (n := 32) rfl (in_ix i22 rfl) (fun z23 e24 => ?_)
        refine g_lsub 60 (gd rfl) rfl (fun z25 e26 => ?_)
        refine g_lstore 62 (gd rfl) rfl (Nat.le_of_ble_eq_true rfl) ?_
        refine g_aload_n 63 (gd rfl) rfl rfl ?_
        refine g_getA (q2 := 72) 66 (gd rfl) rfl rfl rfl rfl rfl ?_
        refine g_iload 68 (gd rfl) rfl rfl ?_
        refine g_iaload 69 (gd rfl) rfl (n := 160) rfl (in_ix i5 rfl) (fun z27 e28 => ?_)
        have i29 := inv_I hI (n := 160) (t := 0) 0 1000000 rfl (in_ix i5 rfl) rfl e28
        refine g_aload_n 70 (gd rfl) rfl rfl ?_
        refine g_getA (q2 := 73) 73 (gd rfl) rfl rfl rfl rfl rfl ?_
        refine g_iload 75 (gd rfl) rfl rfl ?_
        refine g_iaload 76 (gd rfl) rfl (n := 160) rfl (in_ix i5 rfl) (fun z30 e31 => ?_)
        refine g_isub 77 (gd rfl) rfl (fun z32 e33 => ?_)
        refine g_istore 79 (gd rfl) rfl (Nat.le_of_ble_eq_true rfl) ?_
        refine g_lload 81 (gd rfl) rfl rfl ?_
        refine g_lconst 0 82 (gd rfl) rfl rfl ?_
        refine g_lcmp 83 (gd rfl) rfl (fun z34 e35 => ?_)
        have i36 := lc_in e35
        refine g_if_ge 86 103 (gd rfl) rfl rfl (fun c37 => ?_) (fun c37 => ?_)
        · skip
          have i38 := z_ge 0 1 c37 i36 rfl
          have c39 := lc_ge e35 c37
          have i40 := lr_le2 0 9223372036854775807 c39 (l_c 0 rfl) (l_rng z25) rfl
          refine g_lload 105 (gd rfl) rfl rfl ?_
          refine g_lconst 0 106 (gd rfl) rfl rfl ?_
          refine g_lcmp 107 (gd rfl) rfl (fun z41 e42 => ?_)
          have i43 := lc_in e42
          refine g_if_le 110 135 (gd rfl) rfl rfl (fun c44 => ?_) (fun c44 => ?_)
          · skip
            have i45 := z_le (-1) 0 c44 i43 rfl
            have c46 := lc_le e42 c44
            have i47 := lr_le1 0 0 c46 i40 (l_c 0 rfl) rfl
            refine g_iinc 138 (gd rfl) rfl rfl (Nat.le_of_ble_eq_true rfl) (fun z48 e49 => ?_)
            have i50 := in_add 1 160 e49 i5 (in_c 1 rfl) rfl rfl
            refine g_goto 17 (gd rfl) rfl ?_
            exact gg_w (by omega) (gg_f (gf_cons rfl (gf_cons rfl (gf_cons rfl (gf_cons rfl (gf_cons rfl gf_nil))))) (ih17 s z48 hI (in_w 0 160 i50 rfl) (m_up mm17 (t_add e49 i5 (in_c 1 rfl) rfl) (in_w 1 1 (in_c 1 rfl) rfl))))
          · skip
            have i51 := z_gt 1 1 c44 i43 rfl
            have c52 := lc_gt e42 c44
            have i53 := lr_lt2 1 9223372036854775807 c52 (l_c 0 rfl) i40 rfl
            refine g_aload_n 111 (gd rfl) rfl rfl ?_
            refine g_getA (q2 := 73) 114 (gd rfl) rfl rfl rfl rfl rfl ?_
            refine g_iload 116 (gd rfl) rfl rfl ?_
            refine g_iaload 117 (gd rfl) rfl (n := 160) rfl (in_ix i5 rfl) (fun z54 e55 => ?_)
            have q56 : z30 = z54 := (e31).trans e55.symm
            subst q56
            refine g_iload_n 118 (gd rfl) rfl rfl ?_
            refine g_cmp_lt 121 135 (gd rfl) rfl rfl (fun c57 => ?_) (fun c57 => ?_)
            · skip
              have i58 := r_lt1 (-2147483648) 65535 c57 (i_rng z30) h3 rfl
              refine g_iinc 138 (gd rfl) rfl rfl (Nat.le_of_ble_eq_true rfl) (fun z59 e60 => ?_)
              have i61 := in_add 1 160 e60 i5 (in_c 1 rfl) rfl rfl
              refine g_goto 17 (gd rfl) rfl ?_
              exact gg_w (by omega) (gg_f (gf_cons rfl (gf_cons rfl (gf_cons rfl (gf_cons rfl (gf_cons rfl gf_nil))))) (ih17 s z59 hI (in_w 0 160 i61 rfl) (m_up mm17 (t_add e60 i5 (in_c 1 rfl) rfl) (in_w 1 1 (in_c 1 rfl) rfl))))
            · skip
              have i62 := r_le2 1 2147483647 c57 h3 (i_rng z30) rfl
              refine g_aload_n 122 (gd rfl) rfl rfl ?_
              refine g_iload 124 (gd rfl) rfl rfl ?_
              refine g_aload_n 125 (gd rfl) rfl rfl ?_
              refine g_getA (q2 := 73) 128 (gd rfl) rfl rfl rfl rfl rfl ?_
              refine g_iload 130 (gd rfl) rfl rfl ?_
              refine g_iaload 131 (gd rfl) rfl (n := 160) rfl (in_ix i5 rfl) (fun z63 e64 => ?_)
              have q65 : z30 = z63 := (e31).trans e64.symm
              subst q65
              refine g_ineg 132 (gd rfl) rfl (fun z66 e67 => ?_)
              have i68 := in_neg (-2147483647) (-1) e67 i62 rfl
              refine g_callv (X := _) (As := [.int y17_4, .int z66]) (r := []) (b := A 65) (q := 65) 135 (gd rfl) rfl rfl rfl rfl rfl (ww_o rfl) (Nat.le_of_ble_eq_true rfl) (mc := 0) (ms := 0) (Nat.zero_le _) (Nat.zero_le _) (P := fun v u => _) ?_ (fun e u h => h) (fun v u h => h)
              intro po69 xx70 hp71 hx72
              refine g_enter2 (k := 82) (N := 300) (by omega) rfl (Nat.le_of_ble_eq_true rfl) ?_
              refine g_aload_n 1 (gd rfl) rfl rfl ?_
              refine g_getA (q2 := 73) 4 (gd rfl) rfl rfl rfl rfl rfl ?_
              refine g_iload_n 5 (gd rfl) rfl rfl ?_
              refine g_dup2 6 (gd rfl) rfl rfl rfl ?_
              refine g_iaload 7 (gd rfl) rfl (n := 160) rfl (in_ix i5 rfl) (fun z73 e74 => ?_)
              have q75 : z30 = z73 := (e31).trans e74.symm
              subst q75
              refine g_iload_n 8 (gd rfl) rfl rfl ?_
              refine g_iadd 9 (gd rfl) rfl (fun z76 e77 => ?_)
              have i78 := in_add (-2147483646) 2147483646 e77 i62 i68 rfl rfl
              refine g_iastore 10 (gd rfl) rfl (n := 160) rfl (in_ix i5 rfl) ?_
              have hI79 := inv_sI (q := 73) (j := y17_4.toNatClampNeg) hI rfl (in_w (-2147483648) 2147483647 i78 rfl)
              refine g_aload_n 11 (gd rfl) rfl rfl ?_
              refine g_getA (q2 := 74) 14 (gd rfl) rfl rfl rfl rfl rfl ?_
              refine g_aload_n 15 (gd rfl) rfl rfl ?_
              refine g_getA (q2 := 70) 18 (gd rfl) rfl rfl rfl rfl rfl ?_
              refine g_iload_n 19 (gd rfl) rfl rfl ?_
              refine g_iaload 20 (gd rfl) rfl (n := 160) rfl (in_ix i5 rfl) (fun z80 e81 => ?_)
              have q82 : z20 = z80 := (sI_ne rfl (e21)).trans e81.symm
              subst q82
              refine g_dup2 21 (gd rfl) rfl rfl rfl ?_
              refine g_iaload 22 (gd rfl) rfl (n := 32) rfl (in_ix i22 rfl) (fun z83 e84 => ?_)
              refine g_iload_n 23 (gd rfl) rfl rfl ?_
              refine g_iadd 24 (gd rfl) rfl (fun z85 e86 => ?_)
              refine g_iastore 25 (gd rfl) rfl (n := 32) rfl (in_ix i22 rfl) ?_
              have hI87 := inv_sI (q := 74) (j := z20.toNatClampNeg) hI79 rfl (in_w (-2147483648) 2147483647 (i_rng z85) rfl)
              refine g_aload_n 26 (gd rfl) rfl rfl ?_
              refine g_getA (q2 := 74) 29 (gd rfl) rfl rfl rfl rfl rfl ?_
              refine g_aload_n 30 (gd rfl) rfl rfl ?_
              refine g_getA (q2 := 69) 33 (gd rfl) rfl rfl rfl rfl rfl ?_
              refine g_iload_n 34 (gd rfl) rfl rfl ?_
              refine g_iaload 35 (gd rfl) rfl (n := 160) rfl (in_ix i5 rfl) (fun z88 e89 => ?_)
              have q90 : z7 = z88 := (sI_ne rfl (sI_ne rfl (e8))).trans e89.symm
              subst q90
              refine g_dup2 36 (gd rfl) rfl rfl rfl ?_
              refine g_iaload 37 (gd rfl) rfl (n := 32) rfl (in_ix i9 rfl) (fun z91 e92 => ?_)
              refine g_iload_n 38 (gd rfl) rfl rfl ?_
              refine g_isub 39 (gd rfl) rfl (fun z93 e94 => ?_)
              refine g_iastore 40 (gd rfl) rfl (n := 32) rfl (in_ix i9 rfl) ?_
              have hI95 := inv_sI (q := 74) (j := z7.toNatClampNeg) hI87 rfl (in_w (-2147483648) 2147483647 (i_rng z93) rfl)
              refine g_return (gd rfl) rfl (hp71 _ _ ?_)
              show GG _ _ _ _ _ _ _ _ [] _ _ _
              refine g_iinc 138 (gd rfl) rfl rfl (Nat.le_of_ble_eq_true rfl) (fun z96 e97 => ?_)
              have i98 := in_add 1 160 e97 i5 (in_c 1 rfl) rfl rfl
              refine g_goto 17 (gd rfl) rfl ?_
              exact gg_w (by omega) (gg_f (gf_cons rfl (gf_cons rfl (gf_cons rfl (gf_cons rfl (gf_cons rfl gf_nil))))) (ih17 (sI (sI (sI s 73 y17_4.toNatClampNeg z76) 74 z20.toNatClampNeg z85) 74 z7.toNatClampNeg z93) z96 hI95 (in_w 0 160 i98 rfl) (m_up mm17 (t_add e97 i5 (in_c 1 rfl) rfl) (in_w 1 1 (in_c 1 rfl) rfl))))
        · skip
          have i99 := z_lt (-1) (-1) c37 i36 rfl
          have c100 := lc_lt e35 c37
          have i101 := lr_lt1 (-9223372036854775808) (-1) c100 (l_rng z25) (l_c 0 rfl) rfl
          refine g_iload 88 (gd rfl) rfl rfl ?_
          refine g_iload_n 89 (gd rfl) rfl rfl ?_
          refine g_cmp_lt 92 103 (gd rfl) rfl rfl (fun c102 => ?_) (fun c102 => ?_)
          · skip
            have i103 := r_lt1 (-2147483648) 65535 c102 (i_rng z32) h3 rfl
            refine g_lload 105 (gd rfl) rfl rfl ?_
            refine g_lconst 0 106 (gd rfl) rfl rfl ?_
            refine g_lcmp 107 (gd rfl) rfl (fun z104 e105 => ?_)
            have i106 := lc_in e105
            refine g_if_le 110 135 (gd rfl) rfl rfl (fun c107 => ?_) (fun c107 => ?_)
            · skip
              have i108 := z_le (-1) 0 c107 i106 rfl
              have c109 := lc_le e105 c107
              refine g_iinc 138 (gd rfl) rfl rfl (Nat.le_of_ble_eq_true rfl) (fun z110 e111 => ?_)
              have i112 := in_add 1 160 e111 i5 (in_c 1 rfl) rfl rfl
              refine g_goto 17 (gd rfl) rfl ?_
              exact gg_w (by omega) (gg_f (gf_cons rfl (gf_cons rfl (gf_cons rfl (gf_cons rfl (gf_cons rfl gf_nil))))) (ih17 s z110 hI (in_w 0 160 i112 rfl) (m_up mm17 (t_add e111 i5 (in_c 1 rfl) rfl) (in_w 1 1 (in_c 1 rfl) rfl))))
            · skip
              have i113 := z_gt 1 1 c107 i106 rfl
              have c114 := lc_gt e105 c107
              exact ln_lt c114 (l_c 0 rfl) i101 rfl
          · skip
            have i115 := r_le2 1 2147483647 c102 h3 (i_rng z32) rfl
            refine g_aload_n 93 (gd rfl) rfl rfl ?_
            refine g_iload 95 (gd rfl) rfl rfl ?_
            refine g_iload 97 (gd rfl) rfl rfl ?_
            refine g_callv (X := _) (As := [.int y17_4, .int z32]) (r := []) (b := A 65) (q := 65) 100 (gd rfl) rfl rfl rfl rfl rfl (ww_o rfl) (Nat.le_of_ble_eq_true rfl) (mc := 0) (ms := 0) (Nat.zero_le _) (Nat.zero_le _) (P := fun v u => _) ?_ (fun e u h => h) (fun v u h => h)
            intro po116 xx117 hp118 hx119
            refine g_enter2 (k := 82) (N := 300) (by omega) rfl (Nat.le_of_ble_eq_true rfl) ?_
            refine g_aload_n 1 (gd rfl) rfl rfl ?_
            refine g_getA (q2 := 73) 4 (gd rfl) rfl rfl rfl rfl rfl ?_
            refine g_iload_n 5 (gd rfl) rfl rfl ?_
            refine g_dup2 6 (gd rfl) rfl rfl rfl ?_
            refine g_iaload 7 (gd rfl) rfl (n := 160) rfl (in_ix i5 rfl) (fun z120 e121 => ?_)
            have q122 : z30 = z120 := (e31).trans e121.symm
            subst q122
            refine g_iload_n 8 (gd rfl) rfl rfl ?_
            refine g_iadd 9 (gd rfl) rfl (fun z123 e124 => ?_)
            refine g_iastore 10 (gd rfl) rfl (n := 160) rfl (in_ix i5 rfl) ?_
            have hI125 := inv_sI (q := 73) (j := y17_4.toNatClampNeg) hI rfl (in_w (-2147483648) 2147483647 (i_rng z123) rfl)
            refine g_aload_n 11 (gd rfl) rfl rfl ?_
            refine g_getA (q2 := 74) 14 (gd rfl) rfl rfl rfl rfl rfl ?_
            refine g_aload_n 15 (gd rfl) rfl rfl ?_
            refine g_getA (q2 := 70) 18 (gd rfl) rfl rfl rfl rfl rfl ?_
            refine g_iload_n 19 (gd rfl) rfl rfl ?_
            refine g_iaload 20 (gd rfl) rfl (n := 160) rfl (in_ix i5 rfl) (fun z126 e127 => ?_)
            have q128 : z20 = z126 := (sI_ne rfl (e21)).trans e127.symm
            subst q128
            refine g_dup2 21 (gd rfl) rfl rfl rfl ?_
            refine g_iaload 22 (gd rfl) rfl (n := 32) rfl (in_ix i22 rfl) (fun z129 e130 => ?_)
            refine g_iload_n 23 (gd rfl) rfl rfl ?_
            refine g_iadd 24 (gd rfl) rfl (fun z131 e132 => ?_)
            refine g_iastore 25 (gd rfl) rfl (n := 32) rfl (in_ix i22 rfl) ?_
            have hI133 := inv_sI (q := 74) (j := z20.toNatClampNeg) hI125 rfl (in_w (-2147483648) 2147483647 (i_rng z131) rfl)
            refine g_aload_n 26 (gd rfl) rfl rfl ?_
            refine g_getA (q2 := 74) 29 (gd rfl) rfl rfl rfl rfl rfl ?_
            refine g_aload_n 30 (gd rfl) rfl rfl ?_
            refine g_getA (q2 := 69) 33 (gd rfl) rfl rfl rfl rfl rfl ?_
            refine g_iload_n 34 (gd rfl) rfl rfl ?_
            refine g_iaload 35 (gd rfl) rfl (n := 160) rfl (in_ix i5 rfl) (fun z134 e135 => ?_)
            have q136 : z7 = z134 := (sI_ne rfl (sI_ne rfl (e8))).trans e135.symm
            subst q136
            refine g_dup2 36 (gd rfl) rfl rfl rfl ?_
            refine g_iaload 37 (gd rfl) rfl (n := 32) rfl (in_ix i9 rfl) (fun z137 e138 => ?_)
            refine g_iload_n 38 (gd rfl) rfl rfl ?_
            refine g_isub 39 (gd rfl) rfl (fun z139 e140 => ?_)
            refine g_iastore 40 (gd rfl) rfl (n := 32) rfl (in_ix i9 rfl) ?_
            have hI141 := inv_sI (q := 74) (j := z7.toNatClampNeg) hI133 rfl (in_w (-2147483648) 2147483647 (i_rng z139) rfl)
            refine g_return (gd rfl) rfl (hp118 _ _ ?_)
            show GG _ _ _ _ _ _ _ _ [] _ _ _
            refine g_goto 135 (gd rfl) rfl ?_
            refine g_iinc 138 (gd rfl) rfl rfl (Nat.le_of_ble_eq_true rfl) (fun z142 e143 => ?_)
            have i144 := in_add 1 160 e143 i5 (in_c 1 rfl) rfl rfl
            refine g_goto 17 (gd rfl) rfl ?_
            exact gg_w (by omega) (gg_f (gf_cons rfl (gf_cons rfl (gf_cons rfl (gf_cons rfl (gf_cons rfl gf_nil))))) (ih17 (sI (sI (sI s 73 y17_4.toNatClampNeg z123) 74 z20.toNatClampNeg z131) 74 z7.toNatClampNeg z139) z142 hI141 (in_w 0 160 i144 rfl) (m_up mm17 (t_add e143 i5 (in_c 1 rfl) rfl) (in_w 1 1 (in_c 1 rfl) rfl))))
  refine g_enter2 (k := 81) (N := 145801) (by omega) rfl (Nat.le_of_ble_eq_true rfl) ?_
  refine g_aload_n 1 (gd rfl) rfl rfl ?_
  refine g_getA (q2 := 75) 4 (gd rfl) rfl rfl rfl rfl rfl ?_
  refine g_lconst 0 5 (gd rfl) rfl rfl ?_
  refine g_calls (As := [.ref (A 75), .long (Int64.ofInt 0)]) (r := []) 8 (gd rfl) rfl rfl rfl rfl rfl (Nat.le_of_ble_eq_true rfl) (Nat.zero_le _) (Nat.zero_le _) (k_fillL 75 (by omega) hI (n := 32) rfl rfl) (fun v u h => ?_)
  obtain ⟨s145, hI146, rfl, rfl⟩ := h
  show GG _ _ _ _ _ _ _ _ [] _ _ _
  refine g_aload_n 9 (gd rfl) rfl rfl ?_
  refine g_iload_n 10 (gd rfl) rfl rfl ?_
  refine g_iload_n 11 (gd rfl) rfl rfl ?_
  refine g_callv (X := _) (As := [.int x1, .int x2]) (r := []) (b := A 65) (q := 65) 14 (gd rfl) rfl rfl rfl rfl rfl (ww_o rfl) (Nat.le_of_ble_eq_true rfl) (Nat.zero_le _) (Nat.zero_le _) (k_86_65 (by omega) hI146 (in_w 0 32 h1 rfl) (in_w 1 1048576 h2 rfl)) (fun e u h => h) (fun v u h => ?_)
  obtain ⟨s147, hI148, rfl, rfl⟩ := h
  show GG _ _ _ _ _ _ _ _ [] _ _ _
  refine g_iconst 0 15 (gd rfl) rfl rfl ?_
  refine g_istore 17 (gd rfl) rfl (Nat.le_of_ble_eq_true rfl) ?_
  exact gg_w (by omega) (gg_f (gf_cons rfl (gf_cons rfl (gf_cons rfl (gf_cons rfl (gf_cons rfl gf_nil))))) (ct17 161 s147 (Int32.ofInt 0) hI148 (in_w 0 160 (in_c 0 rfl) rfl) (m_in 161 (in_w 0 160 (in_c 0 rfl) rfl) rfl)))

/-- GraphHouse$Flows.nearestLack -/
theorem k_85_65 {Z : AmZ} {A : Nat → Nat} {s : GS} {ex : va_W} {d : Nat} {X : AmX} {x1 : Int32} {x2 : Int32} (hd : 3 ≤ d) (hI : Inv s) (h1 : In x1 0 32) (h2 : In x2 1 65536) : GC Z d 85 [.ref (A 65), .int x1, .int x2] (WW Z A s ++ ex) 0 0 (fun v u => ∃ t : GS, Inv t ∧ ∃ z : Int32, v = some (.int z) ∧ u = WW Z A t ++ ex ∧ In z (-1) 31) X := by
  intro post xp hP hX
  have ct54 : ∀ (k54 : Nat) (s : GS) (y54_3 : Int32) (y54_4 : Int32), Inv s → In y54_3 (-1) 31 → In y54_4 0 32 → 32 - (y54_4).toInt < (k54 : Int) → GG Z (d - 1) 85 post (gx xp) (1 + k54 * 900) 54 (fun j => xlook j [(0, .ref (A 65)), (1, .int x1), (2, .int x2), (3, .int y54_3), (4, .int y54_4)]) [] (WW Z A s ++ ex) 0 0 := by
    intro k54
    induction k54 with
    | zero => intro s y54_3 y54_4 hI j54_3 j54_4 mm54; exact m_no mm54 j54_4 rfl
    | succ k54 ih54 =>
      intro s y54_3 y54_4 hI j54_3 j54_4 mm54
      refine gg_w (M := 1 + k54 * 900 + 900) (by omega) ?_
      refine g_iload 56 (gd rfl) rfl rfl ?_
      refine g_iload_n 57 (gd rfl) rfl rfl ?_
      refine g_cmp_ge 60 117 (gd rfl) rfl rfl (fun c1 => ?_) (fun c1 => ?_)
      · skip
        refine g_iload_n 118 (gd rfl) rfl rfl ?_
        exact g_ireturn (gd rfl) rfl rfl (hP _ _ ⟨s, hI, y54_3, rfl, rfl, in_w (-1) 31 j54_3 rfl⟩)
      · skip
        have i2 := r_lt1 0 31 c1 j54_4 h1 rfl
        have i3 := r_lt2 1 32 c1 j54_4 h1 rfl
        refine g_aload_n 61 (gd rfl) rfl rfl ?_
        refine g_getA (q2 := 74) 64 (gd rfl) rfl rfl rfl rfl rfl ?_
        refine g_iload 66 (gd rfl) rfl rfl ?_
        refine g_iaload 67 (gd rfl) rfl (n := 32) rfl (in_ix i2 rfl) (fun z4 e5 => ?_)
        refine g_iload_n 68 (gd rfl) rfl rfl ?_
        refine g_ineg 69 (gd rfl) rfl (fun z6 e7 => ?_)
        have i8 := in_neg (-65536) (-1) e7 h2 rfl
        refine g_cmp_gt 72 111 (gd rfl) rfl rfl (fun c9 => ?_) (fun c9 => ?_)
        · skip
          have i10 := r_lt2 (-65535) 2147483647 c9 i8 (i_rng z4) rfl
          refine g_iinc 114 (gd rfl) rfl rfl (Nat.le_of_ble_eq_true rfl) (fun z11 e12 => ?_)
          have i13 := in_add 1 32 e12 i2 (in_c 1 rfl) rfl rfl
          refine g_goto 54 (gd rfl) rfl ?_
          exact gg_w (by omega) (gg_f (gf_cons rfl (gf_cons rfl (gf_cons rfl (gf_cons rfl (gf_cons rfl gf_nil))))) (ih54 s y54_3 z11 hI (in_w (-1) 31 j54_3 rfl) (in_w 0 32 i13 rfl) (m_up mm54 (t_add e12 i2 (in_c 1 rfl) rfl) (in_w 1 1 (in_c 1 rfl) rfl))))
        · skip
          have i14 := r_le1 (-2147483648) (-1) c9 (i_rng z4) i8 rfl
          refine g_aload_n 73 (gd rfl) rfl rfl ?_
          refine g_getA (q2 := 75) 76 (gd rfl) rfl rfl rfl rfl rfl ?_
          refine g_iload 78 (gd rfl) rfl rfl ?_
          refine g_laload 79 (gd rfl) rfl (n := 32) rfl (in_ix i2 rfl) (fun z15 e16 => ?_)
          refine g_ldc2_w 9223372036854775807 82 (gd rfl) rfl rfl ?_
          refine g_lcmp 83 (gd rfl) rfl (fun z17 e18 => ?_)
          have i19 := lc_in e18
          refine g_if_eq 86 111 (gd rfl) rfl rfl (fun c20 => ?_) (fun c20 => ?_)
          · skip
            have i21 := z_eq 0 0 c20 i19 rfl
            have c22 := lc_eq e18 c20
            have i23 := lr_eq1 9223372036854775807 9223372036854775807 c22 (l_rng z15) (l_c 9223372036854775807 rfl) rfl
            refine g_iinc 114 (gd rfl) rfl rfl (Nat.le_of_ble_eq_true rfl) (fun z24 e25 => ?_)
            have i26 := in_add 1 32 e25 i2 (in_c 1 rfl) rfl rfl
            refine g_goto 54 (gd rfl) rfl ?_
            exact gg_w (by omega) (gg_f (gf_cons rfl (gf_cons rfl (gf_cons rfl (gf_cons rfl (gf_cons rfl gf_nil))))) (ih54 s y54_3 z24 hI (in_w (-1) 31 j54_3 rfl) (in_w 0 32 i26 rfl) (m_up mm54 (t_add e25 i2 (in_c 1 rfl) rfl) (in_w 1 1 (in_c 1 rfl) rfl))))
          · skip
            have c27 := lc_ne e18 c20
            have i28 := lr_ne1 (-9223372036854775808) 9223372036854775806 c27 (l_rng z15) (l_c 9223372036854775807 rfl) rfl
            refine g_iload_n 87 (gd rfl) rfl rfl ?_
            refine g_iconst (-1) 88 (gd rfl) rfl rfl ?_
            refine g_cmp_eq 91 108 (gd rfl) rfl rfl (fun c29 => ?_) (fun c29 => ?_)
            · skip
              have i30 := r_eq1 (-1) (-1) c29 j54_3 (in_c (-1) rfl) rfl
              refine g_iload 110 (gd rfl) rfl rfl ?_
              refine g_istore_n 111 (gd rfl) rfl (Nat.le_of_ble_eq_true rfl) ?_
              refine g_iinc 114 (gd rfl) rfl rfl (Nat.le_of_ble_eq_true rfl) (fun z31 e32 => ?_)
              have i33 := in_add 1 32 e32 i2 (in_c 1 rfl) rfl rfl
              refine g_goto 54 (gd rfl) rfl ?_
              exact gg_w (by omega) (gg_f (gf_cons rfl (gf_cons rfl (gf_cons rfl (gf_cons rfl (gf_cons rfl gf_nil))))) (ih54 s y54_4 z31 hI (in_w (-1) 31 i2 rfl) (in_w 0 32 i33 rfl) (m_up mm54 (t_add e32 i2 (in_c 1 rfl) rfl) (in_w 1 1 (in_c 1 rfl) rfl))))
            · skip
              have i34 := r_ne1 0 31 c29 j54_3 (in_c (-1) rfl) rfl
              refine g_aload_n 92 (gd rfl) rfl rfl ?_
              refine g_getA (q2 := 75) 95 (gd rfl) rfl rfl rfl rfl rfl ?_
              refine g_iload 97 (gd rfl) rfl rfl ?_
              refine g_laload 98 (gd rfl) rfl (n := 32) rfl (in_ix i2 rfl) (fun z35 e36 => ?_)
              refine g_aload_n 99 (gd rfl) rfl rfl ?_
              refine g_getA (q2 := 75) 102 (gd rfl) rfl rfl rfl rfl rfl ?_
              refine g_iload_n 103 (gd rfl) rfl rfl ?_
              refine g_laload 104 (gd rfl) rfl (n := 32) rfl (in_ix i34 rfl) (fun z37 e38 => ?_)
              refine g_lcmp 105 (gd rfl) rfl (fun z39 e40 => ?_)
              have i41 := lc_in e40
              refine g_if_ge 108 111 (gd rfl) rfl rfl (fun c42 => ?_) (fun c42 => ?_)
              · skip
                have i43 := z_ge 0 1 c42 i41 rfl
                have c44 := lc_ge e40 c42
                refine g_iinc 114 (gd rfl) rfl rfl (Nat.le_of_ble_eq_true rfl) (fun z45 e46 => ?_)
                have i47 := in_add 1 32 e46 i2 (in_c 1 rfl) rfl rfl
                refine g_goto 54 (gd rfl) rfl ?_
                exact gg_w (by omega) (gg_f (gf_cons rfl (gf_cons rfl (gf_cons rfl (gf_cons rfl (gf_cons rfl gf_nil))))) (ih54 s y54_3 z45 hI (in_w (-1) 31 i34 rfl) (in_w 0 32 i47 rfl) (m_up mm54 (t_add e46 i2 (in_c 1 rfl) rfl) (in_w 1 1 (in_c 1 rfl) rfl))))
              · skip
                have i48 := z_lt (-1) (-1) c42 i41 rfl
                have c49 := lc_lt e40 c42
                have i50 := lr_lt1 (-9223372036854775808) 9223372036854775806 c49 (l_rng z35) (l_rng z37) rfl
                have i51 := lr_lt2 (-9223372036854775807) 9223372036854775807 c49 (l_rng z35) (l_rng z37) rfl
                refine g_iload 110 (gd rfl) rfl rfl ?_
                refine g_istore_n 111 (gd rfl) rfl (Nat.le_of_ble_eq_true rfl) ?_
                refine g_iinc 114 (gd rfl) rfl rfl (Nat.le_of_ble_eq_true rfl) (fun z52 e53 => ?_)
                have i54 := in_add 1 32 e53 i2 (in_c 1 rfl) rfl rfl
                refine g_goto 54 (gd rfl) rfl ?_
                exact gg_w (by omega) (gg_f (gf_cons rfl (gf_cons rfl (gf_cons rfl (gf_cons rfl (gf_cons rfl gf_nil))))) (ih54 s y54_4 z52 hI (in_w (-1) 31 i2 rfl) (in_w 0 32 i54 rfl) (m_up mm54 (t_add e53 i2 (in_c 1 rfl) rfl) (in_w 1 1 (in_c 1 rfl) rfl))))
  have ct2 : ∀ (k2 : Nat) (s : GS) (y2_3 : Int32), Inv s → In y2_3 0 32 → 32 - (y2_3).toInt < (k2 : Int) → GG Z (d - 1) 85 post (gx xp) (29702 + k2 * 900) 2 (fun j => xlook j [(0, .ref (A 65)), (1, .int x1), (2, .int x2), (3, .int y2_3)]) [] (WW Z A s ++ ex) 0 0 := by
    intro k2
    induction k2 with
    | zero => intro s y2_3 hI j2_3 mm2; exact m_no mm2 j2_3 rfl
    | succ k2 ih2 =>
      intro s y2_3 hI j2_3 mm2
      refine gg_w (M := 29702 + k2 * 900 + 900) (by omega) ?_
      refine g_iload_n 3 (gd rfl) rfl rfl ?_
      refine g_iload_n 4 (gd rfl) rfl rfl ?_
      refine g_cmp_ge 7 43 (gd rfl) rfl rfl (fun c55 => ?_) (fun c55 => ?_)
      · skip
        refine g_aload_n 44 (gd rfl) rfl rfl ?_
        refine g_iload_n 45 (gd rfl) rfl rfl ?_
        refine g_iload_n 46 (gd rfl) rfl rfl ?_
        refine g_callv (X := _) (As := [.int x1, .int x2]) (r := []) (b := A 65) (q := 65) 49 (gd rfl) rfl rfl rfl rfl rfl (ww_o rfl) (Nat.le_of_ble_eq_true rfl) (Nat.zero_le _) (Nat.zero_le _) (k_86_65 (by omega) hI (in_w 0 32 h1 rfl) (in_w 1 1048576 h2 rfl)) (fun e u h => h) (fun v u h => ?_)
        obtain ⟨s56, hI57, rfl, rfl⟩ := h
        show GG _ _ _ _ _ _ _ _ [] _ _ _
        refine g_iconst (-1) 50 (gd rfl) rfl rfl ?_
        refine g_istore_n 51 (gd rfl) rfl (Nat.le_of_ble_eq_true rfl) ?_
        refine g_iconst 0 52 (gd rfl) rfl rfl ?_
        refine g_istore 54 (gd rfl) rfl (Nat.le_of_ble_eq_true rfl) ?_
        exact gg_w (by omega) (gg_f (gf_cons rfl (gf_cons rfl (gf_cons rfl (gf_cons rfl (gf_cons rfl gf_nil))))) (ct54 33 s56 (Int32.ofInt (-1)) (Int32.ofInt 0) hI57 (in_w (-1) 31 (in_c (-1) rfl) rfl) (in_w 0 32 (in_c 0 rfl) rfl) (m_in 33 (in_w 0 32 (in_c 0 rfl) rfl) rfl)))
      · skip
        have i60 := r_lt1 0 31 c55 j2_3 h1 rfl
        have i61 := r_lt2 1 32 c55 j2_3 h1 rfl
        refine g_aload_n 8 (gd rfl) rfl rfl ?_
        refine g_getA (q2 := 75) 11 (gd rfl) rfl rfl rfl rfl rfl ?_
        refine g_iload_n 12 (gd rfl) rfl rfl ?_
        refine g_aload_n 13 (gd rfl) rfl rfl ?_
        refine g_getA (q2 := 74) 16 (gd rfl) rfl rfl rfl rfl rfl ?_
        refine g_iload_n 17 (gd rfl) rfl rfl ?_
        refine g_iaload 18 (gd rfl) rfl (n := 32) rfl (in_ix i60 rfl) (fun z62 e63 => ?_)
        refine g_iload_n 19 (gd rfl) rfl rfl ?_
        refine g_cmp_lt 22 26 (gd rfl) rfl rfl (fun c64 => ?_) (fun c64 => ?_)
        · skip
          have i65 := r_lt1 (-2147483648) 65535 c64 (i_rng z62) h2 rfl
          refine g_ldc2_w 9223372036854775807 29 (gd rfl) rfl rfl ?_
          refine g_lastore 30 (gd rfl) rfl (n := 32) rfl (in_ix i60 rfl) ?_
          have hI66 := inv_sL (q := 75) (j := y2_3.toNatClampNeg) (x := (Int64.ofInt 9223372036854775807)) hI
          refine g_aload_n 31 (gd rfl) rfl rfl ?_
          refine g_getA (q2 := 68) 34 (gd rfl) rfl rfl rfl rfl rfl ?_
          refine g_iload_n 35 (gd rfl) rfl rfl ?_
          refine g_iconst (-1) 36 (gd rfl) rfl rfl ?_
          refine g_iastore 37 (gd rfl) rfl (n := 32) rfl (in_ix i60 rfl) ?_
          have hI67 := inv_sI (q := 68) (j := y2_3.toNatClampNeg) hI66 rfl (in_w (-1) 319 (in_c (-1) rfl) rfl)
          refine g_iinc 40 (gd rfl) rfl rfl (Nat.le_of_ble_eq_true rfl) (fun z68 e69 => ?_)
          have i70 := in_add 1 32 e69 i60 (in_c 1 rfl) rfl rfl
          refine g_goto 2 (gd rfl) rfl ?_
          exact gg_w (by omega) (gg_f (gf_cons rfl (gf_cons rfl (gf_cons rfl (gf_cons rfl gf_nil)))) (ih2 (sI (sL s 75 y2_3.toNatClampNeg (Int64.ofInt 9223372036854775807)) 68 y2_3.toNatClampNeg (Int32.ofInt (-1))) z68 hI67 (in_w 0 32 i70 rfl) (m_up mm2 (t_add e69 i60 (in_c 1 rfl) rfl) (in_w 1 1 (in_c 1 rfl) rfl))))
        · skip
          have i71 := r_le2 1 2147483647 c64 h2 (i_rng z62) rfl
          refine g_lconst 0 23 (gd rfl) rfl rfl ?_
          refine g_goto 29 (gd rfl) rfl ?_
          refine g_lastore 30 (gd rfl) rfl (n := 32) rfl (in_ix i60 rfl) ?_
          have hI72 := inv_sL (q := 75) (j := y2_3.toNatClampNeg) (x := (Int64.ofInt 0)) hI
          refine g_aload_n 31 (gd rfl) rfl rfl ?_
          refine g_getA (q2 := 68) 34 (gd rfl) rfl rfl rfl rfl rfl ?_
          refine g_iload_n 35 (gd rfl) rfl rfl ?_
          refine g_iconst (-1) 36 (gd rfl) rfl rfl ?_
          refine g_iastore 37 (gd rfl) rfl (n := 32) rfl (in_ix i60 rfl) ?_
          have hI73 := inv_sI (q := 68) (j := y2_3.toNatClampNeg) hI72 rfl (in_w (-1) 319 (in_c (-1) rfl) rfl)
          refine g_iinc 40 (gd rfl) rfl rfl (Nat.le_of_ble_eq_true rfl) (fun z74 e75 => ?_)
          have i76 := in_add 1 32 e75 i60 (in_c 1 rfl) rfl rfl
          refine g_goto 2 (gd rfl) rfl ?_
          exact gg_w (by omega) (gg_f (gf_cons rfl (gf_cons rfl (gf_cons rfl (gf_cons rfl gf_nil)))) (ih2 (sI (sL s 75 y2_3.toNatClampNeg (Int64.ofInt 0)) 68 y2_3.toNatClampNeg (Int32.ofInt (-1))) z74 hI73 (in_w 0 32 i76 rfl) (m_up mm2 (t_add e75 i60 (in_c 1 rfl) rfl) (in_w 1 1 (in_c 1 rfl) rfl))))
  refine g_enter2 (k := 85) (N := 60302) (by omega) rfl (Nat.le_of_ble_eq_true rfl) ?_
  refine g_iconst 0 1 (gd rfl) rfl rfl ?_
  refine g_istore_n 2 (gd rfl) rfl (Nat.le_of_ble_eq_true rfl) ?_
  exact gg_w (by omega) (gg_f (gf_cons rfl (gf_cons rfl (gf_cons rfl (gf_cons rfl gf_nil)))) (ct2 33 s (Int32.ofInt 0) hI (in_w 0 32 (in_c 0 rfl) rfl) (m_in 33 (in_w 0 32 (in_c 0 rfl) rfl) rfl)))
