/-! methods, by vc.py -/
def fm_110_86_2 : FM := ([], [87, 88], [], [])
/-- GraphHouse$Groups.shareOut -/
theorem k_110_86_2 {Z : AmZ} {A : Nat → Nat} {s : GS} {ex : va_W} {d : Nat} {X : AmX} {u_2_4 : Int32} {u_2_0 : Int32} (hd : 3 ≤ d) (hI : Inv s) (e_2_4 : u_2_4 = s.2.2.1 2 4) (e_2_0 : u_2_0 = s.2.2.1 2 0) (p_0 : (u_2_4).toInt = (u_2_0).toInt) : GC Z d 110 [.ref (A 86), .ref (A 2)] (WW Z A s ++ ex) 0 0 (fun v u => ∃ xa ya : Nat, ∃ t : GS, Inv t ∧ Fr fm_110_86_2 s t ∧ v = none ∧ u = WW Z (a2 A xa ya) t ++ ex) X := by
  intro post xp hP hX
  obtain ⟨u_2_1, e_2_1⟩ : ∃ w, w = s.2.2.1 2 1 := ⟨_, rfl⟩
  have ro_2_1 := inv_F hI 0 32 rfl e_2_1
  have ro_2_4 := inv_F hI (-1) 4000 rfl e_2_4
  have ro_2_0 := inv_F hI 0 4000 rfl e_2_0
  have ct137 : ∀ (k137 : Nat) (sc137 : GS) (y137_2 : Int64) (y137_4 : Int32) (w137_2_4 : Int32) (w137_2_0 : Int32), Inv sc137 → Fr fm_110_86_2 s sc137 → (In y137_4 0 32) → (w137_2_4 = sc137.2.2.1 2 4) → (w137_2_0 = sc137.2.2.1 2 0) → ((w137_2_4).toInt = (w137_2_0).toInt) → 32 - (y137_4).toInt < (k137 : Int) → GG Z (d - 1) 110 post (gx xp) (1 + k137 * 900) 137 (fun j => xlook j [(0, .ref (A 86)), (1, .ref (A 2)), (2, .long y137_2), (4, .int y137_4)]) [] (WW Z A sc137 ++ ex) 0 0 := by
    intro k137
    induction k137 with
    | zero => intro sc137 y137_2 y137_4 w137_2_4 w137_2_0 hIc137 hFc137 j137_4 v137_2_4 v137_2_0 n137_0 mm137; exact m_no mm137 j137_4 rfl
    | succ k137 ih137 =>
      intro sc137 y137_2 y137_4 w137_2_4 w137_2_0 hIc137 hFc137 j137_4 v137_2_4 v137_2_0 n137_0 mm137
      refine gg_w (M := 1 + k137 * 900 + 900) (by omega) ?_
      refine g_iload 139 (gd rfl) rfl rfl ?_
      refine g_aload_n 140 (gd rfl) rfl rfl ?_
      refine g_getI 143 (gd rfl) rfl rfl rfl (fun z140 e140 => ?_)
      have q140 : u_2_1 = z140 := (fr_F e_2_1 hFc137 rfl).trans e140.symm
      subst q140
      refine g_cmp_ge 146 189 (gd rfl) rfl rfl (fun c143 => ?_) (fun c143 => ?_)
      · skip
        refine g_aload_n 190 (gd rfl) rfl rfl ?_
        refine g_getA (q2 := 87) 193 (gd rfl) rfl rfl rfl rfl ?_
        refine g_astore 195 (gd rfl) rfl (Nat.le_of_ble_eq_true rfl) ?_
        refine g_aload_n 196 (gd rfl) rfl rfl ?_
        refine g_aload_n 197 (gd rfl) rfl rfl ?_
        refine g_getA (q2 := 88) 200 (gd rfl) rfl rfl rfl rfl ?_
        refine g_swap rfl rfl ?_
        have hI200 := inv_sws hIc137
        exact g_return (gd rfl) rfl (hP _ _ ⟨(A 88), (A 87), (sws sc137), hI200, (fr_sws rfl rfl hFc137), rfl, rfl⟩)
      · skip
        have i143 := r_lt1 0 31 c143 j137_4 ro_2_1 rfl
        have i143a := r_lt2 1 32 c143 j137_4 ro_2_1 rfl
        refine g_aload_n 147 (gd rfl) rfl rfl ?_
        refine g_getA (q2 := 88) 150 (gd rfl) rfl rfl rfl rfl ?_
        refine g_iload 152 (gd rfl) rfl rfl ?_
        refine g_dup2 153 (gd rfl) rfl rfl rfl ?_
        refine g_laload 154 (gd rfl) rfl (n := 32) rfl (in_ix i143 rfl) (fun z153 e153 => ?_)
        refine g_lload_n 155 (gd rfl) rfl rfl ?_
        refine g_aload_n 156 (gd rfl) rfl rfl ?_
        refine g_getI 159 (gd rfl) rfl rfl rfl (fun z156 e156 => ?_)
        have q156 : u_2_1 = z156 := (fr_F e_2_1 hFc137 rfl).trans e156.symm
        subst q156
        refine g_i2l 160 (gd rfl) rfl (fun z159 e159 => ?_)
        have i159 := l_i e159 i143a
        refine g_ldiv 161 (gd rfl) rfl (ldv_nz i159 rfl) (fun z160 e160 => ?_)
        refine g_iload 163 (gd rfl) rfl rfl ?_
        refine g_i2l 164 (gd rfl) rfl (fun z163 e163 => ?_)
        have i163 := l_i e163 i143
        refine g_lload_n 165 (gd rfl) rfl rfl ?_
        refine g_aload_n 166 (gd rfl) rfl rfl ?_
        refine g_getI 169 (gd rfl) rfl rfl rfl (fun z166 e166 => ?_)
        have q166 : u_2_1 = z166 := (fr_F e_2_1 hFc137 rfl).trans e166.symm
        subst q166
        refine g_i2l 170 (gd rfl) rfl (fun z169 e169 => ?_)
        have i169 := l_i e169 i143a
        refine g_lrem 171 (gd rfl) rfl (ldv_nz i169 rfl) (fun z170 e170 => ?_)
        refine g_lcmp 172 (gd rfl) rfl (fun z171 e171 => ?_)
        have i171 := lc_in e171
        refine g_if_ge 175 179 (gd rfl) rfl rfl (fun c172 => ?_) (fun c172 => ?_)
        · skip
          have i172 := z_ge 0 1 c172 i171 rfl
          have c172a := lc_ge e171 c172
          have i172a := lr_le1 (-9223372036854775808) 31 c172a (l_rng z170) i163 rfl
          refine g_lconst 0 180 (gd rfl) rfl rfl ?_
          refine g_ladd 181 (gd rfl) rfl (fun z180 e180 => ?_)
          refine g_ladd 182 (gd rfl) rfl (fun z181 e181 => ?_)
          refine g_lastore 183 (gd rfl) rfl (n := 32) rfl (in_ix i143 rfl) ?_
          have hI182 := inv_sL (q := 88) (j := y137_4.toNatClampNeg) (x := z181) hIc137 rfl (l_rng z181)
          refine g_iinc 186 (gd rfl) rfl rfl (Nat.le_of_ble_eq_true rfl) (fun z183 e183 => ?_)
          have i183 := in_add 1 32 e183 i143 (in_c 1 rfl) rfl rfl
          refine g_goto 137 (gd rfl) rfl ?_
          have v137 : w137_2_4 = (sL sc137 88 y137_4.toNatClampNeg z181).2.2.1 2 4 := sL_F (v137_2_4)
          have v137a : w137_2_0 = (sL sc137 88 y137_4.toNatClampNeg z181).2.2.1 2 0 := sL_F (v137_2_0)
          have n137 : (w137_2_4).toInt = (w137_2_0).toInt := by have a0 := i143a; unfold In at a0; have a1 := (inv_F hIc137 0 4000 rfl v137_2_0); unfold In at a1; have a2 := (inv_F hIc137 (-1) 4000 rfl v137_2_4); unfold In at a2; have a3 := i143; unfold In at a3; have a4 := i183; unfold In at a4; have a5 := t_add e183 i143 (in_c 1 rfl) rfl; have a6 := (in_c 1 rfl); unfold In at a6; have a7 := tx_i2l e169; have a8 := tx_i2l e163; have a9 := tx_i2l e159; omega
          exact gg_w (by omega) (gg_f (gf_cons rfl (gf_cons rfl (gf_cons rfl (gf_cons rfl gf_nil)))) (ih137 (sL sc137 88 y137_4.toNatClampNeg z181) y137_2 z183 w137_2_4 w137_2_0 hI182 (fr_sL rfl hFc137) (in_w 0 32 i183 rfl) v137 v137a n137 (m_up mm137 (t_add e183 i143 (in_c 1 rfl) rfl) (in_w 1 1 (in_c 1 rfl) rfl))))
        · skip
          have i172 := z_lt (-1) (-1) c172 i171 rfl
          have c172a := lc_lt e171 c172
          have i172a := lr_lt2 1 9223372036854775807 c172a i163 (l_rng z170) rfl
          refine g_lconst 1 176 (gd rfl) rfl rfl ?_
          refine g_goto 180 (gd rfl) rfl ?_
          refine g_ladd 181 (gd rfl) rfl (fun z180 e180 => ?_)
          refine g_ladd 182 (gd rfl) rfl (fun z181 e181 => ?_)
          refine g_lastore 183 (gd rfl) rfl (n := 32) rfl (in_ix i143 rfl) ?_
          have hI182 := inv_sL (q := 88) (j := y137_4.toNatClampNeg) (x := z181) hIc137 rfl (l_rng z181)
          refine g_iinc 186 (gd rfl) rfl rfl (Nat.le_of_ble_eq_true rfl) (fun z183 e183 => ?_)
          have i183 := in_add 1 32 e183 i143 (in_c 1 rfl) rfl rfl
          refine g_goto 137 (gd rfl) rfl ?_
          have v137 : w137_2_4 = (sL sc137 88 y137_4.toNatClampNeg z181).2.2.1 2 4 := sL_F (v137_2_4)
          have v137a : w137_2_0 = (sL sc137 88 y137_4.toNatClampNeg z181).2.2.1 2 0 := sL_F (v137_2_0)
          have n137 : (w137_2_4).toInt = (w137_2_0).toInt := by have a0 := i143a; unfold In at a0; have a1 := (inv_F hIc137 0 4000 rfl v137_2_0); unfold In at a1; have a2 := (inv_F hIc137 (-1) 4000 rfl v137_2_4); unfold In at a2; have a3 := i143; unfold In at a3; have a4 := i183; unfold In at a4; have a5 := t_add e183 i143 (in_c 1 rfl) rfl; have a6 := (in_c 1 rfl); unfold In at a6; have a7 := tx_i2l e169; have a8 := tx_i2l e163; have a9 := tx_i2l e159; omega
          exact gg_w (by omega) (gg_f (gf_cons rfl (gf_cons rfl (gf_cons rfl (gf_cons rfl gf_nil)))) (ih137 (sL sc137 88 y137_4.toNatClampNeg z181) y137_2 z183 w137_2_4 w137_2_0 hI182 (fr_sL rfl hFc137) (in_w 0 32 i183 rfl) v137 v137a n137 (m_up mm137 (t_add e183 i143 (in_c 1 rfl) rfl) (in_w 1 1 (in_c 1 rfl) rfl))))
  have ct13 : ∀ (k13 : Nat) (sc13 : GS) (y13_2 : Int64) (y13_4 : Int32) (w13_2_4 : Int32) (w13_2_0 : Int32), Inv sc13 → Fr fm_110_86_2 s sc13 → (In y13_4 0 32) → (w13_2_4 = sc13.2.2.1 2 4) → (w13_2_0 = sc13.2.2.1 2 0) → ((w13_2_4).toInt = (w13_2_0).toInt) → 32 - (y13_4).toInt < (k13 : Int) → GG Z (d - 1) 110 post (gx xp) (29702 + k13 * 147601) 13 (fun j => xlook j [(0, .ref (A 86)), (1, .ref (A 2)), (2, .long y13_2), (4, .int y13_4)]) [] (WW Z A sc13 ++ ex) 0 0 := by
    intro k13
    induction k13 with
    | zero => intro sc13 y13_2 y13_4 w13_2_4 w13_2_0 hIc13 hFc13 j13_4 v13_2_4 v13_2_0 n13_0 mm13; exact m_no mm13 j13_4 rfl
    | succ k13 ih13 =>
      intro sc13 y13_2 y13_4 w13_2_4 w13_2_0 hIc13 hFc13 j13_4 v13_2_4 v13_2_0 n13_0 mm13
      refine gg_w (M := 29702 + k13 * 147601 + 147601) (by omega) ?_
      have ct69 : ∀ (k69 : Nat) (sc69 : GS) (y69_5 : Int32) (y69_6 : Int64) (y69_8 : Int32) (w69_2_4 : Int32) (w69_2_0 : Int32), Inv sc69 → Fr fm_110_86_2 s sc69 → (In y13_4 0 31) → (In y69_5 (-160) 160) → (In y69_8 0 160) → (w69_2_4 = sc69.2.2.1 2 4) → (w69_2_0 = sc69.2.2.1 2 0) → ((w69_2_4).toInt = (w69_2_0).toInt) → 160 - (y69_8).toInt < (k69 : Int) → GG Z (d - 1) 110 post (gx xp) (29702 + k13 * 147601 + 1 + k69 * 900) 69 (fun j => xlook j [(0, .ref (A 86)), (1, .ref (A 2)), (2, .long y13_2), (4, .int y13_4), (5, .int y69_5), (6, .long y69_6), (8, .int y69_8)]) [] (WW Z A sc69 ++ ex) 0 0 := by
        intro k69
        induction k69 with
        | zero => intro sc69 y69_5 y69_6 y69_8 w69_2_4 w69_2_0 hIc69 hFc69 j69_4 j69_5 j69_8 v69_2_4 v69_2_0 n69_0 mm69; exact m_no mm69 j69_8 rfl
        | succ k69 ih69 =>
          intro sc69 y69_5 y69_6 y69_8 w69_2_4 w69_2_0 hIc69 hFc69 j69_4 j69_5 j69_8 v69_2_4 v69_2_0 n69_0 mm69
          refine gg_w (M := 29702 + k13 * 147601 + 1 + k69 * 900 + 900) (by omega) ?_
          refine g_iload 71 (gd rfl) rfl rfl ?_
          refine g_aload_n 72 (gd rfl) rfl rfl ?_
          refine g_getA (q2 := 12) 75 (gd rfl) rfl rfl rfl rfl ?_
          refine g_iload 77 (gd rfl) rfl rfl ?_
          refine g_iconst 1 78 (gd rfl) rfl rfl ?_
          refine g_iadd 79 (gd rfl) rfl (fun z78 e78 => ?_)
          have i78 := in_add 1 32 e78 j69_4 (in_c 1 rfl) rfl rfl
          refine g_iaload 80 (gd rfl) rfl (n := 33) rfl (in_ix i78 rfl) (fun z79 e79 => ?_)
          have i79 := inv_I hIc69 (n := 33) (t := 0) 0 160 rfl (in_ix i78 rfl) rfl e79
          refine g_cmp_ge 83 111 (gd rfl) rfl rfl (fun c80 => ?_) (fun c80 => ?_)
          · skip
            refine g_lload_n 112 (gd rfl) rfl rfl ?_
            refine g_aload_n 113 (gd rfl) rfl rfl ?_
            refine g_getA (q2 := 87) 116 (gd rfl) rfl rfl rfl rfl ?_
            refine g_iload 118 (gd rfl) rfl rfl ?_
            refine g_laload 119 (gd rfl) rfl (n := 32) rfl (in_ix j69_4 rfl) (fun z118 e118 => ?_)
            refine g_lload 121 (gd rfl) rfl rfl ?_
            refine g_iload 123 (gd rfl) rfl rfl ?_
            refine g_i2l 124 (gd rfl) rfl (fun z123 e123 => ?_)
            have i123 := l_i e123 j69_5
            refine g_lmul 125 (gd rfl) rfl (fun z124 e124 => ?_)
            refine g_lsub 126 (gd rfl) rfl (fun z125 e125 => ?_)
            refine g_ladd 127 (gd rfl) rfl (fun z126 e126 => ?_)
            refine g_lstore_n 128 (gd rfl) rfl (Nat.le_of_ble_eq_true rfl) ?_
            refine g_iinc 131 (gd rfl) rfl rfl (Nat.le_of_ble_eq_true rfl) (fun z128 e128 => ?_)
            have i128 := in_add 1 32 e128 j69_4 (in_c 1 rfl) rfl rfl
            refine g_goto 13 (gd rfl) rfl ?_
            have n13 : (w69_2_4).toInt = (w69_2_0).toInt := by have a0 := j69_4; unfold In at a0; have a1 := ro_2_1; unfold In at a1; have a2 := (inv_F hIc69 0 4000 rfl v69_2_0); unfold In at a2; have a3 := (inv_F hIc69 (-1) 4000 rfl v69_2_4); unfold In at a3; have a4 := j69_8; unfold In at a4; have a5 := j69_5; unfold In at a5; have a6 := i128; unfold In at a6; have a7 := t_add e128 j69_4 (in_c 1 rfl) rfl; have a8 := (in_c 1 rfl); unfold In at a8; have a9 := tx_i2l e123; have a10 := i78; unfold In at a10; have a11 := t_add e78 j69_4 (in_c 1 rfl) rfl; omega
            exact gg_w (by omega) (gg_f (gf_cons rfl (gf_cons rfl (gf_cons rfl (gf_cons rfl gf_nil)))) (ih13 sc69 z126 z128 w69_2_4 w69_2_0 hIc69 hFc69 (in_w 0 32 i128 rfl) v69_2_4 v69_2_0 n13 (m_up mm13 (t_add e128 j69_4 (in_c 1 rfl) rfl) (in_w 1 1 (in_c 1 rfl) rfl))))
          · skip
            have i80 := r_lt1 0 159 c80 j69_8 i79 rfl
            have i80a := r_lt2 1 160 c80 j69_8 i79 rfl
            refine g_aload_n 84 (gd rfl) rfl rfl ?_
            refine g_getA (q2 := 88) 87 (gd rfl) rfl rfl rfl rfl ?_
            refine g_aload_n 88 (gd rfl) rfl rfl ?_
            refine g_getA (q2 := 5) 91 (gd rfl) rfl rfl rfl rfl ?_
            refine g_aload_n 92 (gd rfl) rfl rfl ?_
            refine g_getA (q2 := 13) 95 (gd rfl) rfl rfl rfl rfl ?_
            refine g_iload 97 (gd rfl) rfl rfl ?_
            refine g_iaload 98 (gd rfl) rfl (n := 160) rfl (in_ix i80 rfl) (fun z97 e97 => ?_)
            have i97 := inv_I hIc69 (n := 160) (t := 0) 0 159 rfl (in_ix i80 rfl) rfl e97
            refine g_iaload 99 (gd rfl) rfl (n := 160) rfl (in_ix i97 rfl) (fun z98 e98 => ?_)
            have i98 := inv_I hIc69 (n := 160) (t := 0) 0 31 rfl (in_ix i97 rfl) rfl e98
            refine g_dup2 100 (gd rfl) rfl rfl rfl ?_
            refine g_laload 101 (gd rfl) rfl (n := 32) rfl (in_ix i98 rfl) (fun z100 e100 => ?_)
            refine g_lload 103 (gd rfl) rfl rfl ?_
            refine g_ladd 104 (gd rfl) rfl (fun z103 e103 => ?_)
            refine g_lastore 105 (gd rfl) rfl (n := 32) rfl (in_ix i98 rfl) ?_
            have hI104 := inv_sL (q := 88) (j := z98.toNatClampNeg) (x := z103) hIc69 rfl (l_rng z103)
            refine g_iinc 108 (gd rfl) rfl rfl (Nat.le_of_ble_eq_true rfl) (fun z105 e105 => ?_)
            have i105 := in_add 1 160 e105 i80 (in_c 1 rfl) rfl rfl
            refine g_goto 69 (gd rfl) rfl ?_
            have v69 : w69_2_4 = (sL sc69 88 z98.toNatClampNeg z103).2.2.1 2 4 := sL_F (v69_2_4)
            have v69a : w69_2_0 = (sL sc69 88 z98.toNatClampNeg z103).2.2.1 2 0 := sL_F (v69_2_0)
            have n69 : (w69_2_4).toInt = (w69_2_0).toInt := by have a0 := j69_4; unfold In at a0; have a1 := ro_2_1; unfold In at a1; have a2 := (inv_F hIc69 0 4000 rfl v69_2_0); unfold In at a2; have a3 := (inv_F hIc69 (-1) 4000 rfl v69_2_4); unfold In at a3; have a4 := i80; unfold In at a4; have a5 := j69_5; unfold In at a5; have a6 := i105; unfold In at a6; have a7 := t_add e105 i80 (in_c 1 rfl) rfl; have a8 := (in_c 1 rfl); unfold In at a8; have a9 := i78; unfold In at a9; have a10 := t_add e78 j69_4 (in_c 1 rfl) rfl; omega
            exact gg_w (by omega) (gg_f (gf_cons rfl (gf_cons rfl (gf_cons rfl (gf_cons rfl (gf_cons rfl (gf_cons rfl (gf_cons rfl gf_nil))))))) (ih69 (sL sc69 88 z98.toNatClampNeg z103) y69_5 y69_6 z105 w69_2_4 w69_2_0 hI104 (fr_sL rfl hFc69) (in_w 0 31 j69_4 rfl) (in_w (-160) 160 j69_5 rfl) (in_w 0 160 i105 rfl) v69 v69a n69 (m_up mm69 (t_add e105 i80 (in_c 1 rfl) rfl) (in_w 1 1 (in_c 1 rfl) rfl))))
      refine g_iload 15 (gd rfl) rfl rfl ?_
      refine g_aload_n 16 (gd rfl) rfl rfl ?_
      refine g_getI 19 (gd rfl) rfl rfl rfl (fun z16 e16 => ?_)
      have q16 : u_2_1 = z16 := (fr_F e_2_1 hFc13 rfl).trans e16.symm
      subst q16
      refine g_cmp_ge 22 134 (gd rfl) rfl rfl (fun c19 => ?_) (fun c19 => ?_)
      · skip
        refine g_iconst 0 135 (gd rfl) rfl rfl ?_
        refine g_istore 137 (gd rfl) rfl (Nat.le_of_ble_eq_true rfl) ?_
        have n137 : (w13_2_4).toInt = (w13_2_0).toInt := by have a0 := ro_2_1; unfold In at a0; have a1 := (inv_F hIc13 0 4000 rfl v13_2_0); unfold In at a1; have a2 := (inv_F hIc13 (-1) 4000 rfl v13_2_4); unfold In at a2; have a3 := j13_4; unfold In at a3; have a4 := (in_c 0 rfl); unfold In at a4; omega
        exact gg_w (by omega) (gg_f (gf_cons rfl (gf_cons rfl (gf_cons rfl (gf_cons rfl gf_nil)))) (ct137 33 sc13 y13_2 (Int32.ofInt 0) w13_2_4 w13_2_0 hIc13 hFc13 (in_w 0 32 (in_c 0 rfl) rfl) v13_2_4 v13_2_0 n137 (m_in 33 (in_w 0 32 (in_c 0 rfl) rfl) rfl)))
      · skip
        have i19 := r_lt1 0 31 c19 j13_4 ro_2_1 rfl
        have i19a := r_lt2 1 32 c19 j13_4 ro_2_1 rfl
        refine g_aload_n 23 (gd rfl) rfl rfl ?_
        refine g_iload 25 (gd rfl) rfl rfl ?_
        refine g_callv (X := _) (As := [.int y13_4]) (r := []) (b := A 2) (q := 2) 28 (gd rfl) rfl rfl rfl rfl rfl (ww_o rfl) (Nat.le_of_ble_eq_true rfl) (mc := 0) (ms := 0) (Nat.zero_le _) (Nat.zero_le _) (P := fun v u => _) ?_ (fun e u h => h) (fun v u h => h)
        intro po25 xx25 hp25 hx25
        refine g_enter2 (k := 103) (N := 300) (by omega) rfl (Nat.le_of_ble_eq_true rfl) ?_
        refine g_aload_n 1 (gd rfl) rfl rfl ?_
        refine g_getA (q2 := 12) 4 (gd rfl) rfl rfl rfl rfl ?_
        refine g_iload_n 5 (gd rfl) rfl rfl ?_
        refine g_iconst 1 6 (gd rfl) rfl rfl ?_
        refine g_iadd 7 (gd rfl) rfl (fun z25x6 e25x6 => ?_)
        have i25x6 := in_add 1 32 e25x6 i19 (in_c 1 rfl) rfl rfl
        refine g_iaload 8 (gd rfl) rfl (n := 33) rfl (in_ix i25x6 rfl) (fun z25x7 e25x7 => ?_)
        have i25x7 := inv_I hIc13 (n := 33) (t := 0) 0 160 rfl (in_ix i25x6 rfl) rfl e25x7
        refine g_aload_n 9 (gd rfl) rfl rfl ?_
        refine g_getA (q2 := 12) 12 (gd rfl) rfl rfl rfl rfl ?_
        refine g_iload_n 13 (gd rfl) rfl rfl ?_
        refine g_iaload 14 (gd rfl) rfl (n := 33) rfl (in_ix i19 rfl) (fun z25x13 e25x13 => ?_)
        have i25x13 := inv_I hIc13 (n := 33) (t := 0) 0 160 rfl (in_ix i19 rfl) rfl e25x13
        refine g_isub 15 (gd rfl) rfl (fun z25x14 e25x14 => ?_)
        have i25x14 := in_sub (-160) 160 e25x14 i25x7 i25x13 rfl rfl
        refine g_ireturn (gd rfl) rfl rfl (hp25 _ _ ?_)
        show GG _ _ _ _ _ _ _ _ [.int z25x14] _ _ _
        refine g_istore 30 (gd rfl) rfl (Nat.le_of_ble_eq_true rfl) ?_
        refine g_iload 32 (gd rfl) rfl rfl ?_
        refine g_if_ne 35 39 (gd rfl) rfl rfl (fun c32 => ?_) (fun c32 => ?_)
        · skip
          refine g_aload_n 40 (gd rfl) rfl rfl ?_
          refine g_getA (q2 := 87) 43 (gd rfl) rfl rfl rfl rfl ?_
          refine g_iload 45 (gd rfl) rfl rfl ?_
          refine g_laload 46 (gd rfl) rfl (n := 32) rfl (in_ix i19 rfl) (fun z45 e45 => ?_)
          refine g_ldc2_w 85 49 (gd rfl) rfl rfl ?_
          refine g_lmul 50 (gd rfl) rfl (fun z49 e49 => ?_)
          refine g_ldc2_w 100 53 (gd rfl) rfl rfl ?_
          refine g_iload 55 (gd rfl) rfl rfl ?_
          refine g_i2l 56 (gd rfl) rfl (fun z55 e55 => ?_)
          have i55 := l_i e55 i25x14
          refine g_lmul 57 (gd rfl) rfl (fun z56 e56 => ?_)
          have i56 := l_mulc 100 (-16000) 16000 (Or.inl e56) i55 rfl
          have nz57 : (z56).toInt ≠ 0 := by exact l_nz100 e56 e55 (by have a0 := i19a; unfold In at a0; have a1 := (inv_F hIc13 0 4000 rfl v13_2_0); unfold In at a1; have a2 := (inv_F hIc13 (-1) 4000 rfl v13_2_4); unfold In at a2; have a3 := i19; unfold In at a3; have a4 := i25x14; unfold In at a4; have a5 := t_sub e25x14 i25x7 i25x13 rfl; have a6 := i25x13; unfold In at a6; have a7 := i25x7; unfold In at a7; have a8 := tx_i2l e55; have a9 := i25x6; unfold In at a9; have a10 := t_add e25x6 i19 (in_c 1 rfl) rfl; have a11 := (in_c 1 rfl); unfold In at a11; omega) (by have a0 := i19a; unfold In at a0; have a1 := (inv_F hIc13 0 4000 rfl v13_2_0); unfold In at a1; have a2 := (inv_F hIc13 (-1) 4000 rfl v13_2_4); unfold In at a2; have a3 := i19; unfold In at a3; have a4 := i25x14; unfold In at a4; have a5 := t_sub e25x14 i25x7 i25x13 rfl; have a6 := i25x13; unfold In at a6; have a7 := i25x7; unfold In at a7; have a8 := tx_i2l e55; have a9 := i25x6; unfold In at a9; have a10 := t_add e25x6 i19 (in_c 1 rfl) rfl; have a11 := (in_c 1 rfl); unfold In at a11; omega) (by have a0 := i19a; unfold In at a0; have a1 := (inv_F hIc13 0 4000 rfl v13_2_0); unfold In at a1; have a2 := (inv_F hIc13 (-1) 4000 rfl v13_2_4); unfold In at a2; have a3 := i19; unfold In at a3; have a4 := i25x14; unfold In at a4; have a5 := t_sub e25x14 i25x7 i25x13 rfl; have a6 := i25x13; unfold In at a6; have a7 := i25x7; unfold In at a7; have a8 := tx_i2l e55; have a9 := i25x6; unfold In at a9; have a10 := t_add e25x6 i19 (in_c 1 rfl) rfl; have a11 := (in_c 1 rfl); unfold In at a11; omega)
          refine g_ldiv 58 (gd rfl) rfl (lnz nz57) (fun z57 e57 => ?_)
          refine g_lstore 60 (gd rfl) rfl (Nat.le_of_ble_eq_true rfl) ?_
          refine g_aload_n 61 (gd rfl) rfl rfl ?_
          refine g_getA (q2 := 12) 64 (gd rfl) rfl rfl rfl rfl ?_
          refine g_iload 66 (gd rfl) rfl rfl ?_
          refine g_iaload 67 (gd rfl) rfl (n := 33) rfl (in_ix i19 rfl) (fun z66 e66 => ?_)
          have q66 : z25x13 = z66 := (e25x13).trans e66.symm
          subst q66
          refine g_istore 69 (gd rfl) rfl (Nat.le_of_ble_eq_true rfl) ?_
          have n69 : (w13_2_4).toInt = (w13_2_0).toInt := by have a0 := i19a; unfold In at a0; have a1 := (inv_F hIc13 0 4000 rfl v13_2_0); unfold In at a1; have a2 := (inv_F hIc13 (-1) 4000 rfl v13_2_4); unfold In at a2; have a3 := i19; unfold In at a3; have a4 := i25x13; unfold In at a4; have a5 := i25x14; unfold In at a5; have a6 := t_sub e25x14 i25x7 i25x13 rfl; have a7 := i25x7; unfold In at a7; have a8 := tx_i2l e55; have a9 := i25x6; unfold In at a9; have a10 := t_add e25x6 i19 (in_c 1 rfl) rfl; have a11 := (in_c 1 rfl); unfold In at a11; omega
          exact gg_w (by omega) (gg_f (gf_cons rfl (gf_cons rfl (gf_cons rfl (gf_cons rfl (gf_cons rfl (gf_cons rfl (gf_cons rfl gf_nil))))))) (ct69 161 sc13 z25x14 z57 z25x13 w13_2_4 w13_2_0 hIc13 hFc13 (in_w 0 31 i19 rfl) (in_w (-160) 160 i25x14 rfl) (in_w 0 160 i25x13 rfl) v13_2_4 v13_2_0 n69 (m_in 161 (in_w 0 160 i25x13 rfl) rfl)))
        · skip
          have i32 := z_eq 0 0 c32 i25x14 rfl
          refine g_lconst 0 36 (gd rfl) rfl rfl ?_
          refine g_goto 58 (gd rfl) rfl ?_
          refine g_lstore 60 (gd rfl) rfl (Nat.le_of_ble_eq_true rfl) ?_
          refine g_aload_n 61 (gd rfl) rfl rfl ?_
          refine g_getA (q2 := 12) 64 (gd rfl) rfl rfl rfl rfl ?_
          refine g_iload 66 (gd rfl) rfl rfl ?_
          refine g_iaload 67 (gd rfl) rfl (n := 33) rfl (in_ix i19 rfl) (fun z66 e66 => ?_)
          have q66 : z25x13 = z66 := (e25x13).trans e66.symm
          subst q66
          refine g_istore 69 (gd rfl) rfl (Nat.le_of_ble_eq_true rfl) ?_
          have n69 : (w13_2_4).toInt = (w13_2_0).toInt := by have a0 := i19a; unfold In at a0; have a1 := (inv_F hIc13 0 4000 rfl v13_2_0); unfold In at a1; have a2 := (inv_F hIc13 (-1) 4000 rfl v13_2_4); unfold In at a2; have a3 := i19; unfold In at a3; have a4 := i25x13; unfold In at a4; have a5 := i32; unfold In at a5; have a6 := t_sub e25x14 i25x7 i25x13 rfl; have a7 := i25x7; unfold In at a7; have a8 := i25x6; unfold In at a8; have a9 := t_add e25x6 i19 (in_c 1 rfl) rfl; have a10 := (in_c 1 rfl); unfold In at a10; omega
          exact gg_w (by omega) (gg_f (gf_cons rfl (gf_cons rfl (gf_cons rfl (gf_cons rfl (gf_cons rfl (gf_cons rfl (gf_cons rfl gf_nil))))))) (ct69 161 sc13 z25x14 (Int64.ofInt 0) z25x13 w13_2_4 w13_2_0 hIc13 hFc13 (in_w 0 31 i19 rfl) (in_w (-160) 160 i32 rfl) (in_w 0 160 i25x13 rfl) v13_2_4 v13_2_0 n69 (m_in 161 (in_w 0 160 i25x13 rfl) rfl)))
  refine g_enter2 (k := 110) (N := 4901435) (by omega) rfl (Nat.le_of_ble_eq_true rfl) ?_
  refine g_lconst 0 1 (gd rfl) rfl rfl ?_
  refine g_lstore_n 2 (gd rfl) rfl (Nat.le_of_ble_eq_true rfl) ?_
  refine g_aload_n 3 (gd rfl) rfl rfl ?_
  refine g_getA (q2 := 88) 6 (gd rfl) rfl rfl rfl rfl ?_
  refine g_lconst 0 7 (gd rfl) rfl rfl ?_
  refine g_calls (As := [.ref (A 88), .long (Int64.ofInt 0)]) (r := []) 10 (gd rfl) rfl rfl rfl rfl rfl (Nat.le_of_ble_eq_true rfl) (Nat.zero_le _) (Nat.zero_le _) (k_fillL 88 (by omega) hI (n := 32) rfl rfl rfl (l_rng (Int64.ofInt 0))) (fun v u h => ?_)
  obtain ⟨s7, hI7, hF7, rfl, rfl, fl7⟩ := h
  show GG _ _ _ _ _ _ _ _ [] _ _ _
  refine g_iconst 0 11 (gd rfl) rfl rfl ?_
  refine g_istore 13 (gd rfl) rfl (Nat.le_of_ble_eq_true rfl) ?_
  have v13 : u_2_4 = s7.2.2.1 2 4 := fr_F (e_2_4) hF7 rfl
  have v13a : u_2_0 = s7.2.2.1 2 0 := fr_F (e_2_0) hF7 rfl
  have n13 : (u_2_4).toInt = (u_2_0).toInt := by have a0 := ro_2_1; unfold In at a0; have a1 := (inv_F hI 0 4000 rfl e_2_0); unfold In at a1; have a2 := (inv_F hI (-1) 4000 rfl e_2_4); unfold In at a2; have a3 := (in_c 0 rfl); unfold In at a3; omega
  exact gg_w (by omega) (gg_f (gf_cons rfl (gf_cons rfl (gf_cons rfl (gf_cons rfl gf_nil)))) (ct13 33 s7 (Int64.ofInt 0) (Int32.ofInt 0) u_2_4 u_2_0 hI7 (fr_tr rfl fr_rf hF7) (in_w 0 32 (in_c 0 rfl) rfl) v13 v13a n13 (m_in 33 (in_w 0 32 (in_c 0 rfl) rfl) rfl)))

def fm_110_86_32 : FM := ([], [87, 88], [], [])
/-- GraphHouse$Groups.shareOut -/
theorem k_110_86_32 {Z : AmZ} {A : Nat → Nat} {s : GS} {ex : va_W} {d : Nat} {X : AmX} {u_32_4 : Int32} {u_32_0 : Int32} (hd : 3 ≤ d) (hI : Inv s) (e_32_4 : u_32_4 = s.2.2.1 32 4) (e_32_0 : u_32_0 = s.2.2.1 32 0) (p_0 : (u_32_4).toInt = (u_32_0).toInt) : GC Z d 110 [.ref (A 86), .ref (A 32)] (WW Z A s ++ ex) 0 0 (fun v u => ∃ xa ya : Nat, ∃ t : GS, Inv t ∧ Fr fm_110_86_32 s t ∧ v = none ∧ u = WW Z (a2 A xa ya) t ++ ex) X := by
  intro post xp hP hX
  obtain ⟨u_32_1, e_32_1⟩ : ∃ w, w = s.2.2.1 32 1 := ⟨_, rfl⟩
  have ro_32_1 := inv_F hI 0 32 rfl e_32_1
  have ro_32_4 := inv_F hI (-1) 4000 rfl e_32_4
  have ro_32_0 := inv_F hI 0 4000 rfl e_32_0
  have ct137 : ∀ (k137 : Nat) (sc137 : GS) (y137_2 : Int64) (y137_4 : Int32) (w137_32_4 : Int32) (w137_32_0 : Int32), Inv sc137 → Fr fm_110_86_32 s sc137 → (In y137_4 0 32) → (w137_32_4 = sc137.2.2.1 32 4) → (w137_32_0 = sc137.2.2.1 32 0) → ((w137_32_4).toInt = (w137_32_0).toInt) → 32 - (y137_4).toInt < (k137 : Int) → GG Z (d - 1) 110 post (gx xp) (1 + k137 * 900) 137 (fun j => xlook j [(0, .ref (A 86)), (1, .ref (A 32)), (2, .long y137_2), (4, .int y137_4)]) [] (WW Z A sc137 ++ ex) 0 0 := by
    intro k137
    induction k137 with
    | zero => intro sc137 y137_2 y137_4 w137_32_4 w137_32_0 hIc137 hFc137 j137_4 v137_32_4 v137_32_0 n137_0 mm137; exact m_no mm137 j137_4 rfl
    | succ k137 ih137 =>
      intro sc137 y137_2 y137_4 w137_32_4 w137_32_0 hIc137 hFc137 j137_4 v137_32_4 v137_32_0 n137_0 mm137
      refine gg_w (M := 1 + k137 * 900 + 900) (by omega) ?_
      refine g_iload 139 (gd rfl) rfl rfl ?_
      refine g_aload_n 140 (gd rfl) rfl rfl ?_
      refine g_getI 143 (gd rfl) rfl rfl rfl (fun z140 e140 => ?_)
      have q140 : u_32_1 = z140 := (fr_F e_32_1 hFc137 rfl).trans e140.symm
      subst q140
      refine g_cmp_ge 146 189 (gd rfl) rfl rfl (fun c143 => ?_) (fun c143 => ?_)
      · skip
        refine g_aload_n 190 (gd rfl) rfl rfl ?_
        refine g_getA (q2 := 87) 193 (gd rfl) rfl rfl rfl rfl ?_
        refine g_astore 195 (gd rfl) rfl (Nat.le_of_ble_eq_true rfl) ?_
        refine g_aload_n 196 (gd rfl) rfl rfl ?_
        refine g_aload_n 197 (gd rfl) rfl rfl ?_
        refine g_getA (q2 := 88) 200 (gd rfl) rfl rfl rfl rfl ?_
        refine g_swap rfl rfl ?_
        have hI200 := inv_sws hIc137
        exact g_return (gd rfl) rfl (hP _ _ ⟨(A 88), (A 87), (sws sc137), hI200, (fr_sws rfl rfl hFc137), rfl, rfl⟩)
      · skip
        have i143 := r_lt1 0 31 c143 j137_4 ro_32_1 rfl
        have i143a := r_lt2 1 32 c143 j137_4 ro_32_1 rfl
        refine g_aload_n 147 (gd rfl) rfl rfl ?_
        refine g_getA (q2 := 88) 150 (gd rfl) rfl rfl rfl rfl ?_
        refine g_iload 152 (gd rfl) rfl rfl ?_
        refine g_dup2 153 (gd rfl) rfl rfl rfl ?_
        refine g_laload 154 (gd rfl) rfl (n := 32) rfl (in_ix i143 rfl) (fun z153 e153 => ?_)
        refine g_lload_n 155 (gd rfl) rfl rfl ?_
        refine g_aload_n 156 (gd rfl) rfl rfl ?_
        refine g_getI 159 (gd rfl) rfl rfl rfl (fun z156 e156 => ?_)
        have q156 : u_32_1 = z156 := (fr_F e_32_1 hFc137 rfl).trans e156.symm
        subst q156
        refine g_i2l 160 (gd rfl) rfl (fun z159 e159 => ?_)
        have i159 := l_i e159 i143a
        refine g_ldiv 161 (gd rfl) rfl (ldv_nz i159 rfl) (fun z160 e160 => ?_)
        refine g_iload 163 (gd rfl) rfl rfl ?_
        refine g_i2l 164 (gd rfl) rfl (fun z163 e163 => ?_)
        have i163 := l_i e163 i143
        refine g_lload_n 165 (gd rfl) rfl rfl ?_
        refine g_aload_n 166 (gd rfl) rfl rfl ?_
        refine g_getI 169 (gd rfl) rfl rfl rfl (fun z166 e166 => ?_)
        have q166 : u_32_1 = z166 := (fr_F e_32_1 hFc137 rfl).trans e166.symm
        subst q166
        refine g_i2l 170 (gd rfl) rfl (fun z169 e169 => ?_)
        have i169 := l_i e169 i143a
        refine g_lrem 171 (gd rfl) rfl (ldv_nz i169 rfl) (fun z170 e170 => ?_)
        refine g_lcmp 172 (gd rfl) rfl (fun z171 e171 => ?_)
        have i171 := lc_in e171
        refine g_if_ge 175 179 (gd rfl) rfl rfl (fun c172 => ?_) (fun c172 => ?_)
        · skip
          have i172 := z_ge 0 1 c172 i171 rfl
          have c172a := lc_ge e171 c172
          have i172a := lr_le1 (-9223372036854775808) 31 c172a (l_rng z170) i163 rfl
          refine g_lconst 0 180 (gd rfl) rfl rfl ?_
          refine g_ladd 181 (gd rfl) rfl (fun z180 e180 => ?_)
          refine g_ladd 182 (gd rfl) rfl (fun z181 e181 => ?_)
          refine g_lastore 183 (gd rfl) rfl (n := 32) rfl (in_ix i143 rfl) ?_
          have hI182 := inv_sL (q := 88) (j := y137_4.toNatClampNeg) (x := z181) hIc137 rfl (l_rng z181)
          refine g_iinc 186 (gd rfl) rfl rfl (Nat.le_of_ble_eq_true rfl) (fun z183 e183 => ?_)
          have i183 := in_add 1 32 e183 i143 (in_c 1 rfl) rfl rfl
          refine g_goto 137 (gd rfl) rfl ?_
          have v137 : w137_32_4 = (sL sc137 88 y137_4.toNatClampNeg z181).2.2.1 32 4 := sL_F (v137_32_4)
          have v137a : w137_32_0 = (sL sc137 88 y137_4.toNatClampNeg z181).2.2.1 32 0 := sL_F (v137_32_0)
          have n137 : (w137_32_4).toInt = (w137_32_0).toInt := by have a0 := i143a; unfold In at a0; have a1 := (inv_F hIc137 0 4000 rfl v137_32_0); unfold In at a1; have a2 := (inv_F hIc137 (-1) 4000 rfl v137_32_4); unfold In at a2; have a3 := i143; unfold In at a3; have a4 := i183; unfold In at a4; have a5 := t_add e183 i143 (in_c 1 rfl) rfl; have a6 := (in_c 1 rfl); unfold In at a6; have a7 := tx_i2l e169; have a8 := tx_i2l e163; have a9 := tx_i2l e159; omega
          exact gg_w (by omega) (gg_f (gf_cons rfl (gf_cons rfl (gf_cons rfl (gf_cons rfl gf_nil)))) (ih137 (sL sc137 88 y137_4.toNatClampNeg z181) y137_2 z183 w137_32_4 w137_32_0 hI182 (fr_sL rfl hFc137) (in_w 0 32 i183 rfl) v137 v137a n137 (m_up mm137 (t_add e183 i143 (in_c 1 rfl) rfl) (in_w 1 1 (in_c 1 rfl) rfl))))
        · skip
          have i172 := z_lt (-1) (-1) c172 i171 rfl
          have c172a := lc_lt e171 c172
          have i172a := lr_lt2 1 9223372036854775807 c172a i163 (l_rng z170) rfl
          refine g_lconst 1 176 (gd rfl) rfl rfl ?_
          refine g_goto 180 (gd rfl) rfl ?_
          refine g_ladd 181 (gd rfl) rfl (fun z180 e180 => ?_)
          refine g_ladd 182 (gd rfl) rfl (fun z181 e181 => ?_)
          refine g_lastore 183 (gd rfl) rfl (n := 32) rfl (in_ix i143 rfl) ?_
          have hI182 := inv_sL (q := 88) (j := y137_4.toNatClampNeg) (x := z181) hIc137 rfl (l_rng z181)
          refine g_iinc 186 (gd rfl) rfl rfl (Nat.le_of_ble_eq_true rfl) (fun z183 e183 => ?_)
          have i183 := in_add 1 32 e183 i143 (in_c 1 rfl) rfl rfl
          refine g_goto 137 (gd rfl) rfl ?_
          have v137 : w137_32_4 = (sL sc137 88 y137_4.toNatClampNeg z181).2.2.1 32 4 := sL_F (v137_32_4)
          have v137a : w137_32_0 = (sL sc137 88 y137_4.toNatClampNeg z181).2.2.1 32 0 := sL_F (v137_32_0)
          have n137 : (w137_32_4).toInt = (w137_32_0).toInt := by have a0 := i143a; unfold In at a0; have a1 := (inv_F hIc137 0 4000 rfl v137_32_0); unfold In at a1; have a2 := (inv_F hIc137 (-1) 4000 rfl v137_32_4); unfold In at a2; have a3 := i143; unfold In at a3; have a4 := i183; unfold In at a4; have a5 := t_add e183 i143 (in_c 1 rfl) rfl; have a6 := (in_c 1 rfl); unfold In at a6; have a7 := tx_i2l e169; have a8 := tx_i2l e163; have a9 := tx_i2l e159; omega
          exact gg_w (by omega) (gg_f (gf_cons rfl (gf_cons rfl (gf_cons rfl (gf_cons rfl gf_nil)))) (ih137 (sL sc137 88 y137_4.toNatClampNeg z181) y137_2 z183 w137_32_4 w137_32_0 hI182 (fr_sL rfl hFc137) (in_w 0 32 i183 rfl) v137 v137a n137 (m_up mm137 (t_add e183 i143 (in_c 1 rfl) rfl) (in_w 1 1 (in_c 1 rfl) rfl))))
  have ct13 : ∀ (k13 : Nat) (sc13 : GS) (y13_2 : Int64) (y13_4 : Int32) (w13_32_4 : Int32) (w13_32_0 : Int32), Inv sc13 → Fr fm_110_86_32 s sc13 → (In y13_4 0 32) → (w13_32_4 = sc13.2.2.1 32 4) → (w13_32_0 = sc13.2.2.1 32 0) → ((w13_32_4).toInt = (w13_32_0).toInt) → 32 - (y13_4).toInt < (k13 : Int) → GG Z (d - 1) 110 post (gx xp) (29702 + k13 * 147601) 13 (fun j => xlook j [(0, .ref (A 86)), (1, .ref (A 32)), (2, .long y13_2), (4, .int y13_4)]) [] (WW Z A sc13 ++ ex) 0 0 := by
    intro k13
    induction k13 with
    | zero => intro sc13 y13_2 y13_4 w13_32_4 w13_32_0 hIc13 hFc13 j13_4 v13_32_4 v13_32_0 n13_0 mm13; exact m_no mm13 j13_4 rfl
    | succ k13 ih13 =>
      intro sc13 y13_2 y13_4 w13_32_4 w13_32_0 hIc13 hFc13 j13_4 v13_32_4 v13_32_0 n13_0 mm13
      refine gg_w (M := 29702 + k13 * 147601 + 147601) (by omega) ?_
      have ct69 : ∀ (k69 : Nat) (sc69 : GS) (y69_5 : Int32) (y69_6 : Int64) (y69_8 : Int32) (w69_32_4 : Int32) (w69_32_0 : Int32), Inv sc69 → Fr fm_110_86_32 s sc69 → (In y13_4 0 31) → (In y69_5 (-160) 160) → (In y69_8 0 160) → (w69_32_4 = sc69.2.2.1 32 4) → (w69_32_0 = sc69.2.2.1 32 0) → ((w69_32_4).toInt = (w69_32_0).toInt) → 160 - (y69_8).toInt < (k69 : Int) → GG Z (d - 1) 110 post (gx xp) (29702 + k13 * 147601 + 1 + k69 * 900) 69 (fun j => xlook j [(0, .ref (A 86)), (1, .ref (A 32)), (2, .long y13_2), (4, .int y13_4), (5, .int y69_5), (6, .long y69_6), (8, .int y69_8)]) [] (WW Z A sc69 ++ ex) 0 0 := by
        intro k69
        induction k69 with
        | zero => intro sc69 y69_5 y69_6 y69_8 w69_32_4 w69_32_0 hIc69 hFc69 j69_4 j69_5 j69_8 v69_32_4 v69_32_0 n69_0 mm69; exact m_no mm69 j69_8 rfl
        | succ k69 ih69 =>
          intro sc69 y69_5 y69_6 y69_8 w69_32_4 w69_32_0 hIc69 hFc69 j69_4 j69_5 j69_8 v69_32_4 v69_32_0 n69_0 mm69
          refine gg_w (M := 29702 + k13 * 147601 + 1 + k69 * 900 + 900) (by omega) ?_
          refine g_iload 71 (gd rfl) rfl rfl ?_
          refine g_aload_n 72 (gd rfl) rfl rfl ?_
          refine g_getA (q2 := 42) 75 (gd rfl) rfl rfl rfl rfl ?_
          refine g_iload 77 (gd rfl) rfl rfl ?_
          refine g_iconst 1 78 (gd rfl) rfl rfl ?_
          refine g_iadd 79 (gd rfl) rfl (fun z78 e78 => ?_)
          have i78 := in_add 1 32 e78 j69_4 (in_c 1 rfl) rfl rfl
          refine g_iaload 80 (gd rfl) rfl (n := 33) rfl (in_ix i78 rfl) (fun z79 e79 => ?_)
          have i79 := inv_I hIc69 (n := 33) (t := 0) 0 160 rfl (in_ix i78 rfl) rfl e79
          refine g_cmp_ge 83 111 (gd rfl) rfl rfl (fun c80 => ?_) (fun c80 => ?_)
          · skip
            refine g_lload_n 112 (gd rfl) rfl rfl ?_
            refine g_aload_n 113 (gd rfl) rfl rfl ?_
            refine g_getA (q2 := 87) 116 (gd rfl) rfl rfl rfl rfl ?_
            refine g_iload 118 (gd rfl) rfl rfl ?_
            refine g_laload 119 (gd rfl) rfl (n := 32) rfl (in_ix j69_4 rfl) (fun z118 e118 => ?_)
            refine g_lload 121 (gd rfl) rfl rfl ?_
            refine g_iload 123 (gd rfl) rfl rfl ?_
            refine g_i2l 124 (gd rfl) rfl (fun z123 e123 => ?_)
            have i123 := l_i e123 j69_5
            refine g_lmul 125 (gd rfl) rfl (fun z124 e124 => ?_)
            refine g_lsub 126 (gd rfl) rfl (fun z125 e125 => ?_)
            refine g_ladd 127 (gd rfl) rfl (fun z126 e126 => ?_)
            refine g_lstore_n 128 (gd rfl) rfl (Nat.le_of_ble_eq_true rfl) ?_
            refine g_iinc 131 (gd rfl) rfl rfl (Nat.le_of_ble_eq_true rfl) (fun z128 e128 => ?_)
            have i128 := in_add 1 32 e128 j69_4 (in_c 1 rfl) rfl rfl
            refine g_goto 13 (gd rfl) rfl ?_
            have n13 : (w69_32_4).toInt = (w69_32_0).toInt := by have a0 := j69_4; unfold In at a0; have a1 := ro_32_1; unfold In at a1; have a2 := (inv_F hIc69 0 4000 rfl v69_32_0); unfold In at a2; have a3 := (inv_F hIc69 (-1) 4000 rfl v69_32_4); unfold In at a3; have a4 := j69_8; unfold In at a4; have a5 := j69_5; unfold In at a5; have a6 := i128; unfold In at a6; have a7 := t_add e128 j69_4 (in_c 1 rfl) rfl; have a8 := (in_c 1 rfl); unfold In at a8; have a9 := tx_i2l e123; have a10 := i78; unfold In at a10; have a11 := t_add e78 j69_4 (in_c 1 rfl) rfl; omega
            exact gg_w (by omega) (gg_f (gf_cons rfl (gf_cons rfl (gf_cons rfl (gf_cons rfl gf_nil)))) (ih13 sc69 z126 z128 w69_32_4 w69_32_0 hIc69 hFc69 (in_w 0 32 i128 rfl) v69_32_4 v69_32_0 n13 (m_up mm13 (t_add e128 j69_4 (in_c 1 rfl) rfl) (in_w 1 1 (in_c 1 rfl) rfl))))
          · skip
            have i80 := r_lt1 0 159 c80 j69_8 i79 rfl
            have i80a := r_lt2 1 160 c80 j69_8 i79 rfl
            refine g_aload_n 84 (gd rfl) rfl rfl ?_
            refine g_getA (q2 := 88) 87 (gd rfl) rfl rfl rfl rfl ?_
            refine g_aload_n 88 (gd rfl) rfl rfl ?_
            refine g_getA (q2 := 35) 91 (gd rfl) rfl rfl rfl rfl ?_
            refine g_aload_n 92 (gd rfl) rfl rfl ?_
            refine g_getA (q2 := 43) 95 (gd rfl) rfl rfl rfl rfl ?_
            refine g_iload 97 (gd rfl) rfl rfl ?_
            refine g_iaload 98 (gd rfl) rfl (n := 160) rfl (in_ix i80 rfl) (fun z97 e97 => ?_)
            have i97 := inv_I hIc69 (n := 160) (t := 0) 0 159 rfl (in_ix i80 rfl) rfl e97
            refine g_iaload 99 (gd rfl) rfl (n := 160) rfl (in_ix i97 rfl) (fun z98 e98 => ?_)
            have i98 := inv_I hIc69 (n := 160) (t := 0) 0 31 rfl (in_ix i97 rfl) rfl e98
            refine g_dup2 100 (gd rfl) rfl rfl rfl ?_
            refine g_laload 101 (gd rfl) rfl (n := 32) rfl (in_ix i98 rfl) (fun z100 e100 => ?_)
            refine g_lload 103 (gd rfl) rfl rfl ?_
            refine g_ladd 104 (gd rfl) rfl (fun z103 e103 => ?_)
            refine g_lastore 105 (gd rfl) rfl (n := 32) rfl (in_ix i98 rfl) ?_
            have hI104 := inv_sL (q := 88) (j := z98.toNatClampNeg) (x := z103) hIc69 rfl (l_rng z103)
            refine g_iinc 108 (gd rfl) rfl rfl (Nat.le_of_ble_eq_true rfl) (fun z105 e105 => ?_)
            have i105 := in_add 1 160 e105 i80 (in_c 1 rfl) rfl rfl
            refine g_goto 69 (gd rfl) rfl ?_
            have v69 : w69_32_4 = (sL sc69 88 z98.toNatClampNeg z103).2.2.1 32 4 := sL_F (v69_32_4)
            have v69a : w69_32_0 = (sL sc69 88 z98.toNatClampNeg z103).2.2.1 32 0 := sL_F (v69_32_0)
            have n69 : (w69_32_4).toInt = (w69_32_0).toInt := by have a0 := j69_4; unfold In at a0; have a1 := ro_32_1; unfold In at a1; have a2 := (inv_F hIc69 0 4000 rfl v69_32_0); unfold In at a2; have a3 := (inv_F hIc69 (-1) 4000 rfl v69_32_4); unfold In at a3; have a4 := i80; unfold In at a4; have a5 := j69_5; unfold In at a5; have a6 := i105; unfold In at a6; have a7 := t_add e105 i80 (in_c 1 rfl) rfl; have a8 := (in_c 1 rfl); unfold In at a8; have a9 := i78; unfold In at a9; have a10 := t_add e78 j69_4 (in_c 1 rfl) rfl; omega
            exact gg_w (by omega) (gg_f (gf_cons rfl (gf_cons rfl (gf_cons rfl (gf_cons rfl (gf_cons rfl (gf_cons rfl (gf_cons rfl gf_nil))))))) (ih69 (sL sc69 88 z98.toNatClampNeg z103) y69_5 y69_6 z105 w69_32_4 w69_32_0 hI104 (fr_sL rfl hFc69) (in_w 0 31 j69_4 rfl) (in_w (-160) 160 j69_5 rfl) (in_w 0 160 i105 rfl) v69 v69a n69 (m_up mm69 (t_add e105 i80 (in_c 1 rfl) rfl) (in_w 1 1 (in_c 1 rfl) rfl))))
      refine g_iload 15 (gd rfl) rfl rfl ?_
      refine g_aload_n 16 (gd rfl) rfl rfl ?_
      refine g_getI 19 (gd rfl) rfl rfl rfl (fun z16 e16 => ?_)
      have q16 : u_32_1 = z16 := (fr_F e_32_1 hFc13 rfl).trans e16.symm
      subst q16
      refine g_cmp_ge 22 134 (gd rfl) rfl rfl (fun c19 => ?_) (fun c19 => ?_)
      · skip
        refine g_iconst 0 135 (gd rfl) rfl rfl ?_
        refine g_istore 137 (gd rfl) rfl (Nat.le_of_ble_eq_true rfl) ?_
        have n137 : (w13_32_4).toInt = (w13_32_0).toInt := by have a0 := ro_32_1; unfold In at a0; have a1 := (inv_F hIc13 0 4000 rfl v13_32_0); unfold In at a1; have a2 := (inv_F hIc13 (-1) 4000 rfl v13_32_4); unfold In at a2; have a3 := j13_4; unfold In at a3; have a4 := (in_c 0 rfl); unfold In at a4; omega
        exact gg_w (by omega) (gg_f (gf_cons rfl (gf_cons rfl (gf_cons rfl (gf_cons rfl gf_nil)))) (ct137 33 sc13 y13_2 (Int32.ofInt 0) w13_32_4 w13_32_0 hIc13 hFc13 (in_w 0 32 (in_c 0 rfl) rfl) v13_32_4 v13_32_0 n137 (m_in 33 (in_w 0 32 (in_c 0 rfl) rfl) rfl)))
      · skip
        have i19 := r_lt1 0 31 c19 j13_4 ro_32_1 rfl
        have i19a := r_lt2 1 32 c19 j13_4 ro_32_1 rfl
        refine g_aload_n 23 (gd rfl) rfl rfl ?_
        refine g_iload 25 (gd rfl) rfl rfl ?_
        refine g_callv (X := _) (As := [.int y13_4]) (r := []) (b := A 32) (q := 32) 28 (gd rfl) rfl rfl rfl rfl rfl (ww_o rfl) (Nat.le_of_ble_eq_true rfl) (mc := 0) (ms := 0) (Nat.zero_le _) (Nat.zero_le _) (P := fun v u => _) ?_ (fun e u h => h) (fun v u h => h)
        intro po25 xx25 hp25 hx25
        refine g_enter2 (k := 103) (N := 300) (by omega) rfl (Nat.le_of_ble_eq_true rfl) ?_
        refine g_aload_n 1 (gd rfl) rfl rfl ?_
        refine g_getA (q2 := 42) 4 (gd rfl) rfl rfl rfl rfl ?_
        refine g_iload_n 5 (gd rfl) rfl rfl ?_
        refine g_iconst 1 6 (gd rfl) rfl rfl ?_
        refine g_iadd 7 (gd rfl) rfl (fun z25x6 e25x6 => ?_)
        have i25x6 := in_add 1 32 e25x6 i19 (in_c 1 rfl) rfl rfl
        refine g_iaload 8 (gd rfl) rfl (n := 33) rfl (in_ix i25x6 rfl) (fun z25x7 e25x7 => ?_)
        have i25x7 := inv_I hIc13 (n := 33) (t := 0) 0 160 rfl (in_ix i25x6 rfl) rfl e25x7
        refine g_aload_n 9 (gd rfl) rfl rfl ?_
        refine g_getA (q2 := 42) 12 (gd rfl) rfl rfl rfl rfl ?_
        refine g_iload_n 13 (gd rfl) rfl rfl ?_
        refine g_iaload 14 (gd rfl) rfl (n := 33) rfl (in_ix i19 rfl) (fun z25x13 e25x13 => ?_)
        have i25x13 := inv_I hIc13 (n := 33) (t := 0) 0 160 rfl (in_ix i19 rfl) rfl e25x13
        refine g_isub 15 (gd rfl) rfl (fun z25x14 e25x14 => ?_)
        have i25x14 := in_sub (-160) 160 e25x14 i25x7 i25x13 rfl rfl
        refine g_ireturn (gd rfl) rfl rfl (hp25 _ _ ?_)
        show GG _ _ _ _ _ _ _ _ [.int z25x14] _ _ _
        refine g_istore 30 (gd rfl) rfl (Nat.le_of_ble_eq_true rfl) ?_
        refine g_iload 32 (gd rfl) rfl rfl ?_
        refine g_if_ne 35 39 (gd rfl) rfl rfl (fun c32 => ?_) (fun c32 => ?_)
        · skip
          refine g_aload_n 40 (gd rfl) rfl rfl ?_
          refine g_getA (q2 := 87) 43 (gd rfl) rfl rfl rfl rfl ?_
          refine g_iload 45 (gd rfl) rfl rfl ?_
          refine g_laload 46 (gd rfl) rfl (n := 32) rfl (in_ix i19 rfl) (fun z45 e45 => ?_)
          refine g_ldc2_w 85 49 (gd rfl) rfl rfl ?_
          refine g_lmul 50 (gd rfl) rfl (fun z49 e49 => ?_)
          refine g_ldc2_w 100 53 (gd rfl) rfl rfl ?_
          refine g_iload 55 (gd rfl) rfl rfl ?_
          refine g_i2l 56 (gd rfl) rfl (fun z55 e55 => ?_)
          have i55 := l_i e55 i25x14
          refine g_lmul 57 (gd rfl) rfl (fun z56 e56 => ?_)
          have i56 := l_mulc 100 (-16000) 16000 (Or.inl e56) i55 rfl
          have nz57 : (z56).toInt ≠ 0 := by exact l_nz100 e56 e55 (by have a0 := i19a; unfold In at a0; have a1 := (inv_F hIc13 0 4000 rfl v13_32_0); unfold In at a1; have a2 := (inv_F hIc13 (-1) 4000 rfl v13_32_4); unfold In at a2; have a3 := i19; unfold In at a3; have a4 := i25x14; unfold In at a4; have a5 := t_sub e25x14 i25x7 i25x13 rfl; have a6 := i25x13; unfold In at a6; have a7 := i25x7; unfold In at a7; have a8 := tx_i2l e55; have a9 := i25x6; unfold In at a9; have a10 := t_add e25x6 i19 (in_c 1 rfl) rfl; have a11 := (in_c 1 rfl); unfold In at a11; omega) (by have a0 := i19a; unfold In at a0; have a1 := (inv_F hIc13 0 4000 rfl v13_32_0); unfold In at a1; have a2 := (inv_F hIc13 (-1) 4000 rfl v13_32_4); unfold In at a2; have a3 := i19; unfold In at a3; have a4 := i25x14; unfold In at a4; have a5 := t_sub e25x14 i25x7 i25x13 rfl; have a6 := i25x13; unfold In at a6; have a7 := i25x7; unfold In at a7; have a8 := tx_i2l e55; have a9 := i25x6; unfold In at a9; have a10 := t_add e25x6 i19 (in_c 1 rfl) rfl; have a11 := (in_c 1 rfl); unfold In at a11; omega) (by have a0 := i19a; unfold In at a0; have a1 := (inv_F hIc13 0 4000 rfl v13_32_0); unfold In at a1; have a2 := (inv_F hIc13 (-1) 4000 rfl v13_32_4); unfold In at a2; have a3 := i19; unfold In at a3; have a4 := i25x14; unfold In at a4; have a5 := t_sub e25x14 i25x7 i25x13 rfl; have a6 := i25x13; unfold In at a6; have a7 := i25x7; unfold In at a7; have a8 := tx_i2l e55; have a9 := i25x6; unfold In at a9; have a10 := t_add e25x6 i19 (in_c 1 rfl) rfl; have a11 := (in_c 1 rfl); unfold In at a11; omega)
          refine g_ldiv 58 (gd rfl) rfl (lnz nz57) (fun z57 e57 => ?_)
          refine g_lstore 60 (gd rfl) rfl (Nat.le_of_ble_eq_true rfl) ?_
          refine g_aload_n 61 (gd rfl) rfl rfl ?_
          refine g_getA (q2 := 42) 64 (gd rfl) rfl rfl rfl rfl ?_
          refine g_iload 66 (gd rfl) rfl rfl ?_
          refine g_iaload 67 (gd rfl) rfl (n := 33) rfl (in_ix i19 rfl) (fun z66 e66 => ?_)
          have q66 : z25x13 = z66 := (e25x13).trans e66.symm
          subst q66
          refine g_istore 69 (gd rfl) rfl (Nat.le_of_ble_eq_true rfl) ?_
          have n69 : (w13_32_4).toInt = (w13_32_0).toInt := by have a0 := i19a; unfold In at a0; have a1 := (inv_F hIc13 0 4000 rfl v13_32_0); unfold In at a1; have a2 := (inv_F hIc13 (-1) 4000 rfl v13_32_4); unfold In at a2; have a3 := i19; unfold In at a3; have a4 := i25x13; unfold In at a4; have a5 := i25x14; unfold In at a5; have a6 := t_sub e25x14 i25x7 i25x13 rfl; have a7 := i25x7; unfold In at a7; have a8 := tx_i2l e55; have a9 := i25x6; unfold In at a9; have a10 := t_add e25x6 i19 (in_c 1 rfl) rfl; have a11 := (in_c 1 rfl); unfold In at a11; omega
          exact gg_w (by omega) (gg_f (gf_cons rfl (gf_cons rfl (gf_cons rfl (gf_cons rfl (gf_cons rfl (gf_cons rfl (gf_cons rfl gf_nil))))))) (ct69 161 sc13 z25x14 z57 z25x13 w13_32_4 w13_32_0 hIc13 hFc13 (in_w 0 31 i19 rfl) (in_w (-160) 160 i25x14 rfl) (in_w 0 160 i25x13 rfl) v13_32_4 v13_32_0 n69 (m_in 161 (in_w 0 160 i25x13 rfl) rfl)))
        · skip
          have i32 := z_eq 0 0 c32 i25x14 rfl
          refine g_lconst 0 36 (gd rfl) rfl rfl ?_
          refine g_goto 58 (gd rfl) rfl ?_
          refine g_lstore 60 (gd rfl) rfl (Nat.le_of_ble_eq_true rfl) ?_
          refine g_aload_n 61 (gd rfl) rfl rfl ?_
          refine g_getA (q2 := 42) 64 (gd rfl) rfl rfl rfl rfl ?_
          refine g_iload 66 (gd rfl) rfl rfl ?_
          refine g_iaload 67 (gd rfl) rfl (n := 33) rfl (in_ix i19 rfl) (fun z66 e66 => ?_)
          have q66 : z25x13 = z66 := (e25x13).trans e66.symm
          subst q66
          refine g_istore 69 (gd rfl) rfl (Nat.le_of_ble_eq_true rfl) ?_
          have n69 : (w13_32_4).toInt = (w13_32_0).toInt := by have a0 := i19a; unfold In at a0; have a1 := (inv_F hIc13 0 4000 rfl v13_32_0); unfold In at a1; have a2 := (inv_F hIc13 (-1) 4000 rfl v13_32_4); unfold In at a2; have a3 := i19; unfold In at a3; have a4 := i25x13; unfold In at a4; have a5 := i32; unfold In at a5; have a6 := t_sub e25x14 i25x7 i25x13 rfl; have a7 := i25x7; unfold In at a7; have a8 := i25x6; unfold In at a8; have a9 := t_add e25x6 i19 (in_c 1 rfl) rfl; have a10 := (in_c 1 rfl); unfold In at a10; omega
          exact gg_w (by omega) (gg_f (gf_cons rfl (gf_cons rfl (gf_cons rfl (gf_cons rfl (gf_cons rfl (gf_cons rfl (gf_cons rfl gf_nil))))))) (ct69 161 sc13 z25x14 (Int64.ofInt 0) z25x13 w13_32_4 w13_32_0 hIc13 hFc13 (in_w 0 31 i19 rfl) (in_w (-160) 160 i32 rfl) (in_w 0 160 i25x13 rfl) v13_32_4 v13_32_0 n69 (m_in 161 (in_w 0 160 i25x13 rfl) rfl)))
  refine g_enter2 (k := 110) (N := 4901435) (by omega) rfl (Nat.le_of_ble_eq_true rfl) ?_
  refine g_lconst 0 1 (gd rfl) rfl rfl ?_
  refine g_lstore_n 2 (gd rfl) rfl (Nat.le_of_ble_eq_true rfl) ?_
  refine g_aload_n 3 (gd rfl) rfl rfl ?_
  refine g_getA (q2 := 88) 6 (gd rfl) rfl rfl rfl rfl ?_
  refine g_lconst 0 7 (gd rfl) rfl rfl ?_
  refine g_calls (As := [.ref (A 88), .long (Int64.ofInt 0)]) (r := []) 10 (gd rfl) rfl rfl rfl rfl rfl (Nat.le_of_ble_eq_true rfl) (Nat.zero_le _) (Nat.zero_le _) (k_fillL 88 (by omega) hI (n := 32) rfl rfl rfl (l_rng (Int64.ofInt 0))) (fun v u h => ?_)
  obtain ⟨s7, hI7, hF7, rfl, rfl, fl7⟩ := h
  show GG _ _ _ _ _ _ _ _ [] _ _ _
  refine g_iconst 0 11 (gd rfl) rfl rfl ?_
  refine g_istore 13 (gd rfl) rfl (Nat.le_of_ble_eq_true rfl) ?_
  have v13 : u_32_4 = s7.2.2.1 32 4 := fr_F (e_32_4) hF7 rfl
  have v13a : u_32_0 = s7.2.2.1 32 0 := fr_F (e_32_0) hF7 rfl
  have n13 : (u_32_4).toInt = (u_32_0).toInt := by have a0 := ro_32_1; unfold In at a0; have a1 := (inv_F hI 0 4000 rfl e_32_0); unfold In at a1; have a2 := (inv_F hI (-1) 4000 rfl e_32_4); unfold In at a2; have a3 := (in_c 0 rfl); unfold In at a3; omega
  exact gg_w (by omega) (gg_f (gf_cons rfl (gf_cons rfl (gf_cons rfl (gf_cons rfl gf_nil)))) (ct13 33 s7 (Int64.ofInt 0) (Int32.ofInt 0) u_32_4 u_32_0 hI7 (fr_tr rfl fr_rf hF7) (in_w 0 32 (in_c 0 rfl) rfl) v13 v13a n13 (m_in 33 (in_w 0 32 (in_c 0 rfl) rfl) rfl)))

def fm_109_86_2 : FM := ([9, 10, 11, 12, 13, 14, 15], [87, 88], [(2, 4), (86, 0), (86, 1)], [])
/-- GraphHouse$Groups.unitsOf -/
theorem k_109_86_2 {Z : AmZ} {A : Nat → Nat} {s : GS} {ex : va_W} {d : Nat} {X : AmX} {x2 : Int32} {x3 : Int32} (hd : 4 ≤ d) (hI : Inv s) (h2 : In x2 0 31) (h3 : In x3 0 40) : GC Z d 109 [.ref (A 86), .ref (A 2), .int x2, .int x3] (WW Z A s ++ ex) 0 0 (fun v u => ∃ xa ya : Nat, ∃ t : GS, Inv t ∧ Fr fm_109_86_2 s t ∧ ∃ z : Int64, v = some (.long z) ∧ u = WW Z (a2 A xa ya) t ++ ex) X := by
  intro post xp hP hX
  obtain ⟨u_2_0, e_2_0⟩ : ∃ w, w = s.2.2.1 2 0 := ⟨_, rfl⟩
  have ro_2_0 := inv_F hI 0 4000 rfl e_2_0
  have ct46 : ∀ (k46 : Nat) (sc46 : GS) (xc46 : Nat) (yc46 : Nat) (w46_86_1 : Int32) (w46_2_4 : Int32) (w46_2_0 : Int32), Inv sc46 → Fr fm_109_86_2 s sc46 → (w46_86_1 = sc46.2.2.1 86 1) → (w46_2_4 = sc46.2.2.1 2 4) → (w46_2_0 = sc46.2.2.1 2 0) → ((w46_2_4).toInt = (w46_2_0).toInt) → 41 - (w46_86_1).toInt < (k46 : Int) → GG Z (d - 1) 109 post (gx xp) (1 + k46 * 900) 46 (fun j => xlook j [(0, .ref (A 86)), (1, .ref (A 2)), (2, .int x2), (3, .int x3)]) [] (WW Z (a2 A xc46 yc46) sc46 ++ ex) 0 0 := by
    intro k46
    induction k46 with
    | zero => intro sc46 xc46 yc46 w46_86_1 w46_2_4 w46_2_0 hIc46 hFc46 v46_86_1 v46_2_4 v46_2_0 n46_0 mm46; exfalso; have a0 := h3; unfold In at a0; have a1 := h2; unfold In at a1; have a2 := (inv_F hIc46 0 4000 rfl v46_2_0); unfold In at a2; have a3 := (inv_F hIc46 (-1) 4000 rfl v46_2_4); unfold In at a3; have a4 := (inv_F hIc46 0 40 rfl v46_86_1); unfold In at a4; omega
    | succ k46 ih46 =>
      intro sc46 xc46 yc46 w46_86_1 w46_2_4 w46_2_0 hIc46 hFc46 v46_86_1 v46_2_4 v46_2_0 n46_0 mm46
      refine gg_w (M := 1 + k46 * 900 + 900) (by omega) ?_
      refine g_aload_n 47 (gd rfl) rfl rfl ?_
      refine g_getI (A := (a2 A xc46 yc46)) (q := 86) 50 (gd rfl) rfl rfl rfl (fun z47 e47 => ?_)
      have q47 : w46_86_1 = z47 := (v46_86_1).trans e47.symm
      subst q47
      refine g_iload_n 51 (gd rfl) rfl rfl ?_
      refine g_cmp_ge 54 72 (gd rfl) rfl rfl (fun c51 => ?_) (fun c51 => ?_)
      · skip
        refine g_aload_n 73 (gd rfl) rfl rfl ?_
        refine g_getA (A := (a2 A xc46 yc46)) (q := 86) (q2 := 87) 76 (gd rfl) rfl rfl rfl rfl ?_
        refine g_iload_n 77 (gd rfl) rfl rfl ?_
        refine g_laload (A := (a2 A xc46 yc46)) (q := 87) 78 (gd rfl) rfl (n := 32) rfl (in_ix h2 rfl) (fun z77 e77 => ?_)
        exact g_lreturn (gd rfl) rfl (hP _ _ ⟨xc46, yc46, sc46, hIc46, hFc46, z77, rfl, rfl⟩)
      · skip
        have i51 := r_lt1 0 39 c51 (inv_F hIc46 0 40 rfl v46_86_1) h3 rfl
        have i51a := r_lt2 1 40 c51 (inv_F hIc46 0 40 rfl v46_86_1) h3 rfl
        refine g_aload_n 55 (gd rfl) rfl rfl ?_
        refine g_aload_n 56 (gd rfl) rfl rfl ?_
        have n56 : (w46_2_4).toInt = (w46_2_0).toInt := by have a0 := i51a; unfold In at a0; have a1 := h2; unfold In at a1; have a2 := (inv_F hIc46 0 4000 rfl v46_2_0); unfold In at a2; have a3 := (inv_F hIc46 (-1) 4000 rfl v46_2_4); unfold In at a3; have a4 := i51; unfold In at a4; omega
        refine g_callv (X := _) (As := [.ref (A 2)]) (r := []) (b := A 86) (q := 86) 59 (gd rfl) rfl rfl rfl rfl rfl (ww_o rfl) (Nat.le_of_ble_eq_true rfl) (Nat.zero_le _) (Nat.zero_le _) (k_110_86_2 (A := (a2 A xc46 yc46)) (by omega) hIc46 v46_2_4 v46_2_0 n56) (fun e u h => h) (fun v u h => ?_)
        obtain ⟨xa56, ya56, s56, hI56, hF56, rfl, rfl⟩ := h
        rw [a2_a2]
        show GG _ _ _ _ _ _ _ _ [] _ _ _
        refine g_aload_n 60 (gd rfl) rfl rfl ?_
        refine g_dup 61 (gd rfl) rfl rfl ?_
        refine g_getI (A := (a2 A xa56 ya56)) (q := 86) 64 (gd rfl) rfl rfl rfl (fun z61 e61 => ?_)
        have q61 : w46_86_1 = z61 := (fr_F (v46_86_1) hF56 rfl).trans e61.symm
        subst q61
        refine g_iconst 1 65 (gd rfl) rfl rfl ?_
        refine g_iadd 66 (gd rfl) rfl (fun z65 e65 => ?_)
        have i65 := in_add 1 40 e65 i51 (in_c 1 rfl) rfl rfl
        refine g_putI (A := (a2 A xa56 ya56)) (q := 86) 69 (gd rfl) rfl rfl rfl rfl ?_
        have hI66 := inv_sF (q := 86) (j := 1) hI56 rfl (in_w 0 40 i65 rfl)
        refine g_goto 46 (gd rfl) rfl ?_
        have v46 : z65 = (sF s56 86 1 z65).2.2.1 86 1 := sF_get
        have v46a : w46_2_4 = (sF s56 86 1 z65).2.2.1 2 4 := sF_ne rfl (fr_F (v46_2_4) hF56 rfl)
        have v46b : w46_2_0 = (sF s56 86 1 z65).2.2.1 2 0 := sF_ne rfl (fr_F (v46_2_0) hF56 rfl)
        have n46 : (w46_2_4).toInt = (w46_2_0).toInt := by have a0 := i51a; unfold In at a0; have a1 := h2; unfold In at a1; have a2 := (inv_F hIc46 0 4000 rfl v46_2_0); unfold In at a2; have a3 := (inv_F hIc46 (-1) 4000 rfl v46_2_4); unfold In at a3; have a4 := i51; unfold In at a4; have a5 := i65; unfold In at a5; have a6 := t_add e65 i51 (in_c 1 rfl) rfl; have a7 := (in_c 1 rfl); unfold In at a7; omega
        have m46 : 41 - (z65).toInt < ((k46 : Nat) : Int) := by have a0 := i51a; unfold In at a0; have a1 := h2; unfold In at a1; have a2 := (inv_F hIc46 0 4000 rfl v46_2_0); unfold In at a2; have a3 := (inv_F hIc46 (-1) 4000 rfl v46_2_4); unfold In at a3; have a4 := i51; unfold In at a4; have a5 := i65; unfold In at a5; have a6 := t_add e65 i51 (in_c 1 rfl) rfl; have a7 := (in_c 1 rfl); unfold In at a7; omega
        exact gg_w (by omega) (gg_f (gf_cons rfl (gf_cons rfl (gf_cons rfl (gf_cons rfl gf_nil)))) (ih46  (sF s56 86 1 z65) xa56 ya56 z65 w46_2_4 w46_2_0 hI66 (fr_sF rfl (fr_tr rfl hFc46 hF56)) v46 v46a v46b n46 m46))
  refine g_enter2 (k := 109) (N := 38701) (by omega) rfl (Nat.le_of_ble_eq_true rfl) ?_
  refine g_aload_n 1 (gd rfl) rfl rfl ?_
  refine g_getI 4 (gd rfl) rfl rfl rfl (fun z1 e1 => ?_)
  have i1 := inv_F hI (-1) 4000 rfl e1
  refine g_aload_n 5 (gd rfl) rfl rfl ?_
  refine g_getI 8 (gd rfl) rfl rfl rfl (fun z5 e5 => ?_)
  have q5 : u_2_0 = z5 := (e_2_0).trans e5.symm
  subst q5
  refine g_cmp_ne 11 19 (gd rfl) rfl rfl (fun c8 => ?_) (fun c8 => ?_)
  · skip
    refine g_aload_n 20 (gd rfl) rfl rfl ?_
    refine g_aload_n 21 (gd rfl) rfl rfl ?_
    refine g_getI 24 (gd rfl) rfl rfl rfl (fun z21 e21 => ?_)
    have q21 : u_2_0 = z21 := (e_2_0).trans e21.symm
    subst q21
    refine g_putI 27 (gd rfl) rfl rfl rfl rfl ?_
    have hI24 := inv_sF (q := 86) (j := 0) hI rfl (in_w (-1) 4000 ro_2_0 rfl)
    refine g_aload_n 28 (gd rfl) rfl rfl ?_
    refine g_iconst 0 29 (gd rfl) rfl rfl ?_
    refine g_putI 32 (gd rfl) rfl rfl rfl rfl ?_
    have hI29 := inv_sF (q := 86) (j := 1) hI24 rfl (in_w 0 40 (in_c 0 rfl) rfl)
    refine g_aload_n 33 (gd rfl) rfl rfl ?_
    refine g_getA (q2 := 87) 36 (gd rfl) rfl rfl rfl rfl ?_
    refine g_ldc2_w 1000000000000 39 (gd rfl) rfl rfl ?_
    refine g_calls (As := [.ref (A 87), .long (Int64.ofInt 1000000000000)]) (r := []) 42 (gd rfl) rfl rfl rfl rfl rfl (Nat.le_of_ble_eq_true rfl) (Nat.zero_le _) (Nat.zero_le _) (k_fillL 87 (by omega) hI29 (n := 32) rfl rfl rfl (l_rng (Int64.ofInt 1000000000000))) (fun v u h => ?_)
    obtain ⟨s39, hI39, hF39, rfl, rfl, fl39⟩ := h
    show GG _ _ _ _ _ _ _ _ [] _ _ _
    refine g_aload_n 43 (gd rfl) rfl rfl ?_
    refine g_callv (X := _) (As := []) (r := []) (b := A 2) (q := 2) 46 (gd rfl) rfl rfl rfl rfl rfl (ww_o rfl) (Nat.le_of_ble_eq_true rfl) (Nat.zero_le _) (Nat.zero_le _) (k_106_2 (by omega) hI39 ) (fun e u h => h) (fun v u h => ?_)
    obtain ⟨s43, hI43, hF43, n43, rfl, rfl⟩ := h
    obtain ⟨z43a, e43⟩ : ∃ w, w = s43.2.2.1 2 4 := ⟨_, rfl⟩
    have i43a := inv_F hI43 (-1) 4000 rfl e43
    rw [← (show z43a = s43.2.2.1 2 4 from e43)] at n43
    rw [← (show u_2_0 = s43.2.2.1 2 0 from fr_F (fr_F (s := (sF (sF s 86 0 u_2_0) 86 1 (Int32.ofInt 0))) (sF_ne rfl (sF_ne rfl (e_2_0))) hF39 rfl) hF43 rfl)] at n43
    show GG _ _ _ _ _ _ _ _ [] _ _ _
    rw [show WW Z A s43 ++ ex = WW Z (a2 A (A 87) (A 88)) s43 ++ ex from by rw [a2_id]]
    have v46 : (Int32.ofInt 0) = s43.2.2.1 86 1 := fr_F (fr_F (s := (sF (sF s 86 0 u_2_0) 86 1 (Int32.ofInt 0))) (sF_get) hF39 rfl) hF43 rfl
    have v46a : u_2_0 = s43.2.2.1 2 0 := fr_F (fr_F (s := (sF (sF s 86 0 u_2_0) 86 1 (Int32.ofInt 0))) (sF_ne rfl (sF_ne rfl (e_2_0))) hF39 rfl) hF43 rfl
    have n46 : (z43a).toInt = (u_2_0).toInt := by have a0 := ro_2_0; unfold In at a0; have a1 := h3; unfold In at a1; have a2 := h2; unfold In at a2; have a3 := i43a; unfold In at a3; have a4 := (in_c 0 rfl); unfold In at a4; omega
    have m46 : 41 - ((Int32.ofInt 0)).toInt < ((42 : Nat) : Int) := by have a0 := ro_2_0; unfold In at a0; have a1 := h3; unfold In at a1; have a2 := h2; unfold In at a2; have a3 := i43a; unfold In at a3; have a4 := (in_c 0 rfl); unfold In at a4; omega
    exact gg_w (by omega) (gg_f (gf_cons rfl (gf_cons rfl (gf_cons rfl (gf_cons rfl gf_nil)))) (ct46 42 s43 (A 87) (A 88) (Int32.ofInt 0) z43a u_2_0 hI43 (fr_tr rfl (fr_tr rfl (fr_sF rfl (fr_sF rfl fr_rf)) hF39) hF43) v46 e43 v46a n46 m46))
  · skip
    have i8 := r_eq1 0 4000 c8 i1 ro_2_0 rfl
    refine g_iload_n 12 (gd rfl) rfl rfl ?_
    refine g_aload_n 13 (gd rfl) rfl rfl ?_
    refine g_getI 16 (gd rfl) rfl rfl rfl (fun z13 e13 => ?_)
    have i13 := inv_F hI 0 40 rfl e13
    refine g_cmp_ge 19 42 (gd rfl) rfl rfl (fun c16 => ?_) (fun c16 => ?_)
    · skip
      refine g_aload_n 43 (gd rfl) rfl rfl ?_
      refine g_callv (X := _) (As := []) (r := []) (b := A 2) (q := 2) 46 (gd rfl) rfl rfl rfl rfl rfl (ww_o rfl) (Nat.le_of_ble_eq_true rfl) (Nat.zero_le _) (Nat.zero_le _) (k_106_2 (by omega) hI ) (fun e u h => h) (fun v u h => ?_)
      obtain ⟨s43, hI43, hF43, n43, rfl, rfl⟩ := h
      obtain ⟨z43a, e43⟩ : ∃ w, w = s43.2.2.1 2 4 := ⟨_, rfl⟩
      have i43a := inv_F hI43 (-1) 4000 rfl e43
      rw [← (show z43a = s43.2.2.1 2 4 from e43)] at n43
      rw [← (show u_2_0 = s43.2.2.1 2 0 from fr_F (e_2_0) hF43 rfl)] at n43
      show GG _ _ _ _ _ _ _ _ [] _ _ _
      rw [show WW Z A s43 ++ ex = WW Z (a2 A (A 87) (A 88)) s43 ++ ex from by rw [a2_id]]
      have v46 : z13 = s43.2.2.1 86 1 := fr_F (e13) hF43 rfl
      have v46a : u_2_0 = s43.2.2.1 2 0 := fr_F (e_2_0) hF43 rfl
      have n46 : (z43a).toInt = (u_2_0).toInt := by have a0 := ro_2_0; unfold In at a0; have a1 := h3; unfold In at a1; have a2 := h2; unfold In at a2; have a3 := i43a; unfold In at a3; have a4 := i13; unfold In at a4; have a5 := i8; unfold In at a5; omega
      have m46 : 41 - (z13).toInt < ((42 : Nat) : Int) := by have a0 := ro_2_0; unfold In at a0; have a1 := h3; unfold In at a1; have a2 := h2; unfold In at a2; have a3 := i43a; unfold In at a3; have a4 := i13; unfold In at a4; have a5 := i8; unfold In at a5; omega
      exact gg_w (by omega) (gg_f (gf_cons rfl (gf_cons rfl (gf_cons rfl (gf_cons rfl gf_nil)))) (ct46 42 s43 (A 87) (A 88) z13 z43a u_2_0 hI43 (fr_tr rfl fr_rf hF43) v46 e43 v46a n46 m46))
    · skip
      have i16 := r_lt1 0 39 c16 h3 i13 rfl
      have i16a := r_lt2 1 40 c16 h3 i13 rfl
      refine g_aload_n 20 (gd rfl) rfl rfl ?_
      refine g_aload_n 21 (gd rfl) rfl rfl ?_
      refine g_getI 24 (gd rfl) rfl rfl rfl (fun z21 e21 => ?_)
      have q21 : u_2_0 = z21 := (e_2_0).trans e21.symm
      subst q21
      refine g_putI 27 (gd rfl) rfl rfl rfl rfl ?_
      have hI24 := inv_sF (q := 86) (j := 0) hI rfl (in_w (-1) 4000 ro_2_0 rfl)
      refine g_aload_n 28 (gd rfl) rfl rfl ?_
      refine g_iconst 0 29 (gd rfl) rfl rfl ?_
      refine g_putI 32 (gd rfl) rfl rfl rfl rfl ?_
      have hI29 := inv_sF (q := 86) (j := 1) hI24 rfl (in_w 0 40 (in_c 0 rfl) rfl)
      refine g_aload_n 33 (gd rfl) rfl rfl ?_
      refine g_getA (q2 := 87) 36 (gd rfl) rfl rfl rfl rfl ?_
      refine g_ldc2_w 1000000000000 39 (gd rfl) rfl rfl ?_
      refine g_calls (As := [.ref (A 87), .long (Int64.ofInt 1000000000000)]) (r := []) 42 (gd rfl) rfl rfl rfl rfl rfl (Nat.le_of_ble_eq_true rfl) (Nat.zero_le _) (Nat.zero_le _) (k_fillL 87 (by omega) hI29 (n := 32) rfl rfl rfl (l_rng (Int64.ofInt 1000000000000))) (fun v u h => ?_)
      obtain ⟨s39, hI39, hF39, rfl, rfl, fl39⟩ := h
      show GG _ _ _ _ _ _ _ _ [] _ _ _
      refine g_aload_n 43 (gd rfl) rfl rfl ?_
      refine g_callv (X := _) (As := []) (r := []) (b := A 2) (q := 2) 46 (gd rfl) rfl rfl rfl rfl rfl (ww_o rfl) (Nat.le_of_ble_eq_true rfl) (Nat.zero_le _) (Nat.zero_le _) (k_106_2 (by omega) hI39 ) (fun e u h => h) (fun v u h => ?_)
      obtain ⟨s43, hI43, hF43, n43, rfl, rfl⟩ := h
      obtain ⟨z43a, e43⟩ : ∃ w, w = s43.2.2.1 2 4 := ⟨_, rfl⟩
      have i43a := inv_F hI43 (-1) 4000 rfl e43
      rw [← (show z43a = s43.2.2.1 2 4 from e43)] at n43
      rw [← (show u_2_0 = s43.2.2.1 2 0 from fr_F (fr_F (s := (sF (sF s 86 0 u_2_0) 86 1 (Int32.ofInt 0))) (sF_ne rfl (sF_ne rfl (e_2_0))) hF39 rfl) hF43 rfl)] at n43
      show GG _ _ _ _ _ _ _ _ [] _ _ _
      rw [show WW Z A s43 ++ ex = WW Z (a2 A (A 87) (A 88)) s43 ++ ex from by rw [a2_id]]
      have v46 : (Int32.ofInt 0) = s43.2.2.1 86 1 := fr_F (fr_F (s := (sF (sF s 86 0 u_2_0) 86 1 (Int32.ofInt 0))) (sF_get) hF39 rfl) hF43 rfl
      have v46a : u_2_0 = s43.2.2.1 2 0 := fr_F (fr_F (s := (sF (sF s 86 0 u_2_0) 86 1 (Int32.ofInt 0))) (sF_ne rfl (sF_ne rfl (e_2_0))) hF39 rfl) hF43 rfl
      have n46 : (z43a).toInt = (u_2_0).toInt := by have a0 := ro_2_0; unfold In at a0; have a1 := i16; unfold In at a1; have a2 := h2; unfold In at a2; have a3 := i43a; unfold In at a3; have a4 := (in_c 0 rfl); unfold In at a4; omega
      have m46 : 41 - ((Int32.ofInt 0)).toInt < ((42 : Nat) : Int) := by have a0 := ro_2_0; unfold In at a0; have a1 := i16; unfold In at a1; have a2 := h2; unfold In at a2; have a3 := i43a; unfold In at a3; have a4 := (in_c 0 rfl); unfold In at a4; omega
      exact gg_w (by omega) (gg_f (gf_cons rfl (gf_cons rfl (gf_cons rfl (gf_cons rfl gf_nil)))) (ct46 42 s43 (A 87) (A 88) (Int32.ofInt 0) z43a u_2_0 hI43 (fr_tr rfl (fr_tr rfl (fr_sF rfl (fr_sF rfl fr_rf)) hF39) hF43) v46 e43 v46a n46 m46))

def fm_109_86_32 : FM := ([39, 40, 41, 42, 43, 44, 45], [87, 88], [(32, 4), (86, 0), (86, 1)], [])
/-- GraphHouse$Groups.unitsOf -/
theorem k_109_86_32 {Z : AmZ} {A : Nat → Nat} {s : GS} {ex : va_W} {d : Nat} {X : AmX} {x2 : Int32} {x3 : Int32} (hd : 4 ≤ d) (hI : Inv s) (h2 : In x2 0 31) (h3 : In x3 0 40) : GC Z d 109 [.ref (A 86), .ref (A 32), .int x2, .int x3] (WW Z A s ++ ex) 0 0 (fun v u => ∃ xa ya : Nat, ∃ t : GS, Inv t ∧ Fr fm_109_86_32 s t ∧ ∃ z : Int64, v = some (.long z) ∧ u = WW Z (a2 A xa ya) t ++ ex) X := by
  intro post xp hP hX
  obtain ⟨u_32_0, e_32_0⟩ : ∃ w, w = s.2.2.1 32 0 := ⟨_, rfl⟩
  have ro_32_0 := inv_F hI 0 4000 rfl e_32_0
  have ct46 : ∀ (k46 : Nat) (sc46 : GS) (xc46 : Nat) (yc46 : Nat) (w46_86_1 : Int32) (w46_32_4 : Int32) (w46_32_0 : Int32), Inv sc46 → Fr fm_109_86_32 s sc46 → (w46_86_1 = sc46.2.2.1 86 1) → (w46_32_4 = sc46.2.2.1 32 4) → (w46_32_0 = sc46.2.2.1 32 0) → ((w46_32_4).toInt = (w46_32_0).toInt) → 41 - (w46_86_1).toInt < (k46 : Int) → GG Z (d - 1) 109 post (gx xp) (1 + k46 * 900) 46 (fun j => xlook j [(0, .ref (A 86)), (1, .ref (A 32)), (2, .int x2), (3, .int x3)]) [] (WW Z (a2 A xc46 yc46) sc46 ++ ex) 0 0 := by
    intro k46
    induction k46 with
    | zero => intro sc46 xc46 yc46 w46_86_1 w46_32_4 w46_32_0 hIc46 hFc46 v46_86_1 v46_32_4 v46_32_0 n46_0 mm46; exfalso; have a0 := h3; unfold In at a0; have a1 := h2; unfold In at a1; have a2 := (inv_F hIc46 0 4000 rfl v46_32_0); unfold In at a2; have a3 := (inv_F hIc46 (-1) 4000 rfl v46_32_4); unfold In at a3; have a4 := (inv_F hIc46 0 40 rfl v46_86_1); unfold In at a4; omega
    | succ k46 ih46 =>
      intro sc46 xc46 yc46 w46_86_1 w46_32_4 w46_32_0 hIc46 hFc46 v46_86_1 v46_32_4 v46_32_0 n46_0 mm46
      refine gg_w (M := 1 + k46 * 900 + 900) (by omega) ?_
      refine g_aload_n 47 (gd rfl) rfl rfl ?_
      refine g_getI (A := (a2 A xc46 yc46)) (q := 86) 50 (gd rfl) rfl rfl rfl (fun z47 e47 => ?_)
      have q47 : w46_86_1 = z47 := (v46_86_1).trans e47.symm
      subst q47
      refine g_iload_n 51 (gd rfl) rfl rfl ?_
      refine g_cmp_ge 54 72 (gd rfl) rfl rfl (fun c51 => ?_) (fun c51 => ?_)
      · skip
        refine g_aload_n 73 (gd rfl) rfl rfl ?_
        refine g_getA (A := (a2 A xc46 yc46)) (q := 86) (q2 := 87) 76 (gd rfl) rfl rfl rfl rfl ?_
        refine g_iload_n 77 (gd rfl) rfl rfl ?_
        refine g_laload (A := (a2 A xc46 yc46)) (q := 87) 78 (gd rfl) rfl (n := 32) rfl (in_ix h2 rfl) (fun z77 e77 => ?_)
        exact g_lreturn (gd rfl) rfl (hP _ _ ⟨xc46, yc46, sc46, hIc46, hFc46, z77, rfl, rfl⟩)
      · skip
        have i51 := r_lt1 0 39 c51 (inv_F hIc46 0 40 rfl v46_86_1) h3 rfl
        have i51a := r_lt2 1 40 c51 (inv_F hIc46 0 40 rfl v46_86_1) h3 rfl
        refine g_aload_n 55 (gd rfl) rfl rfl ?_
        refine g_aload_n 56 (gd rfl) rfl rfl ?_
        have n56 : (w46_32_4).toInt = (w46_32_0).toInt := by have a0 := i51a; unfold In at a0; have a1 := h2; unfold In at a1; have a2 := (inv_F hIc46 0 4000 rfl v46_32_0); unfold In at a2; have a3 := (inv_F hIc46 (-1) 4000 rfl v46_32_4); unfold In at a3; have a4 := i51; unfold In at a4; omega
        refine g_callv (X := _) (As := [.ref (A 32)]) (r := []) (b := A 86) (q := 86) 59 (gd rfl) rfl rfl rfl rfl rfl (ww_o rfl) (Nat.le_of_ble_eq_true rfl) (Nat.zero_le _) (Nat.zero_le _) (k_110_86_32 (A := (a2 A xc46 yc46)) (by omega) hIc46 v46_32_4 v46_32_0 n56) (fun e u h => h) (fun v u h => ?_)
        obtain ⟨xa56, ya56, s56, hI56, hF56, rfl, rfl⟩ := h
        rw [a2_a2]
        show GG _ _ _ _ _ _ _ _ [] _ _ _
        refine g_aload_n 60 (gd rfl) rfl rfl ?_
        refine g_dup 61 (gd rfl) rfl rfl ?_
        refine g_getI (A := (a2 A xa56 ya56)) (q := 86) 64 (gd rfl) rfl rfl rfl (fun z61 e61 => ?_)
        have q61 : w46_86_1 = z61 := (fr_F (v46_86_1) hF56 rfl).trans e61.symm
        subst q61
        refine g_iconst 1 65 (gd rfl) rfl rfl ?_
        refine g_iadd 66 (gd rfl) rfl (fun z65 e65 => ?_)
        have i65 := in_add 1 40 e65 i51 (in_c 1 rfl) rfl rfl
        refine g_putI (A := (a2 A xa56 ya56)) (q := 86) 69 (gd rfl) rfl rfl rfl rfl ?_
        have hI66 := inv_sF (q := 86) (j := 1) hI56 rfl (in_w 0 40 i65 rfl)
        refine g_goto 46 (gd rfl) rfl ?_
        have v46 : z65 = (sF s56 86 1 z65).2.2.1 86 1 := sF_get
        have v46a : w46_32_4 = (sF s56 86 1 z65).2.2.1 32 4 := sF_ne rfl (fr_F (v46_32_4) hF56 rfl)
        have v46b : w46_32_0 = (sF s56 86 1 z65).2.2.1 32 0 := sF_ne rfl (fr_F (v46_32_0) hF56 rfl)
        have n46 : (w46_32_4).toInt = (w46_32_0).toInt := by have a0 := i51a; unfold In at a0; have a1 := h2; unfold In at a1; have a2 := (inv_F hIc46 0 4000 rfl v46_32_0); unfold In at a2; have a3 := (inv_F hIc46 (-1) 4000 rfl v46_32_4); unfold In at a3; have a4 := i51; unfold In at a4; have a5 := i65; unfold In at a5; have a6 := t_add e65 i51 (in_c 1 rfl) rfl; have a7 := (in_c 1 rfl); unfold In at a7; omega
        have m46 : 41 - (z65).toInt < ((k46 : Nat) : Int) := by have a0 := i51a; unfold In at a0; have a1 := h2; unfold In at a1; have a2 := (inv_F hIc46 0 4000 rfl v46_32_0); unfold In at a2; have a3 := (inv_F hIc46 (-1) 4000 rfl v46_32_4); unfold In at a3; have a4 := i51; unfold In at a4; have a5 := i65; unfold In at a5; have a6 := t_add e65 i51 (in_c 1 rfl) rfl; have a7 := (in_c 1 rfl); unfold In at a7; omega
        exact gg_w (by omega) (gg_f (gf_cons rfl (gf_cons rfl (gf_cons rfl (gf_cons rfl gf_nil)))) (ih46  (sF s56 86 1 z65) xa56 ya56 z65 w46_32_4 w46_32_0 hI66 (fr_sF rfl (fr_tr rfl hFc46 hF56)) v46 v46a v46b n46 m46))
  refine g_enter2 (k := 109) (N := 38701) (by omega) rfl (Nat.le_of_ble_eq_true rfl) ?_
  refine g_aload_n 1 (gd rfl) rfl rfl ?_
  refine g_getI 4 (gd rfl) rfl rfl rfl (fun z1 e1 => ?_)
  have i1 := inv_F hI (-1) 4000 rfl e1
  refine g_aload_n 5 (gd rfl) rfl rfl ?_
  refine g_getI 8 (gd rfl) rfl rfl rfl (fun z5 e5 => ?_)
  have q5 : u_32_0 = z5 := (e_32_0).trans e5.symm
  subst q5
  refine g_cmp_ne 11 19 (gd rfl) rfl rfl (fun c8 => ?_) (fun c8 => ?_)
  · skip
    refine g_aload_n 20 (gd rfl) rfl rfl ?_
    refine g_aload_n 21 (gd rfl) rfl rfl ?_
    refine g_getI 24 (gd rfl) rfl rfl rfl (fun z21 e21 => ?_)
    have q21 : u_32_0 = z21 := (e_32_0).trans e21.symm
    subst q21
    refine g_putI 27 (gd rfl) rfl rfl rfl rfl ?_
    have hI24 := inv_sF (q := 86) (j := 0) hI rfl (in_w (-1) 4000 ro_32_0 rfl)
    refine g_aload_n 28 (gd rfl) rfl rfl ?_
    refine g_iconst 0 29 (gd rfl) rfl rfl ?_
    refine g_putI 32 (gd rfl) rfl rfl rfl rfl ?_
    have hI29 := inv_sF (q := 86) (j := 1) hI24 rfl (in_w 0 40 (in_c 0 rfl) rfl)
    refine g_aload_n 33 (gd rfl) rfl rfl ?_
    refine g_getA (q2 := 87) 36 (gd rfl) rfl rfl rfl rfl ?_
    refine g_ldc2_w 1000000000000 39 (gd rfl) rfl rfl ?_
    refine g_calls (As := [.ref (A 87), .long (Int64.ofInt 1000000000000)]) (r := []) 42 (gd rfl) rfl rfl rfl rfl rfl (Nat.le_of_ble_eq_true rfl) (Nat.zero_le _) (Nat.zero_le _) (k_fillL 87 (by omega) hI29 (n := 32) rfl rfl rfl (l_rng (Int64.ofInt 1000000000000))) (fun v u h => ?_)
    obtain ⟨s39, hI39, hF39, rfl, rfl, fl39⟩ := h
    show GG _ _ _ _ _ _ _ _ [] _ _ _
    refine g_aload_n 43 (gd rfl) rfl rfl ?_
    refine g_callv (X := _) (As := []) (r := []) (b := A 32) (q := 32) 46 (gd rfl) rfl rfl rfl rfl rfl (ww_o rfl) (Nat.le_of_ble_eq_true rfl) (Nat.zero_le _) (Nat.zero_le _) (k_106_32 (by omega) hI39 ) (fun e u h => h) (fun v u h => ?_)
    obtain ⟨s43, hI43, hF43, n43, rfl, rfl⟩ := h
    obtain ⟨z43a, e43⟩ : ∃ w, w = s43.2.2.1 32 4 := ⟨_, rfl⟩
    have i43a := inv_F hI43 (-1) 4000 rfl e43
    rw [← (show z43a = s43.2.2.1 32 4 from e43)] at n43
    rw [← (show u_32_0 = s43.2.2.1 32 0 from fr_F (fr_F (s := (sF (sF s 86 0 u_32_0) 86 1 (Int32.ofInt 0))) (sF_ne rfl (sF_ne rfl (e_32_0))) hF39 rfl) hF43 rfl)] at n43
    show GG _ _ _ _ _ _ _ _ [] _ _ _
    rw [show WW Z A s43 ++ ex = WW Z (a2 A (A 87) (A 88)) s43 ++ ex from by rw [a2_id]]
    have v46 : (Int32.ofInt 0) = s43.2.2.1 86 1 := fr_F (fr_F (s := (sF (sF s 86 0 u_32_0) 86 1 (Int32.ofInt 0))) (sF_get) hF39 rfl) hF43 rfl
    have v46a : u_32_0 = s43.2.2.1 32 0 := fr_F (fr_F (s := (sF (sF s 86 0 u_32_0) 86 1 (Int32.ofInt 0))) (sF_ne rfl (sF_ne rfl (e_32_0))) hF39 rfl) hF43 rfl
    have n46 : (z43a).toInt = (u_32_0).toInt := by have a0 := ro_32_0; unfold In at a0; have a1 := h3; unfold In at a1; have a2 := h2; unfold In at a2; have a3 := i43a; unfold In at a3; have a4 := (in_c 0 rfl); unfold In at a4; omega
    have m46 : 41 - ((Int32.ofInt 0)).toInt < ((42 : Nat) : Int) := by have a0 := ro_32_0; unfold In at a0; have a1 := h3; unfold In at a1; have a2 := h2; unfold In at a2; have a3 := i43a; unfold In at a3; have a4 := (in_c 0 rfl); unfold In at a4; omega
    exact gg_w (by omega) (gg_f (gf_cons rfl (gf_cons rfl (gf_cons rfl (gf_cons rfl gf_nil)))) (ct46 42 s43 (A 87) (A 88) (Int32.ofInt 0) z43a u_32_0 hI43 (fr_tr rfl (fr_tr rfl (fr_sF rfl (fr_sF rfl fr_rf)) hF39) hF43) v46 e43 v46a n46 m46))
  · skip
    have i8 := r_eq1 0 4000 c8 i1 ro_32_0 rfl
    refine g_iload_n 12 (gd rfl) rfl rfl ?_
    refine g_aload_n 13 (gd rfl) rfl rfl ?_
    refine g_getI 16 (gd rfl) rfl rfl rfl (fun z13 e13 => ?_)
    have i13 := inv_F hI 0 40 rfl e13
    refine g_cmp_ge 19 42 (gd rfl) rfl rfl (fun c16 => ?_) (fun c16 => ?_)
    · skip
      refine g_aload_n 43 (gd rfl) rfl rfl ?_
      refine g_callv (X := _) (As := []) (r := []) (b := A 32) (q := 32) 46 (gd rfl) rfl rfl rfl rfl rfl (ww_o rfl) (Nat.le_of_ble_eq_true rfl) (Nat.zero_le _) (Nat.zero_le _) (k_106_32 (by omega) hI ) (fun e u h => h) (fun v u h => ?_)
      obtain ⟨s43, hI43, hF43, n43, rfl, rfl⟩ := h
      obtain ⟨z43a, e43⟩ : ∃ w, w = s43.2.2.1 32 4 := ⟨_, rfl⟩
      have i43a := inv_F hI43 (-1) 4000 rfl e43
      rw [← (show z43a = s43.2.2.1 32 4 from e43)] at n43
      rw [← (show u_32_0 = s43.2.2.1 32 0 from fr_F (e_32_0) hF43 rfl)] at n43
      show GG _ _ _ _ _ _ _ _ [] _ _ _
      rw [show WW Z A s43 ++ ex = WW Z (a2 A (A 87) (A 88)) s43 ++ ex from by rw [a2_id]]
      have v46 : z13 = s43.2.2.1 86 1 := fr_F (e13) hF43 rfl
      have v46a : u_32_0 = s43.2.2.1 32 0 := fr_F (e_32_0) hF43 rfl
      have n46 : (z43a).toInt = (u_32_0).toInt := by have a0 := ro_32_0; unfold In at a0; have a1 := h3; unfold In at a1; have a2 := h2; unfold In at a2; have a3 := i43a; unfold In at a3; have a4 := i13; unfold In at a4; have a5 := i8; unfold In at a5; omega
      have m46 : 41 - (z13).toInt < ((42 : Nat) : Int) := by have a0 := ro_32_0; unfold In at a0; have a1 := h3; unfold In at a1; have a2 := h2; unfold In at a2; have a3 := i43a; unfold In at a3; have a4 := i13; unfold In at a4; have a5 := i8; unfold In at a5; omega
      exact gg_w (by omega) (gg_f (gf_cons rfl (gf_cons rfl (gf_cons rfl (gf_cons rfl gf_nil)))) (ct46 42 s43 (A 87) (A 88) z13 z43a u_32_0 hI43 (fr_tr rfl fr_rf hF43) v46 e43 v46a n46 m46))
    · skip
      have i16 := r_lt1 0 39 c16 h3 i13 rfl
      have i16a := r_lt2 1 40 c16 h3 i13 rfl
      refine g_aload_n 20 (gd rfl) rfl rfl ?_
      refine g_aload_n 21 (gd rfl) rfl rfl ?_
      refine g_getI 24 (gd rfl) rfl rfl rfl (fun z21 e21 => ?_)
      have q21 : u_32_0 = z21 := (e_32_0).trans e21.symm
      subst q21
      refine g_putI 27 (gd rfl) rfl rfl rfl rfl ?_
      have hI24 := inv_sF (q := 86) (j := 0) hI rfl (in_w (-1) 4000 ro_32_0 rfl)
      refine g_aload_n 28 (gd rfl) rfl rfl ?_
      refine g_iconst 0 29 (gd rfl) rfl rfl ?_
      refine g_putI 32 (gd rfl) rfl rfl rfl rfl ?_
      have hI29 := inv_sF (q := 86) (j := 1) hI24 rfl (in_w 0 40 (in_c 0 rfl) rfl)
      refine g_aload_n 33 (gd rfl) rfl rfl ?_
      refine g_getA (q2 := 87) 36 (gd rfl) rfl rfl rfl rfl ?_
      refine g_ldc2_w 1000000000000 39 (gd rfl) rfl rfl ?_
      refine g_calls (As := [.ref (A 87), .long (Int64.ofInt 1000000000000)]) (r := []) 42 (gd rfl) rfl rfl rfl rfl rfl (Nat.le_of_ble_eq_true rfl) (Nat.zero_le _) (Nat.zero_le _) (k_fillL 87 (by omega) hI29 (n := 32) rfl rfl rfl (l_rng (Int64.ofInt 1000000000000))) (fun v u h => ?_)
      obtain ⟨s39, hI39, hF39, rfl, rfl, fl39⟩ := h
      show GG _ _ _ _ _ _ _ _ [] _ _ _
      refine g_aload_n 43 (gd rfl) rfl rfl ?_
      refine g_callv (X := _) (As := []) (r := []) (b := A 32) (q := 32) 46 (gd rfl) rfl rfl rfl rfl rfl (ww_o rfl) (Nat.le_of_ble_eq_true rfl) (Nat.zero_le _) (Nat.zero_le _) (k_106_32 (by omega) hI39 ) (fun e u h => h) (fun v u h => ?_)
      obtain ⟨s43, hI43, hF43, n43, rfl, rfl⟩ := h
      obtain ⟨z43a, e43⟩ : ∃ w, w = s43.2.2.1 32 4 := ⟨_, rfl⟩
      have i43a := inv_F hI43 (-1) 4000 rfl e43
      rw [← (show z43a = s43.2.2.1 32 4 from e43)] at n43
      rw [← (show u_32_0 = s43.2.2.1 32 0 from fr_F (fr_F (s := (sF (sF s 86 0 u_32_0) 86 1 (Int32.ofInt 0))) (sF_ne rfl (sF_ne rfl (e_32_0))) hF39 rfl) hF43 rfl)] at n43
      show GG _ _ _ _ _ _ _ _ [] _ _ _
      rw [show WW Z A s43 ++ ex = WW Z (a2 A (A 87) (A 88)) s43 ++ ex from by rw [a2_id]]
      have v46 : (Int32.ofInt 0) = s43.2.2.1 86 1 := fr_F (fr_F (s := (sF (sF s 86 0 u_32_0) 86 1 (Int32.ofInt 0))) (sF_get) hF39 rfl) hF43 rfl
      have v46a : u_32_0 = s43.2.2.1 32 0 := fr_F (fr_F (s := (sF (sF s 86 0 u_32_0) 86 1 (Int32.ofInt 0))) (sF_ne rfl (sF_ne rfl (e_32_0))) hF39 rfl) hF43 rfl
      have n46 : (z43a).toInt = (u_32_0).toInt := by have a0 := ro_32_0; unfold In at a0; have a1 := i16; unfold In at a1; have a2 := h2; unfold In at a2; have a3 := i43a; unfold In at a3; have a4 := (in_c 0 rfl); unfold In at a4; omega
      have m46 : 41 - ((Int32.ofInt 0)).toInt < ((42 : Nat) : Int) := by have a0 := ro_32_0; unfold In at a0; have a1 := i16; unfold In at a1; have a2 := h2; unfold In at a2; have a3 := i43a; unfold In at a3; have a4 := (in_c 0 rfl); unfold In at a4; omega
      exact gg_w (by omega) (gg_f (gf_cons rfl (gf_cons rfl (gf_cons rfl (gf_cons rfl gf_nil)))) (ct46 42 s43 (A 87) (A 88) (Int32.ofInt 0) z43a u_32_0 hI43 (fr_tr rfl (fr_tr rfl (fr_sF rfl (fr_sF rfl fr_rf)) hF39) hF43) v46 e43 v46a n46 m46))

def fm_248_0 : FM := ([9, 10, 11, 12, 13, 14, 15, 39, 40, 41, 42, 43, 44, 45], [87, 88], [(2, 4), (32, 4), (86, 0), (86, 1)], [])
/-- GraphHouse.rank -/
theorem k_248_0 {Z : AmZ} {A : Nat → Nat} {s : GS} {ex : va_W} {d : Nat} {x1 : Int32} {x2 : Int32} (hd : 7 ≤ d) (hI : Inv s)  : GC Z d 248 [.ref (A 0), .int x1, .int x2] (WW Z A s ++ ex) 3 18 (fun v u => ∃ xa ya : Nat, ∃ t : GS, Inv t ∧ Fr fm_248_0 s t ∧ ∃ z : Int64, v = some (.long z) ∧ u = WW Z (a2 A xa ya) t ++ ex) (gE1 Z A ex fm_248_0 s) := by
  intro post xp hP hX
  obtain ⟨u_0_2, e_0_2⟩ : ∃ w, w = s.2.2.1 0 2 := ⟨_, rfl⟩
  have ro_0_2 := inv_F hI (-1) 4000 rfl e_0_2
  obtain ⟨u_2_1, e_2_1⟩ : ∃ w, w = s.2.2.1 2 1 := ⟨_, rfl⟩
  have ro_2_1 := inv_F hI 0 32 rfl e_2_1
  obtain ⟨u_32_1, e_32_1⟩ : ∃ w, w = s.2.2.1 32 1 := ⟨_, rfl⟩
  have ro_32_1 := inv_F hI 0 32 rfl e_32_1
  refine g_enter2 (k := 248) (N := 900) (by omega) rfl (Nat.le_of_ble_eq_true rfl) ?_
  refine g_aload_n 1 (gd rfl) rfl rfl ?_
  refine g_callv (X := _) (As := []) (r := []) (b := A 0) (q := 0) 4 (gd rfl) rfl rfl rfl rfl rfl (ww_o rfl) (Nat.le_of_ble_eq_true rfl) (mc := 0) (ms := 0) (Nat.zero_le _) (Nat.zero_le _) (P := fun v u => _) ?_ (fun e u h => h) (fun v u h => h)
  intro po1 xx1 hp1 hx1
  refine g_enter2 (k := 259) (N := 300) (by omega) rfl (Nat.le_of_ble_eq_true rfl) ?_
  refine g_aload_n 1 (gd rfl) rfl rfl ?_
  refine g_getI 4 (gd rfl) rfl rfl rfl (fun z1x1 e1x1 => ?_)
  have q1x1 : u_0_2 = z1x1 := (e_0_2).trans e1x1.symm
  subst q1x1
  refine g_iconst (-1) 5 (gd rfl) rfl rfl ?_
  refine g_cmp_ne 8 18 (gd rfl) rfl rfl (fun c1x5 => ?_) (fun c1x5 => ?_)
  · skip
    have i1x5 := r_ne1 0 4000 c1x5 ro_0_2 (in_c (-1) rfl) rfl
    refine g_aload_n 19 (gd rfl) rfl rfl ?_
    refine g_getA (q2 := 32) 22 (gd rfl) rfl rfl rfl rfl ?_
    refine g_areturn (gd rfl) rfl (hp1 _ _ ?_)
    show GG _ _ _ _ _ _ _ _ [.ref (A 32)] _ _ _
    refine g_astore_n 5 (gd rfl) rfl (Nat.le_of_ble_eq_true rfl) ?_
    refine g_aload_n 6 (gd rfl) rfl rfl ?_
    refine g_iload_n 7 (gd rfl) rfl rfl ?_
    refine g_callv (X := _) (As := [.int x1]) (r := []) (b := A 32) (q := 32) 10 (gd rfl) rfl rfl rfl rfl rfl (ww_o rfl) (Nat.le_of_ble_eq_true rfl) (mc := 0) (ms := 0) (Nat.zero_le _) (Nat.zero_le _) (P := fun v u => _) ?_ (fun e u h => h) (fun v u h => h)
    intro po7 xx7 hp7 hx7
    refine g_enter2 (k := 94) (N := 300) (by omega) rfl (Nat.le_of_ble_eq_true rfl) ?_
    refine g_iload_n 1 (gd rfl) rfl rfl ?_
    refine g_if_lt 4 16 (gd rfl) rfl rfl (fun c7x1 => ?_) (fun c7x1 => ?_)
    · skip
      have i7x1 := z_lt (-2147483648) (-1) c7x1 (i_rng x1) rfl
      refine g_iconst 0 17 (gd rfl) rfl rfl ?_
      refine g_ireturn (gd rfl) rfl (nb01 (in_w 0 1 (in_c 0 rfl) rfl)) (hp7 _ _ ?_)
      show GG _ _ _ _ _ _ _ _ [.int (Int32.ofInt 0)] _ _ _
      refine g_if_eq 13 27 (gd rfl) rfl rfl (fun c10 => ?_) (fun c10 => ?_)
      · skip
        refine g_iconst 0 28 (gd rfl) rfl rfl ?_
        refine g_thr (E := am_IA) (y := yX11_allow) 31 (gd rfl) rfl rfl (Or.inl ⟨rfl, rfl, rfl⟩) (by omega) (Nat.le_of_ble_eq_true rfl) (Nat.le_of_ble_eq_true rfl) (Nat.le_of_ble_eq_true rfl) (fun c28 => ?_) (fun c28 => ?_)
        · skip
          exact zn_ne c28 (in_c 0 rfl) rfl
        · skip
          exact (hX _ _ ⟨rfl, s, hI, fr_rf, rfl⟩)
      · skip
        exact zn_ne c10 (in_c 0 rfl) rfl
    · skip
      have i7x1 := z_ge 0 2147483647 c7x1 (i_rng x1) rfl
      refine g_iload_n 5 (gd rfl) rfl rfl ?_
      refine g_aload_n 6 (gd rfl) rfl rfl ?_
      refine g_getI 9 (gd rfl) rfl rfl rfl (fun z7x6 e7x6 => ?_)
      have q7x6 : u_32_1 = z7x6 := (e_32_1).trans e7x6.symm
      subst q7x6
      refine g_cmp_ge 12 16 (gd rfl) rfl rfl (fun c7x9 => ?_) (fun c7x9 => ?_)
      · skip
        refine g_iconst 0 17 (gd rfl) rfl rfl ?_
        refine g_ireturn (gd rfl) rfl (nb01 (in_w 0 1 (in_c 0 rfl) rfl)) (hp7 _ _ ?_)
        show GG _ _ _ _ _ _ _ _ [.int (Int32.ofInt 0)] _ _ _
        refine g_if_eq 13 27 (gd rfl) rfl rfl (fun c10 => ?_) (fun c10 => ?_)
        · skip
          refine g_iconst 0 28 (gd rfl) rfl rfl ?_
          refine g_thr (E := am_IA) (y := yX11_allow) 31 (gd rfl) rfl rfl (Or.inl ⟨rfl, rfl, rfl⟩) (by omega) (Nat.le_of_ble_eq_true rfl) (Nat.le_of_ble_eq_true rfl) (Nat.le_of_ble_eq_true rfl) (fun c28 => ?_) (fun c28 => ?_)
          · skip
            exact zn_ne c28 (in_c 0 rfl) rfl
          · skip
            exact (hX _ _ ⟨rfl, s, hI, fr_rf, rfl⟩)
        · skip
          exact zn_ne c10 (in_c 0 rfl) rfl
      · skip
        have i7x9 := r_lt1 0 31 c7x9 i7x1 ro_32_1 rfl
        have i7x9a := r_lt2 1 32 c7x9 i7x1 ro_32_1 rfl
        refine g_iconst 1 13 (gd rfl) rfl rfl ?_
        refine g_goto 17 (gd rfl) rfl ?_
        refine g_ireturn (gd rfl) rfl (nb01 (in_w 0 1 (in_c 1 rfl) rfl)) (hp7 _ _ ?_)
        show GG _ _ _ _ _ _ _ _ [.int (Int32.ofInt 1)] _ _ _
        refine g_if_eq 13 27 (gd rfl) rfl rfl (fun c10 => ?_) (fun c10 => ?_)
        · skip
          exact zn_eq c10 (in_c 1 rfl) rfl
        · skip
          refine g_iload_n 14 (gd rfl) rfl rfl ?_
          refine g_if_lt 17 27 (gd rfl) rfl rfl (fun c14 => ?_) (fun c14 => ?_)
          · skip
            have i14 := z_lt (-2147483648) (-1) c14 (i_rng x2) rfl
            refine g_iconst 0 28 (gd rfl) rfl rfl ?_
            refine g_thr (E := am_IA) (y := yX11_allow) 31 (gd rfl) rfl rfl (Or.inl ⟨rfl, rfl, rfl⟩) (by omega) (Nat.le_of_ble_eq_true rfl) (Nat.le_of_ble_eq_true rfl) (Nat.le_of_ble_eq_true rfl) (fun c28 => ?_) (fun c28 => ?_)
            · skip
              exact zn_ne c28 (in_c 0 rfl) rfl
            · skip
              exact (hX _ _ ⟨rfl, s, hI, fr_rf, rfl⟩)
          · skip
            have i14 := z_ge 0 2147483647 c14 (i_rng x2) rfl
            refine g_iload_n 18 (gd rfl) rfl rfl ?_
            refine g_bipush 40 20 (gd rfl) rfl rfl ?_
            refine g_cmp_gt 23 27 (gd rfl) rfl rfl (fun c20 => ?_) (fun c20 => ?_)
            · skip
              have i20 := r_lt2 41 2147483647 c20 (in_c 40 rfl) i14 rfl
              refine g_iconst 0 28 (gd rfl) rfl rfl ?_
              refine g_thr (E := am_IA) (y := yX11_allow) 31 (gd rfl) rfl rfl (Or.inl ⟨rfl, rfl, rfl⟩) (by omega) (Nat.le_of_ble_eq_true rfl) (Nat.le_of_ble_eq_true rfl) (Nat.le_of_ble_eq_true rfl) (fun c28 => ?_) (fun c28 => ?_)
              · skip
                exact zn_ne c28 (in_c 0 rfl) rfl
              · skip
                exact (hX _ _ ⟨rfl, s, hI, fr_rf, rfl⟩)
            · skip
              have i20 := r_le1 0 40 c20 i14 (in_c 40 rfl) rfl
              refine g_iconst 1 24 (gd rfl) rfl rfl ?_
              refine g_goto 28 (gd rfl) rfl ?_
              refine g_thr (E := am_IA) (y := yX11_allow) 31 (gd rfl) rfl rfl (Or.inl ⟨rfl, rfl, rfl⟩) (by omega) (Nat.le_of_ble_eq_true rfl) (Nat.le_of_ble_eq_true rfl) (Nat.le_of_ble_eq_true rfl) (fun c28 => ?_) (fun c28 => ?_)
              · skip
                refine g_aload_n 32 (gd rfl) rfl rfl ?_
                refine g_getA (q2 := 86) 35 (gd rfl) rfl rfl rfl rfl ?_
                refine g_aload_n 36 (gd rfl) rfl rfl ?_
                refine g_iload_n 37 (gd rfl) rfl rfl ?_
                refine g_iload_n 38 (gd rfl) rfl rfl ?_
                refine g_callv (X := _) (As := [.ref (A 32), .int x1, .int x2]) (r := []) (b := A 86) (q := 86) 41 (gd rfl) rfl rfl rfl rfl rfl (ww_o rfl) (Nat.le_of_ble_eq_true rfl) (Nat.zero_le _) (Nat.zero_le _) (k_109_86_32 (by omega) hI (in_w 0 31 i7x9 rfl) (in_w 0 40 i20 rfl)) (fun e u h => h) (fun v u h => ?_)
                obtain ⟨xa38, ya38, s38, hI38, hF38, z38, rfl, rfl⟩ := h
                show GG _ _ _ _ _ _ _ _ [.long z38] _ _ _
                exact g_lreturn (gd rfl) rfl (hP _ _ ⟨xa38, ya38, s38, hI38, (fr_tr rfl fr_rf hF38), z38, rfl, rfl⟩)
              · skip
                exact zn_eq c28 (in_c 1 rfl) rfl
  · skip
    have i1x5 := r_eq1 (-1) (-1) c1x5 ro_0_2 (in_c (-1) rfl) rfl
    refine g_aload_n 9 (gd rfl) rfl rfl ?_
    refine g_getA (q2 := 1) 12 (gd rfl) rfl rfl rfl rfl ?_
    refine g_getA (q2 := 2) 15 (gd rfl) rfl rfl rfl rfl ?_
    refine g_goto 22 (gd rfl) rfl ?_
    refine g_areturn (gd rfl) rfl (hp1 _ _ ?_)
    show GG _ _ _ _ _ _ _ _ [.ref (A 2)] _ _ _
    refine g_astore_n 5 (gd rfl) rfl (Nat.le_of_ble_eq_true rfl) ?_
    refine g_aload_n 6 (gd rfl) rfl rfl ?_
    refine g_iload_n 7 (gd rfl) rfl rfl ?_
    refine g_callv (X := _) (As := [.int x1]) (r := []) (b := A 2) (q := 2) 10 (gd rfl) rfl rfl rfl rfl rfl (ww_o rfl) (Nat.le_of_ble_eq_true rfl) (mc := 0) (ms := 0) (Nat.zero_le _) (Nat.zero_le _) (P := fun v u => _) ?_ (fun e u h => h) (fun v u h => h)
    intro po7 xx7 hp7 hx7
    refine g_enter2 (k := 94) (N := 300) (by omega) rfl (Nat.le_of_ble_eq_true rfl) ?_
    refine g_iload_n 1 (gd rfl) rfl rfl ?_
    refine g_if_lt 4 16 (gd rfl) rfl rfl (fun c7x1 => ?_) (fun c7x1 => ?_)
    · skip
      have i7x1 := z_lt (-2147483648) (-1) c7x1 (i_rng x1) rfl
      refine g_iconst 0 17 (gd rfl) rfl rfl ?_
      refine g_ireturn (gd rfl) rfl (nb01 (in_w 0 1 (in_c 0 rfl) rfl)) (hp7 _ _ ?_)
      show GG _ _ _ _ _ _ _ _ [.int (Int32.ofInt 0)] _ _ _
      refine g_if_eq 13 27 (gd rfl) rfl rfl (fun c10 => ?_) (fun c10 => ?_)
      · skip
        refine g_iconst 0 28 (gd rfl) rfl rfl ?_
        refine g_thr (E := am_IA) (y := yX11_allow) 31 (gd rfl) rfl rfl (Or.inl ⟨rfl, rfl, rfl⟩) (by omega) (Nat.le_of_ble_eq_true rfl) (Nat.le_of_ble_eq_true rfl) (Nat.le_of_ble_eq_true rfl) (fun c28 => ?_) (fun c28 => ?_)
        · skip
          exact zn_ne c28 (in_c 0 rfl) rfl
        · skip
          exact (hX _ _ ⟨rfl, s, hI, fr_rf, rfl⟩)
      · skip
        exact zn_ne c10 (in_c 0 rfl) rfl
    · skip
      have i7x1 := z_ge 0 2147483647 c7x1 (i_rng x1) rfl
      refine g_iload_n 5 (gd rfl) rfl rfl ?_
      refine g_aload_n 6 (gd rfl) rfl rfl ?_
      refine g_getI 9 (gd rfl) rfl rfl rfl (fun z7x6 e7x6 => ?_)
      have q7x6 : u_2_1 = z7x6 := (e_2_1).trans e7x6.symm
      subst q7x6
      refine g_cmp_ge 12 16 (gd rfl) rfl rfl (fun c7x9 => ?_) (fun c7x9 => ?_)
      · skip
        refine g_iconst 0 17 (gd rfl) rfl rfl ?_
        refine g_ireturn (gd rfl) rfl (nb01 (in_w 0 1 (in_c 0 rfl) rfl)) (hp7 _ _ ?_)
        show GG _ _ _ _ _ _ _ _ [.int (Int32.ofInt 0)] _ _ _
        refine g_if_eq 13 27 (gd rfl) rfl rfl (fun c10 => ?_) (fun c10 => ?_)
        · skip
          refine g_iconst 0 28 (gd rfl) rfl rfl ?_
          refine g_thr (E := am_IA) (y := yX11_allow) 31 (gd rfl) rfl rfl (Or.inl ⟨rfl, rfl, rfl⟩) (by omega) (Nat.le_of_ble_eq_true rfl) (Nat.le_of_ble_eq_true rfl) (Nat.le_of_ble_eq_true rfl) (fun c28 => ?_) (fun c28 => ?_)
          · skip
            exact zn_ne c28 (in_c 0 rfl) rfl
          · skip
            exact (hX _ _ ⟨rfl, s, hI, fr_rf, rfl⟩)
        · skip
          exact zn_ne c10 (in_c 0 rfl) rfl
      · skip
        have i7x9 := r_lt1 0 31 c7x9 i7x1 ro_2_1 rfl
        have i7x9a := r_lt2 1 32 c7x9 i7x1 ro_2_1 rfl
        refine g_iconst 1 13 (gd rfl) rfl rfl ?_
        refine g_goto 17 (gd rfl) rfl ?_
        refine g_ireturn (gd rfl) rfl (nb01 (in_w 0 1 (in_c 1 rfl) rfl)) (hp7 _ _ ?_)
        show GG _ _ _ _ _ _ _ _ [.int (Int32.ofInt 1)] _ _ _
        refine g_if_eq 13 27 (gd rfl) rfl rfl (fun c10 => ?_) (fun c10 => ?_)
        · skip
          exact zn_eq c10 (in_c 1 rfl) rfl
        · skip
          refine g_iload_n 14 (gd rfl) rfl rfl ?_
          refine g_if_lt 17 27 (gd rfl) rfl rfl (fun c14 => ?_) (fun c14 => ?_)
          · skip
            have i14 := z_lt (-2147483648) (-1) c14 (i_rng x2) rfl
            refine g_iconst 0 28 (gd rfl) rfl rfl ?_
            refine g_thr (E := am_IA) (y := yX11_allow) 31 (gd rfl) rfl rfl (Or.inl ⟨rfl, rfl, rfl⟩) (by omega) (Nat.le_of_ble_eq_true rfl) (Nat.le_of_ble_eq_true rfl) (Nat.le_of_ble_eq_true rfl) (fun c28 => ?_) (fun c28 => ?_)
            · skip
              exact zn_ne c28 (in_c 0 rfl) rfl
            · skip
              exact (hX _ _ ⟨rfl, s, hI, fr_rf, rfl⟩)
          · skip
            have i14 := z_ge 0 2147483647 c14 (i_rng x2) rfl
            refine g_iload_n 18 (gd rfl) rfl rfl ?_
            refine g_bipush 40 20 (gd rfl) rfl rfl ?_
            refine g_cmp_gt 23 27 (gd rfl) rfl rfl (fun c20 => ?_) (fun c20 => ?_)
            · skip
              have i20 := r_lt2 41 2147483647 c20 (in_c 40 rfl) i14 rfl
              refine g_iconst 0 28 (gd rfl) rfl rfl ?_
              refine g_thr (E := am_IA) (y := yX11_allow) 31 (gd rfl) rfl rfl (Or.inl ⟨rfl, rfl, rfl⟩) (by omega) (Nat.le_of_ble_eq_true rfl) (Nat.le_of_ble_eq_true rfl) (Nat.le_of_ble_eq_true rfl) (fun c28 => ?_) (fun c28 => ?_)
              · skip
                exact zn_ne c28 (in_c 0 rfl) rfl
              · skip
                exact (hX _ _ ⟨rfl, s, hI, fr_rf, rfl⟩)
            · skip
              have i20 := r_le1 0 40 c20 i14 (in_c 40 rfl) rfl
              refine g_iconst 1 24 (gd rfl) rfl rfl ?_
              refine g_goto 28 (gd rfl) rfl ?_
              refine g_thr (E := am_IA) (y := yX11_allow) 31 (gd rfl) rfl rfl (Or.inl ⟨rfl, rfl, rfl⟩) (by omega) (Nat.le_of_ble_eq_true rfl) (Nat.le_of_ble_eq_true rfl) (Nat.le_of_ble_eq_true rfl) (fun c28 => ?_) (fun c28 => ?_)
              · skip
                refine g_aload_n 32 (gd rfl) rfl rfl ?_
                refine g_getA (q2 := 86) 35 (gd rfl) rfl rfl rfl rfl ?_
                refine g_aload_n 36 (gd rfl) rfl rfl ?_
                refine g_iload_n 37 (gd rfl) rfl rfl ?_
                refine g_iload_n 38 (gd rfl) rfl rfl ?_
                refine g_callv (X := _) (As := [.ref (A 2), .int x1, .int x2]) (r := []) (b := A 86) (q := 86) 41 (gd rfl) rfl rfl rfl rfl rfl (ww_o rfl) (Nat.le_of_ble_eq_true rfl) (Nat.zero_le _) (Nat.zero_le _) (k_109_86_2 (by omega) hI (in_w 0 31 i7x9 rfl) (in_w 0 40 i20 rfl)) (fun e u h => h) (fun v u h => ?_)
                obtain ⟨xa38, ya38, s38, hI38, hF38, z38, rfl, rfl⟩ := h
                show GG _ _ _ _ _ _ _ _ [.long z38] _ _ _
                exact g_lreturn (gd rfl) rfl (hP _ _ ⟨xa38, ya38, s38, hI38, (fr_tr rfl fr_rf hF38), z38, rfl, rfl⟩)
              · skip
                exact zn_eq c28 (in_c 1 rfl) rfl
