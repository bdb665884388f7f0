/-! methods, by vc.py -/
def fm_411 : FM := ([], [], [(109, 116), (109, 117), (109, 118)], [(109, 121)])
/-- GraphHouseModel.send -/
theorem k_411 {Z : AmZ} {A : Nat → Nat} {s : GS} {ex : va_W} {d : Nat} {X : AmX} {x1 : Int32} {x2 : Int32} {x3 : Int64} (hd : 2 ≤ d) (hI : Inv s) (h1 : In x1 1 4) (h2 : In x2 0 90) : GC Z d 411 [.ref (A 109), .int x1, .int x2, .long x3] (WW Z A s ++ ex) 0 0 (fun v u => ∃ t : GS, Inv t ∧ Fr fm_411 s t ∧ v = none ∧ u = WW Z A t ++ ex) X := by
  intro post xp hP hX
  obtain ⟨u_109_20, e_109_20⟩ : ∃ w, w = s.2.2.1 109 20 := ⟨_, rfl⟩
  have ro_109_20 := inv_F hI 0 32 rfl e_109_20
  have ct58 : ∀ (k58 : Nat) (sc58 : GS) (y58_5 : Int32) (y58_6 : Int32), Inv sc58 → Fr fm_411 s sc58 → (In y58_5 0 128) → (In y58_6 0 128) → (y58_5).toInt.toNat * 36893488147419103232 + dd x3 (sc58.2.2.2.1 109 121) < k58 → GG Z (d - 1) 411 post (gx xp) (1 + k58 * 118801) 58 (fun j => xlook j [(0, .ref (A 109)), (1, .int x1), (2, .int x2), (3, .long x3), (5, .int y58_5), (6, .int y58_6)]) [] (WW Z A sc58 ++ ex) 0 0 := by
    intro k58
    induction k58 with
    | zero => intro sc58 y58_5 y58_6 hIc58 hFc58 j58_5 j58_6 mm58; exact absurd mm58 (Nat.not_lt_zero _)
    | succ k58 ih58 =>
      intro sc58 y58_5 y58_6 hIc58 hFc58 j58_5 j58_6 mm58
      refine gg_w (M := 1 + k58 * 118801 + 118801) (by omega) ?_
      have ct79 : ∀ (k79 : Nat) (sc79 : GS) (y79_6 : Int32) (y79_7 : Int32), Inv sc79 → Fr fm_411 s sc79 → (In y58_5 1 128) → (In y79_6 0 128) → (In y79_7 0 128) → ((y79_6).toInt ≤ (y79_7).toInt) → ((y79_7).toInt ≤ (y58_5).toInt) → (dd x3 (sc79.2.2.2.1 109 121) + (y79_7).toInt.toNat = dd x3 (sc58.2.2.2.1 109 121) ∨ (y79_6).toInt < (y79_7).toInt) → 128 - (y79_7).toInt < (k79 : Int) → GG Z (d - 1) 411 post (gx xp) (1 + k58 * 118801 + 1 + k79 * 900) 79 (fun j => xlook j [(0, .ref (A 109)), (1, .int x1), (2, .int x2), (3, .long x3), (5, .int y58_5), (6, .int y79_6), (7, .int y79_7)]) [] (WW Z A sc79 ++ ex) 0 0 := by
        intro k79
        induction k79 with
        | zero => intro sc79 y79_6 y79_7 hIc79 hFc79 j79_5 j79_6 j79_7 n79_0 n79_1 g79_0 mm79; exact m_no mm79 j79_7 rfl
        | succ k79 ih79 =>
          intro sc79 y79_6 y79_7 hIc79 hFc79 j79_5 j79_6 j79_7 n79_0 n79_1 g79_0 mm79
          refine gg_w (M := 1 + k58 * 118801 + 1 + k79 * 900 + 900) (by omega) ?_
          refine g_iload 81 (gd rfl) rfl rfl ?_
          refine g_iload 83 (gd rfl) rfl rfl ?_
          refine g_cmp_ge 86 177 (gd rfl) rfl rfl (fun c83 => ?_) (fun c83 => ?_)
          · skip
            have i83 := r_le2 1 128 c83 j79_5 j79_7 rfl
            refine g_aload_n 178 (gd rfl) rfl rfl ?_
            refine g_dup 179 (gd rfl) rfl rfl ?_
            refine g_getI 182 (gd rfl) rfl rfl rfl (fun z179 e179 => ?_)
            refine g_iload 184 (gd rfl) rfl rfl ?_
            refine g_iadd 185 (gd rfl) rfl (fun z184 e184 => ?_)
            refine g_putI 188 (gd rfl) rfl rfl rfl rfl ?_
            have hI185 := inv_sF (q := 109) (j := 116) hIc79 rfl (in_w (-2147483648) 2147483647 (i_rng z184) rfl)
            refine g_aload_n 189 (gd rfl) rfl rfl ?_
            refine g_dup 190 (gd rfl) rfl rfl ?_
            refine g_getI 193 (gd rfl) rfl rfl rfl (fun z190 e190 => ?_)
            refine g_iload 195 (gd rfl) rfl rfl ?_
            refine g_iadd 196 (gd rfl) rfl (fun z195 e195 => ?_)
            refine g_putI 199 (gd rfl) rfl rfl rfl rfl ?_
            have hI196 := inv_sF (q := 109) (j := 117) hI185 rfl (in_w (-2147483648) 2147483647 (i_rng z195) rfl)
            refine g_iload 201 (gd rfl) rfl rfl ?_
            refine g_istore 203 (gd rfl) rfl (Nat.le_of_ble_eq_true rfl) ?_
            refine g_goto 58 (gd rfl) rfl ?_
            have m58 : (y79_6).toInt.toNat * 36893488147419103232 + dd x3 ((sF (sF sc79 109 116 z184) 109 117 z195).2.2.2.1 109 121) < k58 := by have hes : ((sF (sF sc79 109 116 z184) 109 117 z195)).2.2.2.1 109 121 = sc79.2.2.2.1 109 121 := rfl; rw [hes]; have h := dd_le x3 (sc79.2.2.2.1 109 121); rcases g79_0 with hg | hg; exact dm_1 mm58 (by have a0 := j79_5; unfold In at a0; have a1 := h2; unfold In at a1; have a2 := h1; unfold In at a2; have a3 := ro_109_20; unfold In at a3; have a4 := i83; unfold In at a4; have a5 := j79_6; unfold In at a5; omega) (by have a0 := j79_5; unfold In at a0; have a1 := h2; unfold In at a1; have a2 := h1; unfold In at a2; have a3 := ro_109_20; unfold In at a3; have a4 := i83; unfold In at a4; have a5 := j79_6; unfold In at a5; omega); exact dm_2 mm58 (Nat.lt_of_le_of_lt h (by decide)) (by have a0 := j79_5; unfold In at a0; have a1 := h2; unfold In at a1; have a2 := h1; unfold In at a2; have a3 := ro_109_20; unfold In at a3; have a4 := i83; unfold In at a4; have a5 := j79_6; unfold In at a5; omega)
            exact gg_w (by omega) (gg_f (gf_cons rfl (gf_cons rfl (gf_cons rfl (gf_cons rfl (gf_cons rfl (gf_cons rfl gf_nil)))))) (ih58  (sF (sF sc79 109 116 z184) 109 117 z195) y79_6 y79_6 hI196 (fr_sF rfl (fr_sF rfl hFc79)) (in_w 0 128 j79_6 rfl) (in_w 0 128 j79_6 rfl) m58))
          · skip
            have i83 := r_lt1 0 127 c83 j79_7 j79_5 rfl
            refine g_aload_n 87 (gd rfl) rfl rfl ?_
            refine g_dup 88 (gd rfl) rfl rfl ?_
            refine g_getL 91 (gd rfl) rfl rfl rfl (fun z88 e88 => ?_)
            refine g_lconst 1 92 (gd rfl) rfl rfl ?_
            refine g_ladd 93 (gd rfl) rfl (fun z92 e92 => ?_)
            refine g_putL 96 (gd rfl) rfl rfl rfl rfl ?_
            have hI93 := inv_sG (q := 109) (j := 121) (x := z92) hIc79 rfl (l_rng z92)
            refine g_lload_n 97 (gd rfl) rfl rfl ?_
            refine g_ldc2_w (-7046029254386353131) 100 (gd rfl) rfl rfl ?_
            refine g_aload_n 101 (gd rfl) rfl rfl ?_
            refine g_getL 104 (gd rfl) rfl rfl rfl (fun z101 e101 => ?_)
            refine g_lmul 105 (gd rfl) rfl (fun z104 e104 => ?_)
            refine g_ladd 106 (gd rfl) rfl (fun z105 e105 => ?_)
            refine g_lstore 108 (gd rfl) rfl (Nat.le_of_ble_eq_true rfl) ?_
            refine g_lload 110 (gd rfl) rfl rfl ?_
            refine g_lload 112 (gd rfl) rfl rfl ?_
            refine g_bipush 30 114 (gd rfl) rfl rfl ?_
            refine g_lushr 115 (gd rfl) rfl (fun z114 e114 => ?_)
            refine g_lxor 116 (gd rfl) rfl (fun z115 e115 => ?_)
            refine g_ldc2_w (-4658895280553007687) 119 (gd rfl) rfl rfl ?_
            refine g_lmul 120 (gd rfl) rfl (fun z119 e119 => ?_)
            refine g_lstore 122 (gd rfl) rfl (Nat.le_of_ble_eq_true rfl) ?_
            refine g_lload 124 (gd rfl) rfl rfl ?_
            refine g_lload 126 (gd rfl) rfl rfl ?_
            refine g_bipush 27 128 (gd rfl) rfl rfl ?_
            refine g_lushr 129 (gd rfl) rfl (fun z128 e128 => ?_)
            refine g_lxor 130 (gd rfl) rfl (fun z129 e129 => ?_)
            refine g_ldc2_w (-7723592293110705685) 133 (gd rfl) rfl rfl ?_
            refine g_lmul 134 (gd rfl) rfl (fun z133 e133 => ?_)
            refine g_lstore 136 (gd rfl) rfl (Nat.le_of_ble_eq_true rfl) ?_
            refine g_lload 138 (gd rfl) rfl rfl ?_
            refine g_lload 140 (gd rfl) rfl rfl ?_
            refine g_bipush 31 142 (gd rfl) rfl rfl ?_
            refine g_lushr 143 (gd rfl) rfl (fun z142 e142 => ?_)
            refine g_lxor 144 (gd rfl) rfl (fun z143 e143 => ?_)
            refine g_lstore 146 (gd rfl) rfl (Nat.le_of_ble_eq_true rfl) ?_
            refine g_iload 148 (gd rfl) rfl rfl ?_
            refine g_lload 150 (gd rfl) rfl rfl ?_
            refine g_bipush 33 152 (gd rfl) rfl rfl ?_
            refine g_lushr 153 (gd rfl) rfl (fun z152 e152 => ?_)
            refine g_ldc2_w 100 156 (gd rfl) rfl rfl ?_
            refine g_lrem 157 (gd rfl) rfl (by decide) (fun z156 e156 => ?_)
            have i156 := l_rem (-99) 99 e156 rfl
            refine g_iload_n 158 (gd rfl) rfl rfl ?_
            refine g_i2l 159 (gd rfl) rfl (fun z158 e158 => ?_)
            have i158 := l_i e158 h2
            refine g_lcmp 160 (gd rfl) rfl (fun z159 e159 => ?_)
            have i159 := lc_in e159
            refine g_if_ge 163 167 (gd rfl) rfl rfl (fun c160 => ?_) (fun c160 => ?_)
            · skip
              have i160 := z_ge 0 1 c160 i159 rfl
              have c160a := lc_ge e159 c160
              have i160a := lr_le2 0 99 c160a i158 i156 rfl
              refine g_iconst 0 168 (gd rfl) rfl rfl ?_
              refine g_iadd 169 (gd rfl) rfl (fun z168 e168 => ?_)
              have i168 := in_add 0 128 e168 j79_6 (in_c 0 rfl) rfl rfl
              refine g_istore 171 (gd rfl) rfl (Nat.le_of_ble_eq_true rfl) ?_
              refine g_iinc 174 (gd rfl) rfl rfl (Nat.le_of_ble_eq_true rfl) (fun z171 e171 => ?_)
              have i171 := in_add 1 128 e171 i83 (in_c 1 rfl) rfl rfl
              refine g_goto 79 (gd rfl) rfl ?_
              have n79 : (z168).toInt ≤ (z171).toInt := by have a0 := j79_5; unfold In at a0; have a1 := h2; unfold In at a1; have a2 := h1; unfold In at a2; have a3 := ro_109_20; unfold In at a3; have a4 := i83; unfold In at a4; have a5 := j79_6; unfold In at a5; have a6 := i171; unfold In at a6; have a7 := t_add e171 i83 (in_c 1 rfl) rfl; have a8 := (in_c 1 rfl); unfold In at a8; have a9 := i168; unfold In at a9; have a10 := t_add e168 j79_6 (in_c 0 rfl) rfl; have a11 := (in_c 0 rfl); unfold In at a11; have a12 := tx_i2l e158; omega
              have n79a : (z171).toInt ≤ (y58_5).toInt := by have a0 := j79_5; unfold In at a0; have a1 := h2; unfold In at a1; have a2 := h1; unfold In at a2; have a3 := ro_109_20; unfold In at a3; have a4 := i83; unfold In at a4; have a5 := j79_6; unfold In at a5; have a6 := i171; unfold In at a6; have a7 := t_add e171 i83 (in_c 1 rfl) rfl; have a8 := (in_c 1 rfl); unfold In at a8; have a9 := i168; unfold In at a9; have a10 := t_add e168 j79_6 (in_c 0 rfl) rfl; have a11 := (in_c 0 rfl); unfold In at a11; have a12 := tx_i2l e158; omega
              have n79b : dd x3 ((sG sc79 109 121 z92).2.2.2.1 109 121) + (z171).toInt.toNat = dd x3 (sc58.2.2.2.1 109 121) ∨ (z168).toInt < (z171).toInt := by first | (right; have a0 := j79_5; unfold In at a0; have a1 := h2; unfold In at a1; have a2 := h1; unfold In at a2; have a3 := ro_109_20; unfold In at a3; have a4 := i83; unfold In at a4; have a5 := j79_6; unfold In at a5; have a6 := i171; unfold In at a6; have a7 := t_add e171 i83 (in_c 1 rfl) rfl; have a8 := (in_c 1 rfl); unfold In at a8; have a9 := i168; unfold In at a9; have a10 := t_add e168 j79_6 (in_c 0 rfl) rfl; have a11 := (in_c 0 rfl); unfold In at a11; have a12 := tx_i2l e158; omega) | (rcases g79_0 with hg | hg; (by_cases h1 : dd x3 (sc79.2.2.2.1 109 121) = 1; (exfalso; have hj := dd_1 (e := z92) (by rw [e92, e88]) h1; have hb : z105 = Int64.ofInt (-5995951349977708269) := (by rw [e105, e104, show z101 = z92 from (by rw [e101]; exact sG_get.symm)]; exact x0_ok hj); have hl : z156.toInt = 99 := (by rw [e156, e152, e143, e142, e133, e129, e128, e119, e115, e114, hb]; decide); have h9 := i158; unfold InL at h9; omega); (left; have hs := dd_s (e := z92) (by rw [e92, e88]) h1; rw [show (sG sc79 109 121 z92).2.2.2.1 109 121 = z92 from sG_get.symm]; have a0 := j79_5; unfold In at a0; have a1 := h2; unfold In at a1; have a2 := h1; unfold In at a2; have a3 := ro_109_20; unfold In at a3; have a4 := i83; unfold In at a4; have a5 := j79_6; unfold In at a5; have a6 := i171; unfold In at a6; have a7 := t_add e171 i83 (in_c 1 rfl) rfl; have a8 := (in_c 1 rfl); unfold In at a8; have a9 := i168; unfold In at a9; have a10 := t_add e168 j79_6 (in_c 0 rfl) rfl; have a11 := (in_c 0 rfl); unfold In at a11; have a12 := tx_i2l e158; omega)); (right; have a0 := j79_5; unfold In at a0; have a1 := h2; unfold In at a1; have a2 := h1; unfold In at a2; have a3 := ro_109_20; unfold In at a3; have a4 := i83; unfold In at a4; have a5 := j79_6; unfold In at a5; have a6 := i171; unfold In at a6; have a7 := t_add e171 i83 (in_c 1 rfl) rfl; have a8 := (in_c 1 rfl); unfold In at a8; have a9 := i168; unfold In at a9; have a10 := t_add e168 j79_6 (in_c 0 rfl) rfl; have a11 := (in_c 0 rfl); unfold In at a11; have a12 := tx_i2l e158; omega)) | (have hes : ((sG sc79 109 121 z92)).2.2.2.1 109 121 = sc58.2.2.2.1 109 121 := rfl; rw [hes]; exact Or.inl (dd_0 _ _))
              exact gg_w (by omega) (gg_f (gf_cons rfl (gf_cons rfl (gf_cons rfl (gf_cons rfl (gf_cons rfl (gf_cons rfl (gf_cons rfl gf_nil))))))) (ih79 (sG sc79 109 121 z92) z168 z171 hI93 (fr_sG rfl hFc79) (in_w 1 128 j79_5 rfl) (in_w 0 128 i168 rfl) (in_w 0 128 i171 rfl) n79 n79a n79b (m_up mm79 (t_add e171 i83 (in_c 1 rfl) rfl) (in_w 1 1 (in_c 1 rfl) rfl))))
            · skip
              have i160 := z_lt (-1) (-1) c160 i159 rfl
              have c160a := lc_lt e159 c160
              have i160a := lr_lt1 (-99) 89 c160a i156 i158 rfl
              refine g_iconst 1 164 (gd rfl) rfl rfl ?_
              refine g_goto 168 (gd rfl) rfl ?_
              refine g_iadd 169 (gd rfl) rfl (fun z168 e168 => ?_)
              have i168 := in_add 1 129 e168 j79_6 (in_c 1 rfl) rfl rfl
              refine g_istore 171 (gd rfl) rfl (Nat.le_of_ble_eq_true rfl) ?_
              refine g_iinc 174 (gd rfl) rfl rfl (Nat.le_of_ble_eq_true rfl) (fun z171 e171 => ?_)
              have i171 := in_add 1 128 e171 i83 (in_c 1 rfl) rfl rfl
              refine g_goto 79 (gd rfl) rfl ?_
              have i79 : In z168 0 128 := by exact ⟨by have a0 := j79_5; unfold In at a0; have a1 := h2; unfold In at a1; have a2 := h1; unfold In at a2; have a3 := ro_109_20; unfold In at a3; have a4 := i83; unfold In at a4; have a5 := j79_6; unfold In at a5; have a6 := i171; unfold In at a6; have a7 := t_add e171 i83 (in_c 1 rfl) rfl; have a8 := (in_c 1 rfl); unfold In at a8; have a9 := i168; unfold In at a9; have a10 := t_add e168 j79_6 (in_c 1 rfl) rfl; have a11 := tx_i2l e158; omega, by have a0 := j79_5; unfold In at a0; have a1 := h2; unfold In at a1; have a2 := h1; unfold In at a2; have a3 := ro_109_20; unfold In at a3; have a4 := i83; unfold In at a4; have a5 := j79_6; unfold In at a5; have a6 := i171; unfold In at a6; have a7 := t_add e171 i83 (in_c 1 rfl) rfl; have a8 := (in_c 1 rfl); unfold In at a8; have a9 := i168; unfold In at a9; have a10 := t_add e168 j79_6 (in_c 1 rfl) rfl; have a11 := tx_i2l e158; omega⟩
              have n79 : (z168).toInt ≤ (z171).toInt := by have a0 := j79_5; unfold In at a0; have a1 := h2; unfold In at a1; have a2 := h1; unfold In at a2; have a3 := ro_109_20; unfold In at a3; have a4 := i83; unfold In at a4; have a5 := j79_6; unfold In at a5; have a6 := i171; unfold In at a6; have a7 := t_add e171 i83 (in_c 1 rfl) rfl; have a8 := (in_c 1 rfl); unfold In at a8; have a9 := i79; unfold In at a9; have a10 := t_add e168 j79_6 (in_c 1 rfl) rfl; have a11 := tx_i2l e158; omega
              have n79a : (z171).toInt ≤ (y58_5).toInt := by have a0 := j79_5; unfold In at a0; have a1 := h2; unfold In at a1; have a2 := h1; unfold In at a2; have a3 := ro_109_20; unfold In at a3; have a4 := i83; unfold In at a4; have a5 := j79_6; unfold In at a5; have a6 := i171; unfold In at a6; have a7 := t_add e171 i83 (in_c 1 rfl) rfl; have a8 := (in_c 1 rfl); unfold In at a8; have a9 := i79; unfold In at a9; have a10 := t_add e168 j79_6 (in_c 1 rfl) rfl; have a11 := tx_i2l e158; omega
              have n79b : dd x3 ((sG sc79 109 121 z92).2.2.2.1 109 121) + (z171).toInt.toNat = dd x3 (sc58.2.2.2.1 109 121) ∨ (z168).toInt < (z171).toInt := by first | (right; have a0 := j79_5; unfold In at a0; have a1 := h2; unfold In at a1; have a2 := h1; unfold In at a2; have a3 := ro_109_20; unfold In at a3; have a4 := i83; unfold In at a4; have a5 := j79_6; unfold In at a5; have a6 := i171; unfold In at a6; have a7 := t_add e171 i83 (in_c 1 rfl) rfl; have a8 := (in_c 1 rfl); unfold In at a8; have a9 := i79; unfold In at a9; have a10 := t_add e168 j79_6 (in_c 1 rfl) rfl; have a11 := tx_i2l e158; omega) | (rcases g79_0 with hg | hg; (by_cases h1 : dd x3 (sc79.2.2.2.1 109 121) = 1; (exfalso; have hj := dd_1 (e := z92) (by rw [e92, e88]) h1; have hb : z105 = Int64.ofInt (-5995951349977708269) := (by rw [e105, e104, show z101 = z92 from (by rw [e101]; exact sG_get.symm)]; exact x0_ok hj); have hl : z156.toInt = 99 := (by rw [e156, e152, e143, e142, e133, e129, e128, e119, e115, e114, hb]; decide); have h9 := i158; unfold InL at h9; omega); (left; have hs := dd_s (e := z92) (by rw [e92, e88]) h1; rw [show (sG sc79 109 121 z92).2.2.2.1 109 121 = z92 from sG_get.symm]; have a0 := j79_5; unfold In at a0; have a1 := h2; unfold In at a1; have a2 := h1; unfold In at a2; have a3 := ro_109_20; unfold In at a3; have a4 := i83; unfold In at a4; have a5 := j79_6; unfold In at a5; have a6 := i171; unfold In at a6; have a7 := t_add e171 i83 (in_c 1 rfl) rfl; have a8 := (in_c 1 rfl); unfold In at a8; have a9 := i79; unfold In at a9; have a10 := t_add e168 j79_6 (in_c 1 rfl) rfl; have a11 := tx_i2l e158; omega)); (right; have a0 := j79_5; unfold In at a0; have a1 := h2; unfold In at a1; have a2 := h1; unfold In at a2; have a3 := ro_109_20; unfold In at a3; have a4 := i83; unfold In at a4; have a5 := j79_6; unfold In at a5; have a6 := i171; unfold In at a6; have a7 := t_add e171 i83 (in_c 1 rfl) rfl; have a8 := (in_c 1 rfl); unfold In at a8; have a9 := i79; unfold In at a9; have a10 := t_add e168 j79_6 (in_c 1 rfl) rfl; have a11 := tx_i2l e158; omega)) | (have hes : ((sG sc79 109 121 z92)).2.2.2.1 109 121 = sc58.2.2.2.1 109 121 := rfl; rw [hes]; exact Or.inl (dd_0 _ _))
              exact gg_w (by omega) (gg_f (gf_cons rfl (gf_cons rfl (gf_cons rfl (gf_cons rfl (gf_cons rfl (gf_cons rfl (gf_cons rfl gf_nil))))))) (ih79 (sG sc79 109 121 z92) z168 z171 hI93 (fr_sG rfl hFc79) (in_w 1 128 j79_5 rfl) i79 (in_w 0 128 i171 rfl) n79 n79a n79b (m_up mm79 (t_add e171 i83 (in_c 1 rfl) rfl) (in_w 1 1 (in_c 1 rfl) rfl))))
      refine g_iload 60 (gd rfl) rfl rfl ?_
      refine g_if_le 63 206 (gd rfl) rfl rfl (fun c60 => ?_) (fun c60 => ?_)
      · skip
        have i60 := z_le 0 0 c60 j58_5 rfl
        exact g_return (gd rfl) rfl (hP _ _ ⟨sc58, hIc58, hFc58, rfl, rfl⟩)
      · skip
        have i60 := z_gt 1 128 c60 j58_5 rfl
        refine g_aload_n 64 (gd rfl) rfl rfl ?_
        refine g_dup 65 (gd rfl) rfl rfl ?_
        refine g_getI 68 (gd rfl) rfl rfl rfl (fun z65 e65 => ?_)
        refine g_iconst 1 69 (gd rfl) rfl rfl ?_
        refine g_iadd 70 (gd rfl) rfl (fun z69 e69 => ?_)
        refine g_putI 73 (gd rfl) rfl rfl rfl rfl ?_
        have hI70 := inv_sF (q := 109) (j := 118) hIc58 rfl (in_w (-2147483648) 2147483647 (i_rng z69) rfl)
        refine g_iconst 0 74 (gd rfl) rfl rfl ?_
        refine g_istore 76 (gd rfl) rfl (Nat.le_of_ble_eq_true rfl) ?_
        refine g_iconst 0 77 (gd rfl) rfl rfl ?_
        refine g_istore 79 (gd rfl) rfl (Nat.le_of_ble_eq_true rfl) ?_
        have n79 : ((Int32.ofInt 0)).toInt ≤ ((Int32.ofInt 0)).toInt := by have a0 := h2; unfold In at a0; have a1 := h1; unfold In at a1; have a2 := ro_109_20; unfold In at a2; have a3 := j58_6; unfold In at a3; have a4 := i60; unfold In at a4; have a5 := (in_c 0 rfl); unfold In at a5; omega
        have n79a : ((Int32.ofInt 0)).toInt ≤ (y58_5).toInt := by have a0 := h2; unfold In at a0; have a1 := h1; unfold In at a1; have a2 := ro_109_20; unfold In at a2; have a3 := j58_6; unfold In at a3; have a4 := i60; unfold In at a4; have a5 := (in_c 0 rfl); unfold In at a5; omega
        have n79b : dd x3 ((sF sc58 109 118 z69).2.2.2.1 109 121) + ((Int32.ofInt 0)).toInt.toNat = dd x3 (sc58.2.2.2.1 109 121) ∨ ((Int32.ofInt 0)).toInt < ((Int32.ofInt 0)).toInt := by first | (right; have a0 := h2; unfold In at a0; have a1 := h1; unfold In at a1; have a2 := ro_109_20; unfold In at a2; have a3 := j58_6; unfold In at a3; have a4 := i60; unfold In at a4; have a5 := (in_c 0 rfl); unfold In at a5; omega) | (rcases g79_0 with hg | hg; (by_cases h1 : dd x3 (sc79.2.2.2.1 109 121) = 1; (exfalso; have hj := dd_1 (e := z92) (by rw [e92, e88]) h1; have hb : z105 = Int64.ofInt (-5995951349977708269) := (by rw [e105, e104, show z101 = z92 from (by rw [e101]; exact sG_get.symm)]; exact x0_ok hj); have hl : z156.toInt = 99 := (by rw [e156, e152, e143, e142, e133, e129, e128, e119, e115, e114, hb]; decide); have h9 := i158; unfold InL at h9; omega); (left; have hs := dd_s (e := z92) (by rw [e92, e88]) h1; rw [show (sG sc79 109 121 z92).2.2.2.1 109 121 = z92 from sG_get.symm]; have a0 := h2; unfold In at a0; have a1 := h1; unfold In at a1; have a2 := ro_109_20; unfold In at a2; have a3 := j58_6; unfold In at a3; have a4 := i60; unfold In at a4; have a5 := (in_c 0 rfl); unfold In at a5; omega)); (right; have a0 := h2; unfold In at a0; have a1 := h1; unfold In at a1; have a2 := ro_109_20; unfold In at a2; have a3 := j58_6; unfold In at a3; have a4 := i60; unfold In at a4; have a5 := (in_c 0 rfl); unfold In at a5; omega)) | (have hes : ((sF sc58 109 118 z69)).2.2.2.1 109 121 = sc58.2.2.2.1 109 121 := rfl; rw [hes]; exact Or.inl (dd_0 _ _))
        exact gg_w (by omega) (gg_f (gf_cons rfl (gf_cons rfl (gf_cons rfl (gf_cons rfl (gf_cons rfl (gf_cons rfl (gf_cons rfl gf_nil))))))) (ct79 129 (sF sc58 109 118 z69) (Int32.ofInt 0) (Int32.ofInt 0) hI70 (fr_sF rfl hFc58) (in_w 1 128 i60 rfl) (in_w 0 128 (in_c 0 rfl) rfl) (in_w 0 128 (in_c 0 rfl) rfl) n79 n79a n79b (m_in 129 (in_w 0 128 (in_c 0 rfl) rfl) rfl)))
  have ct6 : ∀ (k6 : Nat) (sc6 : GS) (y6_5 : Int32) (y6_6 : Int32), Inv sc6 → Fr fm_411 s sc6 → (In y6_5 0 128) → (In y6_6 0 32) → ((y6_5).toInt ≤ 4 * (y6_6).toInt) → 32 - (y6_6).toInt < (k6 : Int) → GG Z (d - 1) 411 post (gx xp) (569787827102199794798428162 + k6 * 7201) 6 (fun j => xlook j [(0, .ref (A 109)), (1, .int x1), (2, .int x2), (3, .long x3), (5, .int y6_5), (6, .int y6_6)]) [] (WW Z A sc6 ++ ex) 0 0 := by
    intro k6
    induction k6 with
    | zero => intro sc6 y6_5 y6_6 hIc6 hFc6 j6_5 j6_6 n6_0 mm6; exact m_no mm6 j6_6 rfl
    | succ k6 ih6 =>
      intro sc6 y6_5 y6_6 hIc6 hFc6 j6_5 j6_6 n6_0 mm6
      refine gg_w (M := 569787827102199794798428162 + k6 * 7201 + 7201) (by omega) ?_
      have ct18 : ∀ (k18 : Nat) (sc18 : GS) (y18_5 : Int32) (y18_7 : Int32), Inv sc18 → Fr fm_411 s sc18 → (In y18_5 0 128) → (In y6_6 0 31) → (In y18_7 0 4) → ((y18_5).toInt ≤ 4 * (y6_6).toInt + (y18_7).toInt) → ((y18_7).toInt ≤ (x1).toInt) → 4 - (y18_7).toInt < (k18 : Int) → GG Z (d - 1) 411 post (gx xp) (569787827102199794798428162 + k6 * 7201 + 1 + k18 * 900) 18 (fun j => xlook j [(0, .ref (A 109)), (1, .int x1), (2, .int x2), (3, .long x3), (5, .int y18_5), (6, .int y6_6), (7, .int y18_7)]) [] (WW Z A sc18 ++ ex) 0 0 := by
        intro k18
        induction k18 with
        | zero => intro sc18 y18_5 y18_7 hIc18 hFc18 j18_5 j18_6 j18_7 n18_0 n18_1 mm18; exact m_no mm18 j18_7 rfl
        | succ k18 ih18 =>
          intro sc18 y18_5 y18_7 hIc18 hFc18 j18_5 j18_6 j18_7 n18_0 n18_1 mm18
          refine gg_w (M := 569787827102199794798428162 + k6 * 7201 + 1 + k18 * 900 + 900) (by omega) ?_
          refine g_iload 20 (gd rfl) rfl rfl ?_
          refine g_iload_n 21 (gd rfl) rfl rfl ?_
          refine g_cmp_ge 24 52 (gd rfl) rfl rfl (fun c21 => ?_) (fun c21 => ?_)
          · skip
            have i21 := r_le2 1 4 c21 h1 j18_7 rfl
            refine g_iinc 55 (gd rfl) rfl rfl (Nat.le_of_ble_eq_true rfl) (fun z52 e52 => ?_)
            have i52 := in_add 1 32 e52 j18_6 (in_c 1 rfl) rfl rfl
            refine g_goto 6 (gd rfl) rfl ?_
            have n6 : (y18_5).toInt ≤ 4 * (z52).toInt := by have a0 := j18_6; unfold In at a0; have a1 := h2; unfold In at a1; have a2 := h1; unfold In at a2; have a3 := ro_109_20; unfold In at a3; have a4 := i21; unfold In at a4; have a5 := j18_5; unfold In at a5; have a6 := i52; unfold In at a6; have a7 := t_add e52 j18_6 (in_c 1 rfl) rfl; have a8 := (in_c 1 rfl); unfold In at a8; omega
            exact gg_w (by omega) (gg_f (gf_cons rfl (gf_cons rfl (gf_cons rfl (gf_cons rfl (gf_cons rfl (gf_cons rfl gf_nil)))))) (ih6 sc18 y18_5 z52 hIc18 hFc18 (in_w 0 128 j18_5 rfl) (in_w 0 32 i52 rfl) n6 (m_up mm6 (t_add e52 j18_6 (in_c 1 rfl) rfl) (in_w 1 1 (in_c 1 rfl) rfl))))
          · skip
            have i21 := r_lt1 0 3 c21 j18_7 h1 rfl
            refine g_iload 26 (gd rfl) rfl rfl ?_
            refine g_aload_n 27 (gd rfl) rfl rfl ?_
            refine g_iload 29 (gd rfl) rfl rfl ?_
            refine g_iload 31 (gd rfl) rfl rfl ?_
            refine g_iload_n 32 (gd rfl) rfl rfl ?_
            refine g_callv (X := _) (As := [.int y6_6, .int y18_7, .int x1]) (r := [.int y18_5]) (b := A 109) (q := 109) 35 (gd rfl) rfl rfl rfl rfl rfl (ww_o rfl) (Nat.le_of_ble_eq_true rfl) (Nat.zero_le _) (Nat.zero_le _) (k_410 (by omega) hIc18 (in_w 0 31 j18_6 rfl) (in_w 0 3 i21 rfl) (in_w 1 4 h1 rfl)) (fun e u h => h) (fun v u h => ?_)
            obtain ⟨z32, rfl, rfl, i32⟩ := h
            show GG _ _ _ _ _ _ _ _ [.int z32, .int y18_5] _ _ _
            refine g_if_eq 38 42 (gd rfl) rfl rfl (fun c35 => ?_) (fun c35 => ?_)
            · skip
              have i35 := z_eq 0 0 c35 i32 rfl
              refine g_iconst 0 43 (gd rfl) rfl rfl ?_
              refine g_iadd 44 (gd rfl) rfl (fun z43 e43 => ?_)
              have i43 := in_add 0 128 e43 j18_5 (in_c 0 rfl) rfl rfl
              refine g_istore 46 (gd rfl) rfl (Nat.le_of_ble_eq_true rfl) ?_
              refine g_iinc 49 (gd rfl) rfl rfl (Nat.le_of_ble_eq_true rfl) (fun z46 e46 => ?_)
              have i46 := in_add 1 4 e46 i21 (in_c 1 rfl) rfl rfl
              refine g_goto 18 (gd rfl) rfl ?_
              have n18 : (z43).toInt ≤ 4 * (y6_6).toInt + (z46).toInt := by have a0 := j18_6; unfold In at a0; have a1 := h2; unfold In at a1; have a2 := h1; unfold In at a2; have a3 := ro_109_20; unfold In at a3; have a4 := i21; unfold In at a4; have a5 := j18_5; unfold In at a5; have a6 := i46; unfold In at a6; have a7 := t_add e46 i21 (in_c 1 rfl) rfl; have a8 := (in_c 1 rfl); unfold In at a8; have a9 := i43; unfold In at a9; have a10 := t_add e43 j18_5 (in_c 0 rfl) rfl; have a11 := (in_c 0 rfl); unfold In at a11; omega
              have n18a : (z46).toInt ≤ (x1).toInt := by have a0 := j18_6; unfold In at a0; have a1 := h2; unfold In at a1; have a2 := h1; unfold In at a2; have a3 := ro_109_20; unfold In at a3; have a4 := i21; unfold In at a4; have a5 := j18_5; unfold In at a5; have a6 := i46; unfold In at a6; have a7 := t_add e46 i21 (in_c 1 rfl) rfl; have a8 := (in_c 1 rfl); unfold In at a8; have a9 := i43; unfold In at a9; have a10 := t_add e43 j18_5 (in_c 0 rfl) rfl; have a11 := (in_c 0 rfl); unfold In at a11; omega
              exact gg_w (by omega) (gg_f (gf_cons rfl (gf_cons rfl (gf_cons rfl (gf_cons rfl (gf_cons rfl (gf_cons rfl (gf_cons rfl gf_nil))))))) (ih18 sc18 z43 z46 hIc18 hFc18 (in_w 0 128 i43 rfl) (in_w 0 31 j18_6 rfl) (in_w 0 4 i46 rfl) n18 n18a (m_up mm18 (t_add e46 i21 (in_c 1 rfl) rfl) (in_w 1 1 (in_c 1 rfl) rfl))))
            · skip
              have i35 := z_ne 1 1 c35 i32 rfl
              refine g_iconst 1 39 (gd rfl) rfl rfl ?_
              refine g_goto 43 (gd rfl) rfl ?_
              refine g_iadd 44 (gd rfl) rfl (fun z43 e43 => ?_)
              have i43 := in_add 1 129 e43 j18_5 (in_c 1 rfl) rfl rfl
              refine g_istore 46 (gd rfl) rfl (Nat.le_of_ble_eq_true rfl) ?_
              refine g_iinc 49 (gd rfl) rfl rfl (Nat.le_of_ble_eq_true rfl) (fun z46 e46 => ?_)
              have i46 := in_add 1 4 e46 i21 (in_c 1 rfl) rfl rfl
              refine g_goto 18 (gd rfl) rfl ?_
              have i18 : In z43 0 128 := by exact ⟨by have a0 := j18_6; unfold In at a0; have a1 := h2; unfold In at a1; have a2 := h1; unfold In at a2; have a3 := ro_109_20; unfold In at a3; have a4 := i21; unfold In at a4; have a5 := j18_5; unfold In at a5; have a6 := i46; unfold In at a6; have a7 := t_add e46 i21 (in_c 1 rfl) rfl; have a8 := (in_c 1 rfl); unfold In at a8; have a9 := i43; unfold In at a9; have a10 := t_add e43 j18_5 (in_c 1 rfl) rfl; omega, by have a0 := j18_6; unfold In at a0; have a1 := h2; unfold In at a1; have a2 := h1; unfold In at a2; have a3 := ro_109_20; unfold In at a3; have a4 := i21; unfold In at a4; have a5 := j18_5; unfold In at a5; have a6 := i46; unfold In at a6; have a7 := t_add e46 i21 (in_c 1 rfl) rfl; have a8 := (in_c 1 rfl); unfold In at a8; have a9 := i43; unfold In at a9; have a10 := t_add e43 j18_5 (in_c 1 rfl) rfl; omega⟩
              have n18 : (z43).toInt ≤ 4 * (y6_6).toInt + (z46).toInt := by have a0 := j18_6; unfold In at a0; have a1 := h2; unfold In at a1; have a2 := h1; unfold In at a2; have a3 := ro_109_20; unfold In at a3; have a4 := i21; unfold In at a4; have a5 := j18_5; unfold In at a5; have a6 := i46; unfold In at a6; have a7 := t_add e46 i21 (in_c 1 rfl) rfl; have a8 := (in_c 1 rfl); unfold In at a8; have a9 := i18; unfold In at a9; have a10 := t_add e43 j18_5 (in_c 1 rfl) rfl; omega
              have n18a : (z46).toInt ≤ (x1).toInt := by have a0 := j18_6; unfold In at a0; have a1 := h2; unfold In at a1; have a2 := h1; unfold In at a2; have a3 := ro_109_20; unfold In at a3; have a4 := i21; unfold In at a4; have a5 := j18_5; unfold In at a5; have a6 := i46; unfold In at a6; have a7 := t_add e46 i21 (in_c 1 rfl) rfl; have a8 := (in_c 1 rfl); unfold In at a8; have a9 := i18; unfold In at a9; have a10 := t_add e43 j18_5 (in_c 1 rfl) rfl; omega
              exact gg_w (by omega) (gg_f (gf_cons rfl (gf_cons rfl (gf_cons rfl (gf_cons rfl (gf_cons rfl (gf_cons rfl (gf_cons rfl gf_nil))))))) (ih18 sc18 z43 z46 hIc18 hFc18 i18 (in_w 0 31 j18_6 rfl) (in_w 0 4 i46 rfl) n18 n18a (m_up mm18 (t_add e46 i21 (in_c 1 rfl) rfl) (in_w 1 1 (in_c 1 rfl) rfl))))
      refine g_iload 8 (gd rfl) rfl rfl ?_
      refine g_aload_n 9 (gd rfl) rfl rfl ?_
      refine g_getI 12 (gd rfl) rfl rfl rfl (fun z9 e9 => ?_)
      have q9 : u_109_20 = z9 := (fr_F e_109_20 hFc6 rfl).trans e9.symm
      subst q9
      refine g_cmp_ge 15 58 (gd rfl) rfl rfl (fun c12 => ?_) (fun c12 => ?_)
      · skip
        have m58 : (y6_5).toInt.toNat * 36893488147419103232 + dd x3 (sc6.2.2.2.1 109 121) < 4796153459164483420160 := by have h := dd_le x3 (sc6.2.2.2.1 109 121); have a0 := h2; unfold In at a0; have a1 := h1; unfold In at a1; have a2 := ro_109_20; unfold In at a2; have a3 := j6_6; unfold In at a3; have a4 := j6_5; unfold In at a4; omega
        exact gg_w (by omega) (gg_f (gf_cons rfl (gf_cons rfl (gf_cons rfl (gf_cons rfl (gf_cons rfl (gf_cons rfl gf_nil)))))) (ct58 (4796153459164483420160) sc6 y6_5 y6_6 hIc6 hFc6 (in_w 0 128 j6_5 rfl) (in_w 0 128 j6_6 rfl) m58))
      · skip
        have i12 := r_lt1 0 31 c12 j6_6 ro_109_20 rfl
        have i12a := r_lt2 1 32 c12 j6_6 ro_109_20 rfl
        refine g_iconst 0 16 (gd rfl) rfl rfl ?_
        refine g_istore 18 (gd rfl) rfl (Nat.le_of_ble_eq_true rfl) ?_
        have n18 : (y6_5).toInt ≤ 4 * (y6_6).toInt + ((Int32.ofInt 0)).toInt := by have a0 := h2; unfold In at a0; have a1 := h1; unfold In at a1; have a2 := i12a; unfold In at a2; have a3 := i12; unfold In at a3; have a4 := j6_5; unfold In at a4; have a5 := (in_c 0 rfl); unfold In at a5; omega
        have n18a : ((Int32.ofInt 0)).toInt ≤ (x1).toInt := by have a0 := h2; unfold In at a0; have a1 := h1; unfold In at a1; have a2 := i12a; unfold In at a2; have a3 := i12; unfold In at a3; have a4 := j6_5; unfold In at a4; have a5 := (in_c 0 rfl); unfold In at a5; omega
        exact gg_w (by omega) (gg_f (gf_cons rfl (gf_cons rfl (gf_cons rfl (gf_cons rfl (gf_cons rfl (gf_cons rfl (gf_cons rfl gf_nil))))))) (ct18 5 sc6 y6_5 (Int32.ofInt 0) hIc6 hFc6 (in_w 0 128 j6_5 rfl) (in_w 0 31 i12 rfl) (in_w 0 4 (in_c 0 rfl) rfl) n18 n18a (m_in 5 (in_w 0 4 (in_c 0 rfl) rfl) rfl)))
  refine g_enter2 (k := 411) (N := 569787827102199794798666695) (by omega) rfl (Nat.le_of_ble_eq_true rfl) ?_
  refine g_iconst 0 1 (gd rfl) rfl rfl ?_
  refine g_istore 3 (gd rfl) rfl (Nat.le_of_ble_eq_true rfl) ?_
  refine g_iconst 0 4 (gd rfl) rfl rfl ?_
  refine g_istore 6 (gd rfl) rfl (Nat.le_of_ble_eq_true rfl) ?_
  have n6 : ((Int32.ofInt 0)).toInt ≤ 4 * ((Int32.ofInt 0)).toInt := by have a0 := ro_109_20; unfold In at a0; have a1 := h2; unfold In at a1; have a2 := h1; unfold In at a2; have a3 := (in_c 0 rfl); unfold In at a3; omega
  exact gg_w (by omega) (gg_f (gf_cons rfl (gf_cons rfl (gf_cons rfl (gf_cons rfl (gf_cons rfl (gf_cons rfl gf_nil)))))) (ct6 33 s (Int32.ofInt 0) (Int32.ofInt 0) hI fr_rf (in_w 0 128 (in_c 0 rfl) rfl) (in_w 0 32 (in_c 0 rfl) rfl) n6 (m_in 33 (in_w 0 32 (in_c 0 rfl) rfl) rfl)))

def fm_412 : FM := ([], [], [(109, 0)], [])
/-- GraphHouseModel.state -/
theorem k_412 {Z : AmZ} {A : Nat → Nat} {s : GS} {ex : va_W} {d : Nat} {X : AmX} {x1 : Int32} (hd : 4 ≤ d) (hI : Inv s)  : GC Z d 412 [.ref (A 109), .int x1] (WW Z A s ++ ex) 0 0 (fun v u => ∃ t : GS, Inv t ∧ Fr fm_412 s t ∧ ∃ z : Int64, v = some (.long z) ∧ u = WW Z A t ++ ex) X := by
  intro post xp hP hX
  obtain ⟨u_109_113, e_109_113⟩ : ∃ w, w = s.2.2.1 109 113 := ⟨_, rfl⟩
  have ro_109_113 := inv_F hI 0 32 rfl e_109_113
  refine g_enter2 (k := 412) (N := 900) (by omega) rfl (Nat.le_of_ble_eq_true rfl) ?_
  refine g_aload_n 1 (gd rfl) rfl rfl ?_
  refine g_iload_n 2 (gd rfl) rfl rfl ?_
  refine g_if_lt 5 17 (gd rfl) rfl rfl (fun c2 => ?_) (fun c2 => ?_)
  · skip
    have i2 := z_lt (-2147483648) (-1) c2 (i_rng x1) rfl
    refine g_iconst 0 18 (gd rfl) rfl rfl ?_
    refine g_callv (X := _) (As := [.int (Int32.ofInt 0)]) (r := []) (b := A 109) (q := 109) 21 (gd rfl) rfl rfl rfl rfl rfl (ww_o rfl) (Nat.le_of_ble_eq_true rfl) (mc := 0) (ms := 0) (Nat.zero_le _) (Nat.zero_le _) (P := fun v u => _) ?_ (fun e u h => h) (fun v u h => h)
    intro po18 xx18 hp18 hx18
    refine g_enter2 (k := 271) (N := 300) (by omega) rfl (Nat.le_of_ble_eq_true rfl) ?_
    refine g_aload_n 1 (gd rfl) rfl rfl ?_
    refine g_iload_n 2 (gd rfl) rfl rfl ?_
    refine g_iconst 1 3 (gd rfl) rfl rfl ?_
    refine g_callv (X := _) (As := [.int (Int32.ofInt 0), .int (Int32.ofInt 1)]) (r := []) (b := A 109) (q := 109) 6 (gd rfl) rfl rfl rfl rfl rfl (ww_o rfl) (Nat.le_of_ble_eq_true rfl) (mc := 0) (ms := 0) (Nat.zero_le _) (Nat.zero_le _) (P := fun v u => _) ?_ (fun e u h => h) (fun v u h => h)
    intro po18x3 xx18x3 hp18x3 hx18x3
    refine g_enter2 (k := 270) (N := 300) (by omega) rfl (Nat.le_of_ble_eq_true rfl) ?_
    refine g_aload_n 1 (gd rfl) rfl rfl ?_
    refine g_iload_n 2 (gd rfl) rfl rfl ?_
    refine g_if_ne 5 9 (gd rfl) rfl rfl (fun c18x3x2 => ?_) (fun c18x3x2 => ?_)
    · skip
      exact zn_ne c18x3x2 (in_c 0 rfl) rfl
    · skip
      refine g_iconst 1 6 (gd rfl) rfl rfl ?_
      refine g_goto 18 (gd rfl) rfl ?_
      refine g_putI 21 (gd rfl) rfl rfl rfl rfl ?_
      have hI18x3x18 := inv_sF (q := 109) (j := 0) hI rfl (in_w 0 2 (in_c 1 rfl) rfl)
      refine g_aload_n 22 (gd rfl) rfl rfl ?_
      refine g_getI 25 (gd rfl) rfl rfl rfl (fun z18x3x22 e18x3x22 => ?_)
      have q18x3x22 : (Int32.ofInt 1) = z18x3x22 := (sF_get).trans e18x3x22.symm
      subst q18x3x22
      refine g_if_le 28 32 (gd rfl) rfl rfl (fun c18x3x25 => ?_) (fun c18x3x25 => ?_)
      · skip
        exact zn_le c18x3x25 (in_c 1 rfl) rfl
      · skip
        refine g_iconst 1 29 (gd rfl) rfl rfl ?_
        refine g_goto 33 (gd rfl) rfl ?_
        refine g_ireturn (gd rfl) rfl (nb01 (in_w 0 1 (in_c 1 rfl) rfl)) (hp18x3 _ _ ?_)
        show GG _ _ _ _ _ _ _ _ [.int (Int32.ofInt 1)] _ _ _
        refine g_ireturn (gd rfl) rfl (nb01 (in_w 0 1 (in_c 1 rfl) rfl)) (hp18 _ _ ?_)
        show GG _ _ _ _ _ _ _ _ [.int (Int32.ofInt 1)] _ _ _
        refine g_if_eq 24 28 (gd rfl) rfl rfl (fun c21 => ?_) (fun c21 => ?_)
        · skip
          exact zn_eq c21 (in_c 1 rfl) rfl
        · skip
          refine g_lconst 0 25 (gd rfl) rfl rfl ?_
          refine g_goto 34 (gd rfl) rfl ?_
          exact g_lreturn (gd rfl) rfl (hP _ _ ⟨(sF s 109 0 (Int32.ofInt 1)), hI18x3x18, (fr_sF rfl fr_rf), (Int64.ofInt 0), rfl, rfl⟩)
  · skip
    have i2 := z_ge 0 2147483647 c2 (i_rng x1) rfl
    refine g_iload_n 6 (gd rfl) rfl rfl ?_
    refine g_aload_n 7 (gd rfl) rfl rfl ?_
    refine g_getI 10 (gd rfl) rfl rfl rfl (fun z7 e7 => ?_)
    have q7 : u_109_113 = z7 := (e_109_113).trans e7.symm
    subst q7
    refine g_cmp_ge 13 17 (gd rfl) rfl rfl (fun c10 => ?_) (fun c10 => ?_)
    · skip
      refine g_iconst 0 18 (gd rfl) rfl rfl ?_
      refine g_callv (X := _) (As := [.int (Int32.ofInt 0)]) (r := []) (b := A 109) (q := 109) 21 (gd rfl) rfl rfl rfl rfl rfl (ww_o rfl) (Nat.le_of_ble_eq_true rfl) (mc := 0) (ms := 0) (Nat.zero_le _) (Nat.zero_le _) (P := fun v u => _) ?_ (fun e u h => h) (fun v u h => h)
      intro po18 xx18 hp18 hx18
      refine g_enter2 (k := 271) (N := 300) (by omega) rfl (Nat.le_of_ble_eq_true rfl) ?_
      refine g_aload_n 1 (gd rfl) rfl rfl ?_
      refine g_iload_n 2 (gd rfl) rfl rfl ?_
      refine g_iconst 1 3 (gd rfl) rfl rfl ?_
      refine g_callv (X := _) (As := [.int (Int32.ofInt 0), .int (Int32.ofInt 1)]) (r := []) (b := A 109) (q := 109) 6 (gd rfl) rfl rfl rfl rfl rfl (ww_o rfl) (Nat.le_of_ble_eq_true rfl) (mc := 0) (ms := 0) (Nat.zero_le _) (Nat.zero_le _) (P := fun v u => _) ?_ (fun e u h => h) (fun v u h => h)
      intro po18x3 xx18x3 hp18x3 hx18x3
      refine g_enter2 (k := 270) (N := 300) (by omega) rfl (Nat.le_of_ble_eq_true rfl) ?_
      refine g_aload_n 1 (gd rfl) rfl rfl ?_
      refine g_iload_n 2 (gd rfl) rfl rfl ?_
      refine g_if_ne 5 9 (gd rfl) rfl rfl (fun c18x3x2 => ?_) (fun c18x3x2 => ?_)
      · skip
        exact zn_ne c18x3x2 (in_c 0 rfl) rfl
      · skip
        refine g_iconst 1 6 (gd rfl) rfl rfl ?_
        refine g_goto 18 (gd rfl) rfl ?_
        refine g_putI 21 (gd rfl) rfl rfl rfl rfl ?_
        have hI18x3x18 := inv_sF (q := 109) (j := 0) hI rfl (in_w 0 2 (in_c 1 rfl) rfl)
        refine g_aload_n 22 (gd rfl) rfl rfl ?_
        refine g_getI 25 (gd rfl) rfl rfl rfl (fun z18x3x22 e18x3x22 => ?_)
        have q18x3x22 : (Int32.ofInt 1) = z18x3x22 := (sF_get).trans e18x3x22.symm
        subst q18x3x22
        refine g_if_le 28 32 (gd rfl) rfl rfl (fun c18x3x25 => ?_) (fun c18x3x25 => ?_)
        · skip
          exact zn_le c18x3x25 (in_c 1 rfl) rfl
        · skip
          refine g_iconst 1 29 (gd rfl) rfl rfl ?_
          refine g_goto 33 (gd rfl) rfl ?_
          refine g_ireturn (gd rfl) rfl (nb01 (in_w 0 1 (in_c 1 rfl) rfl)) (hp18x3 _ _ ?_)
          show GG _ _ _ _ _ _ _ _ [.int (Int32.ofInt 1)] _ _ _
          refine g_ireturn (gd rfl) rfl (nb01 (in_w 0 1 (in_c 1 rfl) rfl)) (hp18 _ _ ?_)
          show GG _ _ _ _ _ _ _ _ [.int (Int32.ofInt 1)] _ _ _
          refine g_if_eq 24 28 (gd rfl) rfl rfl (fun c21 => ?_) (fun c21 => ?_)
          · skip
            exact zn_eq c21 (in_c 1 rfl) rfl
          · skip
            refine g_lconst 0 25 (gd rfl) rfl rfl ?_
            refine g_goto 34 (gd rfl) rfl ?_
            exact g_lreturn (gd rfl) rfl (hP _ _ ⟨(sF s 109 0 (Int32.ofInt 1)), hI18x3x18, (fr_sF rfl fr_rf), (Int64.ofInt 0), rfl, rfl⟩)
    · skip
      have i10 := r_lt1 0 31 c10 i2 ro_109_113 rfl
      have i10a := r_lt2 1 32 c10 i2 ro_109_113 rfl
      refine g_iconst 1 14 (gd rfl) rfl rfl ?_
      refine g_goto 18 (gd rfl) rfl ?_
      refine g_callv (X := _) (As := [.int (Int32.ofInt 1)]) (r := []) (b := A 109) (q := 109) 21 (gd rfl) rfl rfl rfl rfl rfl (ww_o rfl) (Nat.le_of_ble_eq_true rfl) (mc := 0) (ms := 0) (Nat.zero_le _) (Nat.zero_le _) (P := fun v u => _) ?_ (fun e u h => h) (fun v u h => h)
      intro po18 xx18 hp18 hx18
      refine g_enter2 (k := 271) (N := 300) (by omega) rfl (Nat.le_of_ble_eq_true rfl) ?_
      refine g_aload_n 1 (gd rfl) rfl rfl ?_
      refine g_iload_n 2 (gd rfl) rfl rfl ?_
      refine g_iconst 1 3 (gd rfl) rfl rfl ?_
      refine g_callv (X := _) (As := [.int (Int32.ofInt 1), .int (Int32.ofInt 1)]) (r := []) (b := A 109) (q := 109) 6 (gd rfl) rfl rfl rfl rfl rfl (ww_o rfl) (Nat.le_of_ble_eq_true rfl) (mc := 0) (ms := 0) (Nat.zero_le _) (Nat.zero_le _) (P := fun v u => _) ?_ (fun e u h => h) (fun v u h => h)
      intro po18x3 xx18x3 hp18x3 hx18x3
      refine g_enter2 (k := 270) (N := 300) (by omega) rfl (Nat.le_of_ble_eq_true rfl) ?_
      refine g_aload_n 1 (gd rfl) rfl rfl ?_
      refine g_iload_n 2 (gd rfl) rfl rfl ?_
      refine g_if_ne 5 9 (gd rfl) rfl rfl (fun c18x3x2 => ?_) (fun c18x3x2 => ?_)
      · skip
        refine g_iload_n 10 (gd rfl) rfl rfl ?_
        refine g_if_ne 13 17 (gd rfl) rfl rfl (fun c18x3x10 => ?_) (fun c18x3x10 => ?_)
        · skip
          refine g_iconst 0 18 (gd rfl) rfl rfl ?_
          refine g_putI 21 (gd rfl) rfl rfl rfl rfl ?_
          have hI18x3x18 := inv_sF (q := 109) (j := 0) hI rfl (in_w 0 2 (in_c 0 rfl) rfl)
          refine g_aload_n 22 (gd rfl) rfl rfl ?_
          refine g_getI 25 (gd rfl) rfl rfl rfl (fun z18x3x22 e18x3x22 => ?_)
          have q18x3x22 : (Int32.ofInt 0) = z18x3x22 := (sF_get).trans e18x3x22.symm
          subst q18x3x22
          refine g_if_le 28 32 (gd rfl) rfl rfl (fun c18x3x25 => ?_) (fun c18x3x25 => ?_)
          · skip
            refine g_iconst 0 33 (gd rfl) rfl rfl ?_
            refine g_ireturn (gd rfl) rfl (nb01 (in_w 0 1 (in_c 0 rfl) rfl)) (hp18x3 _ _ ?_)
            show GG _ _ _ _ _ _ _ _ [.int (Int32.ofInt 0)] _ _ _
            refine g_ireturn (gd rfl) rfl (nb01 (in_w 0 1 (in_c 0 rfl) rfl)) (hp18 _ _ ?_)
            show GG _ _ _ _ _ _ _ _ [.int (Int32.ofInt 0)] _ _ _
            refine g_if_eq 24 28 (gd rfl) rfl rfl (fun c21 => ?_) (fun c21 => ?_)
            · skip
              refine g_aload_n 29 (gd rfl) rfl rfl ?_
              refine g_getA (q2 := 191) 32 (gd rfl) rfl rfl rfl rfl ?_
              refine g_iload_n 33 (gd rfl) rfl rfl ?_
              refine g_laload 34 (gd rfl) rfl (n := 32) rfl (in_ix i10 rfl) (fun z33 e33 => ?_)
              exact g_lreturn (gd rfl) rfl (hP _ _ ⟨(sF s 109 0 (Int32.ofInt 0)), hI18x3x18, (fr_sF rfl fr_rf), z33, rfl, rfl⟩)
            · skip
              exact zn_ne c21 (in_c 0 rfl) rfl
          · skip
            exact zn_gt c18x3x25 (in_c 0 rfl) rfl
        · skip
          exact zn_eq c18x3x10 (in_c 1 rfl) rfl
      · skip
        exact zn_eq c18x3x2 (in_c 1 rfl) rfl

def fm_413 : FM := ([], [], [(109, 0)], [])
/-- GraphHouseModel.letters -/
theorem k_413 {Z : AmZ} {A : Nat → Nat} {s : GS} {ex : va_W} {d : Nat} {X : AmX} {x1 : Int32} (hd : 4 ≤ d) (hI : Inv s)  : GC Z d 413 [.ref (A 109), .int x1] (WW Z A s ++ ex) 0 0 (fun v u => ∃ t : GS, Inv t ∧ Fr fm_413 s t ∧ ∃ z : Int32, v = some (.int z) ∧ u = WW Z A t ++ ex ∧ In z (-2147483648) 2147483647) X := by
  intro post xp hP hX
  obtain ⟨u_109_116, e_109_116⟩ : ∃ w, w = s.2.2.1 109 116 := ⟨_, rfl⟩
  obtain ⟨u_109_117, e_109_117⟩ : ∃ w, w = s.2.2.1 109 117 := ⟨_, rfl⟩
  obtain ⟨u_109_118, e_109_118⟩ : ∃ w, w = s.2.2.1 109 118 := ⟨_, rfl⟩
  refine g_enter2 (k := 413) (N := 900) (by omega) rfl (Nat.le_of_ble_eq_true rfl) ?_
  refine g_aload_n 1 (gd rfl) rfl rfl ?_
  refine g_iload_n 2 (gd rfl) rfl rfl ?_
  refine g_i2l 3 (gd rfl) rfl (fun z2 e2 => ?_)
  have i2 := l_i e2 (i_rng x1)
  refine g_lconst 0 4 (gd rfl) rfl rfl ?_
  refine g_ldc2_w 2 7 (gd rfl) rfl rfl ?_
  refine g_calls (As := [.long z2, .long (Int64.ofInt 0), .long (Int64.ofInt 2)]) (r := [.ref (A 109)]) 10 (gd rfl) rfl rfl rfl rfl rfl (Nat.le_of_ble_eq_true rfl) (mc := 0) (ms := 0) (Nat.zero_le _) (Nat.zero_le _) (P := fun v u => _) ?_ (fun v u h => h)
  intro po7 xx7 hp7 hx7
  refine g_enter2 (k := 269) (N := 300) (by omega) rfl (Nat.le_of_ble_eq_true rfl) ?_
  refine g_lload_n 1 (gd rfl) rfl rfl ?_
  refine g_lload_n 2 (gd rfl) rfl rfl ?_
  refine g_lcmp 3 (gd rfl) rfl (fun z7x2 e7x2 => ?_)
  have i7x2 := lc_in e7x2
  refine g_if_lt 6 17 (gd rfl) rfl rfl (fun c7x3 => ?_) (fun c7x3 => ?_)
  · skip
    have i7x3 := z_lt (-1) (-1) c7x3 i7x2 rfl
    have c7x3a := lc_lt e7x2 c7x3
    have i7x3a := lr_lt1 (-2147483648) (-1) c7x3a i2 (l_c 0 rfl) rfl
    have i7x3b := l_b e2 i7x3a
    refine g_iconst 0 18 (gd rfl) rfl rfl ?_
    refine g_ireturn (gd rfl) rfl (nb01 (in_w 0 1 (in_c 0 rfl) rfl)) (hp7 _ _ ?_)
    show GG _ _ _ _ _ _ _ _ [.int (Int32.ofInt 0), .ref (A 109)] _ _ _
    refine g_callv (X := _) (As := [.int (Int32.ofInt 0)]) (r := []) (b := A 109) (q := 109) 13 (gd rfl) rfl rfl rfl rfl rfl (ww_o rfl) (Nat.le_of_ble_eq_true rfl) (mc := 0) (ms := 0) (Nat.zero_le _) (Nat.zero_le _) (P := fun v u => _) ?_ (fun e u h => h) (fun v u h => h)
    intro po10 xx10 hp10 hx10
    refine g_enter2 (k := 271) (N := 300) (by omega) rfl (Nat.le_of_ble_eq_true rfl) ?_
    refine g_aload_n 1 (gd rfl) rfl rfl ?_
    refine g_iload_n 2 (gd rfl) rfl rfl ?_
    refine g_iconst 1 3 (gd rfl) rfl rfl ?_
    refine g_callv (X := _) (As := [.int (Int32.ofInt 0), .int (Int32.ofInt 1)]) (r := []) (b := A 109) (q := 109) 6 (gd rfl) rfl rfl rfl rfl rfl (ww_o rfl) (Nat.le_of_ble_eq_true rfl) (mc := 0) (ms := 0) (Nat.zero_le _) (Nat.zero_le _) (P := fun v u => _) ?_ (fun e u h => h) (fun v u h => h)
    intro po10x3 xx10x3 hp10x3 hx10x3
    refine g_enter2 (k := 270) (N := 300) (by omega) rfl (Nat.le_of_ble_eq_true rfl) ?_
    refine g_aload_n 1 (gd rfl) rfl rfl ?_
    refine g_iload_n 2 (gd rfl) rfl rfl ?_
    refine g_if_ne 5 9 (gd rfl) rfl rfl (fun c10x3x2 => ?_) (fun c10x3x2 => ?_)
    · skip
      exact zn_ne c10x3x2 (in_c 0 rfl) rfl
    · skip
      refine g_iconst 1 6 (gd rfl) rfl rfl ?_
      refine g_goto 18 (gd rfl) rfl ?_
      refine g_putI 21 (gd rfl) rfl rfl rfl rfl ?_
      have hI10x3x18 := inv_sF (q := 109) (j := 0) hI rfl (in_w 0 2 (in_c 1 rfl) rfl)
      refine g_aload_n 22 (gd rfl) rfl rfl ?_
      refine g_getI 25 (gd rfl) rfl rfl rfl (fun z10x3x22 e10x3x22 => ?_)
      have q10x3x22 : (Int32.ofInt 1) = z10x3x22 := (sF_get).trans e10x3x22.symm
      subst q10x3x22
      refine g_if_le 28 32 (gd rfl) rfl rfl (fun c10x3x25 => ?_) (fun c10x3x25 => ?_)
      · skip
        exact zn_le c10x3x25 (in_c 1 rfl) rfl
      · skip
        refine g_iconst 1 29 (gd rfl) rfl rfl ?_
        refine g_goto 33 (gd rfl) rfl ?_
        refine g_ireturn (gd rfl) rfl (nb01 (in_w 0 1 (in_c 1 rfl) rfl)) (hp10x3 _ _ ?_)
        show GG _ _ _ _ _ _ _ _ [.int (Int32.ofInt 1)] _ _ _
        refine g_ireturn (gd rfl) rfl (nb01 (in_w 0 1 (in_c 1 rfl) rfl)) (hp10 _ _ ?_)
        show GG _ _ _ _ _ _ _ _ [.int (Int32.ofInt 1)] _ _ _
        refine g_if_eq 16 18 (gd rfl) rfl rfl (fun c13 => ?_) (fun c13 => ?_)
        · skip
          exact zn_eq c13 (in_c 1 rfl) rfl
        · skip
          refine g_iconst 0 17 (gd rfl) rfl rfl ?_
          exact g_ireturn (gd rfl) rfl rfl (hP _ _ ⟨(sF s 109 0 (Int32.ofInt 1)), hI10x3x18, (fr_sF rfl fr_rf), (Int32.ofInt 0), rfl, rfl, in_w (-2147483648) 2147483647 (in_c 0 rfl) rfl⟩)
  · skip
    have i7x3 := z_ge 0 1 c7x3 i7x2 rfl
    have c7x3a := lc_ge e7x2 c7x3
    have i7x3a := lr_le2 0 2147483647 c7x3a (l_c 0 rfl) i2 rfl
    have i7x3b := l_b e2 i7x3a
    refine g_lload_n 7 (gd rfl) rfl rfl ?_
    refine g_lload 9 (gd rfl) rfl rfl ?_
    refine g_lcmp 10 (gd rfl) rfl (fun z7x9 e7x9 => ?_)
    have i7x9 := lc_in e7x9
    refine g_if_gt 13 17 (gd rfl) rfl rfl (fun c7x10 => ?_) (fun c7x10 => ?_)
    · skip
      have i7x10 := z_gt 1 1 c7x10 i7x9 rfl
      have c7x10a := lc_gt e7x9 c7x10
      have i7x10a := lr_lt2 3 2147483647 c7x10a (l_c 2 rfl) i7x3a rfl
      have i7x10b := l_b e2 i7x10a
      refine g_iconst 0 18 (gd rfl) rfl rfl ?_
      refine g_ireturn (gd rfl) rfl (nb01 (in_w 0 1 (in_c 0 rfl) rfl)) (hp7 _ _ ?_)
      show GG _ _ _ _ _ _ _ _ [.int (Int32.ofInt 0), .ref (A 109)] _ _ _
      refine g_callv (X := _) (As := [.int (Int32.ofInt 0)]) (r := []) (b := A 109) (q := 109) 13 (gd rfl) rfl rfl rfl rfl rfl (ww_o rfl) (Nat.le_of_ble_eq_true rfl) (mc := 0) (ms := 0) (Nat.zero_le _) (Nat.zero_le _) (P := fun v u => _) ?_ (fun e u h => h) (fun v u h => h)
      intro po10 xx10 hp10 hx10
      refine g_enter2 (k := 271) (N := 300) (by omega) rfl (Nat.le_of_ble_eq_true rfl) ?_
      refine g_aload_n 1 (gd rfl) rfl rfl ?_
      refine g_iload_n 2 (gd rfl) rfl rfl ?_
      refine g_iconst 1 3 (gd rfl) rfl rfl ?_
      refine g_callv (X := _) (As := [.int (Int32.ofInt 0), .int (Int32.ofInt 1)]) (r := []) (b := A 109) (q := 109) 6 (gd rfl) rfl rfl rfl rfl rfl (ww_o rfl) (Nat.le_of_ble_eq_true rfl) (mc := 0) (ms := 0) (Nat.zero_le _) (Nat.zero_le _) (P := fun v u => _) ?_ (fun e u h => h) (fun v u h => h)
      intro po10x3 xx10x3 hp10x3 hx10x3
      refine g_enter2 (k := 270) (N := 300) (by omega) rfl (Nat.le_of_ble_eq_true rfl) ?_
      refine g_aload_n 1 (gd rfl) rfl rfl ?_
      refine g_iload_n 2 (gd rfl) rfl rfl ?_
      refine g_if_ne 5 9 (gd rfl) rfl rfl (fun c10x3x2 => ?_) (fun c10x3x2 => ?_)
      · skip
        exact zn_ne c10x3x2 (in_c 0 rfl) rfl
      · skip
        refine g_iconst 1 6 (gd rfl) rfl rfl ?_
        refine g_goto 18 (gd rfl) rfl ?_
        refine g_putI 21 (gd rfl) rfl rfl rfl rfl ?_
        have hI10x3x18 := inv_sF (q := 109) (j := 0) hI rfl (in_w 0 2 (in_c 1 rfl) rfl)
        refine g_aload_n 22 (gd rfl) rfl rfl ?_
        refine g_getI 25 (gd rfl) rfl rfl rfl (fun z10x3x22 e10x3x22 => ?_)
        have q10x3x22 : (Int32.ofInt 1) = z10x3x22 := (sF_get).trans e10x3x22.symm
        subst q10x3x22
        refine g_if_le 28 32 (gd rfl) rfl rfl (fun c10x3x25 => ?_) (fun c10x3x25 => ?_)
        · skip
          exact zn_le c10x3x25 (in_c 1 rfl) rfl
        · skip
          refine g_iconst 1 29 (gd rfl) rfl rfl ?_
          refine g_goto 33 (gd rfl) rfl ?_
          refine g_ireturn (gd rfl) rfl (nb01 (in_w 0 1 (in_c 1 rfl) rfl)) (hp10x3 _ _ ?_)
          show GG _ _ _ _ _ _ _ _ [.int (Int32.ofInt 1)] _ _ _
          refine g_ireturn (gd rfl) rfl (nb01 (in_w 0 1 (in_c 1 rfl) rfl)) (hp10 _ _ ?_)
          show GG _ _ _ _ _ _ _ _ [.int (Int32.ofInt 1)] _ _ _
          refine g_if_eq 16 18 (gd rfl) rfl rfl (fun c13 => ?_) (fun c13 => ?_)
          · skip
            exact zn_eq c13 (in_c 1 rfl) rfl
          · skip
            refine g_iconst 0 17 (gd rfl) rfl rfl ?_
            exact g_ireturn (gd rfl) rfl rfl (hP _ _ ⟨(sF s 109 0 (Int32.ofInt 1)), hI10x3x18, (fr_sF rfl fr_rf), (Int32.ofInt 0), rfl, rfl, in_w (-2147483648) 2147483647 (in_c 0 rfl) rfl⟩)
    · skip
      have i7x10 := z_le (-1) 0 c7x10 i7x9 rfl
      have c7x10a := lc_le e7x9 c7x10
      have i7x10a := lr_le1 0 2 c7x10a i7x3a (l_c 2 rfl) rfl
      have i7x10b := l_b e2 i7x10a
      refine g_iconst 1 14 (gd rfl) rfl rfl ?_
      refine g_goto 18 (gd rfl) rfl ?_
      refine g_ireturn (gd rfl) rfl (nb01 (in_w 0 1 (in_c 1 rfl) rfl)) (hp7 _ _ ?_)
      show GG _ _ _ _ _ _ _ _ [.int (Int32.ofInt 1), .ref (A 109)] _ _ _
      refine g_callv (X := _) (As := [.int (Int32.ofInt 1)]) (r := []) (b := A 109) (q := 109) 13 (gd rfl) rfl rfl rfl rfl rfl (ww_o rfl) (Nat.le_of_ble_eq_true rfl) (mc := 0) (ms := 0) (Nat.zero_le _) (Nat.zero_le _) (P := fun v u => _) ?_ (fun e u h => h) (fun v u h => h)
      intro po10 xx10 hp10 hx10
      refine g_enter2 (k := 271) (N := 300) (by omega) rfl (Nat.le_of_ble_eq_true rfl) ?_
      refine g_aload_n 1 (gd rfl) rfl rfl ?_
      refine g_iload_n 2 (gd rfl) rfl rfl ?_
      refine g_iconst 1 3 (gd rfl) rfl rfl ?_
      refine g_callv (X := _) (As := [.int (Int32.ofInt 1), .int (Int32.ofInt 1)]) (r := []) (b := A 109) (q := 109) 6 (gd rfl) rfl rfl rfl rfl rfl (ww_o rfl) (Nat.le_of_ble_eq_true rfl) (mc := 0) (ms := 0) (Nat.zero_le _) (Nat.zero_le _) (P := fun v u => _) ?_ (fun e u h => h) (fun v u h => h)
      intro po10x3 xx10x3 hp10x3 hx10x3
      refine g_enter2 (k := 270) (N := 300) (by omega) rfl (Nat.le_of_ble_eq_true rfl) ?_
      refine g_aload_n 1 (gd rfl) rfl rfl ?_
      refine g_iload_n 2 (gd rfl) rfl rfl ?_
      refine g_if_ne 5 9 (gd rfl) rfl rfl (fun c10x3x2 => ?_) (fun c10x3x2 => ?_)
      · skip
        refine g_iload_n 10 (gd rfl) rfl rfl ?_
        refine g_if_ne 13 17 (gd rfl) rfl rfl (fun c10x3x10 => ?_) (fun c10x3x10 => ?_)
        · skip
          refine g_iconst 0 18 (gd rfl) rfl rfl ?_
          refine g_putI 21 (gd rfl) rfl rfl rfl rfl ?_
          have hI10x3x18 := inv_sF (q := 109) (j := 0) hI rfl (in_w 0 2 (in_c 0 rfl) rfl)
          refine g_aload_n 22 (gd rfl) rfl rfl ?_
          refine g_getI 25 (gd rfl) rfl rfl rfl (fun z10x3x22 e10x3x22 => ?_)
          have q10x3x22 : (Int32.ofInt 0) = z10x3x22 := (sF_get).trans e10x3x22.symm
          subst q10x3x22
          refine g_if_le 28 32 (gd rfl) rfl rfl (fun c10x3x25 => ?_) (fun c10x3x25 => ?_)
          · skip
            refine g_iconst 0 33 (gd rfl) rfl rfl ?_
            refine g_ireturn (gd rfl) rfl (nb01 (in_w 0 1 (in_c 0 rfl) rfl)) (hp10x3 _ _ ?_)
            show GG _ _ _ _ _ _ _ _ [.int (Int32.ofInt 0)] _ _ _
            refine g_ireturn (gd rfl) rfl (nb01 (in_w 0 1 (in_c 0 rfl) rfl)) (hp10 _ _ ?_)
            show GG _ _ _ _ _ _ _ _ [.int (Int32.ofInt 0)] _ _ _
            refine g_if_eq 16 18 (gd rfl) rfl rfl (fun c13 => ?_) (fun c13 => ?_)
            · skip
              refine g_iload_n 19 (gd rfl) rfl rfl ?_
              refine g_if_ne 22 29 (gd rfl) rfl rfl (fun c19 => ?_) (fun c19 => ?_)
              · skip
                have i19 := z_ne 1 2 c19 i7x10b rfl
                refine g_iload_n 30 (gd rfl) rfl rfl ?_
                refine g_iconst 1 31 (gd rfl) rfl rfl ?_
                refine g_cmp_ne 34 41 (gd rfl) rfl rfl (fun c31 => ?_) (fun c31 => ?_)
                · skip
                  have i31 := r_ne1 2 2 c31 i19 (in_c 1 rfl) rfl
                  refine g_aload_n 42 (gd rfl) rfl rfl ?_
                  refine g_getI 45 (gd rfl) rfl rfl rfl (fun z42 e42 => ?_)
                  have q42 : u_109_118 = z42 := (sF_ne rfl (e_109_118)).trans e42.symm
                  subst q42
                  exact g_ireturn (gd rfl) rfl rfl (hP _ _ ⟨(sF s 109 0 (Int32.ofInt 0)), hI10x3x18, (fr_sF rfl fr_rf), u_109_118, rfl, rfl, in_w (-2147483648) 2147483647 (i_rng u_109_118) rfl⟩)
                · skip
                  have i31 := r_eq1 1 1 c31 i19 (in_c 1 rfl) rfl
                  refine g_aload_n 35 (gd rfl) rfl rfl ?_
                  refine g_getI 38 (gd rfl) rfl rfl rfl (fun z35 e35 => ?_)
                  have q35 : u_109_117 = z35 := (sF_ne rfl (e_109_117)).trans e35.symm
                  subst q35
                  refine g_goto 45 (gd rfl) rfl ?_
                  exact g_ireturn (gd rfl) rfl rfl (hP _ _ ⟨(sF s 109 0 (Int32.ofInt 0)), hI10x3x18, (fr_sF rfl fr_rf), u_109_117, rfl, rfl, in_w (-2147483648) 2147483647 (i_rng u_109_117) rfl⟩)
              · skip
                have i19 := z_eq 0 0 c19 i7x10b rfl
                refine g_aload_n 23 (gd rfl) rfl rfl ?_
                refine g_getI 26 (gd rfl) rfl rfl rfl (fun z23 e23 => ?_)
                have q23 : u_109_116 = z23 := (sF_ne rfl (e_109_116)).trans e23.symm
                subst q23
                refine g_goto 45 (gd rfl) rfl ?_
                exact g_ireturn (gd rfl) rfl rfl (hP _ _ ⟨(sF s 109 0 (Int32.ofInt 0)), hI10x3x18, (fr_sF rfl fr_rf), u_109_116, rfl, rfl, in_w (-2147483648) 2147483647 (i_rng u_109_116) rfl⟩)
            · skip
              exact zn_ne c13 (in_c 0 rfl) rfl
          · skip
            exact zn_gt c10x3x25 (in_c 0 rfl) rfl
        · skip
          exact zn_eq c10x3x10 (in_c 1 rfl) rfl
      · skip
        exact zn_eq c10x3x2 (in_c 1 rfl) rfl

def fm_393 : FM := ([187, 188], [], [(109, 109)], [])
/-- GraphHouseModel.add -/
theorem k_393 {Z : AmZ} {A : Nat → Nat} {s : GS} {ex : va_W} {d : Nat} {X : AmX} {x1 : Int32} {x2 : Int32} {u_109_109 : Int32} (hd : 1 ≤ d) (hI : Inv s) (e_109_109 : u_109_109 = s.2.2.1 109 109) (p_0 : (u_109_109).toInt ≤ 399) : GC Z d 393 [.ref (A 109), .int x1, .int x2] (WW Z A s ++ ex) 0 0 (fun v u => ∃ t : GS, Inv t ∧ Fr fm_393 s t ∧ ((t.2.2.1 109 109).toInt = (s.2.2.1 109 109).toInt + 1) ∧ v = none ∧ u = WW Z A t ++ ex ∧ (t.1 187 = upd (s.1 187) (s.2.2.1 109 109).toNatClampNeg x1) ∧ (t.1 188 = upd (s.1 188) (s.2.2.1 109 109).toNatClampNeg x2)) X := by
  intro post xp hP hX
  refine g_enter2 (k := 393) (N := 900) (by omega) rfl (Nat.le_of_ble_eq_true rfl) ?_
  refine g_aload_n 1 (gd rfl) rfl rfl ?_
  refine g_getA (q2 := 187) 4 (gd rfl) rfl rfl rfl rfl ?_
  refine g_aload_n 5 (gd rfl) rfl rfl ?_
  refine g_getI 8 (gd rfl) rfl rfl rfl (fun z5 e5 => ?_)
  have q5 : u_109_109 = z5 := (e_109_109).trans e5.symm
  subst q5
  refine g_iload_n 9 (gd rfl) rfl rfl ?_
  have i9 : In u_109_109 0 399 := by have a0 := (inv_F hI 0 400 rfl e_109_109); unfold In at a0; exact ⟨by omega, by omega⟩
  refine g_iastore 10 (gd rfl) rfl (n := 400) rfl (in_ix i9 rfl) ?_
  have hI9 := inv_sI (q := 187) (j := u_109_109.toNatClampNeg) hI rfl (in_w (-2147483648) 2147483647 (i_rng x1) rfl)
  refine g_aload_n 11 (gd rfl) rfl rfl ?_
  refine g_getA (q2 := 188) 14 (gd rfl) rfl rfl rfl rfl ?_
  refine g_aload_n 15 (gd rfl) rfl rfl ?_
  refine g_getI 18 (gd rfl) rfl rfl rfl (fun z15 e15 => ?_)
  have q15 : u_109_109 = z15 := (sI_F (e_109_109)).trans e15.symm
  subst q15
  refine g_iload_n 19 (gd rfl) rfl rfl ?_
  refine g_iastore 20 (gd rfl) rfl (n := 400) rfl (in_ix i9 rfl) ?_
  have hI19 := inv_sI (q := 188) (j := u_109_109.toNatClampNeg) hI9 rfl (in_w (-2147483648) 2147483647 (i_rng x2) rfl)
  refine g_aload_n 21 (gd rfl) rfl rfl ?_
  refine g_dup 22 (gd rfl) rfl rfl ?_
  refine g_getI 25 (gd rfl) rfl rfl rfl (fun z22 e22 => ?_)
  have q22 : u_109_109 = z22 := (sI_F (sI_F (e_109_109))).trans e22.symm
  subst q22
  refine g_iconst 1 26 (gd rfl) rfl rfl ?_
  refine g_iadd 27 (gd rfl) rfl (fun z26 e26 => ?_)
  have i26 := in_add 1 400 e26 i9 (in_c 1 rfl) rfl rfl
  refine g_putI 30 (gd rfl) rfl rfl rfl rfl ?_
  have hI27 := inv_sF (q := 109) (j := 109) hI19 rfl (in_w 0 400 i26 rfl)
  have n30 : (sF (sI (sI s 187 u_109_109.toNatClampNeg x1) 188 u_109_109.toNatClampNeg x2) 109 109 z26).1 187 = upd (s.1 187) (s.2.2.1 109 109).toNatClampNeg x1 := by rw [← e_109_109]; simp [sI, sF]
  have n30a : (sF (sI (sI s 187 u_109_109.toNatClampNeg x1) 188 u_109_109.toNatClampNeg x2) 109 109 z26).1 188 = upd (s.1 188) (s.2.2.1 109 109).toNatClampNeg x2 := by rw [← e_109_109]; simp [sI, sF]
  have n30b : (z26).toInt = (u_109_109).toInt + 1 := by have a0 := i9; unfold In at a0; have a1 := i26; unfold In at a1; have a2 := t_add e26 i9 (in_c 1 rfl) rfl; have a3 := (in_c 1 rfl); unfold In at a3; omega
  have n30c : ((sF (sI (sI s 187 u_109_109.toNatClampNeg x1) 188 u_109_109.toNatClampNeg x2) 109 109 z26).2.2.1 109 109).toInt = (s.2.2.1 109 109).toInt + 1 := by have b0 : z26 = (sF (sI (sI s 187 u_109_109.toNatClampNeg x1) 188 u_109_109.toNatClampNeg x2) 109 109 z26).2.2.1 109 109 := sF_get; first | (rw [← b0, ← e_109_109]; exact n30b) | (rw [← b0]; exact n30b)
  exact g_return (gd rfl) rfl (hP _ _ ⟨(sF (sI (sI s 187 u_109_109.toNatClampNeg x1) 188 u_109_109.toNatClampNeg x2) 109 109 z26), hI27, (fr_sF rfl (fr_sI rfl (fr_sI rfl fr_rf))), n30c, rfl, rfl, n30, n30a⟩)

def fm_396 : FM := ([190], [], [(109, 111), (109, 112)], [])
/-- GraphHouseModel.hold -/
theorem k_396 {Z : AmZ} {A : Nat → Nat} {s : GS} {ex : va_W} {d : Nat} {X : AmX} {x1 : Int32} {u_109_111 : Int32} (hd : 1 ≤ d) (hI : Inv s) (e_109_111 : u_109_111 = s.2.2.1 109 111) (p_0 : (u_109_111).toInt ≤ 199) : GC Z d 396 [.ref (A 109), .int x1] (WW Z A s ++ ex) 0 0 (fun v u => ∃ t : GS, Inv t ∧ Fr fm_396 s t ∧ ((t.2.2.1 109 111).toInt = (s.2.2.1 109 111).toInt + 1) ∧ v = none ∧ u = WW Z A t ++ ex ∧ (t.1 190 = upd (s.1 190) (s.2.2.1 109 111).toNatClampNeg x1)) X := by
  intro post xp hP hX
  refine g_enter2 (k := 396) (N := 900) (by omega) rfl (Nat.le_of_ble_eq_true rfl) ?_
  refine g_aload_n 1 (gd rfl) rfl rfl ?_
  refine g_getA (q2 := 190) 4 (gd rfl) rfl rfl rfl rfl ?_
  refine g_aload_n 5 (gd rfl) rfl rfl ?_
  refine g_getI 8 (gd rfl) rfl rfl rfl (fun z5 e5 => ?_)
  have q5 : u_109_111 = z5 := (e_109_111).trans e5.symm
  subst q5
  refine g_iload_n 9 (gd rfl) rfl rfl ?_
  have i9 : In u_109_111 0 199 := by have a0 := (inv_F hI 0 200 rfl e_109_111); unfold In at a0; exact ⟨by omega, by omega⟩
  refine g_iastore 10 (gd rfl) rfl (n := 200) rfl (in_ix i9 rfl) ?_
  have hI9 := inv_sI (q := 190) (j := u_109_111.toNatClampNeg) hI rfl (in_w (-2147483648) 2147483647 (i_rng x1) rfl)
  refine g_aload_n 11 (gd rfl) rfl rfl ?_
  refine g_dup 12 (gd rfl) rfl rfl ?_
  refine g_getI 15 (gd rfl) rfl rfl rfl (fun z12 e12 => ?_)
  have q12 : u_109_111 = z12 := (sI_F (e_109_111)).trans e12.symm
  subst q12
  refine g_iconst 1 16 (gd rfl) rfl rfl ?_
  refine g_iadd 17 (gd rfl) rfl (fun z16 e16 => ?_)
  have i16 := in_add 1 200 e16 i9 (in_c 1 rfl) rfl rfl
  refine g_putI 20 (gd rfl) rfl rfl rfl rfl ?_
  have hI17 := inv_sF (q := 109) (j := 111) hI9 rfl (in_w 0 200 i16 rfl)
  refine g_aload_n 21 (gd rfl) rfl rfl ?_
  refine g_dup 22 (gd rfl) rfl rfl ?_
  refine g_getI 25 (gd rfl) rfl rfl rfl (fun z22 e22 => ?_)
  refine g_iload_n 26 (gd rfl) rfl rfl ?_
  refine g_iconst 2 27 (gd rfl) rfl rfl ?_
  refine g_cmp_eq 30 36 (gd rfl) rfl rfl (fun c27 => ?_) (fun c27 => ?_)
  · skip
    have i27 := r_eq1 2 2 c27 (i_rng x1) (in_c 2 rfl) rfl
    refine g_iconst 1 37 (gd rfl) rfl rfl ?_
    refine g_goto 41 (gd rfl) rfl ?_
    refine g_iadd 42 (gd rfl) rfl (fun z41 e41 => ?_)
    refine g_putI 45 (gd rfl) rfl rfl rfl rfl ?_
    have hI42 := inv_sF (q := 109) (j := 112) hI17 rfl (in_w (-2147483648) 2147483647 (i_rng z41) rfl)
    have n45 : (sF (sF (sI s 190 u_109_111.toNatClampNeg x1) 109 111 z16) 109 112 z41).1 190 = upd (s.1 190) (s.2.2.1 109 111).toNatClampNeg x1 := by rw [← e_109_111]; simp [sI, sF]
    have n45a : (z16).toInt = (u_109_111).toInt + 1 := by have a0 := i27; unfold In at a0; have a1 := i9; unfold In at a1; have a2 := i16; unfold In at a2; have a3 := t_add e16 i9 (in_c 1 rfl) rfl; have a4 := (in_c 1 rfl); unfold In at a4; omega
    have n45b : ((sF (sF (sI s 190 u_109_111.toNatClampNeg x1) 109 111 z16) 109 112 z41).2.2.1 109 111).toInt = (s.2.2.1 109 111).toInt + 1 := by have b0 : z16 = (sF (sF (sI s 190 u_109_111.toNatClampNeg x1) 109 111 z16) 109 112 z41).2.2.1 109 111 := sF_ne rfl (sF_get); first | (rw [← b0, ← e_109_111]; exact n45a) | (rw [← b0]; exact n45a)
    exact g_return (gd rfl) rfl (hP _ _ ⟨(sF (sF (sI s 190 u_109_111.toNatClampNeg x1) 109 111 z16) 109 112 z41), hI42, (fr_sF rfl (fr_sF rfl (fr_sI rfl fr_rf))), n45b, rfl, rfl, n45⟩)
  · skip
    refine g_iload_n 31 (gd rfl) rfl rfl ?_
    refine g_bipush 40 33 (gd rfl) rfl rfl ?_
    refine g_cmp_ne 36 40 (gd rfl) rfl rfl (fun c33 => ?_) (fun c33 => ?_)
    · skip
      refine g_iconst 0 41 (gd rfl) rfl rfl ?_
      refine g_iadd 42 (gd rfl) rfl (fun z41 e41 => ?_)
      have i41 := in_add (-2147483648) 2147483647 e41 (i_rng z22) (in_c 0 rfl) rfl rfl
      refine g_putI 45 (gd rfl) rfl rfl rfl rfl ?_
      have hI42 := inv_sF (q := 109) (j := 112) hI17 rfl (in_w (-2147483648) 2147483647 i41 rfl)
      have n45 : (sF (sF (sI s 190 u_109_111.toNatClampNeg x1) 109 111 z16) 109 112 z41).1 190 = upd (s.1 190) (s.2.2.1 109 111).toNatClampNeg x1 := by rw [← e_109_111]; simp [sI, sF]
      have n45a : (z16).toInt = (u_109_111).toInt + 1 := by have a0 := i9; unfold In at a0; have a1 := t_add e41 (i_rng z22) (in_c 0 rfl) rfl; have a2 := (in_c 0 rfl); unfold In at a2; have a3 := i16; unfold In at a3; have a4 := t_add e16 i9 (in_c 1 rfl) rfl; have a5 := (in_c 1 rfl); unfold In at a5; omega
      have n45b : ((sF (sF (sI s 190 u_109_111.toNatClampNeg x1) 109 111 z16) 109 112 z41).2.2.1 109 111).toInt = (s.2.2.1 109 111).toInt + 1 := by have b0 : z16 = (sF (sF (sI s 190 u_109_111.toNatClampNeg x1) 109 111 z16) 109 112 z41).2.2.1 109 111 := sF_ne rfl (sF_get); first | (rw [← b0, ← e_109_111]; exact n45a) | (rw [← b0]; exact n45a)
      exact g_return (gd rfl) rfl (hP _ _ ⟨(sF (sF (sI s 190 u_109_111.toNatClampNeg x1) 109 111 z16) 109 112 z41), hI42, (fr_sF rfl (fr_sF rfl (fr_sI rfl fr_rf))), n45b, rfl, rfl, n45⟩)
    · skip
      have i33 := r_eq1 40 40 c33 (i_rng x1) (in_c 40 rfl) rfl
      refine g_iconst 1 37 (gd rfl) rfl rfl ?_
      refine g_goto 41 (gd rfl) rfl ?_
      refine g_iadd 42 (gd rfl) rfl (fun z41 e41 => ?_)
      refine g_putI 45 (gd rfl) rfl rfl rfl rfl ?_
      have hI42 := inv_sF (q := 109) (j := 112) hI17 rfl (in_w (-2147483648) 2147483647 (i_rng z41) rfl)
      have n45 : (sF (sF (sI s 190 u_109_111.toNatClampNeg x1) 109 111 z16) 109 112 z41).1 190 = upd (s.1 190) (s.2.2.1 109 111).toNatClampNeg x1 := by rw [← e_109_111]; simp [sI, sF]
      have n45a : (z16).toInt = (u_109_111).toInt + 1 := by have a0 := i33; unfold In at a0; have a1 := i9; unfold In at a1; have a2 := i16; unfold In at a2; have a3 := t_add e16 i9 (in_c 1 rfl) rfl; have a4 := (in_c 1 rfl); unfold In at a4; omega
      have n45b : ((sF (sF (sI s 190 u_109_111.toNatClampNeg x1) 109 111 z16) 109 112 z41).2.2.1 109 111).toInt = (s.2.2.1 109 111).toInt + 1 := by have b0 : z16 = (sF (sF (sI s 190 u_109_111.toNatClampNeg x1) 109 111 z16) 109 112 z41).2.2.1 109 111 := sF_ne rfl (sF_get); first | (rw [← b0, ← e_109_111]; exact n45a) | (rw [← b0]; exact n45a)
      exact g_return (gd rfl) rfl (hP _ _ ⟨(sF (sF (sI s 190 u_109_111.toNatClampNeg x1) 109 111 z16) 109 112 z41), hI42, (fr_sF rfl (fr_sF rfl (fr_sI rfl fr_rf))), n45b, rfl, rfl, n45⟩)

def fm_397 : FM := ([], [], [(109, 111), (109, 112)], [])
/-- GraphHouseModel.drop -/
theorem k_397 {Z : AmZ} {A : Nat → Nat} {s : GS} {ex : va_W} {d : Nat} {X : AmX} {u_109_111 : Int32} (hd : 1 ≤ d) (hI : Inv s) (e_109_111 : u_109_111 = s.2.2.1 109 111) (p_0 : 1 ≤ (u_109_111).toInt) : GC Z d 397 [.ref (A 109)] (WW Z A s ++ ex) 0 0 (fun v u => ∃ t : GS, Inv t ∧ Fr fm_397 s t ∧ ((t.2.2.1 109 111).toInt = (s.2.2.1 109 111).toInt - 1) ∧ v = none ∧ u = WW Z A t ++ ex) X := by
  intro post xp hP hX
  refine g_enter2 (k := 397) (N := 900) (by omega) rfl (Nat.le_of_ble_eq_true rfl) ?_
  refine g_aload_n 1 (gd rfl) rfl rfl ?_
  refine g_dup 2 (gd rfl) rfl rfl ?_
  refine g_getI 5 (gd rfl) rfl rfl rfl (fun z2 e2 => ?_)
  have q2 : u_109_111 = z2 := (e_109_111).trans e2.symm
  subst q2
  refine g_iconst 1 6 (gd rfl) rfl rfl ?_
  refine g_isub 7 (gd rfl) rfl (fun z6 e6 => ?_)
  have i6 := in_sub (-1) 199 e6 (inv_F hI 0 200 rfl e_109_111) (in_c 1 rfl) rfl rfl
  have i7 : In z6 0 200 := by have a0 := (inv_F hI 0 200 rfl e_109_111); unfold In at a0; have a1 := i6; unfold In at a1; have a2 := t_sub e6 (inv_F hI 0 200 rfl e_109_111) (in_c 1 rfl) rfl; have a3 := (in_c 1 rfl); unfold In at a3; exact ⟨by omega, by omega⟩
  refine g_putI 10 (gd rfl) rfl rfl rfl rfl ?_
  have hI7 := inv_sF (q := 109) (j := 111) hI rfl (in_w 0 200 i7 rfl)
  refine g_aload_n 11 (gd rfl) rfl rfl ?_
  refine g_dup 12 (gd rfl) rfl rfl ?_
  refine g_getI 15 (gd rfl) rfl rfl rfl (fun z12 e12 => ?_)
  refine g_aload_n 16 (gd rfl) rfl rfl ?_
  refine g_getA (q2 := 190) 19 (gd rfl) rfl rfl rfl rfl ?_
  refine g_aload_n 20 (gd rfl) rfl rfl ?_
  refine g_getI 23 (gd rfl) rfl rfl rfl (fun z20 e20 => ?_)
  have q20 : z6 = z20 := (sF_get).trans e20.symm
  subst q20
  have i23 : In z6 0 199 := by have a0 := (inv_F hI 0 200 rfl e_109_111); unfold In at a0; have a1 := i7; unfold In at a1; have a2 := t_sub e6 (inv_F hI 0 200 rfl e_109_111) (in_c 1 rfl) rfl; have a3 := (in_c 1 rfl); unfold In at a3; exact ⟨by omega, by omega⟩
  refine g_iaload 24 (gd rfl) rfl (n := 200) rfl (in_ix i23 rfl) (fun z23 e23 => ?_)
  refine g_iconst 2 25 (gd rfl) rfl rfl ?_
  refine g_cmp_eq 28 42 (gd rfl) rfl rfl (fun c25 => ?_) (fun c25 => ?_)
  · skip
    have i25 := r_eq1 2 2 c25 (i_rng z23) (in_c 2 rfl) rfl
    refine g_iconst 1 43 (gd rfl) rfl rfl ?_
    refine g_goto 47 (gd rfl) rfl ?_
    refine g_isub 48 (gd rfl) rfl (fun z47 e47 => ?_)
    refine g_putI 51 (gd rfl) rfl rfl rfl rfl ?_
    have hI48 := inv_sF (q := 109) (j := 112) hI7 rfl (in_w (-2147483648) 2147483647 (i_rng z47) rfl)
    have n51 : (z6).toInt = (u_109_111).toInt - 1 := by have a0 := (inv_F hI 0 200 rfl e_109_111); unfold In at a0; have a1 := i23; unfold In at a1; have a2 := t_sub e6 (inv_F hI 0 200 rfl e_109_111) (in_c 1 rfl) rfl; have a3 := (in_c 1 rfl); unfold In at a3; omega
    have n51a : ((sF (sF s 109 111 z6) 109 112 z47).2.2.1 109 111).toInt = (s.2.2.1 109 111).toInt - 1 := by have b0 : z6 = (sF (sF s 109 111 z6) 109 112 z47).2.2.1 109 111 := sF_ne rfl (sF_get); first | (rw [← b0, ← e_109_111]; exact n51) | (rw [← b0]; exact n51)
    exact g_return (gd rfl) rfl (hP _ _ ⟨(sF (sF s 109 111 z6) 109 112 z47), hI48, (fr_sF rfl (fr_sF rfl fr_rf)), n51a, rfl, rfl⟩)
  · skip
    refine g_aload_n 29 (gd rfl) rfl rfl ?_
    refine g_getA (q2 := 190) 32 (gd rfl) rfl rfl rfl rfl ?_
    refine g_aload_n 33 (gd rfl) rfl rfl ?_
    refine g_getI 36 (gd rfl) rfl rfl rfl (fun z33 e33 => ?_)
    have q33 : z6 = z33 := (sF_get).trans e33.symm
    subst q33
    refine g_iaload 37 (gd rfl) rfl (n := 200) rfl (in_ix i23 rfl) (fun z36 e36 => ?_)
    have q36 : z23 = z36 := (e23).trans e36.symm
    subst q36
    refine g_bipush 40 39 (gd rfl) rfl rfl ?_
    refine g_cmp_ne 42 46 (gd rfl) rfl rfl (fun c39 => ?_) (fun c39 => ?_)
    · skip
      refine g_iconst 0 47 (gd rfl) rfl rfl ?_
      refine g_isub 48 (gd rfl) rfl (fun z47 e47 => ?_)
      have i47 := in_sub (-2147483648) 2147483647 e47 (i_rng z12) (in_c 0 rfl) rfl rfl
      refine g_putI 51 (gd rfl) rfl rfl rfl rfl ?_
      have hI48 := inv_sF (q := 109) (j := 112) hI7 rfl (in_w (-2147483648) 2147483647 i47 rfl)
      have n51 : (z6).toInt = (u_109_111).toInt - 1 := by have a0 := (inv_F hI 0 200 rfl e_109_111); unfold In at a0; have a1 := t_sub e47 (i_rng z12) (in_c 0 rfl) rfl; have a2 := (in_c 0 rfl); unfold In at a2; have a3 := i23; unfold In at a3; have a4 := t_sub e6 (inv_F hI 0 200 rfl e_109_111) (in_c 1 rfl) rfl; have a5 := (in_c 1 rfl); unfold In at a5; omega
      have n51a : ((sF (sF s 109 111 z6) 109 112 z47).2.2.1 109 111).toInt = (s.2.2.1 109 111).toInt - 1 := by have b0 : z6 = (sF (sF s 109 111 z6) 109 112 z47).2.2.1 109 111 := sF_ne rfl (sF_get); first | (rw [← b0, ← e_109_111]; exact n51) | (rw [← b0]; exact n51)
      exact g_return (gd rfl) rfl (hP _ _ ⟨(sF (sF s 109 111 z6) 109 112 z47), hI48, (fr_sF rfl (fr_sF rfl fr_rf)), n51a, rfl, rfl⟩)
    · skip
      have i39 := r_eq1 40 40 c39 (i_rng z23) (in_c 40 rfl) rfl
      refine g_iconst 1 43 (gd rfl) rfl rfl ?_
      refine g_goto 47 (gd rfl) rfl ?_
      refine g_isub 48 (gd rfl) rfl (fun z47 e47 => ?_)
      refine g_putI 51 (gd rfl) rfl rfl rfl rfl ?_
      have hI48 := inv_sF (q := 109) (j := 112) hI7 rfl (in_w (-2147483648) 2147483647 (i_rng z47) rfl)
      have n51 : (z6).toInt = (u_109_111).toInt - 1 := by have a0 := (inv_F hI 0 200 rfl e_109_111); unfold In at a0; have a1 := i23; unfold In at a1; have a2 := t_sub e6 (inv_F hI 0 200 rfl e_109_111) (in_c 1 rfl) rfl; have a3 := (in_c 1 rfl); unfold In at a3; omega
      have n51a : ((sF (sF s 109 111 z6) 109 112 z47).2.2.1 109 111).toInt = (s.2.2.1 109 111).toInt - 1 := by have b0 : z6 = (sF (sF s 109 111 z6) 109 112 z47).2.2.1 109 111 := sF_ne rfl (sF_get); first | (rw [← b0, ← e_109_111]; exact n51) | (rw [← b0]; exact n51)
      exact g_return (gd rfl) rfl (hP _ _ ⟨(sF (sF s 109 111 z6) 109 112 z47), hI48, (fr_sF rfl (fr_sF rfl fr_rf)), n51a, rfl, rfl⟩)

def fm_400 : FM := ([187, 188], [], [(109, 109), (109, 111), (109, 112)], [])
/-- GraphHouseModel.turn -/
theorem k_400 {Z : AmZ} {A : Nat → Nat} {s : GS} {ex : va_W} {d : Nat} {X : AmX} {u_109_109 : Int32} {u_109_111 : Int32} (hd : 3 ≤ d) (hI : Inv s) (e_109_109 : u_109_109 = s.2.2.1 109 109) (e_109_111 : u_109_111 = s.2.2.1 109 111) (p_0 : (u_109_109).toInt + (u_109_111).toInt ≤ 120) : GC Z d 400 [.ref (A 109)] (WW Z A s ++ ex) 0 0 (fun v u => ∃ t : GS, Inv t ∧ Fr fm_400 s t ∧ ((t.2.2.1 109 109).toInt + (t.2.2.1 109 111).toInt = (s.2.2.1 109 109).toInt + (s.2.2.1 109 111).toInt) ∧ v = none ∧ u = WW Z A t ++ ex ∧ (PR s t 1 1)) X := by
  intro post xp hP hX
  have ct0 : ∀ (k0 : Nat) (sc0 : GS) (w0_109_109 : Int32) (w0_109_111 : Int32), Inv sc0 → Fr fm_400 s sc0 → (w0_109_109 = sc0.2.2.1 109 109) → (w0_109_111 = sc0.2.2.1 109 111) → ((w0_109_109).toInt + (w0_109_111).toInt = (u_109_109).toInt + (u_109_111).toInt) → (PR s sc0 1 1) → (w0_109_111).toInt < (k0 : Int) → GG Z (d - 1) 400 post (gx xp) (1 + k0 * 900) 0 (fun j => xlook j [(0, .ref (A 109))]) [] (WW Z A sc0 ++ ex) 0 0 := by
    intro k0
    induction k0 with
    | zero => intro sc0 w0_109_109 w0_109_111 hIc0 hFc0 v0_109_109 v0_109_111 n0_0 g0_0 mm0; exfalso; have a0 := (inv_F hIc0 0 200 rfl v0_109_111); unfold In at a0; have a1 := (inv_F hIc0 0 400 rfl v0_109_109); unfold In at a1; omega
    | succ k0 ih0 =>
      intro sc0 w0_109_109 w0_109_111 hIc0 hFc0 v0_109_109 v0_109_111 n0_0 g0_0 mm0
      refine gg_w (M := 1 + k0 * 900 + 900) (by omega) ?_
      refine g_aload_n 1 (gd rfl) rfl rfl ?_
      refine g_callv (X := _) (As := []) (r := []) (b := A 109) (q := 109) 4 (gd rfl) rfl rfl rfl rfl rfl (ww_o rfl) (Nat.le_of_ble_eq_true rfl) (mc := 0) (ms := 0) (Nat.zero_le _) (Nat.zero_le _) (P := fun v u => _) ?_ (fun e u h => h) (fun v u h => h)
      intro po1 xx1 hp1 hx1
      refine g_enter2 (k := 395) (N := 300) (by omega) rfl (Nat.le_of_ble_eq_true rfl) ?_
      refine g_aload_n 1 (gd rfl) rfl rfl ?_
      refine g_getI 4 (gd rfl) rfl rfl rfl (fun z1x1 e1x1 => ?_)
      have q1x1 : w0_109_111 = z1x1 := (v0_109_111).trans e1x1.symm
      subst q1x1
      refine g_if_ne 7 11 (gd rfl) rfl rfl (fun c1x4 => ?_) (fun c1x4 => ?_)
      · skip
        have i1x4 := z_ne 1 200 c1x4 (inv_F hIc0 0 200 rfl v0_109_111) rfl
        refine g_aload_n 12 (gd rfl) rfl rfl ?_
        refine g_getA (q2 := 190) 15 (gd rfl) rfl rfl rfl rfl ?_
        refine g_aload_n 16 (gd rfl) rfl rfl ?_
        refine g_getI 19 (gd rfl) rfl rfl rfl (fun z1x16 e1x16 => ?_)
        have q1x16 : w0_109_111 = z1x16 := (v0_109_111).trans e1x16.symm
        subst q1x16
        refine g_iconst 1 20 (gd rfl) rfl rfl ?_
        refine g_isub 21 (gd rfl) rfl (fun z1x20 e1x20 => ?_)
        have i1x20 := in_sub 0 199 e1x20 i1x4 (in_c 1 rfl) rfl rfl
        refine g_iaload 22 (gd rfl) rfl (n := 200) rfl (in_ix i1x20 rfl) (fun z1x21 e1x21 => ?_)
        refine g_ireturn (gd rfl) rfl rfl (hp1 _ _ ?_)
        show GG _ _ _ _ _ _ _ _ [.int z1x21] _ _ _
        refine g_iconst 2 5 (gd rfl) rfl rfl ?_
        refine g_cmp_ne 8 21 (gd rfl) rfl rfl (fun c5 => ?_) (fun c5 => ?_)
        · skip
          have n21 : PR s sc0 1 1 := by exact g0_0
          have n21a : (w0_109_109).toInt + (w0_109_111).toInt = (u_109_109).toInt + (u_109_111).toInt := by have a0 := i1x4; unfold In at a0; have a1 := (inv_F hIc0 0 400 rfl v0_109_109); unfold In at a1; have a2 := i1x20; unfold In at a2; have a3 := t_sub e1x20 i1x4 (in_c 1 rfl) rfl; have a4 := (in_c 1 rfl); unfold In at a4; omega
          have n21b : (sc0.2.2.1 109 109).toInt + (sc0.2.2.1 109 111).toInt = (s.2.2.1 109 109).toInt + (s.2.2.1 109 111).toInt := by have b0 : w0_109_109 = sc0.2.2.1 109 109 := v0_109_109; have b1 : w0_109_111 = sc0.2.2.1 109 111 := v0_109_111; first | (rw [← b0, ← b1, ← e_109_109, ← e_109_111]; exact n21a) | (rw [← b0, ← b1]; exact n21a)
          exact g_return (gd rfl) rfl (hP _ _ ⟨sc0, hIc0, hFc0, n21b, rfl, rfl, n21⟩)
        · skip
          have i5 := r_eq1 2 2 c5 (i_rng z1x21) (in_c 2 rfl) rfl
          refine g_aload_n 9 (gd rfl) rfl rfl ?_
          refine g_iconst 2 10 (gd rfl) rfl rfl ?_
          refine g_iconst 0 11 (gd rfl) rfl rfl ?_
          have n11 : (w0_109_109).toInt ≤ 399 := by have a0 := i1x4; unfold In at a0; have a1 := (inv_F hIc0 0 400 rfl v0_109_109); unfold In at a1; have a2 := i1x20; unfold In at a2; have a3 := t_sub e1x20 i1x4 (in_c 1 rfl) rfl; have a4 := (in_c 1 rfl); unfold In at a4; omega
          refine g_callv (X := _) (As := [.int (Int32.ofInt 2), .int (Int32.ofInt 0)]) (r := []) (b := A 109) (q := 109) 14 (gd rfl) rfl rfl rfl rfl rfl (ww_o rfl) (Nat.le_of_ble_eq_true rfl) (Nat.zero_le _) (Nat.zero_le _) (k_393 (by omega) hIc0 v0_109_109 n11) (fun e u h => h) (fun v u h => ?_)
          obtain ⟨s11, hI11, hF11, n11a, rfl, rfl, p11, p11a⟩ := h
          obtain ⟨z11a, e11⟩ : ∃ w, w = s11.2.2.1 109 109 := ⟨_, rfl⟩
          have i11a := inv_F hI11 0 400 rfl e11
          rw [← (show w0_109_109 = sc0.2.2.1 109 109 from v0_109_109)] at n11a
          rw [← (show z11a = s11.2.2.1 109 109 from e11)] at n11a
          show GG _ _ _ _ _ _ _ _ [] _ _ _
          refine g_aload_n 15 (gd rfl) rfl rfl ?_
          have v15 : w0_109_111 = s11.2.2.1 109 111 := fr_F (v0_109_111) hF11 rfl
          have n15 : 1 ≤ (w0_109_111).toInt := by have a0 := i1x4; unfold In at a0; have a1 := (inv_F hIc0 0 400 rfl v0_109_109); unfold In at a1; have a2 := i11a; unfold In at a2; have a3 := i1x20; unfold In at a3; have a4 := t_sub e1x20 i1x4 (in_c 1 rfl) rfl; have a5 := (in_c 1 rfl); unfold In at a5; omega
          refine g_callv (X := _) (As := []) (r := []) (b := A 109) (q := 109) 18 (gd rfl) rfl rfl rfl rfl rfl (ww_o rfl) (Nat.le_of_ble_eq_true rfl) (Nat.zero_le _) (Nat.zero_le _) (k_397 (by omega) hI11 v15 n15) (fun e u h => h) (fun v u h => ?_)
          obtain ⟨s15, hI15, hF15, n15a, rfl, rfl⟩ := h
          obtain ⟨z15a, e15⟩ : ∃ w, w = s15.2.2.1 109 111 := ⟨_, rfl⟩
          have i15a := inv_F hI15 0 200 rfl e15
          rw [← (show w0_109_111 = s11.2.2.1 109 111 from fr_F (v0_109_111) hF11 rfl)] at n15a
          rw [← (show z15a = s15.2.2.1 109 111 from e15)] at n15a
          show GG _ _ _ _ _ _ _ _ [] _ _ _
          refine g_goto 0 (gd rfl) rfl ?_
          have v0 : z11a = s15.2.2.1 109 109 := fr_F (e11) hF15 rfl
          have n0 : (z11a).toInt + (z15a).toInt = (u_109_109).toInt + (u_109_111).toInt := by have a0 := i1x4; unfold In at a0; have a1 := (inv_F hIc0 0 400 rfl v0_109_109); unfold In at a1; have a2 := i15a; unfold In at a2; have a3 := i11a; unfold In at a3; have a4 := i1x20; unfold In at a4; have a5 := t_sub e1x20 i1x4 (in_c 1 rfl) rfl; have a6 := (in_c 1 rfl); unfold In at a6; omega
          have n0a : PR s s15 1 1 := by first | exact pr_rf | (exact pr_tr g0_0 (pr_set (n := (sc0.2.2.1 109 109).toNatClampNeg) (x := Int32.ofInt 2) (v := Int32.ofInt 0) (b := z1x20) ((hF15.1 187 rfl).trans p11) ((hF15.1 188 rfl).trans p11a) rfl (inv_F hIc0 0 400 rfl rfl).1 (by rw [hF15.2.2.1 109 109 rfl, ← e11, ← v0_109_109]; exact n11a) ((hF15.2.2.1 109 23 rfl).trans (hF11.2.2.1 109 23 rfl)) ((hF15.1 190 rfl).trans (hF11.1 190 rfl)) (by rw [← e15]; have a0 := i1x4; unfold In at a0; have a1 := (inv_F hIc0 0 400 rfl v0_109_109); unfold In at a1; have a2 := i15a; unfold In at a2; have a3 := i11a; unfold In at a3; have a4 := i1x20; unfold In at a4; have a5 := t_sub e1x20 i1x4 (in_c 1 rfl) rfl; have a6 := (in_c 1 rfl); unfold In at a6; omega) (by rw [← v0_109_111]; have a0 := i1x4; unfold In at a0; have a1 := (inv_F hIc0 0 400 rfl v0_109_109); unfold In at a1; have a2 := i15a; unfold In at a2; have a3 := i11a; unfold In at a3; have a4 := i1x20; unfold In at a4; have a5 := t_sub e1x20 i1x4 (in_c 1 rfl) rfl; have a6 := (in_c 1 rfl); unfold In at a6; omega) i1x20.1 ((Int32.toInt_inj.mp c5).symm.trans e1x21) (Or.inr ⟨rfl, trivial⟩)))
          have m0 : (z15a).toInt < ((k0 : Nat) : Int) := by have a0 := i1x4; unfold In at a0; have a1 := (inv_F hIc0 0 400 rfl v0_109_109); unfold In at a1; have a2 := i15a; unfold In at a2; have a3 := i11a; unfold In at a3; have a4 := i1x20; unfold In at a4; have a5 := t_sub e1x20 i1x4 (in_c 1 rfl) rfl; have a6 := (in_c 1 rfl); unfold In at a6; omega
          exact gg_w (by omega) (gg_f (gf_cons rfl gf_nil) (ih0  s15 z11a z15a hI15 (fr_tr rfl (fr_tr rfl hFc0 hF11) hF15) v0 e15 n0 n0a m0))
      · skip
        have i1x4 := z_eq 0 0 c1x4 (inv_F hIc0 0 200 rfl v0_109_111) rfl
        refine g_iconst 0 8 (gd rfl) rfl rfl ?_
        refine g_goto 22 (gd rfl) rfl ?_
        refine g_ireturn (gd rfl) rfl rfl (hp1 _ _ ?_)
        show GG _ _ _ _ _ _ _ _ [.int (Int32.ofInt 0)] _ _ _
        refine g_iconst 2 5 (gd rfl) rfl rfl ?_
        refine g_cmp_ne 8 21 (gd rfl) rfl rfl (fun c5 => ?_) (fun c5 => ?_)
        · skip
          have n21 : PR s sc0 1 1 := by exact g0_0
          have n21a : (w0_109_109).toInt + (w0_109_111).toInt = (u_109_109).toInt + (u_109_111).toInt := by have a0 := i1x4; unfold In at a0; have a1 := (inv_F hIc0 0 400 rfl v0_109_109); unfold In at a1; omega
          have n21b : (sc0.2.2.1 109 109).toInt + (sc0.2.2.1 109 111).toInt = (s.2.2.1 109 109).toInt + (s.2.2.1 109 111).toInt := by have b0 : w0_109_109 = sc0.2.2.1 109 109 := v0_109_109; have b1 : w0_109_111 = sc0.2.2.1 109 111 := v0_109_111; first | (rw [← b0, ← b1, ← e_109_109, ← e_109_111]; exact n21a) | (rw [← b0, ← b1]; exact n21a)
          exact g_return (gd rfl) rfl (hP _ _ ⟨sc0, hIc0, hFc0, n21b, rfl, rfl, n21⟩)
        · skip
          exact n_eq c5 (in_c 0 rfl) (in_c 2 rfl) rfl
  refine g_enter2 (k := 400) (N := 181801) (by omega) rfl (Nat.le_of_ble_eq_true rfl) ?_
  have n0 : (u_109_109).toInt + (u_109_111).toInt = (u_109_109).toInt + (u_109_111).toInt := by have a0 := (inv_F hI 0 200 rfl e_109_111); unfold In at a0; have a1 := (inv_F hI 0 400 rfl e_109_109); unfold In at a1; omega
  have n0a : PR s s 1 1 := by first | exact pr_rf | (exact pr_tr g0_0 (pr_set (n := (sc0.2.2.1 109 109).toNatClampNeg) (x := Int32.ofInt 2) (v := Int32.ofInt 0) (b := z1x20) ((hF15.1 187 rfl).trans p11) ((hF15.1 188 rfl).trans p11a) rfl (inv_F hIc0 0 400 rfl rfl).1 (by rw [hF15.2.2.1 109 109 rfl, ← e11, ← v0_109_109]; exact n11a) ((hF15.2.2.1 109 23 rfl).trans (hF11.2.2.1 109 23 rfl)) ((hF15.1 190 rfl).trans (hF11.1 190 rfl)) (by rw [← e15]; have a0 := (inv_F hI 0 200 rfl e_109_111); unfold In at a0; have a1 := (inv_F hI 0 400 rfl e_109_109); unfold In at a1; omega) (by rw [← v0_109_111]; have a0 := (inv_F hI 0 200 rfl e_109_111); unfold In at a0; have a1 := (inv_F hI 0 400 rfl e_109_109); unfold In at a1; omega) i1x20.1 ((Int32.toInt_inj.mp c5).symm.trans e1x21) (Or.inr ⟨rfl, trivial⟩)))
  have m0 : (u_109_111).toInt < ((201 : Nat) : Int) := by have a0 := (inv_F hI 0 200 rfl e_109_111); unfold In at a0; have a1 := (inv_F hI 0 400 rfl e_109_109); unfold In at a1; omega
  exact gg_w (by omega) (gg_f (gf_cons rfl gf_nil) (ct0 201 s u_109_109 u_109_111 hI fr_rf e_109_109 e_109_111 n0 n0a m0))

def fm_298 : FM := ([], [], [(109, 23), (109, 24)], [])
/-- GraphHouseModel.blame -/
theorem k_298 {Z : AmZ} {A : Nat → Nat} {s : GS} {ex : va_W} {d : Nat} {X : AmX} {x1 : Int32} {x2 : Int32} (hd : 1 ≤ d) (hI : Inv s) (h1 : In x1 1 5) : GC Z d 298 [.ref (A 109), .int x1, .int x2] (WW Z A s ++ ex) 0 0 (fun v u => ∃ t : GS, Inv t ∧ Fr fm_298 s t ∧ (1 ≤ (t.2.2.1 109 23).toInt) ∧ v = none ∧ u = WW Z A t ++ ex) X := by
  intro post xp hP hX
  refine g_enter2 (k := 298) (N := 900) (by omega) rfl (Nat.le_of_ble_eq_true rfl) ?_
  refine g_aload_n 1 (gd rfl) rfl rfl ?_
  refine g_getI 4 (gd rfl) rfl rfl rfl (fun z1 e1 => ?_)
  have i1 := inv_F hI 0 9 rfl e1
  refine g_if_ne 7 17 (gd rfl) rfl rfl (fun c4 => ?_) (fun c4 => ?_)
  · skip
    have i4 := z_ne 1 9 c4 i1 rfl
    have n17 : 1 ≤ (z1).toInt := by have a0 := h1; unfold In at a0; have a1 := i4; unfold In at a1; omega
    have n17a : 1 ≤ (s.2.2.1 109 23).toInt := by have b0 : z1 = s.2.2.1 109 23 := e1; rw [← b0]; exact n17
    exact g_return (gd rfl) rfl (hP _ _ ⟨s, hI, fr_rf, n17a, rfl, rfl⟩)
  · skip
    have i4 := z_eq 0 0 c4 i1 rfl
    refine g_aload_n 8 (gd rfl) rfl rfl ?_
    refine g_iload_n 9 (gd rfl) rfl rfl ?_
    refine g_putI 12 (gd rfl) rfl rfl rfl rfl ?_
    have hI9 := inv_sF (q := 109) (j := 23) hI rfl (in_w 0 9 h1 rfl)
    refine g_aload_n 13 (gd rfl) rfl rfl ?_
    refine g_iload_n 14 (gd rfl) rfl rfl ?_
    refine g_putI 17 (gd rfl) rfl rfl rfl rfl ?_
    have hI14 := inv_sF (q := 109) (j := 24) hI9 rfl (in_w (-2147483648) 2147483647 (i_rng x2) rfl)
    have n17 : 1 ≤ (x1).toInt := by have a0 := h1; unfold In at a0; omega
    have n17a : 1 ≤ ((sF (sF s 109 23 x1) 109 24 x2).2.2.1 109 23).toInt := by have b0 : x1 = (sF (sF s 109 23 x1) 109 24 x2).2.2.1 109 23 := sF_ne rfl (sF_get); rw [← b0]; exact n17
    exact g_return (gd rfl) rfl (hP _ _ ⟨(sF (sF s 109 23 x1) 109 24 x2), hI14, (fr_sF rfl (fr_sF rfl fr_rf)), n17a, rfl, rfl⟩)

/-- GraphHouseModel.product -/
theorem k_406 {Z : AmZ} {A : Nat → Nat} {s : GS} {ex : va_W} {d : Nat} {X : AmX} {x0 : Int64} {x1 : Int64} (hd : 1 ≤ d) (hI : Inv s)  : GC Z d 406 [.long x0, .long x1] (WW Z A s ++ ex) 0 0 (fun v u => ∃ z : Int64, v = some (.long z) ∧ u = WW Z A s ++ ex) X := by
  intro post xp hP hX
  refine g_enter2 (k := 406) (N := 900) (by omega) rfl (Nat.le_of_ble_eq_true rfl) ?_
  refine g_lload_n 1 (gd rfl) rfl rfl ?_
  refine g_lconst 0 2 (gd rfl) rfl rfl ?_
  refine g_lcmp 3 (gd rfl) rfl (fun z2 e2 => ?_)
  have i2 := lc_in e2
  refine g_if_eq 6 12 (gd rfl) rfl rfl (fun c3 => ?_) (fun c3 => ?_)
  · skip
    have i3 := z_eq 0 0 c3 i2 rfl
    have c3a := lc_eq e2 c3
    have i3a := lr_eq1 0 0 c3a (l_rng x0) (l_c 0 rfl) rfl
    refine g_lconst 0 13 (gd rfl) rfl rfl ?_
    exact g_lreturn (gd rfl) rfl (hP _ _ ⟨(Int64.ofInt 0), rfl, rfl⟩)
  · skip
    have c3a := lc_ne e2 c3
    refine g_lload_n 7 (gd rfl) rfl rfl ?_
    refine g_lconst 0 8 (gd rfl) rfl rfl ?_
    refine g_lcmp 9 (gd rfl) rfl (fun z8 e8 => ?_)
    have i8 := lc_in e8
    refine g_if_ne 12 14 (gd rfl) rfl rfl (fun c9 => ?_) (fun c9 => ?_)
    · skip
      have c9a := lc_ne e8 c9
      refine g_lload_n 15 (gd rfl) rfl rfl ?_
      refine g_lconst 0 16 (gd rfl) rfl rfl ?_
      refine g_lcmp 17 (gd rfl) rfl (fun z16 e16 => ?_)
      have i16 := lc_in e16
      refine g_if_ge 20 25 (gd rfl) rfl rfl (fun c17 => ?_) (fun c17 => ?_)
      · skip
        have i17 := z_ge 0 1 c17 i16 rfl
        have c17a := lc_ge e16 c17
        have i17a := lr_le2 0 9223372036854775807 c17a (l_c 0 rfl) (l_rng x0) rfl
        refine g_lload_n 26 (gd rfl) rfl rfl ?_
        refine g_lstore 28 (gd rfl) rfl (Nat.le_of_ble_eq_true rfl) ?_
        refine g_lload_n 29 (gd rfl) rfl rfl ?_
        refine g_lconst 0 30 (gd rfl) rfl rfl ?_
        refine g_lcmp 31 (gd rfl) rfl (fun z30 e30 => ?_)
        have i30 := lc_in e30
        refine g_if_ge 34 39 (gd rfl) rfl rfl (fun c31 => ?_) (fun c31 => ?_)
        · skip
          have i31 := z_ge 0 1 c31 i30 rfl
          have c31a := lc_ge e30 c31
          have i31a := lr_le2 0 9223372036854775807 c31a (l_c 0 rfl) (l_rng x1) rfl
          refine g_lload_n 40 (gd rfl) rfl rfl ?_
          refine g_lstore 42 (gd rfl) rfl (Nat.le_of_ble_eq_true rfl) ?_
          refine g_lload 44 (gd rfl) rfl rfl ?_
          refine g_ldc2_w 1000000000000 47 (gd rfl) rfl rfl ?_
          refine g_lload 49 (gd rfl) rfl rfl ?_
          refine g_ldiv 50 (gd rfl) rfl (lnz (nz_l c9a)) (fun z49 e49 => ?_)
          refine g_lcmp 51 (gd rfl) rfl (fun z50 e50 => ?_)
          have i50 := lc_in e50
          refine g_if_le 54 60 (gd rfl) rfl rfl (fun c51 => ?_) (fun c51 => ?_)
          · skip
            have i51 := z_le (-1) 0 c51 i50 rfl
            have c51a := lc_le e50 c51
            have i51a := lr_le2 0 9223372036854775807 c51a i17a (l_rng z49) rfl
            refine g_lload 62 (gd rfl) rfl rfl ?_
            refine g_lload 64 (gd rfl) rfl rfl ?_
            refine g_lmul 65 (gd rfl) rfl (fun z64 e64 => ?_)
            refine g_lstore 67 (gd rfl) rfl (Nat.le_of_ble_eq_true rfl) ?_
            refine g_lload_n 68 (gd rfl) rfl rfl ?_
            refine g_lconst 0 69 (gd rfl) rfl rfl ?_
            refine g_lcmp 70 (gd rfl) rfl (fun z69 e69 => ?_)
            have i69 := lc_in e69
            refine g_if_ge 73 77 (gd rfl) rfl rfl (fun c70 => ?_) (fun c70 => ?_)
            · skip
              have i70 := z_ge 0 1 c70 i69 rfl
              have c70a := lc_ge e69 c70
              refine g_iconst 0 78 (gd rfl) rfl rfl ?_
              refine g_lload_n 79 (gd rfl) rfl rfl ?_
              refine g_lconst 0 80 (gd rfl) rfl rfl ?_
              refine g_lcmp 81 (gd rfl) rfl (fun z80 e80 => ?_)
              have i80 := lc_in e80
              refine g_if_ge 84 88 (gd rfl) rfl rfl (fun c81 => ?_) (fun c81 => ?_)
              · skip
                have i81 := z_ge 0 1 c81 i80 rfl
                have c81a := lc_ge e80 c81
                refine g_iconst 0 89 (gd rfl) rfl rfl ?_
                refine g_cmp_ne 92 97 (gd rfl) rfl rfl (fun c89 => ?_) (fun c89 => ?_)
                · skip
                  exact n_ne c89 (in_c 0 rfl) (in_c 0 rfl) rfl
                · skip
                  refine g_lload 94 (gd rfl) rfl rfl ?_
                  refine g_goto 100 (gd rfl) rfl ?_
                  exact g_lreturn (gd rfl) rfl (hP _ _ ⟨z64, rfl, rfl⟩)
              · skip
                have i81 := z_lt (-1) (-1) c81 i80 rfl
                have c81a := lc_lt e80 c81
                exact ln_lt c81a i31a (l_c 0 rfl) rfl
            · skip
              have i70 := z_lt (-1) (-1) c70 i69 rfl
              have c70a := lc_lt e69 c70
              exact ln_lt c70a i17a (l_c 0 rfl) rfl
          · skip
            have i51 := z_gt 1 1 c51 i50 rfl
            have c51a := lc_gt e50 c51
            have i51a := lr_lt1 (-9223372036854775808) 9223372036854775806 c51a (l_rng z49) i17a rfl
            refine g_ldc2_w 1000000000000 57 (gd rfl) rfl rfl ?_
            refine g_goto 65 (gd rfl) rfl ?_
            refine g_lstore 67 (gd rfl) rfl (Nat.le_of_ble_eq_true rfl) ?_
            refine g_lload_n 68 (gd rfl) rfl rfl ?_
            refine g_lconst 0 69 (gd rfl) rfl rfl ?_
            refine g_lcmp 70 (gd rfl) rfl (fun z69 e69 => ?_)
            have i69 := lc_in e69
            refine g_if_ge 73 77 (gd rfl) rfl rfl (fun c70 => ?_) (fun c70 => ?_)
            · skip
              have i70 := z_ge 0 1 c70 i69 rfl
              have c70a := lc_ge e69 c70
              refine g_iconst 0 78 (gd rfl) rfl rfl ?_
              refine g_lload_n 79 (gd rfl) rfl rfl ?_
              refine g_lconst 0 80 (gd rfl) rfl rfl ?_
              refine g_lcmp 81 (gd rfl) rfl (fun z80 e80 => ?_)
              have i80 := lc_in e80
              refine g_if_ge 84 88 (gd rfl) rfl rfl (fun c81 => ?_) (fun c81 => ?_)
              · skip
                have i81 := z_ge 0 1 c81 i80 rfl
                have c81a := lc_ge e80 c81
                refine g_iconst 0 89 (gd rfl) rfl rfl ?_
                refine g_cmp_ne 92 97 (gd rfl) rfl rfl (fun c89 => ?_) (fun c89 => ?_)
                · skip
                  exact n_ne c89 (in_c 0 rfl) (in_c 0 rfl) rfl
                · skip
                  refine g_lload 94 (gd rfl) rfl rfl ?_
                  refine g_goto 100 (gd rfl) rfl ?_
                  exact g_lreturn (gd rfl) rfl (hP _ _ ⟨(Int64.ofInt 1000000000000), rfl, rfl⟩)
              · skip
                have i81 := z_lt (-1) (-1) c81 i80 rfl
                have c81a := lc_lt e80 c81
                exact ln_lt c81a i31a (l_c 0 rfl) rfl
            · skip
              have i70 := z_lt (-1) (-1) c70 i69 rfl
              have c70a := lc_lt e69 c70
              exact ln_lt c70a i17a (l_c 0 rfl) rfl
        · skip
          have i31 := z_lt (-1) (-1) c31 i30 rfl
          have c31a := lc_lt e30 c31
          have i31a := lr_lt1 (-9223372036854775808) (-1) c31a (l_rng x1) (l_c 0 rfl) rfl
          refine g_lload_n 35 (gd rfl) rfl rfl ?_
          refine g_lneg 36 (gd rfl) rfl (fun z35 e35 => ?_)
          refine g_goto 40 (gd rfl) rfl ?_
          refine g_lstore 42 (gd rfl) rfl (Nat.le_of_ble_eq_true rfl) ?_
          refine g_lload 44 (gd rfl) rfl rfl ?_
          refine g_ldc2_w 1000000000000 47 (gd rfl) rfl rfl ?_
          refine g_lload 49 (gd rfl) rfl rfl ?_
          refine g_ldiv 50 (gd rfl) rfl (lnz (lneg_nz e35 (nz_l c9a))) (fun z49 e49 => ?_)
          refine g_lcmp 51 (gd rfl) rfl (fun z50 e50 => ?_)
          have i50 := lc_in e50
          refine g_if_le 54 60 (gd rfl) rfl rfl (fun c51 => ?_) (fun c51 => ?_)
          · skip
            have i51 := z_le (-1) 0 c51 i50 rfl
            have c51a := lc_le e50 c51
            have i51a := lr_le2 0 9223372036854775807 c51a i17a (l_rng z49) rfl
            refine g_lload 62 (gd rfl) rfl rfl ?_
            refine g_lload 64 (gd rfl) rfl rfl ?_
            refine g_lmul 65 (gd rfl) rfl (fun z64 e64 => ?_)
            refine g_lstore 67 (gd rfl) rfl (Nat.le_of_ble_eq_true rfl) ?_
            refine g_lload_n 68 (gd rfl) rfl rfl ?_
            refine g_lconst 0 69 (gd rfl) rfl rfl ?_
            refine g_lcmp 70 (gd rfl) rfl (fun z69 e69 => ?_)
            have i69 := lc_in e69
            refine g_if_ge 73 77 (gd rfl) rfl rfl (fun c70 => ?_) (fun c70 => ?_)
            · skip
              have i70 := z_ge 0 1 c70 i69 rfl
              have c70a := lc_ge e69 c70
              refine g_iconst 0 78 (gd rfl) rfl rfl ?_
              refine g_lload_n 79 (gd rfl) rfl rfl ?_
              refine g_lconst 0 80 (gd rfl) rfl rfl ?_
              refine g_lcmp 81 (gd rfl) rfl (fun z80 e80 => ?_)
              have i80 := lc_in e80
              refine g_if_ge 84 88 (gd rfl) rfl rfl (fun c81 => ?_) (fun c81 => ?_)
              · skip
                have i81 := z_ge 0 1 c81 i80 rfl
                have c81a := lc_ge e80 c81
                exact ln_le c81a (l_c 0 rfl) i31a rfl
              · skip
                have i81 := z_lt (-1) (-1) c81 i80 rfl
                have c81a := lc_lt e80 c81
                refine g_iconst 1 85 (gd rfl) rfl rfl ?_
                refine g_goto 89 (gd rfl) rfl ?_
                refine g_cmp_ne 92 97 (gd rfl) rfl rfl (fun c89 => ?_) (fun c89 => ?_)
                · skip
                  refine g_lload 99 (gd rfl) rfl rfl ?_
                  refine g_lneg 100 (gd rfl) rfl (fun z99 e99 => ?_)
                  exact g_lreturn (gd rfl) rfl (hP _ _ ⟨z99, rfl, rfl⟩)
                · skip
                  exact n_eq c89 (in_c 0 rfl) (in_c 1 rfl) rfl
            · skip
              have i70 := z_lt (-1) (-1) c70 i69 rfl
              have c70a := lc_lt e69 c70
              exact ln_lt c70a i17a (l_c 0 rfl) rfl
          · skip
            have i51 := z_gt 1 1 c51 i50 rfl
            have c51a := lc_gt e50 c51
            have i51a := lr_lt1 (-9223372036854775808) 9223372036854775806 c51a (l_rng z49) i17a rfl
            refine g_ldc2_w 1000000000000 57 (gd rfl) rfl rfl ?_
            refine g_goto 65 (gd rfl) rfl ?_
            refine g_lstore 67 (gd rfl) rfl (Nat.le_of_ble_eq_true rfl) ?_
            refine g_lload_n 68 (gd rfl) rfl rfl ?_
            refine g_lconst 0 69 (gd rfl) rfl rfl ?_
            refine g_lcmp 70 (gd rfl) rfl (fun z69 e69 => ?_)
            have i69 := lc_in e69
            refine g_if_ge 73 77 (gd rfl) rfl rfl (fun c70 => ?_) (fun c70 => ?_)
            · skip
              have i70 := z_ge 0 1 c70 i69 rfl
              have c70a := lc_ge e69 c70
              refine g_iconst 0 78 (gd rfl) rfl rfl ?_
              refine g_lload_n 79 (gd rfl) rfl rfl ?_
              refine g_lconst 0 80 (gd rfl) rfl rfl ?_
              refine g_lcmp 81 (gd rfl) rfl (fun z80 e80 => ?_)
              have i80 := lc_in e80
              refine g_if_ge 84 88 (gd rfl) rfl rfl (fun c81 => ?_) (fun c81 => ?_)
              · skip
                have i81 := z_ge 0 1 c81 i80 rfl
                have c81a := lc_ge e80 c81
                exact ln_le c81a (l_c 0 rfl) i31a rfl
              · skip
                have i81 := z_lt (-1) (-1) c81 i80 rfl
                have c81a := lc_lt e80 c81
                refine g_iconst 1 85 (gd rfl) rfl rfl ?_
                refine g_goto 89 (gd rfl) rfl ?_
                refine g_cmp_ne 92 97 (gd rfl) rfl rfl (fun c89 => ?_) (fun c89 => ?_)
                · skip
                  refine g_lload 99 (gd rfl) rfl rfl ?_
                  refine g_lneg 100 (gd rfl) rfl (fun z99 e99 => ?_)
                  exact g_lreturn (gd rfl) rfl (hP _ _ ⟨z99, rfl, rfl⟩)
                · skip
                  exact n_eq c89 (in_c 0 rfl) (in_c 1 rfl) rfl
            · skip
              have i70 := z_lt (-1) (-1) c70 i69 rfl
              have c70a := lc_lt e69 c70
              exact ln_lt c70a i17a (l_c 0 rfl) rfl
      · skip
        have i17 := z_lt (-1) (-1) c17 i16 rfl
        have c17a := lc_lt e16 c17
        have i17a := lr_lt1 (-9223372036854775808) (-1) c17a (l_rng x0) (l_c 0 rfl) rfl
        refine g_lload_n 21 (gd rfl) rfl rfl ?_
        refine g_lneg 22 (gd rfl) rfl (fun z21 e21 => ?_)
        refine g_goto 26 (gd rfl) rfl ?_
        refine g_lstore 28 (gd rfl) rfl (Nat.le_of_ble_eq_true rfl) ?_
        refine g_lload_n 29 (gd rfl) rfl rfl ?_
        refine g_lconst 0 30 (gd rfl) rfl rfl ?_
        refine g_lcmp 31 (gd rfl) rfl (fun z30 e30 => ?_)
        have i30 := lc_in e30
        refine g_if_ge 34 39 (gd rfl) rfl rfl (fun c31 => ?_) (fun c31 => ?_)
        · skip
          have i31 := z_ge 0 1 c31 i30 rfl
          have c31a := lc_ge e30 c31
          have i31a := lr_le2 0 9223372036854775807 c31a (l_c 0 rfl) (l_rng x1) rfl
          refine g_lload_n 40 (gd rfl) rfl rfl ?_
          refine g_lstore 42 (gd rfl) rfl (Nat.le_of_ble_eq_true rfl) ?_
          refine g_lload 44 (gd rfl) rfl rfl ?_
          refine g_ldc2_w 1000000000000 47 (gd rfl) rfl rfl ?_
          refine g_lload 49 (gd rfl) rfl rfl ?_
          refine g_ldiv 50 (gd rfl) rfl (lnz (nz_l c9a)) (fun z49 e49 => ?_)
          refine g_lcmp 51 (gd rfl) rfl (fun z50 e50 => ?_)
          have i50 := lc_in e50
          refine g_if_le 54 60 (gd rfl) rfl rfl (fun c51 => ?_) (fun c51 => ?_)
          · skip
            have i51 := z_le (-1) 0 c51 i50 rfl
            have c51a := lc_le e50 c51
            refine g_lload 62 (gd rfl) rfl rfl ?_
            refine g_lload 64 (gd rfl) rfl rfl ?_
            refine g_lmul 65 (gd rfl) rfl (fun z64 e64 => ?_)
            refine g_lstore 67 (gd rfl) rfl (Nat.le_of_ble_eq_true rfl) ?_
            refine g_lload_n 68 (gd rfl) rfl rfl ?_
            refine g_lconst 0 69 (gd rfl) rfl rfl ?_
            refine g_lcmp 70 (gd rfl) rfl (fun z69 e69 => ?_)
            have i69 := lc_in e69
            refine g_if_ge 73 77 (gd rfl) rfl rfl (fun c70 => ?_) (fun c70 => ?_)
            · skip
              have i70 := z_ge 0 1 c70 i69 rfl
              have c70a := lc_ge e69 c70
              exact ln_le c70a (l_c 0 rfl) i17a rfl
            · skip
              have i70 := z_lt (-1) (-1) c70 i69 rfl
              have c70a := lc_lt e69 c70
              refine g_iconst 1 74 (gd rfl) rfl rfl ?_
              refine g_goto 78 (gd rfl) rfl ?_
              refine g_lload_n 79 (gd rfl) rfl rfl ?_
              refine g_lconst 0 80 (gd rfl) rfl rfl ?_
              refine g_lcmp 81 (gd rfl) rfl (fun z80 e80 => ?_)
              have i80 := lc_in e80
              refine g_if_ge 84 88 (gd rfl) rfl rfl (fun c81 => ?_) (fun c81 => ?_)
              · skip
                have i81 := z_ge 0 1 c81 i80 rfl
                have c81a := lc_ge e80 c81
                refine g_iconst 0 89 (gd rfl) rfl rfl ?_
                refine g_cmp_ne 92 97 (gd rfl) rfl rfl (fun c89 => ?_) (fun c89 => ?_)
                · skip
                  refine g_lload 99 (gd rfl) rfl rfl ?_
                  refine g_lneg 100 (gd rfl) rfl (fun z99 e99 => ?_)
                  exact g_lreturn (gd rfl) rfl (hP _ _ ⟨z99, rfl, rfl⟩)
                · skip
                  exact n_eq c89 (in_c 1 rfl) (in_c 0 rfl) rfl
              · skip
                have i81 := z_lt (-1) (-1) c81 i80 rfl
                have c81a := lc_lt e80 c81
                exact ln_lt c81a i31a (l_c 0 rfl) rfl
          · skip
            have i51 := z_gt 1 1 c51 i50 rfl
            have c51a := lc_gt e50 c51
            have i51a := lr_lt1 (-9223372036854775808) 9223372036854775806 c51a (l_rng z49) (l_rng z21) rfl
            have i51b := lr_lt2 (-9223372036854775807) 9223372036854775807 c51a (l_rng z49) (l_rng z21) rfl
            refine g_ldc2_w 1000000000000 57 (gd rfl) rfl rfl ?_
            refine g_goto 65 (gd rfl) rfl ?_
            refine g_lstore 67 (gd rfl) rfl (Nat.le_of_ble_eq_true rfl) ?_
            refine g_lload_n 68 (gd rfl) rfl rfl ?_
            refine g_lconst 0 69 (gd rfl) rfl rfl ?_
            refine g_lcmp 70 (gd rfl) rfl (fun z69 e69 => ?_)
            have i69 := lc_in e69
            refine g_if_ge 73 77 (gd rfl) rfl rfl (fun c70 => ?_) (fun c70 => ?_)
            · skip
              have i70 := z_ge 0 1 c70 i69 rfl
              have c70a := lc_ge e69 c70
              exact ln_le c70a (l_c 0 rfl) i17a rfl
            · skip
              have i70 := z_lt (-1) (-1) c70 i69 rfl
              have c70a := lc_lt e69 c70
              refine g_iconst 1 74 (gd rfl) rfl rfl ?_
              refine g_goto 78 (gd rfl) rfl ?_
              refine g_lload_n 79 (gd rfl) rfl rfl ?_
              refine g_lconst 0 80 (gd rfl) rfl rfl ?_
              refine g_lcmp 81 (gd rfl) rfl (fun z80 e80 => ?_)
              have i80 := lc_in e80
              refine g_if_ge 84 88 (gd rfl) rfl rfl (fun c81 => ?_) (fun c81 => ?_)
              · skip
                have i81 := z_ge 0 1 c81 i80 rfl
                have c81a := lc_ge e80 c81
                refine g_iconst 0 89 (gd rfl) rfl rfl ?_
                refine g_cmp_ne 92 97 (gd rfl) rfl rfl (fun c89 => ?_) (fun c89 => ?_)
                · skip
                  refine g_lload 99 (gd rfl) rfl rfl ?_
                  refine g_lneg 100 (gd rfl) rfl (fun z99 e99 => ?_)
                  exact g_lreturn (gd rfl) rfl (hP _ _ ⟨z99, rfl, rfl⟩)
                · skip
                  exact n_eq c89 (in_c 1 rfl) (in_c 0 rfl) rfl
              · skip
                have i81 := z_lt (-1) (-1) c81 i80 rfl
                have c81a := lc_lt e80 c81
                exact ln_lt c81a i31a (l_c 0 rfl) rfl
        · skip
          have i31 := z_lt (-1) (-1) c31 i30 rfl
          have c31a := lc_lt e30 c31
          have i31a := lr_lt1 (-9223372036854775808) (-1) c31a (l_rng x1) (l_c 0 rfl) rfl
          refine g_lload_n 35 (gd rfl) rfl rfl ?_
          refine g_lneg 36 (gd rfl) rfl (fun z35 e35 => ?_)
          refine g_goto 40 (gd rfl) rfl ?_
          refine g_lstore 42 (gd rfl) rfl (Nat.le_of_ble_eq_true rfl) ?_
          refine g_lload 44 (gd rfl) rfl rfl ?_
          refine g_ldc2_w 1000000000000 47 (gd rfl) rfl rfl ?_
          refine g_lload 49 (gd rfl) rfl rfl ?_
          refine g_ldiv 50 (gd rfl) rfl (lnz (lneg_nz e35 (nz_l c9a))) (fun z49 e49 => ?_)
          refine g_lcmp 51 (gd rfl) rfl (fun z50 e50 => ?_)
          have i50 := lc_in e50
          refine g_if_le 54 60 (gd rfl) rfl rfl (fun c51 => ?_) (fun c51 => ?_)
          · skip
            have i51 := z_le (-1) 0 c51 i50 rfl
            have c51a := lc_le e50 c51
            refine g_lload 62 (gd rfl) rfl rfl ?_
            refine g_lload 64 (gd rfl) rfl rfl ?_
            refine g_lmul 65 (gd rfl) rfl (fun z64 e64 => ?_)
            refine g_lstore 67 (gd rfl) rfl (Nat.le_of_ble_eq_true rfl) ?_
            refine g_lload_n 68 (gd rfl) rfl rfl ?_
            refine g_lconst 0 69 (gd rfl) rfl rfl ?_
            refine g_lcmp 70 (gd rfl) rfl (fun z69 e69 => ?_)
            have i69 := lc_in e69
            refine g_if_ge 73 77 (gd rfl) rfl rfl (fun c70 => ?_) (fun c70 => ?_)
            · skip
              have i70 := z_ge 0 1 c70 i69 rfl
              have c70a := lc_ge e69 c70
              exact ln_le c70a (l_c 0 rfl) i17a rfl
            · skip
              have i70 := z_lt (-1) (-1) c70 i69 rfl
              have c70a := lc_lt e69 c70
              refine g_iconst 1 74 (gd rfl) rfl rfl ?_
              refine g_goto 78 (gd rfl) rfl ?_
              refine g_lload_n 79 (gd rfl) rfl rfl ?_
              refine g_lconst 0 80 (gd rfl) rfl rfl ?_
              refine g_lcmp 81 (gd rfl) rfl (fun z80 e80 => ?_)
              have i80 := lc_in e80
              refine g_if_ge 84 88 (gd rfl) rfl rfl (fun c81 => ?_) (fun c81 => ?_)
              · skip
                have i81 := z_ge 0 1 c81 i80 rfl
                have c81a := lc_ge e80 c81
                exact ln_le c81a (l_c 0 rfl) i31a rfl
              · skip
                have i81 := z_lt (-1) (-1) c81 i80 rfl
                have c81a := lc_lt e80 c81
                refine g_iconst 1 85 (gd rfl) rfl rfl ?_
                refine g_goto 89 (gd rfl) rfl ?_
                refine g_cmp_ne 92 97 (gd rfl) rfl rfl (fun c89 => ?_) (fun c89 => ?_)
                · skip
                  exact n_ne c89 (in_c 1 rfl) (in_c 1 rfl) rfl
                · skip
                  refine g_lload 94 (gd rfl) rfl rfl ?_
                  refine g_goto 100 (gd rfl) rfl ?_
                  exact g_lreturn (gd rfl) rfl (hP _ _ ⟨z64, rfl, rfl⟩)
          · skip
            have i51 := z_gt 1 1 c51 i50 rfl
            have c51a := lc_gt e50 c51
            have i51a := lr_lt1 (-9223372036854775808) 9223372036854775806 c51a (l_rng z49) (l_rng z21) rfl
            have i51b := lr_lt2 (-9223372036854775807) 9223372036854775807 c51a (l_rng z49) (l_rng z21) rfl
            refine g_ldc2_w 1000000000000 57 (gd rfl) rfl rfl ?_
            refine g_goto 65 (gd rfl) rfl ?_
            refine g_lstore 67 (gd rfl) rfl (Nat.le_of_ble_eq_true rfl) ?_
            refine g_lload_n 68 (gd rfl) rfl rfl ?_
            refine g_lconst 0 69 (gd rfl) rfl rfl ?_
            refine g_lcmp 70 (gd rfl) rfl (fun z69 e69 => ?_)
            have i69 := lc_in e69
            refine g_if_ge 73 77 (gd rfl) rfl rfl (fun c70 => ?_) (fun c70 => ?_)
            · skip
              have i70 := z_ge 0 1 c70 i69 rfl
              have c70a := lc_ge e69 c70
              exact ln_le c70a (l_c 0 rfl) i17a rfl
            · skip
              have i70 := z_lt (-1) (-1) c70 i69 rfl
              have c70a := lc_lt e69 c70
              refine g_iconst 1 74 (gd rfl) rfl rfl ?_
              refine g_goto 78 (gd rfl) rfl ?_
              refine g_lload_n 79 (gd rfl) rfl rfl ?_
              refine g_lconst 0 80 (gd rfl) rfl rfl ?_
              refine g_lcmp 81 (gd rfl) rfl (fun z80 e80 => ?_)
              have i80 := lc_in e80
              refine g_if_ge 84 88 (gd rfl) rfl rfl (fun c81 => ?_) (fun c81 => ?_)
              · skip
                have i81 := z_ge 0 1 c81 i80 rfl
                have c81a := lc_ge e80 c81
                exact ln_le c81a (l_c 0 rfl) i31a rfl
              · skip
                have i81 := z_lt (-1) (-1) c81 i80 rfl
                have c81a := lc_lt e80 c81
                refine g_iconst 1 85 (gd rfl) rfl rfl ?_
                refine g_goto 89 (gd rfl) rfl ?_
                refine g_cmp_ne 92 97 (gd rfl) rfl rfl (fun c89 => ?_) (fun c89 => ?_)
                · skip
                  exact n_ne c89 (in_c 1 rfl) (in_c 1 rfl) rfl
                · skip
                  refine g_lload 94 (gd rfl) rfl rfl ?_
                  refine g_goto 100 (gd rfl) rfl ?_
                  exact g_lreturn (gd rfl) rfl (hP _ _ ⟨(Int64.ofInt 1000000000000), rfl, rfl⟩)
    · skip
      have i9 := z_eq 0 0 c9 i8 rfl
      have c9a := lc_eq e8 c9
      have i9a := lr_eq1 0 0 c9a (l_rng x1) (l_c 0 rfl) rfl
      refine g_lconst 0 13 (gd rfl) rfl rfl ?_
      exact g_lreturn (gd rfl) rfl (hP _ _ ⟨(Int64.ofInt 0), rfl, rfl⟩)

def fm_49_60_9 : FM := ([63], [], [(60, 7)], [])
/-- GraphHouse$Colours.setAside -/
theorem k_49_60_9 {Z : AmZ} {A : Nat → Nat} {s : GS} {ex : va_W} {d : Nat} {X : AmX} {x2 : Int32} (hd : 4 ≤ d) (hI : Inv s)  : GC Z d 49 [.ref (A 60), .ref (A 9), .int x2] (WW Z A s ++ ex) 0 0 (fun v u => ∃ t : GS, Inv t ∧ Fr fm_49_60_9 s t ∧ ∃ z : Int32, v = some (.int z) ∧ u = WW Z A t ++ ex ∧ In z (-2147483648) 2147483647) X := by
  intro post xp hP hX
  have ct8 : ∀ (k8 : Nat) (sc8 : GS) (y8_3 : Int32) (y8_4 : Int32) (y8_5 : Int32), Inv sc8 → Fr fm_49_60_9 s sc8 → (In y8_5 0 33) → 33 - (y8_5).toInt < (k8 : Int) → GG Z (d - 1) 49 post (gx xp) (1 + k8 * 3865470569101) 8 (fun j => xlook j [(0, .ref (A 60)), (1, .ref (A 9)), (2, .int x2), (3, .int y8_3), (4, .int y8_4), (5, .int y8_5)]) [] (WW Z A sc8 ++ ex) 0 0 := by
    intro k8
    induction k8 with
    | zero => intro sc8 y8_3 y8_4 y8_5 hIc8 hFc8 j8_5 mm8; exact m_no mm8 j8_5 rfl
    | succ k8 ih8 =>
      intro sc8 y8_3 y8_4 y8_5 hIc8 hFc8 j8_5 mm8
      refine gg_w (M := 1 + k8 * 3865470569101 + 3865470569101) (by omega) ?_
      have ct27 : ∀ (k27 : Nat) (sc27 : GS) (y27_3 : Int32) (y27_4 : Int32) (y27_6 : Int32), Inv sc27 → Fr fm_49_60_9 s sc27 → (In y8_5 0 32) → ((y27_6.toBitVec.toNat : Nat) : Int) < (k27 : Int) → GG Z (d - 1) 49 post (gx xp) (1 + k8 * 3865470569101 + 1 + k27 * 900) 27 (fun j => xlook j [(0, .ref (A 60)), (1, .ref (A 9)), (2, .int x2), (3, .int y27_3), (4, .int y27_4), (5, .int y8_5), (6, .int y27_6)]) [] (WW Z A sc27 ++ ex) 0 0 := by
        intro k27
        induction k27 with
        | zero => intro sc27 y27_3 y27_4 y27_6 hIc27 hFc27 j27_5 mm27; exact absurd mm27 (Int.not_lt.mpr (Int.natCast_nonneg _))
        | succ k27 ih27 =>
          intro sc27 y27_3 y27_4 y27_6 hIc27 hFc27 j27_5 mm27
          refine gg_w (M := 1 + k8 * 3865470569101 + 1 + k27 * 900 + 900) (by omega) ?_
          refine g_iload 29 (gd rfl) rfl rfl ?_
          refine g_if_eq 32 110 (gd rfl) rfl rfl (fun c29 => ?_) (fun c29 => ?_)
          · skip
            have i29 := z_eq 0 0 c29 (i_rng y27_6) rfl
            refine g_iinc 113 (gd rfl) rfl rfl (Nat.le_of_ble_eq_true rfl) (fun z110 e110 => ?_)
            have i110 := in_add 1 33 e110 j27_5 (in_c 1 rfl) rfl rfl
            refine g_goto 8 (gd rfl) rfl ?_
            exact gg_w (by omega) (gg_f (gf_cons rfl (gf_cons rfl (gf_cons rfl (gf_cons rfl (gf_cons rfl (gf_cons rfl gf_nil)))))) (ih8 sc27 y27_3 y27_4 z110 hIc27 hFc27 (in_w 0 33 i110 rfl) (m_up mm8 (t_add e110 j27_5 (in_c 1 rfl) rfl) (in_w 1 1 (in_c 1 rfl) rfl))))
          · skip
            refine g_iload 34 (gd rfl) rfl rfl ?_
            refine g_calls (As := [.int y27_6]) (r := []) 37 (gd rfl) rfl rfl rfl rfl rfl (Nat.le_of_ble_eq_true rfl) (Nat.zero_le _) (Nat.zero_le _) (k_264n (by omega) c29) (fun v u h => ?_)
            obtain ⟨z34, rfl, rfl, i34, hb34, hl34⟩ := h
            show GG _ _ _ _ _ _ _ _ [.int z34] _ _ _
            refine g_istore 39 (gd rfl) rfl (Nat.le_of_ble_eq_true rfl) ?_
            refine g_aload_n 40 (gd rfl) rfl rfl ?_
            refine g_aload_n 41 (gd rfl) rfl rfl ?_
            refine g_iload 43 (gd rfl) rfl rfl ?_
            refine g_iaload 44 (gd rfl) rfl (n := 32) rfl (in_ix i34 rfl) (fun z43 e43 => ?_)
            refine g_callv (X := _) (As := [.int z43]) (r := []) (b := A 60) (q := 60) 47 (gd rfl) rfl rfl rfl rfl rfl (ww_o rfl) (Nat.le_of_ble_eq_true rfl) (Nat.zero_le _) (Nat.zero_le _) (k_51_60 (by omega) hIc27 ) (fun e u h => h) (fun v u h => ?_)
            obtain ⟨z44, rfl, rfl, i44⟩ := h
            show GG _ _ _ _ _ _ _ _ [.int z44] _ _ _
            refine g_aload_n 48 (gd rfl) rfl rfl ?_
            refine g_iload 50 (gd rfl) rfl rfl ?_
            refine g_iaload 51 (gd rfl) rfl (n := 32) rfl (in_ix i34 rfl) (fun z50 e50 => ?_)
            have q50 : z43 = z50 := (e43).trans e50.symm
            subst q50
            refine g_iload_n 52 (gd rfl) rfl rfl ?_
            refine g_iand 53 (gd rfl) rfl (fun z52 e52 => ?_)
            refine g_calls (As := [.int z52]) (r := [.int z44]) 56 (gd rfl) rfl rfl rfl rfl rfl (Nat.le_of_ble_eq_true rfl) (Nat.zero_le _) (Nat.zero_le _) (k_414b (by omega) hIc27 ) (fun v u h => ?_)
            obtain ⟨z53, rfl, rfl, i53⟩ := h
            show GG _ _ _ _ _ _ _ _ [.int z53, .int z44] _ _ _
            refine g_cmp_le 59 98 (gd rfl) rfl rfl (fun c56 => ?_) (fun c56 => ?_)
            · skip
              refine g_iload 100 (gd rfl) rfl rfl ?_
              refine g_iload 102 (gd rfl) rfl rfl ?_
              refine g_iconst 1 103 (gd rfl) rfl rfl ?_
              refine g_isub 104 (gd rfl) rfl (fun z103 e103 => ?_)
              refine g_iand 105 (gd rfl) rfl (fun z104 e104 => ?_)
              refine g_istore 107 (gd rfl) rfl (Nat.le_of_ble_eq_true rfl) ?_
              refine g_goto 27 (gd rfl) rfl ?_
              exact gg_w (by omega) (gg_f (gf_cons rfl (gf_cons rfl (gf_cons rfl (gf_cons rfl (gf_cons rfl (gf_cons rfl (gf_cons rfl gf_nil))))))) (ih27 sc27 y27_3 y27_4 z104 hIc27 hFc27 (in_w 0 32 j27_5 rfl) (mb e104 e103 c29 mm27)))
            · skip
              have i56 := r_lt1 0 31 c56 i53 i44 rfl
              have i56a := r_lt2 1 32 c56 i53 i44 rfl
              refine g_aload_n 60 (gd rfl) rfl rfl ?_
              refine g_getI 63 (gd rfl) rfl rfl rfl (fun z60 e60 => ?_)
              have i60 := inv_F hIc27 0 32 rfl e60
              refine g_bipush 32 65 (gd rfl) rfl rfl ?_
              refine g_cmp_ge 68 98 (gd rfl) rfl rfl (fun c65 => ?_) (fun c65 => ?_)
              · skip
                have i65 := r_le2 32 32 c65 (in_c 32 rfl) i60 rfl
                refine g_iload 100 (gd rfl) rfl rfl ?_
                refine g_iload 102 (gd rfl) rfl rfl ?_
                refine g_iconst 1 103 (gd rfl) rfl rfl ?_
                refine g_isub 104 (gd rfl) rfl (fun z103 e103 => ?_)
                refine g_iand 105 (gd rfl) rfl (fun z104 e104 => ?_)
                refine g_istore 107 (gd rfl) rfl (Nat.le_of_ble_eq_true rfl) ?_
                refine g_goto 27 (gd rfl) rfl ?_
                exact gg_w (by omega) (gg_f (gf_cons rfl (gf_cons rfl (gf_cons rfl (gf_cons rfl (gf_cons rfl (gf_cons rfl (gf_cons rfl gf_nil))))))) (ih27 sc27 y27_3 y27_4 z104 hIc27 hFc27 (in_w 0 32 j27_5 rfl) (mb e104 e103 c29 mm27)))
              · skip
                have i65 := r_lt1 0 31 c65 i60 (in_c 32 rfl) rfl
                refine g_aload_n 69 (gd rfl) rfl rfl ?_
                refine g_getA (q2 := 63) 72 (gd rfl) rfl rfl rfl rfl ?_
                refine g_aload_n 73 (gd rfl) rfl rfl ?_
                refine g_getI 76 (gd rfl) rfl rfl rfl (fun z73 e73 => ?_)
                have q73 : z60 = z73 := (e60).trans e73.symm
                subst q73
                refine g_iload 78 (gd rfl) rfl rfl ?_
                refine g_iastore 79 (gd rfl) rfl (n := 32) rfl (in_ix i65 rfl) ?_
                have hI78 := inv_sI (q := 63) (j := z60.toNatClampNeg) hIc27 rfl (in_w 0 31 i34 rfl)
                refine g_aload_n 80 (gd rfl) rfl rfl ?_
                refine g_dup 81 (gd rfl) rfl rfl ?_
                refine g_getI 84 (gd rfl) rfl rfl rfl (fun z81 e81 => ?_)
                have q81 : z60 = z81 := (sI_F (e60)).trans e81.symm
                subst q81
                refine g_iconst 1 85 (gd rfl) rfl rfl ?_
                refine g_iadd 86 (gd rfl) rfl (fun z85 e85 => ?_)
                have i85 := in_add 1 32 e85 i65 (in_c 1 rfl) rfl rfl
                refine g_putI 89 (gd rfl) rfl rfl rfl rfl ?_
                have hI86 := inv_sF (q := 60) (j := 7) hI78 rfl (in_w 0 32 i85 rfl)
                refine g_iload_n 90 (gd rfl) rfl rfl ?_
                refine g_iconst 1 91 (gd rfl) rfl rfl ?_
                refine g_iload 93 (gd rfl) rfl rfl ?_
                refine g_ishl 94 (gd rfl) rfl (fun z93 e93 => ?_)
                refine g_iconst (-1) 95 (gd rfl) rfl rfl ?_
                refine g_ixor 96 (gd rfl) rfl (fun z95 e95 => ?_)
                refine g_iand 97 (gd rfl) rfl (fun z96 e96 => ?_)
                refine g_istore_n 98 (gd rfl) rfl (Nat.le_of_ble_eq_true rfl) ?_
                refine g_iload 100 (gd rfl) rfl rfl ?_
                refine g_iload 102 (gd rfl) rfl rfl ?_
                refine g_iconst 1 103 (gd rfl) rfl rfl ?_
                refine g_isub 104 (gd rfl) rfl (fun z103 e103 => ?_)
                refine g_iand 105 (gd rfl) rfl (fun z104 e104 => ?_)
                refine g_istore 107 (gd rfl) rfl (Nat.le_of_ble_eq_true rfl) ?_
                refine g_goto 27 (gd rfl) rfl ?_
                exact gg_w (by omega) (gg_f (gf_cons rfl (gf_cons rfl (gf_cons rfl (gf_cons rfl (gf_cons rfl (gf_cons rfl (gf_cons rfl gf_nil))))))) (ih27 (sF (sI sc27 63 z60.toNatClampNeg z34) 60 7 z85) z96 y27_4 z104 hI86 (fr_sF rfl (fr_sI rfl hFc27)) (in_w 0 32 j27_5 rfl) (mb e104 e103 c29 mm27)))
      refine g_iload 10 (gd rfl) rfl rfl ?_
      refine g_bipush 32 12 (gd rfl) rfl rfl ?_
      refine g_cmp_gt 15 116 (gd rfl) rfl rfl (fun c12 => ?_) (fun c12 => ?_)
      · skip
        have i12 := r_lt2 33 33 c12 (in_c 32 rfl) j8_5 rfl
        refine g_iload_n 117 (gd rfl) rfl rfl ?_
        exact g_ireturn (gd rfl) rfl rfl (hP _ _ ⟨sc8, hIc8, hFc8, y8_3, rfl, rfl, in_w (-2147483648) 2147483647 (i_rng y8_3) rfl⟩)
      · skip
        have i12 := r_le1 0 32 c12 j8_5 (in_c 32 rfl) rfl
        refine g_iload_n 16 (gd rfl) rfl rfl ?_
        refine g_iload 18 (gd rfl) rfl rfl ?_
        refine g_cmp_eq 21 116 (gd rfl) rfl rfl (fun c18 => ?_) (fun c18 => ?_)
        · skip
          refine g_iload_n 117 (gd rfl) rfl rfl ?_
          exact g_ireturn (gd rfl) rfl rfl (hP _ _ ⟨sc8, hIc8, hFc8, y8_3, rfl, rfl, in_w (-2147483648) 2147483647 (i_rng y8_3) rfl⟩)
        · skip
          refine g_iload_n 22 (gd rfl) rfl rfl ?_
          refine g_istore 24 (gd rfl) rfl (Nat.le_of_ble_eq_true rfl) ?_
          refine g_iload_n 25 (gd rfl) rfl rfl ?_
          refine g_istore 27 (gd rfl) rfl (Nat.le_of_ble_eq_true rfl) ?_
          exact gg_w (by omega) (gg_f (gf_cons rfl (gf_cons rfl (gf_cons rfl (gf_cons rfl (gf_cons rfl (gf_cons rfl (gf_cons rfl gf_nil))))))) (ct27 4294967296 sc8 y8_3 y8_3 y8_3 hIc8 hFc8 (in_w 0 32 i12 rfl) (mb_in _)))
  refine g_enter2 (k := 49) (N := 131425999350335) (by omega) rfl (Nat.le_of_ble_eq_true rfl) ?_
  refine g_iload_n 1 (gd rfl) rfl rfl ?_
  refine g_istore_n 2 (gd rfl) rfl (Nat.le_of_ble_eq_true rfl) ?_
  refine g_iconst 0 3 (gd rfl) rfl rfl ?_
  refine g_istore 5 (gd rfl) rfl (Nat.le_of_ble_eq_true rfl) ?_
  refine g_iconst 0 6 (gd rfl) rfl rfl ?_
  refine g_istore 8 (gd rfl) rfl (Nat.le_of_ble_eq_true rfl) ?_
  exact gg_w (by omega) (gg_f (gf_cons rfl (gf_cons rfl (gf_cons rfl (gf_cons rfl (gf_cons rfl (gf_cons rfl gf_nil)))))) (ct8 34 s x2 (Int32.ofInt 0) (Int32.ofInt 0) hI fr_rf (in_w 0 33 (in_c 0 rfl) rfl) (m_in 34 (in_w 0 33 (in_c 0 rfl) rfl) rfl)))

def fm_49_60_39 : FM := ([63], [], [(60, 7)], [])
/-- GraphHouse$Colours.setAside -/
theorem k_49_60_39 {Z : AmZ} {A : Nat → Nat} {s : GS} {ex : va_W} {d : Nat} {X : AmX} {x2 : Int32} (hd : 4 ≤ d) (hI : Inv s)  : GC Z d 49 [.ref (A 60), .ref (A 39), .int x2] (WW Z A s ++ ex) 0 0 (fun v u => ∃ t : GS, Inv t ∧ Fr fm_49_60_39 s t ∧ ∃ z : Int32, v = some (.int z) ∧ u = WW Z A t ++ ex ∧ In z (-2147483648) 2147483647) X := by
  intro post xp hP hX
  have ct8 : ∀ (k8 : Nat) (sc8 : GS) (y8_3 : Int32) (y8_4 : Int32) (y8_5 : Int32), Inv sc8 → Fr fm_49_60_39 s sc8 → (In y8_5 0 33) → 33 - (y8_5).toInt < (k8 : Int) → GG Z (d - 1) 49 post (gx xp) (1 + k8 * 3865470569101) 8 (fun j => xlook j [(0, .ref (A 60)), (1, .ref (A 39)), (2, .int x2), (3, .int y8_3), (4, .int y8_4), (5, .int y8_5)]) [] (WW Z A sc8 ++ ex) 0 0 := by
    intro k8
    induction k8 with
    | zero => intro sc8 y8_3 y8_4 y8_5 hIc8 hFc8 j8_5 mm8; exact m_no mm8 j8_5 rfl
    | succ k8 ih8 =>
      intro sc8 y8_3 y8_4 y8_5 hIc8 hFc8 j8_5 mm8
      refine gg_w (M := 1 + k8 * 3865470569101 + 3865470569101) (by omega) ?_
      have ct27 : ∀ (k27 : Nat) (sc27 : GS) (y27_3 : Int32) (y27_4 : Int32) (y27_6 : Int32), Inv sc27 → Fr fm_49_60_39 s sc27 → (In y8_5 0 32) → ((y27_6.toBitVec.toNat : Nat) : Int) < (k27 : Int) → GG Z (d - 1) 49 post (gx xp) (1 + k8 * 3865470569101 + 1 + k27 * 900) 27 (fun j => xlook j [(0, .ref (A 60)), (1, .ref (A 39)), (2, .int x2), (3, .int y27_3), (4, .int y27_4), (5, .int y8_5), (6, .int y27_6)]) [] (WW Z A sc27 ++ ex) 0 0 := by
        intro k27
        induction k27 with
        | zero => intro sc27 y27_3 y27_4 y27_6 hIc27 hFc27 j27_5 mm27; exact absurd mm27 (Int.not_lt.mpr (Int.natCast_nonneg _))
        | succ k27 ih27 =>
          intro sc27 y27_3 y27_4 y27_6 hIc27 hFc27 j27_5 mm27
          refine gg_w (M := 1 + k8 * 3865470569101 + 1 + k27 * 900 + 900) (by omega) ?_
          refine g_iload 29 (gd rfl) rfl rfl ?_
          refine g_if_eq 32 110 (gd rfl) rfl rfl (fun c29 => ?_) (fun c29 => ?_)
          · skip
            have i29 := z_eq 0 0 c29 (i_rng y27_6) rfl
            refine g_iinc 113 (gd rfl) rfl rfl (Nat.le_of_ble_eq_true rfl) (fun z110 e110 => ?_)
            have i110 := in_add 1 33 e110 j27_5 (in_c 1 rfl) rfl rfl
            refine g_goto 8 (gd rfl) rfl ?_
            exact gg_w (by omega) (gg_f (gf_cons rfl (gf_cons rfl (gf_cons rfl (gf_cons rfl (gf_cons rfl (gf_cons rfl gf_nil)))))) (ih8 sc27 y27_3 y27_4 z110 hIc27 hFc27 (in_w 0 33 i110 rfl) (m_up mm8 (t_add e110 j27_5 (in_c 1 rfl) rfl) (in_w 1 1 (in_c 1 rfl) rfl))))
          · skip
            refine g_iload 34 (gd rfl) rfl rfl ?_
            refine g_calls (As := [.int y27_6]) (r := []) 37 (gd rfl) rfl rfl rfl rfl rfl (Nat.le_of_ble_eq_true rfl) (Nat.zero_le _) (Nat.zero_le _) (k_264n (by omega) c29) (fun v u h => ?_)
            obtain ⟨z34, rfl, rfl, i34, hb34, hl34⟩ := h
            show GG _ _ _ _ _ _ _ _ [.int z34] _ _ _
            refine g_istore 39 (gd rfl) rfl (Nat.le_of_ble_eq_true rfl) ?_
            refine g_aload_n 40 (gd rfl) rfl rfl ?_
            refine g_aload_n 41 (gd rfl) rfl rfl ?_
            refine g_iload 43 (gd rfl) rfl rfl ?_
            refine g_iaload 44 (gd rfl) rfl (n := 32) rfl (in_ix i34 rfl) (fun z43 e43 => ?_)
            refine g_callv (X := _) (As := [.int z43]) (r := []) (b := A 60) (q := 60) 47 (gd rfl) rfl rfl rfl rfl rfl (ww_o rfl) (Nat.le_of_ble_eq_true rfl) (Nat.zero_le _) (Nat.zero_le _) (k_51_60 (by omega) hIc27 ) (fun e u h => h) (fun v u h => ?_)
            obtain ⟨z44, rfl, rfl, i44⟩ := h
            show GG _ _ _ _ _ _ _ _ [.int z44] _ _ _
            refine g_aload_n 48 (gd rfl) rfl rfl ?_
            refine g_iload 50 (gd rfl) rfl rfl ?_
            refine g_iaload 51 (gd rfl) rfl (n := 32) rfl (in_ix i34 rfl) (fun z50 e50 => ?_)
            have q50 : z43 = z50 := (e43).trans e50.symm
            subst q50
            refine g_iload_n 52 (gd rfl) rfl rfl ?_
            refine g_iand 53 (gd rfl) rfl (fun z52 e52 => ?_)
            refine g_calls (As := [.int z52]) (r := [.int z44]) 56 (gd rfl) rfl rfl rfl rfl rfl (Nat.le_of_ble_eq_true rfl) (Nat.zero_le _) (Nat.zero_le _) (k_414b (by omega) hIc27 ) (fun v u h => ?_)
            obtain ⟨z53, rfl, rfl, i53⟩ := h
            show GG _ _ _ _ _ _ _ _ [.int z53, .int z44] _ _ _
            refine g_cmp_le 59 98 (gd rfl) rfl rfl (fun c56 => ?_) (fun c56 => ?_)
            · skip
              refine g_iload 100 (gd rfl) rfl rfl ?_
              refine g_iload 102 (gd rfl) rfl rfl ?_
              refine g_iconst 1 103 (gd rfl) rfl rfl ?_
              refine g_isub 104 (gd rfl) rfl (fun z103 e103 => ?_)
              refine g_iand 105 (gd rfl) rfl (fun z104 e104 => ?_)
              refine g_istore 107 (gd rfl) rfl (Nat.le_of_ble_eq_true rfl) ?_
              refine g_goto 27 (gd rfl) rfl ?_
              exact gg_w (by omega) (gg_f (gf_cons rfl (gf_cons rfl (gf_cons rfl (gf_cons rfl (gf_cons rfl (gf_cons rfl (gf_cons rfl gf_nil))))))) (ih27 sc27 y27_3 y27_4 z104 hIc27 hFc27 (in_w 0 32 j27_5 rfl) (mb e104 e103 c29 mm27)))
            · skip
              have i56 := r_lt1 0 31 c56 i53 i44 rfl
              have i56a := r_lt2 1 32 c56 i53 i44 rfl
              refine g_aload_n 60 (gd rfl) rfl rfl ?_
              refine g_getI 63 (gd rfl) rfl rfl rfl (fun z60 e60 => ?_)
              have i60 := inv_F hIc27 0 32 rfl e60
              refine g_bipush 32 65 (gd rfl) rfl rfl ?_
              refine g_cmp_ge 68 98 (gd rfl) rfl rfl (fun c65 => ?_) (fun c65 => ?_)
              · skip
                have i65 := r_le2 32 32 c65 (in_c 32 rfl) i60 rfl
                refine g_iload 100 (gd rfl) rfl rfl ?_
                refine g_iload 102 (gd rfl) rfl rfl ?_
                refine g_iconst 1 103 (gd rfl) rfl rfl ?_
                refine g_isub 104 (gd rfl) rfl (fun z103 e103 => ?_)
                refine g_iand 105 (gd rfl) rfl (fun z104 e104 => ?_)
                refine g_istore 107 (gd rfl) rfl (Nat.le_of_ble_eq_true rfl) ?_
                refine g_goto 27 (gd rfl) rfl ?_
                exact gg_w (by omega) (gg_f (gf_cons rfl (gf_cons rfl (gf_cons rfl (gf_cons rfl (gf_cons rfl (gf_cons rfl (gf_cons rfl gf_nil))))))) (ih27 sc27 y27_3 y27_4 z104 hIc27 hFc27 (in_w 0 32 j27_5 rfl) (mb e104 e103 c29 mm27)))
              · skip
                have i65 := r_lt1 0 31 c65 i60 (in_c 32 rfl) rfl
                refine g_aload_n 69 (gd rfl) rfl rfl ?_
                refine g_getA (q2 := 63) 72 (gd rfl) rfl rfl rfl rfl ?_
                refine g_aload_n 73 (gd rfl) rfl rfl ?_
                refine g_getI 76 (gd rfl) rfl rfl rfl (fun z73 e73 => ?_)
                have q73 : z60 = z73 := (e60).trans e73.symm
                subst q73
                refine g_iload 78 (gd rfl) rfl rfl ?_
                refine g_iastore 79 (gd rfl) rfl (n := 32) rfl (in_ix i65 rfl) ?_
                have hI78 := inv_sI (q := 63) (j := z60.toNatClampNeg) hIc27 rfl (in_w 0 31 i34 rfl)
                refine g_aload_n 80 (gd rfl) rfl rfl ?_
                refine g_dup 81 (gd rfl) rfl rfl ?_
                refine g_getI 84 (gd rfl) rfl rfl rfl (fun z81 e81 => ?_)
                have q81 : z60 = z81 := (sI_F (e60)).trans e81.symm
                subst q81
                refine g_iconst 1 85 (gd rfl) rfl rfl ?_
                refine g_iadd 86 (gd rfl) rfl (fun z85 e85 => ?_)
                have i85 := in_add 1 32 e85 i65 (in_c 1 rfl) rfl rfl
                refine g_putI 89 (gd rfl) rfl rfl rfl rfl ?_
                have hI86 := inv_sF (q := 60) (j := 7) hI78 rfl (in_w 0 32 i85 rfl)
                refine g_iload_n 90 (gd rfl) rfl rfl ?_
                refine g_iconst 1 91 (gd rfl) rfl rfl ?_
                refine g_iload 93 (gd rfl) rfl rfl ?_
                refine g_ishl 94 (gd rfl) rfl (fun z93 e93 => ?_)
                refine g_iconst (-1) 95 (gd rfl) rfl rfl ?_
                refine g_ixor 96 (gd rfl) rfl (fun z95 e95 => ?_)
                refine g_iand 97 (gd rfl) rfl (fun z96 e96 => ?_)
                refine g_istore_n 98 (gd rfl) rfl (Nat.le_of_ble_eq_true rfl) ?_
                refine g_iload 100 (gd rfl) rfl rfl ?_
                refine g_iload 102 (gd rfl) rfl rfl ?_
                refine g_iconst 1 103 (gd rfl) rfl rfl ?_
                refine g_isub 104 (gd rfl) rfl (fun z103 e103 => ?_)
                refine g_iand 105 (gd rfl) rfl (fun z104 e104 => ?_)
                refine g_istore 107 (gd rfl) rfl (Nat.le_of_ble_eq_true rfl) ?_
                refine g_goto 27 (gd rfl) rfl ?_
                exact gg_w (by omega) (gg_f (gf_cons rfl (gf_cons rfl (gf_cons rfl (gf_cons rfl (gf_cons rfl (gf_cons rfl (gf_cons rfl gf_nil))))))) (ih27 (sF (sI sc27 63 z60.toNatClampNeg z34) 60 7 z85) z96 y27_4 z104 hI86 (fr_sF rfl (fr_sI rfl hFc27)) (in_w 0 32 j27_5 rfl) (mb e104 e103 c29 mm27)))
      refine g_iload 10 (gd rfl) rfl rfl ?_
      refine g_bipush 32 12 (gd rfl) rfl rfl ?_
      refine g_cmp_gt 15 116 (gd rfl) rfl rfl (fun c12 => ?_) (fun c12 => ?_)
      · skip
        have i12 := r_lt2 33 33 c12 (in_c 32 rfl) j8_5 rfl
        refine g_iload_n 117 (gd rfl) rfl rfl ?_
        exact g_ireturn (gd rfl) rfl rfl (hP _ _ ⟨sc8, hIc8, hFc8, y8_3, rfl, rfl, in_w (-2147483648) 2147483647 (i_rng y8_3) rfl⟩)
      · skip
        have i12 := r_le1 0 32 c12 j8_5 (in_c 32 rfl) rfl
        refine g_iload_n 16 (gd rfl) rfl rfl ?_
        refine g_iload 18 (gd rfl) rfl rfl ?_
        refine g_cmp_eq 21 116 (gd rfl) rfl rfl (fun c18 => ?_) (fun c18 => ?_)
        · skip
          refine g_iload_n 117 (gd rfl) rfl rfl ?_
          exact g_ireturn (gd rfl) rfl rfl (hP _ _ ⟨sc8, hIc8, hFc8, y8_3, rfl, rfl, in_w (-2147483648) 2147483647 (i_rng y8_3) rfl⟩)
        · skip
          refine g_iload_n 22 (gd rfl) rfl rfl ?_
          refine g_istore 24 (gd rfl) rfl (Nat.le_of_ble_eq_true rfl) ?_
          refine g_iload_n 25 (gd rfl) rfl rfl ?_
          refine g_istore 27 (gd rfl) rfl (Nat.le_of_ble_eq_true rfl) ?_
          exact gg_w (by omega) (gg_f (gf_cons rfl (gf_cons rfl (gf_cons rfl (gf_cons rfl (gf_cons rfl (gf_cons rfl (gf_cons rfl gf_nil))))))) (ct27 4294967296 sc8 y8_3 y8_3 y8_3 hIc8 hFc8 (in_w 0 32 i12 rfl) (mb_in _)))
  refine g_enter2 (k := 49) (N := 131425999350335) (by omega) rfl (Nat.le_of_ble_eq_true rfl) ?_
  refine g_iload_n 1 (gd rfl) rfl rfl ?_
  refine g_istore_n 2 (gd rfl) rfl (Nat.le_of_ble_eq_true rfl) ?_
  refine g_iconst 0 3 (gd rfl) rfl rfl ?_
  refine g_istore 5 (gd rfl) rfl (Nat.le_of_ble_eq_true rfl) ?_
  refine g_iconst 0 6 (gd rfl) rfl rfl ?_
  refine g_istore 8 (gd rfl) rfl (Nat.le_of_ble_eq_true rfl) ?_
  exact gg_w (by omega) (gg_f (gf_cons rfl (gf_cons rfl (gf_cons rfl (gf_cons rfl (gf_cons rfl (gf_cons rfl gf_nil)))))) (ct8 34 s x2 (Int32.ofInt 0) (Int32.ofInt 0) hI fr_rf (in_w 0 33 (in_c 0 rfl) rfl) (m_in 34 (in_w 0 33 (in_c 0 rfl) rfl) rfl)))

def fm_64_102_2 : FM := ([], [105, 106, 107], [], [])
/-- GraphHouse$Engine.doRound -/
theorem k_64_102_2 {Z : AmZ} {A : Nat → Nat} {s : GS} {ex : va_W} {d : Nat} {X : AmX} {x2 : Int32} {u_2_4 : Int32} {u_2_0 : Int32} (hd : 6 ≤ d) (hI : Inv s) (h2 : In x2 0 200) (e_2_4 : u_2_4 = s.2.2.1 2 4) (e_2_0 : u_2_0 = s.2.2.1 2 0) (p_0 : (u_2_4).toInt = (u_2_0).toInt) : GC Z d 64 [.ref (A 102), .ref (A 2), .int x2] (WW Z A s ++ ex) 0 0 (fun v u => ∃ t : GS, Inv t ∧ Fr fm_64_102_2 s t ∧ ∃ z : Int32, v = some (.int z) ∧ u = WW Z A t ++ ex ∧ In z 0 1) X := by
  intro post xp hP hX
  obtain ⟨u_2_1, e_2_1⟩ : ∃ w, w = s.2.2.1 2 1 := ⟨_, rfl⟩
  have ro_2_1 := inv_F hI 0 32 rfl e_2_1
  obtain ⟨u_102_1, e_102_1⟩ : ∃ w, w = s.2.2.1 102 1 := ⟨_, rfl⟩
  have ro_102_1 := inv_F hI 0 120 rfl e_102_1
  obtain ⟨u_102_2, e_102_2⟩ : ∃ w, w = s.2.2.1 102 2 := ⟨_, rfl⟩
  have ro_102_2 := inv_F hI 0 120 rfl e_102_2
  have ro_2_4 := inv_F hI (-1) 4000 rfl e_2_4
  have ro_2_0 := inv_F hI 0 4000 rfl e_2_0
  have ct5 : ∀ (k5 : Nat) (sc5 : GS) (y5_3 : Int32) (y5_4 : Int32), Inv sc5 → Fr fm_64_102_2 s sc5 → (In y5_3 0 1) → (In y5_4 0 32) → 32 - (y5_4).toInt < (k5 : Int) → GG Z (d - 1) 64 post (gx xp) (1 + k5 * 900) 5 (fun j => xlook j [(0, .ref (A 102)), (1, .ref (A 2)), (2, .int x2), (3, .int y5_3), (4, .int y5_4)]) [] (WW Z A sc5 ++ ex) 0 0 := by
    intro k5
    induction k5 with
    | zero => intro sc5 y5_3 y5_4 hIc5 hFc5 j5_3 j5_4 mm5; exact m_no mm5 j5_4 rfl
    | succ k5 ih5 =>
      intro sc5 y5_3 y5_4 hIc5 hFc5 j5_3 j5_4 mm5
      refine gg_w (M := 1 + k5 * 900 + 900) (by omega) ?_
      refine g_iload 7 (gd rfl) rfl rfl ?_
      refine g_aload_n 8 (gd rfl) rfl rfl ?_
      refine g_getI 11 (gd rfl) rfl rfl rfl (fun z8 e8 => ?_)
      have q8 : u_2_1 = z8 := (fr_F e_2_1 hFc5 rfl).trans e8.symm
      subst q8
      refine g_cmp_ge 14 89 (gd rfl) rfl rfl (fun c11 => ?_) (fun c11 => ?_)
      · skip
        refine g_iload_n 90 (gd rfl) rfl rfl ?_
        exact g_ireturn (gd rfl) rfl (nb01 (in_w 0 1 j5_3 rfl)) (hP _ _ ⟨sc5, hIc5, hFc5, y5_3, rfl, rfl, in_w 0 1 j5_3 rfl⟩)
      · skip
        have i11 := r_lt1 0 31 c11 j5_4 ro_2_1 rfl
        have i11a := r_lt2 1 32 c11 j5_4 ro_2_1 rfl
        refine g_aload_n 15 (gd rfl) rfl rfl ?_
        refine g_aload_n 16 (gd rfl) rfl rfl ?_
        refine g_iload 18 (gd rfl) rfl rfl ?_
        refine g_iload_n 19 (gd rfl) rfl rfl ?_
        have v19 : u_2_4 = sc5.2.2.1 2 4 := fr_F e_2_4 hFc5 rfl
        have v19a : u_2_0 = sc5.2.2.1 2 0 := fr_F e_2_0 hFc5 rfl
        have n19 : (u_2_4).toInt = (u_2_0).toInt := by have a0 := h2; unfold In at a0; have a1 := ro_2_0; unfold In at a1; have a2 := ro_2_4; unfold In at a2; have a3 := ro_102_2; unfold In at a3; have a4 := ro_102_1; unfold In at a4; have a5 := i11a; unfold In at a5; have a6 := i11; unfold In at a6; have a7 := j5_3; unfold In at a7; omega
        refine g_callv (X := _) (As := [.ref (A 2), .int y5_4, .int x2]) (r := []) (b := A 102) (q := 102) 22 (gd rfl) rfl rfl rfl rfl rfl (ww_o rfl) (Nat.le_of_ble_eq_true rfl) (Nat.zero_le _) (Nat.zero_le _) (k_65_102_2 (by omega) hIc5 (in_w 0 31 i11 rfl) (in_w 0 200 h2 rfl) v19 v19a n19) (fun e u h => h) (fun v u h => ?_)
        obtain ⟨s19, hI19, hF19, rfl, rfl⟩ := h
        show GG _ _ _ _ _ _ _ _ [] _ _ _
        refine g_aload_n 23 (gd rfl) rfl rfl ?_
        refine g_getA (q2 := 107) 26 (gd rfl) rfl rfl rfl rfl ?_
        refine g_iload 28 (gd rfl) rfl rfl ?_
        refine g_iload_n 29 (gd rfl) rfl rfl ?_
        refine g_if_ne 32 44 (gd rfl) rfl rfl (fun c29 => ?_) (fun c29 => ?_)
        · skip
          have i29 := z_ne 1 200 c29 h2 rfl
          refine g_aload_n 45 (gd rfl) rfl rfl ?_
          refine g_aload_n 46 (gd rfl) rfl rfl ?_
          refine g_getI 49 (gd rfl) rfl rfl rfl (fun z46 e46 => ?_)
          have q46 : u_102_1 = z46 := (fr_F (fr_F e_102_1 hFc5 rfl) hF19 rfl).trans e46.symm
          subst q46
          refine g_aload_n 50 (gd rfl) rfl rfl ?_
          refine g_getI 53 (gd rfl) rfl rfl rfl (fun z50 e50 => ?_)
          have q50 : u_102_2 = z50 := (fr_F (fr_F e_102_2 hFc5 rfl) hF19 rfl).trans e50.symm
          subst q50
          have p53 : (ht (fun i => hc (s19.1 103 i)) (u_102_1).toNatClampNeg ((u_102_2).toNatClampNeg - (u_102_1).toNatClampNeg)).isSome = true := by exact kc_2 hI19 (show u_102_1 = s19.2.2.1 102 1 from fr_F (fr_F e_102_1 hFc5 rfl) hF19 rfl) (show u_102_2 = s19.2.2.1 102 2 from fr_F (fr_F e_102_2 hFc5 rfl) hF19 rfl)
          refine g_callv (X := _) (As := [.int u_102_1, .int u_102_2]) (r := [.int y5_4, .ref (A 107)]) (b := A 102) (q := 102) 56 (gd rfl) rfl rfl rfl rfl rfl (ww_o rfl) (Nat.le_of_ble_eq_true rfl) (Nat.zero_le _) (Nat.zero_le _) (k_66_102 (by omega) hI19 (in_w 0 120 ro_102_1 rfl) (in_w 0 120 ro_102_2 rfl) p53) (fun e u h => h) (fun v u h => ?_)
          obtain ⟨s53, hI53, hF53, z53, rfl, rfl⟩ := h
          show GG _ _ _ _ _ _ _ _ [.long z53, .int y5_4, .ref (A 107)] _ _ _
          refine g_lastore 57 (gd rfl) rfl (n := 32) rfl (in_ix i11 rfl) ?_
          have hI56 := inv_sL (q := 107) (j := y5_4.toNatClampNeg) (x := z53) hI53 rfl (l_rng z53)
          refine g_iload_n 58 (gd rfl) rfl rfl ?_
          refine g_aload_n 59 (gd rfl) rfl rfl ?_
          refine g_getA (q2 := 107) 62 (gd rfl) rfl rfl rfl rfl ?_
          refine g_iload 64 (gd rfl) rfl rfl ?_
          refine g_laload 65 (gd rfl) rfl (n := 32) rfl (in_ix i11 rfl) (fun z64 e64 => ?_)
          refine g_aload_n 66 (gd rfl) rfl rfl ?_
          refine g_getA (q2 := 108) 69 (gd rfl) rfl rfl rfl rfl ?_
          refine g_iload 71 (gd rfl) rfl rfl ?_
          refine g_laload 72 (gd rfl) rfl (n := 32) rfl (in_ix i11 rfl) (fun z71 e71 => ?_)
          refine g_lcmp 73 (gd rfl) rfl (fun z72 e72 => ?_)
          have i72 := lc_in e72
          refine g_if_eq 76 80 (gd rfl) rfl rfl (fun c73 => ?_) (fun c73 => ?_)
          · skip
            have i73 := z_eq 0 0 c73 i72 rfl
            have c73a := lc_eq e72 c73
            refine g_iconst 0 81 (gd rfl) rfl rfl ?_
            refine g_ior 82 (gd rfl) rfl (fun z81 e81 => ?_)
            have i81 := in_or 1 e81 (in_w 0 1 j5_3 rfl) (in_w 0 1 (in_c 0 rfl) rfl) rfl
            refine g_istore_n 83 (gd rfl) rfl (Nat.le_of_ble_eq_true rfl) ?_
            refine g_iinc 86 (gd rfl) rfl rfl (Nat.le_of_ble_eq_true rfl) (fun z83 e83 => ?_)
            have i83 := in_add 1 32 e83 i11 (in_c 1 rfl) rfl rfl
            refine g_goto 5 (gd rfl) rfl ?_
            exact gg_w (by omega) (gg_f (gf_cons rfl (gf_cons rfl (gf_cons rfl (gf_cons rfl (gf_cons rfl gf_nil))))) (ih5 (sL s53 107 y5_4.toNatClampNeg z53) z81 z83 hI56 (fr_sL rfl (fr_tr rfl (fr_tr rfl hFc5 hF19) hF53)) (in_w 0 1 i81 rfl) (in_w 0 32 i83 rfl) (m_up mm5 (t_add e83 i11 (in_c 1 rfl) rfl) (in_w 1 1 (in_c 1 rfl) rfl))))
          · skip
            have c73a := lc_ne e72 c73
            refine g_iconst 1 77 (gd rfl) rfl rfl ?_
            refine g_goto 81 (gd rfl) rfl ?_
            refine g_ior 82 (gd rfl) rfl (fun z81 e81 => ?_)
            have i81 := in_or 1 e81 (in_w 0 1 j5_3 rfl) (in_w 0 1 (in_c 1 rfl) rfl) rfl
            refine g_istore_n 83 (gd rfl) rfl (Nat.le_of_ble_eq_true rfl) ?_
            refine g_iinc 86 (gd rfl) rfl rfl (Nat.le_of_ble_eq_true rfl) (fun z83 e83 => ?_)
            have i83 := in_add 1 32 e83 i11 (in_c 1 rfl) rfl rfl
            refine g_goto 5 (gd rfl) rfl ?_
            exact gg_w (by omega) (gg_f (gf_cons rfl (gf_cons rfl (gf_cons rfl (gf_cons rfl (gf_cons rfl gf_nil))))) (ih5 (sL s53 107 y5_4.toNatClampNeg z53) z81 z83 hI56 (fr_sL rfl (fr_tr rfl (fr_tr rfl hFc5 hF19) hF53)) (in_w 0 1 i81 rfl) (in_w 0 32 i83 rfl) (m_up mm5 (t_add e83 i11 (in_c 1 rfl) rfl) (in_w 1 1 (in_c 1 rfl) rfl))))
        · skip
          have i29 := z_eq 0 0 c29 h2 rfl
          refine g_aload_n 33 (gd rfl) rfl rfl ?_
          refine g_iconst 0 34 (gd rfl) rfl rfl ?_
          refine g_aload_n 35 (gd rfl) rfl rfl ?_
          refine g_getI 38 (gd rfl) rfl rfl rfl (fun z35 e35 => ?_)
          have q35 : u_102_1 = z35 := (fr_F (fr_F e_102_1 hFc5 rfl) hF19 rfl).trans e35.symm
          subst q35
          have p38 : (ht (fun i => hc (s19.1 103 i)) ((Int32.ofInt 0)).toNatClampNeg ((u_102_1).toNatClampNeg - ((Int32.ofInt 0)).toNatClampNeg)).isSome = true := by exact kc_1 hI19 rfl (show u_102_1 = s19.2.2.1 102 1 from fr_F (fr_F e_102_1 hFc5 rfl) hF19 rfl)
          refine g_callv (X := _) (As := [.int (Int32.ofInt 0), .int u_102_1]) (r := [.int y5_4, .ref (A 107)]) (b := A 102) (q := 102) 41 (gd rfl) rfl rfl rfl rfl rfl (ww_o rfl) (Nat.le_of_ble_eq_true rfl) (Nat.zero_le _) (Nat.zero_le _) (k_66_102 (by omega) hI19 (in_w 0 120 (in_c 0 rfl) rfl) (in_w 0 120 ro_102_1 rfl) p38) (fun e u h => h) (fun v u h => ?_)
          obtain ⟨s38, hI38, hF38, z38, rfl, rfl⟩ := h
          show GG _ _ _ _ _ _ _ _ [.long z38, .int y5_4, .ref (A 107)] _ _ _
          refine g_goto 56 (gd rfl) rfl ?_
          refine g_lastore 57 (gd rfl) rfl (n := 32) rfl (in_ix i11 rfl) ?_
          have hI56 := inv_sL (q := 107) (j := y5_4.toNatClampNeg) (x := z38) hI38 rfl (l_rng z38)
          refine g_iload_n 58 (gd rfl) rfl rfl ?_
          refine g_aload_n 59 (gd rfl) rfl rfl ?_
          refine g_getA (q2 := 107) 62 (gd rfl) rfl rfl rfl rfl ?_
          refine g_iload 64 (gd rfl) rfl rfl ?_
          refine g_laload 65 (gd rfl) rfl (n := 32) rfl (in_ix i11 rfl) (fun z64 e64 => ?_)
          refine g_aload_n 66 (gd rfl) rfl rfl ?_
          refine g_getA (q2 := 108) 69 (gd rfl) rfl rfl rfl rfl ?_
          refine g_iload 71 (gd rfl) rfl rfl ?_
          refine g_laload 72 (gd rfl) rfl (n := 32) rfl (in_ix i11 rfl) (fun z71 e71 => ?_)
          refine g_lcmp 73 (gd rfl) rfl (fun z72 e72 => ?_)
          have i72 := lc_in e72
          refine g_if_eq 76 80 (gd rfl) rfl rfl (fun c73 => ?_) (fun c73 => ?_)
          · skip
            have i73 := z_eq 0 0 c73 i72 rfl
            have c73a := lc_eq e72 c73
            refine g_iconst 0 81 (gd rfl) rfl rfl ?_
            refine g_ior 82 (gd rfl) rfl (fun z81 e81 => ?_)
            have i81 := in_or 1 e81 (in_w 0 1 j5_3 rfl) (in_w 0 1 (in_c 0 rfl) rfl) rfl
            refine g_istore_n 83 (gd rfl) rfl (Nat.le_of_ble_eq_true rfl) ?_
            refine g_iinc 86 (gd rfl) rfl rfl (Nat.le_of_ble_eq_true rfl) (fun z83 e83 => ?_)
            have i83 := in_add 1 32 e83 i11 (in_c 1 rfl) rfl rfl
            refine g_goto 5 (gd rfl) rfl ?_
            exact gg_w (by omega) (gg_f (gf_cons rfl (gf_cons rfl (gf_cons rfl (gf_cons rfl (gf_cons rfl gf_nil))))) (ih5 (sL s38 107 y5_4.toNatClampNeg z38) z81 z83 hI56 (fr_sL rfl (fr_tr rfl (fr_tr rfl hFc5 hF19) hF38)) (in_w 0 1 i81 rfl) (in_w 0 32 i83 rfl) (m_up mm5 (t_add e83 i11 (in_c 1 rfl) rfl) (in_w 1 1 (in_c 1 rfl) rfl))))
          · skip
            have c73a := lc_ne e72 c73
            refine g_iconst 1 77 (gd rfl) rfl rfl ?_
            refine g_goto 81 (gd rfl) rfl ?_
            refine g_ior 82 (gd rfl) rfl (fun z81 e81 => ?_)
            have i81 := in_or 1 e81 (in_w 0 1 j5_3 rfl) (in_w 0 1 (in_c 1 rfl) rfl) rfl
            refine g_istore_n 83 (gd rfl) rfl (Nat.le_of_ble_eq_true rfl) ?_
            refine g_iinc 86 (gd rfl) rfl rfl (Nat.le_of_ble_eq_true rfl) (fun z83 e83 => ?_)
            have i83 := in_add 1 32 e83 i11 (in_c 1 rfl) rfl rfl
            refine g_goto 5 (gd rfl) rfl ?_
            exact gg_w (by omega) (gg_f (gf_cons rfl (gf_cons rfl (gf_cons rfl (gf_cons rfl (gf_cons rfl gf_nil))))) (ih5 (sL s38 107 y5_4.toNatClampNeg z38) z81 z83 hI56 (fr_sL rfl (fr_tr rfl (fr_tr rfl hFc5 hF19) hF38)) (in_w 0 1 i81 rfl) (in_w 0 32 i83 rfl) (m_up mm5 (t_add e83 i11 (in_c 1 rfl) rfl) (in_w 1 1 (in_c 1 rfl) rfl))))
  refine g_enter2 (k := 64) (N := 30601) (by omega) rfl (Nat.le_of_ble_eq_true rfl) ?_
  refine g_iconst 0 1 (gd rfl) rfl rfl ?_
  refine g_istore_n 2 (gd rfl) rfl (Nat.le_of_ble_eq_true rfl) ?_
  refine g_iconst 0 3 (gd rfl) rfl rfl ?_
  refine g_istore 5 (gd rfl) rfl (Nat.le_of_ble_eq_true rfl) ?_
  exact gg_w (by omega) (gg_f (gf_cons rfl (gf_cons rfl (gf_cons rfl (gf_cons rfl (gf_cons rfl gf_nil))))) (ct5 33 s (Int32.ofInt 0) (Int32.ofInt 0) hI fr_rf (in_w 0 1 (in_c 0 rfl) rfl) (in_w 0 32 (in_c 0 rfl) rfl) (m_in 33 (in_w 0 32 (in_c 0 rfl) rfl) rfl)))

def fm_64_102_32 : FM := ([], [105, 106, 107], [], [])
/-- GraphHouse$Engine.doRound -/
theorem k_64_102_32 {Z : AmZ} {A : Nat → Nat} {s : GS} {ex : va_W} {d : Nat} {X : AmX} {x2 : Int32} {u_32_4 : Int32} {u_32_0 : Int32} (hd : 6 ≤ d) (hI : Inv s) (h2 : In x2 0 200) (e_32_4 : u_32_4 = s.2.2.1 32 4) (e_32_0 : u_32_0 = s.2.2.1 32 0) (p_0 : (u_32_4).toInt = (u_32_0).toInt) : GC Z d 64 [.ref (A 102), .ref (A 32), .int x2] (WW Z A s ++ ex) 0 0 (fun v u => ∃ t : GS, Inv t ∧ Fr fm_64_102_32 s t ∧ ∃ z : Int32, v = some (.int z) ∧ u = WW Z A t ++ ex ∧ In z 0 1) X := by
  intro post xp hP hX
  obtain ⟨u_32_1, e_32_1⟩ : ∃ w, w = s.2.2.1 32 1 := ⟨_, rfl⟩
  have ro_32_1 := inv_F hI 0 32 rfl e_32_1
  obtain ⟨u_102_1, e_102_1⟩ : ∃ w, w = s.2.2.1 102 1 := ⟨_, rfl⟩
  have ro_102_1 := inv_F hI 0 120 rfl e_102_1
  obtain ⟨u_102_2, e_102_2⟩ : ∃ w, w = s.2.2.1 102 2 := ⟨_, rfl⟩
  have ro_102_2 := inv_F hI 0 120 rfl e_102_2
  have ro_32_4 := inv_F hI (-1) 4000 rfl e_32_4
  have ro_32_0 := inv_F hI 0 4000 rfl e_32_0
  have ct5 : ∀ (k5 : Nat) (sc5 : GS) (y5_3 : Int32) (y5_4 : Int32), Inv sc5 → Fr fm_64_102_32 s sc5 → (In y5_3 0 1) → (In y5_4 0 32) → 32 - (y5_4).toInt < (k5 : Int) → GG Z (d - 1) 64 post (gx xp) (1 + k5 * 900) 5 (fun j => xlook j [(0, .ref (A 102)), (1, .ref (A 32)), (2, .int x2), (3, .int y5_3), (4, .int y5_4)]) [] (WW Z A sc5 ++ ex) 0 0 := by
    intro k5
    induction k5 with
    | zero => intro sc5 y5_3 y5_4 hIc5 hFc5 j5_3 j5_4 mm5; exact m_no mm5 j5_4 rfl
    | succ k5 ih5 =>
      intro sc5 y5_3 y5_4 hIc5 hFc5 j5_3 j5_4 mm5
      refine gg_w (M := 1 + k5 * 900 + 900) (by omega) ?_
      refine g_iload 7 (gd rfl) rfl rfl ?_
      refine g_aload_n 8 (gd rfl) rfl rfl ?_
      refine g_getI 11 (gd rfl) rfl rfl rfl (fun z8 e8 => ?_)
      have q8 : u_32_1 = z8 := (fr_F e_32_1 hFc5 rfl).trans e8.symm
      subst q8
      refine g_cmp_ge 14 89 (gd rfl) rfl rfl (fun c11 => ?_) (fun c11 => ?_)
      · skip
        refine g_iload_n 90 (gd rfl) rfl rfl ?_
        exact g_ireturn (gd rfl) rfl (nb01 (in_w 0 1 j5_3 rfl)) (hP _ _ ⟨sc5, hIc5, hFc5, y5_3, rfl, rfl, in_w 0 1 j5_3 rfl⟩)
      · skip
        have i11 := r_lt1 0 31 c11 j5_4 ro_32_1 rfl
        have i11a := r_lt2 1 32 c11 j5_4 ro_32_1 rfl
        refine g_aload_n 15 (gd rfl) rfl rfl ?_
        refine g_aload_n 16 (gd rfl) rfl rfl ?_
        refine g_iload 18 (gd rfl) rfl rfl ?_
        refine g_iload_n 19 (gd rfl) rfl rfl ?_
        have v19 : u_32_4 = sc5.2.2.1 32 4 := fr_F e_32_4 hFc5 rfl
        have v19a : u_32_0 = sc5.2.2.1 32 0 := fr_F e_32_0 hFc5 rfl
        have n19 : (u_32_4).toInt = (u_32_0).toInt := by have a0 := h2; unfold In at a0; have a1 := ro_32_0; unfold In at a1; have a2 := ro_32_4; unfold In at a2; have a3 := ro_102_2; unfold In at a3; have a4 := ro_102_1; unfold In at a4; have a5 := i11a; unfold In at a5; have a6 := i11; unfold In at a6; have a7 := j5_3; unfold In at a7; omega
        refine g_callv (X := _) (As := [.ref (A 32), .int y5_4, .int x2]) (r := []) (b := A 102) (q := 102) 22 (gd rfl) rfl rfl rfl rfl rfl (ww_o rfl) (Nat.le_of_ble_eq_true rfl) (Nat.zero_le _) (Nat.zero_le _) (k_65_102_32 (by omega) hIc5 (in_w 0 31 i11 rfl) (in_w 0 200 h2 rfl) v19 v19a n19) (fun e u h => h) (fun v u h => ?_)
        obtain ⟨s19, hI19, hF19, rfl, rfl⟩ := h
        show GG _ _ _ _ _ _ _ _ [] _ _ _
        refine g_aload_n 23 (gd rfl) rfl rfl ?_
        refine g_getA (q2 := 107) 26 (gd rfl) rfl rfl rfl rfl ?_
        refine g_iload 28 (gd rfl) rfl rfl ?_
        refine g_iload_n 29 (gd rfl) rfl rfl ?_
        refine g_if_ne 32 44 (gd rfl) rfl rfl (fun c29 => ?_) (fun c29 => ?_)
        · skip
          have i29 := z_ne 1 200 c29 h2 rfl
          refine g_aload_n 45 (gd rfl) rfl rfl ?_
          refine g_aload_n 46 (gd rfl) rfl rfl ?_
          refine g_getI 49 (gd rfl) rfl rfl rfl (fun z46 e46 => ?_)
          have q46 : u_102_1 = z46 := (fr_F (fr_F e_102_1 hFc5 rfl) hF19 rfl).trans e46.symm
          subst q46
          refine g_aload_n 50 (gd rfl) rfl rfl ?_
          refine g_getI 53 (gd rfl) rfl rfl rfl (fun z50 e50 => ?_)
          have q50 : u_102_2 = z50 := (fr_F (fr_F e_102_2 hFc5 rfl) hF19 rfl).trans e50.symm
          subst q50
          have p53 : (ht (fun i => hc (s19.1 103 i)) (u_102_1).toNatClampNeg ((u_102_2).toNatClampNeg - (u_102_1).toNatClampNeg)).isSome = true := by exact kc_2 hI19 (show u_102_1 = s19.2.2.1 102 1 from fr_F (fr_F e_102_1 hFc5 rfl) hF19 rfl) (show u_102_2 = s19.2.2.1 102 2 from fr_F (fr_F e_102_2 hFc5 rfl) hF19 rfl)
          refine g_callv (X := _) (As := [.int u_102_1, .int u_102_2]) (r := [.int y5_4, .ref (A 107)]) (b := A 102) (q := 102) 56 (gd rfl) rfl rfl rfl rfl rfl (ww_o rfl) (Nat.le_of_ble_eq_true rfl) (Nat.zero_le _) (Nat.zero_le _) (k_66_102 (by omega) hI19 (in_w 0 120 ro_102_1 rfl) (in_w 0 120 ro_102_2 rfl) p53) (fun e u h => h) (fun v u h => ?_)
          obtain ⟨s53, hI53, hF53, z53, rfl, rfl⟩ := h
          show GG _ _ _ _ _ _ _ _ [.long z53, .int y5_4, .ref (A 107)] _ _ _
          refine g_lastore 57 (gd rfl) rfl (n := 32) rfl (in_ix i11 rfl) ?_
          have hI56 := inv_sL (q := 107) (j := y5_4.toNatClampNeg) (x := z53) hI53 rfl (l_rng z53)
          refine g_iload_n 58 (gd rfl) rfl rfl ?_
          refine g_aload_n 59 (gd rfl) rfl rfl ?_
          refine g_getA (q2 := 107) 62 (gd rfl) rfl rfl rfl rfl ?_
          refine g_iload 64 (gd rfl) rfl rfl ?_
          refine g_laload 65 (gd rfl) rfl (n := 32) rfl (in_ix i11 rfl) (fun z64 e64 => ?_)
          refine g_aload_n 66 (gd rfl) rfl rfl ?_
          refine g_getA (q2 := 108) 69 (gd rfl) rfl rfl rfl rfl ?_
          refine g_iload 71 (gd rfl) rfl rfl ?_
          refine g_laload 72 (gd rfl) rfl (n := 32) rfl (in_ix i11 rfl) (fun z71 e71 => ?_)
          refine g_lcmp 73 (gd rfl) rfl (fun z72 e72 => ?_)
          have i72 := lc_in e72
          refine g_if_eq 76 80 (gd rfl) rfl rfl (fun c73 => ?_) (fun c73 => ?_)
          · skip
            have i73 := z_eq 0 0 c73 i72 rfl
            have c73a := lc_eq e72 c73
            refine g_iconst 0 81 (gd rfl) rfl rfl ?_
            refine g_ior 82 (gd rfl) rfl (fun z81 e81 => ?_)
            have i81 := in_or 1 e81 (in_w 0 1 j5_3 rfl) (in_w 0 1 (in_c 0 rfl) rfl) rfl
            refine g_istore_n 83 (gd rfl) rfl (Nat.le_of_ble_eq_true rfl) ?_
            refine g_iinc 86 (gd rfl) rfl rfl (Nat.le_of_ble_eq_true rfl) (fun z83 e83 => ?_)
            have i83 := in_add 1 32 e83 i11 (in_c 1 rfl) rfl rfl
            refine g_goto 5 (gd rfl) rfl ?_
            exact gg_w (by omega) (gg_f (gf_cons rfl (gf_cons rfl (gf_cons rfl (gf_cons rfl (gf_cons rfl gf_nil))))) (ih5 (sL s53 107 y5_4.toNatClampNeg z53) z81 z83 hI56 (fr_sL rfl (fr_tr rfl (fr_tr rfl hFc5 hF19) hF53)) (in_w 0 1 i81 rfl) (in_w 0 32 i83 rfl) (m_up mm5 (t_add e83 i11 (in_c 1 rfl) rfl) (in_w 1 1 (in_c 1 rfl) rfl))))
          · skip
            have c73a := lc_ne e72 c73
            refine g_iconst 1 77 (gd rfl) rfl rfl ?_
            refine g_goto 81 (gd rfl) rfl ?_
            refine g_ior 82 (gd rfl) rfl (fun z81 e81 => ?_)
            have i81 := in_or 1 e81 (in_w 0 1 j5_3 rfl) (in_w 0 1 (in_c 1 rfl) rfl) rfl
            refine g_istore_n 83 (gd rfl) rfl (Nat.le_of_ble_eq_true rfl) ?_
            refine g_iinc 86 (gd rfl) rfl rfl (Nat.le_of_ble_eq_true rfl) (fun z83 e83 => ?_)
            have i83 := in_add 1 32 e83 i11 (in_c 1 rfl) rfl rfl
            refine g_goto 5 (gd rfl) rfl ?_
            exact gg_w (by omega) (gg_f (gf_cons rfl (gf_cons rfl (gf_cons rfl (gf_cons rfl (gf_cons rfl gf_nil))))) (ih5 (sL s53 107 y5_4.toNatClampNeg z53) z81 z83 hI56 (fr_sL rfl (fr_tr rfl (fr_tr rfl hFc5 hF19) hF53)) (in_w 0 1 i81 rfl) (in_w 0 32 i83 rfl) (m_up mm5 (t_add e83 i11 (in_c 1 rfl) rfl) (in_w 1 1 (in_c 1 rfl) rfl))))
        · skip
          have i29 := z_eq 0 0 c29 h2 rfl
          refine g_aload_n 33 (gd rfl) rfl rfl ?_
          refine g_iconst 0 34 (gd rfl) rfl rfl ?_
          refine g_aload_n 35 (gd rfl) rfl rfl ?_
          refine g_getI 38 (gd rfl) rfl rfl rfl (fun z35 e35 => ?_)
          have q35 : u_102_1 = z35 := (fr_F (fr_F e_102_1 hFc5 rfl) hF19 rfl).trans e35.symm
          subst q35
          have p38 : (ht (fun i => hc (s19.1 103 i)) ((Int32.ofInt 0)).toNatClampNeg ((u_102_1).toNatClampNeg - ((Int32.ofInt 0)).toNatClampNeg)).isSome = true := by exact kc_1 hI19 rfl (show u_102_1 = s19.2.2.1 102 1 from fr_F (fr_F e_102_1 hFc5 rfl) hF19 rfl)
          refine g_callv (X := _) (As := [.int (Int32.ofInt 0), .int u_102_1]) (r := [.int y5_4, .ref (A 107)]) (b := A 102) (q := 102) 41 (gd rfl) rfl rfl rfl rfl rfl (ww_o rfl) (Nat.le_of_ble_eq_true rfl) (Nat.zero_le _) (Nat.zero_le _) (k_66_102 (by omega) hI19 (in_w 0 120 (in_c 0 rfl) rfl) (in_w 0 120 ro_102_1 rfl) p38) (fun e u h => h) (fun v u h => ?_)
          obtain ⟨s38, hI38, hF38, z38, rfl, rfl⟩ := h
          show GG _ _ _ _ _ _ _ _ [.long z38, .int y5_4, .ref (A 107)] _ _ _
          refine g_goto 56 (gd rfl) rfl ?_
          refine g_lastore 57 (gd rfl) rfl (n := 32) rfl (in_ix i11 rfl) ?_
          have hI56 := inv_sL (q := 107) (j := y5_4.toNatClampNeg) (x := z38) hI38 rfl (l_rng z38)
          refine g_iload_n 58 (gd rfl) rfl rfl ?_
          refine g_aload_n 59 (gd rfl) rfl rfl ?_
          refine g_getA (q2 := 107) 62 (gd rfl) rfl rfl rfl rfl ?_
          refine g_iload 64 (gd rfl) rfl rfl ?_
          refine g_laload 65 (gd rfl) rfl (n := 32) rfl (in_ix i11 rfl) (fun z64 e64 => ?_)
          refine g_aload_n 66 (gd rfl) rfl rfl ?_
          refine g_getA (q2 := 108) 69 (gd rfl) rfl rfl rfl rfl ?_
          refine g_iload 71 (gd rfl) rfl rfl ?_
          refine g_laload 72 (gd rfl) rfl (n := 32) rfl (in_ix i11 rfl) (fun z71 e71 => ?_)
          refine g_lcmp 73 (gd rfl) rfl (fun z72 e72 => ?_)
          have i72 := lc_in e72
          refine g_if_eq 76 80 (gd rfl) rfl rfl (fun c73 => ?_) (fun c73 => ?_)
          · skip
            have i73 := z_eq 0 0 c73 i72 rfl
            have c73a := lc_eq e72 c73
            refine g_iconst 0 81 (gd rfl) rfl rfl ?_
            refine g_ior 82 (gd rfl) rfl (fun z81 e81 => ?_)
            have i81 := in_or 1 e81 (in_w 0 1 j5_3 rfl) (in_w 0 1 (in_c 0 rfl) rfl) rfl
            refine g_istore_n 83 (gd rfl) rfl (Nat.le_of_ble_eq_true rfl) ?_
            refine g_iinc 86 (gd rfl) rfl rfl (Nat.le_of_ble_eq_true rfl) (fun z83 e83 => ?_)
            have i83 := in_add 1 32 e83 i11 (in_c 1 rfl) rfl rfl
            refine g_goto 5 (gd rfl) rfl ?_
            exact gg_w (by omega) (gg_f (gf_cons rfl (gf_cons rfl (gf_cons rfl (gf_cons rfl (gf_cons rfl gf_nil))))) (ih5 (sL s38 107 y5_4.toNatClampNeg z38) z81 z83 hI56 (fr_sL rfl (fr_tr rfl (fr_tr rfl hFc5 hF19) hF38)) (in_w 0 1 i81 rfl) (in_w 0 32 i83 rfl) (m_up mm5 (t_add e83 i11 (in_c 1 rfl) rfl) (in_w 1 1 (in_c 1 rfl) rfl))))
          · skip
            have c73a := lc_ne e72 c73
            refine g_iconst 1 77 (gd rfl) rfl rfl ?_
            refine g_goto 81 (gd rfl) rfl ?_
            refine g_ior 82 (gd rfl) rfl (fun z81 e81 => ?_)
            have i81 := in_or 1 e81 (in_w 0 1 j5_3 rfl) (in_w 0 1 (in_c 1 rfl) rfl) rfl
            refine g_istore_n 83 (gd rfl) rfl (Nat.le_of_ble_eq_true rfl) ?_
            refine g_iinc 86 (gd rfl) rfl rfl (Nat.le_of_ble_eq_true rfl) (fun z83 e83 => ?_)
            have i83 := in_add 1 32 e83 i11 (in_c 1 rfl) rfl rfl
            refine g_goto 5 (gd rfl) rfl ?_
            exact gg_w (by omega) (gg_f (gf_cons rfl (gf_cons rfl (gf_cons rfl (gf_cons rfl (gf_cons rfl gf_nil))))) (ih5 (sL s38 107 y5_4.toNatClampNeg z38) z81 z83 hI56 (fr_sL rfl (fr_tr rfl (fr_tr rfl hFc5 hF19) hF38)) (in_w 0 1 i81 rfl) (in_w 0 32 i83 rfl) (m_up mm5 (t_add e83 i11 (in_c 1 rfl) rfl) (in_w 1 1 (in_c 1 rfl) rfl))))
  refine g_enter2 (k := 64) (N := 30601) (by omega) rfl (Nat.le_of_ble_eq_true rfl) ?_
  refine g_iconst 0 1 (gd rfl) rfl rfl ?_
  refine g_istore_n 2 (gd rfl) rfl (Nat.le_of_ble_eq_true rfl) ?_
  refine g_iconst 0 3 (gd rfl) rfl rfl ?_
  refine g_istore 5 (gd rfl) rfl (Nat.le_of_ble_eq_true rfl) ?_
  exact gg_w (by omega) (gg_f (gf_cons rfl (gf_cons rfl (gf_cons rfl (gf_cons rfl (gf_cons rfl gf_nil))))) (ct5 33 s (Int32.ofInt 0) (Int32.ofInt 0) hI fr_rf (in_w 0 1 (in_c 0 rfl) rfl) (in_w 0 32 (in_c 0 rfl) rfl) (m_in 33 (in_w 0 32 (in_c 0 rfl) rfl) rfl)))

def fm_70_102_2 : FM := ([], [], [(102, 10), (102, 11), (102, 12)], [])
/-- GraphHouse$Engine.post -/
theorem k_70_102_2 {Z : AmZ} {A : Nat → Nat} {s : GS} {ex : va_W} {d : Nat} {X : AmX} {x2 : Int32} {x3 : Int32} {x4 : Int32} {x5 : Int64} (hd : 5 ≤ d) (hI : Inv s) (h2 : In x2 0 200) (h3 : In x3 1 4) (h4 : In x4 0 90) : GC Z d 70 [.ref (A 102), .ref (A 2), .int x2, .int x3, .int x4, .long x5] (WW Z A s ++ ex) 0 0 (fun v u => ∃ t : GS, Inv t ∧ Fr fm_70_102_2 s t ∧ v = none ∧ u = WW Z A t ++ ex) X := by
  intro post xp hP hX
  have ct25 : ∀ (k25 : Nat) (sc25 : GS) (y25_7 : Int32) (y25_8 : Int32), Inv sc25 → Fr fm_70_102_2 s sc25 → (In y25_7 0 2016) → (In y25_8 0 400) → 400 - (y25_8).toInt < (k25 : Int) → GG Z (d - 1) 70 post (gx xp) (1 + k25 * 1932735285901) 25 (fun j => xlook j [(0, .ref (A 102)), (1, .ref (A 2)), (2, .int x2), (3, .int x3), (4, .int x4), (5, .long x5), (7, .int y25_7), (8, .int y25_8)]) [] (WW Z A sc25 ++ ex) 0 0 := by
    intro k25
    induction k25 with
    | zero => intro sc25 y25_7 y25_8 hIc25 hFc25 j25_7 j25_8 mm25; exact m_no mm25 j25_8 rfl
    | succ k25 ih25 =>
      intro sc25 y25_7 y25_8 hIc25 hFc25 j25_7 j25_8 mm25
      refine gg_w (M := 1 + k25 * 1932735285901 + 1932735285901) (by omega) ?_
      have ct38 : ∀ (k38 : Nat) (sc38 : GS) (y38_9 : Int32) (y38_10 : Int32), Inv sc38 → Fr fm_70_102_2 s sc38 → (In x2 1 200) → (In y25_8 0 200) → (In y38_9 0 2100) → (In y38_10 0 2147483647) → 2147483647 - (y38_10).toInt < (k38 : Int) → GG Z (d - 1) 70 post (gx xp) (1 + k25 * 1932735285901 + 1 + k38 * 900) 38 (fun j => xlook j [(0, .ref (A 102)), (1, .ref (A 2)), (2, .int x2), (3, .int x3), (4, .int x4), (5, .long x5), (7, .int y25_7), (8, .int y25_8), (9, .int y38_9), (10, .int y38_10)]) [] (WW Z A sc38 ++ ex) 0 0 := by
        intro k38
        induction k38 with
        | zero => intro sc38 y38_9 y38_10 hIc38 hFc38 j38_2 j38_8 j38_9 j38_10 mm38; exact m_no mm38 j38_10 rfl
        | succ k38 ih38 =>
          intro sc38 y38_9 y38_10 hIc38 hFc38 j38_2 j38_8 j38_9 j38_10 mm38
          refine gg_w (M := 1 + k25 * 1932735285901 + 1 + k38 * 900 + 900) (by omega) ?_
          refine g_iload 40 (gd rfl) rfl rfl ?_
          refine g_ldc 1000000 42 (gd rfl) rfl rfl ?_
          refine g_cmp_ge 45 78 (gd rfl) rfl rfl (fun c42 => ?_) (fun c42 => ?_)
          · skip
            have i42 := r_le2 1000000 2147483647 c42 (in_c 1000000 rfl) j38_10 rfl
            refine g_iinc 81 (gd rfl) rfl rfl (Nat.le_of_ble_eq_true rfl) (fun z78 e78 => ?_)
            have i78 := in_add 1 201 e78 j38_8 (in_c 1 rfl) rfl rfl
            refine g_goto 25 (gd rfl) rfl ?_
            exact gg_w (by omega) (gg_f (gf_cons rfl (gf_cons rfl (gf_cons rfl (gf_cons rfl (gf_cons rfl (gf_cons rfl (gf_cons rfl (gf_cons rfl gf_nil)))))))) (ih25 sc38 y25_7 z78 hIc38 hFc38 (in_w 0 2016 j25_7 rfl) (in_w 0 400 i78 rfl) (m_up mm25 (t_add e78 j38_8 (in_c 1 rfl) rfl) (in_w 1 1 (in_c 1 rfl) rfl))))
          · skip
            have i42 := r_lt1 0 999999 c42 j38_10 (in_c 1000000 rfl) rfl
            refine g_iload 47 (gd rfl) rfl rfl ?_
            refine g_if_le 50 78 (gd rfl) rfl rfl (fun c47 => ?_) (fun c47 => ?_)
            · skip
              have i47 := z_le 0 0 c47 j38_9 rfl
              refine g_iinc 81 (gd rfl) rfl rfl (Nat.le_of_ble_eq_true rfl) (fun z78 e78 => ?_)
              have i78 := in_add 1 201 e78 j38_8 (in_c 1 rfl) rfl rfl
              refine g_goto 25 (gd rfl) rfl ?_
              exact gg_w (by omega) (gg_f (gf_cons rfl (gf_cons rfl (gf_cons rfl (gf_cons rfl (gf_cons rfl (gf_cons rfl (gf_cons rfl (gf_cons rfl gf_nil)))))))) (ih25 sc38 y25_7 z78 hIc38 hFc38 (in_w 0 2016 j25_7 rfl) (in_w 0 400 i78 rfl) (m_up mm25 (t_add e78 j38_8 (in_c 1 rfl) rfl) (in_w 1 1 (in_c 1 rfl) rfl))))
            · skip
              have i47 := z_gt 1 2100 c47 j38_9 rfl
              refine g_aload_n 51 (gd rfl) rfl rfl ?_
              refine g_iload 53 (gd rfl) rfl rfl ?_
              refine g_iload 55 (gd rfl) rfl rfl ?_
              refine g_lload 57 (gd rfl) rfl rfl ?_
              refine g_callv (X := _) (As := [.int y38_9, .int x4, .long x5]) (r := []) (b := A 102) (q := 102) 60 (gd rfl) rfl rfl rfl rfl rfl (ww_o rfl) (Nat.le_of_ble_eq_true rfl) (Nat.zero_le _) (Nat.zero_le _) (k_72_102 (by omega) hIc38 (in_w 0 2100 i47 rfl) (in_w 0 90 h4 rfl)) (fun e u h => h) (fun v u h => ?_)
              obtain ⟨s57, hI57, hF57, z57, rfl, rfl, i57⟩ := h
              show GG _ _ _ _ _ _ _ _ [.int z57] _ _ _
              refine g_istore 62 (gd rfl) rfl (Nat.le_of_ble_eq_true rfl) ?_
              refine g_aload_n 63 (gd rfl) rfl rfl ?_
              refine g_dup 64 (gd rfl) rfl rfl ?_
              refine g_getI 67 (gd rfl) rfl rfl rfl (fun z64 e64 => ?_)
              refine g_iconst 1 68 (gd rfl) rfl rfl ?_
              refine g_iadd 69 (gd rfl) rfl (fun z68 e68 => ?_)
              refine g_putI 72 (gd rfl) rfl rfl rfl rfl ?_
              have hI69 := inv_sF (q := 102) (j := 12) hI57 rfl (in_w (-2147483648) 2147483647 (i_rng z68) rfl)
              refine g_iinc 75 (gd rfl) rfl rfl (Nat.le_of_ble_eq_true rfl) (fun z72 e72 => ?_)
              have i72 := in_add 1 1000000 e72 i42 (in_c 1 rfl) rfl rfl
              refine g_goto 38 (gd rfl) rfl ?_
              exact gg_w (by omega) (gg_f (gf_cons rfl (gf_cons rfl (gf_cons rfl (gf_cons rfl (gf_cons rfl (gf_cons rfl (gf_cons rfl (gf_cons rfl (gf_cons rfl (gf_cons rfl gf_nil)))))))))) (ih38 (sF s57 102 12 z68) z57 z72 hI69 (fr_sF rfl (fr_tr rfl hFc38 hF57)) (in_w 1 200 j38_2 rfl) (in_w 0 200 j38_8 rfl) (in_w 0 2100 i57 rfl) (in_w 0 2147483647 i72 rfl) (m_up mm38 (t_add e72 i42 (in_c 1 rfl) rfl) (in_w 1 1 (in_c 1 rfl) rfl))))
      refine g_iload 27 (gd rfl) rfl rfl ?_
      refine g_iload_n 28 (gd rfl) rfl rfl ?_
      refine g_cmp_ge 31 84 (gd rfl) rfl rfl (fun c28 => ?_) (fun c28 => ?_)
      · skip
        exact g_return (gd rfl) rfl (hP _ _ ⟨sc25, hIc25, hFc25, rfl, rfl⟩)
      · skip
        have i28 := r_lt1 0 199 c28 j25_8 h2 rfl
        have i28a := r_lt2 1 200 c28 j25_8 h2 rfl
        refine g_iload 33 (gd rfl) rfl rfl ?_
        refine g_istore 35 (gd rfl) rfl (Nat.le_of_ble_eq_true rfl) ?_
        refine g_iconst 0 36 (gd rfl) rfl rfl ?_
        refine g_istore 38 (gd rfl) rfl (Nat.le_of_ble_eq_true rfl) ?_
        exact gg_w (by omega) (gg_f (gf_cons rfl (gf_cons rfl (gf_cons rfl (gf_cons rfl (gf_cons rfl (gf_cons rfl (gf_cons rfl (gf_cons rfl (gf_cons rfl (gf_cons rfl gf_nil)))))))))) (ct38 2147483648 sc25 y25_7 (Int32.ofInt 0) hIc25 hFc25 (in_w 1 200 i28a rfl) (in_w 0 200 i28 rfl) (in_w 0 2100 j25_7 rfl) (in_w 0 2147483647 (in_c 0 rfl) rfl) (m_in 2147483648 (in_w 0 2147483647 (in_c 0 rfl) rfl) rfl)))
  refine g_enter2 (k := 70) (N := 775026849647202) (by omega) rfl (Nat.le_of_ble_eq_true rfl) ?_
  refine g_aload_n 1 (gd rfl) rfl rfl ?_
  refine g_iconst 0 2 (gd rfl) rfl rfl ?_
  refine g_putI 5 (gd rfl) rfl rfl rfl rfl ?_
  have hI2 := inv_sF (q := 102) (j := 10) hI rfl (in_w (-2147483648) 2147483647 (in_c 0 rfl) rfl)
  refine g_aload_n 6 (gd rfl) rfl rfl ?_
  refine g_iconst 0 7 (gd rfl) rfl rfl ?_
  refine g_putI 10 (gd rfl) rfl rfl rfl rfl ?_
  have hI7 := inv_sF (q := 102) (j := 11) hI2 rfl (in_w (-2147483648) 2147483647 (in_c 0 rfl) rfl)
  refine g_aload_n 11 (gd rfl) rfl rfl ?_
  refine g_iconst 0 12 (gd rfl) rfl rfl ?_
  refine g_putI 15 (gd rfl) rfl rfl rfl rfl ?_
  have hI12 := inv_sF (q := 102) (j := 12) hI7 rfl (in_w (-2147483648) 2147483647 (in_c 0 rfl) rfl)
  refine g_aload_n 16 (gd rfl) rfl rfl ?_
  refine g_iload_n 17 (gd rfl) rfl rfl ?_
  refine g_calls (As := [.ref (A 2), .int x3]) (r := []) 20 (gd rfl) rfl rfl rfl rfl rfl (Nat.le_of_ble_eq_true rfl) (Nat.zero_le _) (Nat.zero_le _) (k_71_2 (by omega) hI12 (in_w 1 4 h3 rfl)) (fun v u h => ?_)
  obtain ⟨z17, rfl, rfl, i17⟩ := h
  show GG _ _ _ _ _ _ _ _ [.int z17] _ _ _
  refine g_istore 22 (gd rfl) rfl (Nat.le_of_ble_eq_true rfl) ?_
  refine g_iconst 0 23 (gd rfl) rfl rfl ?_
  refine g_istore 25 (gd rfl) rfl (Nat.le_of_ble_eq_true rfl) ?_
  exact gg_w (by omega) (gg_f (gf_cons rfl (gf_cons rfl (gf_cons rfl (gf_cons rfl (gf_cons rfl (gf_cons rfl (gf_cons rfl (gf_cons rfl gf_nil)))))))) (ct25 401 (sF (sF (sF s 102 10 (Int32.ofInt 0)) 102 11 (Int32.ofInt 0)) 102 12 (Int32.ofInt 0)) z17 (Int32.ofInt 0) hI12 (fr_sF rfl (fr_sF rfl (fr_sF rfl fr_rf))) (in_w 0 2016 i17 rfl) (in_w 0 400 (in_c 0 rfl) rfl) (m_in 401 (in_w 0 400 (in_c 0 rfl) rfl) rfl)))

def fm_70_102_32 : FM := ([], [], [(102, 10), (102, 11), (102, 12)], [])
/-- GraphHouse$Engine.post -/
theorem k_70_102_32 {Z : AmZ} {A : Nat → Nat} {s : GS} {ex : va_W} {d : Nat} {X : AmX} {x2 : Int32} {x3 : Int32} {x4 : Int32} {x5 : Int64} (hd : 5 ≤ d) (hI : Inv s) (h2 : In x2 0 200) (h3 : In x3 1 4) (h4 : In x4 0 90) : GC Z d 70 [.ref (A 102), .ref (A 32), .int x2, .int x3, .int x4, .long x5] (WW Z A s ++ ex) 0 0 (fun v u => ∃ t : GS, Inv t ∧ Fr fm_70_102_32 s t ∧ v = none ∧ u = WW Z A t ++ ex) X := by
  intro post xp hP hX
  have ct25 : ∀ (k25 : Nat) (sc25 : GS) (y25_7 : Int32) (y25_8 : Int32), Inv sc25 → Fr fm_70_102_32 s sc25 → (In y25_7 0 2016) → (In y25_8 0 400) → 400 - (y25_8).toInt < (k25 : Int) → GG Z (d - 1) 70 post (gx xp) (1 + k25 * 1932735285901) 25 (fun j => xlook j [(0, .ref (A 102)), (1, .ref (A 32)), (2, .int x2), (3, .int x3), (4, .int x4), (5, .long x5), (7, .int y25_7), (8, .int y25_8)]) [] (WW Z A sc25 ++ ex) 0 0 := by
    intro k25
    induction k25 with
    | zero => intro sc25 y25_7 y25_8 hIc25 hFc25 j25_7 j25_8 mm25; exact m_no mm25 j25_8 rfl
    | succ k25 ih25 =>
      intro sc25 y25_7 y25_8 hIc25 hFc25 j25_7 j25_8 mm25
      refine gg_w (M := 1 + k25 * 1932735285901 + 1932735285901) (by omega) ?_
      have ct38 : ∀ (k38 : Nat) (sc38 : GS) (y38_9 : Int32) (y38_10 : Int32), Inv sc38 → Fr fm_70_102_32 s sc38 → (In x2 1 200) → (In y25_8 0 200) → (In y38_9 0 2100) → (In y38_10 0 2147483647) → 2147483647 - (y38_10).toInt < (k38 : Int) → GG Z (d - 1) 70 post (gx xp) (1 + k25 * 1932735285901 + 1 + k38 * 900) 38 (fun j => xlook j [(0, .ref (A 102)), (1, .ref (A 32)), (2, .int x2), (3, .int x3), (4, .int x4), (5, .long x5), (7, .int y25_7), (8, .int y25_8), (9, .int y38_9), (10, .int y38_10)]) [] (WW Z A sc38 ++ ex) 0 0 := by
        intro k38
        induction k38 with
        | zero => intro sc38 y38_9 y38_10 hIc38 hFc38 j38_2 j38_8 j38_9 j38_10 mm38; exact m_no mm38 j38_10 rfl
        | succ k38 ih38 =>
          intro sc38 y38_9 y38_10 hIc38 hFc38 j38_2 j38_8 j38_9 j38_10 mm38
          refine gg_w (M := 1 + k25 * 1932735285901 + 1 + k38 * 900 + 900) (by omega) ?_
          refine g_iload 40 (gd rfl) rfl rfl ?_
          refine g_ldc 1000000 42 (gd rfl) rfl rfl ?_
          refine g_cmp_ge 45 78 (gd rfl) rfl rfl (fun c42 => ?_) (fun c42 => ?_)
          · skip
            have i42 := r_le2 1000000 2147483647 c42 (in_c 1000000 rfl) j38_10 rfl
            refine g_iinc 81 (gd rfl) rfl rfl (Nat.le_of_ble_eq_true rfl) (fun z78 e78 => ?_)
            have i78 := in_add 1 201 e78 j38_8 (in_c 1 rfl) rfl rfl
            refine g_goto 25 (gd rfl) rfl ?_
            exact gg_w (by omega) (gg_f (gf_cons rfl (gf_cons rfl (gf_cons rfl (gf_cons rfl (gf_cons rfl (gf_cons rfl (gf_cons rfl (gf_cons rfl gf_nil)))))))) (ih25 sc38 y25_7 z78 hIc38 hFc38 (in_w 0 2016 j25_7 rfl) (in_w 0 400 i78 rfl) (m_up mm25 (t_add e78 j38_8 (in_c 1 rfl) rfl) (in_w 1 1 (in_c 1 rfl) rfl))))
          · skip
            have i42 := r_lt1 0 999999 c42 j38_10 (in_c 1000000 rfl) rfl
            refine g_iload 47 (gd rfl) rfl rfl ?_
            refine g_if_le 50 78 (gd rfl) rfl rfl (fun c47 => ?_) (fun c47 => ?_)
            · skip
              have i47 := z_le 0 0 c47 j38_9 rfl
              refine g_iinc 81 (gd rfl) rfl rfl (Nat.le_of_ble_eq_true rfl) (fun z78 e78 => ?_)
              have i78 := in_add 1 201 e78 j38_8 (in_c 1 rfl) rfl rfl
              refine g_goto 25 (gd rfl) rfl ?_
              exact gg_w (by omega) (gg_f (gf_cons rfl (gf_cons rfl (gf_cons rfl (gf_cons rfl (gf_cons rfl (gf_cons rfl (gf_cons rfl (gf_cons rfl gf_nil)))))))) (ih25 sc38 y25_7 z78 hIc38 hFc38 (in_w 0 2016 j25_7 rfl) (in_w 0 400 i78 rfl) (m_up mm25 (t_add e78 j38_8 (in_c 1 rfl) rfl) (in_w 1 1 (in_c 1 rfl) rfl))))
            · skip
              have i47 := z_gt 1 2100 c47 j38_9 rfl
              refine g_aload_n 51 (gd rfl) rfl rfl ?_
              refine g_iload 53 (gd rfl) rfl rfl ?_
              refine g_iload 55 (gd rfl) rfl rfl ?_
              refine g_lload 57 (gd rfl) rfl rfl ?_
              refine g_callv (X := _) (As := [.int y38_9, .int x4, .long x5]) (r := []) (b := A 102) (q := 102) 60 (gd rfl) rfl rfl rfl rfl rfl (ww_o rfl) (Nat.le_of_ble_eq_true rfl) (Nat.zero_le _) (Nat.zero_le _) (k_72_102 (by omega) hIc38 (in_w 0 2100 i47 rfl) (in_w 0 90 h4 rfl)) (fun e u h => h) (fun v u h => ?_)
              obtain ⟨s57, hI57, hF57, z57, rfl, rfl, i57⟩ := h
              show GG _ _ _ _ _ _ _ _ [.int z57] _ _ _
              refine g_istore 62 (gd rfl) rfl (Nat.le_of_ble_eq_true rfl) ?_
              refine g_aload_n 63 (gd rfl) rfl rfl ?_
              refine g_dup 64 (gd rfl) rfl rfl ?_
              refine g_getI 67 (gd rfl) rfl rfl rfl (fun z64 e64 => ?_)
              refine g_iconst 1 68 (gd rfl) rfl rfl ?_
              refine g_iadd 69 (gd rfl) rfl (fun z68 e68 => ?_)
              refine g_putI 72 (gd rfl) rfl rfl rfl rfl ?_
              have hI69 := inv_sF (q := 102) (j := 12) hI57 rfl (in_w (-2147483648) 2147483647 (i_rng z68) rfl)
              refine g_iinc 75 (gd rfl) rfl rfl (Nat.le_of_ble_eq_true rfl) (fun z72 e72 => ?_)
              have i72 := in_add 1 1000000 e72 i42 (in_c 1 rfl) rfl rfl
              refine g_goto 38 (gd rfl) rfl ?_
              exact gg_w (by omega) (gg_f (gf_cons rfl (gf_cons rfl (gf_cons rfl (gf_cons rfl (gf_cons rfl (gf_cons rfl (gf_cons rfl (gf_cons rfl (gf_cons rfl (gf_cons rfl gf_nil)))))))))) (ih38 (sF s57 102 12 z68) z57 z72 hI69 (fr_sF rfl (fr_tr rfl hFc38 hF57)) (in_w 1 200 j38_2 rfl) (in_w 0 200 j38_8 rfl) (in_w 0 2100 i57 rfl) (in_w 0 2147483647 i72 rfl) (m_up mm38 (t_add e72 i42 (in_c 1 rfl) rfl) (in_w 1 1 (in_c 1 rfl) rfl))))
      refine g_iload 27 (gd rfl) rfl rfl ?_
      refine g_iload_n 28 (gd rfl) rfl rfl ?_
      refine g_cmp_ge 31 84 (gd rfl) rfl rfl (fun c28 => ?_) (fun c28 => ?_)
      · skip
        exact g_return (gd rfl) rfl (hP _ _ ⟨sc25, hIc25, hFc25, rfl, rfl⟩)
      · skip
        have i28 := r_lt1 0 199 c28 j25_8 h2 rfl
        have i28a := r_lt2 1 200 c28 j25_8 h2 rfl
        refine g_iload 33 (gd rfl) rfl rfl ?_
        refine g_istore 35 (gd rfl) rfl (Nat.le_of_ble_eq_true rfl) ?_
        refine g_iconst 0 36 (gd rfl) rfl rfl ?_
        refine g_istore 38 (gd rfl) rfl (Nat.le_of_ble_eq_true rfl) ?_
        exact gg_w (by omega) (gg_f (gf_cons rfl (gf_cons rfl (gf_cons rfl (gf_cons rfl (gf_cons rfl (gf_cons rfl (gf_cons rfl (gf_cons rfl (gf_cons rfl (gf_cons rfl gf_nil)))))))))) (ct38 2147483648 sc25 y25_7 (Int32.ofInt 0) hIc25 hFc25 (in_w 1 200 i28a rfl) (in_w 0 200 i28 rfl) (in_w 0 2100 j25_7 rfl) (in_w 0 2147483647 (in_c 0 rfl) rfl) (m_in 2147483648 (in_w 0 2147483647 (in_c 0 rfl) rfl) rfl)))
  refine g_enter2 (k := 70) (N := 775026849647202) (by omega) rfl (Nat.le_of_ble_eq_true rfl) ?_
  refine g_aload_n 1 (gd rfl) rfl rfl ?_
  refine g_iconst 0 2 (gd rfl) rfl rfl ?_
  refine g_putI 5 (gd rfl) rfl rfl rfl rfl ?_
  have hI2 := inv_sF (q := 102) (j := 10) hI rfl (in_w (-2147483648) 2147483647 (in_c 0 rfl) rfl)
  refine g_aload_n 6 (gd rfl) rfl rfl ?_
  refine g_iconst 0 7 (gd rfl) rfl rfl ?_
  refine g_putI 10 (gd rfl) rfl rfl rfl rfl ?_
  have hI7 := inv_sF (q := 102) (j := 11) hI2 rfl (in_w (-2147483648) 2147483647 (in_c 0 rfl) rfl)
  refine g_aload_n 11 (gd rfl) rfl rfl ?_
  refine g_iconst 0 12 (gd rfl) rfl rfl ?_
  refine g_putI 15 (gd rfl) rfl rfl rfl rfl ?_
  have hI12 := inv_sF (q := 102) (j := 12) hI7 rfl (in_w (-2147483648) 2147483647 (in_c 0 rfl) rfl)
  refine g_aload_n 16 (gd rfl) rfl rfl ?_
  refine g_iload_n 17 (gd rfl) rfl rfl ?_
  refine g_calls (As := [.ref (A 32), .int x3]) (r := []) 20 (gd rfl) rfl rfl rfl rfl rfl (Nat.le_of_ble_eq_true rfl) (Nat.zero_le _) (Nat.zero_le _) (k_71_32 (by omega) hI12 (in_w 1 4 h3 rfl)) (fun v u h => ?_)
  obtain ⟨z17, rfl, rfl, i17⟩ := h
  show GG _ _ _ _ _ _ _ _ [.int z17] _ _ _
  refine g_istore 22 (gd rfl) rfl (Nat.le_of_ble_eq_true rfl) ?_
  refine g_iconst 0 23 (gd rfl) rfl rfl ?_
  refine g_istore 25 (gd rfl) rfl (Nat.le_of_ble_eq_true rfl) ?_
  exact gg_w (by omega) (gg_f (gf_cons rfl (gf_cons rfl (gf_cons rfl (gf_cons rfl (gf_cons rfl (gf_cons rfl (gf_cons rfl (gf_cons rfl gf_nil)))))))) (ct25 401 (sF (sF (sF s 102 10 (Int32.ofInt 0)) 102 11 (Int32.ofInt 0)) 102 12 (Int32.ofInt 0)) z17 (Int32.ofInt 0) hI12 (fr_sF rfl (fr_sF rfl (fr_sF rfl fr_rf))) (in_w 0 2016 i17 rfl) (in_w 0 400 (in_c 0 rfl) rfl) (m_in 401 (in_w 0 400 (in_c 0 rfl) rfl) rfl)))

def fm_75_65_2 : FM := ([66, 67, 68], [], [(65, 0), (65, 1), (65, 2), (65, 4)], [(65, 3)])
/-- GraphHouse$Flows.greatest -/
theorem k_75_65_2 {Z : AmZ} {A : Nat → Nat} {s : GS} {ex : va_W} {d : Nat} {X : AmX} {x2 : Int32} {x3 : Int32} (hd : 5 ≤ d) (hI : Inv s) (h2 : In x2 0 31) (h3 : In x3 0 31) : GC Z d 75 [.ref (A 65), .ref (A 2), .int x2, .int x3] (WW Z A s ++ ex) 0 0 (fun v u => ∃ t : GS, Inv t ∧ Fr fm_75_65_2 s t ∧ ∃ z : Int64, v = some (.long z) ∧ u = WW Z A t ++ ex) X := by
  intro post xp hP hX
  obtain ⟨u_2_0, e_2_0⟩ : ∃ w, w = s.2.2.1 2 0 := ⟨_, rfl⟩
  have ro_2_0 := inv_F hI 0 4000 rfl e_2_0
  have ct63 : ∀ (k63 : Nat) (sc63 : GS) (y63_4 : Int32), Inv sc63 → Fr fm_75_65_2 s sc63 → (In y63_4 0 2147483647) → 2147483647 - (y63_4).toInt < (k63 : Int) → GG Z (d - 1) 75 post (gx xp) (1 + k63 * 900) 63 (fun j => xlook j [(0, .ref (A 65)), (1, .ref (A 2)), (2, .int x2), (3, .int x3), (4, .int y63_4)]) [] (WW Z A sc63 ++ ex) 0 0 := by
    intro k63
    induction k63 with
    | zero => intro sc63 y63_4 hIc63 hFc63 j63_4 mm63; exact m_no mm63 j63_4 rfl
    | succ k63 ih63 =>
      intro sc63 y63_4 hIc63 hFc63 j63_4 mm63
      refine gg_w (M := 1 + k63 * 900 + 900) (by omega) ?_
      refine g_iload 65 (gd rfl) rfl rfl ?_
      refine g_ldc 1000000 67 (gd rfl) rfl rfl ?_
      refine g_cmp_ge 70 101 (gd rfl) rfl rfl (fun c67 => ?_) (fun c67 => ?_)
      · skip
        have i67 := r_le2 1000000 2147483647 c67 (in_c 1000000 rfl) j63_4 rfl
        refine g_aload_n 102 (gd rfl) rfl rfl ?_
        refine g_getL 105 (gd rfl) rfl rfl rfl (fun z102 e102 => ?_)
        exact g_lreturn (gd rfl) rfl (hP _ _ ⟨sc63, hIc63, hFc63, z102, rfl, rfl⟩)
      · skip
        have i67 := r_lt1 0 999999 c67 j63_4 (in_c 1000000 rfl) rfl
        refine g_aload_n 71 (gd rfl) rfl rfl ?_
        refine g_iload_n 72 (gd rfl) rfl rfl ?_
        refine g_iload_n 73 (gd rfl) rfl rfl ?_
        refine g_callv (X := _) (As := [.int x2, .int x3]) (r := []) (b := A 65) (q := 65) 76 (gd rfl) rfl rfl rfl rfl rfl (ww_o rfl) (Nat.le_of_ble_eq_true rfl) (Nat.zero_le _) (Nat.zero_le _) (k_77_65 (by omega) hIc63 (in_w 0 31 h2 rfl) (in_w 0 31 h3 rfl)) (fun e u h => h) (fun v u h => ?_)
        obtain ⟨s73, hI73, hF73, z73, rfl, rfl, i73, p73, p73a⟩ := h
        show GG _ _ _ _ _ _ _ _ [.int z73] _ _ _
        refine g_if_eq 79 101 (gd rfl) rfl rfl (fun c76 => ?_) (fun c76 => ?_)
        · skip
          have i76 := z_eq 0 0 c76 i73 rfl
          refine g_aload_n 102 (gd rfl) rfl rfl ?_
          refine g_getL 105 (gd rfl) rfl rfl rfl (fun z102 e102 => ?_)
          exact g_lreturn (gd rfl) rfl (hP _ _ ⟨s73, hI73, (fr_tr rfl hFc63 hF73), z102, rfl, rfl⟩)
        · skip
          have i76 := z_ne 1 1 c76 i73 rfl
          refine g_aload_n 80 (gd rfl) rfl rfl ?_
          refine g_dup 81 (gd rfl) rfl rfl ?_
          refine g_getL 84 (gd rfl) rfl rfl rfl (fun z81 e81 => ?_)
          refine g_aload_n 85 (gd rfl) rfl rfl ?_
          refine g_iload_n 86 (gd rfl) rfl rfl ?_
          refine g_iload_n 87 (gd rfl) rfl rfl ?_
          have p87 : RV (s73.1 68) (s73.2.2.1 65 4) x2 := by exact p73
          have p87a : bt (s73.2.2.1 65 4) (x3).toNatClampNeg = true := by exact p73a c76
          refine g_callv (X := _) (As := [.int x2, .int x3]) (r := [.long z81, .ref (A 65)]) (b := A 65) (q := 65) 90 (gd rfl) rfl rfl rfl rfl rfl (ww_o rfl) (Nat.le_of_ble_eq_true rfl) (Nat.zero_le _) (Nat.zero_le _) (k_78_65 (by omega) hI73 (in_w 0 31 h2 rfl) (in_w 0 31 h3 rfl) rfl p87 p87a) (fun e u h => h) (fun v u h => ?_)
          obtain ⟨s87, hI87, hF87, z87, rfl, rfl, i87⟩ := h
          show GG _ _ _ _ _ _ _ _ [.int z87, .long z81, .ref (A 65)] _ _ _
          refine g_i2l 91 (gd rfl) rfl (fun z90 e90 => ?_)
          have i90 := l_i e90 i87
          refine g_ladd 92 (gd rfl) rfl (fun z91 e91 => ?_)
          refine g_putL 95 (gd rfl) rfl rfl rfl rfl ?_
          have hI92 := inv_sG (q := 65) (j := 3) (x := z91) hI87 rfl (l_rng z91)
          refine g_iinc 98 (gd rfl) rfl rfl (Nat.le_of_ble_eq_true rfl) (fun z95 e95 => ?_)
          have i95 := in_add 1 1000000 e95 i67 (in_c 1 rfl) rfl rfl
          refine g_goto 63 (gd rfl) rfl ?_
          exact gg_w (by omega) (gg_f (gf_cons rfl (gf_cons rfl (gf_cons rfl (gf_cons rfl (gf_cons rfl gf_nil))))) (ih63 (sG s87 65 3 z91) z95 hI92 (fr_sG rfl (fr_tr rfl (fr_tr rfl hFc63 hF73) hF87)) (in_w 0 2147483647 i95 rfl) (m_up mm63 (t_add e95 i67 (in_c 1 rfl) rfl) (in_w 1 1 (in_c 1 rfl) rfl))))
  refine g_enter2 (k := 75) (N := 1932735284101) (by omega) rfl (Nat.le_of_ble_eq_true rfl) ?_
  refine g_aload_n 1 (gd rfl) rfl rfl ?_
  refine g_getI 4 (gd rfl) rfl rfl rfl (fun z1 e1 => ?_)
  have i1 := inv_F hI (-1) 4000 rfl e1
  refine g_aload_n 5 (gd rfl) rfl rfl ?_
  refine g_getI 8 (gd rfl) rfl rfl rfl (fun z5 e5 => ?_)
  have q5 : u_2_0 = z5 := (e_2_0).trans e5.symm
  subst q5
  refine g_cmp_ne 11 32 (gd rfl) rfl rfl (fun c8 => ?_) (fun c8 => ?_)
  · skip
    refine g_aload_n 33 (gd rfl) rfl rfl ?_
    refine g_aload_n 34 (gd rfl) rfl rfl ?_
    refine g_getI 37 (gd rfl) rfl rfl rfl (fun z34 e34 => ?_)
    have q34 : u_2_0 = z34 := (e_2_0).trans e34.symm
    subst q34
    refine g_putI 40 (gd rfl) rfl rfl rfl rfl ?_
    have hI37 := inv_sF (q := 65) (j := 0) hI rfl (in_w (-1) 4000 ro_2_0 rfl)
    refine g_aload_n 41 (gd rfl) rfl rfl ?_
    refine g_iload_n 42 (gd rfl) rfl rfl ?_
    refine g_putI 45 (gd rfl) rfl rfl rfl rfl ?_
    have hI42 := inv_sF (q := 65) (j := 1) hI37 rfl (in_w 0 31 h2 rfl)
    refine g_aload_n 46 (gd rfl) rfl rfl ?_
    refine g_iload_n 47 (gd rfl) rfl rfl ?_
    refine g_putI 50 (gd rfl) rfl rfl rfl rfl ?_
    have hI47 := inv_sF (q := 65) (j := 2) hI42 rfl (in_w 0 31 h3 rfl)
    refine g_aload_n 51 (gd rfl) rfl rfl ?_
    refine g_lconst 0 52 (gd rfl) rfl rfl ?_
    refine g_putL 55 (gd rfl) rfl rfl rfl rfl ?_
    have hI52 := inv_sG (q := 65) (j := 3) (x := (Int64.ofInt 0)) hI47 rfl (l_rng (Int64.ofInt 0))
    refine g_aload_n 56 (gd rfl) rfl rfl ?_
    refine g_aload_n 57 (gd rfl) rfl rfl ?_
    refine g_callv (X := _) (As := [.ref (A 2)]) (r := []) (b := A 65) (q := 65) 60 (gd rfl) rfl rfl rfl rfl rfl (ww_o rfl) (Nat.le_of_ble_eq_true rfl) (Nat.zero_le _) (Nat.zero_le _) (k_76_65_2 (by omega) hI52 ) (fun e u h => h) (fun v u h => ?_)
    obtain ⟨s57, hI57, hF57, rfl, rfl⟩ := h
    show GG _ _ _ _ _ _ _ _ [] _ _ _
    refine g_iconst 0 61 (gd rfl) rfl rfl ?_
    refine g_istore 63 (gd rfl) rfl (Nat.le_of_ble_eq_true rfl) ?_
    exact gg_w (by omega) (gg_f (gf_cons rfl (gf_cons rfl (gf_cons rfl (gf_cons rfl (gf_cons rfl gf_nil))))) (ct63 2147483648 s57 (Int32.ofInt 0) hI57 (fr_tr rfl (fr_sG rfl (fr_sF rfl (fr_sF rfl (fr_sF rfl fr_rf)))) hF57) (in_w 0 2147483647 (in_c 0 rfl) rfl) (m_in 2147483648 (in_w 0 2147483647 (in_c 0 rfl) rfl) rfl)))
  · skip
    have i8 := r_eq1 0 4000 c8 i1 ro_2_0 rfl
    refine g_aload_n 12 (gd rfl) rfl rfl ?_
    refine g_getI 15 (gd rfl) rfl rfl rfl (fun z12 e12 => ?_)
    have i12 := inv_F hI 0 31 rfl e12
    refine g_iload_n 16 (gd rfl) rfl rfl ?_
    refine g_cmp_ne 19 32 (gd rfl) rfl rfl (fun c16 => ?_) (fun c16 => ?_)
    · skip
      refine g_aload_n 33 (gd rfl) rfl rfl ?_
      refine g_aload_n 34 (gd rfl) rfl rfl ?_
      refine g_getI 37 (gd rfl) rfl rfl rfl (fun z34 e34 => ?_)
      have q34 : u_2_0 = z34 := (e_2_0).trans e34.symm
      subst q34
      refine g_putI 40 (gd rfl) rfl rfl rfl rfl ?_
      have hI37 := inv_sF (q := 65) (j := 0) hI rfl (in_w (-1) 4000 ro_2_0 rfl)
      refine g_aload_n 41 (gd rfl) rfl rfl ?_
      refine g_iload_n 42 (gd rfl) rfl rfl ?_
      refine g_putI 45 (gd rfl) rfl rfl rfl rfl ?_
      have hI42 := inv_sF (q := 65) (j := 1) hI37 rfl (in_w 0 31 h2 rfl)
      refine g_aload_n 46 (gd rfl) rfl rfl ?_
      refine g_iload_n 47 (gd rfl) rfl rfl ?_
      refine g_putI 50 (gd rfl) rfl rfl rfl rfl ?_
      have hI47 := inv_sF (q := 65) (j := 2) hI42 rfl (in_w 0 31 h3 rfl)
      refine g_aload_n 51 (gd rfl) rfl rfl ?_
      refine g_lconst 0 52 (gd rfl) rfl rfl ?_
      refine g_putL 55 (gd rfl) rfl rfl rfl rfl ?_
      have hI52 := inv_sG (q := 65) (j := 3) (x := (Int64.ofInt 0)) hI47 rfl (l_rng (Int64.ofInt 0))
      refine g_aload_n 56 (gd rfl) rfl rfl ?_
      refine g_aload_n 57 (gd rfl) rfl rfl ?_
      refine g_callv (X := _) (As := [.ref (A 2)]) (r := []) (b := A 65) (q := 65) 60 (gd rfl) rfl rfl rfl rfl rfl (ww_o rfl) (Nat.le_of_ble_eq_true rfl) (Nat.zero_le _) (Nat.zero_le _) (k_76_65_2 (by omega) hI52 ) (fun e u h => h) (fun v u h => ?_)
      obtain ⟨s57, hI57, hF57, rfl, rfl⟩ := h
      show GG _ _ _ _ _ _ _ _ [] _ _ _
      refine g_iconst 0 61 (gd rfl) rfl rfl ?_
      refine g_istore 63 (gd rfl) rfl (Nat.le_of_ble_eq_true rfl) ?_
      exact gg_w (by omega) (gg_f (gf_cons rfl (gf_cons rfl (gf_cons rfl (gf_cons rfl (gf_cons rfl gf_nil))))) (ct63 2147483648 s57 (Int32.ofInt 0) hI57 (fr_tr rfl (fr_sG rfl (fr_sF rfl (fr_sF rfl (fr_sF rfl fr_rf)))) hF57) (in_w 0 2147483647 (in_c 0 rfl) rfl) (m_in 2147483648 (in_w 0 2147483647 (in_c 0 rfl) rfl) rfl)))
    · skip
      refine g_aload_n 20 (gd rfl) rfl rfl ?_
      refine g_getI 23 (gd rfl) rfl rfl rfl (fun z20 e20 => ?_)
      have i20 := inv_F hI 0 31 rfl e20
      refine g_iload_n 24 (gd rfl) rfl rfl ?_
      refine g_cmp_ne 27 32 (gd rfl) rfl rfl (fun c24 => ?_) (fun c24 => ?_)
      · skip
        refine g_aload_n 33 (gd rfl) rfl rfl ?_
        refine g_aload_n 34 (gd rfl) rfl rfl ?_
        refine g_getI 37 (gd rfl) rfl rfl rfl (fun z34 e34 => ?_)
        have q34 : u_2_0 = z34 := (e_2_0).trans e34.symm
        subst q34
        refine g_putI 40 (gd rfl) rfl rfl rfl rfl ?_
        have hI37 := inv_sF (q := 65) (j := 0) hI rfl (in_w (-1) 4000 ro_2_0 rfl)
        refine g_aload_n 41 (gd rfl) rfl rfl ?_
        refine g_iload_n 42 (gd rfl) rfl rfl ?_
        refine g_putI 45 (gd rfl) rfl rfl rfl rfl ?_
        have hI42 := inv_sF (q := 65) (j := 1) hI37 rfl (in_w 0 31 h2 rfl)
        refine g_aload_n 46 (gd rfl) rfl rfl ?_
        refine g_iload_n 47 (gd rfl) rfl rfl ?_
        refine g_putI 50 (gd rfl) rfl rfl rfl rfl ?_
        have hI47 := inv_sF (q := 65) (j := 2) hI42 rfl (in_w 0 31 h3 rfl)
        refine g_aload_n 51 (gd rfl) rfl rfl ?_
        refine g_lconst 0 52 (gd rfl) rfl rfl ?_
        refine g_putL 55 (gd rfl) rfl rfl rfl rfl ?_
        have hI52 := inv_sG (q := 65) (j := 3) (x := (Int64.ofInt 0)) hI47 rfl (l_rng (Int64.ofInt 0))
        refine g_aload_n 56 (gd rfl) rfl rfl ?_
        refine g_aload_n 57 (gd rfl) rfl rfl ?_
        refine g_callv (X := _) (As := [.ref (A 2)]) (r := []) (b := A 65) (q := 65) 60 (gd rfl) rfl rfl rfl rfl rfl (ww_o rfl) (Nat.le_of_ble_eq_true rfl) (Nat.zero_le _) (Nat.zero_le _) (k_76_65_2 (by omega) hI52 ) (fun e u h => h) (fun v u h => ?_)
        obtain ⟨s57, hI57, hF57, rfl, rfl⟩ := h
        show GG _ _ _ _ _ _ _ _ [] _ _ _
        refine g_iconst 0 61 (gd rfl) rfl rfl ?_
        refine g_istore 63 (gd rfl) rfl (Nat.le_of_ble_eq_true rfl) ?_
        exact gg_w (by omega) (gg_f (gf_cons rfl (gf_cons rfl (gf_cons rfl (gf_cons rfl (gf_cons rfl gf_nil))))) (ct63 2147483648 s57 (Int32.ofInt 0) hI57 (fr_tr rfl (fr_sG rfl (fr_sF rfl (fr_sF rfl (fr_sF rfl fr_rf)))) hF57) (in_w 0 2147483647 (in_c 0 rfl) rfl) (m_in 2147483648 (in_w 0 2147483647 (in_c 0 rfl) rfl) rfl)))
      · skip
        refine g_aload_n 28 (gd rfl) rfl rfl ?_
        refine g_getL 31 (gd rfl) rfl rfl rfl (fun z28 e28 => ?_)
        exact g_lreturn (gd rfl) rfl (hP _ _ ⟨s, hI, fr_rf, z28, rfl, rfl⟩)

def fm_75_65_32 : FM := ([66, 67, 68], [], [(65, 0), (65, 1), (65, 2), (65, 4)], [(65, 3)])
/-- GraphHouse$Flows.greatest -/
theorem k_75_65_32 {Z : AmZ} {A : Nat → Nat} {s : GS} {ex : va_W} {d : Nat} {X : AmX} {x2 : Int32} {x3 : Int32} (hd : 5 ≤ d) (hI : Inv s) (h2 : In x2 0 31) (h3 : In x3 0 31) : GC Z d 75 [.ref (A 65), .ref (A 32), .int x2, .int x3] (WW Z A s ++ ex) 0 0 (fun v u => ∃ t : GS, Inv t ∧ Fr fm_75_65_32 s t ∧ ∃ z : Int64, v = some (.long z) ∧ u = WW Z A t ++ ex) X := by
  intro post xp hP hX
  obtain ⟨u_32_0, e_32_0⟩ : ∃ w, w = s.2.2.1 32 0 := ⟨_, rfl⟩
  have ro_32_0 := inv_F hI 0 4000 rfl e_32_0
  have ct63 : ∀ (k63 : Nat) (sc63 : GS) (y63_4 : Int32), Inv sc63 → Fr fm_75_65_32 s sc63 → (In y63_4 0 2147483647) → 2147483647 - (y63_4).toInt < (k63 : Int) → GG Z (d - 1) 75 post (gx xp) (1 + k63 * 900) 63 (fun j => xlook j [(0, .ref (A 65)), (1, .ref (A 32)), (2, .int x2), (3, .int x3), (4, .int y63_4)]) [] (WW Z A sc63 ++ ex) 0 0 := by
    intro k63
    induction k63 with
    | zero => intro sc63 y63_4 hIc63 hFc63 j63_4 mm63; exact m_no mm63 j63_4 rfl
    | succ k63 ih63 =>
      intro sc63 y63_4 hIc63 hFc63 j63_4 mm63
      refine gg_w (M := 1 + k63 * 900 + 900) (by omega) ?_
      refine g_iload 65 (gd rfl) rfl rfl ?_
      refine g_ldc 1000000 67 (gd rfl) rfl rfl ?_
      refine g_cmp_ge 70 101 (gd rfl) rfl rfl (fun c67 => ?_) (fun c67 => ?_)
      · skip
        have i67 := r_le2 1000000 2147483647 c67 (in_c 1000000 rfl) j63_4 rfl
        refine g_aload_n 102 (gd rfl) rfl rfl ?_
        refine g_getL 105 (gd rfl) rfl rfl rfl (fun z102 e102 => ?_)
        exact g_lreturn (gd rfl) rfl (hP _ _ ⟨sc63, hIc63, hFc63, z102, rfl, rfl⟩)
      · skip
        have i67 := r_lt1 0 999999 c67 j63_4 (in_c 1000000 rfl) rfl
        refine g_aload_n 71 (gd rfl) rfl rfl ?_
        refine g_iload_n 72 (gd rfl) rfl rfl ?_
        refine g_iload_n 73 (gd rfl) rfl rfl ?_
        refine g_callv (X := _) (As := [.int x2, .int x3]) (r := []) (b := A 65) (q := 65) 76 (gd rfl) rfl rfl rfl rfl rfl (ww_o rfl) (Nat.le_of_ble_eq_true rfl) (Nat.zero_le _) (Nat.zero_le _) (k_77_65 (by omega) hIc63 (in_w 0 31 h2 rfl) (in_w 0 31 h3 rfl)) (fun e u h => h) (fun v u h => ?_)
        obtain ⟨s73, hI73, hF73, z73, rfl, rfl, i73, p73, p73a⟩ := h
        show GG _ _ _ _ _ _ _ _ [.int z73] _ _ _
        refine g_if_eq 79 101 (gd rfl) rfl rfl (fun c76 => ?_) (fun c76 => ?_)
        · skip
          have i76 := z_eq 0 0 c76 i73 rfl
          refine g_aload_n 102 (gd rfl) rfl rfl ?_
          refine g_getL 105 (gd rfl) rfl rfl rfl (fun z102 e102 => ?_)
          exact g_lreturn (gd rfl) rfl (hP _ _ ⟨s73, hI73, (fr_tr rfl hFc63 hF73), z102, rfl, rfl⟩)
        · skip
          have i76 := z_ne 1 1 c76 i73 rfl
          refine g_aload_n 80 (gd rfl) rfl rfl ?_
          refine g_dup 81 (gd rfl) rfl rfl ?_
          refine g_getL 84 (gd rfl) rfl rfl rfl (fun z81 e81 => ?_)
          refine g_aload_n 85 (gd rfl) rfl rfl ?_
          refine g_iload_n 86 (gd rfl) rfl rfl ?_
          refine g_iload_n 87 (gd rfl) rfl rfl ?_
          have p87 : RV (s73.1 68) (s73.2.2.1 65 4) x2 := by exact p73
          have p87a : bt (s73.2.2.1 65 4) (x3).toNatClampNeg = true := by exact p73a c76
          refine g_callv (X := _) (As := [.int x2, .int x3]) (r := [.long z81, .ref (A 65)]) (b := A 65) (q := 65) 90 (gd rfl) rfl rfl rfl rfl rfl (ww_o rfl) (Nat.le_of_ble_eq_true rfl) (Nat.zero_le _) (Nat.zero_le _) (k_78_65 (by omega) hI73 (in_w 0 31 h2 rfl) (in_w 0 31 h3 rfl) rfl p87 p87a) (fun e u h => h) (fun v u h => ?_)
          obtain ⟨s87, hI87, hF87, z87, rfl, rfl, i87⟩ := h
          show GG _ _ _ _ _ _ _ _ [.int z87, .long z81, .ref (A 65)] _ _ _
          refine g_i2l 91 (gd rfl) rfl (fun z90 e90 => ?_)
          have i90 := l_i e90 i87
          refine g_ladd 92 (gd rfl) rfl (fun z91 e91 => ?_)
          refine g_putL 95 (gd rfl) rfl rfl rfl rfl ?_
          have hI92 := inv_sG (q := 65) (j := 3) (x := z91) hI87 rfl (l_rng z91)
          refine g_iinc 98 (gd rfl) rfl rfl (Nat.le_of_ble_eq_true rfl) (fun z95 e95 => ?_)
          have i95 := in_add 1 1000000 e95 i67 (in_c 1 rfl) rfl rfl
          refine g_goto 63 (gd rfl) rfl ?_
          exact gg_w (by omega) (gg_f (gf_cons rfl (gf_cons rfl (gf_cons rfl (gf_cons rfl (gf_cons rfl gf_nil))))) (ih63 (sG s87 65 3 z91) z95 hI92 (fr_sG rfl (fr_tr rfl (fr_tr rfl hFc63 hF73) hF87)) (in_w 0 2147483647 i95 rfl) (m_up mm63 (t_add e95 i67 (in_c 1 rfl) rfl) (in_w 1 1 (in_c 1 rfl) rfl))))
  refine g_enter2 (k := 75) (N := 1932735284101) (by omega) rfl (Nat.le_of_ble_eq_true rfl) ?_
  refine g_aload_n 1 (gd rfl) rfl rfl ?_
  refine g_getI 4 (gd rfl) rfl rfl rfl (fun z1 e1 => ?_)
  have i1 := inv_F hI (-1) 4000 rfl e1
  refine g_aload_n 5 (gd rfl) rfl rfl ?_
  refine g_getI 8 (gd rfl) rfl rfl rfl (fun z5 e5 => ?_)
  have q5 : u_32_0 = z5 := (e_32_0).trans e5.symm
  subst q5
  refine g_cmp_ne 11 32 (gd rfl) rfl rfl (fun c8 => ?_) (fun c8 => ?_)
  · skip
    refine g_aload_n 33 (gd rfl) rfl rfl ?_
    refine g_aload_n 34 (gd rfl) rfl rfl ?_
    refine g_getI 37 (gd rfl) rfl rfl rfl (fun z34 e34 => ?_)
    have q34 : u_32_0 = z34 := (e_32_0).trans e34.symm
    subst q34
    refine g_putI 40 (gd rfl) rfl rfl rfl rfl ?_
    have hI37 := inv_sF (q := 65) (j := 0) hI rfl (in_w (-1) 4000 ro_32_0 rfl)
    refine g_aload_n 41 (gd rfl) rfl rfl ?_
    refine g_iload_n 42 (gd rfl) rfl rfl ?_
    refine g_putI 45 (gd rfl) rfl rfl rfl rfl ?_
    have hI42 := inv_sF (q := 65) (j := 1) hI37 rfl (in_w 0 31 h2 rfl)
    refine g_aload_n 46 (gd rfl) rfl rfl ?_
    refine g_iload_n 47 (gd rfl) rfl rfl ?_
    refine g_putI 50 (gd rfl) rfl rfl rfl rfl ?_
    have hI47 := inv_sF (q := 65) (j := 2) hI42 rfl (in_w 0 31 h3 rfl)
    refine g_aload_n 51 (gd rfl) rfl rfl ?_
    refine g_lconst 0 52 (gd rfl) rfl rfl ?_
    refine g_putL 55 (gd rfl) rfl rfl rfl rfl ?_
    have hI52 := inv_sG (q := 65) (j := 3) (x := (Int64.ofInt 0)) hI47 rfl (l_rng (Int64.ofInt 0))
    refine g_aload_n 56 (gd rfl) rfl rfl ?_
    refine g_aload_n 57 (gd rfl) rfl rfl ?_
    refine g_callv (X := _) (As := [.ref (A 32)]) (r := []) (b := A 65) (q := 65) 60 (gd rfl) rfl rfl rfl rfl rfl (ww_o rfl) (Nat.le_of_ble_eq_true rfl) (Nat.zero_le _) (Nat.zero_le _) (k_76_65_32 (by omega) hI52 ) (fun e u h => h) (fun v u h => ?_)
    obtain ⟨s57, hI57, hF57, rfl, rfl⟩ := h
    show GG _ _ _ _ _ _ _ _ [] _ _ _
    refine g_iconst 0 61 (gd rfl) rfl rfl ?_
    refine g_istore 63 (gd rfl) rfl (Nat.le_of_ble_eq_true rfl) ?_
    exact gg_w (by omega) (gg_f (gf_cons rfl (gf_cons rfl (gf_cons rfl (gf_cons rfl (gf_cons rfl gf_nil))))) (ct63 2147483648 s57 (Int32.ofInt 0) hI57 (fr_tr rfl (fr_sG rfl (fr_sF rfl (fr_sF rfl (fr_sF rfl fr_rf)))) hF57) (in_w 0 2147483647 (in_c 0 rfl) rfl) (m_in 2147483648 (in_w 0 2147483647 (in_c 0 rfl) rfl) rfl)))
  · skip
    have i8 := r_eq1 0 4000 c8 i1 ro_32_0 rfl
    refine g_aload_n 12 (gd rfl) rfl rfl ?_
    refine g_getI 15 (gd rfl) rfl rfl rfl (fun z12 e12 => ?_)
    have i12 := inv_F hI 0 31 rfl e12
    refine g_iload_n 16 (gd rfl) rfl rfl ?_
    refine g_cmp_ne 19 32 (gd rfl) rfl rfl (fun c16 => ?_) (fun c16 => ?_)
    · skip
      refine g_aload_n 33 (gd rfl) rfl rfl ?_
      refine g_aload_n 34 (gd rfl) rfl rfl ?_
      refine g_getI 37 (gd rfl) rfl rfl rfl (fun z34 e34 => ?_)
      have q34 : u_32_0 = z34 := (e_32_0).trans e34.symm
      subst q34
      refine g_putI 40 (gd rfl) rfl rfl rfl rfl ?_
      have hI37 := inv_sF (q := 65) (j := 0) hI rfl (in_w (-1) 4000 ro_32_0 rfl)
      refine g_aload_n 41 (gd rfl) rfl rfl ?_
      refine g_iload_n 42 (gd rfl) rfl rfl ?_
      refine g_putI 45 (gd rfl) rfl rfl rfl rfl ?_
      have hI42 := inv_sF (q := 65) (j := 1) hI37 rfl (in_w 0 31 h2 rfl)
      refine g_aload_n 46 (gd rfl) rfl rfl ?_
      refine g_iload_n 47 (gd rfl) rfl rfl ?_
      refine g_putI 50 (gd rfl) rfl rfl rfl rfl ?_
      have hI47 := inv_sF (q := 65) (j := 2) hI42 rfl (in_w 0 31 h3 rfl)
      refine g_aload_n 51 (gd rfl) rfl rfl ?_
      refine g_lconst 0 52 (gd rfl) rfl rfl ?_
      refine g_putL 55 (gd rfl) rfl rfl rfl rfl ?_
      have hI52 := inv_sG (q := 65) (j := 3) (x := (Int64.ofInt 0)) hI47 rfl (l_rng (Int64.ofInt 0))
      refine g_aload_n 56 (gd rfl) rfl rfl ?_
      refine g_aload_n 57 (gd rfl) rfl rfl ?_
      refine g_callv (X := _) (As := [.ref (A 32)]) (r := []) (b := A 65) (q := 65) 60 (gd rfl) rfl rfl rfl rfl rfl (ww_o rfl) (Nat.le_of_ble_eq_true rfl) (Nat.zero_le _) (Nat.zero_le _) (k_76_65_32 (by omega) hI52 ) (fun e u h => h) (fun v u h => ?_)
      obtain ⟨s57, hI57, hF57, rfl, rfl⟩ := h
      show GG _ _ _ _ _ _ _ _ [] _ _ _
      refine g_iconst 0 61 (gd rfl) rfl rfl ?_
      refine g_istore 63 (gd rfl) rfl (Nat.le_of_ble_eq_true rfl) ?_
      exact gg_w (by omega) (gg_f (gf_cons rfl (gf_cons rfl (gf_cons rfl (gf_cons rfl (gf_cons rfl gf_nil))))) (ct63 2147483648 s57 (Int32.ofInt 0) hI57 (fr_tr rfl (fr_sG rfl (fr_sF rfl (fr_sF rfl (fr_sF rfl fr_rf)))) hF57) (in_w 0 2147483647 (in_c 0 rfl) rfl) (m_in 2147483648 (in_w 0 2147483647 (in_c 0 rfl) rfl) rfl)))
    · skip
      refine g_aload_n 20 (gd rfl) rfl rfl ?_
      refine g_getI 23 (gd rfl) rfl rfl rfl (fun z20 e20 => ?_)
      have i20 := inv_F hI 0 31 rfl e20
      refine g_iload_n 24 (gd rfl) rfl rfl ?_
      refine g_cmp_ne 27 32 (gd rfl) rfl rfl (fun c24 => ?_) (fun c24 => ?_)
      · skip
        refine g_aload_n 33 (gd rfl) rfl rfl ?_
        refine g_aload_n 34 (gd rfl) rfl rfl ?_
        refine g_getI 37 (gd rfl) rfl rfl rfl (fun z34 e34 => ?_)
        have q34 : u_32_0 = z34 := (e_32_0).trans e34.symm
        subst q34
        refine g_putI 40 (gd rfl) rfl rfl rfl rfl ?_
        have hI37 := inv_sF (q := 65) (j := 0) hI rfl (in_w (-1) 4000 ro_32_0 rfl)
        refine g_aload_n 41 (gd rfl) rfl rfl ?_
        refine g_iload_n 42 (gd rfl) rfl rfl ?_
        refine g_putI 45 (gd rfl) rfl rfl rfl rfl ?_
        have hI42 := inv_sF (q := 65) (j := 1) hI37 rfl (in_w 0 31 h2 rfl)
        refine g_aload_n 46 (gd rfl) rfl rfl ?_
        refine g_iload_n 47 (gd rfl) rfl rfl ?_
        refine g_putI 50 (gd rfl) rfl rfl rfl rfl ?_
        have hI47 := inv_sF (q := 65) (j := 2) hI42 rfl (in_w 0 31 h3 rfl)
        refine g_aload_n 51 (gd rfl) rfl rfl ?_
        refine g_lconst 0 52 (gd rfl) rfl rfl ?_
        refine g_putL 55 (gd rfl) rfl rfl rfl rfl ?_
        have hI52 := inv_sG (q := 65) (j := 3) (x := (Int64.ofInt 0)) hI47 rfl (l_rng (Int64.ofInt 0))
        refine g_aload_n 56 (gd rfl) rfl rfl ?_
        refine g_aload_n 57 (gd rfl) rfl rfl ?_
        refine g_callv (X := _) (As := [.ref (A 32)]) (r := []) (b := A 65) (q := 65) 60 (gd rfl) rfl rfl rfl rfl rfl (ww_o rfl) (Nat.le_of_ble_eq_true rfl) (Nat.zero_le _) (Nat.zero_le _) (k_76_65_32 (by omega) hI52 ) (fun e u h => h) (fun v u h => ?_)
        obtain ⟨s57, hI57, hF57, rfl, rfl⟩ := h
        show GG _ _ _ _ _ _ _ _ [] _ _ _
        refine g_iconst 0 61 (gd rfl) rfl rfl ?_
        refine g_istore 63 (gd rfl) rfl (Nat.le_of_ble_eq_true rfl) ?_
        exact gg_w (by omega) (gg_f (gf_cons rfl (gf_cons rfl (gf_cons rfl (gf_cons rfl (gf_cons rfl gf_nil))))) (ct63 2147483648 s57 (Int32.ofInt 0) hI57 (fr_tr rfl (fr_sG rfl (fr_sF rfl (fr_sF rfl (fr_sF rfl fr_rf)))) hF57) (in_w 0 2147483647 (in_c 0 rfl) rfl) (m_in 2147483648 (in_w 0 2147483647 (in_c 0 rfl) rfl) rfl)))
      · skip
        refine g_aload_n 28 (gd rfl) rfl rfl ?_
        refine g_getL 31 (gd rfl) rfl rfl rfl (fun z28 e28 => ?_)
        exact g_lreturn (gd rfl) rfl (hP _ _ ⟨s, hI, fr_rf, z28, rfl, rfl⟩)

def fm_80_65_2 : FM := ([69, 70, 71, 72, 73, 74], [], [(65, 8)], [])
/-- GraphHouse$Flows.layArcs -/
theorem k_80_65_2 {Z : AmZ} {A : Nat → Nat} {s : GS} {ex : va_W} {d : Nat} {X : AmX}  (hd : 3 ≤ d) (hI : Inv s)  : GC Z d 80 [.ref (A 65), .ref (A 2)] (WW Z A s ++ ex) 0 0 (fun v u => ∃ t : GS, Inv t ∧ Fr fm_80_65_2 s t ∧ ∃ z : Int64, v = some (.long z) ∧ u = WW Z A t ++ ex) X := by
  intro post xp hP hX
  obtain ⟨u_2_3, e_2_3⟩ : ∃ w, w = s.2.2.1 2 3 := ⟨_, rfl⟩
  have ro_2_3 := inv_F hI 0 160 rfl e_2_3
  have ct18 : ∀ (k18 : Nat) (sc18 : GS) (y18_2 : Int64) (y18_4 : Int32), Inv sc18 → Fr fm_80_65_2 s sc18 → (In y18_4 0 160) → 160 - (y18_4).toInt < (k18 : Int) → GG Z (d - 1) 80 post (gx xp) (1 + k18 * 900) 18 (fun j => xlook j [(0, .ref (A 65)), (1, .ref (A 2)), (2, .long y18_2), (4, .int y18_4)]) [] (WW Z A sc18 ++ ex) 0 0 := by
    intro k18
    induction k18 with
    | zero => intro sc18 y18_2 y18_4 hIc18 hFc18 j18_4 mm18; exact m_no mm18 j18_4 rfl
    | succ k18 ih18 =>
      intro sc18 y18_2 y18_4 hIc18 hFc18 j18_4 mm18
      refine gg_w (M := 1 + k18 * 900 + 900) (by omega) ?_
      refine g_iload 20 (gd rfl) rfl rfl ?_
      refine g_aload_n 21 (gd rfl) rfl rfl ?_
      refine g_getI 24 (gd rfl) rfl rfl rfl (fun z21 e21 => ?_)
      have q21 : u_2_3 = z21 := (fr_F e_2_3 hFc18 rfl).trans e21.symm
      subst q21
      refine g_cmp_ge 27 118 (gd rfl) rfl rfl (fun c24 => ?_) (fun c24 => ?_)
      · skip
        refine g_lload_n 119 (gd rfl) rfl rfl ?_
        exact g_lreturn (gd rfl) rfl (hP _ _ ⟨sc18, hIc18, hFc18, y18_2, rfl, rfl⟩)
      · skip
        have i24 := r_lt1 0 159 c24 j18_4 ro_2_3 rfl
        have i24a := r_lt2 1 160 c24 j18_4 ro_2_3 rfl
        refine g_aload_n 28 (gd rfl) rfl rfl ?_
        refine g_iload 30 (gd rfl) rfl rfl ?_
        refine g_callv (X := _) (As := [.int y18_4]) (r := []) (b := A 2) (q := 2) 33 (gd rfl) rfl rfl rfl rfl rfl (ww_o rfl) (Nat.le_of_ble_eq_true rfl) (mc := 0) (ms := 0) (Nat.zero_le _) (Nat.zero_le _) (P := fun v u => _) ?_ (fun e u h => h) (fun v u h => h)
        intro po30 xx30 hp30 hx30
        refine g_enter2 (k := 97) (N := 300) (by omega) rfl (Nat.le_of_ble_eq_true rfl) ?_
        refine g_aload_n 1 (gd rfl) rfl rfl ?_
        refine g_getA (q2 := 4) 4 (gd rfl) rfl rfl rfl rfl ?_
        refine g_iload_n 5 (gd rfl) rfl rfl ?_
        refine g_iaload 6 (gd rfl) rfl (n := 160) rfl (in_ix i24 rfl) (fun z30x5 e30x5 => ?_)
        have i30x5 := inv_I hIc18 (n := 160) (t := 0) (-1) 31 rfl (in_ix i24 rfl) rfl e30x5
        refine g_iconst (-1) 7 (gd rfl) rfl rfl ?_
        refine g_cmp_eq 10 29 (gd rfl) rfl rfl (fun c30x7 => ?_) (fun c30x7 => ?_)
        · skip
          have i30x7 := r_eq1 (-1) (-1) c30x7 i30x5 (in_c (-1) rfl) rfl
          refine g_iconst 0 30 (gd rfl) rfl rfl ?_
          refine g_ireturn (gd rfl) rfl (nb01 (in_w 0 1 (in_c 0 rfl) rfl)) (hp30 _ _ ?_)
          show GG _ _ _ _ _ _ _ _ [.int (Int32.ofInt 0)] _ _ _
          refine g_if_eq 36 71 (gd rfl) rfl rfl (fun c33 => ?_) (fun c33 => ?_)
          · skip
            refine g_aload_n 72 (gd rfl) rfl rfl ?_
            refine g_getA (q2 := 4) 75 (gd rfl) rfl rfl rfl rfl ?_
            refine g_iload 77 (gd rfl) rfl rfl ?_
            refine g_iaload 78 (gd rfl) rfl (n := 160) rfl (in_ix i24 rfl) (fun z77 e77 => ?_)
            have q77 : z30x5 = z77 := (e30x5).trans e77.symm
            subst q77
            refine g_iconst (-1) 79 (gd rfl) rfl rfl ?_
            refine g_cmp_eq 82 112 (gd rfl) rfl rfl (fun c79 => ?_) (fun c79 => ?_)
            · skip
              refine g_iinc 115 (gd rfl) rfl rfl (Nat.le_of_ble_eq_true rfl) (fun z112 e112 => ?_)
              have i112 := in_add 1 160 e112 i24 (in_c 1 rfl) rfl rfl
              refine g_goto 18 (gd rfl) rfl ?_
              exact gg_w (by omega) (gg_f (gf_cons rfl (gf_cons rfl (gf_cons rfl (gf_cons rfl gf_nil)))) (ih18 sc18 y18_2 z112 hIc18 hFc18 (in_w 0 160 i112 rfl) (m_up mm18 (t_add e112 i24 (in_c 1 rfl) rfl) (in_w 1 1 (in_c 1 rfl) rfl))))
            · skip
              exact n_ne c79 i30x7 (in_c (-1) rfl) rfl
          · skip
            exact zn_ne c33 (in_c 0 rfl) rfl
        · skip
          have i30x7 := r_ne1 0 31 c30x7 i30x5 (in_c (-1) rfl) rfl
          refine g_aload_n 11 (gd rfl) rfl rfl ?_
          refine g_getA (q2 := 4) 14 (gd rfl) rfl rfl rfl rfl ?_
          refine g_iload_n 15 (gd rfl) rfl rfl ?_
          refine g_iaload 16 (gd rfl) rfl (n := 160) rfl (in_ix i24 rfl) (fun z30x15 e30x15 => ?_)
          have q30x15 : z30x5 = z30x15 := (e30x5).trans e30x15.symm
          subst q30x15
          refine g_aload_n 17 (gd rfl) rfl rfl ?_
          refine g_getA (q2 := 5) 20 (gd rfl) rfl rfl rfl rfl ?_
          refine g_iload_n 21 (gd rfl) rfl rfl ?_
          refine g_iaload 22 (gd rfl) rfl (n := 160) rfl (in_ix i24 rfl) (fun z30x21 e30x21 => ?_)
          have i30x21 := inv_I hIc18 (n := 160) (t := 0) 0 31 rfl (in_ix i24 rfl) rfl e30x21
          refine g_cmp_eq 25 29 (gd rfl) rfl rfl (fun c30x22 => ?_) (fun c30x22 => ?_)
          · skip
            refine g_iconst 0 30 (gd rfl) rfl rfl ?_
            refine g_ireturn (gd rfl) rfl (nb01 (in_w 0 1 (in_c 0 rfl) rfl)) (hp30 _ _ ?_)
            show GG _ _ _ _ _ _ _ _ [.int (Int32.ofInt 0)] _ _ _
            refine g_if_eq 36 71 (gd rfl) rfl rfl (fun c33 => ?_) (fun c33 => ?_)
            · skip
              refine g_aload_n 72 (gd rfl) rfl rfl ?_
              refine g_getA (q2 := 4) 75 (gd rfl) rfl rfl rfl rfl ?_
              refine g_iload 77 (gd rfl) rfl rfl ?_
              refine g_iaload 78 (gd rfl) rfl (n := 160) rfl (in_ix i24 rfl) (fun z77 e77 => ?_)
              have q77 : z30x5 = z77 := (e30x5).trans e77.symm
              subst q77
              refine g_iconst (-1) 79 (gd rfl) rfl rfl ?_
              refine g_cmp_eq 82 112 (gd rfl) rfl rfl (fun c79 => ?_) (fun c79 => ?_)
              · skip
                exact absurd c79 c30x7
              · skip
                refine g_aload_n 83 (gd rfl) rfl rfl ?_
                refine g_getA (q2 := 6) 86 (gd rfl) rfl rfl rfl rfl ?_
                refine g_iload 88 (gd rfl) rfl rfl ?_
                refine g_iaload 89 (gd rfl) rfl (n := 160) rfl (in_ix i24 rfl) (fun z88 e88 => ?_)
                have i88 := inv_I hIc18 (n := 160) (t := 0) (-1000000) 1000000 rfl (in_ix i24 rfl) rfl e88
                refine g_if_ge 92 112 (gd rfl) rfl rfl (fun c89 => ?_) (fun c89 => ?_)
                · skip
                  have i89 := z_ge 0 1000000 c89 i88 rfl
                  refine g_iinc 115 (gd rfl) rfl rfl (Nat.le_of_ble_eq_true rfl) (fun z112 e112 => ?_)
                  have i112 := in_add 1 160 e112 i24 (in_c 1 rfl) rfl rfl
                  refine g_goto 18 (gd rfl) rfl ?_
                  exact gg_w (by omega) (gg_f (gf_cons rfl (gf_cons rfl (gf_cons rfl (gf_cons rfl gf_nil)))) (ih18 sc18 y18_2 z112 hIc18 hFc18 (in_w 0 160 i112 rfl) (m_up mm18 (t_add e112 i24 (in_c 1 rfl) rfl) (in_w 1 1 (in_c 1 rfl) rfl))))
                · skip
                  have i89 := z_lt (-1000000) (-1) c89 i88 rfl
                  refine g_lload_n 93 (gd rfl) rfl rfl ?_
                  refine g_aload_n 94 (gd rfl) rfl rfl ?_
                  refine g_getA (q2 := 6) 97 (gd rfl) rfl rfl rfl rfl ?_
                  refine g_iload 99 (gd rfl) rfl rfl ?_
                  refine g_iaload 100 (gd rfl) rfl (n := 160) rfl (in_ix i24 rfl) (fun z99 e99 => ?_)
                  have q99 : z88 = z99 := (e88).trans e99.symm
                  subst q99
                  refine g_i2l 101 (gd rfl) rfl (fun z100 e100 => ?_)
                  have i100 := l_i e100 i89
                  refine g_aload_n 102 (gd rfl) rfl rfl ?_
                  refine g_getA (q2 := 7) 105 (gd rfl) rfl rfl rfl rfl ?_
                  refine g_iload 107 (gd rfl) rfl rfl ?_
                  refine g_iaload 108 (gd rfl) rfl (n := 160) rfl (in_ix i24 rfl) (fun z107 e107 => ?_)
                  have i107 := inv_I hIc18 (n := 160) (t := 0) 0 1000000 rfl (in_ix i24 rfl) rfl e107
                  refine g_i2l 109 (gd rfl) rfl (fun z108 e108 => ?_)
                  have i108 := l_i e108 i107
                  refine g_lmul 110 (gd rfl) rfl (fun z109 e109 => ?_)
                  refine g_ladd 111 (gd rfl) rfl (fun z110 e110 => ?_)
                  refine g_lstore_n 112 (gd rfl) rfl (Nat.le_of_ble_eq_true rfl) ?_
                  refine g_iinc 115 (gd rfl) rfl rfl (Nat.le_of_ble_eq_true rfl) (fun z112 e112 => ?_)
                  have i112 := in_add 1 160 e112 i24 (in_c 1 rfl) rfl rfl
                  refine g_goto 18 (gd rfl) rfl ?_
                  exact gg_w (by omega) (gg_f (gf_cons rfl (gf_cons rfl (gf_cons rfl (gf_cons rfl gf_nil)))) (ih18 sc18 z110 z112 hIc18 hFc18 (in_w 0 160 i112 rfl) (m_up mm18 (t_add e112 i24 (in_c 1 rfl) rfl) (in_w 1 1 (in_c 1 rfl) rfl))))
            · skip
              exact zn_ne c33 (in_c 0 rfl) rfl
          · skip
            refine g_iconst 1 26 (gd rfl) rfl rfl ?_
            refine g_goto 30 (gd rfl) rfl ?_
            refine g_ireturn (gd rfl) rfl (nb01 (in_w 0 1 (in_c 1 rfl) rfl)) (hp30 _ _ ?_)
            show GG _ _ _ _ _ _ _ _ [.int (Int32.ofInt 1)] _ _ _
            refine g_if_eq 36 71 (gd rfl) rfl rfl (fun c33 => ?_) (fun c33 => ?_)
            · skip
              exact zn_eq c33 (in_c 1 rfl) rfl
            · skip
              refine g_aload_n 37 (gd rfl) rfl rfl ?_
              refine g_aload_n 38 (gd rfl) rfl rfl ?_
              refine g_getA (q2 := 4) 41 (gd rfl) rfl rfl rfl rfl ?_
              refine g_iload 43 (gd rfl) rfl rfl ?_
              refine g_iaload 44 (gd rfl) rfl (n := 160) rfl (in_ix i24 rfl) (fun z43 e43 => ?_)
              have q43 : z30x5 = z43 := (e30x5).trans e43.symm
              subst q43
              refine g_aload_n 45 (gd rfl) rfl rfl ?_
              refine g_getA (q2 := 5) 48 (gd rfl) rfl rfl rfl rfl ?_
              refine g_iload 50 (gd rfl) rfl rfl ?_
              refine g_iaload 51 (gd rfl) rfl (n := 160) rfl (in_ix i24 rfl) (fun z50 e50 => ?_)
              have q50 : z30x21 = z50 := (e30x21).trans e50.symm
              subst q50
              refine g_aload_n 52 (gd rfl) rfl rfl ?_
              refine g_getA (q2 := 6) 55 (gd rfl) rfl rfl rfl rfl ?_
              refine g_iload 57 (gd rfl) rfl rfl ?_
              refine g_iaload 58 (gd rfl) rfl (n := 160) rfl (in_ix i24 rfl) (fun z57 e57 => ?_)
              have i57 := inv_I hIc18 (n := 160) (t := 0) (-1000000) 1000000 rfl (in_ix i24 rfl) rfl e57
              refine g_aload_n 59 (gd rfl) rfl rfl ?_
              refine g_getA (q2 := 7) 62 (gd rfl) rfl rfl rfl rfl ?_
              refine g_iload 64 (gd rfl) rfl rfl ?_
              refine g_iaload 65 (gd rfl) rfl (n := 160) rfl (in_ix i24 rfl) (fun z64 e64 => ?_)
              have i64 := inv_I hIc18 (n := 160) (t := 0) 0 1000000 rfl (in_ix i24 rfl) rfl e64
              refine g_callv (X := _) (As := [.int z30x5, .int z30x21, .int z57, .int z64]) (r := []) (b := A 65) (q := 65) 68 (gd rfl) rfl rfl rfl rfl rfl (ww_o rfl) (Nat.le_of_ble_eq_true rfl) (Nat.zero_le _) (Nat.zero_le _) (k_84_65 (by omega) hIc18 (in_w 0 31 i30x7 rfl) (in_w 0 31 i30x21 rfl) (in_w (-1000000) 1000000 i57 rfl) (in_w 0 1000000 i64 rfl)) (fun e u h => h) (fun v u h => ?_)
              obtain ⟨s65, hI65, hF65, rfl, rfl⟩ := h
              show GG _ _ _ _ _ _ _ _ [] _ _ _
              refine g_goto 112 (gd rfl) rfl ?_
              refine g_iinc 115 (gd rfl) rfl rfl (Nat.le_of_ble_eq_true rfl) (fun z112 e112 => ?_)
              have i112 := in_add 1 160 e112 i24 (in_c 1 rfl) rfl rfl
              refine g_goto 18 (gd rfl) rfl ?_
              exact gg_w (by omega) (gg_f (gf_cons rfl (gf_cons rfl (gf_cons rfl (gf_cons rfl gf_nil)))) (ih18 s65 y18_2 z112 hI65 (fr_tr rfl hFc18 hF65) (in_w 0 160 i112 rfl) (m_up mm18 (t_add e112 i24 (in_c 1 rfl) rfl) (in_w 1 1 (in_c 1 rfl) rfl))))
  refine g_enter2 (k := 80) (N := 145801) (by omega) rfl (Nat.le_of_ble_eq_true rfl) ?_
  refine g_aload_n 1 (gd rfl) rfl rfl ?_
  refine g_getA (q2 := 74) 4 (gd rfl) rfl rfl rfl rfl ?_
  refine g_iconst 0 5 (gd rfl) rfl rfl ?_
  refine g_calls (As := [.ref (A 74), .int (Int32.ofInt 0)]) (r := []) 8 (gd rfl) rfl rfl rfl rfl rfl (Nat.le_of_ble_eq_true rfl) (Nat.zero_le _) (Nat.zero_le _) (k_fillI 74 (by omega) hI (in_c 0 rfl) (n := 32) rfl rfl rfl rfl) (fun v u h => ?_)
  obtain ⟨s5, hI5, hF5, rfl, rfl, fl5⟩ := h
  show GG _ _ _ _ _ _ _ _ [] _ _ _
  refine g_aload_n 9 (gd rfl) rfl rfl ?_
  refine g_iconst 0 10 (gd rfl) rfl rfl ?_
  refine g_putI 13 (gd rfl) rfl rfl rfl rfl ?_
  have hI10 := inv_sF (q := 65) (j := 8) hI5 rfl (in_w 0 160 (in_c 0 rfl) rfl)
  refine g_lconst 0 14 (gd rfl) rfl rfl ?_
  refine g_lstore_n 15 (gd rfl) rfl (Nat.le_of_ble_eq_true rfl) ?_
  refine g_iconst 0 16 (gd rfl) rfl rfl ?_
  refine g_istore 18 (gd rfl) rfl (Nat.le_of_ble_eq_true rfl) ?_
  exact gg_w (by omega) (gg_f (gf_cons rfl (gf_cons rfl (gf_cons rfl (gf_cons rfl gf_nil)))) (ct18 161 (sF s5 65 8 (Int32.ofInt 0)) (Int64.ofInt 0) (Int32.ofInt 0) hI10 (fr_sF rfl (fr_tr rfl fr_rf hF5)) (in_w 0 160 (in_c 0 rfl) rfl) (m_in 161 (in_w 0 160 (in_c 0 rfl) rfl) rfl)))

def fm_80_65_32 : FM := ([69, 70, 71, 72, 73, 74], [], [(65, 8)], [])
/-- GraphHouse$Flows.layArcs -/
theorem k_80_65_32 {Z : AmZ} {A : Nat → Nat} {s : GS} {ex : va_W} {d : Nat} {X : AmX}  (hd : 3 ≤ d) (hI : Inv s)  : GC Z d 80 [.ref (A 65), .ref (A 32)] (WW Z A s ++ ex) 0 0 (fun v u => ∃ t : GS, Inv t ∧ Fr fm_80_65_32 s t ∧ ∃ z : Int64, v = some (.long z) ∧ u = WW Z A t ++ ex) X := by
  intro post xp hP hX
  obtain ⟨u_32_3, e_32_3⟩ : ∃ w, w = s.2.2.1 32 3 := ⟨_, rfl⟩
  have ro_32_3 := inv_F hI 0 160 rfl e_32_3
  have ct18 : ∀ (k18 : Nat) (sc18 : GS) (y18_2 : Int64) (y18_4 : Int32), Inv sc18 → Fr fm_80_65_32 s sc18 → (In y18_4 0 160) → 160 - (y18_4).toInt < (k18 : Int) → GG Z (d - 1) 80 post (gx xp) (1 + k18 * 900) 18 (fun j => xlook j [(0, .ref (A 65)), (1, .ref (A 32)), (2, .long y18_2), (4, .int y18_4)]) [] (WW Z A sc18 ++ ex) 0 0 := by
    intro k18
    induction k18 with
    | zero => intro sc18 y18_2 y18_4 hIc18 hFc18 j18_4 mm18; exact m_no mm18 j18_4 rfl
    | succ k18 ih18 =>
      intro sc18 y18_2 y18_4 hIc18 hFc18 j18_4 mm18
      refine gg_w (M := 1 + k18 * 900 + 900) (by omega) ?_
      refine g_iload 20 (gd rfl) rfl rfl ?_
      refine g_aload_n 21 (gd rfl) rfl rfl ?_
      refine g_getI 24 (gd rfl) rfl rfl rfl (fun z21 e21 => ?_)
      have q21 : u_32_3 = z21 := (fr_F e_32_3 hFc18 rfl).trans e21.symm
      subst q21
      refine g_cmp_ge 27 118 (gd rfl) rfl rfl (fun c24 => ?_) (fun c24 => ?_)
      · skip
        refine g_lload_n 119 (gd rfl) rfl rfl ?_
        exact g_lreturn (gd rfl) rfl (hP _ _ ⟨sc18, hIc18, hFc18, y18_2, rfl, rfl⟩)
      · skip
        have i24 := r_lt1 0 159 c24 j18_4 ro_32_3 rfl
        have i24a := r_lt2 1 160 c24 j18_4 ro_32_3 rfl
        refine g_aload_n 28 (gd rfl) rfl rfl ?_
        refine g_iload 30 (gd rfl) rfl rfl ?_
        refine g_callv (X := _) (As := [.int y18_4]) (r := []) (b := A 32) (q := 32) 33 (gd rfl) rfl rfl rfl rfl rfl (ww_o rfl) (Nat.le_of_ble_eq_true rfl) (mc := 0) (ms := 0) (Nat.zero_le _) (Nat.zero_le _) (P := fun v u => _) ?_ (fun e u h => h) (fun v u h => h)
        intro po30 xx30 hp30 hx30
        refine g_enter2 (k := 97) (N := 300) (by omega) rfl (Nat.le_of_ble_eq_true rfl) ?_
        refine g_aload_n 1 (gd rfl) rfl rfl ?_
        refine g_getA (q2 := 34) 4 (gd rfl) rfl rfl rfl rfl ?_
        refine g_iload_n 5 (gd rfl) rfl rfl ?_
        refine g_iaload 6 (gd rfl) rfl (n := 160) rfl (in_ix i24 rfl) (fun z30x5 e30x5 => ?_)
        have i30x5 := inv_I hIc18 (n := 160) (t := 0) (-1) 31 rfl (in_ix i24 rfl) rfl e30x5
        refine g_iconst (-1) 7 (gd rfl) rfl rfl ?_
        refine g_cmp_eq 10 29 (gd rfl) rfl rfl (fun c30x7 => ?_) (fun c30x7 => ?_)
        · skip
          have i30x7 := r_eq1 (-1) (-1) c30x7 i30x5 (in_c (-1) rfl) rfl
          refine g_iconst 0 30 (gd rfl) rfl rfl ?_
          refine g_ireturn (gd rfl) rfl (nb01 (in_w 0 1 (in_c 0 rfl) rfl)) (hp30 _ _ ?_)
          show GG _ _ _ _ _ _ _ _ [.int (Int32.ofInt 0)] _ _ _
          refine g_if_eq 36 71 (gd rfl) rfl rfl (fun c33 => ?_) (fun c33 => ?_)
          · skip
            refine g_aload_n 72 (gd rfl) rfl rfl ?_
            refine g_getA (q2 := 34) 75 (gd rfl) rfl rfl rfl rfl ?_
            refine g_iload 77 (gd rfl) rfl rfl ?_
            refine g_iaload 78 (gd rfl) rfl (n := 160) rfl (in_ix i24 rfl) (fun z77 e77 => ?_)
            have q77 : z30x5 = z77 := (e30x5).trans e77.symm
            subst q77
            refine g_iconst (-1) 79 (gd rfl) rfl rfl ?_
            refine g_cmp_eq 82 112 (gd rfl) rfl rfl (fun c79 => ?_) (fun c79 => ?_)
            · skip
              refine g_iinc 115 (gd rfl) rfl rfl (Nat.le_of_ble_eq_true rfl) (fun z112 e112 => ?_)
              have i112 := in_add 1 160 e112 i24 (in_c 1 rfl) rfl rfl
              refine g_goto 18 (gd rfl) rfl ?_
              exact gg_w (by omega) (gg_f (gf_cons rfl (gf_cons rfl (gf_cons rfl (gf_cons rfl gf_nil)))) (ih18 sc18 y18_2 z112 hIc18 hFc18 (in_w 0 160 i112 rfl) (m_up mm18 (t_add e112 i24 (in_c 1 rfl) rfl) (in_w 1 1 (in_c 1 rfl) rfl))))
            · skip
              exact n_ne c79 i30x7 (in_c (-1) rfl) rfl
          · skip
            exact zn_ne c33 (in_c 0 rfl) rfl
        · skip
          have i30x7 := r_ne1 0 31 c30x7 i30x5 (in_c (-1) rfl) rfl
          refine g_aload_n 11 (gd rfl) rfl rfl ?_
          refine g_getA (q2 := 34) 14 (gd rfl) rfl rfl rfl rfl ?_
          refine g_iload_n 15 (gd rfl) rfl rfl ?_
          refine g_iaload 16 (gd rfl) rfl (n := 160) rfl (in_ix i24 rfl) (fun z30x15 e30x15 => ?_)
          have q30x15 : z30x5 = z30x15 := (e30x5).trans e30x15.symm
          subst q30x15
          refine g_aload_n 17 (gd rfl) rfl rfl ?_
          refine g_getA (q2 := 35) 20 (gd rfl) rfl rfl rfl rfl ?_
          refine g_iload_n 21 (gd rfl) rfl rfl ?_
          refine g_iaload 22 (gd rfl) rfl (n := 160) rfl (in_ix i24 rfl) (fun z30x21 e30x21 => ?_)
          have i30x21 := inv_I hIc18 (n := 160) (t := 0) 0 31 rfl (in_ix i24 rfl) rfl e30x21
          refine g_cmp_eq 25 29 (gd rfl) rfl rfl (fun c30x22 => ?_) (fun c30x22 => ?_)
          · skip
            refine g_iconst 0 30 (gd rfl) rfl rfl ?_
            refine g_ireturn (gd rfl) rfl (nb01 (in_w 0 1 (in_c 0 rfl) rfl)) (hp30 _ _ ?_)
            show GG _ _ _ _ _ _ _ _ [.int (Int32.ofInt 0)] _ _ _
            refine g_if_eq 36 71 (gd rfl) rfl rfl (fun c33 => ?_) (fun c33 => ?_)
            · skip
              refine g_aload_n 72 (gd rfl) rfl rfl ?_
              refine g_getA (q2 := 34) 75 (gd rfl) rfl rfl rfl rfl ?_
              refine g_iload 77 (gd rfl) rfl rfl ?_
              refine g_iaload 78 (gd rfl) rfl (n := 160) rfl (in_ix i24 rfl) (fun z77 e77 => ?_)
              have q77 : z30x5 = z77 := (e30x5).trans e77.symm
              subst q77
              refine g_iconst (-1) 79 (gd rfl) rfl rfl ?_
              refine g_cmp_eq 82 112 (gd rfl) rfl rfl (fun c79 => ?_) (fun c79 => ?_)
              · skip
                exact absurd c79 c30x7
              · skip
                refine g_aload_n 83 (gd rfl) rfl rfl ?_
                refine g_getA (q2 := 36) 86 (gd rfl) rfl rfl rfl rfl ?_
                refine g_iload 88 (gd rfl) rfl rfl ?_
                refine g_iaload 89 (gd rfl) rfl (n := 160) rfl (in_ix i24 rfl) (fun z88 e88 => ?_)
                have i88 := inv_I hIc18 (n := 160) (t := 0) (-1000000) 1000000 rfl (in_ix i24 rfl) rfl e88
                refine g_if_ge 92 112 (gd rfl) rfl rfl (fun c89 => ?_) (fun c89 => ?_)
                · skip
                  have i89 := z_ge 0 1000000 c89 i88 rfl
                  refine g_iinc 115 (gd rfl) rfl rfl (Nat.le_of_ble_eq_true rfl) (fun z112 e112 => ?_)
                  have i112 := in_add 1 160 e112 i24 (in_c 1 rfl) rfl rfl
                  refine g_goto 18 (gd rfl) rfl ?_
                  exact gg_w (by omega) (gg_f (gf_cons rfl (gf_cons rfl (gf_cons rfl (gf_cons rfl gf_nil)))) (ih18 sc18 y18_2 z112 hIc18 hFc18 (in_w 0 160 i112 rfl) (m_up mm18 (t_add e112 i24 (in_c 1 rfl) rfl) (in_w 1 1 (in_c 1 rfl) rfl))))
                · skip
                  have i89 := z_lt (-1000000) (-1) c89 i88 rfl
                  refine g_lload_n 93 (gd rfl) rfl rfl ?_
                  refine g_aload_n 94 (gd rfl) rfl rfl ?_
                  refine g_getA (q2 := 36) 97 (gd rfl) rfl rfl rfl rfl ?_
                  refine g_iload 99 (gd rfl) rfl rfl ?_
                  refine g_iaload 100 (gd rfl) rfl (n := 160) rfl (in_ix i24 rfl) (fun z99 e99 => ?_)
                  have q99 : z88 = z99 := (e88).trans e99.symm
                  subst q99
                  refine g_i2l 101 (gd rfl) rfl (fun z100 e100 => ?_)
                  have i100 := l_i e100 i89
                  refine g_aload_n 102 (gd rfl) rfl rfl ?_
                  refine g_getA (q2 := 37) 105 (gd rfl) rfl rfl rfl rfl ?_
                  refine g_iload 107 (gd rfl) rfl rfl ?_
                  refine g_iaload 108 (gd rfl) rfl (n := 160) rfl (in_ix i24 rfl) (fun z107 e107 => ?_)
                  have i107 := inv_I hIc18 (n := 160) (t := 0) 0 1000000 rfl (in_ix i24 rfl) rfl e107
                  refine g_i2l 109 (gd rfl) rfl (fun z108 e108 => ?_)
                  have i108 := l_i e108 i107
                  refine g_lmul 110 (gd rfl) rfl (fun z109 e109 => ?_)
                  refine g_ladd 111 (gd rfl) rfl (fun z110 e110 => ?_)
                  refine g_lstore_n 112 (gd rfl) rfl (Nat.le_of_ble_eq_true rfl) ?_
                  refine g_iinc 115 (gd rfl) rfl rfl (Nat.le_of_ble_eq_true rfl) (fun z112 e112 => ?_)
                  have i112 := in_add 1 160 e112 i24 (in_c 1 rfl) rfl rfl
                  refine g_goto 18 (gd rfl) rfl ?_
                  exact gg_w (by omega) (gg_f (gf_cons rfl (gf_cons rfl (gf_cons rfl (gf_cons rfl gf_nil)))) (ih18 sc18 z110 z112 hIc18 hFc18 (in_w 0 160 i112 rfl) (m_up mm18 (t_add e112 i24 (in_c 1 rfl) rfl) (in_w 1 1 (in_c 1 rfl) rfl))))
            · skip
              exact zn_ne c33 (in_c 0 rfl) rfl
          · skip
            refine g_iconst 1 26 (gd rfl) rfl rfl ?_
            refine g_goto 30 (gd rfl) rfl ?_
            refine g_ireturn (gd rfl) rfl (nb01 (in_w 0 1 (in_c 1 rfl) rfl)) (hp30 _ _ ?_)
            show GG _ _ _ _ _ _ _ _ [.int (Int32.ofInt 1)] _ _ _
            refine g_if_eq 36 71 (gd rfl) rfl rfl (fun c33 => ?_) (fun c33 => ?_)
            · skip
              exact zn_eq c33 (in_c 1 rfl) rfl
            · skip
              refine g_aload_n 37 (gd rfl) rfl rfl ?_
              refine g_aload_n 38 (gd rfl) rfl rfl ?_
              refine g_getA (q2 := 34) 41 (gd rfl) rfl rfl rfl rfl ?_
              refine g_iload 43 (gd rfl) rfl rfl ?_
              refine g_iaload 44 (gd rfl) rfl (n := 160) rfl (in_ix i24 rfl) (fun z43 e43 => ?_)
              have q43 : z30x5 = z43 := (e30x5).trans e43.symm
              subst q43
              refine g_aload_n 45 (gd rfl) rfl rfl ?_
              refine g_getA (q2 := 35) 48 (gd rfl) rfl rfl rfl rfl ?_
              refine g_iload 50 (gd rfl) rfl rfl ?_
              refine g_iaload 51 (gd rfl) rfl (n := 160) rfl (in_ix i24 rfl) (fun z50 e50 => ?_)
              have q50 : z30x21 = z50 := (e30x21).trans e50.symm
              subst q50
              refine g_aload_n 52 (gd rfl) rfl rfl ?_
              refine g_getA (q2 := 36) 55 (gd rfl) rfl rfl rfl rfl ?_
              refine g_iload 57 (gd rfl) rfl rfl ?_
              refine g_iaload 58 (gd rfl) rfl (n := 160) rfl (in_ix i24 rfl) (fun z57 e57 => ?_)
              have i57 := inv_I hIc18 (n := 160) (t := 0) (-1000000) 1000000 rfl (in_ix i24 rfl) rfl e57
              refine g_aload_n 59 (gd rfl) rfl rfl ?_
              refine g_getA (q2 := 37) 62 (gd rfl) rfl rfl rfl rfl ?_
              refine g_iload 64 (gd rfl) rfl rfl ?_
              refine g_iaload 65 (gd rfl) rfl (n := 160) rfl (in_ix i24 rfl) (fun z64 e64 => ?_)
              have i64 := inv_I hIc18 (n := 160) (t := 0) 0 1000000 rfl (in_ix i24 rfl) rfl e64
              refine g_callv (X := _) (As := [.int z30x5, .int z30x21, .int z57, .int z64]) (r := []) (b := A 65) (q := 65) 68 (gd rfl) rfl rfl rfl rfl rfl (ww_o rfl) (Nat.le_of_ble_eq_true rfl) (Nat.zero_le _) (Nat.zero_le _) (k_84_65 (by omega) hIc18 (in_w 0 31 i30x7 rfl) (in_w 0 31 i30x21 rfl) (in_w (-1000000) 1000000 i57 rfl) (in_w 0 1000000 i64 rfl)) (fun e u h => h) (fun v u h => ?_)
              obtain ⟨s65, hI65, hF65, rfl, rfl⟩ := h
              show GG _ _ _ _ _ _ _ _ [] _ _ _
              refine g_goto 112 (gd rfl) rfl ?_
              refine g_iinc 115 (gd rfl) rfl rfl (Nat.le_of_ble_eq_true rfl) (fun z112 e112 => ?_)
              have i112 := in_add 1 160 e112 i24 (in_c 1 rfl) rfl rfl
              refine g_goto 18 (gd rfl) rfl ?_
              exact gg_w (by omega) (gg_f (gf_cons rfl (gf_cons rfl (gf_cons rfl (gf_cons rfl gf_nil)))) (ih18 s65 y18_2 z112 hI65 (fr_tr rfl hFc18 hF65) (in_w 0 160 i112 rfl) (m_up mm18 (t_add e112 i24 (in_c 1 rfl) rfl) (in_w 1 1 (in_c 1 rfl) rfl))))
  refine g_enter2 (k := 80) (N := 145801) (by omega) rfl (Nat.le_of_ble_eq_true rfl) ?_
  refine g_aload_n 1 (gd rfl) rfl rfl ?_
  refine g_getA (q2 := 74) 4 (gd rfl) rfl rfl rfl rfl ?_
  refine g_iconst 0 5 (gd rfl) rfl rfl ?_
  refine g_calls (As := [.ref (A 74), .int (Int32.ofInt 0)]) (r := []) 8 (gd rfl) rfl rfl rfl rfl rfl (Nat.le_of_ble_eq_true rfl) (Nat.zero_le _) (Nat.zero_le _) (k_fillI 74 (by omega) hI (in_c 0 rfl) (n := 32) rfl rfl rfl rfl) (fun v u h => ?_)
  obtain ⟨s5, hI5, hF5, rfl, rfl, fl5⟩ := h
  show GG _ _ _ _ _ _ _ _ [] _ _ _
  refine g_aload_n 9 (gd rfl) rfl rfl ?_
  refine g_iconst 0 10 (gd rfl) rfl rfl ?_
  refine g_putI 13 (gd rfl) rfl rfl rfl rfl ?_
  have hI10 := inv_sF (q := 65) (j := 8) hI5 rfl (in_w 0 160 (in_c 0 rfl) rfl)
  refine g_lconst 0 14 (gd rfl) rfl rfl ?_
  refine g_lstore_n 15 (gd rfl) rfl (Nat.le_of_ble_eq_true rfl) ?_
  refine g_iconst 0 16 (gd rfl) rfl rfl ?_
  refine g_istore 18 (gd rfl) rfl (Nat.le_of_ble_eq_true rfl) ?_
  exact gg_w (by omega) (gg_f (gf_cons rfl (gf_cons rfl (gf_cons rfl (gf_cons rfl gf_nil)))) (ct18 161 (sF s5 65 8 (Int32.ofInt 0)) (Int64.ofInt 0) (Int32.ofInt 0) hI10 (fr_sF rfl (fr_tr rfl fr_rf hF5)) (in_w 0 160 (in_c 0 rfl) rfl) (m_in 161 (in_w 0 160 (in_c 0 rfl) rfl) rfl)))

def fm_86_65 : FM := ([68], [75], [], [])
/-- GraphHouse$Flows.relaxAll -/
theorem k_86_65 {Z : AmZ} {A : Nat → Nat} {s : GS} {ex : va_W} {d : Nat} {X : AmX} {x1 : Int32} {x2 : Int32} (hd : 2 ≤ d) (hI : Inv s) (h1 : In x1 0 32) (h2 : In x2 1 1048576) : GC Z d 86 [.ref (A 65), .int x1, .int x2] (WW Z A s ++ ex) 0 0 (fun v u => ∃ t : GS, Inv t ∧ Fr fm_86_65 s t ∧ v = none ∧ u = WW Z A t ++ ex) X := by
  intro post xp hP hX
  obtain ⟨u_65_8, e_65_8⟩ : ∃ w, w = s.2.2.1 65 8 := ⟨_, rfl⟩
  have ro_65_8 := inv_F hI 0 160 rfl e_65_8
  have ct5 : ∀ (k5 : Nat) (sc5 : GS) (y5_3 : Int32) (y5_4 : Int32), Inv sc5 → Fr fm_86_65 s sc5 → (In y5_3 0 1) → (In y5_4 0 33) → 33 - (y5_4).toInt < (k5 : Int) → GG Z (d - 1) 86 post (gx xp) (1 + k5 * 147601) 5 (fun j => xlook j [(0, .ref (A 65)), (1, .int x1), (2, .int x2), (3, .int y5_3), (4, .int y5_4)]) [] (WW Z A sc5 ++ ex) 0 0 := by
    intro k5
    induction k5 with
    | zero => intro sc5 y5_3 y5_4 hIc5 hFc5 j5_3 j5_4 mm5; exact m_no mm5 j5_4 rfl
    | succ k5 ih5 =>
      intro sc5 y5_3 y5_4 hIc5 hFc5 j5_3 j5_4 mm5
      refine gg_w (M := 1 + k5 * 147601 + 147601) (by omega) ?_
      have ct20 : ∀ (k20 : Nat) (sc20 : GS) (y20_3 : Int32) (y20_5 : Int32), Inv sc20 → Fr fm_86_65 s sc20 → (In y20_3 0 1) → (In y5_4 0 32) → (In y20_5 0 160) → 160 - (y20_5).toInt < (k20 : Int) → GG Z (d - 1) 86 post (gx xp) (1 + k5 * 147601 + 1 + k20 * 900) 20 (fun j => xlook j [(0, .ref (A 65)), (1, .int x1), (2, .int x2), (3, .int y20_3), (4, .int y5_4), (5, .int y20_5)]) [] (WW Z A sc20 ++ ex) 0 0 := by
        intro k20
        induction k20 with
        | zero => intro sc20 y20_3 y20_5 hIc20 hFc20 j20_3 j20_4 j20_5 mm20; exact m_no mm20 j20_5 rfl
        | succ k20 ih20 =>
          intro sc20 y20_3 y20_5 hIc20 hFc20 j20_3 j20_4 j20_5 mm20
          refine gg_w (M := 1 + k5 * 147601 + 1 + k20 * 900 + 900) (by omega) ?_
          refine g_iload 22 (gd rfl) rfl rfl ?_
          refine g_aload_n 23 (gd rfl) rfl rfl ?_
          refine g_getI 26 (gd rfl) rfl rfl rfl (fun z23 e23 => ?_)
          have q23 : u_65_8 = z23 := (fr_F e_65_8 hFc20 rfl).trans e23.symm
          subst q23
          refine g_cmp_ge 29 45 (gd rfl) rfl rfl (fun c26 => ?_) (fun c26 => ?_)
          · skip
            refine g_iinc 48 (gd rfl) rfl rfl (Nat.le_of_ble_eq_true rfl) (fun z45 e45 => ?_)
            have i45 := in_add 1 33 e45 j20_4 (in_c 1 rfl) rfl rfl
            refine g_goto 5 (gd rfl) rfl ?_
            exact gg_w (by omega) (gg_f (gf_cons rfl (gf_cons rfl (gf_cons rfl (gf_cons rfl (gf_cons rfl gf_nil))))) (ih5 sc20 y20_3 z45 hIc20 hFc20 (in_w 0 1 j20_3 rfl) (in_w 0 33 i45 rfl) (m_up mm5 (t_add e45 j20_4 (in_c 1 rfl) rfl) (in_w 1 1 (in_c 1 rfl) rfl))))
          · skip
            have i26 := r_lt1 0 159 c26 j20_5 ro_65_8 rfl
            have i26a := r_lt2 1 160 c26 j20_5 ro_65_8 rfl
            refine g_iload_n 30 (gd rfl) rfl rfl ?_
            refine g_aload_n 31 (gd rfl) rfl rfl ?_
            refine g_iload 33 (gd rfl) rfl rfl ?_
            refine g_iload_n 34 (gd rfl) rfl rfl ?_
            refine g_callv (X := _) (As := [.int y20_5, .int x2]) (r := [.int y20_3]) (b := A 65) (q := 65) 37 (gd rfl) rfl rfl rfl rfl rfl (ww_o rfl) (Nat.le_of_ble_eq_true rfl) (Nat.zero_le _) (Nat.zero_le _) (k_87_65 (by omega) hIc20 (in_w 0 159 i26 rfl) (in_w 1 1048576 h2 rfl)) (fun e u h => h) (fun v u h => ?_)
            obtain ⟨s34, hI34, hF34, z34, rfl, rfl, i34⟩ := h
            show GG _ _ _ _ _ _ _ _ [.int z34, .int y20_3] _ _ _
            refine g_ior 38 (gd rfl) rfl (fun z37 e37 => ?_)
            have i37 := in_or 1 e37 (in_w 0 1 j20_3 rfl) (in_w 0 1 i34 rfl) rfl
            refine g_istore_n 39 (gd rfl) rfl (Nat.le_of_ble_eq_true rfl) ?_
            refine g_iinc 42 (gd rfl) rfl rfl (Nat.le_of_ble_eq_true rfl) (fun z39 e39 => ?_)
            have i39 := in_add 1 160 e39 i26 (in_c 1 rfl) rfl rfl
            refine g_goto 20 (gd rfl) rfl ?_
            exact gg_w (by omega) (gg_f (gf_cons rfl (gf_cons rfl (gf_cons rfl (gf_cons rfl (gf_cons rfl (gf_cons rfl gf_nil)))))) (ih20 s34 z37 z39 hI34 (fr_tr rfl hFc20 hF34) (in_w 0 1 i37 rfl) (in_w 0 32 j20_4 rfl) (in_w 0 160 i39 rfl) (m_up mm20 (t_add e39 i26 (in_c 1 rfl) rfl) (in_w 1 1 (in_c 1 rfl) rfl))))
      refine g_iload 7 (gd rfl) rfl rfl ?_
      refine g_iload_n 8 (gd rfl) rfl rfl ?_
      refine g_cmp_gt 11 51 (gd rfl) rfl rfl (fun c8 => ?_) (fun c8 => ?_)
      · skip
        have i8 := r_lt2 1 33 c8 h1 j5_4 rfl
        exact g_return (gd rfl) rfl (hP _ _ ⟨sc5, hIc5, hFc5, rfl, rfl⟩)
      · skip
        have i8 := r_le1 0 32 c8 j5_4 h1 rfl
        refine g_iload_n 12 (gd rfl) rfl rfl ?_
        refine g_if_eq 15 51 (gd rfl) rfl rfl (fun c12 => ?_) (fun c12 => ?_)
        · skip
          have i12 := z_eq 0 0 c12 j5_3 rfl
          exact g_return (gd rfl) rfl (hP _ _ ⟨sc5, hIc5, hFc5, rfl, rfl⟩)
        · skip
          have i12 := z_ne 1 1 c12 j5_3 rfl
          refine g_iconst 0 16 (gd rfl) rfl rfl ?_
          refine g_istore_n 17 (gd rfl) rfl (Nat.le_of_ble_eq_true rfl) ?_
          refine g_iconst 0 18 (gd rfl) rfl rfl ?_
          refine g_istore 20 (gd rfl) rfl (Nat.le_of_ble_eq_true rfl) ?_
          exact gg_w (by omega) (gg_f (gf_cons rfl (gf_cons rfl (gf_cons rfl (gf_cons rfl (gf_cons rfl (gf_cons rfl gf_nil)))))) (ct20 161 sc5 (Int32.ofInt 0) (Int32.ofInt 0) hIc5 hFc5 (in_w 0 1 (in_c 0 rfl) rfl) (in_w 0 32 i8 rfl) (in_w 0 160 (in_c 0 rfl) rfl) (m_in 161 (in_w 0 160 (in_c 0 rfl) rfl) rfl)))
  refine g_enter2 (k := 86) (N := 5019335) (by omega) rfl (Nat.le_of_ble_eq_true rfl) ?_
  refine g_iconst 1 1 (gd rfl) rfl rfl ?_
  refine g_istore_n 2 (gd rfl) rfl (Nat.le_of_ble_eq_true rfl) ?_
  refine g_iconst 0 3 (gd rfl) rfl rfl ?_
  refine g_istore 5 (gd rfl) rfl (Nat.le_of_ble_eq_true rfl) ?_
  exact gg_w (by omega) (gg_f (gf_cons rfl (gf_cons rfl (gf_cons rfl (gf_cons rfl (gf_cons rfl gf_nil))))) (ct5 34 s (Int32.ofInt 1) (Int32.ofInt 0) hI fr_rf (in_w 0 1 (in_c 1 rfl) rfl) (in_w 0 33 (in_c 0 rfl) rfl) (m_in 34 (in_w 0 33 (in_c 0 rfl) rfl) rfl)))
