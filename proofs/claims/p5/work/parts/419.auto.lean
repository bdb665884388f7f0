/-! methods, by vc.py -/
def fm_115_86_32 : FM := ([89, 90, 92, 93], [], [], [])
/-- GraphHouse$Groups.settleNode -/
theorem k_115_86_32 {Z : AmZ} {A : Nat → Nat} {s : GS} {ex : va_W} {d : Nat} {X : AmX} {x2 : Int32} {u_32_4 : Int32} {u_32_0 : Int32} (hd : 5 ≤ d) (hI : Inv s) (h2 : In x2 0 31) (e_32_4 : u_32_4 = s.2.2.1 32 4) (e_32_0 : u_32_0 = s.2.2.1 32 0) (p_0 : (u_32_4).toInt = (u_32_0).toInt) : GC Z d 115 [.ref (A 86), .ref (A 32), .int x2] (WW Z A s ++ ex) 0 0 (fun v u => ∃ t : GS, Inv t ∧ Fr fm_115_86_32 s t ∧ ∃ z : Int32, v = some (.int z) ∧ u = WW Z A t ++ ex ∧ In z 0 1) X := by
  intro post xp hP hX
  have ro_32_4 := inv_F hI (-1) 4000 rfl e_32_4
  have ro_32_0 := inv_F hI 0 4000 rfl e_32_0
  have ct186 : ∀ (sc186 : GS) (y186_3 : Int32) (y186_4 : Int64) (y186_6 : Int32) (y186_7 : Int32) (y186_8 : Int32), Inv sc186 → Fr fm_115_86_32 s sc186 → (In y186_3 0 31) → (In y186_6 0 31) → (In y186_8 0 0) → GG Z (d - 1) 115 post (gx xp) (901) 186 (fun j => xlook j [(0, .ref (A 86)), (1, .ref (A 32)), (2, .int x2), (3, .int y186_3), (4, .long y186_4), (6, .int y186_6), (7, .int y186_7), (8, .int y186_8)]) [] (WW Z A sc186 ++ ex) 0 0 := by
    intro sc186 y186_3 y186_4 y186_6 y186_7 y186_8 hIc186 hFc186 j186_3 j186_6 j186_8
    refine g_iconst 0 187 (gd rfl) rfl rfl ?_
    exact g_ireturn (gd rfl) rfl (nb01 (in_w 0 1 (in_c 0 rfl) rfl)) (hP _ _ ⟨sc186, hIc186, hFc186, (Int32.ofInt 0), rfl, rfl, in_w 0 1 (in_c 0 rfl) rfl⟩)
  have ct157 : ∀ (sc157 : GS) (y157_3 : Int32) (y157_4 : Int64) (y157_6 : Int32) (y157_7 : Int32) (y157_8 : Int32), Inv sc157 → Fr fm_115_86_32 s sc157 → (In y157_3 0 31) → (In y157_6 (-1) 31) → (In y157_8 0 0) → GG Z (d - 1) 115 post (gx xp) (1802) 157 (fun j => xlook j [(0, .ref (A 86)), (1, .ref (A 32)), (2, .int x2), (3, .int y157_3), (4, .long y157_4), (6, .int y157_6), (7, .int y157_7), (8, .int y157_8)]) [] (WW Z A sc157 ++ ex) 0 0 := by
    intro sc157 y157_3 y157_4 y157_6 y157_7 y157_8 hIc157 hFc157 j157_3 j157_6 j157_8
    refine g_iconst 0 158 (gd rfl) rfl rfl ?_
    exact g_ireturn (gd rfl) rfl (nb01 (in_w 0 1 (in_c 0 rfl) rfl)) (hP _ _ ⟨sc157, hIc157, hFc157, (Int32.ofInt 0), rfl, rfl, in_w 0 1 (in_c 0 rfl) rfl⟩)
  have ct134 : ∀ (sc134 : GS) (y134_3 : Int32) (y134_4 : Int64) (y134_6 : Int32) (y134_7 : Int32) (y134_8 : Int32), Inv sc134 → Fr fm_115_86_32 s sc134 → (In y134_3 0 31) → (In y134_6 (-1) 31) → (In y134_8 0 0) → GG Z (d - 1) 115 post (gx xp) (2703) 134 (fun j => xlook j [(0, .ref (A 86)), (1, .ref (A 32)), (2, .int x2), (3, .int y134_3), (4, .long y134_4), (6, .int y134_6), (7, .int y134_7), (8, .int y134_8)]) [] (WW Z A sc134 ++ ex) 0 0 := by
    intro sc134 y134_3 y134_4 y134_6 y134_7 y134_8 hIc134 hFc134 j134_3 j134_6 j134_8
    refine g_lconst 0 135 (gd rfl) rfl rfl ?_
    refine g_lload 137 (gd rfl) rfl rfl ?_
    refine g_lcmp 138 (gd rfl) rfl (fun z137 e137 => ?_)
    have i137 := lc_in e137
    refine g_if_le 141 157 (gd rfl) rfl rfl (fun c138 => ?_) (fun c138 => ?_)
    · skip
      have i138 := z_le (-1) 0 c138 i137 rfl
      have c138a := lc_le e137 c138
      have i138a := lr_le2 0 9223372036854775807 c138a (l_c 0 rfl) (l_rng y134_4) rfl
      exact gg_w (by first | exact Nat.le_of_ble_eq_true rfl | omega) (gg_f (gf_cons rfl (gf_cons rfl (gf_cons rfl (gf_cons rfl (gf_cons rfl (gf_cons rfl (gf_cons rfl (gf_cons rfl gf_nil)))))))) (ct157 sc134 y134_3 y134_4 y134_6 y134_7 y134_8 hIc134 hFc134 (in_w 0 31 j134_3 rfl) (in_w (-1) 31 j134_6 rfl) (in_w 0 0 j134_8 rfl)))
    · skip
      have i138 := z_gt 1 1 c138 i137 rfl
      have c138a := lc_gt e137 c138
      have i138a := lr_lt1 (-9223372036854775808) (-1) c138a (l_rng y134_4) (l_c 0 rfl) rfl
      refine g_aload_n 142 (gd rfl) rfl rfl ?_
      refine g_iload_n 143 (gd rfl) rfl rfl ?_
      refine g_aload_n 144 (gd rfl) rfl rfl ?_
      refine g_callv (X := _) (As := []) (r := [.int x2, .ref (A 86)]) (b := A 86) (q := 86) 147 (gd rfl) rfl rfl rfl rfl rfl (ww_o rfl) (Nat.le_of_ble_eq_true rfl) (Nat.zero_le _) (Nat.zero_le _) (k_119_86 (by first | exact dq1 hd rfl | exact dq0 hd rfl | exact dq2 hd rfl | exact dq3 hd rfl | omega) hIc134 ) (fun e u h => h) (fun v u h => ?_)
      obtain ⟨z144, rfl, rfl, i144⟩ := h
      show GG _ _ _ _ _ _ _ _ [.int z144, .int x2, .ref (A 86)] _ _ _
      refine g_callv (X := _) (As := [.int x2, .int z144]) (r := []) (b := A 86) (q := 86) 150 (gd rfl) rfl rfl rfl rfl rfl (ww_o rfl) (Nat.le_of_ble_eq_true rfl) (Nat.zero_le _) (Nat.zero_le _) (k_120_86 (by first | exact dq1 hd rfl | exact dq0 hd rfl | exact dq2 hd rfl | exact dq3 hd rfl | omega) hIc134 (in_w 0 31 h2 rfl) (in_w (-1) 31 i144 rfl)) (fun e u h => h) (fun v u h => ?_)
      obtain ⟨s147, hI147, hF147, z147, rfl, rfl, i147⟩ := h
      show GG _ _ _ _ _ _ _ _ [.int z147] _ _ _
      refine g_if_eq 153 157 (gd rfl) rfl rfl (fun c150 => ?_) (fun c150 => ?_)
      · skip
        have i150 := z_eq 0 0 c150 i147 rfl
        exact gg_w (by first | exact Nat.le_of_ble_eq_true rfl | omega) (gg_f (gf_cons rfl (gf_cons rfl (gf_cons rfl (gf_cons rfl (gf_cons rfl (gf_cons rfl (gf_cons rfl (gf_cons rfl gf_nil)))))))) (ct157 s147 y134_3 y134_4 y134_6 y134_7 y134_8 hI147 (fr_tr rfl hFc134 hF147) (in_w 0 31 j134_3 rfl) (in_w (-1) 31 j134_6 rfl) (in_w 0 0 j134_8 rfl)))
      · skip
        have i150 := z_ne 1 1 c150 i147 rfl
        refine g_iconst 1 154 (gd rfl) rfl rfl ?_
        refine g_goto 158 (gd rfl) rfl ?_
        exact g_ireturn (gd rfl) rfl (nb01 (in_w 0 1 (in_c 1 rfl) rfl)) (hP _ _ ⟨s147, hI147, (fr_tr rfl hFc134 hF147), (Int32.ofInt 1), rfl, rfl, in_w 0 1 (in_c 1 rfl) rfl⟩)
  have ct35 : ∀ (k35 : Nat) (sc35 : GS) (y35_3 : Int32) (y35_4 : Int64) (y35_6 : Int32) (y35_7 : Int32) (y35_8 : Int32), Inv sc35 → Fr fm_115_86_32 s sc35 → (In y35_3 0 31) → (In y35_6 (-1) 31) → ((y35_8.toBitVec.toNat : Nat) : Int) < (k35 : Int) → GG Z (d - 1) 115 post (gx xp) (2704 + k35 * 2702) 35 (fun j => xlook j [(0, .ref (A 86)), (1, .ref (A 32)), (2, .int x2), (3, .int y35_3), (4, .long y35_4), (6, .int y35_6), (7, .int y35_7), (8, .int y35_8)]) [] (WW Z A sc35 ++ ex) 0 0 := by
    intro k35
    induction k35 with
    | zero => intro sc35 y35_3 y35_4 y35_6 y35_7 y35_8 hIc35 hFc35 j35_3 j35_6 mm35; exact absurd mm35 (Int.not_lt.mpr (Int.natCast_nonneg _))
    | succ k35 ih35 =>
      intro sc35 y35_3 y35_4 y35_6 y35_7 y35_8 hIc35 hFc35 j35_3 j35_6 mm35
      refine gg_w (M := 2704 + k35 * 2702 + 2702) gws ?_
      have ct104 : ∀ (sc104 : GS) (y104_6 : Int32) (y104_7 : Int32) (y104_9 : Int32), Inv sc104 → Fr fm_115_86_32 s sc104 → (In y104_6 (-1) 31) → (In y104_9 0 31) → ((y35_8).toInt ≠ 0) → GG Z (d - 1) 115 post (gx xp) (2704 + k35 * 2702 + 901) 104 (fun j => xlook j [(0, .ref (A 86)), (1, .ref (A 32)), (2, .int x2), (3, .int y35_3), (4, .long y35_4), (6, .int y104_6), (7, .int y104_7), (8, .int y35_8), (9, .int y104_9)]) [] (WW Z A sc104 ++ ex) 0 0 := by
        intro sc104 y104_6 y104_7 y104_9 hIc104 hFc104 j104_6 j104_9 nz104_8
        refine g_iload 106 (gd rfl) rfl rfl ?_
        refine g_iload 108 (gd rfl) rfl rfl ?_
        refine g_iconst 1 109 (gd rfl) rfl rfl ?_
        refine g_isub 110 (gd rfl) rfl (fun z109 e109 => ?_)
        refine g_iand 111 (gd rfl) rfl (fun z110 e110 => ?_)
        refine g_istore 113 (gd rfl) rfl (Nat.le_of_ble_eq_true rfl) ?_
        refine g_goto 35 (gd rfl) rfl ?_
        exact gg_w (by first | exact Nat.le_add_right _ _ | exact gw2 | exact gw3 | exact gwe rfl | exact gwf rfl | exact gwg rfl | exact gwh rfl | omega) (gg_f (gf_cons rfl (gf_cons rfl (gf_cons rfl (gf_cons rfl (gf_cons rfl (gf_cons rfl (gf_cons rfl (gf_cons rfl gf_nil)))))))) (ih35 sc104 y35_3 y35_4 y104_6 y104_7 z110 hIc104 hFc104 (in_w 0 31 j35_3 rfl) (in_w (-1) 31 j104_6 rfl) (mb e110 e109 nz104_8 mm35)))
      have ct95 : ∀ (sc95 : GS) (y95_7 : Int32) (y95_9 : Int32), Inv sc95 → Fr fm_115_86_32 s sc95 → (In y95_9 0 31) → ((y35_8).toInt ≠ 0) → GG Z (d - 1) 115 post (gx xp) (2704 + k35 * 2702 + 1802) 95 (fun j => xlook j [(0, .ref (A 86)), (1, .ref (A 32)), (2, .int x2), (3, .int y35_3), (4, .long y35_4), (6, .int y35_6), (7, .int y95_7), (8, .int y35_8), (9, .int y95_9)]) [] (WW Z A sc95 ++ ex) 0 0 := by
        intro sc95 y95_7 y95_9 hIc95 hFc95 j95_9 nz95_8
        refine g_iload 97 (gd rfl) rfl rfl ?_
        refine g_goto 102 (gd rfl) rfl ?_
        refine g_istore 104 (gd rfl) rfl (Nat.le_of_ble_eq_true rfl) ?_
        exact gg_w (by first | exact Nat.le_add_right _ _ | exact gw2 | exact gw3 | exact gwe rfl | exact gwf rfl | exact gwg rfl | exact gwh rfl | omega) (gg_f (gf_cons rfl (gf_cons rfl (gf_cons rfl (gf_cons rfl (gf_cons rfl (gf_cons rfl (gf_cons rfl (gf_cons rfl (gf_cons rfl gf_nil))))))))) (ct104 sc95 y95_9 y95_7 y95_9 hIc95 hFc95 (in_w (-1) 31 j95_9 rfl) (in_w 0 31 j95_9 rfl) nz95_8))
      refine g_iload 37 (gd rfl) rfl rfl ?_
      refine g_if_eq 40 116 (gd rfl) rfl rfl (fun c37 => ?_) (fun c37 => ?_)
      · skip
        have i37 := z_eq 0 0 c37 (i_rng y35_8) rfl
        refine g_iload 118 (gd rfl) rfl rfl ?_
        refine g_iconst (-1) 119 (gd rfl) rfl rfl ?_
        refine g_cmp_eq 122 134 (gd rfl) rfl rfl (fun c119 => ?_) (fun c119 => ?_)
        · skip
          have i119 := r_eq1 (-1) (-1) c119 j35_6 (in_c (-1) rfl) rfl
          exact gg_w (by first | exact Nat.le_add_right _ _ | exact gw2 | exact gw3 | exact gwe rfl | exact gwf rfl | exact gwg rfl | exact gwh rfl | omega) (gg_f (gf_cons rfl (gf_cons rfl (gf_cons rfl (gf_cons rfl (gf_cons rfl (gf_cons rfl (gf_cons rfl (gf_cons rfl gf_nil)))))))) (ct134 sc35 y35_3 y35_4 y35_6 y35_7 y35_8 hIc35 hFc35 (in_w 0 31 j35_3 rfl) (in_w (-1) 31 i119 rfl) (in_w 0 0 i37 rfl)))
        · skip
          have i119 := r_ne1 0 31 c119 j35_6 (in_c (-1) rfl) rfl
          refine g_aload_n 123 (gd rfl) rfl rfl ?_
          refine g_iload_n 124 (gd rfl) rfl rfl ?_
          refine g_iload 126 (gd rfl) rfl rfl ?_
          refine g_callv (X := _) (As := [.int x2, .int y35_6]) (r := []) (b := A 86) (q := 86) 129 (gd rfl) rfl rfl rfl rfl rfl (ww_o rfl) (Nat.le_of_ble_eq_true rfl) (Nat.zero_le _) (Nat.zero_le _) (k_118_86 (by first | exact dq1 hd rfl | exact dq0 hd rfl | exact dq2 hd rfl | exact dq3 hd rfl | omega) hIc35 (in_w 0 31 h2 rfl) (in_w 0 31 i119 rfl)) (fun e u h => h) (fun v u h => ?_)
          obtain ⟨z126, rfl, rfl⟩ := h
          show GG _ _ _ _ _ _ _ _ [.long z126] _ _ _
          refine g_lconst 0 130 (gd rfl) rfl rfl ?_
          refine g_lcmp 131 (gd rfl) rfl (fun z130 e130 => ?_)
          have i130 := lc_in e130
          refine g_if_ge 134 159 (gd rfl) rfl rfl (fun c131 => ?_) (fun c131 => ?_)
          · skip
            have i131 := z_ge 0 1 c131 i130 rfl
            have c131a := lc_ge e130 c131
            have i131a := lr_le2 0 9223372036854775807 c131a (l_c 0 rfl) (l_rng z126) rfl
            refine g_aload_n 160 (gd rfl) rfl rfl ?_
            refine g_iload_n 161 (gd rfl) rfl rfl ?_
            refine g_iload 163 (gd rfl) rfl rfl ?_
            refine g_callv (X := _) (As := [.int x2, .int y35_6]) (r := []) (b := A 86) (q := 86) 166 (gd rfl) rfl rfl rfl rfl rfl (ww_o rfl) (Nat.le_of_ble_eq_true rfl) (Nat.zero_le _) (Nat.zero_le _) (k_118_86 (by first | exact dq1 hd rfl | exact dq0 hd rfl | exact dq2 hd rfl | exact dq3 hd rfl | omega) hIc35 (in_w 0 31 h2 rfl) (in_w 0 31 i119 rfl)) (fun e u h => h) (fun v u h => ?_)
            obtain ⟨z163, rfl, rfl⟩ := h
            show GG _ _ _ _ _ _ _ _ [.long z163] _ _ _
            refine g_lload 168 (gd rfl) rfl rfl ?_
            refine g_lcmp 169 (gd rfl) rfl (fun z168 e168 => ?_)
            have i168 := lc_in e168
            refine g_if_le 172 186 (gd rfl) rfl rfl (fun c169 => ?_) (fun c169 => ?_)
            · skip
              have i169 := z_le (-1) 0 c169 i168 rfl
              have c169a := lc_le e168 c169
              exact gg_w (by first | exact Nat.le_add_right _ _ | exact gw2 | exact gw3 | exact gwe rfl | exact gwf rfl | exact gwg rfl | exact gwh rfl | omega) (gg_f (gf_cons rfl (gf_cons rfl (gf_cons rfl (gf_cons rfl (gf_cons rfl (gf_cons rfl (gf_cons rfl (gf_cons rfl gf_nil)))))))) (ct186 sc35 y35_3 y35_4 y35_6 y35_7 y35_8 hIc35 hFc35 (in_w 0 31 j35_3 rfl) (in_w 0 31 i119 rfl) (in_w 0 0 i37 rfl)))
            · skip
              have i169 := z_gt 1 1 c169 i168 rfl
              have c169a := lc_gt e168 c169
              have i169a := lr_lt1 (-9223372036854775808) 9223372036854775806 c169a (l_rng y35_4) (l_rng z163) rfl
              have i169b := lr_lt2 (-9223372036854775807) 9223372036854775807 c169a (l_rng y35_4) (l_rng z163) rfl
              refine g_aload_n 173 (gd rfl) rfl rfl ?_
              refine g_iload_n 174 (gd rfl) rfl rfl ?_
              refine g_iload 176 (gd rfl) rfl rfl ?_
              refine g_callv (X := _) (As := [.int x2, .int y35_6]) (r := []) (b := A 86) (q := 86) 179 (gd rfl) rfl rfl rfl rfl rfl (ww_o rfl) (Nat.le_of_ble_eq_true rfl) (Nat.zero_le _) (Nat.zero_le _) (k_120_86 (by first | exact dq1 hd rfl | exact dq0 hd rfl | exact dq2 hd rfl | exact dq3 hd rfl | omega) hIc35 (in_w 0 31 h2 rfl) (in_w (-1) 31 i119 rfl)) (fun e u h => h) (fun v u h => ?_)
              obtain ⟨s176, hI176, hF176, z176, rfl, rfl, i176⟩ := h
              show GG _ _ _ _ _ _ _ _ [.int z176] _ _ _
              refine g_if_eq 182 186 (gd rfl) rfl rfl (fun c179 => ?_) (fun c179 => ?_)
              · skip
                have i179 := z_eq 0 0 c179 i176 rfl
                exact gg_w (by first | exact Nat.le_add_right _ _ | exact gw2 | exact gw3 | exact gwe rfl | exact gwf rfl | exact gwg rfl | exact gwh rfl | omega) (gg_f (gf_cons rfl (gf_cons rfl (gf_cons rfl (gf_cons rfl (gf_cons rfl (gf_cons rfl (gf_cons rfl (gf_cons rfl gf_nil)))))))) (ct186 s176 y35_3 y35_4 y35_6 y35_7 y35_8 hI176 (fr_tr rfl hFc35 hF176) (in_w 0 31 j35_3 rfl) (in_w 0 31 i119 rfl) (in_w 0 0 i37 rfl)))
              · skip
                have i179 := z_ne 1 1 c179 i176 rfl
                refine g_iconst 1 183 (gd rfl) rfl rfl ?_
                refine g_goto 187 (gd rfl) rfl ?_
                exact g_ireturn (gd rfl) rfl (nb01 (in_w 0 1 (in_c 1 rfl) rfl)) (hP _ _ ⟨s176, hI176, (fr_tr rfl hFc35 hF176), (Int32.ofInt 1), rfl, rfl, in_w 0 1 (in_c 1 rfl) rfl⟩)
          · skip
            have i131 := z_lt (-1) (-1) c131 i130 rfl
            have c131a := lc_lt e130 c131
            have i131a := lr_lt1 (-9223372036854775808) (-1) c131a (l_rng z126) (l_c 0 rfl) rfl
            exact gg_w (by first | exact Nat.le_add_right _ _ | exact gw2 | exact gw3 | exact gwe rfl | exact gwf rfl | exact gwg rfl | exact gwh rfl | omega) (gg_f (gf_cons rfl (gf_cons rfl (gf_cons rfl (gf_cons rfl (gf_cons rfl (gf_cons rfl (gf_cons rfl (gf_cons rfl gf_nil)))))))) (ct134 sc35 y35_3 y35_4 y35_6 y35_7 y35_8 hIc35 hFc35 (in_w 0 31 j35_3 rfl) (in_w (-1) 31 i119 rfl) (in_w 0 0 i37 rfl)))
      · skip
        refine g_aload_n 41 (gd rfl) rfl rfl ?_
        refine g_getA (q2 := 89) 44 (gd rfl) rfl rfl rfl rfl ?_
        refine g_iload 46 (gd rfl) rfl rfl ?_
        refine g_calls (As := [.int y35_8]) (r := [.ref (A 89)]) 49 (gd rfl) rfl rfl rfl rfl rfl (Nat.le_of_ble_eq_true rfl) (Nat.zero_le _) (Nat.zero_le _) (k_264n (by first | exact dq1 hd rfl | exact dq0 hd rfl | exact dq2 hd rfl | exact dq3 hd rfl | omega) c37) (fun v u h => ?_)
        obtain ⟨z46, rfl, rfl, i46, hb46, hl46⟩ := h
        show GG _ _ _ _ _ _ _ _ [.int z46, .ref (A 89)] _ _ _
        refine g_iaload 50 (gd rfl) rfl (n := 32) rfl (in_ix i46 rfl) (fun z49 e49 => ?_)
        have i49 := inv_I hIc35 (n := 32) (t := 0) 0 31 rfl (in_ix i46 rfl) rfl e49
        refine g_istore 52 (gd rfl) rfl (Nat.le_of_ble_eq_true rfl) ?_
        refine g_iload 54 (gd rfl) rfl rfl ?_
        refine g_iload_n 55 (gd rfl) rfl rfl ?_
        refine g_cmp_eq 58 104 (gd rfl) rfl rfl (fun c55 => ?_) (fun c55 => ?_)
        · skip
          exact gg_w (by first | exact Nat.le_add_right _ _ | exact gw2 | exact gw3 | exact gwe rfl | exact gwf rfl | exact gwg rfl | exact gwh rfl | omega) (gg_f (gf_cons rfl (gf_cons rfl (gf_cons rfl (gf_cons rfl (gf_cons rfl (gf_cons rfl (gf_cons rfl (gf_cons rfl (gf_cons rfl gf_nil))))))))) (ct104 sc35 y35_6 y35_7 z49 hIc35 hFc35 (in_w (-1) 31 j35_6 rfl) (in_w 0 31 i49 rfl) c37))
        · skip
          refine g_iload 60 (gd rfl) rfl rfl ?_
          refine g_iload 62 (gd rfl) rfl rfl ?_
          refine g_ishr 63 (gd rfl) rfl (fun z62 e62 => ?_)
          refine g_iconst 1 64 (gd rfl) rfl rfl ?_
          refine g_iand 65 (gd rfl) rfl (fun z64 e64 => ?_)
          have i64 := in_and2 e64 (in_c 1 rfl) rfl
          refine g_if_ne 68 104 (gd rfl) rfl rfl (fun c65 => ?_) (fun c65 => ?_)
          · skip
            have i65 := z_ne 1 1 c65 i64 rfl
            exact gg_w (by first | exact Nat.le_add_right _ _ | exact gw2 | exact gw3 | exact gwe rfl | exact gwf rfl | exact gwg rfl | exact gwh rfl | omega) (gg_f (gf_cons rfl (gf_cons rfl (gf_cons rfl (gf_cons rfl (gf_cons rfl (gf_cons rfl (gf_cons rfl (gf_cons rfl (gf_cons rfl gf_nil))))))))) (ct104 sc35 y35_6 y35_7 z49 hIc35 hFc35 (in_w (-1) 31 j35_6 rfl) (in_w 0 31 i49 rfl) c37))
          · skip
            have i65 := z_eq 0 0 c65 i64 rfl
            refine g_iload 70 (gd rfl) rfl rfl ?_
            refine g_iconst 1 71 (gd rfl) rfl rfl ?_
            refine g_iload 73 (gd rfl) rfl rfl ?_
            refine g_ishl 74 (gd rfl) rfl (fun z73 e73 => ?_)
            refine g_ior 75 (gd rfl) rfl (fun z74 e74 => ?_)
            refine g_istore 77 (gd rfl) rfl (Nat.le_of_ble_eq_true rfl) ?_
            refine g_iload 79 (gd rfl) rfl rfl ?_
            refine g_iconst (-1) 80 (gd rfl) rfl rfl ?_
            refine g_cmp_eq 83 95 (gd rfl) rfl rfl (fun c80 => ?_) (fun c80 => ?_)
            · skip
              have i80 := r_eq1 (-1) (-1) c80 j35_6 (in_c (-1) rfl) rfl
              exact gg_w (by first | exact Nat.le_add_right _ _ | exact gw2 | exact gw3 | exact gwe rfl | exact gwf rfl | exact gwg rfl | exact gwh rfl | omega) (gg_f (gf_cons rfl (gf_cons rfl (gf_cons rfl (gf_cons rfl (gf_cons rfl (gf_cons rfl (gf_cons rfl (gf_cons rfl (gf_cons rfl gf_nil))))))))) (ct95 sc35 z74 z49 hIc35 hFc35 (in_w 0 31 i49 rfl) c37))
            · skip
              have i80 := r_ne1 0 31 c80 j35_6 (in_c (-1) rfl) rfl
              refine g_aload_n 84 (gd rfl) rfl rfl ?_
              refine g_iload_n 85 (gd rfl) rfl rfl ?_
              refine g_iload 87 (gd rfl) rfl rfl ?_
              refine g_iload 89 (gd rfl) rfl rfl ?_
              refine g_callv (X := _) (As := [.int x2, .int z49, .int y35_6]) (r := []) (b := A 86) (q := 86) 92 (gd rfl) rfl rfl rfl rfl rfl (ww_o rfl) (Nat.le_of_ble_eq_true rfl) (mc := 0) (ms := 0) (Nat.zero_le _) (Nat.zero_le _) (P := fun v u => _) ?_ (fun e u h => h) (fun v u h => h)
              intro po89 xx89 hp89 hx89
              refine g_enter2 (k := 116) (N := 300) (by first | exact dq1 hd rfl | exact dq0 hd rfl | exact dq2 hd rfl | exact dq3 hd rfl | omega) rfl (Nat.le_of_ble_eq_true rfl) ?_
              refine g_aload_n 1 (gd rfl) rfl rfl ?_
              refine g_iload_n 2 (gd rfl) rfl rfl ?_
              refine g_iload_n 3 (gd rfl) rfl rfl ?_
              refine g_callv (X := _) (As := [.int x2, .int z49]) (r := []) (b := A 86) (q := 86) 6 (gd rfl) rfl rfl rfl rfl rfl (ww_o rfl) (Nat.le_of_ble_eq_true rfl) (Nat.zero_le _) (Nat.zero_le _) (k_118_86 (by first | exact dq1 hd rfl | exact dq0 hd rfl | exact dq2 hd rfl | exact dq3 hd rfl | omega) hIc35 (in_w 0 31 h2 rfl) (in_w 0 31 i49 rfl)) (fun e u h => h) (fun v u h => ?_)
              obtain ⟨z89x3, rfl, rfl⟩ := h
              show GG _ _ _ _ _ _ _ _ [.long z89x3] _ _ _
              refine g_aload_n 7 (gd rfl) rfl rfl ?_
              refine g_iload_n 8 (gd rfl) rfl rfl ?_
              refine g_iload_n 9 (gd rfl) rfl rfl ?_
              refine g_callv (X := _) (As := [.int x2, .int y35_6]) (r := [.long z89x3]) (b := A 86) (q := 86) 12 (gd rfl) rfl rfl rfl rfl rfl (ww_o rfl) (Nat.le_of_ble_eq_true rfl) (Nat.zero_le _) (Nat.zero_le _) (k_118_86 (by first | exact dq1 hd rfl | exact dq0 hd rfl | exact dq2 hd rfl | exact dq3 hd rfl | omega) hIc35 (in_w 0 31 h2 rfl) (in_w 0 31 i80 rfl)) (fun e u h => h) (fun v u h => ?_)
              obtain ⟨z89x9, rfl, rfl⟩ := h
              show GG _ _ _ _ _ _ _ _ [.long z89x9, .long z89x3] _ _ _
              refine g_lsub 13 (gd rfl) rfl (fun z89x12 e89x12 => ?_)
              refine g_lstore 15 (gd rfl) rfl (Nat.le_of_ble_eq_true rfl) ?_
              refine g_lload 17 (gd rfl) rfl rfl ?_
              refine g_lconst 0 18 (gd rfl) rfl rfl ?_
              refine g_lcmp 19 (gd rfl) rfl (fun z89x18 e89x18 => ?_)
              have i89x18 := lc_in e89x18
              refine g_if_gt 22 50 (gd rfl) rfl rfl (fun c89x19 => ?_) (fun c89x19 => ?_)
              · skip
                have i89x19 := z_gt 1 1 c89x19 i89x18 rfl
                have c89x19a := lc_gt e89x18 c89x19
                have i89x19a := lr_lt2 1 9223372036854775807 c89x19a (l_c 0 rfl) (l_rng z89x12) rfl
                refine g_iconst 1 51 (gd rfl) rfl rfl ?_
                refine g_goto 55 (gd rfl) rfl ?_
                refine g_ireturn (gd rfl) rfl (nb01 (in_w 0 1 (in_c 1 rfl) rfl)) (hp89 _ _ ?_)
                show GG _ _ _ _ _ _ _ _ [.int (Int32.ofInt 1)] _ _ _
                refine g_if_eq 95 100 (gd rfl) rfl rfl (fun c92 => ?_) (fun c92 => ?_)
                · skip
                  exact zn_eq c92 (in_c 1 rfl) rfl
                · skip
                  exact gg_w (by first | exact Nat.le_add_right _ _ | exact gw2 | exact gw3 | exact gwe rfl | exact gwf rfl | exact gwg rfl | exact gwh rfl | omega) (gg_f (gf_cons rfl (gf_cons rfl (gf_cons rfl (gf_cons rfl (gf_cons rfl (gf_cons rfl (gf_cons rfl (gf_cons rfl (gf_cons rfl gf_nil))))))))) (ct95 sc35 z74 z49 hIc35 hFc35 (in_w 0 31 i49 rfl) c37))
              · skip
                have i89x19 := z_le (-1) 0 c89x19 i89x18 rfl
                have c89x19a := lc_le e89x18 c89x19
                have i89x19a := lr_le1 (-9223372036854775808) 0 c89x19a (l_rng z89x12) (l_c 0 rfl) rfl
                refine g_lload 24 (gd rfl) rfl rfl ?_
                refine g_lconst 0 25 (gd rfl) rfl rfl ?_
                refine g_lcmp 26 (gd rfl) rfl (fun z89x25 e89x25 => ?_)
                have i89x25 := lc_in e89x25
                refine g_if_ne 29 54 (gd rfl) rfl rfl (fun c89x26 => ?_) (fun c89x26 => ?_)
                · skip
                  have c89x26a := lc_ne e89x25 c89x26
                  have i89x26 := lr_ne1 (-9223372036854775808) (-1) c89x26a i89x19a (l_c 0 rfl) rfl
                  refine g_iconst 0 55 (gd rfl) rfl rfl ?_
                  refine g_ireturn (gd rfl) rfl (nb01 (in_w 0 1 (in_c 0 rfl) rfl)) (hp89 _ _ ?_)
                  show GG _ _ _ _ _ _ _ _ [.int (Int32.ofInt 0)] _ _ _
                  refine g_if_eq 95 100 (gd rfl) rfl rfl (fun c92 => ?_) (fun c92 => ?_)
                  · skip
                    refine g_iload 102 (gd rfl) rfl rfl ?_
                    refine g_istore 104 (gd rfl) rfl (Nat.le_of_ble_eq_true rfl) ?_
                    exact gg_w (by first | exact Nat.le_add_right _ _ | exact gw2 | exact gw3 | exact gwe rfl | exact gwf rfl | exact gwg rfl | exact gwh rfl | omega) (gg_f (gf_cons rfl (gf_cons rfl (gf_cons rfl (gf_cons rfl (gf_cons rfl (gf_cons rfl (gf_cons rfl (gf_cons rfl (gf_cons rfl gf_nil))))))))) (ct104 sc35 y35_6 z74 z49 hIc35 hFc35 (in_w (-1) 31 i80 rfl) (in_w 0 31 i49 rfl) c37))
                  · skip
                    exact zn_ne c92 (in_c 0 rfl) rfl
                · skip
                  have i89x26 := z_eq 0 0 c89x26 i89x25 rfl
                  have c89x26a := lc_eq e89x25 c89x26
                  have i89x26a := lr_eq1 0 0 c89x26a i89x19a (l_c 0 rfl) rfl
                  refine g_aload_n 30 (gd rfl) rfl rfl ?_
                  refine g_getA (q2 := 90) 33 (gd rfl) rfl rfl rfl rfl ?_
                  refine g_iload_n 34 (gd rfl) rfl rfl ?_
                  refine g_iaload 35 (gd rfl) rfl (n := 32) rfl (in_ix i49 rfl) (fun z89x34 e89x34 => ?_)
                  refine g_calls (As := [.int z89x34]) (r := []) 38 (gd rfl) rfl rfl rfl rfl rfl (Nat.le_of_ble_eq_true rfl) (Nat.zero_le _) (Nat.zero_le _) (k_264 (by first | exact dq1 hd rfl | exact dq0 hd rfl | exact dq2 hd rfl | exact dq3 hd rfl | omega)) (fun v u h => ?_)
                  obtain ⟨z89x35, rfl, rfl, i89x35, hb89x35⟩ := h
                  show GG _ _ _ _ _ _ _ _ [.int z89x35] _ _ _
                  refine g_aload_n 39 (gd rfl) rfl rfl ?_
                  refine g_getA (q2 := 90) 42 (gd rfl) rfl rfl rfl rfl ?_
                  refine g_iload_n 43 (gd rfl) rfl rfl ?_
                  refine g_iaload 44 (gd rfl) rfl (n := 32) rfl (in_ix i80 rfl) (fun z89x43 e89x43 => ?_)
                  refine g_calls (As := [.int z89x43]) (r := [.int z89x35]) 47 (gd rfl) rfl rfl rfl rfl rfl (Nat.le_of_ble_eq_true rfl) (Nat.zero_le _) (Nat.zero_le _) (k_264 (by first | exact dq1 hd rfl | exact dq0 hd rfl | exact dq2 hd rfl | exact dq3 hd rfl | omega)) (fun v u h => ?_)
                  obtain ⟨z89x44, rfl, rfl, i89x44, hb89x44⟩ := h
                  show GG _ _ _ _ _ _ _ _ [.int z89x44, .int z89x35] _ _ _
                  refine g_cmp_ge 50 54 (gd rfl) rfl rfl (fun c89x47 => ?_) (fun c89x47 => ?_)
                  · skip
                    refine g_iconst 0 55 (gd rfl) rfl rfl ?_
                    refine g_ireturn (gd rfl) rfl (nb01 (in_w 0 1 (in_c 0 rfl) rfl)) (hp89 _ _ ?_)
                    show GG _ _ _ _ _ _ _ _ [.int (Int32.ofInt 0)] _ _ _
                    refine g_if_eq 95 100 (gd rfl) rfl rfl (fun c92 => ?_) (fun c92 => ?_)
                    · skip
                      refine g_iload 102 (gd rfl) rfl rfl ?_
                      refine g_istore 104 (gd rfl) rfl (Nat.le_of_ble_eq_true rfl) ?_
                      exact gg_w (by first | exact Nat.le_add_right _ _ | exact gw2 | exact gw3 | exact gwe rfl | exact gwf rfl | exact gwg rfl | exact gwh rfl | omega) (gg_f (gf_cons rfl (gf_cons rfl (gf_cons rfl (gf_cons rfl (gf_cons rfl (gf_cons rfl (gf_cons rfl (gf_cons rfl (gf_cons rfl gf_nil))))))))) (ct104 sc35 y35_6 z74 z49 hIc35 hFc35 (in_w (-1) 31 i80 rfl) (in_w 0 31 i49 rfl) c37))
                    · skip
                      exact zn_ne c92 (in_c 0 rfl) rfl
                  · skip
                    have i89x47 := r_lt1 0 31 c89x47 i89x35 i89x44 rfl
                    have i89x47a := r_lt2 1 32 c89x47 i89x35 i89x44 rfl
                    refine g_iconst 1 51 (gd rfl) rfl rfl ?_
                    refine g_goto 55 (gd rfl) rfl ?_
                    refine g_ireturn (gd rfl) rfl (nb01 (in_w 0 1 (in_c 1 rfl) rfl)) (hp89 _ _ ?_)
                    show GG _ _ _ _ _ _ _ _ [.int (Int32.ofInt 1)] _ _ _
                    refine g_if_eq 95 100 (gd rfl) rfl rfl (fun c92 => ?_) (fun c92 => ?_)
                    · skip
                      exact zn_eq c92 (in_c 1 rfl) rfl
                    · skip
                      exact gg_w (by first | exact Nat.le_add_right _ _ | exact gw2 | exact gw3 | exact gwe rfl | exact gwf rfl | exact gwg rfl | exact gwh rfl | omega) (gg_f (gf_cons rfl (gf_cons rfl (gf_cons rfl (gf_cons rfl (gf_cons rfl (gf_cons rfl (gf_cons rfl (gf_cons rfl (gf_cons rfl gf_nil))))))))) (ct95 sc35 z74 z49 hIc35 hFc35 (in_w 0 31 i49 rfl) c37))
  refine g_enter2 (k := 115) (N := 11605001637396) (by first | exact dq1 hd rfl | exact dq0 hd rfl | exact dq2 hd rfl | exact dq3 hd rfl | omega) rfl (Nat.le_of_ble_eq_true rfl) ?_
  refine g_aload_n 1 (gd rfl) rfl rfl ?_
  refine g_aload_n 2 (gd rfl) rfl rfl ?_
  refine g_iload_n 3 (gd rfl) rfl rfl ?_
  have n3 : (u_32_4).toInt = (u_32_0).toInt := by have a0 := (inv_F hI 0 4000 rfl e_32_0); unfold In at a0; have a1 := (inv_F hI (-1) 4000 rfl e_32_4); unfold In at a1; have a2 := h2; unfold In at a2; omega
  refine g_callv (X := _) (As := [.ref (A 32), .int x2]) (r := []) (b := A 86) (q := 86) 6 (gd rfl) rfl rfl rfl rfl rfl (ww_o rfl) (Nat.le_of_ble_eq_true rfl) (Nat.zero_le _) (Nat.zero_le _) (k_117_86_32 (by first | exact dq1 hd rfl | exact dq0 hd rfl | exact dq2 hd rfl | exact dq3 hd rfl | omega) hI (in_w 0 31 h2 rfl) e_32_4 e_32_0 n3) (fun e u h => h) (fun v u h => ?_)
  obtain ⟨s3, hI3, hF3, rfl, rfl⟩ := h
  show GG _ _ _ _ _ _ _ _ [] _ _ _
  refine g_aload_n 7 (gd rfl) rfl rfl ?_
  refine g_getA (q2 := 89) 10 (gd rfl) rfl rfl rfl rfl ?_
  refine g_iload_n 11 (gd rfl) rfl rfl ?_
  refine g_iaload 12 (gd rfl) rfl (n := 32) rfl (in_ix h2 rfl) (fun z11 e11 => ?_)
  have i11 := inv_I hI3 (n := 32) (t := 0) 0 31 rfl (in_ix h2 rfl) rfl e11
  refine g_istore_n 13 (gd rfl) rfl (Nat.le_of_ble_eq_true rfl) ?_
  refine g_aload_n 14 (gd rfl) rfl rfl ?_
  refine g_iload_n 15 (gd rfl) rfl rfl ?_
  refine g_iload_n 16 (gd rfl) rfl rfl ?_
  refine g_callv (X := _) (As := [.int x2, .int z11]) (r := []) (b := A 86) (q := 86) 19 (gd rfl) rfl rfl rfl rfl rfl (ww_o rfl) (Nat.le_of_ble_eq_true rfl) (Nat.zero_le _) (Nat.zero_le _) (k_118_86 (by first | exact dq1 hd rfl | exact dq0 hd rfl | exact dq2 hd rfl | exact dq3 hd rfl | omega) hI3 (in_w 0 31 h2 rfl) (in_w 0 31 i11 rfl)) (fun e u h => h) (fun v u h => ?_)
  obtain ⟨z16, rfl, rfl⟩ := h
  show GG _ _ _ _ _ _ _ _ [.long z16] _ _ _
  refine g_lstore 21 (gd rfl) rfl (Nat.le_of_ble_eq_true rfl) ?_
  refine g_iconst (-1) 22 (gd rfl) rfl rfl ?_
  refine g_istore 24 (gd rfl) rfl (Nat.le_of_ble_eq_true rfl) ?_
  refine g_iconst 0 25 (gd rfl) rfl rfl ?_
  refine g_istore 27 (gd rfl) rfl (Nat.le_of_ble_eq_true rfl) ?_
  refine g_aload_n 28 (gd rfl) rfl rfl ?_
  refine g_getA (q2 := 39) 31 (gd rfl) rfl rfl rfl rfl ?_
  refine g_iload_n 32 (gd rfl) rfl rfl ?_
  refine g_iaload 33 (gd rfl) rfl (n := 32) rfl (in_ix h2 rfl) (fun z32 e32 => ?_)
  refine g_istore 35 (gd rfl) rfl (Nat.le_of_ble_eq_true rfl) ?_
  exact gg_w (by first | exact Nat.le_of_ble_eq_true rfl | omega) (gg_f (gf_cons rfl (gf_cons rfl (gf_cons rfl (gf_cons rfl (gf_cons rfl (gf_cons rfl (gf_cons rfl (gf_cons rfl gf_nil)))))))) (ct35 4294967296 s3 z11 z16 (Int32.ofInt (-1)) (Int32.ofInt 0) z32 hI3 (fr_tr rfl fr_rf hF3) (in_w 0 31 i11 rfl) (in_w (-1) 31 (in_c (-1) rfl) rfl) (mb_in _)))

def fm_131_1_32 : FM := ([33, 34, 35, 36, 37, 38], [], [(32, 0), (32, 1), (32, 2), (32, 3)], [])
/-- GraphHouse$Ledger.apply -/
theorem k_131_1_32 {Z : AmZ} {A : Nat → Nat} {s : GS} {ex : va_W} {d : Nat} {X : AmX} {u_32_0 : Int32} {u_32_1 : Int32} {u_30_0 : Int32} (hd : 4 ≤ d) (hI : Inv s) (e_32_0 : u_32_0 = s.2.2.1 32 0) (e_32_1 : u_32_1 = s.2.2.1 32 1) (e_30_0 : u_30_0 = s.2.2.1 30 0) (r_32_0 : In u_32_0 0 3999) (p_0 : 7 * (u_32_0).toInt + 7 ≤ (u_30_0).toInt) (q_0 : RW7 (s.1 30) (s.2.2.1 32 0).toInt.toNat) (q_1 : KV s 32) : GC Z d 131 [.ref (A 1), .ref (A 32)] (WW Z A s ++ ex) 0 0 (fun v u => ∃ t : GS, Inv t ∧ Fr fm_131_1_32 s t ∧ ((t.2.2.1 32 0).toInt = (s.2.2.1 32 0).toInt + 1) ∧ v = none ∧ u = WW Z A t ++ ex ∧ (KV t 32)) X := by
  intro post xp hP hX
  have ro_30_0 := inv_F hI 448 28000 rfl e_30_0
  refine g_enter2 (k := 131) (N := 900) (by first | exact dq1 hd rfl | exact dq0 hd rfl | exact dq2 hd rfl | exact dq3 hd rfl | omega) rfl (Nat.le_of_ble_eq_true rfl) ?_
  refine g_aload_n 1 (gd rfl) rfl rfl ?_
  refine g_getI 4 (gd rfl) rfl rfl rfl (fun z1 e1 => ?_)
  have q1 : u_32_0 = z1 := (e_32_0).trans e1.symm
  subst q1
  refine g_bipush 7 6 (gd rfl) rfl rfl ?_
  refine g_imul 7 (gd rfl) rfl (fun z6 e6 => ?_)
  have i6 := in_mulc 7 0 27993 (Or.inr e6) r_32_0 rfl rfl
  refine g_istore_n 8 (gd rfl) rfl (Nat.le_of_ble_eq_true rfl) ?_
  have hk : z6.toInt = 7 * (((s.2.2.1 32 0).toInt.toNat : Nat) : Int) := (by rw [← e_32_0]; have a0 := (rng_F hI.1 448 28000 rfl e_30_0); unfold In at a0; have a1 := (rng_F hI.1 0 32 rfl e_32_1); unfold In at a1; have a2 := r_32_0; unfold In at a2; have a3 := i6; unfold In at a3; have a4 := (t_mulc 7 (Or.inr e6) r_32_0 rfl).1; omega)
  refine g_aload_n 9 (gd rfl) rfl rfl ?_
  refine g_getA (q2 := 30) 12 (gd rfl) rfl rfl rfl rfl ?_
  refine g_iload_n 13 (gd rfl) rfl rfl ?_
  refine g_iconst 1 14 (gd rfl) rfl rfl ?_
  refine g_iadd 15 (gd rfl) rfl (fun z14 e14 => ?_)
  have i14 := in_add 1 27994 e14 i6 (in_c 1 rfl) rfl rfl
  have hx15 : vp_in z14 (s.2.2.1 30 0).toNatClampNeg := lg_in (by have a0 := (rng_F hI.1 448 28000 rfl e_30_0); unfold In at a0; have a1 := (rng_F hI.1 0 32 rfl e_32_1); unfold In at a1; have a2 := r_32_0; unfold In at a2; have a3 := i6; unfold In at a3; have a4 := (t_mulc 7 (Or.inr e6) r_32_0 rfl).1; have a5 := i14; unfold In at a5; have a6 := t_add e14 i6 (in_c 1 rfl) rfl; have a7 := (in_c 1 rfl); unfold In at a7; omega) (by rw [← (show u_30_0 = s.2.2.1 30 0 from e_30_0)]; have a0 := (rng_F hI.1 448 28000 rfl e_30_0); unfold In at a0; have a1 := (rng_F hI.1 0 32 rfl e_32_1); unfold In at a1; have a2 := r_32_0; unfold In at a2; have a3 := i6; unfold In at a3; have a4 := (t_mulc 7 (Or.inr e6) r_32_0 rfl).1; have a5 := i14; unfold In at a5; have a6 := t_add e14 i6 (in_c 1 rfl) rfl; have a7 := (in_c 1 rfl); unfold In at a7; omega)
  refine g_lgload 16 (gd rfl) rfl hx15 (fun z15 e15 => ?_)
  refine g_istore_n 17 (gd rfl) rfl (Nat.le_of_ble_eq_true rfl) ?_
  have hp : z15 = s.1 30 (7 * (s.2.2.1 32 0).toInt.toNat + 1) := rw7_v (c := 1) (by have a0 := (rng_F hI.1 448 28000 rfl e_30_0); unfold In at a0; have a1 := (rng_F hI.1 0 32 rfl e_32_1); unfold In at a1; have a2 := r_32_0; unfold In at a2; have a3 := i6; unfold In at a3; have a4 := (t_mulc 7 (Or.inr e6) r_32_0 rfl).1; have a5 := i14; unfold In at a5; have a6 := t_add e14 i6 (in_c 1 rfl) rfl; have a7 := (in_c 1 rfl); unfold In at a7; omega) e15
  refine g_aload_n 18 (gd rfl) rfl rfl ?_
  refine g_dup 19 (gd rfl) rfl rfl ?_
  refine g_getI 22 (gd rfl) rfl rfl rfl (fun z19 e19 => ?_)
  have q19 : u_32_0 = z19 := (e_32_0).trans e19.symm
  subst q19
  refine g_iconst 1 23 (gd rfl) rfl rfl ?_
  refine g_iadd 24 (gd rfl) rfl (fun z23 e23 => ?_)
  have i23 := in_add 1 4000 e23 r_32_0 (in_c 1 rfl) rfl rfl
  refine g_putI 27 (gd rfl) rfl rfl rfl rfl ?_
  have hI24 := rng_sF (q := 32) (j := 0) hI.1 rfl (in_w 0 4000 i23 rfl)
  refine g_aload_n 28 (gd rfl) rfl rfl ?_
  refine g_getA (q2 := 30) 31 (gd rfl) rfl rfl rfl rfl ?_
  refine g_iload_n 32 (gd rfl) rfl rfl ?_
  have hx32 : vp_in z6 ((sF s 32 0 z23).2.2.1 30 0).toNatClampNeg := lg_in (by have a0 := (rng_F hI.1 448 28000 rfl e_30_0); unfold In at a0; have a1 := (rng_F hI.1 0 32 rfl e_32_1); unfold In at a1; have a2 := r_32_0; unfold In at a2; have a3 := i6; unfold In at a3; have a4 := (t_mulc 7 (Or.inr e6) r_32_0 rfl).1; have a5 := i23; unfold In at a5; have a6 := t_add e23 r_32_0 (in_c 1 rfl) rfl; have a7 := (in_c 1 rfl); unfold In at a7; have a8 := i14; unfold In at a8; have a9 := t_add e14 i6 (in_c 1 rfl) rfl; omega) (by rw [← (show u_30_0 = (sF s 32 0 z23).2.2.1 30 0 from sF_ne rfl (e_30_0))]; have a0 := (rng_F hI.1 448 28000 rfl e_30_0); unfold In at a0; have a1 := (rng_F hI.1 0 32 rfl e_32_1); unfold In at a1; have a2 := r_32_0; unfold In at a2; have a3 := i6; unfold In at a3; have a4 := (t_mulc 7 (Or.inr e6) r_32_0 rfl).1; have a5 := i23; unfold In at a5; have a6 := t_add e23 r_32_0 (in_c 1 rfl) rfl; have a7 := (in_c 1 rfl); unfold In at a7; have a8 := i14; unfold In at a8; have a9 := t_add e14 i6 (in_c 1 rfl) rfl; omega)
  refine g_lgload 33 (gd rfl) rfl hx32 (fun z32 e32 => ?_)
  refine g_tsw [64, 91, 101, 109] 134 (gd rfl) rfl rfl rfl ⟨fun c33 => ?_, fun c33 => ?_, fun c33 => ?_, fun c33 => ?_, trivial⟩ (fun c33 => ?_)
  · skip
    have i33 := sw_eq c33
    have h32 : z32 = s.1 30 (7 * (s.2.2.1 32 0).toInt.toNat) := rw7_v (c := 0) (by have a0 := (rng_F hI.1 448 28000 rfl e_30_0); unfold In at a0; have a1 := (rng_F hI.1 0 32 rfl e_32_1); unfold In at a1; have a2 := r_32_0; unfold In at a2; have a3 := i6; unfold In at a3; have a4 := (t_mulc 7 (Or.inr e6) r_32_0 rfl).1; have a5 := i23; unfold In at a5; have a6 := t_add e23 r_32_0 (in_c 1 rfl) rfl; have a7 := (in_c 1 rfl); unfold In at a7; have a8 := i14; unfold In at a8; have a9 := t_add e14 i6 (in_c 1 rfl) rfl; omega) e32
    have hr := rw7_0 q_0 hk e32 c33
    have i64 : In z15 0 31 := by rw [hp]; have h1 := hr.1; have h2 := hr.2.1; exact ⟨by omega, by omega⟩
    have i64a : In u_32_1 0 31 := by have h1 := q_1.1; have h2 := hr.2.1; rw [e_32_1]; exact ⟨by omega, by omega⟩
    refine g_aload_n 65 (gd rfl) rfl rfl ?_
    refine g_getA (q2 := 33) 68 (gd rfl) rfl rfl rfl rfl ?_
    refine g_iload_n 69 (gd rfl) rfl rfl ?_
    refine g_aload_n 70 (gd rfl) rfl rfl ?_
    refine g_getA (q2 := 30) 73 (gd rfl) rfl rfl rfl rfl ?_
    refine g_iload_n 74 (gd rfl) rfl rfl ?_
    refine g_iconst 2 75 (gd rfl) rfl rfl ?_
    refine g_iadd 76 (gd rfl) rfl (fun z75 e75 => ?_)
    have i75 := in_add 2 27995 e75 i6 (in_c 2 rfl) rfl rfl
    have hx76 : vp_in z75 ((sF s 32 0 z23).2.2.1 30 0).toNatClampNeg := lg_in (by have a0 := (rng_F hI.1 448 28000 rfl e_30_0); unfold In at a0; have a1 := i64a; unfold In at a1; have a2 := r_32_0; unfold In at a2; have a3 := i64; unfold In at a3; have a4 := i6; unfold In at a4; have a5 := (t_mulc 7 (Or.inr e6) r_32_0 rfl).1; have a6 := i23; unfold In at a6; have a7 := t_add e23 r_32_0 (in_c 1 rfl) rfl; have a8 := (in_c 1 rfl); unfold In at a8; have a9 := i75; unfold In at a9; have a10 := t_add e75 i6 (in_c 2 rfl) rfl; have a11 := (in_c 2 rfl); unfold In at a11; have a12 := i14; unfold In at a12; have a13 := t_add e14 i6 (in_c 1 rfl) rfl; omega) (by rw [← (show u_30_0 = (sF s 32 0 z23).2.2.1 30 0 from sF_ne rfl (e_30_0))]; have a0 := (rng_F hI.1 448 28000 rfl e_30_0); unfold In at a0; have a1 := i64a; unfold In at a1; have a2 := r_32_0; unfold In at a2; have a3 := i64; unfold In at a3; have a4 := i6; unfold In at a4; have a5 := (t_mulc 7 (Or.inr e6) r_32_0 rfl).1; have a6 := i23; unfold In at a6; have a7 := t_add e23 r_32_0 (in_c 1 rfl) rfl; have a8 := (in_c 1 rfl); unfold In at a8; have a9 := i75; unfold In at a9; have a10 := t_add e75 i6 (in_c 2 rfl) rfl; have a11 := (in_c 2 rfl); unfold In at a11; have a12 := i14; unfold In at a12; have a13 := t_add e14 i6 (in_c 1 rfl) rfl; omega)
    refine g_lgload 77 (gd rfl) rfl hx76 (fun z76 e76 => ?_)
    have i77 : In z76 0 25 := by rw [rw7_v (k := (s.2.2.1 32 0).toInt.toNat) (c := 2) (by have a0 := (rng_F hI.1 448 28000 rfl e_30_0); unfold In at a0; have a1 := i64a; unfold In at a1; have a2 := r_32_0; unfold In at a2; have a3 := i64; unfold In at a3; have a4 := i6; unfold In at a4; have a5 := (t_mulc 7 (Or.inr e6) r_32_0 rfl).1; have a6 := i23; unfold In at a6; have a7 := t_add e23 r_32_0 (in_c 1 rfl) rfl; have a8 := (in_c 1 rfl); unfold In at a8; have a9 := i75; unfold In at a9; have a10 := t_add e75 i6 (in_c 2 rfl) rfl; have a11 := (in_c 2 rfl); unfold In at a11; have a12 := i14; unfold In at a12; have a13 := t_add e14 i6 (in_c 1 rfl) rfl; omega) e76]; exact hr.2.2
    refine g_iastore 78 (gd rfl) rfl (n := 32) rfl (in_ix i64 rfl) ?_
    have hI77 := rng_sI (q := 33) (j := z15.toNatClampNeg) hI24 rfl (in_w 0 25 i77 rfl)
    refine g_aload_n 79 (gd rfl) rfl rfl ?_
    refine g_dup 80 (gd rfl) rfl rfl ?_
    refine g_getI 83 (gd rfl) rfl rfl rfl (fun z80 e80 => ?_)
    have q80 : u_32_1 = z80 := (sI_F (sF_ne rfl (e_32_1))).trans e80.symm
    subst q80
    refine g_iconst 1 84 (gd rfl) rfl rfl ?_
    refine g_iadd 85 (gd rfl) rfl (fun z84 e84 => ?_)
    have i84 := in_add 1 32 e84 i64a (in_c 1 rfl) rfl rfl
    refine g_putI 88 (gd rfl) rfl rfl rfl rfl ?_
    have hI85 := rng_sF (q := 32) (j := 1) hI77 rfl (in_w 0 32 i84 rfl)
    refine g_goto 148 (gd rfl) rfl ?_
    have hI148 : Inv (sF (sI (sF s 32 0 z23) 33 z15.toNatClampNeg z76) 32 1 z84) := by have hFF : Fr fm_131_1_32 s (sF (sI (sF s 32 0 z23) 33 z15.toNatClampNeg z76) 32 1 z84) := (fr_sF rfl (fr_sI rfl (fr_sF rfl fr_rf))); exact ⟨hI85, kk_ap32 hI.2 hFF rfl (by rw [hFF.2.2.1 32 4 rfl, ← (show z23 = (sF (sI (sF s 32 0 z23) 33 z15.toNatClampNeg z76) 32 1 z84).2.2.1 32 0 from sF_ne rfl (sI_F (sF_get)))]; have hg := hI.2.2.1.1; rw [mF_at rfl, mF_at rfl, ← e_32_0] at hg; have a0 := (rng_F hI.1 448 28000 rfl e_30_0); unfold In at a0; have a1 := i64a; unfold In at a1; have a2 := r_32_0; unfold In at a2; have a3 := i64; unfold In at a3; have a4 := i6; unfold In at a4; have a5 := (t_mulc 7 (Or.inr e6) r_32_0 rfl).1; have a6 := i84; unfold In at a6; have a7 := t_add e84 i64a (in_c 1 rfl) rfl; have a8 := (in_c 1 rfl); unfold In at a8; have a9 := i23; unfold In at a9; have a10 := t_add e23 r_32_0 (in_c 1 rfl) rfl; have a11 := i75; unfold In at a11; have a12 := t_add e75 i6 (in_c 2 rfl) rfl; have a13 := (in_c 2 rfl); unfold In at a13; have a14 := i14; unfold In at a14; have a15 := t_add e14 i6 (in_c 1 rfl) rfl; omega)⟩
    have n148 : KV (sF (sI (sF s 32 0 z23) 33 z15.toNatClampNeg z76) 32 1 z84) 32 := by have hif : (if (s.1 30 (7 * (s.2.2.1 32 0).toInt.toNat)).toInt = 0 then (1 : Int) else 0) = 1 := if_pos (by rw [← h32]; exact c33); exact kv_st q_1 rfl (rng_F hI.1 0 4000 (q := 32) (j := 0) rfl rfl).1 (by rw [← (show z23 = (sF (sI (sF s 32 0 z23) 33 z15.toNatClampNeg z76) 32 1 z84).2.2.1 32 0 from sF_ne rfl (sI_F (sF_get))), ← e_32_0]; have a0 := (rng_F hI.1 448 28000 rfl e_30_0); unfold In at a0; have a1 := i64a; unfold In at a1; have a2 := r_32_0; unfold In at a2; have a3 := i64; unfold In at a3; have a4 := i6; unfold In at a4; have a5 := (t_mulc 7 (Or.inr e6) r_32_0 rfl).1; have a6 := i84; unfold In at a6; have a7 := t_add e84 i64a (in_c 1 rfl) rfl; have a8 := (in_c 1 rfl); unfold In at a8; have a9 := i23; unfold In at a9; have a10 := t_add e23 r_32_0 (in_c 1 rfl) rfl; have a11 := i75; unfold In at a11; have a12 := t_add e75 i6 (in_c 2 rfl) rfl; have a13 := (in_c 2 rfl); unfold In at a13; have a14 := i14; unfold In at a14; have a15 := t_add e14 i6 (in_c 1 rfl) rfl; omega) (by rw [hif, ← (show z84 = (sF (sI (sF s 32 0 z23) 33 z15.toNatClampNeg z76) 32 1 z84).2.2.1 32 1 from sF_get), ← e_32_1]; have a0 := (rng_F hI.1 448 28000 rfl e_30_0); unfold In at a0; have a1 := i64a; unfold In at a1; have a2 := r_32_0; unfold In at a2; have a3 := i64; unfold In at a3; have a4 := i6; unfold In at a4; have a5 := (t_mulc 7 (Or.inr e6) r_32_0 rfl).1; have a6 := i84; unfold In at a6; have a7 := t_add e84 i64a (in_c 1 rfl) rfl; have a8 := (in_c 1 rfl); unfold In at a8; have a9 := i23; unfold In at a9; have a10 := t_add e23 r_32_0 (in_c 1 rfl) rfl; have a11 := i75; unfold In at a11; have a12 := t_add e75 i6 (in_c 2 rfl) rfl; have a13 := (in_c 2 rfl); unfold In at a13; have a14 := i14; unfold In at a14; have a15 := t_add e14 i6 (in_c 1 rfl) rfl; omega) (kn_up q_1.2 (by rw [← (show z84 = (sF (sI (sF s 32 0 z23) 33 z15.toNatClampNeg z76) 32 1 z84).2.2.1 32 1 from sF_get), ← e_32_1]; have a0 := (rng_F hI.1 448 28000 rfl e_30_0); unfold In at a0; have a1 := i64a; unfold In at a1; have a2 := r_32_0; unfold In at a2; have a3 := i64; unfold In at a3; have a4 := i6; unfold In at a4; have a5 := (t_mulc 7 (Or.inr e6) r_32_0 rfl).1; have a6 := i84; unfold In at a6; have a7 := t_add e84 i64a (in_c 1 rfl) rfl; have a8 := (in_c 1 rfl); unfold In at a8; have a9 := i23; unfold In at a9; have a10 := t_add e23 r_32_0 (in_c 1 rfl) rfl; have a11 := i75; unfold In at a11; have a12 := t_add e75 i6 (in_c 2 rfl) rfl; have a13 := (in_c 2 rfl); unfold In at a13; have a14 := i14; unfold In at a14; have a15 := t_add e14 i6 (in_c 1 rfl) rfl; omega))
    have n148a : (z23).toInt = (u_32_0).toInt + 1 := by have a0 := (rng_F hI.1 448 28000 rfl e_30_0); unfold In at a0; have a1 := i64a; unfold In at a1; have a2 := r_32_0; unfold In at a2; have a3 := i64; unfold In at a3; have a4 := i6; unfold In at a4; have a5 := (t_mulc 7 (Or.inr e6) r_32_0 rfl).1; have a6 := i84; unfold In at a6; have a7 := t_add e84 i64a (in_c 1 rfl) rfl; have a8 := (in_c 1 rfl); unfold In at a8; have a9 := i23; unfold In at a9; have a10 := t_add e23 r_32_0 (in_c 1 rfl) rfl; have a11 := i75; unfold In at a11; have a12 := t_add e75 i6 (in_c 2 rfl) rfl; have a13 := (in_c 2 rfl); unfold In at a13; have a14 := i14; unfold In at a14; have a15 := t_add e14 i6 (in_c 1 rfl) rfl; omega
    have n148b : ((sF (sI (sF s 32 0 z23) 33 z15.toNatClampNeg z76) 32 1 z84).2.2.1 32 0).toInt = (s.2.2.1 32 0).toInt + 1 := by have b0 : z23 = (sF (sI (sF s 32 0 z23) 33 z15.toNatClampNeg z76) 32 1 z84).2.2.1 32 0 := sF_ne rfl (sI_F (sF_get)); first | (rw [← b0, ← e_32_0]; exact n148a) | (rw [← b0]; exact n148a)
    exact g_return (gd rfl) rfl (hP _ _ ⟨(sF (sI (sF s 32 0 z23) 33 z15.toNatClampNeg z76) 32 1 z84), hI148, (fr_sF rfl (fr_sI rfl (fr_sF rfl fr_rf))), n148b, rfl, rfl, n148⟩)
  · skip
    have i33 := sw_eq c33
    have h32 : z32 = s.1 30 (7 * (s.2.2.1 32 0).toInt.toNat) := rw7_v (c := 0) (by have a0 := (rng_F hI.1 448 28000 rfl e_30_0); unfold In at a0; have a1 := (rng_F hI.1 0 32 rfl e_32_1); unfold In at a1; have a2 := r_32_0; unfold In at a2; have a3 := i6; unfold In at a3; have a4 := (t_mulc 7 (Or.inr e6) r_32_0 rfl).1; have a5 := i23; unfold In at a5; have a6 := t_add e23 r_32_0 (in_c 1 rfl) rfl; have a7 := (in_c 1 rfl); unfold In at a7; have a8 := i14; unfold In at a8; have a9 := t_add e14 i6 (in_c 1 rfl) rfl; omega) e32
    have hr := rw7_1 q_0 hk e32 c33
    have i91 : In z15 0 159 := by rw [hp]; exact hr.1
    refine g_aload_n 92 (gd rfl) rfl rfl ?_
    refine g_aload_n 93 (gd rfl) rfl rfl ?_
    refine g_iload_n 94 (gd rfl) rfl rfl ?_
    refine g_iload_n 95 (gd rfl) rfl rfl ?_
    have v95 : u_30_0 = (sF s 32 0 z23).2.2.1 30 0 := sF_ne rfl (e_30_0)
    have n95 : (z6).toInt + 7 ≤ (u_30_0).toInt := by have a0 := (rng_F hI.1 448 28000 rfl e_30_0); unfold In at a0; have a1 := (rng_F hI.1 0 32 rfl e_32_1); unfold In at a1; have a2 := r_32_0; unfold In at a2; have a3 := i91; unfold In at a3; have a4 := i6; unfold In at a4; have a5 := (t_mulc 7 (Or.inr e6) r_32_0 rfl).1; have a6 := i23; unfold In at a6; have a7 := t_add e23 r_32_0 (in_c 1 rfl) rfl; have a8 := (in_c 1 rfl); unfold In at a8; have a9 := i14; unfold In at a9; have a10 := t_add e14 i6 (in_c 1 rfl) rfl; omega
    have p95 : In ((sF s 32 0 z23).1 30 ((z6).toInt + 2).toNat) (0) 31 := by show In (s.1 30 ((z6).toInt + 2).toNat) 0 31; rw [(show s.1 30 ((z6).toInt + 2).toNat = s.1 30 (7 * (s.2.2.1 32 0).toInt.toNat + 2) from congrArg (s.1 30) (by have a0 := (rng_F hI.1 448 28000 rfl e_30_0); unfold In at a0; have a1 := (rng_F hI.1 0 32 rfl e_32_1); unfold In at a1; have a2 := r_32_0; unfold In at a2; have a3 := i91; unfold In at a3; have a4 := i6; unfold In at a4; have a5 := (t_mulc 7 (Or.inr e6) r_32_0 rfl).1; have a6 := i23; unfold In at a6; have a7 := t_add e23 r_32_0 (in_c 1 rfl) rfl; have a8 := (in_c 1 rfl); unfold In at a8; have a9 := i14; unfold In at a9; have a10 := t_add e14 i6 (in_c 1 rfl) rfl; omega))]; have h1 := hr.2.1; have h2 := q_1.1; have h3 := rng_F hI.1 0 32 (q := 32) (j := 1) rfl rfl; unfold In at h3; exact ⟨by omega, by omega⟩
    have p95a : In ((sF s 32 0 z23).1 30 ((z6).toInt + 3).toNat) (0) 31 := by show In (s.1 30 ((z6).toInt + 3).toNat) 0 31; rw [(show s.1 30 ((z6).toInt + 3).toNat = s.1 30 (7 * (s.2.2.1 32 0).toInt.toNat + 3) from congrArg (s.1 30) (by have a0 := (rng_F hI.1 448 28000 rfl e_30_0); unfold In at a0; have a1 := (rng_F hI.1 0 32 rfl e_32_1); unfold In at a1; have a2 := r_32_0; unfold In at a2; have a3 := i91; unfold In at a3; have a4 := i6; unfold In at a4; have a5 := (t_mulc 7 (Or.inr e6) r_32_0 rfl).1; have a6 := i23; unfold In at a6; have a7 := t_add e23 r_32_0 (in_c 1 rfl) rfl; have a8 := (in_c 1 rfl); unfold In at a8; have a9 := i14; unfold In at a9; have a10 := t_add e14 i6 (in_c 1 rfl) rfl; omega))]; have h1 := hr.2.2.1; have h2 := q_1.1; have h3 := rng_F hI.1 0 32 (q := 32) (j := 1) rfl rfl; unfold In at h3; exact ⟨by omega, by omega⟩
    have p95b : In ((sF s 32 0 z23).1 30 ((z6).toInt + 4).toNat) (-1000000) 1000000 := by show In (s.1 30 ((z6).toInt + 4).toNat) _ _; rw [(show s.1 30 ((z6).toInt + 4).toNat = s.1 30 (7 * (s.2.2.1 32 0).toInt.toNat + 4) from congrArg (s.1 30) (by have a0 := (rng_F hI.1 448 28000 rfl e_30_0); unfold In at a0; have a1 := (rng_F hI.1 0 32 rfl e_32_1); unfold In at a1; have a2 := r_32_0; unfold In at a2; have a3 := i91; unfold In at a3; have a4 := i6; unfold In at a4; have a5 := (t_mulc 7 (Or.inr e6) r_32_0 rfl).1; have a6 := i23; unfold In at a6; have a7 := t_add e23 r_32_0 (in_c 1 rfl) rfl; have a8 := (in_c 1 rfl); unfold In at a8; have a9 := i14; unfold In at a9; have a10 := t_add e14 i6 (in_c 1 rfl) rfl; omega))]; exact hr.2.2.2.1
    have p95c : In ((sF s 32 0 z23).1 30 ((z6).toInt + 5).toNat) (0) 1000000 := by show In (s.1 30 ((z6).toInt + 5).toNat) _ _; rw [(show s.1 30 ((z6).toInt + 5).toNat = s.1 30 (7 * (s.2.2.1 32 0).toInt.toNat + 5) from congrArg (s.1 30) (by have a0 := (rng_F hI.1 448 28000 rfl e_30_0); unfold In at a0; have a1 := (rng_F hI.1 0 32 rfl e_32_1); unfold In at a1; have a2 := r_32_0; unfold In at a2; have a3 := i91; unfold In at a3; have a4 := i6; unfold In at a4; have a5 := (t_mulc 7 (Or.inr e6) r_32_0 rfl).1; have a6 := i23; unfold In at a6; have a7 := t_add e23 r_32_0 (in_c 1 rfl) rfl; have a8 := (in_c 1 rfl); unfold In at a8; have a9 := i14; unfold In at a9; have a10 := t_add e14 i6 (in_c 1 rfl) rfl; omega))]; exact hr.2.2.2.2.1
    have p95d : In ((sF s 32 0 z23).1 30 ((z6).toInt + 6).toNat) (0) 25 := by show In (s.1 30 ((z6).toInt + 6).toNat) _ _; rw [(show s.1 30 ((z6).toInt + 6).toNat = s.1 30 (7 * (s.2.2.1 32 0).toInt.toNat + 6) from congrArg (s.1 30) (by have a0 := (rng_F hI.1 448 28000 rfl e_30_0); unfold In at a0; have a1 := (rng_F hI.1 0 32 rfl e_32_1); unfold In at a1; have a2 := r_32_0; unfold In at a2; have a3 := i91; unfold In at a3; have a4 := i6; unfold In at a4; have a5 := (t_mulc 7 (Or.inr e6) r_32_0 rfl).1; have a6 := i23; unfold In at a6; have a7 := t_add e23 r_32_0 (in_c 1 rfl) rfl; have a8 := (in_c 1 rfl); unfold In at a8; have a9 := i14; unfold In at a9; have a10 := t_add e14 i6 (in_c 1 rfl) rfl; omega))]; exact hr.2.2.2.2.2
    refine g_callv (X := _) (As := [.ref (A 32), .int z6, .int z15]) (r := []) (b := A 1) (q := 1) 98 (gd rfl) rfl rfl rfl rfl rfl (ww_o rfl) (Nat.le_of_ble_eq_true rfl) (Nat.zero_le _) (Nat.zero_le _) (k_132_1_32 (by first | exact dq1 hd rfl | exact dq0 hd rfl | exact dq2 hd rfl | exact dq3 hd rfl | omega) hI24 (in_w 0 27993 i6 rfl) (in_w 0 159 i91 rfl) v95 n95 p95 p95a p95b p95c p95d) (fun e u h => h) (fun v u h => ?_)
    obtain ⟨s95, hI95, hF95, rfl, rfl, p95e, p95f⟩ := h
    show GG _ _ _ _ _ _ _ _ [] _ _ _
    refine g_goto 148 (gd rfl) rfl ?_
    have hI148 : Inv s95 := by have hFF : Fr fm_131_1_32 s s95 := (fr_tr rfl (fr_sF rfl fr_rf) hF95); exact ⟨hI95, kk_ap32 hI.2 hFF rfl (by rw [hFF.2.2.1 32 4 rfl, ← (show z23 = s95.2.2.1 32 0 from fr_F (s := (sF s 32 0 z23)) (sF_get) hF95 rfl)]; have hg := hI.2.2.1.1; rw [mF_at rfl, mF_at rfl, ← e_32_0] at hg; have a0 := (rng_F hI.1 448 28000 rfl e_30_0); unfold In at a0; have a1 := (rng_F hI.1 0 32 rfl e_32_1); unfold In at a1; have a2 := r_32_0; unfold In at a2; have a3 := i91; unfold In at a3; have a4 := i6; unfold In at a4; have a5 := (t_mulc 7 (Or.inr e6) r_32_0 rfl).1; have a6 := i23; unfold In at a6; have a7 := t_add e23 r_32_0 (in_c 1 rfl) rfl; have a8 := (in_c 1 rfl); unfold In at a8; have a9 := i14; unfold In at a9; have a10 := t_add e14 i6 (in_c 1 rfl) rfl; omega)⟩
    have n148 : KV s95 32 := by have hif : (if (s.1 30 (7 * (s.2.2.1 32 0).toInt.toNat)).toInt = 0 then (1 : Int) else 0) = 0 := if_neg (by rw [← h32]; have a0 := (rng_F hI.1 448 28000 rfl e_30_0); unfold In at a0; have a1 := (rng_F hI.1 0 32 rfl e_32_1); unfold In at a1; have a2 := r_32_0; unfold In at a2; have a3 := i91; unfold In at a3; have a4 := i6; unfold In at a4; have a5 := (t_mulc 7 (Or.inr e6) r_32_0 rfl).1; have a6 := i23; unfold In at a6; have a7 := t_add e23 r_32_0 (in_c 1 rfl) rfl; have a8 := (in_c 1 rfl); unfold In at a8; have a9 := i14; unfold In at a9; have a10 := t_add e14 i6 (in_c 1 rfl) rfl; omega); exact kv_st q_1 (hF95.1 30 rfl) (rng_F hI.1 0 4000 (q := 32) (j := 0) rfl rfl).1 (by rw [← (show z23 = s95.2.2.1 32 0 from fr_F (s := (sF s 32 0 z23)) (sF_get) hF95 rfl), ← e_32_0]; have a0 := (rng_F hI.1 448 28000 rfl e_30_0); unfold In at a0; have a1 := (rng_F hI.1 0 32 rfl e_32_1); unfold In at a1; have a2 := r_32_0; unfold In at a2; have a3 := i91; unfold In at a3; have a4 := i6; unfold In at a4; have a5 := (t_mulc 7 (Or.inr e6) r_32_0 rfl).1; have a6 := i23; unfold In at a6; have a7 := t_add e23 r_32_0 (in_c 1 rfl) rfl; have a8 := (in_c 1 rfl); unfold In at a8; have a9 := i14; unfold In at a9; have a10 := t_add e14 i6 (in_c 1 rfl) rfl; omega) (by rw [hif, ← (show u_32_1 = s95.2.2.1 32 1 from fr_F (s := (sF s 32 0 z23)) (sF_ne rfl (e_32_1)) hF95 rfl), ← e_32_1]; omega) (by rw [← (show u_32_1 = s95.2.2.1 32 1 from fr_F (s := (sF s 32 0 z23)) (sF_ne rfl (e_32_1)) hF95 rfl), e_32_1]; exact (by rw [p95e, p95f]; show KN (upd (s.1 34) _ (s.1 30 ((z6).toInt + 2).toNat)) (upd (s.1 35) _ (s.1 30 ((z6).toInt + 3).toNat)) _; rw [(show s.1 30 ((z6).toInt + 2).toNat = s.1 30 (7 * (s.2.2.1 32 0).toInt.toNat + 2) from congrArg (s.1 30) (by have a0 := (rng_F hI.1 448 28000 rfl e_30_0); unfold In at a0; have a1 := (rng_F hI.1 0 32 rfl e_32_1); unfold In at a1; have a2 := r_32_0; unfold In at a2; have a3 := i91; unfold In at a3; have a4 := i6; unfold In at a4; have a5 := (t_mulc 7 (Or.inr e6) r_32_0 rfl).1; have a6 := i23; unfold In at a6; have a7 := t_add e23 r_32_0 (in_c 1 rfl) rfl; have a8 := (in_c 1 rfl); unfold In at a8; have a9 := i14; unfold In at a9; have a10 := t_add e14 i6 (in_c 1 rfl) rfl; omega)), (show s.1 30 ((z6).toInt + 3).toNat = s.1 30 (7 * (s.2.2.1 32 0).toInt.toNat + 3) from congrArg (s.1 30) (by have a0 := (rng_F hI.1 448 28000 rfl e_30_0); unfold In at a0; have a1 := (rng_F hI.1 0 32 rfl e_32_1); unfold In at a1; have a2 := r_32_0; unfold In at a2; have a3 := i91; unfold In at a3; have a4 := i6; unfold In at a4; have a5 := (t_mulc 7 (Or.inr e6) r_32_0 rfl).1; have a6 := i23; unfold In at a6; have a7 := t_add e23 r_32_0 (in_c 1 rfl) rfl; have a8 := (in_c 1 rfl); unfold In at a8; have a9 := i14; unfold In at a9; have a10 := t_add e14 i6 (in_c 1 rfl) rfl; omega))]; exact kn_ar q_1.2 (by rw [q_1.1]; exact hr.2.1) (by rw [q_1.1]; exact hr.2.2.1)))
    have n148a : (z23).toInt = (u_32_0).toInt + 1 := by have a0 := (rng_F hI.1 448 28000 rfl e_30_0); unfold In at a0; have a1 := (rng_F hI.1 0 32 rfl e_32_1); unfold In at a1; have a2 := r_32_0; unfold In at a2; have a3 := i91; unfold In at a3; have a4 := i6; unfold In at a4; have a5 := (t_mulc 7 (Or.inr e6) r_32_0 rfl).1; have a6 := i23; unfold In at a6; have a7 := t_add e23 r_32_0 (in_c 1 rfl) rfl; have a8 := (in_c 1 rfl); unfold In at a8; have a9 := i14; unfold In at a9; have a10 := t_add e14 i6 (in_c 1 rfl) rfl; omega
    have n148b : (s95.2.2.1 32 0).toInt = (s.2.2.1 32 0).toInt + 1 := by have b0 : z23 = s95.2.2.1 32 0 := fr_F (s := (sF s 32 0 z23)) (sF_get) hF95 rfl; first | (rw [← b0, ← e_32_0]; exact n148a) | (rw [← b0]; exact n148a)
    exact g_return (gd rfl) rfl (hP _ _ ⟨s95, hI148, (fr_tr rfl (fr_sF rfl fr_rf) hF95), n148b, rfl, rfl, n148⟩)
  · skip
    have i33 := sw_eq c33
    have h32 : z32 = s.1 30 (7 * (s.2.2.1 32 0).toInt.toNat) := rw7_v (c := 0) (by have a0 := (rng_F hI.1 448 28000 rfl e_30_0); unfold In at a0; have a1 := (rng_F hI.1 0 32 rfl e_32_1); unfold In at a1; have a2 := r_32_0; unfold In at a2; have a3 := i6; unfold In at a3; have a4 := (t_mulc 7 (Or.inr e6) r_32_0 rfl).1; have a5 := i23; unfold In at a5; have a6 := t_add e23 r_32_0 (in_c 1 rfl) rfl; have a7 := (in_c 1 rfl); unfold In at a7; have a8 := i14; unfold In at a8; have a9 := t_add e14 i6 (in_c 1 rfl) rfl; omega) e32
    have hr := rw7_2 q_0 hk e32 c33
    have i101 : In z15 0 159 := by rw [hp]; exact hr
    refine g_aload_n 102 (gd rfl) rfl rfl ?_
    refine g_iload_n 103 (gd rfl) rfl rfl ?_
    refine g_callv (X := _) (As := [.int z15]) (r := []) (b := A 32) (q := 32) 106 (gd rfl) rfl rfl rfl rfl rfl (ww_o rfl) (Nat.le_of_ble_eq_true rfl) (Nat.zero_le _) (Nat.zero_le _) (k_105_32 (by first | exact dq1 hd rfl | exact dq0 hd rfl | exact dq2 hd rfl | exact dq3 hd rfl | omega) hI24 (in_w 0 159 i101 rfl)) (fun e u h => h) (fun v u h => ?_)
    obtain ⟨s103, hI103, hF103, rfl, rfl, p103⟩ := h
    show GG _ _ _ _ _ _ _ _ [] _ _ _
    refine g_goto 148 (gd rfl) rfl ?_
    have hI148 : Inv s103 := by have hFF : Fr fm_131_1_32 s s103 := (fr_tr rfl (fr_sF rfl fr_rf) hF103); exact ⟨hI103, kk_ap32 hI.2 hFF rfl (by rw [hFF.2.2.1 32 4 rfl, ← (show z23 = s103.2.2.1 32 0 from fr_F (s := (sF s 32 0 z23)) (sF_get) hF103 rfl)]; have hg := hI.2.2.1.1; rw [mF_at rfl, mF_at rfl, ← e_32_0] at hg; have a0 := (rng_F hI.1 448 28000 rfl e_30_0); unfold In at a0; have a1 := (rng_F hI.1 0 32 rfl e_32_1); unfold In at a1; have a2 := r_32_0; unfold In at a2; have a3 := i101; unfold In at a3; have a4 := i6; unfold In at a4; have a5 := (t_mulc 7 (Or.inr e6) r_32_0 rfl).1; have a6 := i23; unfold In at a6; have a7 := t_add e23 r_32_0 (in_c 1 rfl) rfl; have a8 := (in_c 1 rfl); unfold In at a8; have a9 := i14; unfold In at a9; have a10 := t_add e14 i6 (in_c 1 rfl) rfl; omega)⟩
    have n148 : KV s103 32 := by have hif : (if (s.1 30 (7 * (s.2.2.1 32 0).toInt.toNat)).toInt = 0 then (1 : Int) else 0) = 0 := if_neg (by rw [← h32]; have a0 := (rng_F hI.1 448 28000 rfl e_30_0); unfold In at a0; have a1 := (rng_F hI.1 0 32 rfl e_32_1); unfold In at a1; have a2 := r_32_0; unfold In at a2; have a3 := i101; unfold In at a3; have a4 := i6; unfold In at a4; have a5 := (t_mulc 7 (Or.inr e6) r_32_0 rfl).1; have a6 := i23; unfold In at a6; have a7 := t_add e23 r_32_0 (in_c 1 rfl) rfl; have a8 := (in_c 1 rfl); unfold In at a8; have a9 := i14; unfold In at a9; have a10 := t_add e14 i6 (in_c 1 rfl) rfl; omega); exact kv_st q_1 (hF103.1 30 rfl) (rng_F hI.1 0 4000 (q := 32) (j := 0) rfl rfl).1 (by rw [← (show z23 = s103.2.2.1 32 0 from fr_F (s := (sF s 32 0 z23)) (sF_get) hF103 rfl), ← e_32_0]; have a0 := (rng_F hI.1 448 28000 rfl e_30_0); unfold In at a0; have a1 := (rng_F hI.1 0 32 rfl e_32_1); unfold In at a1; have a2 := r_32_0; unfold In at a2; have a3 := i101; unfold In at a3; have a4 := i6; unfold In at a4; have a5 := (t_mulc 7 (Or.inr e6) r_32_0 rfl).1; have a6 := i23; unfold In at a6; have a7 := t_add e23 r_32_0 (in_c 1 rfl) rfl; have a8 := (in_c 1 rfl); unfold In at a8; have a9 := i14; unfold In at a9; have a10 := t_add e14 i6 (in_c 1 rfl) rfl; omega) (by rw [hif, ← (show u_32_1 = s103.2.2.1 32 1 from fr_F (s := (sF s 32 0 z23)) (sF_ne rfl (e_32_1)) hF103 rfl), ← e_32_1]; omega) (by rw [← (show u_32_1 = s103.2.2.1 32 1 from fr_F (s := (sF s 32 0 z23)) (sF_ne rfl (e_32_1)) hF103 rfl), e_32_1]; exact (by rw [p103, hF103.1 35 rfl]; exact kn_dr q_1.2 (by decide)))
    have n148a : (z23).toInt = (u_32_0).toInt + 1 := by have a0 := (rng_F hI.1 448 28000 rfl e_30_0); unfold In at a0; have a1 := (rng_F hI.1 0 32 rfl e_32_1); unfold In at a1; have a2 := r_32_0; unfold In at a2; have a3 := i101; unfold In at a3; have a4 := i6; unfold In at a4; have a5 := (t_mulc 7 (Or.inr e6) r_32_0 rfl).1; have a6 := i23; unfold In at a6; have a7 := t_add e23 r_32_0 (in_c 1 rfl) rfl; have a8 := (in_c 1 rfl); unfold In at a8; have a9 := i14; unfold In at a9; have a10 := t_add e14 i6 (in_c 1 rfl) rfl; omega
    have n148b : (s103.2.2.1 32 0).toInt = (s.2.2.1 32 0).toInt + 1 := by have b0 : z23 = s103.2.2.1 32 0 := fr_F (s := (sF s 32 0 z23)) (sF_get) hF103 rfl; first | (rw [← b0, ← e_32_0]; exact n148a) | (rw [← b0]; exact n148a)
    exact g_return (gd rfl) rfl (hP _ _ ⟨s103, hI148, (fr_tr rfl (fr_sF rfl fr_rf) hF103), n148b, rfl, rfl, n148⟩)
  · skip
    have i33 := sw_eq c33
    have h32 : z32 = s.1 30 (7 * (s.2.2.1 32 0).toInt.toNat) := rw7_v (c := 0) (by have a0 := (rng_F hI.1 448 28000 rfl e_30_0); unfold In at a0; have a1 := (rng_F hI.1 0 32 rfl e_32_1); unfold In at a1; have a2 := r_32_0; unfold In at a2; have a3 := i6; unfold In at a3; have a4 := (t_mulc 7 (Or.inr e6) r_32_0 rfl).1; have a5 := i23; unfold In at a5; have a6 := t_add e23 r_32_0 (in_c 1 rfl) rfl; have a7 := (in_c 1 rfl); unfold In at a7; have a8 := i14; unfold In at a8; have a9 := t_add e14 i6 (in_c 1 rfl) rfl; omega) e32
    have hr := rw7_3 q_0 hk e32 c33
    have i109 : In z15 0 159 := by rw [hp]; exact hr.1
    refine g_aload_n 110 (gd rfl) rfl rfl ?_
    refine g_aload_n 111 (gd rfl) rfl rfl ?_
    refine g_iload_n 112 (gd rfl) rfl rfl ?_
    refine g_aload_n 113 (gd rfl) rfl rfl ?_
    refine g_getA (q2 := 30) 116 (gd rfl) rfl rfl rfl rfl ?_
    refine g_iload_n 117 (gd rfl) rfl rfl ?_
    refine g_iconst 2 118 (gd rfl) rfl rfl ?_
    refine g_iadd 119 (gd rfl) rfl (fun z118 e118 => ?_)
    have i118 := in_add 2 27995 e118 i6 (in_c 2 rfl) rfl rfl
    have hx119 : vp_in z118 ((sF s 32 0 z23).2.2.1 30 0).toNatClampNeg := lg_in (by have a0 := (rng_F hI.1 448 28000 rfl e_30_0); unfold In at a0; have a1 := (rng_F hI.1 0 32 rfl e_32_1); unfold In at a1; have a2 := r_32_0; unfold In at a2; have a3 := i109; unfold In at a3; have a4 := i6; unfold In at a4; have a5 := (t_mulc 7 (Or.inr e6) r_32_0 rfl).1; have a6 := i23; unfold In at a6; have a7 := t_add e23 r_32_0 (in_c 1 rfl) rfl; have a8 := (in_c 1 rfl); unfold In at a8; have a9 := i118; unfold In at a9; have a10 := t_add e118 i6 (in_c 2 rfl) rfl; have a11 := (in_c 2 rfl); unfold In at a11; have a12 := i14; unfold In at a12; have a13 := t_add e14 i6 (in_c 1 rfl) rfl; omega) (by rw [← (show u_30_0 = (sF s 32 0 z23).2.2.1 30 0 from sF_ne rfl (e_30_0))]; have a0 := (rng_F hI.1 448 28000 rfl e_30_0); unfold In at a0; have a1 := (rng_F hI.1 0 32 rfl e_32_1); unfold In at a1; have a2 := r_32_0; unfold In at a2; have a3 := i109; unfold In at a3; have a4 := i6; unfold In at a4; have a5 := (t_mulc 7 (Or.inr e6) r_32_0 rfl).1; have a6 := i23; unfold In at a6; have a7 := t_add e23 r_32_0 (in_c 1 rfl) rfl; have a8 := (in_c 1 rfl); unfold In at a8; have a9 := i118; unfold In at a9; have a10 := t_add e118 i6 (in_c 2 rfl) rfl; have a11 := (in_c 2 rfl); unfold In at a11; have a12 := i14; unfold In at a12; have a13 := t_add e14 i6 (in_c 1 rfl) rfl; omega)
    refine g_lgload 120 (gd rfl) rfl hx119 (fun z119 e119 => ?_)
    refine g_aload_n 121 (gd rfl) rfl rfl ?_
    refine g_getA (q2 := 30) 124 (gd rfl) rfl rfl rfl rfl ?_
    refine g_iload_n 125 (gd rfl) rfl rfl ?_
    refine g_iconst 3 126 (gd rfl) rfl rfl ?_
    refine g_iadd 127 (gd rfl) rfl (fun z126 e126 => ?_)
    have i126 := in_add 3 27996 e126 i6 (in_c 3 rfl) rfl rfl
    have hx127 : vp_in z126 ((sF s 32 0 z23).2.2.1 30 0).toNatClampNeg := lg_in (by have a0 := (rng_F hI.1 448 28000 rfl e_30_0); unfold In at a0; have a1 := (rng_F hI.1 0 32 rfl e_32_1); unfold In at a1; have a2 := r_32_0; unfold In at a2; have a3 := i109; unfold In at a3; have a4 := i6; unfold In at a4; have a5 := (t_mulc 7 (Or.inr e6) r_32_0 rfl).1; have a6 := i23; unfold In at a6; have a7 := t_add e23 r_32_0 (in_c 1 rfl) rfl; have a8 := (in_c 1 rfl); unfold In at a8; have a9 := i126; unfold In at a9; have a10 := t_add e126 i6 (in_c 3 rfl) rfl; have a11 := (in_c 3 rfl); unfold In at a11; have a12 := i118; unfold In at a12; have a13 := t_add e118 i6 (in_c 2 rfl) rfl; have a14 := (in_c 2 rfl); unfold In at a14; have a15 := i14; unfold In at a15; have a16 := t_add e14 i6 (in_c 1 rfl) rfl; omega) (by rw [← (show u_30_0 = (sF s 32 0 z23).2.2.1 30 0 from sF_ne rfl (e_30_0))]; have a0 := (rng_F hI.1 448 28000 rfl e_30_0); unfold In at a0; have a1 := (rng_F hI.1 0 32 rfl e_32_1); unfold In at a1; have a2 := r_32_0; unfold In at a2; have a3 := i109; unfold In at a3; have a4 := i6; unfold In at a4; have a5 := (t_mulc 7 (Or.inr e6) r_32_0 rfl).1; have a6 := i23; unfold In at a6; have a7 := t_add e23 r_32_0 (in_c 1 rfl) rfl; have a8 := (in_c 1 rfl); unfold In at a8; have a9 := i126; unfold In at a9; have a10 := t_add e126 i6 (in_c 3 rfl) rfl; have a11 := (in_c 3 rfl); unfold In at a11; have a12 := i118; unfold In at a12; have a13 := t_add e118 i6 (in_c 2 rfl) rfl; have a14 := (in_c 2 rfl); unfold In at a14; have a15 := i14; unfold In at a15; have a16 := t_add e14 i6 (in_c 1 rfl) rfl; omega)
    refine g_lgload 128 (gd rfl) rfl hx127 (fun z127 e127 => ?_)
    have p128 : (z119).toInt = 0 → In z127 (-1000000) 1000000 := by rw [rw7_v (k := (s.2.2.1 32 0).toInt.toNat) (c := 2) (by have a0 := (rng_F hI.1 448 28000 rfl e_30_0); unfold In at a0; have a1 := (rng_F hI.1 0 32 rfl e_32_1); unfold In at a1; have a2 := r_32_0; unfold In at a2; have a3 := i109; unfold In at a3; have a4 := i6; unfold In at a4; have a5 := (t_mulc 7 (Or.inr e6) r_32_0 rfl).1; have a6 := i23; unfold In at a6; have a7 := t_add e23 r_32_0 (in_c 1 rfl) rfl; have a8 := (in_c 1 rfl); unfold In at a8; have a9 := i126; unfold In at a9; have a10 := t_add e126 i6 (in_c 3 rfl) rfl; have a11 := (in_c 3 rfl); unfold In at a11; have a12 := i118; unfold In at a12; have a13 := t_add e118 i6 (in_c 2 rfl) rfl; have a14 := (in_c 2 rfl); unfold In at a14; have a15 := i14; unfold In at a15; have a16 := t_add e14 i6 (in_c 1 rfl) rfl; omega) e119, rw7_v (k := (s.2.2.1 32 0).toInt.toNat) (c := 3) (by have a0 := (rng_F hI.1 448 28000 rfl e_30_0); unfold In at a0; have a1 := (rng_F hI.1 0 32 rfl e_32_1); unfold In at a1; have a2 := r_32_0; unfold In at a2; have a3 := i109; unfold In at a3; have a4 := i6; unfold In at a4; have a5 := (t_mulc 7 (Or.inr e6) r_32_0 rfl).1; have a6 := i23; unfold In at a6; have a7 := t_add e23 r_32_0 (in_c 1 rfl) rfl; have a8 := (in_c 1 rfl); unfold In at a8; have a9 := i126; unfold In at a9; have a10 := t_add e126 i6 (in_c 3 rfl) rfl; have a11 := (in_c 3 rfl); unfold In at a11; have a12 := i118; unfold In at a12; have a13 := t_add e118 i6 (in_c 2 rfl) rfl; have a14 := (in_c 2 rfl); unfold In at a14; have a15 := i14; unfold In at a15; have a16 := t_add e14 i6 (in_c 1 rfl) rfl; omega) e127]; exact hr.2.1
    have p128a : (z119).toInt = 1 → In z127 0 1000000 := by rw [rw7_v (k := (s.2.2.1 32 0).toInt.toNat) (c := 2) (by have a0 := (rng_F hI.1 448 28000 rfl e_30_0); unfold In at a0; have a1 := (rng_F hI.1 0 32 rfl e_32_1); unfold In at a1; have a2 := r_32_0; unfold In at a2; have a3 := i109; unfold In at a3; have a4 := i6; unfold In at a4; have a5 := (t_mulc 7 (Or.inr e6) r_32_0 rfl).1; have a6 := i23; unfold In at a6; have a7 := t_add e23 r_32_0 (in_c 1 rfl) rfl; have a8 := (in_c 1 rfl); unfold In at a8; have a9 := i126; unfold In at a9; have a10 := t_add e126 i6 (in_c 3 rfl) rfl; have a11 := (in_c 3 rfl); unfold In at a11; have a12 := i118; unfold In at a12; have a13 := t_add e118 i6 (in_c 2 rfl) rfl; have a14 := (in_c 2 rfl); unfold In at a14; have a15 := i14; unfold In at a15; have a16 := t_add e14 i6 (in_c 1 rfl) rfl; omega) e119, rw7_v (k := (s.2.2.1 32 0).toInt.toNat) (c := 3) (by have a0 := (rng_F hI.1 448 28000 rfl e_30_0); unfold In at a0; have a1 := (rng_F hI.1 0 32 rfl e_32_1); unfold In at a1; have a2 := r_32_0; unfold In at a2; have a3 := i109; unfold In at a3; have a4 := i6; unfold In at a4; have a5 := (t_mulc 7 (Or.inr e6) r_32_0 rfl).1; have a6 := i23; unfold In at a6; have a7 := t_add e23 r_32_0 (in_c 1 rfl) rfl; have a8 := (in_c 1 rfl); unfold In at a8; have a9 := i126; unfold In at a9; have a10 := t_add e126 i6 (in_c 3 rfl) rfl; have a11 := (in_c 3 rfl); unfold In at a11; have a12 := i118; unfold In at a12; have a13 := t_add e118 i6 (in_c 2 rfl) rfl; have a14 := (in_c 2 rfl); unfold In at a14; have a15 := i14; unfold In at a15; have a16 := t_add e14 i6 (in_c 1 rfl) rfl; omega) e127]; exact hr.2.2.1
    have p128b : (z119).toInt ≠ 0 → (z119).toInt ≠ 1 → In z127 0 25 := by rw [rw7_v (k := (s.2.2.1 32 0).toInt.toNat) (c := 2) (by have a0 := (rng_F hI.1 448 28000 rfl e_30_0); unfold In at a0; have a1 := (rng_F hI.1 0 32 rfl e_32_1); unfold In at a1; have a2 := r_32_0; unfold In at a2; have a3 := i109; unfold In at a3; have a4 := i6; unfold In at a4; have a5 := (t_mulc 7 (Or.inr e6) r_32_0 rfl).1; have a6 := i23; unfold In at a6; have a7 := t_add e23 r_32_0 (in_c 1 rfl) rfl; have a8 := (in_c 1 rfl); unfold In at a8; have a9 := i126; unfold In at a9; have a10 := t_add e126 i6 (in_c 3 rfl) rfl; have a11 := (in_c 3 rfl); unfold In at a11; have a12 := i118; unfold In at a12; have a13 := t_add e118 i6 (in_c 2 rfl) rfl; have a14 := (in_c 2 rfl); unfold In at a14; have a15 := i14; unfold In at a15; have a16 := t_add e14 i6 (in_c 1 rfl) rfl; omega) e119, rw7_v (k := (s.2.2.1 32 0).toInt.toNat) (c := 3) (by have a0 := (rng_F hI.1 448 28000 rfl e_30_0); unfold In at a0; have a1 := (rng_F hI.1 0 32 rfl e_32_1); unfold In at a1; have a2 := r_32_0; unfold In at a2; have a3 := i109; unfold In at a3; have a4 := i6; unfold In at a4; have a5 := (t_mulc 7 (Or.inr e6) r_32_0 rfl).1; have a6 := i23; unfold In at a6; have a7 := t_add e23 r_32_0 (in_c 1 rfl) rfl; have a8 := (in_c 1 rfl); unfold In at a8; have a9 := i126; unfold In at a9; have a10 := t_add e126 i6 (in_c 3 rfl) rfl; have a11 := (in_c 3 rfl); unfold In at a11; have a12 := i118; unfold In at a12; have a13 := t_add e118 i6 (in_c 2 rfl) rfl; have a14 := (in_c 2 rfl); unfold In at a14; have a15 := i14; unfold In at a15; have a16 := t_add e14 i6 (in_c 1 rfl) rfl; omega) e127]; exact hr.2.2.2
    refine g_callv (X := _) (As := [.ref (A 32), .int z15, .int z119, .int z127]) (r := []) (b := A 1) (q := 1) 131 (gd rfl) rfl rfl rfl rfl rfl (ww_o rfl) (Nat.le_of_ble_eq_true rfl) (Nat.zero_le _) (Nat.zero_le _) (k_133_1_32 (by first | exact dq1 hd rfl | exact dq0 hd rfl | exact dq2 hd rfl | exact dq3 hd rfl | omega) hI24 (in_w 0 159 i109 rfl) p128 p128a p128b) (fun e u h => h) (fun v u h => ?_)
    obtain ⟨s128, hI128, hF128, rfl, rfl⟩ := h
    show GG _ _ _ _ _ _ _ _ [] _ _ _
    refine g_goto 148 (gd rfl) rfl ?_
    have hI148 : Inv s128 := by have hFF : Fr fm_131_1_32 s s128 := (fr_tr rfl (fr_sF rfl fr_rf) hF128); exact ⟨hI128, kk_ap32 hI.2 hFF rfl (by rw [hFF.2.2.1 32 4 rfl, ← (show z23 = s128.2.2.1 32 0 from fr_F (s := (sF s 32 0 z23)) (sF_get) hF128 rfl)]; have hg := hI.2.2.1.1; rw [mF_at rfl, mF_at rfl, ← e_32_0] at hg; have a0 := (rng_F hI.1 448 28000 rfl e_30_0); unfold In at a0; have a1 := (rng_F hI.1 0 32 rfl e_32_1); unfold In at a1; have a2 := r_32_0; unfold In at a2; have a3 := i109; unfold In at a3; have a4 := i6; unfold In at a4; have a5 := (t_mulc 7 (Or.inr e6) r_32_0 rfl).1; have a6 := i23; unfold In at a6; have a7 := t_add e23 r_32_0 (in_c 1 rfl) rfl; have a8 := (in_c 1 rfl); unfold In at a8; have a9 := i126; unfold In at a9; have a10 := t_add e126 i6 (in_c 3 rfl) rfl; have a11 := (in_c 3 rfl); unfold In at a11; have a12 := i118; unfold In at a12; have a13 := t_add e118 i6 (in_c 2 rfl) rfl; have a14 := (in_c 2 rfl); unfold In at a14; have a15 := i14; unfold In at a15; have a16 := t_add e14 i6 (in_c 1 rfl) rfl; omega)⟩
    have n148 : KV s128 32 := by have hif : (if (s.1 30 (7 * (s.2.2.1 32 0).toInt.toNat)).toInt = 0 then (1 : Int) else 0) = 0 := if_neg (by rw [← h32]; have a0 := (rng_F hI.1 448 28000 rfl e_30_0); unfold In at a0; have a1 := (rng_F hI.1 0 32 rfl e_32_1); unfold In at a1; have a2 := r_32_0; unfold In at a2; have a3 := i109; unfold In at a3; have a4 := i6; unfold In at a4; have a5 := (t_mulc 7 (Or.inr e6) r_32_0 rfl).1; have a6 := i23; unfold In at a6; have a7 := t_add e23 r_32_0 (in_c 1 rfl) rfl; have a8 := (in_c 1 rfl); unfold In at a8; have a9 := i126; unfold In at a9; have a10 := t_add e126 i6 (in_c 3 rfl) rfl; have a11 := (in_c 3 rfl); unfold In at a11; have a12 := i118; unfold In at a12; have a13 := t_add e118 i6 (in_c 2 rfl) rfl; have a14 := (in_c 2 rfl); unfold In at a14; have a15 := i14; unfold In at a15; have a16 := t_add e14 i6 (in_c 1 rfl) rfl; omega); exact kv_st q_1 (hF128.1 30 rfl) (rng_F hI.1 0 4000 (q := 32) (j := 0) rfl rfl).1 (by rw [← (show z23 = s128.2.2.1 32 0 from fr_F (s := (sF s 32 0 z23)) (sF_get) hF128 rfl), ← e_32_0]; have a0 := (rng_F hI.1 448 28000 rfl e_30_0); unfold In at a0; have a1 := (rng_F hI.1 0 32 rfl e_32_1); unfold In at a1; have a2 := r_32_0; unfold In at a2; have a3 := i109; unfold In at a3; have a4 := i6; unfold In at a4; have a5 := (t_mulc 7 (Or.inr e6) r_32_0 rfl).1; have a6 := i23; unfold In at a6; have a7 := t_add e23 r_32_0 (in_c 1 rfl) rfl; have a8 := (in_c 1 rfl); unfold In at a8; have a9 := i126; unfold In at a9; have a10 := t_add e126 i6 (in_c 3 rfl) rfl; have a11 := (in_c 3 rfl); unfold In at a11; have a12 := i118; unfold In at a12; have a13 := t_add e118 i6 (in_c 2 rfl) rfl; have a14 := (in_c 2 rfl); unfold In at a14; have a15 := i14; unfold In at a15; have a16 := t_add e14 i6 (in_c 1 rfl) rfl; omega) (by rw [hif, ← (show u_32_1 = s128.2.2.1 32 1 from fr_F (s := (sF s 32 0 z23)) (sF_ne rfl (e_32_1)) hF128 rfl), ← e_32_1]; omega) (by rw [← (show u_32_1 = s128.2.2.1 32 1 from fr_F (s := (sF s 32 0 z23)) (sF_ne rfl (e_32_1)) hF128 rfl), e_32_1]; exact (by rw [hF128.1 34 rfl, hF128.1 35 rfl]; exact q_1.2))
    have n148a : (z23).toInt = (u_32_0).toInt + 1 := by have a0 := (rng_F hI.1 448 28000 rfl e_30_0); unfold In at a0; have a1 := (rng_F hI.1 0 32 rfl e_32_1); unfold In at a1; have a2 := r_32_0; unfold In at a2; have a3 := i109; unfold In at a3; have a4 := i6; unfold In at a4; have a5 := (t_mulc 7 (Or.inr e6) r_32_0 rfl).1; have a6 := i23; unfold In at a6; have a7 := t_add e23 r_32_0 (in_c 1 rfl) rfl; have a8 := (in_c 1 rfl); unfold In at a8; have a9 := i126; unfold In at a9; have a10 := t_add e126 i6 (in_c 3 rfl) rfl; have a11 := (in_c 3 rfl); unfold In at a11; have a12 := i118; unfold In at a12; have a13 := t_add e118 i6 (in_c 2 rfl) rfl; have a14 := (in_c 2 rfl); unfold In at a14; have a15 := i14; unfold In at a15; have a16 := t_add e14 i6 (in_c 1 rfl) rfl; omega
    have n148b : (s128.2.2.1 32 0).toInt = (s.2.2.1 32 0).toInt + 1 := by have b0 : z23 = s128.2.2.1 32 0 := fr_F (s := (sF s 32 0 z23)) (sF_get) hF128 rfl; first | (rw [← b0, ← e_32_0]; exact n148a) | (rw [← b0]; exact n148a)
    exact g_return (gd rfl) rfl (hP _ _ ⟨s128, hI148, (fr_tr rfl (fr_sF rfl fr_rf) hF128), n148b, rfl, rfl, n148⟩)
  · skip
    have h32 : z32 = s.1 30 (7 * (s.2.2.1 32 0).toInt.toNat) := rw7_v (c := 0) (by have a0 := (rng_F hI.1 448 28000 rfl e_30_0); unfold In at a0; have a1 := (rng_F hI.1 0 32 rfl e_32_1); unfold In at a1; have a2 := r_32_0; unfold In at a2; have a3 := i6; unfold In at a3; have a4 := (t_mulc 7 (Or.inr e6) r_32_0 rfl).1; have a5 := i23; unfold In at a5; have a6 := t_add e23 r_32_0 (in_c 1 rfl) rfl; have a7 := (in_c 1 rfl); unfold In at a7; have a8 := i14; unfold In at a8; have a9 := t_add e14 i6 (in_c 1 rfl) rfl; omega) e32
    have hr := rw7_4 q_0 hk e32 c33
    have i134 : In z15 0 31 := by rw [hp]; exact hr.1
    refine g_aload_n 135 (gd rfl) rfl rfl ?_
    refine g_getA (q2 := 33) 138 (gd rfl) rfl rfl rfl rfl ?_
    refine g_iload_n 139 (gd rfl) rfl rfl ?_
    refine g_aload_n 140 (gd rfl) rfl rfl ?_
    refine g_getA (q2 := 30) 143 (gd rfl) rfl rfl rfl rfl ?_
    refine g_iload_n 144 (gd rfl) rfl rfl ?_
    refine g_iconst 2 145 (gd rfl) rfl rfl ?_
    refine g_iadd 146 (gd rfl) rfl (fun z145 e145 => ?_)
    have i145 := in_add 2 27995 e145 i6 (in_c 2 rfl) rfl rfl
    have hx146 : vp_in z145 ((sF s 32 0 z23).2.2.1 30 0).toNatClampNeg := lg_in (by have a0 := (rng_F hI.1 448 28000 rfl e_30_0); unfold In at a0; have a1 := (rng_F hI.1 0 32 rfl e_32_1); unfold In at a1; have a2 := r_32_0; unfold In at a2; have a3 := i134; unfold In at a3; have a4 := i6; unfold In at a4; have a5 := (t_mulc 7 (Or.inr e6) r_32_0 rfl).1; have a6 := i23; unfold In at a6; have a7 := t_add e23 r_32_0 (in_c 1 rfl) rfl; have a8 := (in_c 1 rfl); unfold In at a8; have a9 := i145; unfold In at a9; have a10 := t_add e145 i6 (in_c 2 rfl) rfl; have a11 := (in_c 2 rfl); unfold In at a11; have a12 := i14; unfold In at a12; have a13 := t_add e14 i6 (in_c 1 rfl) rfl; omega) (by rw [← (show u_30_0 = (sF s 32 0 z23).2.2.1 30 0 from sF_ne rfl (e_30_0))]; have a0 := (rng_F hI.1 448 28000 rfl e_30_0); unfold In at a0; have a1 := (rng_F hI.1 0 32 rfl e_32_1); unfold In at a1; have a2 := r_32_0; unfold In at a2; have a3 := i134; unfold In at a3; have a4 := i6; unfold In at a4; have a5 := (t_mulc 7 (Or.inr e6) r_32_0 rfl).1; have a6 := i23; unfold In at a6; have a7 := t_add e23 r_32_0 (in_c 1 rfl) rfl; have a8 := (in_c 1 rfl); unfold In at a8; have a9 := i145; unfold In at a9; have a10 := t_add e145 i6 (in_c 2 rfl) rfl; have a11 := (in_c 2 rfl); unfold In at a11; have a12 := i14; unfold In at a12; have a13 := t_add e14 i6 (in_c 1 rfl) rfl; omega)
    refine g_lgload 147 (gd rfl) rfl hx146 (fun z146 e146 => ?_)
    have i147 : In z146 0 25 := by rw [rw7_v (k := (s.2.2.1 32 0).toInt.toNat) (c := 2) (by have a0 := (rng_F hI.1 448 28000 rfl e_30_0); unfold In at a0; have a1 := (rng_F hI.1 0 32 rfl e_32_1); unfold In at a1; have a2 := r_32_0; unfold In at a2; have a3 := i134; unfold In at a3; have a4 := i6; unfold In at a4; have a5 := (t_mulc 7 (Or.inr e6) r_32_0 rfl).1; have a6 := i23; unfold In at a6; have a7 := t_add e23 r_32_0 (in_c 1 rfl) rfl; have a8 := (in_c 1 rfl); unfold In at a8; have a9 := i145; unfold In at a9; have a10 := t_add e145 i6 (in_c 2 rfl) rfl; have a11 := (in_c 2 rfl); unfold In at a11; have a12 := i14; unfold In at a12; have a13 := t_add e14 i6 (in_c 1 rfl) rfl; omega) e146]; exact hr.2
    refine g_iastore 148 (gd rfl) rfl (n := 32) rfl (in_ix i134 rfl) ?_
    have hI147 := rng_sI (q := 33) (j := z15.toNatClampNeg) hI24 rfl (in_w 0 25 i147 rfl)
    have hI148 : Inv (sI (sF s 32 0 z23) 33 z15.toNatClampNeg z146) := by have hFF : Fr fm_131_1_32 s (sI (sF s 32 0 z23) 33 z15.toNatClampNeg z146) := (fr_sI rfl (fr_sF rfl fr_rf)); exact ⟨hI147, kk_ap32 hI.2 hFF rfl (by rw [hFF.2.2.1 32 4 rfl, ← (show z23 = (sI (sF s 32 0 z23) 33 z15.toNatClampNeg z146).2.2.1 32 0 from sI_F (sF_get))]; have hg := hI.2.2.1.1; rw [mF_at rfl, mF_at rfl, ← e_32_0] at hg; have a0 := (rng_F hI.1 448 28000 rfl e_30_0); unfold In at a0; have a1 := (rng_F hI.1 0 32 rfl e_32_1); unfold In at a1; have a2 := r_32_0; unfold In at a2; have a3 := i134; unfold In at a3; have a4 := i6; unfold In at a4; have a5 := (t_mulc 7 (Or.inr e6) r_32_0 rfl).1; have a6 := i23; unfold In at a6; have a7 := t_add e23 r_32_0 (in_c 1 rfl) rfl; have a8 := (in_c 1 rfl); unfold In at a8; have a9 := i145; unfold In at a9; have a10 := t_add e145 i6 (in_c 2 rfl) rfl; have a11 := (in_c 2 rfl); unfold In at a11; have a12 := i14; unfold In at a12; have a13 := t_add e14 i6 (in_c 1 rfl) rfl; omega)⟩
    have n148 : KV (sI (sF s 32 0 z23) 33 z15.toNatClampNeg z146) 32 := by have hif : (if (s.1 30 (7 * (s.2.2.1 32 0).toInt.toNat)).toInt = 0 then (1 : Int) else 0) = 0 := if_neg (by rw [← h32]; have a0 := (rng_F hI.1 448 28000 rfl e_30_0); unfold In at a0; have a1 := (rng_F hI.1 0 32 rfl e_32_1); unfold In at a1; have a2 := r_32_0; unfold In at a2; have a3 := i134; unfold In at a3; have a4 := i6; unfold In at a4; have a5 := (t_mulc 7 (Or.inr e6) r_32_0 rfl).1; have a6 := i23; unfold In at a6; have a7 := t_add e23 r_32_0 (in_c 1 rfl) rfl; have a8 := (in_c 1 rfl); unfold In at a8; have a9 := i145; unfold In at a9; have a10 := t_add e145 i6 (in_c 2 rfl) rfl; have a11 := (in_c 2 rfl); unfold In at a11; have a12 := i14; unfold In at a12; have a13 := t_add e14 i6 (in_c 1 rfl) rfl; omega); exact kv_st q_1 rfl (rng_F hI.1 0 4000 (q := 32) (j := 0) rfl rfl).1 (by rw [← (show z23 = (sI (sF s 32 0 z23) 33 z15.toNatClampNeg z146).2.2.1 32 0 from sI_F (sF_get)), ← e_32_0]; have a0 := (rng_F hI.1 448 28000 rfl e_30_0); unfold In at a0; have a1 := (rng_F hI.1 0 32 rfl e_32_1); unfold In at a1; have a2 := r_32_0; unfold In at a2; have a3 := i134; unfold In at a3; have a4 := i6; unfold In at a4; have a5 := (t_mulc 7 (Or.inr e6) r_32_0 rfl).1; have a6 := i23; unfold In at a6; have a7 := t_add e23 r_32_0 (in_c 1 rfl) rfl; have a8 := (in_c 1 rfl); unfold In at a8; have a9 := i145; unfold In at a9; have a10 := t_add e145 i6 (in_c 2 rfl) rfl; have a11 := (in_c 2 rfl); unfold In at a11; have a12 := i14; unfold In at a12; have a13 := t_add e14 i6 (in_c 1 rfl) rfl; omega) (by rw [hif, ← (show u_32_1 = (sI (sF s 32 0 z23) 33 z15.toNatClampNeg z146).2.2.1 32 1 from sI_F (sF_ne rfl (e_32_1))), ← e_32_1]; omega) (by rw [← (show u_32_1 = (sI (sF s 32 0 z23) 33 z15.toNatClampNeg z146).2.2.1 32 1 from sI_F (sF_ne rfl (e_32_1))), e_32_1]; exact q_1.2)
    have n148a : (z23).toInt = (u_32_0).toInt + 1 := by have a0 := (rng_F hI.1 448 28000 rfl e_30_0); unfold In at a0; have a1 := (rng_F hI.1 0 32 rfl e_32_1); unfold In at a1; have a2 := r_32_0; unfold In at a2; have a3 := i134; unfold In at a3; have a4 := i6; unfold In at a4; have a5 := (t_mulc 7 (Or.inr e6) r_32_0 rfl).1; have a6 := i23; unfold In at a6; have a7 := t_add e23 r_32_0 (in_c 1 rfl) rfl; have a8 := (in_c 1 rfl); unfold In at a8; have a9 := i145; unfold In at a9; have a10 := t_add e145 i6 (in_c 2 rfl) rfl; have a11 := (in_c 2 rfl); unfold In at a11; have a12 := i14; unfold In at a12; have a13 := t_add e14 i6 (in_c 1 rfl) rfl; omega
    have n148b : ((sI (sF s 32 0 z23) 33 z15.toNatClampNeg z146).2.2.1 32 0).toInt = (s.2.2.1 32 0).toInt + 1 := by have b0 : z23 = (sI (sF s 32 0 z23) 33 z15.toNatClampNeg z146).2.2.1 32 0 := sI_F (sF_get); first | (rw [← b0, ← e_32_0]; exact n148a) | (rw [← b0]; exact n148a)
    exact g_return (gd rfl) rfl (hP _ _ ⟨(sI (sF s 32 0 z23) 33 z15.toNatClampNeg z146), hI148, (fr_sI rfl (fr_sF rfl fr_rf)), n148b, rfl, rfl, n148⟩)

def fm_142_56_2 : FM := ([9, 10, 11, 12, 13, 14, 15], [], [(2, 4)], [])
/-- GraphHouse$Parts.isBridge -/
theorem k_142_56_2 {Z : AmZ} {A : Nat → Nat} {s : GS} {ex : va_W} {d : Nat} {X : AmX} {x2 : Int32} (hd : 5 ≤ d) (hI : Inv s) (h2 : In x2 0 159) : GC Z d 142 [.ref (A 56), .ref (A 2), .int x2] (WW Z A s ++ ex) 0 0 (fun v u => ∃ t : GS, Inv t ∧ Fr fm_142_56_2 s t ∧ ∃ z : Int32, v = some (.int z) ∧ u = WW Z A t ++ ex ∧ In z 0 1) X := by
  intro post xp hP hX
  obtain ⟨u_2_3, e_2_3⟩ : ∃ w, w = s.2.2.1 2 3 := ⟨_, rfl⟩
  have ro_2_3 := inv_F hI 0 160 rfl e_2_3
  have ct28 : ∀ (k28 : Nat) (sc28 : GS) (y28_3 : Int32) (y28_4 : Int32) (y28_5 : Int32), Inv sc28 → Fr fm_142_56_2 s sc28 → (In y28_3 0 31) → (In y28_4 0 31) → (In y28_5 0 160) → 160 - (y28_5).toInt < (k28 : Int) → GG Z (d - 1) 142 post (gx xp) (1 + k28 * 900) 28 (fun j => xlook j [(0, .ref (A 56)), (1, .ref (A 2)), (2, .int x2), (3, .int y28_3), (4, .int y28_4), (5, .int y28_5)]) [] (WW Z A sc28 ++ ex) 0 0 := by
    intro k28
    induction k28 with
    | zero => intro sc28 y28_3 y28_4 y28_5 hIc28 hFc28 j28_3 j28_4 j28_5 mm28; exact m_no mm28 j28_5 rfl
    | succ k28 ih28 =>
      intro sc28 y28_3 y28_4 y28_5 hIc28 hFc28 j28_3 j28_4 j28_5 mm28
      refine gg_w (M := 1 + k28 * 900 + 900) gws ?_
      refine g_iload 30 (gd rfl) rfl rfl ?_
      refine g_aload_n 31 (gd rfl) rfl rfl ?_
      refine g_getI 34 (gd rfl) rfl rfl rfl (fun z31 e31 => ?_)
      have q31 : u_2_3 = z31 := (fr_F e_2_3 hFc28 rfl).trans e31.symm
      subst q31
      refine g_cmp_ge 37 106 (gd rfl) rfl rfl (fun c34 => ?_) (fun c34 => ?_)
      · skip
        refine g_aload_n 107 (gd rfl) rfl rfl ?_
        refine g_callv (X := _) (As := []) (r := []) (b := A 2) (q := 2) 110 (gd rfl) rfl rfl rfl rfl rfl (ww_o rfl) (Nat.le_of_ble_eq_true rfl) (Nat.zero_le _) (Nat.zero_le _) (k_106_2 (by first | exact dq1 hd rfl | exact dq0 hd rfl | exact dq2 hd rfl | exact dq3 hd rfl | omega) hIc28 ) (fun e u h => h) (fun v u h => ?_)
        obtain ⟨s107, hI107, hF107, n107, rfl, rfl⟩ := h
        obtain ⟨z107a, e107⟩ : ∃ w, w = s107.2.2.1 2 4 := ⟨_, rfl⟩
        have i107a := inv_F hI107 (-1) 4000 rfl e107
        obtain ⟨z107b, e107a⟩ : ∃ w, w = s107.2.2.1 2 0 := ⟨_, rfl⟩
        have i107b := inv_F hI107 0 4000 rfl e107a
        rw [← (show z107a = s107.2.2.1 2 4 from e107)] at n107
        rw [← (show z107b = s107.2.2.1 2 0 from e107a)] at n107
        show GG _ _ _ _ _ _ _ _ [] _ _ _
        refine g_aload_n 111 (gd rfl) rfl rfl ?_
        refine g_getA (q2 := 9) 114 (gd rfl) rfl rfl rfl rfl ?_
        refine g_aload_n 115 (gd rfl) rfl rfl ?_
        refine g_getA (q2 := 9) 118 (gd rfl) rfl rfl rfl rfl ?_
        refine g_iload_n 119 (gd rfl) rfl rfl ?_
        refine g_iaload 120 (gd rfl) rfl (n := 32) rfl (in_ix j28_3 rfl) (fun z119 e119 => ?_)
        refine g_iconst 1 121 (gd rfl) rfl rfl ?_
        refine g_iload 123 (gd rfl) rfl rfl ?_
        refine g_ishl 124 (gd rfl) rfl (fun z123 e123 => ?_)
        refine g_iconst (-1) 125 (gd rfl) rfl rfl ?_
        refine g_ixor 126 (gd rfl) rfl (fun z125 e125 => ?_)
        refine g_iand 127 (gd rfl) rfl (fun z126 e126 => ?_)
        refine g_iconst 1 128 (gd rfl) rfl rfl ?_
        refine g_iload_n 129 (gd rfl) rfl rfl ?_
        refine g_ishl 130 (gd rfl) rfl (fun z129 e129 => ?_)
        refine g_iconst (-1) 131 (gd rfl) rfl rfl ?_
        refine g_ixor 132 (gd rfl) rfl (fun z131 e131 => ?_)
        refine g_calls (As := [.ref (A 9), .int z126, .int z131]) (r := []) 135 (gd rfl) rfl rfl rfl rfl rfl (Nat.le_of_ble_eq_true rfl) (Nat.zero_le _) (Nat.zero_le _) (k_266_9 (by first | exact dq1 hd rfl | exact dq0 hd rfl | exact dq2 hd rfl | exact dq3 hd rfl | omega) hI107 ) (fun v u h => ?_)
        obtain ⟨z132, rfl, rfl, i132, p132⟩ := h
        show GG _ _ _ _ _ _ _ _ [.int z132] _ _ _
        refine g_istore 137 (gd rfl) rfl (Nat.le_of_ble_eq_true rfl) ?_
        refine g_iload 139 (gd rfl) rfl rfl ?_
        refine g_iload 141 (gd rfl) rfl rfl ?_
        refine g_ishr 142 (gd rfl) rfl (fun z141 e141 => ?_)
        refine g_iconst 1 143 (gd rfl) rfl rfl ?_
        refine g_iand 144 (gd rfl) rfl (fun z143 e143 => ?_)
        have i143 := in_and2 e143 (in_c 1 rfl) rfl
        refine g_if_ne 147 151 (gd rfl) rfl rfl (fun c144 => ?_) (fun c144 => ?_)
        · skip
          have i144 := z_ne 1 1 c144 i143 rfl
          refine g_iconst 0 152 (gd rfl) rfl rfl ?_
          exact g_ireturn (gd rfl) rfl (nb01 (in_w 0 1 (in_c 0 rfl) rfl)) (hP _ _ ⟨s107, hI107, (fr_tr rfl hFc28 hF107), (Int32.ofInt 0), rfl, rfl, in_w 0 1 (in_c 0 rfl) rfl⟩)
        · skip
          have i144 := z_eq 0 0 c144 i143 rfl
          refine g_iconst 1 148 (gd rfl) rfl rfl ?_
          refine g_goto 152 (gd rfl) rfl ?_
          exact g_ireturn (gd rfl) rfl (nb01 (in_w 0 1 (in_c 1 rfl) rfl)) (hP _ _ ⟨s107, hI107, (fr_tr rfl hFc28 hF107), (Int32.ofInt 1), rfl, rfl, in_w 0 1 (in_c 1 rfl) rfl⟩)
      · skip
        have i34 := r_lt1 0 159 c34 j28_5 ro_2_3 rfl
        have i34a := r_lt2 1 160 c34 j28_5 ro_2_3 rfl
        refine g_iload 39 (gd rfl) rfl rfl ?_
        refine g_iload_n 40 (gd rfl) rfl rfl ?_
        refine g_cmp_eq 43 100 (gd rfl) rfl rfl (fun c40 => ?_) (fun c40 => ?_)
        · skip
          refine g_iinc 103 (gd rfl) rfl rfl (Nat.le_of_ble_eq_true rfl) (fun z100 e100 => ?_)
          have i100 := in_add 1 160 e100 i34 (in_c 1 rfl) rfl rfl
          refine g_goto 28 (gd rfl) rfl ?_
          exact gg_w (by first | exact Nat.le_add_right _ _ | exact gw2 | exact gw3 | exact gwe rfl | exact gwf rfl | exact gwg rfl | exact gwh rfl | omega) (gg_f (gf_cons rfl (gf_cons rfl (gf_cons rfl (gf_cons rfl (gf_cons rfl (gf_cons rfl gf_nil)))))) (ih28 sc28 y28_3 y28_4 z100 hIc28 hFc28 (in_w 0 31 j28_3 rfl) (in_w 0 31 j28_4 rfl) (in_w 0 160 i100 rfl) (m_up mm28 (t_add e100 i34 (in_c 1 rfl) rfl) (in_w 1 1 (in_c 1 rfl) rfl))))
        · skip
          refine g_aload_n 44 (gd rfl) rfl rfl ?_
          refine g_iload 46 (gd rfl) rfl rfl ?_
          refine g_callv (X := _) (As := [.int y28_5]) (r := []) (b := A 2) (q := 2) 49 (gd rfl) rfl rfl rfl rfl rfl (ww_o rfl) (Nat.le_of_ble_eq_true rfl) (mc := 0) (ms := 0) (Nat.zero_le _) (Nat.zero_le _) (P := fun v u => _) ?_ (fun e u h => h) (fun v u h => h)
          intro po46 xx46 hp46 hx46
          refine g_enter2 (k := 97) (N := 300) (by first | exact dq1 hd rfl | exact dq0 hd rfl | exact dq2 hd rfl | exact dq3 hd rfl | omega) rfl (Nat.le_of_ble_eq_true rfl) ?_
          refine g_aload_n 1 (gd rfl) rfl rfl ?_
          refine g_getA (q2 := 4) 4 (gd rfl) rfl rfl rfl rfl ?_
          refine g_iload_n 5 (gd rfl) rfl rfl ?_
          refine g_iaload 6 (gd rfl) rfl (n := 160) rfl (in_ix i34 rfl) (fun z46x5 e46x5 => ?_)
          have i46x5 := inv_I hIc28 (n := 160) (t := 0) (-1) 31 rfl (in_ix i34 rfl) rfl e46x5
          refine g_iconst (-1) 7 (gd rfl) rfl rfl ?_
          refine g_cmp_eq 10 29 (gd rfl) rfl rfl (fun c46x7 => ?_) (fun c46x7 => ?_)
          · skip
            have i46x7 := r_eq1 (-1) (-1) c46x7 i46x5 (in_c (-1) rfl) rfl
            refine g_iconst 0 30 (gd rfl) rfl rfl ?_
            refine g_ireturn (gd rfl) rfl (nb01 (in_w 0 1 (in_c 0 rfl) rfl)) (hp46 _ _ ?_)
            show GG _ _ _ _ _ _ _ _ [.int (Int32.ofInt 0)] _ _ _
            refine g_if_eq 52 100 (gd rfl) rfl rfl (fun c49 => ?_) (fun c49 => ?_)
            · skip
              refine g_iinc 103 (gd rfl) rfl rfl (Nat.le_of_ble_eq_true rfl) (fun z100 e100 => ?_)
              have i100 := in_add 1 160 e100 i34 (in_c 1 rfl) rfl rfl
              refine g_goto 28 (gd rfl) rfl ?_
              exact gg_w (by first | exact Nat.le_add_right _ _ | exact gw2 | exact gw3 | exact gwe rfl | exact gwf rfl | exact gwg rfl | exact gwh rfl | omega) (gg_f (gf_cons rfl (gf_cons rfl (gf_cons rfl (gf_cons rfl (gf_cons rfl (gf_cons rfl gf_nil)))))) (ih28 sc28 y28_3 y28_4 z100 hIc28 hFc28 (in_w 0 31 j28_3 rfl) (in_w 0 31 j28_4 rfl) (in_w 0 160 i100 rfl) (m_up mm28 (t_add e100 i34 (in_c 1 rfl) rfl) (in_w 1 1 (in_c 1 rfl) rfl))))
            · skip
              exact zn_ne c49 (in_c 0 rfl) rfl
          · skip
            have i46x7 := r_ne1 0 31 c46x7 i46x5 (in_c (-1) rfl) rfl
            refine g_aload_n 11 (gd rfl) rfl rfl ?_
            refine g_getA (q2 := 4) 14 (gd rfl) rfl rfl rfl rfl ?_
            refine g_iload_n 15 (gd rfl) rfl rfl ?_
            refine g_iaload 16 (gd rfl) rfl (n := 160) rfl (in_ix i34 rfl) (fun z46x15 e46x15 => ?_)
            have q46x15 : z46x5 = z46x15 := (e46x5).trans e46x15.symm
            subst q46x15
            refine g_aload_n 17 (gd rfl) rfl rfl ?_
            refine g_getA (q2 := 5) 20 (gd rfl) rfl rfl rfl rfl ?_
            refine g_iload_n 21 (gd rfl) rfl rfl ?_
            refine g_iaload 22 (gd rfl) rfl (n := 160) rfl (in_ix i34 rfl) (fun z46x21 e46x21 => ?_)
            have i46x21 := inv_I hIc28 (n := 160) (t := 0) 0 31 rfl (in_ix i34 rfl) rfl e46x21
            refine g_cmp_eq 25 29 (gd rfl) rfl rfl (fun c46x22 => ?_) (fun c46x22 => ?_)
            · skip
              refine g_iconst 0 30 (gd rfl) rfl rfl ?_
              refine g_ireturn (gd rfl) rfl (nb01 (in_w 0 1 (in_c 0 rfl) rfl)) (hp46 _ _ ?_)
              show GG _ _ _ _ _ _ _ _ [.int (Int32.ofInt 0)] _ _ _
              refine g_if_eq 52 100 (gd rfl) rfl rfl (fun c49 => ?_) (fun c49 => ?_)
              · skip
                refine g_iinc 103 (gd rfl) rfl rfl (Nat.le_of_ble_eq_true rfl) (fun z100 e100 => ?_)
                have i100 := in_add 1 160 e100 i34 (in_c 1 rfl) rfl rfl
                refine g_goto 28 (gd rfl) rfl ?_
                exact gg_w (by first | exact Nat.le_add_right _ _ | exact gw2 | exact gw3 | exact gwe rfl | exact gwf rfl | exact gwg rfl | exact gwh rfl | omega) (gg_f (gf_cons rfl (gf_cons rfl (gf_cons rfl (gf_cons rfl (gf_cons rfl (gf_cons rfl gf_nil)))))) (ih28 sc28 y28_3 y28_4 z100 hIc28 hFc28 (in_w 0 31 j28_3 rfl) (in_w 0 31 j28_4 rfl) (in_w 0 160 i100 rfl) (m_up mm28 (t_add e100 i34 (in_c 1 rfl) rfl) (in_w 1 1 (in_c 1 rfl) rfl))))
              · skip
                exact zn_ne c49 (in_c 0 rfl) rfl
            · skip
              refine g_iconst 1 26 (gd rfl) rfl rfl ?_
              refine g_goto 30 (gd rfl) rfl ?_
              refine g_ireturn (gd rfl) rfl (nb01 (in_w 0 1 (in_c 1 rfl) rfl)) (hp46 _ _ ?_)
              show GG _ _ _ _ _ _ _ _ [.int (Int32.ofInt 1)] _ _ _
              refine g_if_eq 52 100 (gd rfl) rfl rfl (fun c49 => ?_) (fun c49 => ?_)
              · skip
                exact zn_eq c49 (in_c 1 rfl) rfl
              · skip
                refine g_aload_n 53 (gd rfl) rfl rfl ?_
                refine g_getA (q2 := 4) 56 (gd rfl) rfl rfl rfl rfl ?_
                refine g_iload 58 (gd rfl) rfl rfl ?_
                refine g_iaload 59 (gd rfl) rfl (n := 160) rfl (in_ix i34 rfl) (fun z58 e58 => ?_)
                have q58 : z46x5 = z58 := (e46x5).trans e58.symm
                subst q58
                refine g_iload_n 60 (gd rfl) rfl rfl ?_
                refine g_cmp_ne 63 75 (gd rfl) rfl rfl (fun c60 => ?_) (fun c60 => ?_)
                · skip
                  refine g_aload_n 76 (gd rfl) rfl rfl ?_
                  refine g_getA (q2 := 4) 79 (gd rfl) rfl rfl rfl rfl ?_
                  refine g_iload 81 (gd rfl) rfl rfl ?_
                  refine g_iaload 82 (gd rfl) rfl (n := 160) rfl (in_ix i34 rfl) (fun z81 e81 => ?_)
                  have q81 : z46x5 = z81 := (e46x5).trans e81.symm
                  subst q81
                  refine g_iload 84 (gd rfl) rfl rfl ?_
                  refine g_cmp_ne 87 100 (gd rfl) rfl rfl (fun c84 => ?_) (fun c84 => ?_)
                  · skip
                    refine g_iinc 103 (gd rfl) rfl rfl (Nat.le_of_ble_eq_true rfl) (fun z100 e100 => ?_)
                    have i100 := in_add 1 160 e100 i34 (in_c 1 rfl) rfl rfl
                    refine g_goto 28 (gd rfl) rfl ?_
                    exact gg_w (by first | exact Nat.le_add_right _ _ | exact gw2 | exact gw3 | exact gwe rfl | exact gwf rfl | exact gwg rfl | exact gwh rfl | omega) (gg_f (gf_cons rfl (gf_cons rfl (gf_cons rfl (gf_cons rfl (gf_cons rfl (gf_cons rfl gf_nil)))))) (ih28 sc28 y28_3 y28_4 z100 hIc28 hFc28 (in_w 0 31 j28_3 rfl) (in_w 0 31 j28_4 rfl) (in_w 0 160 i100 rfl) (m_up mm28 (t_add e100 i34 (in_c 1 rfl) rfl) (in_w 1 1 (in_c 1 rfl) rfl))))
                  · skip
                    refine g_aload_n 88 (gd rfl) rfl rfl ?_
                    refine g_getA (q2 := 5) 91 (gd rfl) rfl rfl rfl rfl ?_
                    refine g_iload 93 (gd rfl) rfl rfl ?_
                    refine g_iaload 94 (gd rfl) rfl (n := 160) rfl (in_ix i34 rfl) (fun z93 e93 => ?_)
                    have q93 : z46x21 = z93 := (e46x21).trans e93.symm
                    subst q93
                    refine g_iload_n 95 (gd rfl) rfl rfl ?_
                    refine g_cmp_ne 98 100 (gd rfl) rfl rfl (fun c95 => ?_) (fun c95 => ?_)
                    · skip
                      refine g_iinc 103 (gd rfl) rfl rfl (Nat.le_of_ble_eq_true rfl) (fun z100 e100 => ?_)
                      have i100 := in_add 1 160 e100 i34 (in_c 1 rfl) rfl rfl
                      refine g_goto 28 (gd rfl) rfl ?_
                      exact gg_w (by first | exact Nat.le_add_right _ _ | exact gw2 | exact gw3 | exact gwe rfl | exact gwf rfl | exact gwg rfl | exact gwh rfl | omega) (gg_f (gf_cons rfl (gf_cons rfl (gf_cons rfl (gf_cons rfl (gf_cons rfl (gf_cons rfl gf_nil)))))) (ih28 sc28 y28_3 y28_4 z100 hIc28 hFc28 (in_w 0 31 j28_3 rfl) (in_w 0 31 j28_4 rfl) (in_w 0 160 i100 rfl) (m_up mm28 (t_add e100 i34 (in_c 1 rfl) rfl) (in_w 1 1 (in_c 1 rfl) rfl))))
                    · skip
                      refine g_iconst 0 99 (gd rfl) rfl rfl ?_
                      exact g_ireturn (gd rfl) rfl (nb01 (in_w 0 1 (in_c 0 rfl) rfl)) (hP _ _ ⟨sc28, hIc28, hFc28, (Int32.ofInt 0), rfl, rfl, in_w 0 1 (in_c 0 rfl) rfl⟩)
                · skip
                  refine g_aload_n 64 (gd rfl) rfl rfl ?_
                  refine g_getA (q2 := 5) 67 (gd rfl) rfl rfl rfl rfl ?_
                  refine g_iload 69 (gd rfl) rfl rfl ?_
                  refine g_iaload 70 (gd rfl) rfl (n := 160) rfl (in_ix i34 rfl) (fun z69 e69 => ?_)
                  have q69 : z46x21 = z69 := (e46x21).trans e69.symm
                  subst q69
                  refine g_iload 72 (gd rfl) rfl rfl ?_
                  refine g_cmp_eq 75 98 (gd rfl) rfl rfl (fun c72 => ?_) (fun c72 => ?_)
                  · skip
                    refine g_iconst 0 99 (gd rfl) rfl rfl ?_
                    exact g_ireturn (gd rfl) rfl (nb01 (in_w 0 1 (in_c 0 rfl) rfl)) (hP _ _ ⟨sc28, hIc28, hFc28, (Int32.ofInt 0), rfl, rfl, in_w 0 1 (in_c 0 rfl) rfl⟩)
                  · skip
                    refine g_aload_n 76 (gd rfl) rfl rfl ?_
                    refine g_getA (q2 := 4) 79 (gd rfl) rfl rfl rfl rfl ?_
                    refine g_iload 81 (gd rfl) rfl rfl ?_
                    refine g_iaload 82 (gd rfl) rfl (n := 160) rfl (in_ix i34 rfl) (fun z81 e81 => ?_)
                    have q81 : z46x5 = z81 := (e46x5).trans e81.symm
                    subst q81
                    refine g_iload 84 (gd rfl) rfl rfl ?_
                    refine g_cmp_ne 87 100 (gd rfl) rfl rfl (fun c84 => ?_) (fun c84 => ?_)
                    · skip
                      refine g_iinc 103 (gd rfl) rfl rfl (Nat.le_of_ble_eq_true rfl) (fun z100 e100 => ?_)
                      have i100 := in_add 1 160 e100 i34 (in_c 1 rfl) rfl rfl
                      refine g_goto 28 (gd rfl) rfl ?_
                      exact gg_w (by first | exact Nat.le_add_right _ _ | exact gw2 | exact gw3 | exact gwe rfl | exact gwf rfl | exact gwg rfl | exact gwh rfl | omega) (gg_f (gf_cons rfl (gf_cons rfl (gf_cons rfl (gf_cons rfl (gf_cons rfl (gf_cons rfl gf_nil)))))) (ih28 sc28 y28_3 y28_4 z100 hIc28 hFc28 (in_w 0 31 j28_3 rfl) (in_w 0 31 j28_4 rfl) (in_w 0 160 i100 rfl) (m_up mm28 (t_add e100 i34 (in_c 1 rfl) rfl) (in_w 1 1 (in_c 1 rfl) rfl))))
                    · skip
                      refine g_aload_n 88 (gd rfl) rfl rfl ?_
                      refine g_getA (q2 := 5) 91 (gd rfl) rfl rfl rfl rfl ?_
                      refine g_iload 93 (gd rfl) rfl rfl ?_
                      refine g_iaload 94 (gd rfl) rfl (n := 160) rfl (in_ix i34 rfl) (fun z93 e93 => ?_)
                      have q93 : z46x21 = z93 := (e46x21).trans e93.symm
                      subst q93
                      refine g_iload_n 95 (gd rfl) rfl rfl ?_
                      refine g_cmp_ne 98 100 (gd rfl) rfl rfl (fun c95 => ?_) (fun c95 => ?_)
                      · skip
                        refine g_iinc 103 (gd rfl) rfl rfl (Nat.le_of_ble_eq_true rfl) (fun z100 e100 => ?_)
                        have i100 := in_add 1 160 e100 i34 (in_c 1 rfl) rfl rfl
                        refine g_goto 28 (gd rfl) rfl ?_
                        exact gg_w (by first | exact Nat.le_add_right _ _ | exact gw2 | exact gw3 | exact gwe rfl | exact gwf rfl | exact gwg rfl | exact gwh rfl | omega) (gg_f (gf_cons rfl (gf_cons rfl (gf_cons rfl (gf_cons rfl (gf_cons rfl (gf_cons rfl gf_nil)))))) (ih28 sc28 y28_3 y28_4 z100 hIc28 hFc28 (in_w 0 31 j28_3 rfl) (in_w 0 31 j28_4 rfl) (in_w 0 160 i100 rfl) (m_up mm28 (t_add e100 i34 (in_c 1 rfl) rfl) (in_w 1 1 (in_c 1 rfl) rfl))))
                      · skip
                        refine g_iconst 0 99 (gd rfl) rfl rfl ?_
                        exact g_ireturn (gd rfl) rfl (nb01 (in_w 0 1 (in_c 0 rfl) rfl)) (hP _ _ ⟨sc28, hIc28, hFc28, (Int32.ofInt 0), rfl, rfl, in_w 0 1 (in_c 0 rfl) rfl⟩)
  refine g_enter2 (k := 142) (N := 145801) (by first | exact dq1 hd rfl | exact dq0 hd rfl | exact dq2 hd rfl | exact dq3 hd rfl | omega) rfl (Nat.le_of_ble_eq_true rfl) ?_
  refine g_aload_n 1 (gd rfl) rfl rfl ?_
  refine g_iload_n 2 (gd rfl) rfl rfl ?_
  refine g_callv (X := _) (As := [.int x2]) (r := []) (b := A 2) (q := 2) 5 (gd rfl) rfl rfl rfl rfl rfl (ww_o rfl) (Nat.le_of_ble_eq_true rfl) (mc := 0) (ms := 0) (Nat.zero_le _) (Nat.zero_le _) (P := fun v u => _) ?_ (fun e u h => h) (fun v u h => h)
  intro po2 xx2 hp2 hx2
  refine g_enter2 (k := 97) (N := 300) (by first | exact dq1 hd rfl | exact dq0 hd rfl | exact dq2 hd rfl | exact dq3 hd rfl | omega) rfl (Nat.le_of_ble_eq_true rfl) ?_
  refine g_aload_n 1 (gd rfl) rfl rfl ?_
  refine g_getA (q2 := 4) 4 (gd rfl) rfl rfl rfl rfl ?_
  refine g_iload_n 5 (gd rfl) rfl rfl ?_
  refine g_iaload 6 (gd rfl) rfl (n := 160) rfl (in_ix h2 rfl) (fun z2x5 e2x5 => ?_)
  have i2x5 := inv_I hI (n := 160) (t := 0) (-1) 31 rfl (in_ix h2 rfl) rfl e2x5
  refine g_iconst (-1) 7 (gd rfl) rfl rfl ?_
  refine g_cmp_eq 10 29 (gd rfl) rfl rfl (fun c2x7 => ?_) (fun c2x7 => ?_)
  · skip
    have i2x7 := r_eq1 (-1) (-1) c2x7 i2x5 (in_c (-1) rfl) rfl
    refine g_iconst 0 30 (gd rfl) rfl rfl ?_
    refine g_ireturn (gd rfl) rfl (nb01 (in_w 0 1 (in_c 0 rfl) rfl)) (hp2 _ _ ?_)
    show GG _ _ _ _ _ _ _ _ [.int (Int32.ofInt 0)] _ _ _
    refine g_if_ne 8 10 (gd rfl) rfl rfl (fun c5 => ?_) (fun c5 => ?_)
    · skip
      exact zn_ne c5 (in_c 0 rfl) rfl
    · skip
      refine g_iconst 0 9 (gd rfl) rfl rfl ?_
      exact g_ireturn (gd rfl) rfl (nb01 (in_w 0 1 (in_c 0 rfl) rfl)) (hP _ _ ⟨s, hI, fr_rf, (Int32.ofInt 0), rfl, rfl, in_w 0 1 (in_c 0 rfl) rfl⟩)
  · skip
    have i2x7 := r_ne1 0 31 c2x7 i2x5 (in_c (-1) rfl) rfl
    refine g_aload_n 11 (gd rfl) rfl rfl ?_
    refine g_getA (q2 := 4) 14 (gd rfl) rfl rfl rfl rfl ?_
    refine g_iload_n 15 (gd rfl) rfl rfl ?_
    refine g_iaload 16 (gd rfl) rfl (n := 160) rfl (in_ix h2 rfl) (fun z2x15 e2x15 => ?_)
    have q2x15 : z2x5 = z2x15 := (e2x5).trans e2x15.symm
    subst q2x15
    refine g_aload_n 17 (gd rfl) rfl rfl ?_
    refine g_getA (q2 := 5) 20 (gd rfl) rfl rfl rfl rfl ?_
    refine g_iload_n 21 (gd rfl) rfl rfl ?_
    refine g_iaload 22 (gd rfl) rfl (n := 160) rfl (in_ix h2 rfl) (fun z2x21 e2x21 => ?_)
    have i2x21 := inv_I hI (n := 160) (t := 0) 0 31 rfl (in_ix h2 rfl) rfl e2x21
    refine g_cmp_eq 25 29 (gd rfl) rfl rfl (fun c2x22 => ?_) (fun c2x22 => ?_)
    · skip
      refine g_iconst 0 30 (gd rfl) rfl rfl ?_
      refine g_ireturn (gd rfl) rfl (nb01 (in_w 0 1 (in_c 0 rfl) rfl)) (hp2 _ _ ?_)
      show GG _ _ _ _ _ _ _ _ [.int (Int32.ofInt 0)] _ _ _
      refine g_if_ne 8 10 (gd rfl) rfl rfl (fun c5 => ?_) (fun c5 => ?_)
      · skip
        exact zn_ne c5 (in_c 0 rfl) rfl
      · skip
        refine g_iconst 0 9 (gd rfl) rfl rfl ?_
        exact g_ireturn (gd rfl) rfl (nb01 (in_w 0 1 (in_c 0 rfl) rfl)) (hP _ _ ⟨s, hI, fr_rf, (Int32.ofInt 0), rfl, rfl, in_w 0 1 (in_c 0 rfl) rfl⟩)
    · skip
      refine g_iconst 1 26 (gd rfl) rfl rfl ?_
      refine g_goto 30 (gd rfl) rfl ?_
      refine g_ireturn (gd rfl) rfl (nb01 (in_w 0 1 (in_c 1 rfl) rfl)) (hp2 _ _ ?_)
      show GG _ _ _ _ _ _ _ _ [.int (Int32.ofInt 1)] _ _ _
      refine g_if_ne 8 10 (gd rfl) rfl rfl (fun c5 => ?_) (fun c5 => ?_)
      · skip
        refine g_aload_n 11 (gd rfl) rfl rfl ?_
        refine g_getA (q2 := 4) 14 (gd rfl) rfl rfl rfl rfl ?_
        refine g_iload_n 15 (gd rfl) rfl rfl ?_
        refine g_iaload 16 (gd rfl) rfl (n := 160) rfl (in_ix h2 rfl) (fun z15 e15 => ?_)
        have q15 : z2x5 = z15 := (e2x5).trans e15.symm
        subst q15
        refine g_istore_n 17 (gd rfl) rfl (Nat.le_of_ble_eq_true rfl) ?_
        refine g_aload_n 18 (gd rfl) rfl rfl ?_
        refine g_getA (q2 := 5) 21 (gd rfl) rfl rfl rfl rfl ?_
        refine g_iload_n 22 (gd rfl) rfl rfl ?_
        refine g_iaload 23 (gd rfl) rfl (n := 160) rfl (in_ix h2 rfl) (fun z22 e22 => ?_)
        have q22 : z2x21 = z22 := (e2x21).trans e22.symm
        subst q22
        refine g_istore 25 (gd rfl) rfl (Nat.le_of_ble_eq_true rfl) ?_
        refine g_iconst 0 26 (gd rfl) rfl rfl ?_
        refine g_istore 28 (gd rfl) rfl (Nat.le_of_ble_eq_true rfl) ?_
        exact gg_w (by first | exact Nat.le_of_ble_eq_true rfl | omega) (gg_f (gf_cons rfl (gf_cons rfl (gf_cons rfl (gf_cons rfl (gf_cons rfl (gf_cons rfl gf_nil)))))) (ct28 161 s z2x5 z2x21 (Int32.ofInt 0) hI fr_rf (in_w 0 31 i2x7 rfl) (in_w 0 31 i2x21 rfl) (in_w 0 160 (in_c 0 rfl) rfl) (m_in 161 (in_w 0 160 (in_c 0 rfl) rfl) rfl)))
      · skip
        exact zn_eq c5 (in_c 1 rfl) rfl

def fm_142_56_32 : FM := ([39, 40, 41, 42, 43, 44, 45], [], [(32, 4)], [])
/-- GraphHouse$Parts.isBridge -/
theorem k_142_56_32 {Z : AmZ} {A : Nat → Nat} {s : GS} {ex : va_W} {d : Nat} {X : AmX} {x2 : Int32} (hd : 5 ≤ d) (hI : Inv s) (h2 : In x2 0 159) : GC Z d 142 [.ref (A 56), .ref (A 32), .int x2] (WW Z A s ++ ex) 0 0 (fun v u => ∃ t : GS, Inv t ∧ Fr fm_142_56_32 s t ∧ ∃ z : Int32, v = some (.int z) ∧ u = WW Z A t ++ ex ∧ In z 0 1) X := by
  intro post xp hP hX
  obtain ⟨u_32_3, e_32_3⟩ : ∃ w, w = s.2.2.1 32 3 := ⟨_, rfl⟩
  have ro_32_3 := inv_F hI 0 160 rfl e_32_3
  have ct28 : ∀ (k28 : Nat) (sc28 : GS) (y28_3 : Int32) (y28_4 : Int32) (y28_5 : Int32), Inv sc28 → Fr fm_142_56_32 s sc28 → (In y28_3 0 31) → (In y28_4 0 31) → (In y28_5 0 160) → 160 - (y28_5).toInt < (k28 : Int) → GG Z (d - 1) 142 post (gx xp) (1 + k28 * 900) 28 (fun j => xlook j [(0, .ref (A 56)), (1, .ref (A 32)), (2, .int x2), (3, .int y28_3), (4, .int y28_4), (5, .int y28_5)]) [] (WW Z A sc28 ++ ex) 0 0 := by
    intro k28
    induction k28 with
    | zero => intro sc28 y28_3 y28_4 y28_5 hIc28 hFc28 j28_3 j28_4 j28_5 mm28; exact m_no mm28 j28_5 rfl
    | succ k28 ih28 =>
      intro sc28 y28_3 y28_4 y28_5 hIc28 hFc28 j28_3 j28_4 j28_5 mm28
      refine gg_w (M := 1 + k28 * 900 + 900) gws ?_
      refine g_iload 30 (gd rfl) rfl rfl ?_
      refine g_aload_n 31 (gd rfl) rfl rfl ?_
      refine g_getI 34 (gd rfl) rfl rfl rfl (fun z31 e31 => ?_)
      have q31 : u_32_3 = z31 := (fr_F e_32_3 hFc28 rfl).trans e31.symm
      subst q31
      refine g_cmp_ge 37 106 (gd rfl) rfl rfl (fun c34 => ?_) (fun c34 => ?_)
      · skip
        refine g_aload_n 107 (gd rfl) rfl rfl ?_
        refine g_callv (X := _) (As := []) (r := []) (b := A 32) (q := 32) 110 (gd rfl) rfl rfl rfl rfl rfl (ww_o rfl) (Nat.le_of_ble_eq_true rfl) (Nat.zero_le _) (Nat.zero_le _) (k_106_32 (by first | exact dq1 hd rfl | exact dq0 hd rfl | exact dq2 hd rfl | exact dq3 hd rfl | omega) hIc28 ) (fun e u h => h) (fun v u h => ?_)
        obtain ⟨s107, hI107, hF107, n107, rfl, rfl⟩ := h
        obtain ⟨z107a, e107⟩ : ∃ w, w = s107.2.2.1 32 4 := ⟨_, rfl⟩
        have i107a := inv_F hI107 (-1) 4000 rfl e107
        obtain ⟨z107b, e107a⟩ : ∃ w, w = s107.2.2.1 32 0 := ⟨_, rfl⟩
        have i107b := inv_F hI107 0 4000 rfl e107a
        rw [← (show z107a = s107.2.2.1 32 4 from e107)] at n107
        rw [← (show z107b = s107.2.2.1 32 0 from e107a)] at n107
        show GG _ _ _ _ _ _ _ _ [] _ _ _
        refine g_aload_n 111 (gd rfl) rfl rfl ?_
        refine g_getA (q2 := 39) 114 (gd rfl) rfl rfl rfl rfl ?_
        refine g_aload_n 115 (gd rfl) rfl rfl ?_
        refine g_getA (q2 := 39) 118 (gd rfl) rfl rfl rfl rfl ?_
        refine g_iload_n 119 (gd rfl) rfl rfl ?_
        refine g_iaload 120 (gd rfl) rfl (n := 32) rfl (in_ix j28_3 rfl) (fun z119 e119 => ?_)
        refine g_iconst 1 121 (gd rfl) rfl rfl ?_
        refine g_iload 123 (gd rfl) rfl rfl ?_
        refine g_ishl 124 (gd rfl) rfl (fun z123 e123 => ?_)
        refine g_iconst (-1) 125 (gd rfl) rfl rfl ?_
        refine g_ixor 126 (gd rfl) rfl (fun z125 e125 => ?_)
        refine g_iand 127 (gd rfl) rfl (fun z126 e126 => ?_)
        refine g_iconst 1 128 (gd rfl) rfl rfl ?_
        refine g_iload_n 129 (gd rfl) rfl rfl ?_
        refine g_ishl 130 (gd rfl) rfl (fun z129 e129 => ?_)
        refine g_iconst (-1) 131 (gd rfl) rfl rfl ?_
        refine g_ixor 132 (gd rfl) rfl (fun z131 e131 => ?_)
        refine g_calls (As := [.ref (A 39), .int z126, .int z131]) (r := []) 135 (gd rfl) rfl rfl rfl rfl rfl (Nat.le_of_ble_eq_true rfl) (Nat.zero_le _) (Nat.zero_le _) (k_266_39 (by first | exact dq1 hd rfl | exact dq0 hd rfl | exact dq2 hd rfl | exact dq3 hd rfl | omega) hI107 ) (fun v u h => ?_)
        obtain ⟨z132, rfl, rfl, i132, p132⟩ := h
        show GG _ _ _ _ _ _ _ _ [.int z132] _ _ _
        refine g_istore 137 (gd rfl) rfl (Nat.le_of_ble_eq_true rfl) ?_
        refine g_iload 139 (gd rfl) rfl rfl ?_
        refine g_iload 141 (gd rfl) rfl rfl ?_
        refine g_ishr 142 (gd rfl) rfl (fun z141 e141 => ?_)
        refine g_iconst 1 143 (gd rfl) rfl rfl ?_
        refine g_iand 144 (gd rfl) rfl (fun z143 e143 => ?_)
        have i143 := in_and2 e143 (in_c 1 rfl) rfl
        refine g_if_ne 147 151 (gd rfl) rfl rfl (fun c144 => ?_) (fun c144 => ?_)
        · skip
          have i144 := z_ne 1 1 c144 i143 rfl
          refine g_iconst 0 152 (gd rfl) rfl rfl ?_
          exact g_ireturn (gd rfl) rfl (nb01 (in_w 0 1 (in_c 0 rfl) rfl)) (hP _ _ ⟨s107, hI107, (fr_tr rfl hFc28 hF107), (Int32.ofInt 0), rfl, rfl, in_w 0 1 (in_c 0 rfl) rfl⟩)
        · skip
          have i144 := z_eq 0 0 c144 i143 rfl
          refine g_iconst 1 148 (gd rfl) rfl rfl ?_
          refine g_goto 152 (gd rfl) rfl ?_
          exact g_ireturn (gd rfl) rfl (nb01 (in_w 0 1 (in_c 1 rfl) rfl)) (hP _ _ ⟨s107, hI107, (fr_tr rfl hFc28 hF107), (Int32.ofInt 1), rfl, rfl, in_w 0 1 (in_c 1 rfl) rfl⟩)
      · skip
        have i34 := r_lt1 0 159 c34 j28_5 ro_32_3 rfl
        have i34a := r_lt2 1 160 c34 j28_5 ro_32_3 rfl
        refine g_iload 39 (gd rfl) rfl rfl ?_
        refine g_iload_n 40 (gd rfl) rfl rfl ?_
        refine g_cmp_eq 43 100 (gd rfl) rfl rfl (fun c40 => ?_) (fun c40 => ?_)
        · skip
          refine g_iinc 103 (gd rfl) rfl rfl (Nat.le_of_ble_eq_true rfl) (fun z100 e100 => ?_)
          have i100 := in_add 1 160 e100 i34 (in_c 1 rfl) rfl rfl
          refine g_goto 28 (gd rfl) rfl ?_
          exact gg_w (by first | exact Nat.le_add_right _ _ | exact gw2 | exact gw3 | exact gwe rfl | exact gwf rfl | exact gwg rfl | exact gwh rfl | omega) (gg_f (gf_cons rfl (gf_cons rfl (gf_cons rfl (gf_cons rfl (gf_cons rfl (gf_cons rfl gf_nil)))))) (ih28 sc28 y28_3 y28_4 z100 hIc28 hFc28 (in_w 0 31 j28_3 rfl) (in_w 0 31 j28_4 rfl) (in_w 0 160 i100 rfl) (m_up mm28 (t_add e100 i34 (in_c 1 rfl) rfl) (in_w 1 1 (in_c 1 rfl) rfl))))
        · skip
          refine g_aload_n 44 (gd rfl) rfl rfl ?_
          refine g_iload 46 (gd rfl) rfl rfl ?_
          refine g_callv (X := _) (As := [.int y28_5]) (r := []) (b := A 32) (q := 32) 49 (gd rfl) rfl rfl rfl rfl rfl (ww_o rfl) (Nat.le_of_ble_eq_true rfl) (mc := 0) (ms := 0) (Nat.zero_le _) (Nat.zero_le _) (P := fun v u => _) ?_ (fun e u h => h) (fun v u h => h)
          intro po46 xx46 hp46 hx46
          refine g_enter2 (k := 97) (N := 300) (by first | exact dq1 hd rfl | exact dq0 hd rfl | exact dq2 hd rfl | exact dq3 hd rfl | omega) rfl (Nat.le_of_ble_eq_true rfl) ?_
          refine g_aload_n 1 (gd rfl) rfl rfl ?_
          refine g_getA (q2 := 34) 4 (gd rfl) rfl rfl rfl rfl ?_
          refine g_iload_n 5 (gd rfl) rfl rfl ?_
          refine g_iaload 6 (gd rfl) rfl (n := 160) rfl (in_ix i34 rfl) (fun z46x5 e46x5 => ?_)
          have i46x5 := inv_I hIc28 (n := 160) (t := 0) (-1) 31 rfl (in_ix i34 rfl) rfl e46x5
          refine g_iconst (-1) 7 (gd rfl) rfl rfl ?_
          refine g_cmp_eq 10 29 (gd rfl) rfl rfl (fun c46x7 => ?_) (fun c46x7 => ?_)
          · skip
            have i46x7 := r_eq1 (-1) (-1) c46x7 i46x5 (in_c (-1) rfl) rfl
            refine g_iconst 0 30 (gd rfl) rfl rfl ?_
            refine g_ireturn (gd rfl) rfl (nb01 (in_w 0 1 (in_c 0 rfl) rfl)) (hp46 _ _ ?_)
            show GG _ _ _ _ _ _ _ _ [.int (Int32.ofInt 0)] _ _ _
            refine g_if_eq 52 100 (gd rfl) rfl rfl (fun c49 => ?_) (fun c49 => ?_)
            · skip
              refine g_iinc 103 (gd rfl) rfl rfl (Nat.le_of_ble_eq_true rfl) (fun z100 e100 => ?_)
              have i100 := in_add 1 160 e100 i34 (in_c 1 rfl) rfl rfl
              refine g_goto 28 (gd rfl) rfl ?_
              exact gg_w (by first | exact Nat.le_add_right _ _ | exact gw2 | exact gw3 | exact gwe rfl | exact gwf rfl | exact gwg rfl | exact gwh rfl | omega) (gg_f (gf_cons rfl (gf_cons rfl (gf_cons rfl (gf_cons rfl (gf_cons rfl (gf_cons rfl gf_nil)))))) (ih28 sc28 y28_3 y28_4 z100 hIc28 hFc28 (in_w 0 31 j28_3 rfl) (in_w 0 31 j28_4 rfl) (in_w 0 160 i100 rfl) (m_up mm28 (t_add e100 i34 (in_c 1 rfl) rfl) (in_w 1 1 (in_c 1 rfl) rfl))))
            · skip
              exact zn_ne c49 (in_c 0 rfl) rfl
          · skip
            have i46x7 := r_ne1 0 31 c46x7 i46x5 (in_c (-1) rfl) rfl
            refine g_aload_n 11 (gd rfl) rfl rfl ?_
            refine g_getA (q2 := 34) 14 (gd rfl) rfl rfl rfl rfl ?_
            refine g_iload_n 15 (gd rfl) rfl rfl ?_
            refine g_iaload 16 (gd rfl) rfl (n := 160) rfl (in_ix i34 rfl) (fun z46x15 e46x15 => ?_)
            have q46x15 : z46x5 = z46x15 := (e46x5).trans e46x15.symm
            subst q46x15
            refine g_aload_n 17 (gd rfl) rfl rfl ?_
            refine g_getA (q2 := 35) 20 (gd rfl) rfl rfl rfl rfl ?_
            refine g_iload_n 21 (gd rfl) rfl rfl ?_
            refine g_iaload 22 (gd rfl) rfl (n := 160) rfl (in_ix i34 rfl) (fun z46x21 e46x21 => ?_)
            have i46x21 := inv_I hIc28 (n := 160) (t := 0) 0 31 rfl (in_ix i34 rfl) rfl e46x21
            refine g_cmp_eq 25 29 (gd rfl) rfl rfl (fun c46x22 => ?_) (fun c46x22 => ?_)
            · skip
              refine g_iconst 0 30 (gd rfl) rfl rfl ?_
              refine g_ireturn (gd rfl) rfl (nb01 (in_w 0 1 (in_c 0 rfl) rfl)) (hp46 _ _ ?_)
              show GG _ _ _ _ _ _ _ _ [.int (Int32.ofInt 0)] _ _ _
              refine g_if_eq 52 100 (gd rfl) rfl rfl (fun c49 => ?_) (fun c49 => ?_)
              · skip
                refine g_iinc 103 (gd rfl) rfl rfl (Nat.le_of_ble_eq_true rfl) (fun z100 e100 => ?_)
                have i100 := in_add 1 160 e100 i34 (in_c 1 rfl) rfl rfl
                refine g_goto 28 (gd rfl) rfl ?_
                exact gg_w (by first | exact Nat.le_add_right _ _ | exact gw2 | exact gw3 | exact gwe rfl | exact gwf rfl | exact gwg rfl | exact gwh rfl | omega) (gg_f (gf_cons rfl (gf_cons rfl (gf_cons rfl (gf_cons rfl (gf_cons rfl (gf_cons rfl gf_nil)))))) (ih28 sc28 y28_3 y28_4 z100 hIc28 hFc28 (in_w 0 31 j28_3 rfl) (in_w 0 31 j28_4 rfl) (in_w 0 160 i100 rfl) (m_up mm28 (t_add e100 i34 (in_c 1 rfl) rfl) (in_w 1 1 (in_c 1 rfl) rfl))))
              · skip
                exact zn_ne c49 (in_c 0 rfl) rfl
            · skip
              refine g_iconst 1 26 (gd rfl) rfl rfl ?_
              refine g_goto 30 (gd rfl) rfl ?_
              refine g_ireturn (gd rfl) rfl (nb01 (in_w 0 1 (in_c 1 rfl) rfl)) (hp46 _ _ ?_)
              show GG _ _ _ _ _ _ _ _ [.int (Int32.ofInt 1)] _ _ _
              refine g_if_eq 52 100 (gd rfl) rfl rfl (fun c49 => ?_) (fun c49 => ?_)
              · skip
                exact zn_eq c49 (in_c 1 rfl) rfl
              · skip
                refine g_aload_n 53 (gd rfl) rfl rfl ?_
                refine g_getA (q2 := 34) 56 (gd rfl) rfl rfl rfl rfl ?_
                refine g_iload 58 (gd rfl) rfl rfl ?_
                refine g_iaload 59 (gd rfl) rfl (n := 160) rfl (in_ix i34 rfl) (fun z58 e58 => ?_)
                have q58 : z46x5 = z58 := (e46x5).trans e58.symm
                subst q58
                refine g_iload_n 60 (gd rfl) rfl rfl ?_
                refine g_cmp_ne 63 75 (gd rfl) rfl rfl (fun c60 => ?_) (fun c60 => ?_)
                · skip
                  refine g_aload_n 76 (gd rfl) rfl rfl ?_
                  refine g_getA (q2 := 34) 79 (gd rfl) rfl rfl rfl rfl ?_
                  refine g_iload 81 (gd rfl) rfl rfl ?_
                  refine g_iaload 82 (gd rfl) rfl (n := 160) rfl (in_ix i34 rfl) (fun z81 e81 => ?_)
                  have q81 : z46x5 = z81 := (e46x5).trans e81.symm
                  subst q81
                  refine g_iload 84 (gd rfl) rfl rfl ?_
                  refine g_cmp_ne 87 100 (gd rfl) rfl rfl (fun c84 => ?_) (fun c84 => ?_)
                  · skip
                    refine g_iinc 103 (gd rfl) rfl rfl (Nat.le_of_ble_eq_true rfl) (fun z100 e100 => ?_)
                    have i100 := in_add 1 160 e100 i34 (in_c 1 rfl) rfl rfl
                    refine g_goto 28 (gd rfl) rfl ?_
                    exact gg_w (by first | exact Nat.le_add_right _ _ | exact gw2 | exact gw3 | exact gwe rfl | exact gwf rfl | exact gwg rfl | exact gwh rfl | omega) (gg_f (gf_cons rfl (gf_cons rfl (gf_cons rfl (gf_cons rfl (gf_cons rfl (gf_cons rfl gf_nil)))))) (ih28 sc28 y28_3 y28_4 z100 hIc28 hFc28 (in_w 0 31 j28_3 rfl) (in_w 0 31 j28_4 rfl) (in_w 0 160 i100 rfl) (m_up mm28 (t_add e100 i34 (in_c 1 rfl) rfl) (in_w 1 1 (in_c 1 rfl) rfl))))
                  · skip
                    refine g_aload_n 88 (gd rfl) rfl rfl ?_
                    refine g_getA (q2 := 35) 91 (gd rfl) rfl rfl rfl rfl ?_
                    refine g_iload 93 (gd rfl) rfl rfl ?_
                    refine g_iaload 94 (gd rfl) rfl (n := 160) rfl (in_ix i34 rfl) (fun z93 e93 => ?_)
                    have q93 : z46x21 = z93 := (e46x21).trans e93.symm
                    subst q93
                    refine g_iload_n 95 (gd rfl) rfl rfl ?_
                    refine g_cmp_ne 98 100 (gd rfl) rfl rfl (fun c95 => ?_) (fun c95 => ?_)
                    · skip
                      refine g_iinc 103 (gd rfl) rfl rfl (Nat.le_of_ble_eq_true rfl) (fun z100 e100 => ?_)
                      have i100 := in_add 1 160 e100 i34 (in_c 1 rfl) rfl rfl
                      refine g_goto 28 (gd rfl) rfl ?_
                      exact gg_w (by first | exact Nat.le_add_right _ _ | exact gw2 | exact gw3 | exact gwe rfl | exact gwf rfl | exact gwg rfl | exact gwh rfl | omega) (gg_f (gf_cons rfl (gf_cons rfl (gf_cons rfl (gf_cons rfl (gf_cons rfl (gf_cons rfl gf_nil)))))) (ih28 sc28 y28_3 y28_4 z100 hIc28 hFc28 (in_w 0 31 j28_3 rfl) (in_w 0 31 j28_4 rfl) (in_w 0 160 i100 rfl) (m_up mm28 (t_add e100 i34 (in_c 1 rfl) rfl) (in_w 1 1 (in_c 1 rfl) rfl))))
                    · skip
                      refine g_iconst 0 99 (gd rfl) rfl rfl ?_
                      exact g_ireturn (gd rfl) rfl (nb01 (in_w 0 1 (in_c 0 rfl) rfl)) (hP _ _ ⟨sc28, hIc28, hFc28, (Int32.ofInt 0), rfl, rfl, in_w 0 1 (in_c 0 rfl) rfl⟩)
                · skip
                  refine g_aload_n 64 (gd rfl) rfl rfl ?_
                  refine g_getA (q2 := 35) 67 (gd rfl) rfl rfl rfl rfl ?_
                  refine g_iload 69 (gd rfl) rfl rfl ?_
                  refine g_iaload 70 (gd rfl) rfl (n := 160) rfl (in_ix i34 rfl) (fun z69 e69 => ?_)
                  have q69 : z46x21 = z69 := (e46x21).trans e69.symm
                  subst q69
                  refine g_iload 72 (gd rfl) rfl rfl ?_
                  refine g_cmp_eq 75 98 (gd rfl) rfl rfl (fun c72 => ?_) (fun c72 => ?_)
                  · skip
                    refine g_iconst 0 99 (gd rfl) rfl rfl ?_
                    exact g_ireturn (gd rfl) rfl (nb01 (in_w 0 1 (in_c 0 rfl) rfl)) (hP _ _ ⟨sc28, hIc28, hFc28, (Int32.ofInt 0), rfl, rfl, in_w 0 1 (in_c 0 rfl) rfl⟩)
                  · skip
                    refine g_aload_n 76 (gd rfl) rfl rfl ?_
                    refine g_getA (q2 := 34) 79 (gd rfl) rfl rfl rfl rfl ?_
                    refine g_iload 81 (gd rfl) rfl rfl ?_
                    refine g_iaload 82 (gd rfl) rfl (n := 160) rfl (in_ix i34 rfl) (fun z81 e81 => ?_)
                    have q81 : z46x5 = z81 := (e46x5).trans e81.symm
                    subst q81
                    refine g_iload 84 (gd rfl) rfl rfl ?_
                    refine g_cmp_ne 87 100 (gd rfl) rfl rfl (fun c84 => ?_) (fun c84 => ?_)
                    · skip
                      refine g_iinc 103 (gd rfl) rfl rfl (Nat.le_of_ble_eq_true rfl) (fun z100 e100 => ?_)
                      have i100 := in_add 1 160 e100 i34 (in_c 1 rfl) rfl rfl
                      refine g_goto 28 (gd rfl) rfl ?_
                      exact gg_w (by first | exact Nat.le_add_right _ _ | exact gw2 | exact gw3 | exact gwe rfl | exact gwf rfl | exact gwg rfl | exact gwh rfl | omega) (gg_f (gf_cons rfl (gf_cons rfl (gf_cons rfl (gf_cons rfl (gf_cons rfl (gf_cons rfl gf_nil)))))) (ih28 sc28 y28_3 y28_4 z100 hIc28 hFc28 (in_w 0 31 j28_3 rfl) (in_w 0 31 j28_4 rfl) (in_w 0 160 i100 rfl) (m_up mm28 (t_add e100 i34 (in_c 1 rfl) rfl) (in_w 1 1 (in_c 1 rfl) rfl))))
                    · skip
                      refine g_aload_n 88 (gd rfl) rfl rfl ?_
                      refine g_getA (q2 := 35) 91 (gd rfl) rfl rfl rfl rfl ?_
                      refine g_iload 93 (gd rfl) rfl rfl ?_
                      refine g_iaload 94 (gd rfl) rfl (n := 160) rfl (in_ix i34 rfl) (fun z93 e93 => ?_)
                      have q93 : z46x21 = z93 := (e46x21).trans e93.symm
                      subst q93
                      refine g_iload_n 95 (gd rfl) rfl rfl ?_
                      refine g_cmp_ne 98 100 (gd rfl) rfl rfl (fun c95 => ?_) (fun c95 => ?_)
                      · skip
                        refine g_iinc 103 (gd rfl) rfl rfl (Nat.le_of_ble_eq_true rfl) (fun z100 e100 => ?_)
                        have i100 := in_add 1 160 e100 i34 (in_c 1 rfl) rfl rfl
                        refine g_goto 28 (gd rfl) rfl ?_
                        exact gg_w (by first | exact Nat.le_add_right _ _ | exact gw2 | exact gw3 | exact gwe rfl | exact gwf rfl | exact gwg rfl | exact gwh rfl | omega) (gg_f (gf_cons rfl (gf_cons rfl (gf_cons rfl (gf_cons rfl (gf_cons rfl (gf_cons rfl gf_nil)))))) (ih28 sc28 y28_3 y28_4 z100 hIc28 hFc28 (in_w 0 31 j28_3 rfl) (in_w 0 31 j28_4 rfl) (in_w 0 160 i100 rfl) (m_up mm28 (t_add e100 i34 (in_c 1 rfl) rfl) (in_w 1 1 (in_c 1 rfl) rfl))))
                      · skip
                        refine g_iconst 0 99 (gd rfl) rfl rfl ?_
                        exact g_ireturn (gd rfl) rfl (nb01 (in_w 0 1 (in_c 0 rfl) rfl)) (hP _ _ ⟨sc28, hIc28, hFc28, (Int32.ofInt 0), rfl, rfl, in_w 0 1 (in_c 0 rfl) rfl⟩)
  refine g_enter2 (k := 142) (N := 145801) (by first | exact dq1 hd rfl | exact dq0 hd rfl | exact dq2 hd rfl | exact dq3 hd rfl | omega) rfl (Nat.le_of_ble_eq_true rfl) ?_
  refine g_aload_n 1 (gd rfl) rfl rfl ?_
  refine g_iload_n 2 (gd rfl) rfl rfl ?_
  refine g_callv (X := _) (As := [.int x2]) (r := []) (b := A 32) (q := 32) 5 (gd rfl) rfl rfl rfl rfl rfl (ww_o rfl) (Nat.le_of_ble_eq_true rfl) (mc := 0) (ms := 0) (Nat.zero_le _) (Nat.zero_le _) (P := fun v u => _) ?_ (fun e u h => h) (fun v u h => h)
  intro po2 xx2 hp2 hx2
  refine g_enter2 (k := 97) (N := 300) (by first | exact dq1 hd rfl | exact dq0 hd rfl | exact dq2 hd rfl | exact dq3 hd rfl | omega) rfl (Nat.le_of_ble_eq_true rfl) ?_
  refine g_aload_n 1 (gd rfl) rfl rfl ?_
  refine g_getA (q2 := 34) 4 (gd rfl) rfl rfl rfl rfl ?_
  refine g_iload_n 5 (gd rfl) rfl rfl ?_
  refine g_iaload 6 (gd rfl) rfl (n := 160) rfl (in_ix h2 rfl) (fun z2x5 e2x5 => ?_)
  have i2x5 := inv_I hI (n := 160) (t := 0) (-1) 31 rfl (in_ix h2 rfl) rfl e2x5
  refine g_iconst (-1) 7 (gd rfl) rfl rfl ?_
  refine g_cmp_eq 10 29 (gd rfl) rfl rfl (fun c2x7 => ?_) (fun c2x7 => ?_)
  · skip
    have i2x7 := r_eq1 (-1) (-1) c2x7 i2x5 (in_c (-1) rfl) rfl
    refine g_iconst 0 30 (gd rfl) rfl rfl ?_
    refine g_ireturn (gd rfl) rfl (nb01 (in_w 0 1 (in_c 0 rfl) rfl)) (hp2 _ _ ?_)
    show GG _ _ _ _ _ _ _ _ [.int (Int32.ofInt 0)] _ _ _
    refine g_if_ne 8 10 (gd rfl) rfl rfl (fun c5 => ?_) (fun c5 => ?_)
    · skip
      exact zn_ne c5 (in_c 0 rfl) rfl
    · skip
      refine g_iconst 0 9 (gd rfl) rfl rfl ?_
      exact g_ireturn (gd rfl) rfl (nb01 (in_w 0 1 (in_c 0 rfl) rfl)) (hP _ _ ⟨s, hI, fr_rf, (Int32.ofInt 0), rfl, rfl, in_w 0 1 (in_c 0 rfl) rfl⟩)
  · skip
    have i2x7 := r_ne1 0 31 c2x7 i2x5 (in_c (-1) rfl) rfl
    refine g_aload_n 11 (gd rfl) rfl rfl ?_
    refine g_getA (q2 := 34) 14 (gd rfl) rfl rfl rfl rfl ?_
    refine g_iload_n 15 (gd rfl) rfl rfl ?_
    refine g_iaload 16 (gd rfl) rfl (n := 160) rfl (in_ix h2 rfl) (fun z2x15 e2x15 => ?_)
    have q2x15 : z2x5 = z2x15 := (e2x5).trans e2x15.symm
    subst q2x15
    refine g_aload_n 17 (gd rfl) rfl rfl ?_
    refine g_getA (q2 := 35) 20 (gd rfl) rfl rfl rfl rfl ?_
    refine g_iload_n 21 (gd rfl) rfl rfl ?_
    refine g_iaload 22 (gd rfl) rfl (n := 160) rfl (in_ix h2 rfl) (fun z2x21 e2x21 => ?_)
    have i2x21 := inv_I hI (n := 160) (t := 0) 0 31 rfl (in_ix h2 rfl) rfl e2x21
    refine g_cmp_eq 25 29 (gd rfl) rfl rfl (fun c2x22 => ?_) (fun c2x22 => ?_)
    · skip
      refine g_iconst 0 30 (gd rfl) rfl rfl ?_
      refine g_ireturn (gd rfl) rfl (nb01 (in_w 0 1 (in_c 0 rfl) rfl)) (hp2 _ _ ?_)
      show GG _ _ _ _ _ _ _ _ [.int (Int32.ofInt 0)] _ _ _
      refine g_if_ne 8 10 (gd rfl) rfl rfl (fun c5 => ?_) (fun c5 => ?_)
      · skip
        exact zn_ne c5 (in_c 0 rfl) rfl
      · skip
        refine g_iconst 0 9 (gd rfl) rfl rfl ?_
        exact g_ireturn (gd rfl) rfl (nb01 (in_w 0 1 (in_c 0 rfl) rfl)) (hP _ _ ⟨s, hI, fr_rf, (Int32.ofInt 0), rfl, rfl, in_w 0 1 (in_c 0 rfl) rfl⟩)
    · skip
      refine g_iconst 1 26 (gd rfl) rfl rfl ?_
      refine g_goto 30 (gd rfl) rfl ?_
      refine g_ireturn (gd rfl) rfl (nb01 (in_w 0 1 (in_c 1 rfl) rfl)) (hp2 _ _ ?_)
      show GG _ _ _ _ _ _ _ _ [.int (Int32.ofInt 1)] _ _ _
      refine g_if_ne 8 10 (gd rfl) rfl rfl (fun c5 => ?_) (fun c5 => ?_)
      · skip
        refine g_aload_n 11 (gd rfl) rfl rfl ?_
        refine g_getA (q2 := 34) 14 (gd rfl) rfl rfl rfl rfl ?_
        refine g_iload_n 15 (gd rfl) rfl rfl ?_
        refine g_iaload 16 (gd rfl) rfl (n := 160) rfl (in_ix h2 rfl) (fun z15 e15 => ?_)
        have q15 : z2x5 = z15 := (e2x5).trans e15.symm
        subst q15
        refine g_istore_n 17 (gd rfl) rfl (Nat.le_of_ble_eq_true rfl) ?_
        refine g_aload_n 18 (gd rfl) rfl rfl ?_
        refine g_getA (q2 := 35) 21 (gd rfl) rfl rfl rfl rfl ?_
        refine g_iload_n 22 (gd rfl) rfl rfl ?_
        refine g_iaload 23 (gd rfl) rfl (n := 160) rfl (in_ix h2 rfl) (fun z22 e22 => ?_)
        have q22 : z2x21 = z22 := (e2x21).trans e22.symm
        subst q22
        refine g_istore 25 (gd rfl) rfl (Nat.le_of_ble_eq_true rfl) ?_
        refine g_iconst 0 26 (gd rfl) rfl rfl ?_
        refine g_istore 28 (gd rfl) rfl (Nat.le_of_ble_eq_true rfl) ?_
        exact gg_w (by first | exact Nat.le_of_ble_eq_true rfl | omega) (gg_f (gf_cons rfl (gf_cons rfl (gf_cons rfl (gf_cons rfl (gf_cons rfl (gf_cons rfl gf_nil)))))) (ct28 161 s z2x5 z2x21 (Int32.ofInt 0) hI fr_rf (in_w 0 31 i2x7 rfl) (in_w 0 31 i2x21 rfl) (in_w 0 160 (in_c 0 rfl) rfl) (m_in 161 (in_w 0 160 (in_c 0 rfl) rfl) rfl)))
      · skip
        exact zn_eq c5 (in_c 1 rfl) rfl

def fm_145_56_2 : FM := ([9, 10, 11, 12, 13, 14, 15, 57], [], [(2, 4), (56, 1)], [])
/-- GraphHouse$Parts.makeOrder -/
theorem k_145_56_2 {Z : AmZ} {A : Nat → Nat} {s : GS} {ex : va_W} {d : Nat} {X : AmX}  (hd : 5 ≤ d) (hI : Inv s)  : GC Z d 145 [.ref (A 56), .ref (A 2)] (WW Z A s ++ ex) 0 0 (fun v u => ∃ t : GS, Inv t ∧ Fr fm_145_56_2 s t ∧ v = none ∧ u = WW Z A t ++ ex) X := by
  intro post xp hP hX
  obtain ⟨u_2_1, e_2_1⟩ : ∃ w, w = s.2.2.1 2 1 := ⟨_, rfl⟩
  have ro_2_1 := inv_F hI 0 32 rfl e_2_1
  have ct11 : ∀ (k11 : Nat) (sc11 : GS) (y11_2 : Int32) (y11_3 : Int32), Inv sc11 → Fr fm_145_56_2 s sc11 → (In y11_3 0 32) → 32 - (y11_3).toInt < (k11 : Int) → GG Z (d - 1) 145 post (gx xp) (1 + k11 * 900) 11 (fun j => xlook j [(0, .ref (A 56)), (1, .ref (A 2)), (2, .int y11_2), (3, .int y11_3)]) [] (WW Z A sc11 ++ ex) 0 0 := by
    intro k11
    induction k11 with
    | zero => intro sc11 y11_2 y11_3 hIc11 hFc11 j11_3 mm11; exact m_no mm11 j11_3 rfl
    | succ k11 ih11 =>
      intro sc11 y11_2 y11_3 hIc11 hFc11 j11_3 mm11
      refine gg_w (M := 1 + k11 * 900 + 900) gws ?_
      refine g_iload_n 12 (gd rfl) rfl rfl ?_
      refine g_aload_n 13 (gd rfl) rfl rfl ?_
      refine g_getI 16 (gd rfl) rfl rfl rfl (fun z13 e13 => ?_)
      have q13 : u_2_1 = z13 := (fr_F e_2_1 hFc11 rfl).trans e13.symm
      subst q13
      refine g_cmp_ge 19 61 (gd rfl) rfl rfl (fun c16 => ?_) (fun c16 => ?_)
      · skip
        refine g_aload_n 62 (gd rfl) rfl rfl ?_
        refine g_aload_n 63 (gd rfl) rfl rfl ?_
        refine g_getI 66 (gd rfl) rfl rfl rfl (fun z63 e63 => ?_)
        have q63 : u_2_1 = z63 := (fr_F e_2_1 hFc11 rfl).trans e63.symm
        subst q63
        refine g_putI 69 (gd rfl) rfl rfl rfl rfl ?_
        have hI66 := inv_sF (q := 56) (j := 1) hIc11 rfl (in_w 0 32 ro_2_1 rfl)
        exact g_return (gd rfl) rfl (hP _ _ ⟨(sF sc11 56 1 u_2_1), hI66, (fr_sF rfl hFc11), rfl, rfl⟩)
      · skip
        have i16 := r_lt1 0 31 c16 j11_3 ro_2_1 rfl
        have i16a := r_lt2 1 32 c16 j11_3 ro_2_1 rfl
        refine g_aload_n 20 (gd rfl) rfl rfl ?_
        refine g_iload_n 21 (gd rfl) rfl rfl ?_
        refine g_calls (As := [.ref (A 2), .int y11_2]) (r := []) 24 (gd rfl) rfl rfl rfl rfl rfl (Nat.le_of_ble_eq_true rfl) (Nat.zero_le _) (Nat.zero_le _) (k_146_2 (by first | exact dq1 hd rfl | exact dq0 hd rfl | exact dq2 hd rfl | exact dq3 hd rfl | omega) hIc11 ) (fun v u h => ?_)
        obtain ⟨z21, rfl, rfl, i21⟩ := h
        show GG _ _ _ _ _ _ _ _ [.int z21] _ _ _
        refine g_istore 26 (gd rfl) rfl (Nat.le_of_ble_eq_true rfl) ?_
        refine g_iload 28 (gd rfl) rfl rfl ?_
        refine g_iconst (-1) 29 (gd rfl) rfl rfl ?_
        refine g_cmp_ne 32 38 (gd rfl) rfl rfl (fun c29 => ?_) (fun c29 => ?_)
        · skip
          have i29 := r_ne1 0 31 c29 i21 (in_c (-1) rfl) rfl
          refine g_aload_n 39 (gd rfl) rfl rfl ?_
          refine g_getA (q2 := 57) 42 (gd rfl) rfl rfl rfl rfl ?_
          refine g_iload_n 43 (gd rfl) rfl rfl ?_
          refine g_iload 45 (gd rfl) rfl rfl ?_
          refine g_iastore 46 (gd rfl) rfl (n := 32) rfl (in_ix i16 rfl) ?_
          have hI45 := inv_sI (q := 57) (j := y11_3.toNatClampNeg) hIc11 rfl (in_w 0 31 i29 rfl)
          refine g_iload_n 47 (gd rfl) rfl rfl ?_
          refine g_iconst 1 48 (gd rfl) rfl rfl ?_
          refine g_iload 50 (gd rfl) rfl rfl ?_
          refine g_ishl 51 (gd rfl) rfl (fun z50 e50 => ?_)
          refine g_iconst (-1) 52 (gd rfl) rfl rfl ?_
          refine g_ixor 53 (gd rfl) rfl (fun z52 e52 => ?_)
          refine g_iand 54 (gd rfl) rfl (fun z53 e53 => ?_)
          refine g_istore_n 55 (gd rfl) rfl (Nat.le_of_ble_eq_true rfl) ?_
          refine g_iinc 58 (gd rfl) rfl rfl (Nat.le_of_ble_eq_true rfl) (fun z55 e55 => ?_)
          have i55 := in_add 1 32 e55 i16 (in_c 1 rfl) rfl rfl
          refine g_goto 11 (gd rfl) rfl ?_
          exact gg_w (by first | exact Nat.le_add_right _ _ | exact gw2 | exact gw3 | exact gwe rfl | exact gwf rfl | exact gwg rfl | exact gwh rfl | omega) (gg_f (gf_cons rfl (gf_cons rfl (gf_cons rfl (gf_cons rfl gf_nil)))) (ih11 (sI sc11 57 y11_3.toNatClampNeg z21) z53 z55 hI45 (fr_sI rfl hFc11) (in_w 0 32 i55 rfl) (m_up mm11 (t_add e55 i16 (in_c 1 rfl) rfl) (in_w 1 1 (in_c 1 rfl) rfl))))
        · skip
          have i29 := r_eq1 (-1) (-1) c29 i21 (in_c (-1) rfl) rfl
          refine g_aload_n 33 (gd rfl) rfl rfl ?_
          refine g_iconst 0 34 (gd rfl) rfl rfl ?_
          refine g_putI 37 (gd rfl) rfl rfl rfl rfl ?_
          have hI34 := inv_sF (q := 56) (j := 1) hIc11 rfl (in_w 0 32 (in_c 0 rfl) rfl)
          exact g_return (gd rfl) rfl (hP _ _ ⟨(sF sc11 56 1 (Int32.ofInt 0)), hI34, (fr_sF rfl hFc11), rfl, rfl⟩)
  refine g_enter2 (k := 145) (N := 30601) (by first | exact dq1 hd rfl | exact dq0 hd rfl | exact dq2 hd rfl | exact dq3 hd rfl | omega) rfl (Nat.le_of_ble_eq_true rfl) ?_
  refine g_aload_n 1 (gd rfl) rfl rfl ?_
  refine g_callv (X := _) (As := []) (r := []) (b := A 2) (q := 2) 4 (gd rfl) rfl rfl rfl rfl rfl (ww_o rfl) (Nat.le_of_ble_eq_true rfl) (Nat.zero_le _) (Nat.zero_le _) (k_106_2 (by first | exact dq1 hd rfl | exact dq0 hd rfl | exact dq2 hd rfl | exact dq3 hd rfl | omega) hI ) (fun e u h => h) (fun v u h => ?_)
  obtain ⟨s1, hI1, hF1, n1, rfl, rfl⟩ := h
  obtain ⟨z1a, e1⟩ : ∃ w, w = s1.2.2.1 2 4 := ⟨_, rfl⟩
  have i1a := inv_F hI1 (-1) 4000 rfl e1
  obtain ⟨z1b, e1a⟩ : ∃ w, w = s1.2.2.1 2 0 := ⟨_, rfl⟩
  have i1b := inv_F hI1 0 4000 rfl e1a
  rw [← (show z1a = s1.2.2.1 2 4 from e1)] at n1
  rw [← (show z1b = s1.2.2.1 2 0 from e1a)] at n1
  show GG _ _ _ _ _ _ _ _ [] _ _ _
  refine g_aload_n 5 (gd rfl) rfl rfl ?_
  refine g_callv (X := _) (As := []) (r := []) (b := A 2) (q := 2) 8 (gd rfl) rfl rfl rfl rfl rfl (ww_o rfl) (Nat.le_of_ble_eq_true rfl) (mc := 0) (ms := 0) (Nat.zero_le _) (Nat.zero_le _) (P := fun v u => _) ?_ (fun e u h => h) (fun v u h => h)
  intro po5 xx5 hp5 hx5
  refine g_enter2 (k := 102) (N := 300) (by first | exact dq1 hd rfl | exact dq0 hd rfl | exact dq2 hd rfl | exact dq3 hd rfl | omega) rfl (Nat.le_of_ble_eq_true rfl) ?_
  refine g_aload_n 1 (gd rfl) rfl rfl ?_
  refine g_getI 4 (gd rfl) rfl rfl rfl (fun z5x1 e5x1 => ?_)
  have q5x1 : u_2_1 = z5x1 := (fr_F (e_2_1) hF1 rfl).trans e5x1.symm
  subst q5x1
  refine g_bipush 32 6 (gd rfl) rfl rfl ?_
  refine g_cmp_lt 9 13 (gd rfl) rfl rfl (fun c5x6 => ?_) (fun c5x6 => ?_)
  · skip
    have i5x6 := r_lt1 0 31 c5x6 ro_2_1 (in_c 32 rfl) rfl
    refine g_iconst 1 14 (gd rfl) rfl rfl ?_
    refine g_aload_n 15 (gd rfl) rfl rfl ?_
    refine g_getI 18 (gd rfl) rfl rfl rfl (fun z5x15 e5x15 => ?_)
    have q5x15 : u_2_1 = z5x15 := (fr_F (e_2_1) hF1 rfl).trans e5x15.symm
    subst q5x15
    refine g_ishl 19 (gd rfl) rfl (fun z5x18 e5x18 => ?_)
    refine g_iconst 1 20 (gd rfl) rfl rfl ?_
    refine g_isub 21 (gd rfl) rfl (fun z5x20 e5x20 => ?_)
    refine g_ireturn (gd rfl) rfl rfl (hp5 _ _ ?_)
    show GG _ _ _ _ _ _ _ _ [.int z5x20] _ _ _
    refine g_istore_n 9 (gd rfl) rfl (Nat.le_of_ble_eq_true rfl) ?_
    refine g_iconst 0 10 (gd rfl) rfl rfl ?_
    refine g_istore_n 11 (gd rfl) rfl (Nat.le_of_ble_eq_true rfl) ?_
    exact gg_w (by first | exact Nat.le_of_ble_eq_true rfl | omega) (gg_f (gf_cons rfl (gf_cons rfl (gf_cons rfl (gf_cons rfl gf_nil)))) (ct11 33 s1 z5x20 (Int32.ofInt 0) hI1 (fr_tr rfl fr_rf hF1) (in_w 0 32 (in_c 0 rfl) rfl) (m_in 33 (in_w 0 32 (in_c 0 rfl) rfl) rfl)))
  · skip
    have i5x6 := r_le2 32 32 c5x6 (in_c 32 rfl) ro_2_1 rfl
    refine g_iconst (-1) 10 (gd rfl) rfl rfl ?_
    refine g_goto 21 (gd rfl) rfl ?_
    refine g_ireturn (gd rfl) rfl rfl (hp5 _ _ ?_)
    show GG _ _ _ _ _ _ _ _ [.int (Int32.ofInt (-1))] _ _ _
    refine g_istore_n 9 (gd rfl) rfl (Nat.le_of_ble_eq_true rfl) ?_
    refine g_iconst 0 10 (gd rfl) rfl rfl ?_
    refine g_istore_n 11 (gd rfl) rfl (Nat.le_of_ble_eq_true rfl) ?_
    exact gg_w (by first | exact Nat.le_of_ble_eq_true rfl | omega) (gg_f (gf_cons rfl (gf_cons rfl (gf_cons rfl (gf_cons rfl gf_nil)))) (ct11 33 s1 (Int32.ofInt (-1)) (Int32.ofInt 0) hI1 (fr_tr rfl fr_rf hF1) (in_w 0 32 (in_c 0 rfl) rfl) (m_in 33 (in_w 0 32 (in_c 0 rfl) rfl) rfl)))

def fm_145_56_32 : FM := ([39, 40, 41, 42, 43, 44, 45, 57], [], [(32, 4), (56, 1)], [])
/-- GraphHouse$Parts.makeOrder -/
theorem k_145_56_32 {Z : AmZ} {A : Nat → Nat} {s : GS} {ex : va_W} {d : Nat} {X : AmX}  (hd : 5 ≤ d) (hI : Inv s)  : GC Z d 145 [.ref (A 56), .ref (A 32)] (WW Z A s ++ ex) 0 0 (fun v u => ∃ t : GS, Inv t ∧ Fr fm_145_56_32 s t ∧ v = none ∧ u = WW Z A t ++ ex) X := by
  intro post xp hP hX
  obtain ⟨u_32_1, e_32_1⟩ : ∃ w, w = s.2.2.1 32 1 := ⟨_, rfl⟩
  have ro_32_1 := inv_F hI 0 32 rfl e_32_1
  have ct11 : ∀ (k11 : Nat) (sc11 : GS) (y11_2 : Int32) (y11_3 : Int32), Inv sc11 → Fr fm_145_56_32 s sc11 → (In y11_3 0 32) → 32 - (y11_3).toInt < (k11 : Int) → GG Z (d - 1) 145 post (gx xp) (1 + k11 * 900) 11 (fun j => xlook j [(0, .ref (A 56)), (1, .ref (A 32)), (2, .int y11_2), (3, .int y11_3)]) [] (WW Z A sc11 ++ ex) 0 0 := by
    intro k11
    induction k11 with
    | zero => intro sc11 y11_2 y11_3 hIc11 hFc11 j11_3 mm11; exact m_no mm11 j11_3 rfl
    | succ k11 ih11 =>
      intro sc11 y11_2 y11_3 hIc11 hFc11 j11_3 mm11
      refine gg_w (M := 1 + k11 * 900 + 900) gws ?_
      refine g_iload_n 12 (gd rfl) rfl rfl ?_
      refine g_aload_n 13 (gd rfl) rfl rfl ?_
      refine g_getI 16 (gd rfl) rfl rfl rfl (fun z13 e13 => ?_)
      have q13 : u_32_1 = z13 := (fr_F e_32_1 hFc11 rfl).trans e13.symm
      subst q13
      refine g_cmp_ge 19 61 (gd rfl) rfl rfl (fun c16 => ?_) (fun c16 => ?_)
      · skip
        refine g_aload_n 62 (gd rfl) rfl rfl ?_
        refine g_aload_n 63 (gd rfl) rfl rfl ?_
        refine g_getI 66 (gd rfl) rfl rfl rfl (fun z63 e63 => ?_)
        have q63 : u_32_1 = z63 := (fr_F e_32_1 hFc11 rfl).trans e63.symm
        subst q63
        refine g_putI 69 (gd rfl) rfl rfl rfl rfl ?_
        have hI66 := inv_sF (q := 56) (j := 1) hIc11 rfl (in_w 0 32 ro_32_1 rfl)
        exact g_return (gd rfl) rfl (hP _ _ ⟨(sF sc11 56 1 u_32_1), hI66, (fr_sF rfl hFc11), rfl, rfl⟩)
      · skip
        have i16 := r_lt1 0 31 c16 j11_3 ro_32_1 rfl
        have i16a := r_lt2 1 32 c16 j11_3 ro_32_1 rfl
        refine g_aload_n 20 (gd rfl) rfl rfl ?_
        refine g_iload_n 21 (gd rfl) rfl rfl ?_
        refine g_calls (As := [.ref (A 32), .int y11_2]) (r := []) 24 (gd rfl) rfl rfl rfl rfl rfl (Nat.le_of_ble_eq_true rfl) (Nat.zero_le _) (Nat.zero_le _) (k_146_32 (by first | exact dq1 hd rfl | exact dq0 hd rfl | exact dq2 hd rfl | exact dq3 hd rfl | omega) hIc11 ) (fun v u h => ?_)
        obtain ⟨z21, rfl, rfl, i21⟩ := h
        show GG _ _ _ _ _ _ _ _ [.int z21] _ _ _
        refine g_istore 26 (gd rfl) rfl (Nat.le_of_ble_eq_true rfl) ?_
        refine g_iload 28 (gd rfl) rfl rfl ?_
        refine g_iconst (-1) 29 (gd rfl) rfl rfl ?_
        refine g_cmp_ne 32 38 (gd rfl) rfl rfl (fun c29 => ?_) (fun c29 => ?_)
        · skip
          have i29 := r_ne1 0 31 c29 i21 (in_c (-1) rfl) rfl
          refine g_aload_n 39 (gd rfl) rfl rfl ?_
          refine g_getA (q2 := 57) 42 (gd rfl) rfl rfl rfl rfl ?_
          refine g_iload_n 43 (gd rfl) rfl rfl ?_
          refine g_iload 45 (gd rfl) rfl rfl ?_
          refine g_iastore 46 (gd rfl) rfl (n := 32) rfl (in_ix i16 rfl) ?_
          have hI45 := inv_sI (q := 57) (j := y11_3.toNatClampNeg) hIc11 rfl (in_w 0 31 i29 rfl)
          refine g_iload_n 47 (gd rfl) rfl rfl ?_
          refine g_iconst 1 48 (gd rfl) rfl rfl ?_
          refine g_iload 50 (gd rfl) rfl rfl ?_
          refine g_ishl 51 (gd rfl) rfl (fun z50 e50 => ?_)
          refine g_iconst (-1) 52 (gd rfl) rfl rfl ?_
          refine g_ixor 53 (gd rfl) rfl (fun z52 e52 => ?_)
          refine g_iand 54 (gd rfl) rfl (fun z53 e53 => ?_)
          refine g_istore_n 55 (gd rfl) rfl (Nat.le_of_ble_eq_true rfl) ?_
          refine g_iinc 58 (gd rfl) rfl rfl (Nat.le_of_ble_eq_true rfl) (fun z55 e55 => ?_)
          have i55 := in_add 1 32 e55 i16 (in_c 1 rfl) rfl rfl
          refine g_goto 11 (gd rfl) rfl ?_
          exact gg_w (by first | exact Nat.le_add_right _ _ | exact gw2 | exact gw3 | exact gwe rfl | exact gwf rfl | exact gwg rfl | exact gwh rfl | omega) (gg_f (gf_cons rfl (gf_cons rfl (gf_cons rfl (gf_cons rfl gf_nil)))) (ih11 (sI sc11 57 y11_3.toNatClampNeg z21) z53 z55 hI45 (fr_sI rfl hFc11) (in_w 0 32 i55 rfl) (m_up mm11 (t_add e55 i16 (in_c 1 rfl) rfl) (in_w 1 1 (in_c 1 rfl) rfl))))
        · skip
          have i29 := r_eq1 (-1) (-1) c29 i21 (in_c (-1) rfl) rfl
          refine g_aload_n 33 (gd rfl) rfl rfl ?_
          refine g_iconst 0 34 (gd rfl) rfl rfl ?_
          refine g_putI 37 (gd rfl) rfl rfl rfl rfl ?_
          have hI34 := inv_sF (q := 56) (j := 1) hIc11 rfl (in_w 0 32 (in_c 0 rfl) rfl)
          exact g_return (gd rfl) rfl (hP _ _ ⟨(sF sc11 56 1 (Int32.ofInt 0)), hI34, (fr_sF rfl hFc11), rfl, rfl⟩)
  refine g_enter2 (k := 145) (N := 30601) (by first | exact dq1 hd rfl | exact dq0 hd rfl | exact dq2 hd rfl | exact dq3 hd rfl | omega) rfl (Nat.le_of_ble_eq_true rfl) ?_
  refine g_aload_n 1 (gd rfl) rfl rfl ?_
  refine g_callv (X := _) (As := []) (r := []) (b := A 32) (q := 32) 4 (gd rfl) rfl rfl rfl rfl rfl (ww_o rfl) (Nat.le_of_ble_eq_true rfl) (Nat.zero_le _) (Nat.zero_le _) (k_106_32 (by first | exact dq1 hd rfl | exact dq0 hd rfl | exact dq2 hd rfl | exact dq3 hd rfl | omega) hI ) (fun e u h => h) (fun v u h => ?_)
  obtain ⟨s1, hI1, hF1, n1, rfl, rfl⟩ := h
  obtain ⟨z1a, e1⟩ : ∃ w, w = s1.2.2.1 32 4 := ⟨_, rfl⟩
  have i1a := inv_F hI1 (-1) 4000 rfl e1
  obtain ⟨z1b, e1a⟩ : ∃ w, w = s1.2.2.1 32 0 := ⟨_, rfl⟩
  have i1b := inv_F hI1 0 4000 rfl e1a
  rw [← (show z1a = s1.2.2.1 32 4 from e1)] at n1
  rw [← (show z1b = s1.2.2.1 32 0 from e1a)] at n1
  show GG _ _ _ _ _ _ _ _ [] _ _ _
  refine g_aload_n 5 (gd rfl) rfl rfl ?_
  refine g_callv (X := _) (As := []) (r := []) (b := A 32) (q := 32) 8 (gd rfl) rfl rfl rfl rfl rfl (ww_o rfl) (Nat.le_of_ble_eq_true rfl) (mc := 0) (ms := 0) (Nat.zero_le _) (Nat.zero_le _) (P := fun v u => _) ?_ (fun e u h => h) (fun v u h => h)
  intro po5 xx5 hp5 hx5
  refine g_enter2 (k := 102) (N := 300) (by first | exact dq1 hd rfl | exact dq0 hd rfl | exact dq2 hd rfl | exact dq3 hd rfl | omega) rfl (Nat.le_of_ble_eq_true rfl) ?_
  refine g_aload_n 1 (gd rfl) rfl rfl ?_
  refine g_getI 4 (gd rfl) rfl rfl rfl (fun z5x1 e5x1 => ?_)
  have q5x1 : u_32_1 = z5x1 := (fr_F (e_32_1) hF1 rfl).trans e5x1.symm
  subst q5x1
  refine g_bipush 32 6 (gd rfl) rfl rfl ?_
  refine g_cmp_lt 9 13 (gd rfl) rfl rfl (fun c5x6 => ?_) (fun c5x6 => ?_)
  · skip
    have i5x6 := r_lt1 0 31 c5x6 ro_32_1 (in_c 32 rfl) rfl
    refine g_iconst 1 14 (gd rfl) rfl rfl ?_
    refine g_aload_n 15 (gd rfl) rfl rfl ?_
    refine g_getI 18 (gd rfl) rfl rfl rfl (fun z5x15 e5x15 => ?_)
    have q5x15 : u_32_1 = z5x15 := (fr_F (e_32_1) hF1 rfl).trans e5x15.symm
    subst q5x15
    refine g_ishl 19 (gd rfl) rfl (fun z5x18 e5x18 => ?_)
    refine g_iconst 1 20 (gd rfl) rfl rfl ?_
    refine g_isub 21 (gd rfl) rfl (fun z5x20 e5x20 => ?_)
    refine g_ireturn (gd rfl) rfl rfl (hp5 _ _ ?_)
    show GG _ _ _ _ _ _ _ _ [.int z5x20] _ _ _
    refine g_istore_n 9 (gd rfl) rfl (Nat.le_of_ble_eq_true rfl) ?_
    refine g_iconst 0 10 (gd rfl) rfl rfl ?_
    refine g_istore_n 11 (gd rfl) rfl (Nat.le_of_ble_eq_true rfl) ?_
    exact gg_w (by first | exact Nat.le_of_ble_eq_true rfl | omega) (gg_f (gf_cons rfl (gf_cons rfl (gf_cons rfl (gf_cons rfl gf_nil)))) (ct11 33 s1 z5x20 (Int32.ofInt 0) hI1 (fr_tr rfl fr_rf hF1) (in_w 0 32 (in_c 0 rfl) rfl) (m_in 33 (in_w 0 32 (in_c 0 rfl) rfl) rfl)))
  · skip
    have i5x6 := r_le2 32 32 c5x6 (in_c 32 rfl) ro_32_1 rfl
    refine g_iconst (-1) 10 (gd rfl) rfl rfl ?_
    refine g_goto 21 (gd rfl) rfl ?_
    refine g_ireturn (gd rfl) rfl rfl (hp5 _ _ ?_)
    show GG _ _ _ _ _ _ _ _ [.int (Int32.ofInt (-1))] _ _ _
    refine g_istore_n 9 (gd rfl) rfl (Nat.le_of_ble_eq_true rfl) ?_
    refine g_iconst 0 10 (gd rfl) rfl rfl ?_
    refine g_istore_n 11 (gd rfl) rfl (Nat.le_of_ble_eq_true rfl) ?_
    exact gg_w (by first | exact Nat.le_of_ble_eq_true rfl | omega) (gg_f (gf_cons rfl (gf_cons rfl (gf_cons rfl (gf_cons rfl gf_nil)))) (ct11 33 s1 (Int32.ofInt (-1)) (Int32.ofInt 0) hI1 (fr_tr rfl fr_rf hF1) (in_w 0 32 (in_c 0 rfl) rfl) (m_in 33 (in_w 0 32 (in_c 0 rfl) rfl) rfl)))

def fm_148_56_2 : FM := ([9, 10, 11, 12, 13, 14, 15, 58, 59], [], [(2, 4)], [])
/-- GraphHouse$Parts.peel -/
theorem k_148_56_2 {Z : AmZ} {A : Nat → Nat} {s : GS} {ex : va_W} {d : Nat} {X : AmX}  (hd : 5 ≤ d) (hI : Inv s)  : GC Z d 148 [.ref (A 56), .ref (A 2)] (WW Z A s ++ ex) 0 0 (fun v u => ∃ t : GS, Inv t ∧ Fr fm_148_56_2 s t ∧ v = none ∧ u = WW Z A t ++ ex) X := by
  intro post xp hP hX
  obtain ⟨u_2_1, e_2_1⟩ : ∃ w, w = s.2.2.1 2 1 := ⟨_, rfl⟩
  have ro_2_1 := inv_F hI 0 32 rfl e_2_1
  have ct22 : ∀ (k22 : Nat) (sc22 : GS) (y22_2 : Int32) (y22_3 : Int32) (y22_4 : Int32) (w22_2_4 : Int32) (w22_2_0 : Int32), Inv sc22 → Fr fm_148_56_2 s sc22 → (In y22_3 0 2147483647) → (In y22_4 0 32) → (w22_2_4 = sc22.2.2.1 2 4) → (w22_2_0 = sc22.2.2.1 2 0) → ((w22_2_4).toInt = (w22_2_0).toInt) → ((cb y22_2 : Int) = (u_2_1).toInt - (y22_4).toInt) → 32 - (y22_4).toInt < (k22 : Int) → GG Z (d - 1) 148 post (gx xp) (1 + k22 * 900) 22 (fun j => xlook j [(0, .ref (A 56)), (1, .ref (A 2)), (2, .int y22_2), (3, .int y22_3), (4, .int y22_4)]) [] (WW Z A sc22 ++ ex) 0 0 := by
    intro k22
    induction k22 with
    | zero => intro sc22 y22_2 y22_3 y22_4 w22_2_4 w22_2_0 hIc22 hFc22 j22_3 j22_4 v22_2_4 v22_2_0 n22_0 g22_0 mm22; exact m_no mm22 j22_4 rfl
    | succ k22 ih22 =>
      intro sc22 y22_2 y22_3 y22_4 w22_2_4 w22_2_0 hIc22 hFc22 j22_3 j22_4 v22_2_4 v22_2_0 n22_0 g22_0 mm22
      refine gg_w (M := 1 + k22 * 900 + 900) gws ?_
      refine g_iload 24 (gd rfl) rfl rfl ?_
      refine g_aload_n 25 (gd rfl) rfl rfl ?_
      refine g_getI 28 (gd rfl) rfl rfl rfl (fun z25 e25 => ?_)
      have q25 : u_2_1 = z25 := (fr_F e_2_1 hFc22 rfl).trans e25.symm
      subst q25
      refine g_cmp_ge 31 80 (gd rfl) rfl rfl (fun c28 => ?_) (fun c28 => ?_)
      · skip
        exact g_return (gd rfl) rfl (hP _ _ ⟨sc22, hIc22, hFc22, rfl, rfl⟩)
      · skip
        have i28 := r_lt1 0 31 c28 j22_4 ro_2_1 rfl
        have i28a := r_lt2 1 32 c28 j22_4 ro_2_1 rfl
        refine g_aload_n 32 (gd rfl) rfl rfl ?_
        refine g_iload_n 33 (gd rfl) rfl rfl ?_
        have nz33 : (y22_2).toInt ≠ 0 := by exact cb_nz (by have a0 := i28a; unfold In at a0; have a1 := (inv_F hIc22 0 4000 rfl v22_2_0); unfold In at a1; have a2 := (inv_F hIc22 (-1) 4000 rfl v22_2_4); unfold In at a2; have a3 := i28; unfold In at a3; have a4 := j22_3; unfold In at a4; omega)
        refine g_callv (X := _) (As := [.int y22_2]) (r := []) (b := A 56) (q := 56) 36 (gd rfl) rfl rfl rfl rfl rfl (ww_o rfl) (Nat.le_of_ble_eq_true rfl) (Nat.zero_le _) (Nat.zero_le _) (k_149_56 (by first | exact dq1 hd rfl | exact dq0 hd rfl | exact dq2 hd rfl | exact dq3 hd rfl | omega) hIc22 nz33) (fun e u h => h) (fun v u h => ?_)
        obtain ⟨z33, rfl, rfl, i33, p33⟩ := h
        show GG _ _ _ _ _ _ _ _ [.int z33] _ _ _
        refine g_istore 38 (gd rfl) rfl (Nat.le_of_ble_eq_true rfl) ?_
        refine g_iload_n 39 (gd rfl) rfl rfl ?_
        refine g_aload_n 40 (gd rfl) rfl rfl ?_
        refine g_getA (q2 := 59) 43 (gd rfl) rfl rfl rfl rfl ?_
        refine g_iload 45 (gd rfl) rfl rfl ?_
        refine g_iaload 46 (gd rfl) rfl (n := 32) rfl (in_ix i33 rfl) (fun z45 e45 => ?_)
        refine g_calls (As := [.int y22_3, .int z45]) (r := []) 49 (gd rfl) rfl rfl rfl rfl rfl (Nat.le_of_ble_eq_true rfl) (mc := 0) (ms := 0) (Nat.zero_le _) (Nat.zero_le _) (P := fun v u => _) ?_ (fun v u h => h)
        intro po46 xx46 hp46 hx46
        refine g_enter2 (k := 422) (N := 300) (by first | exact dq1 hd rfl | exact dq0 hd rfl | exact dq2 hd rfl | exact dq3 hd rfl | omega) rfl (Nat.le_of_ble_eq_true rfl) ?_
        refine g_iload_n 1 (gd rfl) rfl rfl ?_
        refine g_iload_n 2 (gd rfl) rfl rfl ?_
        refine g_cmp_lt 5 9 (gd rfl) rfl rfl (fun c46x2 => ?_) (fun c46x2 => ?_)
        · skip
          have i46x2 := r_lt1 0 2147483646 c46x2 j22_3 (i_rng z45) rfl
          have i46x2a := r_lt2 1 2147483647 c46x2 j22_3 (i_rng z45) rfl
          refine g_iload_n 10 (gd rfl) rfl rfl ?_
          refine g_ireturn (gd rfl) rfl rfl (hp46 _ _ ?_)
          show GG _ _ _ _ _ _ _ _ [.int z45] _ _ _
          refine g_istore_n 50 (gd rfl) rfl (Nat.le_of_ble_eq_true rfl) ?_
          refine g_aload_n 51 (gd rfl) rfl rfl ?_
          refine g_getA (q2 := 58) 54 (gd rfl) rfl rfl rfl rfl ?_
          refine g_iload 56 (gd rfl) rfl rfl ?_
          refine g_iload_n 57 (gd rfl) rfl rfl ?_
          refine g_iastore 58 (gd rfl) rfl (n := 32) rfl (in_ix i33 rfl) ?_
          have hI57 := inv_sI (q := 58) (j := z33.toNatClampNeg) hIc22 rfl (in_w (-2147483648) 2147483647 i46x2a rfl)
          refine g_iload_n 59 (gd rfl) rfl rfl ?_
          refine g_iconst 1 60 (gd rfl) rfl rfl ?_
          refine g_iload 62 (gd rfl) rfl rfl ?_
          refine g_ishl 63 (gd rfl) rfl (fun z62 e62 => ?_)
          refine g_iconst (-1) 64 (gd rfl) rfl rfl ?_
          refine g_ixor 65 (gd rfl) rfl (fun z64 e64 => ?_)
          refine g_iand 66 (gd rfl) rfl (fun z65 e65 => ?_)
          have hcb := cb_clr e62 e64 e65 i33 p33
          refine g_istore_n 67 (gd rfl) rfl (Nat.le_of_ble_eq_true rfl) ?_
          refine g_aload_n 68 (gd rfl) rfl rfl ?_
          refine g_aload_n 69 (gd rfl) rfl rfl ?_
          refine g_iload 71 (gd rfl) rfl rfl ?_
          have v71 : w22_2_4 = (sI sc22 58 z33.toNatClampNeg z45).2.2.1 2 4 := sI_F (v22_2_4)
          have v71a : w22_2_0 = (sI sc22 58 z33.toNatClampNeg z45).2.2.1 2 0 := sI_F (v22_2_0)
          have n71 : (w22_2_4).toInt = (w22_2_0).toInt := by first | exact n22_0 | (have a0 := i28a; unfold In at a0; have a1 := (inv_F hIc22 0 4000 rfl v22_2_0); unfold In at a1; have a2 := (inv_F hIc22 (-1) 4000 rfl v22_2_4); unfold In at a2; have a3 := i28; unfold In at a3; have a4 := i33; unfold In at a4; have a5 := i46x2a; unfold In at a5; omega)
          refine g_callv (X := _) (As := [.ref (A 2), .int z33]) (r := []) (b := A 56) (q := 56) 74 (gd rfl) rfl rfl rfl rfl rfl (ww_o rfl) (Nat.le_of_ble_eq_true rfl) (Nat.zero_le _) (Nat.zero_le _) (k_150_56_2 (by first | exact dq1 hd rfl | exact dq0 hd rfl | exact dq2 hd rfl | exact dq3 hd rfl | omega) hI57 (in_w 0 31 i33 rfl) v71 v71a n71) (fun e u h => h) (fun v u h => ?_)
          obtain ⟨s71, hI71, hF71, rfl, rfl⟩ := h
          show GG _ _ _ _ _ _ _ _ [] _ _ _
          refine g_iinc 77 (gd rfl) rfl rfl (Nat.le_of_ble_eq_true rfl) (fun z74 e74 => ?_)
          have i74 := in_add 1 32 e74 i28 (in_c 1 rfl) rfl rfl
          refine g_goto 22 (gd rfl) rfl ?_
          have v22 : w22_2_4 = s71.2.2.1 2 4 := fr_F (s := (sI sc22 58 z33.toNatClampNeg z45)) (sI_F (v22_2_4)) hF71 rfl
          have v22a : w22_2_0 = s71.2.2.1 2 0 := fr_F (s := (sI sc22 58 z33.toNatClampNeg z45)) (sI_F (v22_2_0)) hF71 rfl
          have n22 : (w22_2_4).toInt = (w22_2_0).toInt := by first | exact n22_0 | (have a0 := i28a; unfold In at a0; have a1 := (inv_F hIc22 0 4000 rfl v22_2_0); unfold In at a1; have a2 := (inv_F hIc22 (-1) 4000 rfl v22_2_4); unfold In at a2; have a3 := i28; unfold In at a3; have a4 := i33; unfold In at a4; have a5 := i74; unfold In at a5; have a6 := t_add e74 i28 (in_c 1 rfl) rfl; have a7 := (in_c 1 rfl); unfold In at a7; have a8 := i46x2a; unfold In at a8; omega)
          have n22a : (cb z65 : Int) = (u_2_1).toInt - (z74).toInt := by first | (have hcb := cb_m1; have a0 := i28a; unfold In at a0; have a1 := (inv_F hIc22 0 4000 rfl v22_2_0); unfold In at a1; have a2 := (inv_F hIc22 (-1) 4000 rfl v22_2_4); unfold In at a2; have a3 := i28; unfold In at a3; have a4 := i33; unfold In at a4; have a5 := i74; unfold In at a5; have a6 := t_add e74 i28 (in_c 1 rfl) rfl; have a7 := (in_c 1 rfl); unfold In at a7; have a8 := i46x2a; unfold In at a8; omega) | (have hcb := cb_all e5x18 e5x20 ‹_›; have a0 := i28a; unfold In at a0; have a1 := (inv_F hIc22 0 4000 rfl v22_2_0); unfold In at a1; have a2 := (inv_F hIc22 (-1) 4000 rfl v22_2_4); unfold In at a2; have a3 := i28; unfold In at a3; have a4 := i33; unfold In at a4; have a5 := i74; unfold In at a5; have a6 := t_add e74 i28 (in_c 1 rfl) rfl; have a7 := (in_c 1 rfl); unfold In at a7; have a8 := i46x2a; unfold In at a8; omega) | (have a0 := i28a; unfold In at a0; have a1 := (inv_F hIc22 0 4000 rfl v22_2_0); unfold In at a1; have a2 := (inv_F hIc22 (-1) 4000 rfl v22_2_4); unfold In at a2; have a3 := i28; unfold In at a3; have a4 := i33; unfold In at a4; have a5 := i74; unfold In at a5; have a6 := t_add e74 i28 (in_c 1 rfl) rfl; have a7 := (in_c 1 rfl); unfold In at a7; have a8 := i46x2a; unfold In at a8; omega)
          exact gg_w (by first | exact Nat.le_add_right _ _ | exact gw2 | exact gw3 | exact gwe rfl | exact gwf rfl | exact gwg rfl | exact gwh rfl | omega) (gg_f (gf_cons rfl (gf_cons rfl (gf_cons rfl (gf_cons rfl (gf_cons rfl gf_nil))))) (ih22 s71 z65 z45 z74 w22_2_4 w22_2_0 hI71 (fr_tr rfl (fr_sI rfl hFc22) hF71) (in_w 0 2147483647 i46x2a rfl) (in_w 0 32 i74 rfl) v22 v22a n22 n22a (m_up mm22 (t_add e74 i28 (in_c 1 rfl) rfl) (in_w 1 1 (in_c 1 rfl) rfl))))
        · skip
          refine g_iload_n 6 (gd rfl) rfl rfl ?_
          refine g_goto 10 (gd rfl) rfl ?_
          refine g_ireturn (gd rfl) rfl rfl (hp46 _ _ ?_)
          show GG _ _ _ _ _ _ _ _ [.int y22_3] _ _ _
          refine g_istore_n 50 (gd rfl) rfl (Nat.le_of_ble_eq_true rfl) ?_
          refine g_aload_n 51 (gd rfl) rfl rfl ?_
          refine g_getA (q2 := 58) 54 (gd rfl) rfl rfl rfl rfl ?_
          refine g_iload 56 (gd rfl) rfl rfl ?_
          refine g_iload_n 57 (gd rfl) rfl rfl ?_
          refine g_iastore 58 (gd rfl) rfl (n := 32) rfl (in_ix i33 rfl) ?_
          have hI57 := inv_sI (q := 58) (j := z33.toNatClampNeg) hIc22 rfl (in_w (-2147483648) 2147483647 j22_3 rfl)
          refine g_iload_n 59 (gd rfl) rfl rfl ?_
          refine g_iconst 1 60 (gd rfl) rfl rfl ?_
          refine g_iload 62 (gd rfl) rfl rfl ?_
          refine g_ishl 63 (gd rfl) rfl (fun z62 e62 => ?_)
          refine g_iconst (-1) 64 (gd rfl) rfl rfl ?_
          refine g_ixor 65 (gd rfl) rfl (fun z64 e64 => ?_)
          refine g_iand 66 (gd rfl) rfl (fun z65 e65 => ?_)
          have hcb := cb_clr e62 e64 e65 i33 p33
          refine g_istore_n 67 (gd rfl) rfl (Nat.le_of_ble_eq_true rfl) ?_
          refine g_aload_n 68 (gd rfl) rfl rfl ?_
          refine g_aload_n 69 (gd rfl) rfl rfl ?_
          refine g_iload 71 (gd rfl) rfl rfl ?_
          have v71 : w22_2_4 = (sI sc22 58 z33.toNatClampNeg y22_3).2.2.1 2 4 := sI_F (v22_2_4)
          have v71a : w22_2_0 = (sI sc22 58 z33.toNatClampNeg y22_3).2.2.1 2 0 := sI_F (v22_2_0)
          have n71 : (w22_2_4).toInt = (w22_2_0).toInt := by first | exact n22_0 | (have a0 := i28a; unfold In at a0; have a1 := (inv_F hIc22 0 4000 rfl v22_2_0); unfold In at a1; have a2 := (inv_F hIc22 (-1) 4000 rfl v22_2_4); unfold In at a2; have a3 := i28; unfold In at a3; have a4 := i33; unfold In at a4; have a5 := j22_3; unfold In at a5; omega)
          refine g_callv (X := _) (As := [.ref (A 2), .int z33]) (r := []) (b := A 56) (q := 56) 74 (gd rfl) rfl rfl rfl rfl rfl (ww_o rfl) (Nat.le_of_ble_eq_true rfl) (Nat.zero_le _) (Nat.zero_le _) (k_150_56_2 (by first | exact dq1 hd rfl | exact dq0 hd rfl | exact dq2 hd rfl | exact dq3 hd rfl | omega) hI57 (in_w 0 31 i33 rfl) v71 v71a n71) (fun e u h => h) (fun v u h => ?_)
          obtain ⟨s71, hI71, hF71, rfl, rfl⟩ := h
          show GG _ _ _ _ _ _ _ _ [] _ _ _
          refine g_iinc 77 (gd rfl) rfl rfl (Nat.le_of_ble_eq_true rfl) (fun z74 e74 => ?_)
          have i74 := in_add 1 32 e74 i28 (in_c 1 rfl) rfl rfl
          refine g_goto 22 (gd rfl) rfl ?_
          have v22 : w22_2_4 = s71.2.2.1 2 4 := fr_F (s := (sI sc22 58 z33.toNatClampNeg y22_3)) (sI_F (v22_2_4)) hF71 rfl
          have v22a : w22_2_0 = s71.2.2.1 2 0 := fr_F (s := (sI sc22 58 z33.toNatClampNeg y22_3)) (sI_F (v22_2_0)) hF71 rfl
          have n22 : (w22_2_4).toInt = (w22_2_0).toInt := by first | exact n22_0 | (have a0 := i28a; unfold In at a0; have a1 := (inv_F hIc22 0 4000 rfl v22_2_0); unfold In at a1; have a2 := (inv_F hIc22 (-1) 4000 rfl v22_2_4); unfold In at a2; have a3 := i28; unfold In at a3; have a4 := i33; unfold In at a4; have a5 := i74; unfold In at a5; have a6 := t_add e74 i28 (in_c 1 rfl) rfl; have a7 := (in_c 1 rfl); unfold In at a7; have a8 := j22_3; unfold In at a8; omega)
          have n22a : (cb z65 : Int) = (u_2_1).toInt - (z74).toInt := by first | (have hcb := cb_m1; have a0 := i28a; unfold In at a0; have a1 := (inv_F hIc22 0 4000 rfl v22_2_0); unfold In at a1; have a2 := (inv_F hIc22 (-1) 4000 rfl v22_2_4); unfold In at a2; have a3 := i28; unfold In at a3; have a4 := i33; unfold In at a4; have a5 := i74; unfold In at a5; have a6 := t_add e74 i28 (in_c 1 rfl) rfl; have a7 := (in_c 1 rfl); unfold In at a7; have a8 := j22_3; unfold In at a8; omega) | (have hcb := cb_all e5x18 e5x20 ‹_›; have a0 := i28a; unfold In at a0; have a1 := (inv_F hIc22 0 4000 rfl v22_2_0); unfold In at a1; have a2 := (inv_F hIc22 (-1) 4000 rfl v22_2_4); unfold In at a2; have a3 := i28; unfold In at a3; have a4 := i33; unfold In at a4; have a5 := i74; unfold In at a5; have a6 := t_add e74 i28 (in_c 1 rfl) rfl; have a7 := (in_c 1 rfl); unfold In at a7; have a8 := j22_3; unfold In at a8; omega) | (have a0 := i28a; unfold In at a0; have a1 := (inv_F hIc22 0 4000 rfl v22_2_0); unfold In at a1; have a2 := (inv_F hIc22 (-1) 4000 rfl v22_2_4); unfold In at a2; have a3 := i28; unfold In at a3; have a4 := i33; unfold In at a4; have a5 := i74; unfold In at a5; have a6 := t_add e74 i28 (in_c 1 rfl) rfl; have a7 := (in_c 1 rfl); unfold In at a7; have a8 := j22_3; unfold In at a8; omega)
          exact gg_w (by first | exact Nat.le_add_right _ _ | exact gw2 | exact gw3 | exact gwe rfl | exact gwf rfl | exact gwg rfl | exact gwh rfl | omega) (gg_f (gf_cons rfl (gf_cons rfl (gf_cons rfl (gf_cons rfl (gf_cons rfl gf_nil))))) (ih22 s71 z65 y22_3 z74 w22_2_4 w22_2_0 hI71 (fr_tr rfl (fr_sI rfl hFc22) hF71) (in_w 0 2147483647 j22_3 rfl) (in_w 0 32 i74 rfl) v22 v22a n22 n22a (m_up mm22 (t_add e74 i28 (in_c 1 rfl) rfl) (in_w 1 1 (in_c 1 rfl) rfl))))
  refine g_enter2 (k := 148) (N := 30601) (by first | exact dq1 hd rfl | exact dq0 hd rfl | exact dq2 hd rfl | exact dq3 hd rfl | omega) rfl (Nat.le_of_ble_eq_true rfl) ?_
  refine g_aload_n 1 (gd rfl) rfl rfl ?_
  refine g_callv (X := _) (As := []) (r := []) (b := A 2) (q := 2) 4 (gd rfl) rfl rfl rfl rfl rfl (ww_o rfl) (Nat.le_of_ble_eq_true rfl) (Nat.zero_le _) (Nat.zero_le _) (k_106_2 (by first | exact dq1 hd rfl | exact dq0 hd rfl | exact dq2 hd rfl | exact dq3 hd rfl | omega) hI ) (fun e u h => h) (fun v u h => ?_)
  obtain ⟨s1, hI1, hF1, n1, rfl, rfl⟩ := h
  obtain ⟨z1a, e1⟩ : ∃ w, w = s1.2.2.1 2 4 := ⟨_, rfl⟩
  have i1a := inv_F hI1 (-1) 4000 rfl e1
  obtain ⟨z1b, e1a⟩ : ∃ w, w = s1.2.2.1 2 0 := ⟨_, rfl⟩
  have i1b := inv_F hI1 0 4000 rfl e1a
  rw [← (show z1a = s1.2.2.1 2 4 from e1)] at n1
  rw [← (show z1b = s1.2.2.1 2 0 from e1a)] at n1
  show GG _ _ _ _ _ _ _ _ [] _ _ _
  refine g_aload_n 5 (gd rfl) rfl rfl ?_
  refine g_callv (X := _) (As := []) (r := []) (b := A 2) (q := 2) 8 (gd rfl) rfl rfl rfl rfl rfl (ww_o rfl) (Nat.le_of_ble_eq_true rfl) (mc := 0) (ms := 0) (Nat.zero_le _) (Nat.zero_le _) (P := fun v u => _) ?_ (fun e u h => h) (fun v u h => h)
  intro po5 xx5 hp5 hx5
  refine g_enter2 (k := 102) (N := 300) (by first | exact dq1 hd rfl | exact dq0 hd rfl | exact dq2 hd rfl | exact dq3 hd rfl | omega) rfl (Nat.le_of_ble_eq_true rfl) ?_
  refine g_aload_n 1 (gd rfl) rfl rfl ?_
  refine g_getI 4 (gd rfl) rfl rfl rfl (fun z5x1 e5x1 => ?_)
  have q5x1 : u_2_1 = z5x1 := (fr_F (e_2_1) hF1 rfl).trans e5x1.symm
  subst q5x1
  refine g_bipush 32 6 (gd rfl) rfl rfl ?_
  refine g_cmp_lt 9 13 (gd rfl) rfl rfl (fun c5x6 => ?_) (fun c5x6 => ?_)
  · skip
    have i5x6 := r_lt1 0 31 c5x6 ro_2_1 (in_c 32 rfl) rfl
    refine g_iconst 1 14 (gd rfl) rfl rfl ?_
    refine g_aload_n 15 (gd rfl) rfl rfl ?_
    refine g_getI 18 (gd rfl) rfl rfl rfl (fun z5x15 e5x15 => ?_)
    have q5x15 : u_2_1 = z5x15 := (fr_F (e_2_1) hF1 rfl).trans e5x15.symm
    subst q5x15
    refine g_ishl 19 (gd rfl) rfl (fun z5x18 e5x18 => ?_)
    refine g_iconst 1 20 (gd rfl) rfl rfl ?_
    refine g_isub 21 (gd rfl) rfl (fun z5x20 e5x20 => ?_)
    refine g_ireturn (gd rfl) rfl rfl (hp5 _ _ ?_)
    show GG _ _ _ _ _ _ _ _ [.int z5x20] _ _ _
    refine g_istore_n 9 (gd rfl) rfl (Nat.le_of_ble_eq_true rfl) ?_
    refine g_iconst 0 10 (gd rfl) rfl rfl ?_
    refine g_istore_n 11 (gd rfl) rfl (Nat.le_of_ble_eq_true rfl) ?_
    refine g_aload_n 12 (gd rfl) rfl rfl ?_
    refine g_aload_n 13 (gd rfl) rfl rfl ?_
    refine g_getA (q2 := 59) 16 (gd rfl) rfl rfl rfl rfl ?_
    refine g_callv (X := _) (As := [.ref (A 59)]) (r := []) (b := A 2) (q := 2) 19 (gd rfl) rfl rfl rfl rfl rfl (ww_o rfl) (Nat.le_of_ble_eq_true rfl) (Nat.zero_le _) (Nat.zero_le _) (k_99_2_59 (by first | exact dq1 hd rfl | exact dq0 hd rfl | exact dq2 hd rfl | exact dq3 hd rfl | omega) hI1 ) (fun e u h => h) (fun v u h => ?_)
    obtain ⟨s16, hI16, hF16, rfl, rfl⟩ := h
    show GG _ _ _ _ _ _ _ _ [] _ _ _
    refine g_iconst 0 20 (gd rfl) rfl rfl ?_
    refine g_istore 22 (gd rfl) rfl (Nat.le_of_ble_eq_true rfl) ?_
    have v22 : z1a = s16.2.2.1 2 4 := fr_F (e1) hF16 rfl
    have v22a : z1b = s16.2.2.1 2 0 := fr_F (e1a) hF16 rfl
    have n22 : (z1a).toInt = (z1b).toInt := by have a0 := i5x6; unfold In at a0; have a1 := (in_c 0 rfl); unfold In at a1; have a2 := i1b; unfold In at a2; have a3 := i1a; unfold In at a3; omega
    have n22a : (cb z5x20 : Int) = (u_2_1).toInt - ((Int32.ofInt 0)).toInt := by first | (have hcb := cb_m1; have a0 := i5x6; unfold In at a0; have a1 := (in_c 0 rfl); unfold In at a1; have a2 := i1b; unfold In at a2; have a3 := i1a; unfold In at a3; omega) | (have hcb := cb_all e5x18 e5x20 ‹_›; have a0 := i5x6; unfold In at a0; have a1 := (in_c 0 rfl); unfold In at a1; have a2 := i1b; unfold In at a2; have a3 := i1a; unfold In at a3; omega) | (have a0 := i5x6; unfold In at a0; have a1 := (in_c 0 rfl); unfold In at a1; have a2 := i1b; unfold In at a2; have a3 := i1a; unfold In at a3; omega)
    exact gg_w (by first | exact Nat.le_of_ble_eq_true rfl | omega) (gg_f (gf_cons rfl (gf_cons rfl (gf_cons rfl (gf_cons rfl (gf_cons rfl gf_nil))))) (ct22 33 s16 z5x20 (Int32.ofInt 0) (Int32.ofInt 0) z1a z1b hI16 (fr_tr rfl (fr_tr rfl fr_rf hF1) hF16) (in_w 0 2147483647 (in_c 0 rfl) rfl) (in_w 0 32 (in_c 0 rfl) rfl) v22 v22a n22 n22a (m_in 33 (in_w 0 32 (in_c 0 rfl) rfl) rfl)))
  · skip
    have i5x6 := r_le2 32 32 c5x6 (in_c 32 rfl) ro_2_1 rfl
    refine g_iconst (-1) 10 (gd rfl) rfl rfl ?_
    refine g_goto 21 (gd rfl) rfl ?_
    refine g_ireturn (gd rfl) rfl rfl (hp5 _ _ ?_)
    show GG _ _ _ _ _ _ _ _ [.int (Int32.ofInt (-1))] _ _ _
    refine g_istore_n 9 (gd rfl) rfl (Nat.le_of_ble_eq_true rfl) ?_
    refine g_iconst 0 10 (gd rfl) rfl rfl ?_
    refine g_istore_n 11 (gd rfl) rfl (Nat.le_of_ble_eq_true rfl) ?_
    refine g_aload_n 12 (gd rfl) rfl rfl ?_
    refine g_aload_n 13 (gd rfl) rfl rfl ?_
    refine g_getA (q2 := 59) 16 (gd rfl) rfl rfl rfl rfl ?_
    refine g_callv (X := _) (As := [.ref (A 59)]) (r := []) (b := A 2) (q := 2) 19 (gd rfl) rfl rfl rfl rfl rfl (ww_o rfl) (Nat.le_of_ble_eq_true rfl) (Nat.zero_le _) (Nat.zero_le _) (k_99_2_59 (by first | exact dq1 hd rfl | exact dq0 hd rfl | exact dq2 hd rfl | exact dq3 hd rfl | omega) hI1 ) (fun e u h => h) (fun v u h => ?_)
    obtain ⟨s16, hI16, hF16, rfl, rfl⟩ := h
    show GG _ _ _ _ _ _ _ _ [] _ _ _
    refine g_iconst 0 20 (gd rfl) rfl rfl ?_
    refine g_istore 22 (gd rfl) rfl (Nat.le_of_ble_eq_true rfl) ?_
    have v22 : z1a = s16.2.2.1 2 4 := fr_F (e1) hF16 rfl
    have v22a : z1b = s16.2.2.1 2 0 := fr_F (e1a) hF16 rfl
    have n22 : (z1a).toInt = (z1b).toInt := by have a0 := i5x6; unfold In at a0; have a1 := (in_c 0 rfl); unfold In at a1; have a2 := (in_c (-1) rfl); unfold In at a2; have a3 := i1b; unfold In at a3; have a4 := i1a; unfold In at a4; omega
    have n22a : (cb (Int32.ofInt (-1)) : Int) = (u_2_1).toInt - ((Int32.ofInt 0)).toInt := by first | (have hcb := cb_m1; have a0 := i5x6; unfold In at a0; have a1 := (in_c 0 rfl); unfold In at a1; have a2 := (in_c (-1) rfl); unfold In at a2; have a3 := i1b; unfold In at a3; have a4 := i1a; unfold In at a4; omega) | (have hcb := cb_all e5x18 e5x20 ‹_›; have a0 := i5x6; unfold In at a0; have a1 := (in_c 0 rfl); unfold In at a1; have a2 := (in_c (-1) rfl); unfold In at a2; have a3 := i1b; unfold In at a3; have a4 := i1a; unfold In at a4; omega) | (have a0 := i5x6; unfold In at a0; have a1 := (in_c 0 rfl); unfold In at a1; have a2 := (in_c (-1) rfl); unfold In at a2; have a3 := i1b; unfold In at a3; have a4 := i1a; unfold In at a4; omega)
    exact gg_w (by first | exact Nat.le_of_ble_eq_true rfl | omega) (gg_f (gf_cons rfl (gf_cons rfl (gf_cons rfl (gf_cons rfl (gf_cons rfl gf_nil))))) (ct22 33 s16 (Int32.ofInt (-1)) (Int32.ofInt 0) (Int32.ofInt 0) z1a z1b hI16 (fr_tr rfl (fr_tr rfl fr_rf hF1) hF16) (in_w 0 2147483647 (in_c 0 rfl) rfl) (in_w 0 32 (in_c 0 rfl) rfl) v22 v22a n22 n22a (m_in 33 (in_w 0 32 (in_c 0 rfl) rfl) rfl)))

def fm_148_56_32 : FM := ([39, 40, 41, 42, 43, 44, 45, 58, 59], [], [(32, 4)], [])
/-- GraphHouse$Parts.peel -/
theorem k_148_56_32 {Z : AmZ} {A : Nat → Nat} {s : GS} {ex : va_W} {d : Nat} {X : AmX}  (hd : 5 ≤ d) (hI : Inv s)  : GC Z d 148 [.ref (A 56), .ref (A 32)] (WW Z A s ++ ex) 0 0 (fun v u => ∃ t : GS, Inv t ∧ Fr fm_148_56_32 s t ∧ v = none ∧ u = WW Z A t ++ ex) X := by
  intro post xp hP hX
  obtain ⟨u_32_1, e_32_1⟩ : ∃ w, w = s.2.2.1 32 1 := ⟨_, rfl⟩
  have ro_32_1 := inv_F hI 0 32 rfl e_32_1
  have ct22 : ∀ (k22 : Nat) (sc22 : GS) (y22_2 : Int32) (y22_3 : Int32) (y22_4 : Int32) (w22_32_4 : Int32) (w22_32_0 : Int32), Inv sc22 → Fr fm_148_56_32 s sc22 → (In y22_3 0 2147483647) → (In y22_4 0 32) → (w22_32_4 = sc22.2.2.1 32 4) → (w22_32_0 = sc22.2.2.1 32 0) → ((w22_32_4).toInt = (w22_32_0).toInt) → ((cb y22_2 : Int) = (u_32_1).toInt - (y22_4).toInt) → 32 - (y22_4).toInt < (k22 : Int) → GG Z (d - 1) 148 post (gx xp) (1 + k22 * 900) 22 (fun j => xlook j [(0, .ref (A 56)), (1, .ref (A 32)), (2, .int y22_2), (3, .int y22_3), (4, .int y22_4)]) [] (WW Z A sc22 ++ ex) 0 0 := by
    intro k22
    induction k22 with
    | zero => intro sc22 y22_2 y22_3 y22_4 w22_32_4 w22_32_0 hIc22 hFc22 j22_3 j22_4 v22_32_4 v22_32_0 n22_0 g22_0 mm22; exact m_no mm22 j22_4 rfl
    | succ k22 ih22 =>
      intro sc22 y22_2 y22_3 y22_4 w22_32_4 w22_32_0 hIc22 hFc22 j22_3 j22_4 v22_32_4 v22_32_0 n22_0 g22_0 mm22
      refine gg_w (M := 1 + k22 * 900 + 900) gws ?_
      refine g_iload 24 (gd rfl) rfl rfl ?_
      refine g_aload_n 25 (gd rfl) rfl rfl ?_
      refine g_getI 28 (gd rfl) rfl rfl rfl (fun z25 e25 => ?_)
      have q25 : u_32_1 = z25 := (fr_F e_32_1 hFc22 rfl).trans e25.symm
      subst q25
      refine g_cmp_ge 31 80 (gd rfl) rfl rfl (fun c28 => ?_) (fun c28 => ?_)
      · skip
        exact g_return (gd rfl) rfl (hP _ _ ⟨sc22, hIc22, hFc22, rfl, rfl⟩)
      · skip
        have i28 := r_lt1 0 31 c28 j22_4 ro_32_1 rfl
        have i28a := r_lt2 1 32 c28 j22_4 ro_32_1 rfl
        refine g_aload_n 32 (gd rfl) rfl rfl ?_
        refine g_iload_n 33 (gd rfl) rfl rfl ?_
        have nz33 : (y22_2).toInt ≠ 0 := by exact cb_nz (by have a0 := i28a; unfold In at a0; have a1 := (inv_F hIc22 0 4000 rfl v22_32_0); unfold In at a1; have a2 := (inv_F hIc22 (-1) 4000 rfl v22_32_4); unfold In at a2; have a3 := i28; unfold In at a3; have a4 := j22_3; unfold In at a4; omega)
        refine g_callv (X := _) (As := [.int y22_2]) (r := []) (b := A 56) (q := 56) 36 (gd rfl) rfl rfl rfl rfl rfl (ww_o rfl) (Nat.le_of_ble_eq_true rfl) (Nat.zero_le _) (Nat.zero_le _) (k_149_56 (by first | exact dq1 hd rfl | exact dq0 hd rfl | exact dq2 hd rfl | exact dq3 hd rfl | omega) hIc22 nz33) (fun e u h => h) (fun v u h => ?_)
        obtain ⟨z33, rfl, rfl, i33, p33⟩ := h
        show GG _ _ _ _ _ _ _ _ [.int z33] _ _ _
        refine g_istore 38 (gd rfl) rfl (Nat.le_of_ble_eq_true rfl) ?_
        refine g_iload_n 39 (gd rfl) rfl rfl ?_
        refine g_aload_n 40 (gd rfl) rfl rfl ?_
        refine g_getA (q2 := 59) 43 (gd rfl) rfl rfl rfl rfl ?_
        refine g_iload 45 (gd rfl) rfl rfl ?_
        refine g_iaload 46 (gd rfl) rfl (n := 32) rfl (in_ix i33 rfl) (fun z45 e45 => ?_)
        refine g_calls (As := [.int y22_3, .int z45]) (r := []) 49 (gd rfl) rfl rfl rfl rfl rfl (Nat.le_of_ble_eq_true rfl) (mc := 0) (ms := 0) (Nat.zero_le _) (Nat.zero_le _) (P := fun v u => _) ?_ (fun v u h => h)
        intro po46 xx46 hp46 hx46
        refine g_enter2 (k := 422) (N := 300) (by first | exact dq1 hd rfl | exact dq0 hd rfl | exact dq2 hd rfl | exact dq3 hd rfl | omega) rfl (Nat.le_of_ble_eq_true rfl) ?_
        refine g_iload_n 1 (gd rfl) rfl rfl ?_
        refine g_iload_n 2 (gd rfl) rfl rfl ?_
        refine g_cmp_lt 5 9 (gd rfl) rfl rfl (fun c46x2 => ?_) (fun c46x2 => ?_)
        · skip
          have i46x2 := r_lt1 0 2147483646 c46x2 j22_3 (i_rng z45) rfl
          have i46x2a := r_lt2 1 2147483647 c46x2 j22_3 (i_rng z45) rfl
          refine g_iload_n 10 (gd rfl) rfl rfl ?_
          refine g_ireturn (gd rfl) rfl rfl (hp46 _ _ ?_)
          show GG _ _ _ _ _ _ _ _ [.int z45] _ _ _
          refine g_istore_n 50 (gd rfl) rfl (Nat.le_of_ble_eq_true rfl) ?_
          refine g_aload_n 51 (gd rfl) rfl rfl ?_
          refine g_getA (q2 := 58) 54 (gd rfl) rfl rfl rfl rfl ?_
          refine g_iload 56 (gd rfl) rfl rfl ?_
          refine g_iload_n 57 (gd rfl) rfl rfl ?_
          refine g_iastore 58 (gd rfl) rfl (n := 32) rfl (in_ix i33 rfl) ?_
          have hI57 := inv_sI (q := 58) (j := z33.toNatClampNeg) hIc22 rfl (in_w (-2147483648) 2147483647 i46x2a rfl)
          refine g_iload_n 59 (gd rfl) rfl rfl ?_
          refine g_iconst 1 60 (gd rfl) rfl rfl ?_
          refine g_iload 62 (gd rfl) rfl rfl ?_
          refine g_ishl 63 (gd rfl) rfl (fun z62 e62 => ?_)
          refine g_iconst (-1) 64 (gd rfl) rfl rfl ?_
          refine g_ixor 65 (gd rfl) rfl (fun z64 e64 => ?_)
          refine g_iand 66 (gd rfl) rfl (fun z65 e65 => ?_)
          have hcb := cb_clr e62 e64 e65 i33 p33
          refine g_istore_n 67 (gd rfl) rfl (Nat.le_of_ble_eq_true rfl) ?_
          refine g_aload_n 68 (gd rfl) rfl rfl ?_
          refine g_aload_n 69 (gd rfl) rfl rfl ?_
          refine g_iload 71 (gd rfl) rfl rfl ?_
          have v71 : w22_32_4 = (sI sc22 58 z33.toNatClampNeg z45).2.2.1 32 4 := sI_F (v22_32_4)
          have v71a : w22_32_0 = (sI sc22 58 z33.toNatClampNeg z45).2.2.1 32 0 := sI_F (v22_32_0)
          have n71 : (w22_32_4).toInt = (w22_32_0).toInt := by first | exact n22_0 | (have a0 := i28a; unfold In at a0; have a1 := (inv_F hIc22 0 4000 rfl v22_32_0); unfold In at a1; have a2 := (inv_F hIc22 (-1) 4000 rfl v22_32_4); unfold In at a2; have a3 := i28; unfold In at a3; have a4 := i33; unfold In at a4; have a5 := i46x2a; unfold In at a5; omega)
          refine g_callv (X := _) (As := [.ref (A 32), .int z33]) (r := []) (b := A 56) (q := 56) 74 (gd rfl) rfl rfl rfl rfl rfl (ww_o rfl) (Nat.le_of_ble_eq_true rfl) (Nat.zero_le _) (Nat.zero_le _) (k_150_56_32 (by first | exact dq1 hd rfl | exact dq0 hd rfl | exact dq2 hd rfl | exact dq3 hd rfl | omega) hI57 (in_w 0 31 i33 rfl) v71 v71a n71) (fun e u h => h) (fun v u h => ?_)
          obtain ⟨s71, hI71, hF71, rfl, rfl⟩ := h
          show GG _ _ _ _ _ _ _ _ [] _ _ _
          refine g_iinc 77 (gd rfl) rfl rfl (Nat.le_of_ble_eq_true rfl) (fun z74 e74 => ?_)
          have i74 := in_add 1 32 e74 i28 (in_c 1 rfl) rfl rfl
          refine g_goto 22 (gd rfl) rfl ?_
          have v22 : w22_32_4 = s71.2.2.1 32 4 := fr_F (s := (sI sc22 58 z33.toNatClampNeg z45)) (sI_F (v22_32_4)) hF71 rfl
          have v22a : w22_32_0 = s71.2.2.1 32 0 := fr_F (s := (sI sc22 58 z33.toNatClampNeg z45)) (sI_F (v22_32_0)) hF71 rfl
          have n22 : (w22_32_4).toInt = (w22_32_0).toInt := by first | exact n22_0 | (have a0 := i28a; unfold In at a0; have a1 := (inv_F hIc22 0 4000 rfl v22_32_0); unfold In at a1; have a2 := (inv_F hIc22 (-1) 4000 rfl v22_32_4); unfold In at a2; have a3 := i28; unfold In at a3; have a4 := i33; unfold In at a4; have a5 := i74; unfold In at a5; have a6 := t_add e74 i28 (in_c 1 rfl) rfl; have a7 := (in_c 1 rfl); unfold In at a7; have a8 := i46x2a; unfold In at a8; omega)
          have n22a : (cb z65 : Int) = (u_32_1).toInt - (z74).toInt := by first | (have hcb := cb_m1; have a0 := i28a; unfold In at a0; have a1 := (inv_F hIc22 0 4000 rfl v22_32_0); unfold In at a1; have a2 := (inv_F hIc22 (-1) 4000 rfl v22_32_4); unfold In at a2; have a3 := i28; unfold In at a3; have a4 := i33; unfold In at a4; have a5 := i74; unfold In at a5; have a6 := t_add e74 i28 (in_c 1 rfl) rfl; have a7 := (in_c 1 rfl); unfold In at a7; have a8 := i46x2a; unfold In at a8; omega) | (have hcb := cb_all e5x18 e5x20 ‹_›; have a0 := i28a; unfold In at a0; have a1 := (inv_F hIc22 0 4000 rfl v22_32_0); unfold In at a1; have a2 := (inv_F hIc22 (-1) 4000 rfl v22_32_4); unfold In at a2; have a3 := i28; unfold In at a3; have a4 := i33; unfold In at a4; have a5 := i74; unfold In at a5; have a6 := t_add e74 i28 (in_c 1 rfl) rfl; have a7 := (in_c 1 rfl); unfold In at a7; have a8 := i46x2a; unfold In at a8; omega) | (have a0 := i28a; unfold In at a0; have a1 := (inv_F hIc22 0 4000 rfl v22_32_0); unfold In at a1; have a2 := (inv_F hIc22 (-1) 4000 rfl v22_32_4); unfold In at a2; have a3 := i28; unfold In at a3; have a4 := i33; unfold In at a4; have a5 := i74; unfold In at a5; have a6 := t_add e74 i28 (in_c 1 rfl) rfl; have a7 := (in_c 1 rfl); unfold In at a7; have a8 := i46x2a; unfold In at a8; omega)
          exact gg_w (by first | exact Nat.le_add_right _ _ | exact gw2 | exact gw3 | exact gwe rfl | exact gwf rfl | exact gwg rfl | exact gwh rfl | omega) (gg_f (gf_cons rfl (gf_cons rfl (gf_cons rfl (gf_cons rfl (gf_cons rfl gf_nil))))) (ih22 s71 z65 z45 z74 w22_32_4 w22_32_0 hI71 (fr_tr rfl (fr_sI rfl hFc22) hF71) (in_w 0 2147483647 i46x2a rfl) (in_w 0 32 i74 rfl) v22 v22a n22 n22a (m_up mm22 (t_add e74 i28 (in_c 1 rfl) rfl) (in_w 1 1 (in_c 1 rfl) rfl))))
        · skip
          refine g_iload_n 6 (gd rfl) rfl rfl ?_
          refine g_goto 10 (gd rfl) rfl ?_
          refine g_ireturn (gd rfl) rfl rfl (hp46 _ _ ?_)
          show GG _ _ _ _ _ _ _ _ [.int y22_3] _ _ _
          refine g_istore_n 50 (gd rfl) rfl (Nat.le_of_ble_eq_true rfl) ?_
          refine g_aload_n 51 (gd rfl) rfl rfl ?_
          refine g_getA (q2 := 58) 54 (gd rfl) rfl rfl rfl rfl ?_
          refine g_iload 56 (gd rfl) rfl rfl ?_
          refine g_iload_n 57 (gd rfl) rfl rfl ?_
          refine g_iastore 58 (gd rfl) rfl (n := 32) rfl (in_ix i33 rfl) ?_
          have hI57 := inv_sI (q := 58) (j := z33.toNatClampNeg) hIc22 rfl (in_w (-2147483648) 2147483647 j22_3 rfl)
          refine g_iload_n 59 (gd rfl) rfl rfl ?_
          refine g_iconst 1 60 (gd rfl) rfl rfl ?_
          refine g_iload 62 (gd rfl) rfl rfl ?_
          refine g_ishl 63 (gd rfl) rfl (fun z62 e62 => ?_)
          refine g_iconst (-1) 64 (gd rfl) rfl rfl ?_
          refine g_ixor 65 (gd rfl) rfl (fun z64 e64 => ?_)
          refine g_iand 66 (gd rfl) rfl (fun z65 e65 => ?_)
          have hcb := cb_clr e62 e64 e65 i33 p33
          refine g_istore_n 67 (gd rfl) rfl (Nat.le_of_ble_eq_true rfl) ?_
          refine g_aload_n 68 (gd rfl) rfl rfl ?_
          refine g_aload_n 69 (gd rfl) rfl rfl ?_
          refine g_iload 71 (gd rfl) rfl rfl ?_
          have v71 : w22_32_4 = (sI sc22 58 z33.toNatClampNeg y22_3).2.2.1 32 4 := sI_F (v22_32_4)
          have v71a : w22_32_0 = (sI sc22 58 z33.toNatClampNeg y22_3).2.2.1 32 0 := sI_F (v22_32_0)
          have n71 : (w22_32_4).toInt = (w22_32_0).toInt := by first | exact n22_0 | (have a0 := i28a; unfold In at a0; have a1 := (inv_F hIc22 0 4000 rfl v22_32_0); unfold In at a1; have a2 := (inv_F hIc22 (-1) 4000 rfl v22_32_4); unfold In at a2; have a3 := i28; unfold In at a3; have a4 := i33; unfold In at a4; have a5 := j22_3; unfold In at a5; omega)
          refine g_callv (X := _) (As := [.ref (A 32), .int z33]) (r := []) (b := A 56) (q := 56) 74 (gd rfl) rfl rfl rfl rfl rfl (ww_o rfl) (Nat.le_of_ble_eq_true rfl) (Nat.zero_le _) (Nat.zero_le _) (k_150_56_32 (by first | exact dq1 hd rfl | exact dq0 hd rfl | exact dq2 hd rfl | exact dq3 hd rfl | omega) hI57 (in_w 0 31 i33 rfl) v71 v71a n71) (fun e u h => h) (fun v u h => ?_)
          obtain ⟨s71, hI71, hF71, rfl, rfl⟩ := h
          show GG _ _ _ _ _ _ _ _ [] _ _ _
          refine g_iinc 77 (gd rfl) rfl rfl (Nat.le_of_ble_eq_true rfl) (fun z74 e74 => ?_)
          have i74 := in_add 1 32 e74 i28 (in_c 1 rfl) rfl rfl
          refine g_goto 22 (gd rfl) rfl ?_
          have v22 : w22_32_4 = s71.2.2.1 32 4 := fr_F (s := (sI sc22 58 z33.toNatClampNeg y22_3)) (sI_F (v22_32_4)) hF71 rfl
          have v22a : w22_32_0 = s71.2.2.1 32 0 := fr_F (s := (sI sc22 58 z33.toNatClampNeg y22_3)) (sI_F (v22_32_0)) hF71 rfl
          have n22 : (w22_32_4).toInt = (w22_32_0).toInt := by first | exact n22_0 | (have a0 := i28a; unfold In at a0; have a1 := (inv_F hIc22 0 4000 rfl v22_32_0); unfold In at a1; have a2 := (inv_F hIc22 (-1) 4000 rfl v22_32_4); unfold In at a2; have a3 := i28; unfold In at a3; have a4 := i33; unfold In at a4; have a5 := i74; unfold In at a5; have a6 := t_add e74 i28 (in_c 1 rfl) rfl; have a7 := (in_c 1 rfl); unfold In at a7; have a8 := j22_3; unfold In at a8; omega)
          have n22a : (cb z65 : Int) = (u_32_1).toInt - (z74).toInt := by first | (have hcb := cb_m1; have a0 := i28a; unfold In at a0; have a1 := (inv_F hIc22 0 4000 rfl v22_32_0); unfold In at a1; have a2 := (inv_F hIc22 (-1) 4000 rfl v22_32_4); unfold In at a2; have a3 := i28; unfold In at a3; have a4 := i33; unfold In at a4; have a5 := i74; unfold In at a5; have a6 := t_add e74 i28 (in_c 1 rfl) rfl; have a7 := (in_c 1 rfl); unfold In at a7; have a8 := j22_3; unfold In at a8; omega) | (have hcb := cb_all e5x18 e5x20 ‹_›; have a0 := i28a; unfold In at a0; have a1 := (inv_F hIc22 0 4000 rfl v22_32_0); unfold In at a1; have a2 := (inv_F hIc22 (-1) 4000 rfl v22_32_4); unfold In at a2; have a3 := i28; unfold In at a3; have a4 := i33; unfold In at a4; have a5 := i74; unfold In at a5; have a6 := t_add e74 i28 (in_c 1 rfl) rfl; have a7 := (in_c 1 rfl); unfold In at a7; have a8 := j22_3; unfold In at a8; omega) | (have a0 := i28a; unfold In at a0; have a1 := (inv_F hIc22 0 4000 rfl v22_32_0); unfold In at a1; have a2 := (inv_F hIc22 (-1) 4000 rfl v22_32_4); unfold In at a2; have a3 := i28; unfold In at a3; have a4 := i33; unfold In at a4; have a5 := i74; unfold In at a5; have a6 := t_add e74 i28 (in_c 1 rfl) rfl; have a7 := (in_c 1 rfl); unfold In at a7; have a8 := j22_3; unfold In at a8; omega)
          exact gg_w (by first | exact Nat.le_add_right _ _ | exact gw2 | exact gw3 | exact gwe rfl | exact gwf rfl | exact gwg rfl | exact gwh rfl | omega) (gg_f (gf_cons rfl (gf_cons rfl (gf_cons rfl (gf_cons rfl (gf_cons rfl gf_nil))))) (ih22 s71 z65 y22_3 z74 w22_32_4 w22_32_0 hI71 (fr_tr rfl (fr_sI rfl hFc22) hF71) (in_w 0 2147483647 j22_3 rfl) (in_w 0 32 i74 rfl) v22 v22a n22 n22a (m_up mm22 (t_add e74 i28 (in_c 1 rfl) rfl) (in_w 1 1 (in_c 1 rfl) rfl))))
  refine g_enter2 (k := 148) (N := 30601) (by first | exact dq1 hd rfl | exact dq0 hd rfl | exact dq2 hd rfl | exact dq3 hd rfl | omega) rfl (Nat.le_of_ble_eq_true rfl) ?_
  refine g_aload_n 1 (gd rfl) rfl rfl ?_
  refine g_callv (X := _) (As := []) (r := []) (b := A 32) (q := 32) 4 (gd rfl) rfl rfl rfl rfl rfl (ww_o rfl) (Nat.le_of_ble_eq_true rfl) (Nat.zero_le _) (Nat.zero_le _) (k_106_32 (by first | exact dq1 hd rfl | exact dq0 hd rfl | exact dq2 hd rfl | exact dq3 hd rfl | omega) hI ) (fun e u h => h) (fun v u h => ?_)
  obtain ⟨s1, hI1, hF1, n1, rfl, rfl⟩ := h
  obtain ⟨z1a, e1⟩ : ∃ w, w = s1.2.2.1 32 4 := ⟨_, rfl⟩
  have i1a := inv_F hI1 (-1) 4000 rfl e1
  obtain ⟨z1b, e1a⟩ : ∃ w, w = s1.2.2.1 32 0 := ⟨_, rfl⟩
  have i1b := inv_F hI1 0 4000 rfl e1a
  rw [← (show z1a = s1.2.2.1 32 4 from e1)] at n1
  rw [← (show z1b = s1.2.2.1 32 0 from e1a)] at n1
  show GG _ _ _ _ _ _ _ _ [] _ _ _
  refine g_aload_n 5 (gd rfl) rfl rfl ?_
  refine g_callv (X := _) (As := []) (r := []) (b := A 32) (q := 32) 8 (gd rfl) rfl rfl rfl rfl rfl (ww_o rfl) (Nat.le_of_ble_eq_true rfl) (mc := 0) (ms := 0) (Nat.zero_le _) (Nat.zero_le _) (P := fun v u => _) ?_ (fun e u h => h) (fun v u h => h)
  intro po5 xx5 hp5 hx5
  refine g_enter2 (k := 102) (N := 300) (by first | exact dq1 hd rfl | exact dq0 hd rfl | exact dq2 hd rfl | exact dq3 hd rfl | omega) rfl (Nat.le_of_ble_eq_true rfl) ?_
  refine g_aload_n 1 (gd rfl) rfl rfl ?_
  refine g_getI 4 (gd rfl) rfl rfl rfl (fun z5x1 e5x1 => ?_)
  have q5x1 : u_32_1 = z5x1 := (fr_F (e_32_1) hF1 rfl).trans e5x1.symm
  subst q5x1
  refine g_bipush 32 6 (gd rfl) rfl rfl ?_
  refine g_cmp_lt 9 13 (gd rfl) rfl rfl (fun c5x6 => ?_) (fun c5x6 => ?_)
  · skip
    have i5x6 := r_lt1 0 31 c5x6 ro_32_1 (in_c 32 rfl) rfl
    refine g_iconst 1 14 (gd rfl) rfl rfl ?_
    refine g_aload_n 15 (gd rfl) rfl rfl ?_
    refine g_getI 18 (gd rfl) rfl rfl rfl (fun z5x15 e5x15 => ?_)
    have q5x15 : u_32_1 = z5x15 := (fr_F (e_32_1) hF1 rfl).trans e5x15.symm
    subst q5x15
    refine g_ishl 19 (gd rfl) rfl (fun z5x18 e5x18 => ?_)
    refine g_iconst 1 20 (gd rfl) rfl rfl ?_
    refine g_isub 21 (gd rfl) rfl (fun z5x20 e5x20 => ?_)
    refine g_ireturn (gd rfl) rfl rfl (hp5 _ _ ?_)
    show GG _ _ _ _ _ _ _ _ [.int z5x20] _ _ _
    refine g_istore_n 9 (gd rfl) rfl (Nat.le_of_ble_eq_true rfl) ?_
    refine g_iconst 0 10 (gd rfl) rfl rfl ?_
    refine g_istore_n 11 (gd rfl) rfl (Nat.le_of_ble_eq_true rfl) ?_
    refine g_aload_n 12 (gd rfl) rfl rfl ?_
    refine g_aload_n 13 (gd rfl) rfl rfl ?_
    refine g_getA (q2 := 59) 16 (gd rfl) rfl rfl rfl rfl ?_
    refine g_callv (X := _) (As := [.ref (A 59)]) (r := []) (b := A 32) (q := 32) 19 (gd rfl) rfl rfl rfl rfl rfl (ww_o rfl) (Nat.le_of_ble_eq_true rfl) (Nat.zero_le _) (Nat.zero_le _) (k_99_32_59 (by first | exact dq1 hd rfl | exact dq0 hd rfl | exact dq2 hd rfl | exact dq3 hd rfl | omega) hI1 ) (fun e u h => h) (fun v u h => ?_)
    obtain ⟨s16, hI16, hF16, rfl, rfl⟩ := h
    show GG _ _ _ _ _ _ _ _ [] _ _ _
    refine g_iconst 0 20 (gd rfl) rfl rfl ?_
    refine g_istore 22 (gd rfl) rfl (Nat.le_of_ble_eq_true rfl) ?_
    have v22 : z1a = s16.2.2.1 32 4 := fr_F (e1) hF16 rfl
    have v22a : z1b = s16.2.2.1 32 0 := fr_F (e1a) hF16 rfl
    have n22 : (z1a).toInt = (z1b).toInt := by have a0 := i5x6; unfold In at a0; have a1 := (in_c 0 rfl); unfold In at a1; have a2 := i1b; unfold In at a2; have a3 := i1a; unfold In at a3; omega
    have n22a : (cb z5x20 : Int) = (u_32_1).toInt - ((Int32.ofInt 0)).toInt := by first | (have hcb := cb_m1; have a0 := i5x6; unfold In at a0; have a1 := (in_c 0 rfl); unfold In at a1; have a2 := i1b; unfold In at a2; have a3 := i1a; unfold In at a3; omega) | (have hcb := cb_all e5x18 e5x20 ‹_›; have a0 := i5x6; unfold In at a0; have a1 := (in_c 0 rfl); unfold In at a1; have a2 := i1b; unfold In at a2; have a3 := i1a; unfold In at a3; omega) | (have a0 := i5x6; unfold In at a0; have a1 := (in_c 0 rfl); unfold In at a1; have a2 := i1b; unfold In at a2; have a3 := i1a; unfold In at a3; omega)
    exact gg_w (by first | exact Nat.le_of_ble_eq_true rfl | omega) (gg_f (gf_cons rfl (gf_cons rfl (gf_cons rfl (gf_cons rfl (gf_cons rfl gf_nil))))) (ct22 33 s16 z5x20 (Int32.ofInt 0) (Int32.ofInt 0) z1a z1b hI16 (fr_tr rfl (fr_tr rfl fr_rf hF1) hF16) (in_w 0 2147483647 (in_c 0 rfl) rfl) (in_w 0 32 (in_c 0 rfl) rfl) v22 v22a n22 n22a (m_in 33 (in_w 0 32 (in_c 0 rfl) rfl) rfl)))
  · skip
    have i5x6 := r_le2 32 32 c5x6 (in_c 32 rfl) ro_32_1 rfl
    refine g_iconst (-1) 10 (gd rfl) rfl rfl ?_
    refine g_goto 21 (gd rfl) rfl ?_
    refine g_ireturn (gd rfl) rfl rfl (hp5 _ _ ?_)
    show GG _ _ _ _ _ _ _ _ [.int (Int32.ofInt (-1))] _ _ _
    refine g_istore_n 9 (gd rfl) rfl (Nat.le_of_ble_eq_true rfl) ?_
    refine g_iconst 0 10 (gd rfl) rfl rfl ?_
    refine g_istore_n 11 (gd rfl) rfl (Nat.le_of_ble_eq_true rfl) ?_
    refine g_aload_n 12 (gd rfl) rfl rfl ?_
    refine g_aload_n 13 (gd rfl) rfl rfl ?_
    refine g_getA (q2 := 59) 16 (gd rfl) rfl rfl rfl rfl ?_
    refine g_callv (X := _) (As := [.ref (A 59)]) (r := []) (b := A 32) (q := 32) 19 (gd rfl) rfl rfl rfl rfl rfl (ww_o rfl) (Nat.le_of_ble_eq_true rfl) (Nat.zero_le _) (Nat.zero_le _) (k_99_32_59 (by first | exact dq1 hd rfl | exact dq0 hd rfl | exact dq2 hd rfl | exact dq3 hd rfl | omega) hI1 ) (fun e u h => h) (fun v u h => ?_)
    obtain ⟨s16, hI16, hF16, rfl, rfl⟩ := h
    show GG _ _ _ _ _ _ _ _ [] _ _ _
    refine g_iconst 0 20 (gd rfl) rfl rfl ?_
    refine g_istore 22 (gd rfl) rfl (Nat.le_of_ble_eq_true rfl) ?_
    have v22 : z1a = s16.2.2.1 32 4 := fr_F (e1) hF16 rfl
    have v22a : z1b = s16.2.2.1 32 0 := fr_F (e1a) hF16 rfl
    have n22 : (z1a).toInt = (z1b).toInt := by have a0 := i5x6; unfold In at a0; have a1 := (in_c 0 rfl); unfold In at a1; have a2 := (in_c (-1) rfl); unfold In at a2; have a3 := i1b; unfold In at a3; have a4 := i1a; unfold In at a4; omega
    have n22a : (cb (Int32.ofInt (-1)) : Int) = (u_32_1).toInt - ((Int32.ofInt 0)).toInt := by first | (have hcb := cb_m1; have a0 := i5x6; unfold In at a0; have a1 := (in_c 0 rfl); unfold In at a1; have a2 := (in_c (-1) rfl); unfold In at a2; have a3 := i1b; unfold In at a3; have a4 := i1a; unfold In at a4; omega) | (have hcb := cb_all e5x18 e5x20 ‹_›; have a0 := i5x6; unfold In at a0; have a1 := (in_c 0 rfl); unfold In at a1; have a2 := (in_c (-1) rfl); unfold In at a2; have a3 := i1b; unfold In at a3; have a4 := i1a; unfold In at a4; omega) | (have a0 := i5x6; unfold In at a0; have a1 := (in_c 0 rfl); unfold In at a1; have a2 := (in_c (-1) rfl); unfold In at a2; have a3 := i1b; unfold In at a3; have a4 := i1a; unfold In at a4; omega)
    exact gg_w (by first | exact Nat.le_of_ble_eq_true rfl | omega) (gg_f (gf_cons rfl (gf_cons rfl (gf_cons rfl (gf_cons rfl (gf_cons rfl gf_nil))))) (ct22 33 s16 (Int32.ofInt (-1)) (Int32.ofInt 0) (Int32.ofInt 0) z1a z1b hI16 (fr_tr rfl (fr_tr rfl fr_rf hF1) hF16) (in_w 0 2147483647 (in_c 0 rfl) rfl) (in_w 0 32 (in_c 0 rfl) rfl) v22 v22a n22 n22a (m_in 33 (in_w 0 32 (in_c 0 rfl) rfl) rfl)))

def fm_155_46 : FM := ([], [], [(46, 6), (46, 7)], [])
/-- GraphHouse$Question.isGood -/
theorem k_155_46 {Z : AmZ} {A : Nat → Nat} {s : GS} {ex : va_W} {d : Nat} {X : AmX}  (hd : 4 ≤ d) (hI : Inv s)  : GC Z d 155 [.ref (A 46)] (WW Z A s ++ ex) 0 0 (fun v u => ∃ t : GS, Inv t ∧ Fr fm_155_46 s t ∧ ∃ z : Int32, v = some (.int z) ∧ u = WW Z A t ++ ex ∧ In z 0 1) X := by
  intro post xp hP hX
  obtain ⟨u_46_1, e_46_1⟩ : ∃ w, w = s.2.2.1 46 1 := ⟨_, rfl⟩
  have ro_46_1 := inv_F hI 0 1000 rfl e_46_1
  have ct108 : ∀ (sc108 : GS) (y108_1 : Int32) (y108_2 : Int32) (y108_3 : Int32), Inv sc108 → Fr fm_155_46 s sc108 → (In y108_1 0 0) → (In y108_2 0 1) → (In y108_3 0 2001) → GG Z (d - 1) 155 post (gx xp) (901) 108 (fun j => xlook j [(0, .ref (A 46)), (1, .int y108_1), (2, .int y108_2), (3, .int y108_3)]) [] (WW Z A sc108 ++ ex) 0 0 := by
    intro sc108 y108_1 y108_2 y108_3 hIc108 hFc108 j108_1 j108_2 j108_3
    refine g_iconst 1 109 (gd rfl) rfl rfl ?_
    refine g_goto 113 (gd rfl) rfl ?_
    exact g_ireturn (gd rfl) rfl (nb01 (in_w 0 1 (in_c 1 rfl) rfl)) (hP _ _ ⟨sc108, hIc108, hFc108, (Int32.ofInt 1), rfl, rfl, in_w 0 1 (in_c 1 rfl) rfl⟩)
  have ct6 : ∀ (k6 : Nat) (sc6 : GS) (y6_1 : Int32) (y6_2 : Int32) (y6_3 : Int32), Inv sc6 → Fr fm_155_46 s sc6 → (In y6_2 0 1) → (In y6_3 0 2001) → 2001 - (y6_3).toInt < (k6 : Int) → GG Z (d - 1) 155 post (gx xp) (902 + k6 * 3603) 6 (fun j => xlook j [(0, .ref (A 46)), (1, .int y6_1), (2, .int y6_2), (3, .int y6_3)]) [] (WW Z A sc6 ++ ex) 0 0 := by
    intro k6
    induction k6 with
    | zero => intro sc6 y6_1 y6_2 y6_3 hIc6 hFc6 j6_2 j6_3 mm6; exact m_no mm6 j6_3 rfl
    | succ k6 ih6 =>
      intro sc6 y6_1 y6_2 y6_3 hIc6 hFc6 j6_2 j6_3 mm6
      refine gg_w (M := 902 + k6 * 3603 + 3603) gws ?_
      have ct80 : ∀ (sc80 : GS) (y80_1 : Int32) (y80_4 : Int32) (y80_5 : Int32), Inv sc80 → Fr fm_155_46 s sc80 → (In y6_3 0 1000) → (In y80_4 41 122) → (In y80_5 (-1) (-1)) → GG Z (d - 1) 155 post (gx xp) (902 + k6 * 3603 + 901) 80 (fun j => xlook j [(0, .ref (A 46)), (1, .int y80_1), (2, .int y6_2), (3, .int y6_3), (4, .int y80_4), (5, .int y80_5)]) [] (WW Z A sc80 ++ ex) 0 0 := by
        intro sc80 y80_1 y80_4 y80_5 hIc80 hFc80 j80_3 j80_4 j80_5
        refine g_iconst 1 81 (gd rfl) rfl rfl ?_
        refine g_goto 85 (gd rfl) rfl ?_
        refine g_istore_n 86 (gd rfl) rfl (Nat.le_of_ble_eq_true rfl) ?_
        refine g_iinc 89 (gd rfl) rfl rfl (Nat.le_of_ble_eq_true rfl) (fun z86 e86 => ?_)
        have i86 := in_add 1 1001 e86 j80_3 (in_c 1 rfl) rfl rfl
        refine g_goto 6 (gd rfl) rfl ?_
        exact gg_w (by first | exact Nat.le_add_right _ _ | exact gw2 | exact gw3 | exact gwe rfl | exact gwf rfl | exact gwg rfl | exact gwh rfl | omega) (gg_f (gf_cons rfl (gf_cons rfl (gf_cons rfl (gf_cons rfl gf_nil)))) (ih6 sc80 y80_1 (Int32.ofInt 1) z86 hIc80 hFc80 (in_w 0 1 (in_c 1 rfl) rfl) (in_w 0 2001 i86 rfl) (m_up mm6 (t_add e86 j80_3 (in_c 1 rfl) rfl) (in_w 1 1 (in_c 1 rfl) rfl))))
      have ct65 : ∀ (sc65 : GS) (y65_1 : Int32) (y65_4 : Int32) (y65_5 : Int32), Inv sc65 → Fr fm_155_46 s sc65 → (In y6_3 0 1000) → (In y65_4 40 124) → (In y65_5 (-1) (-1)) → GG Z (d - 1) 155 post (gx xp) (902 + k6 * 3603 + 1802) 65 (fun j => xlook j [(0, .ref (A 46)), (1, .int y65_1), (2, .int y6_2), (3, .int y6_3), (4, .int y65_4), (5, .int y65_5)]) [] (WW Z A sc65 ++ ex) 0 0 := by
        intro sc65 y65_1 y65_4 y65_5 hIc65 hFc65 j65_3 j65_4 j65_5
        refine g_iload 67 (gd rfl) rfl rfl ?_
        refine g_bipush 41 69 (gd rfl) rfl rfl ?_
        refine g_cmp_eq 72 80 (gd rfl) rfl rfl (fun c69 => ?_) (fun c69 => ?_)
        · skip
          have i69 := r_eq1 41 41 c69 j65_4 (in_c 41 rfl) rfl
          exact gg_w (by first | exact Nat.le_add_right _ _ | exact gw2 | exact gw3 | exact gwe rfl | exact gwf rfl | exact gwg rfl | exact gwh rfl | omega) (gg_f (gf_cons rfl (gf_cons rfl (gf_cons rfl (gf_cons rfl (gf_cons rfl (gf_cons rfl gf_nil)))))) (ct80 sc65 y65_1 y65_4 y65_5 hIc65 hFc65 (in_w 0 1000 j65_3 rfl) (in_w 41 122 i69 rfl) (in_w (-1) (-1) j65_5 rfl)))
        · skip
          refine g_iload 74 (gd rfl) rfl rfl ?_
          refine g_calls (As := [.int y65_4]) (r := []) 77 (gd rfl) rfl rfl rfl rfl rfl (Nat.le_of_ble_eq_true rfl) (mc := 0) (ms := 0) (Nat.zero_le _) (Nat.zero_le _) (P := fun v u => _) ?_ (fun v u h => h)
          intro po74 xx74 hp74 hx74
          refine g_enter2 (k := 157) (N := 300) (by first | exact dq1 hd rfl | exact dq0 hd rfl | exact dq2 hd rfl | exact dq3 hd rfl | omega) rfl (Nat.le_of_ble_eq_true rfl) ?_
          refine g_iload_n 1 (gd rfl) rfl rfl ?_
          refine g_bipush 46 3 (gd rfl) rfl rfl ?_
          refine g_cmp_eq 6 18 (gd rfl) rfl rfl (fun c74x3 => ?_) (fun c74x3 => ?_)
          · skip
            have i74x3 := r_eq1 46 46 c74x3 j65_4 (in_c 46 rfl) rfl
            refine g_iconst 1 19 (gd rfl) rfl rfl ?_
            refine g_goto 23 (gd rfl) rfl ?_
            refine g_ireturn (gd rfl) rfl (nb01 (in_w 0 1 (in_c 1 rfl) rfl)) (hp74 _ _ ?_)
            show GG _ _ _ _ _ _ _ _ [.int (Int32.ofInt 1)] _ _ _
            refine g_if_eq 80 84 (gd rfl) rfl rfl (fun c77 => ?_) (fun c77 => ?_)
            · skip
              exact zn_eq c77 (in_c 1 rfl) rfl
            · skip
              exact gg_w (by first | exact Nat.le_add_right _ _ | exact gw2 | exact gw3 | exact gwe rfl | exact gwf rfl | exact gwg rfl | exact gwh rfl | omega) (gg_f (gf_cons rfl (gf_cons rfl (gf_cons rfl (gf_cons rfl (gf_cons rfl (gf_cons rfl gf_nil)))))) (ct80 sc65 y65_1 y65_4 y65_5 hIc65 hFc65 (in_w 0 1000 j65_3 rfl) (in_w 41 122 i74x3 rfl) (in_w (-1) (-1) j65_5 rfl)))
          · skip
            refine g_iload_n 7 (gd rfl) rfl rfl ?_
            refine g_bipush 97 9 (gd rfl) rfl rfl ?_
            refine g_cmp_lt 12 22 (gd rfl) rfl rfl (fun c74x9 => ?_) (fun c74x9 => ?_)
            · skip
              have i74x9 := r_lt1 40 96 c74x9 j65_4 (in_c 97 rfl) rfl
              refine g_iconst 0 23 (gd rfl) rfl rfl ?_
              refine g_ireturn (gd rfl) rfl (nb01 (in_w 0 1 (in_c 0 rfl) rfl)) (hp74 _ _ ?_)
              show GG _ _ _ _ _ _ _ _ [.int (Int32.ofInt 0)] _ _ _
              refine g_if_eq 80 84 (gd rfl) rfl rfl (fun c77 => ?_) (fun c77 => ?_)
              · skip
                refine g_iconst 0 85 (gd rfl) rfl rfl ?_
                refine g_istore_n 86 (gd rfl) rfl (Nat.le_of_ble_eq_true rfl) ?_
                refine g_iinc 89 (gd rfl) rfl rfl (Nat.le_of_ble_eq_true rfl) (fun z86 e86 => ?_)
                have i86 := in_add 1 1001 e86 j65_3 (in_c 1 rfl) rfl rfl
                refine g_goto 6 (gd rfl) rfl ?_
                exact gg_w (by first | exact Nat.le_add_right _ _ | exact gw2 | exact gw3 | exact gwe rfl | exact gwf rfl | exact gwg rfl | exact gwh rfl | omega) (gg_f (gf_cons rfl (gf_cons rfl (gf_cons rfl (gf_cons rfl gf_nil)))) (ih6 sc65 y65_1 (Int32.ofInt 0) z86 hIc65 hFc65 (in_w 0 1 (in_c 0 rfl) rfl) (in_w 0 2001 i86 rfl) (m_up mm6 (t_add e86 j65_3 (in_c 1 rfl) rfl) (in_w 1 1 (in_c 1 rfl) rfl))))
              · skip
                exact zn_ne c77 (in_c 0 rfl) rfl
            · skip
              have i74x9 := r_le2 97 124 c74x9 (in_c 97 rfl) j65_4 rfl
              refine g_iload_n 13 (gd rfl) rfl rfl ?_
              refine g_bipush 122 15 (gd rfl) rfl rfl ?_
              refine g_cmp_gt 18 22 (gd rfl) rfl rfl (fun c74x15 => ?_) (fun c74x15 => ?_)
              · skip
                have i74x15 := r_lt2 123 124 c74x15 (in_c 122 rfl) i74x9 rfl
                refine g_iconst 0 23 (gd rfl) rfl rfl ?_
                refine g_ireturn (gd rfl) rfl (nb01 (in_w 0 1 (in_c 0 rfl) rfl)) (hp74 _ _ ?_)
                show GG _ _ _ _ _ _ _ _ [.int (Int32.ofInt 0)] _ _ _
                refine g_if_eq 80 84 (gd rfl) rfl rfl (fun c77 => ?_) (fun c77 => ?_)
                · skip
                  refine g_iconst 0 85 (gd rfl) rfl rfl ?_
                  refine g_istore_n 86 (gd rfl) rfl (Nat.le_of_ble_eq_true rfl) ?_
                  refine g_iinc 89 (gd rfl) rfl rfl (Nat.le_of_ble_eq_true rfl) (fun z86 e86 => ?_)
                  have i86 := in_add 1 1001 e86 j65_3 (in_c 1 rfl) rfl rfl
                  refine g_goto 6 (gd rfl) rfl ?_
                  exact gg_w (by first | exact Nat.le_add_right _ _ | exact gw2 | exact gw3 | exact gwe rfl | exact gwf rfl | exact gwg rfl | exact gwh rfl | omega) (gg_f (gf_cons rfl (gf_cons rfl (gf_cons rfl (gf_cons rfl gf_nil)))) (ih6 sc65 y65_1 (Int32.ofInt 0) z86 hIc65 hFc65 (in_w 0 1 (in_c 0 rfl) rfl) (in_w 0 2001 i86 rfl) (m_up mm6 (t_add e86 j65_3 (in_c 1 rfl) rfl) (in_w 1 1 (in_c 1 rfl) rfl))))
                · skip
                  exact zn_ne c77 (in_c 0 rfl) rfl
              · skip
                have i74x15 := r_le1 97 122 c74x15 i74x9 (in_c 122 rfl) rfl
                refine g_iconst 1 19 (gd rfl) rfl rfl ?_
                refine g_goto 23 (gd rfl) rfl ?_
                refine g_ireturn (gd rfl) rfl (nb01 (in_w 0 1 (in_c 1 rfl) rfl)) (hp74 _ _ ?_)
                show GG _ _ _ _ _ _ _ _ [.int (Int32.ofInt 1)] _ _ _
                refine g_if_eq 80 84 (gd rfl) rfl rfl (fun c77 => ?_) (fun c77 => ?_)
                · skip
                  exact zn_eq c77 (in_c 1 rfl) rfl
                · skip
                  exact gg_w (by first | exact Nat.le_add_right _ _ | exact gw2 | exact gw3 | exact gwe rfl | exact gwf rfl | exact gwg rfl | exact gwh rfl | omega) (gg_f (gf_cons rfl (gf_cons rfl (gf_cons rfl (gf_cons rfl (gf_cons rfl (gf_cons rfl gf_nil)))))) (ct80 sc65 y65_1 y65_4 y65_5 hIc65 hFc65 (in_w 0 1000 j65_3 rfl) (in_w 41 122 i74x15 rfl) (in_w (-1) (-1) j65_5 rfl)))
      have ct55 : ∀ (sc55 : GS) (y55_1 : Int32) (y55_4 : Int32) (y55_5 : Int32), Inv sc55 → Fr fm_155_46 s sc55 → (In y6_3 0 1000) → (In y55_4 40 124) → (In y55_5 (-1) (-1)) → GG Z (d - 1) 155 post (gx xp) (902 + k6 * 3603 + 2703) 55 (fun j => xlook j [(0, .ref (A 46)), (1, .int y55_1), (2, .int y6_2), (3, .int y6_3), (4, .int y55_4), (5, .int y55_5)]) [] (WW Z A sc55 ++ ex) 0 0 := by
        intro sc55 y55_1 y55_4 y55_5 hIc55 hFc55 j55_3 j55_4 j55_5
        refine g_iload 57 (gd rfl) rfl rfl ?_
        refine g_bipush 41 59 (gd rfl) rfl rfl ?_
        refine g_cmp_ne 62 65 (gd rfl) rfl rfl (fun c59 => ?_) (fun c59 => ?_)
        · skip
          exact gg_w (by first | exact Nat.le_add_right _ _ | exact gw2 | exact gw3 | exact gwe rfl | exact gwf rfl | exact gwg rfl | exact gwh rfl | omega) (gg_f (gf_cons rfl (gf_cons rfl (gf_cons rfl (gf_cons rfl (gf_cons rfl (gf_cons rfl gf_nil)))))) (ct65 sc55 y55_1 y55_4 y55_5 hIc55 hFc55 (in_w 0 1000 j55_3 rfl) (in_w 40 124 j55_4 rfl) (in_w (-1) (-1) j55_5 rfl)))
        · skip
          have i59 := r_eq1 41 41 c59 j55_4 (in_c 41 rfl) rfl
          refine g_iinc 65 (gd rfl) rfl rfl (Nat.le_of_ble_eq_true rfl) (fun z62 e62 => ?_)
          exact gg_w (by first | exact Nat.le_add_right _ _ | exact gw2 | exact gw3 | exact gwe rfl | exact gwf rfl | exact gwg rfl | exact gwh rfl | omega) (gg_f (gf_cons rfl (gf_cons rfl (gf_cons rfl (gf_cons rfl (gf_cons rfl (gf_cons rfl gf_nil)))))) (ct65 sc55 z62 y55_4 y55_5 hIc55 hFc55 (in_w 0 1000 j55_3 rfl) (in_w 40 124 i59 rfl) (in_w (-1) (-1) j55_5 rfl)))
      refine g_iload_n 7 (gd rfl) rfl rfl ?_
      refine g_aload_n 8 (gd rfl) rfl rfl ?_
      refine g_getI 11 (gd rfl) rfl rfl rfl (fun z8 e8 => ?_)
      have q8 : u_46_1 = z8 := (fr_F e_46_1 hFc6 rfl).trans e8.symm
      subst q8
      refine g_cmp_ge 14 92 (gd rfl) rfl rfl (fun c11 => ?_) (fun c11 => ?_)
      · skip
        refine g_iload_n 93 (gd rfl) rfl rfl ?_
        refine g_if_eq 96 108 (gd rfl) rfl rfl (fun c93 => ?_) (fun c93 => ?_)
        · skip
          have i93 := z_eq 0 0 c93 (i_rng y6_1) rfl
          exact gg_w (by first | exact Nat.le_add_right _ _ | exact gw2 | exact gw3 | exact gwe rfl | exact gwf rfl | exact gwg rfl | exact gwh rfl | omega) (gg_f (gf_cons rfl (gf_cons rfl (gf_cons rfl (gf_cons rfl gf_nil)))) (ct108 sc6 y6_1 y6_2 y6_3 hIc6 hFc6 (in_w 0 0 i93 rfl) (in_w 0 1 j6_2 rfl) (in_w 0 2001 j6_3 rfl)))
        · skip
          refine g_aload_n 97 (gd rfl) rfl rfl ?_
          refine g_iconst 2 98 (gd rfl) rfl rfl ?_
          refine g_aload_n 99 (gd rfl) rfl rfl ?_
          refine g_getI 102 (gd rfl) rfl rfl rfl (fun z99 e99 => ?_)
          have q99 : u_46_1 = z99 := (fr_F e_46_1 hFc6 rfl).trans e99.symm
          subst q99
          refine g_callv (X := _) (As := [.int (Int32.ofInt 2), .int u_46_1]) (r := []) (b := A 46) (q := 46) 105 (gd rfl) rfl rfl rfl rfl rfl (ww_o rfl) (Nat.le_of_ble_eq_true rfl) (Nat.zero_le _) (Nat.zero_le _) (k_168_46 (by first | exact dq1 hd rfl | exact dq0 hd rfl | exact dq2 hd rfl | exact dq3 hd rfl | omega) hIc6 (in_w 1 5 (in_c 2 rfl) rfl) (in_w 0 1000 ro_46_1 rfl)) (fun e u h => h) (fun v u h => ?_)
          obtain ⟨s102, hI102, hF102, z102, rfl, rfl, i102⟩ := h
          show GG _ _ _ _ _ _ _ _ [.int z102] _ _ _
          refine g_if_eq 108 112 (gd rfl) rfl rfl (fun c105 => ?_) (fun c105 => ?_)
          · skip
            refine g_iconst 0 113 (gd rfl) rfl rfl ?_
            exact g_ireturn (gd rfl) rfl (nb01 (in_w 0 1 (in_c 0 rfl) rfl)) (hP _ _ ⟨s102, hI102, (fr_tr rfl hFc6 hF102), (Int32.ofInt 0), rfl, rfl, in_w 0 1 (in_c 0 rfl) rfl⟩)
          · skip
            exact zn_ne c105 i102 rfl
      · skip
        have i11 := r_lt1 0 999 c11 j6_3 ro_46_1 rfl
        have i11a := r_lt2 1 1000 c11 j6_3 ro_46_1 rfl
        refine g_aload_n 15 (gd rfl) rfl rfl ?_
        refine g_getA (q2 := 47) 18 (gd rfl) rfl rfl rfl rfl ?_
        refine g_iload_n 19 (gd rfl) rfl rfl ?_
        refine g_caload 20 (gd rfl) rfl (n := 1000) rfl (in_ix i11 rfl) (fun z19 e19 => ?_)
        have i19 := inv_I hIc6 (n := 1000) (t := 2) 0 65535 rfl (in_ix i11 rfl) rfl e19
        refine g_istore 22 (gd rfl) rfl (Nat.le_of_ble_eq_true rfl) ?_
        refine g_iload 24 (gd rfl) rfl rfl ?_
        refine g_iload_n 25 (gd rfl) rfl rfl ?_
        refine g_iload_n 26 (gd rfl) rfl rfl ?_
        refine g_calls (As := [.int z19, .int y6_2, .int y6_1]) (r := []) 29 (gd rfl) rfl rfl rfl rfl rfl (Nat.le_of_ble_eq_true rfl) (mc := 0) (ms := 0) (Nat.zero_le _) (Nat.zero_le _) (P := fun v u => _) ?_ (fun v u h => h)
        intro po26 xx26 hp26 hx26
        refine g_enter2 (k := 156) (N := 300) (by first | exact dq1 hd rfl | exact dq0 hd rfl | exact dq2 hd rfl | exact dq3 hd rfl | omega) rfl (Nat.le_of_ble_eq_true rfl) ?_
        refine g_iload_n 1 (gd rfl) rfl rfl ?_
        refine g_lsw [(40, 70), (41, 82), (42, 60), (43, 60), (63, 60), (124, 92)] 94 (gd rfl) rfl rfl rfl ⟨fun c26x1 => ?_, fun c26x1_0 => ⟨fun c26x1 => ?_, fun c26x1_1 => ⟨fun c26x1 => ?_, fun c26x1_2 => ⟨fun c26x1 => ?_, fun c26x1_3 => ⟨fun c26x1 => ?_, fun c26x1_4 => ⟨fun c26x1 => ?_, fun c26x1_5 => ?_⟩⟩⟩⟩⟩⟩
        · skip
          have i26x1 := sw_eq c26x1
          refine g_iload_n 71 (gd rfl) rfl rfl ?_
          refine g_bipush 10 73 (gd rfl) rfl rfl ?_
          refine g_cmp_ge 76 80 (gd rfl) rfl rfl (fun c26x73 => ?_) (fun c26x73 => ?_)
          · skip
            have i26x73 := r_le2 10 2147483647 c26x73 (in_c 10 rfl) (i_rng y6_1) rfl
            refine g_iconst 3 81 (gd rfl) rfl rfl ?_
            refine g_ireturn (gd rfl) rfl rfl (hp26 _ _ ?_)
            show GG _ _ _ _ _ _ _ _ [.int (Int32.ofInt 3)] _ _ _
            refine g_istore 31 (gd rfl) rfl (Nat.le_of_ble_eq_true rfl) ?_
            refine g_iload 33 (gd rfl) rfl rfl ?_
            refine g_iconst (-1) 34 (gd rfl) rfl rfl ?_
            refine g_cmp_eq 37 45 (gd rfl) rfl rfl (fun c34 => ?_) (fun c34 => ?_)
            · skip
              exact n_eq c34 (in_c 3 rfl) (in_c (-1) rfl) rfl
            · skip
              refine g_aload_n 38 (gd rfl) rfl rfl ?_
              refine g_iload 40 (gd rfl) rfl rfl ?_
              refine g_iload_n 41 (gd rfl) rfl rfl ?_
              refine g_callv (X := _) (As := [.int (Int32.ofInt 3), .int y6_3]) (r := []) (b := A 46) (q := 46) 44 (gd rfl) rfl rfl rfl rfl rfl (ww_o rfl) (Nat.le_of_ble_eq_true rfl) (Nat.zero_le _) (Nat.zero_le _) (k_168_46 (by first | exact dq1 hd rfl | exact dq0 hd rfl | exact dq2 hd rfl | exact dq3 hd rfl | omega) hIc6 (in_w 1 5 (in_c 3 rfl) rfl) (in_w 0 1000 i11 rfl)) (fun e u h => h) (fun v u h => ?_)
              obtain ⟨s41, hI41, hF41, z41, rfl, rfl, i41⟩ := h
              show GG _ _ _ _ _ _ _ _ [.int z41] _ _ _
              exact g_ireturn (gd rfl) rfl (nb01 (in_w 0 1 i41 rfl)) (hP _ _ ⟨s41, hI41, (fr_tr rfl hFc6 hF41), z41, rfl, rfl, in_w 0 1 i41 rfl⟩)
          · skip
            have i26x73 := r_lt1 (-2147483648) 9 c26x73 (i_rng y6_1) (in_c 10 rfl) rfl
            refine g_iconst (-1) 77 (gd rfl) rfl rfl ?_
            refine g_goto 81 (gd rfl) rfl ?_
            refine g_ireturn (gd rfl) rfl rfl (hp26 _ _ ?_)
            show GG _ _ _ _ _ _ _ _ [.int (Int32.ofInt (-1))] _ _ _
            refine g_istore 31 (gd rfl) rfl (Nat.le_of_ble_eq_true rfl) ?_
            refine g_iload 33 (gd rfl) rfl rfl ?_
            refine g_iconst (-1) 34 (gd rfl) rfl rfl ?_
            refine g_cmp_eq 37 45 (gd rfl) rfl rfl (fun c34 => ?_) (fun c34 => ?_)
            · skip
              refine g_iload 47 (gd rfl) rfl rfl ?_
              refine g_bipush 40 49 (gd rfl) rfl rfl ?_
              refine g_cmp_ne 52 55 (gd rfl) rfl rfl (fun c49 => ?_) (fun c49 => ?_)
              · skip
                exact n_ne c49 i26x1 (in_c 40 rfl) rfl
              · skip
                refine g_iinc 55 (gd rfl) rfl rfl (Nat.le_of_ble_eq_true rfl) (fun z52 e52 => ?_)
                have i52 := in_add (-2147483647) 10 e52 i26x73 (in_c 1 rfl) rfl rfl
                exact gg_w (by first | exact Nat.le_add_right _ _ | exact gw2 | exact gw3 | exact gwe rfl | exact gwf rfl | exact gwg rfl | exact gwh rfl | omega) (gg_f (gf_cons rfl (gf_cons rfl (gf_cons rfl (gf_cons rfl (gf_cons rfl (gf_cons rfl gf_nil)))))) (ct55 sc6 z52 z19 (Int32.ofInt (-1)) hIc6 hFc6 (in_w 0 1000 i11 rfl) (in_w 40 124 i26x1 rfl) (in_w (-1) (-1) (in_c (-1) rfl) rfl)))
            · skip
              exact n_ne c34 (in_c (-1) rfl) (in_c (-1) rfl) rfl
        · skip
          have i26x1 := sw_eq c26x1
          refine g_iload_n 83 (gd rfl) rfl rfl ?_
          refine g_if_le 86 90 (gd rfl) rfl rfl (fun c26x83 => ?_) (fun c26x83 => ?_)
          · skip
            have i26x83 := z_le (-2147483648) 0 c26x83 (i_rng y6_1) rfl
            refine g_iconst 2 91 (gd rfl) rfl rfl ?_
            refine g_ireturn (gd rfl) rfl rfl (hp26 _ _ ?_)
            show GG _ _ _ _ _ _ _ _ [.int (Int32.ofInt 2)] _ _ _
            refine g_istore 31 (gd rfl) rfl (Nat.le_of_ble_eq_true rfl) ?_
            refine g_iload 33 (gd rfl) rfl rfl ?_
            refine g_iconst (-1) 34 (gd rfl) rfl rfl ?_
            refine g_cmp_eq 37 45 (gd rfl) rfl rfl (fun c34 => ?_) (fun c34 => ?_)
            · skip
              exact n_eq c34 (in_c 2 rfl) (in_c (-1) rfl) rfl
            · skip
              refine g_aload_n 38 (gd rfl) rfl rfl ?_
              refine g_iload 40 (gd rfl) rfl rfl ?_
              refine g_iload_n 41 (gd rfl) rfl rfl ?_
              refine g_callv (X := _) (As := [.int (Int32.ofInt 2), .int y6_3]) (r := []) (b := A 46) (q := 46) 44 (gd rfl) rfl rfl rfl rfl rfl (ww_o rfl) (Nat.le_of_ble_eq_true rfl) (Nat.zero_le _) (Nat.zero_le _) (k_168_46 (by first | exact dq1 hd rfl | exact dq0 hd rfl | exact dq2 hd rfl | exact dq3 hd rfl | omega) hIc6 (in_w 1 5 (in_c 2 rfl) rfl) (in_w 0 1000 i11 rfl)) (fun e u h => h) (fun v u h => ?_)
              obtain ⟨s41, hI41, hF41, z41, rfl, rfl, i41⟩ := h
              show GG _ _ _ _ _ _ _ _ [.int z41] _ _ _
              exact g_ireturn (gd rfl) rfl (nb01 (in_w 0 1 i41 rfl)) (hP _ _ ⟨s41, hI41, (fr_tr rfl hFc6 hF41), z41, rfl, rfl, in_w 0 1 i41 rfl⟩)
          · skip
            have i26x83 := z_gt 1 2147483647 c26x83 (i_rng y6_1) rfl
            refine g_iconst (-1) 87 (gd rfl) rfl rfl ?_
            refine g_goto 91 (gd rfl) rfl ?_
            refine g_ireturn (gd rfl) rfl rfl (hp26 _ _ ?_)
            show GG _ _ _ _ _ _ _ _ [.int (Int32.ofInt (-1))] _ _ _
            refine g_istore 31 (gd rfl) rfl (Nat.le_of_ble_eq_true rfl) ?_
            refine g_iload 33 (gd rfl) rfl rfl ?_
            refine g_iconst (-1) 34 (gd rfl) rfl rfl ?_
            refine g_cmp_eq 37 45 (gd rfl) rfl rfl (fun c34 => ?_) (fun c34 => ?_)
            · skip
              refine g_iload 47 (gd rfl) rfl rfl ?_
              refine g_bipush 40 49 (gd rfl) rfl rfl ?_
              refine g_cmp_ne 52 55 (gd rfl) rfl rfl (fun c49 => ?_) (fun c49 => ?_)
              · skip
                exact gg_w (by first | exact Nat.le_add_right _ _ | exact gw2 | exact gw3 | exact gwe rfl | exact gwf rfl | exact gwg rfl | exact gwh rfl | omega) (gg_f (gf_cons rfl (gf_cons rfl (gf_cons rfl (gf_cons rfl (gf_cons rfl (gf_cons rfl gf_nil)))))) (ct55 sc6 y6_1 z19 (Int32.ofInt (-1)) hIc6 hFc6 (in_w 0 1000 i11 rfl) (in_w 40 124 i26x1 rfl) (in_w (-1) (-1) (in_c (-1) rfl) rfl)))
              · skip
                exact n_eq c49 i26x1 (in_c 40 rfl) rfl
            · skip
              exact n_ne c34 (in_c (-1) rfl) (in_c (-1) rfl) rfl
        · skip
          have i26x1 := sw_eq c26x1
          refine g_iload_n 61 (gd rfl) rfl rfl ?_
          refine g_if_eq 64 68 (gd rfl) rfl rfl (fun c26x61 => ?_) (fun c26x61 => ?_)
          · skip
            have i26x61 := z_eq 0 0 c26x61 j6_2 rfl
            refine g_iconst 2 69 (gd rfl) rfl rfl ?_
            refine g_ireturn (gd rfl) rfl rfl (hp26 _ _ ?_)
            show GG _ _ _ _ _ _ _ _ [.int (Int32.ofInt 2)] _ _ _
            refine g_istore 31 (gd rfl) rfl (Nat.le_of_ble_eq_true rfl) ?_
            refine g_iload 33 (gd rfl) rfl rfl ?_
            refine g_iconst (-1) 34 (gd rfl) rfl rfl ?_
            refine g_cmp_eq 37 45 (gd rfl) rfl rfl (fun c34 => ?_) (fun c34 => ?_)
            · skip
              exact n_eq c34 (in_c 2 rfl) (in_c (-1) rfl) rfl
            · skip
              refine g_aload_n 38 (gd rfl) rfl rfl ?_
              refine g_iload 40 (gd rfl) rfl rfl ?_
              refine g_iload_n 41 (gd rfl) rfl rfl ?_
              refine g_callv (X := _) (As := [.int (Int32.ofInt 2), .int y6_3]) (r := []) (b := A 46) (q := 46) 44 (gd rfl) rfl rfl rfl rfl rfl (ww_o rfl) (Nat.le_of_ble_eq_true rfl) (Nat.zero_le _) (Nat.zero_le _) (k_168_46 (by first | exact dq1 hd rfl | exact dq0 hd rfl | exact dq2 hd rfl | exact dq3 hd rfl | omega) hIc6 (in_w 1 5 (in_c 2 rfl) rfl) (in_w 0 1000 i11 rfl)) (fun e u h => h) (fun v u h => ?_)
              obtain ⟨s41, hI41, hF41, z41, rfl, rfl, i41⟩ := h
              show GG _ _ _ _ _ _ _ _ [.int z41] _ _ _
              exact g_ireturn (gd rfl) rfl (nb01 (in_w 0 1 i41 rfl)) (hP _ _ ⟨s41, hI41, (fr_tr rfl hFc6 hF41), z41, rfl, rfl, in_w 0 1 i41 rfl⟩)
          · skip
            have i26x61 := z_ne 1 1 c26x61 j6_2 rfl
            refine g_iconst (-1) 65 (gd rfl) rfl rfl ?_
            refine g_goto 69 (gd rfl) rfl ?_
            refine g_ireturn (gd rfl) rfl rfl (hp26 _ _ ?_)
            show GG _ _ _ _ _ _ _ _ [.int (Int32.ofInt (-1))] _ _ _
            refine g_istore 31 (gd rfl) rfl (Nat.le_of_ble_eq_true rfl) ?_
            refine g_iload 33 (gd rfl) rfl rfl ?_
            refine g_iconst (-1) 34 (gd rfl) rfl rfl ?_
            refine g_cmp_eq 37 45 (gd rfl) rfl rfl (fun c34 => ?_) (fun c34 => ?_)
            · skip
              refine g_iload 47 (gd rfl) rfl rfl ?_
              refine g_bipush 40 49 (gd rfl) rfl rfl ?_
              refine g_cmp_ne 52 55 (gd rfl) rfl rfl (fun c49 => ?_) (fun c49 => ?_)
              · skip
                exact gg_w (by first | exact Nat.le_add_right _ _ | exact gw2 | exact gw3 | exact gwe rfl | exact gwf rfl | exact gwg rfl | exact gwh rfl | omega) (gg_f (gf_cons rfl (gf_cons rfl (gf_cons rfl (gf_cons rfl (gf_cons rfl (gf_cons rfl gf_nil)))))) (ct55 sc6 y6_1 z19 (Int32.ofInt (-1)) hIc6 hFc6 (in_w 0 1000 i11 rfl) (in_w 40 124 i26x1 rfl) (in_w (-1) (-1) (in_c (-1) rfl) rfl)))
              · skip
                exact n_eq c49 i26x1 (in_c 40 rfl) rfl
            · skip
              exact n_ne c34 (in_c (-1) rfl) (in_c (-1) rfl) rfl
        · skip
          have i26x1 := sw_eq c26x1
          refine g_iload_n 61 (gd rfl) rfl rfl ?_
          refine g_if_eq 64 68 (gd rfl) rfl rfl (fun c26x61 => ?_) (fun c26x61 => ?_)
          · skip
            have i26x61 := z_eq 0 0 c26x61 j6_2 rfl
            refine g_iconst 2 69 (gd rfl) rfl rfl ?_
            refine g_ireturn (gd rfl) rfl rfl (hp26 _ _ ?_)
            show GG _ _ _ _ _ _ _ _ [.int (Int32.ofInt 2)] _ _ _
            refine g_istore 31 (gd rfl) rfl (Nat.le_of_ble_eq_true rfl) ?_
            refine g_iload 33 (gd rfl) rfl rfl ?_
            refine g_iconst (-1) 34 (gd rfl) rfl rfl ?_
            refine g_cmp_eq 37 45 (gd rfl) rfl rfl (fun c34 => ?_) (fun c34 => ?_)
            · skip
              exact n_eq c34 (in_c 2 rfl) (in_c (-1) rfl) rfl
            · skip
              refine g_aload_n 38 (gd rfl) rfl rfl ?_
              refine g_iload 40 (gd rfl) rfl rfl ?_
              refine g_iload_n 41 (gd rfl) rfl rfl ?_
              refine g_callv (X := _) (As := [.int (Int32.ofInt 2), .int y6_3]) (r := []) (b := A 46) (q := 46) 44 (gd rfl) rfl rfl rfl rfl rfl (ww_o rfl) (Nat.le_of_ble_eq_true rfl) (Nat.zero_le _) (Nat.zero_le _) (k_168_46 (by first | exact dq1 hd rfl | exact dq0 hd rfl | exact dq2 hd rfl | exact dq3 hd rfl | omega) hIc6 (in_w 1 5 (in_c 2 rfl) rfl) (in_w 0 1000 i11 rfl)) (fun e u h => h) (fun v u h => ?_)
              obtain ⟨s41, hI41, hF41, z41, rfl, rfl, i41⟩ := h
              show GG _ _ _ _ _ _ _ _ [.int z41] _ _ _
              exact g_ireturn (gd rfl) rfl (nb01 (in_w 0 1 i41 rfl)) (hP _ _ ⟨s41, hI41, (fr_tr rfl hFc6 hF41), z41, rfl, rfl, in_w 0 1 i41 rfl⟩)
          · skip
            have i26x61 := z_ne 1 1 c26x61 j6_2 rfl
            refine g_iconst (-1) 65 (gd rfl) rfl rfl ?_
            refine g_goto 69 (gd rfl) rfl ?_
            refine g_ireturn (gd rfl) rfl rfl (hp26 _ _ ?_)
            show GG _ _ _ _ _ _ _ _ [.int (Int32.ofInt (-1))] _ _ _
            refine g_istore 31 (gd rfl) rfl (Nat.le_of_ble_eq_true rfl) ?_
            refine g_iload 33 (gd rfl) rfl rfl ?_
            refine g_iconst (-1) 34 (gd rfl) rfl rfl ?_
            refine g_cmp_eq 37 45 (gd rfl) rfl rfl (fun c34 => ?_) (fun c34 => ?_)
            · skip
              refine g_iload 47 (gd rfl) rfl rfl ?_
              refine g_bipush 40 49 (gd rfl) rfl rfl ?_
              refine g_cmp_ne 52 55 (gd rfl) rfl rfl (fun c49 => ?_) (fun c49 => ?_)
              · skip
                exact gg_w (by first | exact Nat.le_add_right _ _ | exact gw2 | exact gw3 | exact gwe rfl | exact gwf rfl | exact gwg rfl | exact gwh rfl | omega) (gg_f (gf_cons rfl (gf_cons rfl (gf_cons rfl (gf_cons rfl (gf_cons rfl (gf_cons rfl gf_nil)))))) (ct55 sc6 y6_1 z19 (Int32.ofInt (-1)) hIc6 hFc6 (in_w 0 1000 i11 rfl) (in_w 40 124 i26x1 rfl) (in_w (-1) (-1) (in_c (-1) rfl) rfl)))
              · skip
                exact n_eq c49 i26x1 (in_c 40 rfl) rfl
            · skip
              exact n_ne c34 (in_c (-1) rfl) (in_c (-1) rfl) rfl
        · skip
          have i26x1 := sw_eq c26x1
          refine g_iload_n 61 (gd rfl) rfl rfl ?_
          refine g_if_eq 64 68 (gd rfl) rfl rfl (fun c26x61 => ?_) (fun c26x61 => ?_)
          · skip
            have i26x61 := z_eq 0 0 c26x61 j6_2 rfl
            refine g_iconst 2 69 (gd rfl) rfl rfl ?_
            refine g_ireturn (gd rfl) rfl rfl (hp26 _ _ ?_)
            show GG _ _ _ _ _ _ _ _ [.int (Int32.ofInt 2)] _ _ _
            refine g_istore 31 (gd rfl) rfl (Nat.le_of_ble_eq_true rfl) ?_
            refine g_iload 33 (gd rfl) rfl rfl ?_
            refine g_iconst (-1) 34 (gd rfl) rfl rfl ?_
            refine g_cmp_eq 37 45 (gd rfl) rfl rfl (fun c34 => ?_) (fun c34 => ?_)
            · skip
              exact n_eq c34 (in_c 2 rfl) (in_c (-1) rfl) rfl
            · skip
              refine g_aload_n 38 (gd rfl) rfl rfl ?_
              refine g_iload 40 (gd rfl) rfl rfl ?_
              refine g_iload_n 41 (gd rfl) rfl rfl ?_
              refine g_callv (X := _) (As := [.int (Int32.ofInt 2), .int y6_3]) (r := []) (b := A 46) (q := 46) 44 (gd rfl) rfl rfl rfl rfl rfl (ww_o rfl) (Nat.le_of_ble_eq_true rfl) (Nat.zero_le _) (Nat.zero_le _) (k_168_46 (by first | exact dq1 hd rfl | exact dq0 hd rfl | exact dq2 hd rfl | exact dq3 hd rfl | omega) hIc6 (in_w 1 5 (in_c 2 rfl) rfl) (in_w 0 1000 i11 rfl)) (fun e u h => h) (fun v u h => ?_)
              obtain ⟨s41, hI41, hF41, z41, rfl, rfl, i41⟩ := h
              show GG _ _ _ _ _ _ _ _ [.int z41] _ _ _
              exact g_ireturn (gd rfl) rfl (nb01 (in_w 0 1 i41 rfl)) (hP _ _ ⟨s41, hI41, (fr_tr rfl hFc6 hF41), z41, rfl, rfl, in_w 0 1 i41 rfl⟩)
          · skip
            have i26x61 := z_ne 1 1 c26x61 j6_2 rfl
            refine g_iconst (-1) 65 (gd rfl) rfl rfl ?_
            refine g_goto 69 (gd rfl) rfl ?_
            refine g_ireturn (gd rfl) rfl rfl (hp26 _ _ ?_)
            show GG _ _ _ _ _ _ _ _ [.int (Int32.ofInt (-1))] _ _ _
            refine g_istore 31 (gd rfl) rfl (Nat.le_of_ble_eq_true rfl) ?_
            refine g_iload 33 (gd rfl) rfl rfl ?_
            refine g_iconst (-1) 34 (gd rfl) rfl rfl ?_
            refine g_cmp_eq 37 45 (gd rfl) rfl rfl (fun c34 => ?_) (fun c34 => ?_)
            · skip
              refine g_iload 47 (gd rfl) rfl rfl ?_
              refine g_bipush 40 49 (gd rfl) rfl rfl ?_
              refine g_cmp_ne 52 55 (gd rfl) rfl rfl (fun c49 => ?_) (fun c49 => ?_)
              · skip
                exact gg_w (by first | exact Nat.le_add_right _ _ | exact gw2 | exact gw3 | exact gwe rfl | exact gwf rfl | exact gwg rfl | exact gwh rfl | omega) (gg_f (gf_cons rfl (gf_cons rfl (gf_cons rfl (gf_cons rfl (gf_cons rfl (gf_cons rfl gf_nil)))))) (ct55 sc6 y6_1 z19 (Int32.ofInt (-1)) hIc6 hFc6 (in_w 0 1000 i11 rfl) (in_w 40 124 i26x1 rfl) (in_w (-1) (-1) (in_c (-1) rfl) rfl)))
              · skip
                exact n_eq c49 i26x1 (in_c 40 rfl) rfl
            · skip
              exact n_ne c34 (in_c (-1) rfl) (in_c (-1) rfl) rfl
        · skip
          have i26x1 := sw_eq c26x1
          refine g_iconst (-1) 93 (gd rfl) rfl rfl ?_
          refine g_ireturn (gd rfl) rfl rfl (hp26 _ _ ?_)
          show GG _ _ _ _ _ _ _ _ [.int (Int32.ofInt (-1))] _ _ _
          refine g_istore 31 (gd rfl) rfl (Nat.le_of_ble_eq_true rfl) ?_
          refine g_iload 33 (gd rfl) rfl rfl ?_
          refine g_iconst (-1) 34 (gd rfl) rfl rfl ?_
          refine g_cmp_eq 37 45 (gd rfl) rfl rfl (fun c34 => ?_) (fun c34 => ?_)
          · skip
            refine g_iload 47 (gd rfl) rfl rfl ?_
            refine g_bipush 40 49 (gd rfl) rfl rfl ?_
            refine g_cmp_ne 52 55 (gd rfl) rfl rfl (fun c49 => ?_) (fun c49 => ?_)
            · skip
              exact gg_w (by first | exact Nat.le_add_right _ _ | exact gw2 | exact gw3 | exact gwe rfl | exact gwf rfl | exact gwg rfl | exact gwh rfl | omega) (gg_f (gf_cons rfl (gf_cons rfl (gf_cons rfl (gf_cons rfl (gf_cons rfl (gf_cons rfl gf_nil)))))) (ct55 sc6 y6_1 z19 (Int32.ofInt (-1)) hIc6 hFc6 (in_w 0 1000 i11 rfl) (in_w 40 124 i26x1 rfl) (in_w (-1) (-1) (in_c (-1) rfl) rfl)))
            · skip
              exact n_eq c49 i26x1 (in_c 40 rfl) rfl
          · skip
            exact n_ne c34 (in_c (-1) rfl) (in_c (-1) rfl) rfl
        · skip
          refine g_iload_n 95 (gd rfl) rfl rfl ?_
          refine g_calls (As := [.int z19]) (r := []) 98 (gd rfl) rfl rfl rfl rfl rfl (Nat.le_of_ble_eq_true rfl) (mc := 0) (ms := 0) (Nat.zero_le _) (Nat.zero_le _) (P := fun v u => _) ?_ (fun v u h => h)
          intro po26x95 xx26x95 hp26x95 hx26x95
          refine g_enter2 (k := 157) (N := 300) (by first | exact dq1 hd rfl | exact dq0 hd rfl | exact dq2 hd rfl | exact dq3 hd rfl | omega) rfl (Nat.le_of_ble_eq_true rfl) ?_
          refine g_iload_n 1 (gd rfl) rfl rfl ?_
          refine g_bipush 46 3 (gd rfl) rfl rfl ?_
          refine g_cmp_eq 6 18 (gd rfl) rfl rfl (fun c26x95x3 => ?_) (fun c26x95x3 => ?_)
          · skip
            have i26x95x3 := r_eq1 46 46 c26x95x3 i19 (in_c 46 rfl) rfl
            refine g_iconst 1 19 (gd rfl) rfl rfl ?_
            refine g_goto 23 (gd rfl) rfl ?_
            refine g_ireturn (gd rfl) rfl (nb01 (in_w 0 1 (in_c 1 rfl) rfl)) (hp26x95 _ _ ?_)
            show GG _ _ _ _ _ _ _ _ [.int (Int32.ofInt 1)] _ _ _
            refine g_if_eq 101 105 (gd rfl) rfl rfl (fun c26x98 => ?_) (fun c26x98 => ?_)
            · skip
              exact zn_eq c26x98 (in_c 1 rfl) rfl
            · skip
              refine g_iconst (-1) 102 (gd rfl) rfl rfl ?_
              refine g_goto 106 (gd rfl) rfl ?_
              refine g_ireturn (gd rfl) rfl rfl (hp26 _ _ ?_)
              show GG _ _ _ _ _ _ _ _ [.int (Int32.ofInt (-1))] _ _ _
              refine g_istore 31 (gd rfl) rfl (Nat.le_of_ble_eq_true rfl) ?_
              refine g_iload 33 (gd rfl) rfl rfl ?_
              refine g_iconst (-1) 34 (gd rfl) rfl rfl ?_
              refine g_cmp_eq 37 45 (gd rfl) rfl rfl (fun c34 => ?_) (fun c34 => ?_)
              · skip
                refine g_iload 47 (gd rfl) rfl rfl ?_
                refine g_bipush 40 49 (gd rfl) rfl rfl ?_
                refine g_cmp_ne 52 55 (gd rfl) rfl rfl (fun c49 => ?_) (fun c49 => ?_)
                · skip
                  exact gg_w (by first | exact Nat.le_add_right _ _ | exact gw2 | exact gw3 | exact gwe rfl | exact gwf rfl | exact gwg rfl | exact gwh rfl | omega) (gg_f (gf_cons rfl (gf_cons rfl (gf_cons rfl (gf_cons rfl (gf_cons rfl (gf_cons rfl gf_nil)))))) (ct55 sc6 y6_1 z19 (Int32.ofInt (-1)) hIc6 hFc6 (in_w 0 1000 i11 rfl) (in_w 40 124 i26x95x3 rfl) (in_w (-1) (-1) (in_c (-1) rfl) rfl)))
                · skip
                  exact n_eq c49 i26x95x3 (in_c 40 rfl) rfl
              · skip
                exact n_ne c34 (in_c (-1) rfl) (in_c (-1) rfl) rfl
          · skip
            refine g_iload_n 7 (gd rfl) rfl rfl ?_
            refine g_bipush 97 9 (gd rfl) rfl rfl ?_
            refine g_cmp_lt 12 22 (gd rfl) rfl rfl (fun c26x95x9 => ?_) (fun c26x95x9 => ?_)
            · skip
              have i26x95x9 := r_lt1 0 96 c26x95x9 i19 (in_c 97 rfl) rfl
              refine g_iconst 0 23 (gd rfl) rfl rfl ?_
              refine g_ireturn (gd rfl) rfl (nb01 (in_w 0 1 (in_c 0 rfl) rfl)) (hp26x95 _ _ ?_)
              show GG _ _ _ _ _ _ _ _ [.int (Int32.ofInt 0)] _ _ _
              refine g_if_eq 101 105 (gd rfl) rfl rfl (fun c26x98 => ?_) (fun c26x98 => ?_)
              · skip
                refine g_iconst 1 106 (gd rfl) rfl rfl ?_
                refine g_ireturn (gd rfl) rfl rfl (hp26 _ _ ?_)
                show GG _ _ _ _ _ _ _ _ [.int (Int32.ofInt 1)] _ _ _
                refine g_istore 31 (gd rfl) rfl (Nat.le_of_ble_eq_true rfl) ?_
                refine g_iload 33 (gd rfl) rfl rfl ?_
                refine g_iconst (-1) 34 (gd rfl) rfl rfl ?_
                refine g_cmp_eq 37 45 (gd rfl) rfl rfl (fun c34 => ?_) (fun c34 => ?_)
                · skip
                  exact n_eq c34 (in_c 1 rfl) (in_c (-1) rfl) rfl
                · skip
                  refine g_aload_n 38 (gd rfl) rfl rfl ?_
                  refine g_iload 40 (gd rfl) rfl rfl ?_
                  refine g_iload_n 41 (gd rfl) rfl rfl ?_
                  refine g_callv (X := _) (As := [.int (Int32.ofInt 1), .int y6_3]) (r := []) (b := A 46) (q := 46) 44 (gd rfl) rfl rfl rfl rfl rfl (ww_o rfl) (Nat.le_of_ble_eq_true rfl) (Nat.zero_le _) (Nat.zero_le _) (k_168_46 (by first | exact dq1 hd rfl | exact dq0 hd rfl | exact dq2 hd rfl | exact dq3 hd rfl | omega) hIc6 (in_w 1 5 (in_c 1 rfl) rfl) (in_w 0 1000 i11 rfl)) (fun e u h => h) (fun v u h => ?_)
                  obtain ⟨s41, hI41, hF41, z41, rfl, rfl, i41⟩ := h
                  show GG _ _ _ _ _ _ _ _ [.int z41] _ _ _
                  exact g_ireturn (gd rfl) rfl (nb01 (in_w 0 1 i41 rfl)) (hP _ _ ⟨s41, hI41, (fr_tr rfl hFc6 hF41), z41, rfl, rfl, in_w 0 1 i41 rfl⟩)
              · skip
                exact zn_ne c26x98 (in_c 0 rfl) rfl
            · skip
              have i26x95x9 := r_le2 97 65535 c26x95x9 (in_c 97 rfl) i19 rfl
              refine g_iload_n 13 (gd rfl) rfl rfl ?_
              refine g_bipush 122 15 (gd rfl) rfl rfl ?_
              refine g_cmp_gt 18 22 (gd rfl) rfl rfl (fun c26x95x15 => ?_) (fun c26x95x15 => ?_)
              · skip
                have i26x95x15 := r_lt2 123 65535 c26x95x15 (in_c 122 rfl) i26x95x9 rfl
                refine g_iconst 0 23 (gd rfl) rfl rfl ?_
                refine g_ireturn (gd rfl) rfl (nb01 (in_w 0 1 (in_c 0 rfl) rfl)) (hp26x95 _ _ ?_)
                show GG _ _ _ _ _ _ _ _ [.int (Int32.ofInt 0)] _ _ _
                refine g_if_eq 101 105 (gd rfl) rfl rfl (fun c26x98 => ?_) (fun c26x98 => ?_)
                · skip
                  refine g_iconst 1 106 (gd rfl) rfl rfl ?_
                  refine g_ireturn (gd rfl) rfl rfl (hp26 _ _ ?_)
                  show GG _ _ _ _ _ _ _ _ [.int (Int32.ofInt 1)] _ _ _
                  refine g_istore 31 (gd rfl) rfl (Nat.le_of_ble_eq_true rfl) ?_
                  refine g_iload 33 (gd rfl) rfl rfl ?_
                  refine g_iconst (-1) 34 (gd rfl) rfl rfl ?_
                  refine g_cmp_eq 37 45 (gd rfl) rfl rfl (fun c34 => ?_) (fun c34 => ?_)
                  · skip
                    exact n_eq c34 (in_c 1 rfl) (in_c (-1) rfl) rfl
                  · skip
                    refine g_aload_n 38 (gd rfl) rfl rfl ?_
                    refine g_iload 40 (gd rfl) rfl rfl ?_
                    refine g_iload_n 41 (gd rfl) rfl rfl ?_
                    refine g_callv (X := _) (As := [.int (Int32.ofInt 1), .int y6_3]) (r := []) (b := A 46) (q := 46) 44 (gd rfl) rfl rfl rfl rfl rfl (ww_o rfl) (Nat.le_of_ble_eq_true rfl) (Nat.zero_le _) (Nat.zero_le _) (k_168_46 (by first | exact dq1 hd rfl | exact dq0 hd rfl | exact dq2 hd rfl | exact dq3 hd rfl | omega) hIc6 (in_w 1 5 (in_c 1 rfl) rfl) (in_w 0 1000 i11 rfl)) (fun e u h => h) (fun v u h => ?_)
                    obtain ⟨s41, hI41, hF41, z41, rfl, rfl, i41⟩ := h
                    show GG _ _ _ _ _ _ _ _ [.int z41] _ _ _
                    exact g_ireturn (gd rfl) rfl (nb01 (in_w 0 1 i41 rfl)) (hP _ _ ⟨s41, hI41, (fr_tr rfl hFc6 hF41), z41, rfl, rfl, in_w 0 1 i41 rfl⟩)
                · skip
                  exact zn_ne c26x98 (in_c 0 rfl) rfl
              · skip
                have i26x95x15 := r_le1 97 122 c26x95x15 i26x95x9 (in_c 122 rfl) rfl
                refine g_iconst 1 19 (gd rfl) rfl rfl ?_
                refine g_goto 23 (gd rfl) rfl ?_
                refine g_ireturn (gd rfl) rfl (nb01 (in_w 0 1 (in_c 1 rfl) rfl)) (hp26x95 _ _ ?_)
                show GG _ _ _ _ _ _ _ _ [.int (Int32.ofInt 1)] _ _ _
                refine g_if_eq 101 105 (gd rfl) rfl rfl (fun c26x98 => ?_) (fun c26x98 => ?_)
                · skip
                  exact zn_eq c26x98 (in_c 1 rfl) rfl
                · skip
                  refine g_iconst (-1) 102 (gd rfl) rfl rfl ?_
                  refine g_goto 106 (gd rfl) rfl ?_
                  refine g_ireturn (gd rfl) rfl rfl (hp26 _ _ ?_)
                  show GG _ _ _ _ _ _ _ _ [.int (Int32.ofInt (-1))] _ _ _
                  refine g_istore 31 (gd rfl) rfl (Nat.le_of_ble_eq_true rfl) ?_
                  refine g_iload 33 (gd rfl) rfl rfl ?_
                  refine g_iconst (-1) 34 (gd rfl) rfl rfl ?_
                  refine g_cmp_eq 37 45 (gd rfl) rfl rfl (fun c34 => ?_) (fun c34 => ?_)
                  · skip
                    refine g_iload 47 (gd rfl) rfl rfl ?_
                    refine g_bipush 40 49 (gd rfl) rfl rfl ?_
                    refine g_cmp_ne 52 55 (gd rfl) rfl rfl (fun c49 => ?_) (fun c49 => ?_)
                    · skip
                      exact gg_w (by first | exact Nat.le_add_right _ _ | exact gw2 | exact gw3 | exact gwe rfl | exact gwf rfl | exact gwg rfl | exact gwh rfl | omega) (gg_f (gf_cons rfl (gf_cons rfl (gf_cons rfl (gf_cons rfl (gf_cons rfl (gf_cons rfl gf_nil)))))) (ct55 sc6 y6_1 z19 (Int32.ofInt (-1)) hIc6 hFc6 (in_w 0 1000 i11 rfl) (in_w 40 124 i26x95x15 rfl) (in_w (-1) (-1) (in_c (-1) rfl) rfl)))
                    · skip
                      exact n_eq c49 i26x95x15 (in_c 40 rfl) rfl
                  · skip
                    exact n_ne c34 (in_c (-1) rfl) (in_c (-1) rfl) rfl
  refine g_enter2 (k := 155) (N := 7215008) (by first | exact dq1 hd rfl | exact dq0 hd rfl | exact dq2 hd rfl | exact dq3 hd rfl | omega) rfl (Nat.le_of_ble_eq_true rfl) ?_
  refine g_iconst 0 1 (gd rfl) rfl rfl ?_
  refine g_istore_n 2 (gd rfl) rfl (Nat.le_of_ble_eq_true rfl) ?_
  refine g_iconst 0 3 (gd rfl) rfl rfl ?_
  refine g_istore_n 4 (gd rfl) rfl (Nat.le_of_ble_eq_true rfl) ?_
  refine g_iconst 0 5 (gd rfl) rfl rfl ?_
  refine g_istore_n 6 (gd rfl) rfl (Nat.le_of_ble_eq_true rfl) ?_
  exact gg_w (by first | exact Nat.le_of_ble_eq_true rfl | omega) (gg_f (gf_cons rfl (gf_cons rfl (gf_cons rfl (gf_cons rfl gf_nil)))) (ct6 2002 s (Int32.ofInt 0) (Int32.ofInt 0) (Int32.ofInt 0) hI fr_rf (in_w 0 1 (in_c 0 rfl) rfl) (in_w 0 2001 (in_c 0 rfl) rfl) (m_in 2002 (in_w 0 2001 (in_c 0 rfl) rfl) rfl)))
