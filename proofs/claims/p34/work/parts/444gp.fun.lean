/-! FUNCTIONAL CONTRACTS, by fgen.py -/
theorem oc_88_65 : (Int32.ofInt (-1)).toInt = (-1) ∧ (Int32.ofInt 0).toInt = 0 ∧ (Int32.ofInt 1).toInt = 1 ∧ (Int32.ofInt 32).toInt = 32 := ⟨rfl, rfl, rfl, rfl⟩
set_option maxHeartbeats 2000000 in
/-- GraphHouse$Flows.carryTo -/
theorem f_88_65 {Z : AmZ} {A : Nat → Nat} {s : GS} {ex : va_W} {d : Nat} {X : AmX} {x1 : Int32} (hd : 3 ≤ d) (hI : Inv s) (h1 : In x1 0 31) : GC Z d 88 [.ref (A 65), .int x1] (WW Z A s ++ ex) 0 0 (fun v u => ∃ t : GS, Inv t ∧ Fr fm_88_65 s t ∧ ∃ z : Int64, v = some (.long z) ∧ u = WW Z A t ++ ex ∧ (∀ (σ : Int) (n : Nat) (r : Nat → Nat), CTP σ n r s (x1).toNatClampNeg → CTO σ n s t (x1).toNatClampNeg (z).toInt)) X := by
  intro post xp hP hX
  have ct158 : ∀ (k158 : Nat) (sc158 : GS) (y158_2 : Int32) (y158_3 : Int32) (y158_4 : Int32), Inv sc158 → Fr fm_88_65 s sc158 → (In y158_3 0 31) → (In y158_4 0 32) → (∀ (σ : Int) (n : Nat) (r : Nat → Nat), CTP σ n r s (x1).toNatClampNeg → CTX σ n r s sc158 (x1).toNatClampNeg (y158_3).toNatClampNeg (y158_4).toNatClampNeg (y158_2).toInt) → 32 - (y158_4).toInt < (k158 : Int) → GG Z (d - 1) 88 post (gx xp) (1 + k158 * 900) 158 (fun j => xlook j [(0, .ref (A 65)), (1, .int x1), (2, .int y158_2), (3, .int y158_3), (4, .int y158_4)]) [] (WW Z A sc158 ++ ex) 0 0 := by
    intro k158
    induction k158 with
    | zero => intro sc158 y158_2 y158_3 y158_4 hIc158 hFc158 j158_3 j158_4 g158_0 mm158; exact m_no mm158 j158_4 rfl
    | succ k158 ih158 =>
      intro sc158 y158_2 y158_3 y158_4 hIc158 hFc158 j158_3 j158_4 g158_0 mm158
      refine gg_w (M := 1 + k158 * 900 + 900) gws ?_
      refine g_iload 160 (gd rfl) rfl rfl ?_
      refine g_bipush 32 162 (gd rfl) rfl rfl ?_
      refine g_cmp_ge 165 253 (gd rfl) rfl rfl (fun c162 => ?_) (fun c162 => ?_)
      · skip
        have i162 := r_le2 32 32 c162 (in_c 32 rfl) j158_4 rfl
        refine g_aload_n 254 (gd rfl) rfl rfl ?_
        refine g_getA (q2 := 75) 257 (gd rfl) rfl rfl rfl rfl ?_
        refine g_iload_n 258 (gd rfl) rfl rfl ?_
        refine g_laload 259 (gd rfl) rfl (n := 32) rfl (in_ix h1 rfl) (fun z258 e258 => ?_)
        refine g_iload_n 260 (gd rfl) rfl rfl ?_
        refine g_i2l 261 (gd rfl) rfl (fun z260 e260 => ?_)
        have i260 := l_i e260 (i_rng y158_2)
        refine g_lmul 262 (gd rfl) rfl (fun z261 e261 => ?_)
        have n262 : ∀ (σ : Int) (n : Nat) (r : Nat → Nat), CTP σ n r s (x1).toNatClampNeg → CTO σ n s sc158 (x1).toNatClampNeg (z261).toInt := by intro σ n r hC; exact ct_h hC (g158_0 σ n r hC) (hFc158.2.1 75 rfl) (Or.inr (show 32 ≤ (y158_4).toNatClampNeg from (by show 32 ≤ (y158_4).toInt.toNat; exact (have a0 := in_u h1; have a1 := in_u i162; have a2 := in_u j158_3; have a3 := tx_i2l e260; have oc := oc_88_65; by omega)))) e258 e260 e261
        exact g_lreturn (gd rfl) rfl (hP _ _ ⟨sc158, hIc158, hFc158, z261, rfl, rfl, n262⟩)
      · skip
        have i162 := r_lt1 0 31 c162 j158_4 (in_c 32 rfl) rfl
        refine g_aload_n 166 (gd rfl) rfl rfl ?_
        refine g_getA (q2 := 68) 169 (gd rfl) rfl rfl rfl rfl ?_
        refine g_iload_n 170 (gd rfl) rfl rfl ?_
        refine g_iaload 171 (gd rfl) rfl (n := 32) rfl (in_ix j158_3 rfl) (fun z170 e170 => ?_)
        have i170 := inv_I hIc158 (n := 32) (t := 0) (-1) 319 rfl (in_ix j158_3 rfl) rfl e170
        refine g_iconst (-1) 172 (gd rfl) rfl rfl ?_
        refine g_cmp_eq 175 253 (gd rfl) rfl rfl (fun c172 => ?_) (fun c172 => ?_)
        · skip
          have i172 := r_eq1 (-1) (-1) c172 i170 (in_c (-1) rfl) rfl
          refine g_aload_n 254 (gd rfl) rfl rfl ?_
          refine g_getA (q2 := 75) 257 (gd rfl) rfl rfl rfl rfl ?_
          refine g_iload_n 258 (gd rfl) rfl rfl ?_
          refine g_laload 259 (gd rfl) rfl (n := 32) rfl (in_ix h1 rfl) (fun z258 e258 => ?_)
          refine g_iload_n 260 (gd rfl) rfl rfl ?_
          refine g_i2l 261 (gd rfl) rfl (fun z260 e260 => ?_)
          have i260 := l_i e260 (i_rng y158_2)
          refine g_lmul 262 (gd rfl) rfl (fun z261 e261 => ?_)
          have n262 : ∀ (σ : Int) (n : Nat) (r : Nat → Nat), CTP σ n r s (x1).toNatClampNeg → CTO σ n s sc158 (x1).toNatClampNeg (z261).toInt := by intro σ n r hC; exact ct_h hC (g158_0 σ n r hC) (hFc158.2.1 75 rfl) (Or.inl (show viC s (y158_3).toNatClampNeg = -1 from (ct_vi (hFc158.1 68 rfl) e170).trans c172)) e258 e260 e261
          exact g_lreturn (gd rfl) rfl (hP _ _ ⟨sc158, hIc158, hFc158, z261, rfl, rfl, n262⟩)
        · skip
          have i172 := r_ne1 0 319 c172 i170 (in_c (-1) rfl) rfl
          refine g_aload_n 176 (gd rfl) rfl rfl ?_
          refine g_getA (q2 := 68) 179 (gd rfl) rfl rfl rfl rfl ?_
          refine g_iload_n 180 (gd rfl) rfl rfl ?_
          refine g_iaload 181 (gd rfl) rfl (n := 32) rfl (in_ix j158_3 rfl) (fun z180 e180 => ?_)
          have q180 : z170 = z180 := (e170).trans e180.symm
          subst q180
          refine g_iconst 1 182 (gd rfl) rfl rfl ?_
          refine g_ishr 183 (gd rfl) rfl (fun z182 e182 => ?_)
          have i182 := in_shrc 1 0 159 e182 i172 rfl rfl
          refine g_istore 185 (gd rfl) rfl (Nat.le_of_ble_eq_true rfl) ?_
          refine g_aload_n 186 (gd rfl) rfl rfl ?_
          refine g_getA (q2 := 68) 189 (gd rfl) rfl rfl rfl rfl ?_
          refine g_iload_n 190 (gd rfl) rfl rfl ?_
          refine g_iaload 191 (gd rfl) rfl (n := 32) rfl (in_ix j158_3 rfl) (fun z190 e190 => ?_)
          have q190 : z170 = z190 := (e170).trans e190.symm
          subst q190
          refine g_iconst 1 192 (gd rfl) rfl rfl ?_
          refine g_iand 193 (gd rfl) rfl (fun z192 e192 => ?_)
          have i192 := in_and2 e192 (in_c 1 rfl) rfl
          refine g_if_ne 196 200 (gd rfl) rfl rfl (fun c193 => ?_) (fun c193 => ?_)
          · skip
            have i193 := z_ne 1 1 c193 i192 rfl
            refine g_iconst 0 201 (gd rfl) rfl rfl ?_
            refine g_istore 203 (gd rfl) rfl (Nat.le_of_ble_eq_true rfl) ?_
            refine g_aload_n 204 (gd rfl) rfl rfl ?_
            refine g_getA (q2 := 73) 207 (gd rfl) rfl rfl rfl rfl ?_
            refine g_iload 209 (gd rfl) rfl rfl ?_
            refine g_dup2 210 (gd rfl) rfl rfl rfl ?_
            refine g_iaload 211 (gd rfl) rfl (n := 160) rfl (in_ix i182 rfl) (fun z210 e210 => ?_)
            refine g_iload 213 (gd rfl) rfl rfl ?_
            refine g_if_eq 216 220 (gd rfl) rfl rfl (fun c213 => ?_) (fun c213 => ?_)
            · skip
              refine g_iload_n 221 (gd rfl) rfl rfl ?_
              refine g_ineg 222 (gd rfl) rfl (fun z221 e221 => ?_)
              refine g_iadd 223 (gd rfl) rfl (fun z222 e222 => ?_)
              refine g_iastore 224 (gd rfl) rfl (n := 160) rfl (in_ix i182 rfl) ?_
              have hI223 := inv_sI (q := 73) (j := z182.toNatClampNeg) hIc158 rfl (in_w (-2147483648) 2147483647 (i_rng z222) rfl)
              refine g_iload 226 (gd rfl) rfl rfl ?_
              refine g_if_eq 229 239 (gd rfl) rfl rfl (fun c226 => ?_) (fun c226 => ?_)
              · skip
                refine g_aload_n 240 (gd rfl) rfl rfl ?_
                refine g_getA (q2 := 70) 243 (gd rfl) rfl rfl rfl rfl ?_
                refine g_iload 245 (gd rfl) rfl rfl ?_
                refine g_iaload 246 (gd rfl) rfl (n := 160) rfl (in_ix i182 rfl) (fun z245 e245 => ?_)
                have i245 := inv_I hI223 (n := 160) (t := 0) 0 31 rfl (in_ix i182 rfl) rfl e245
                refine g_istore_n 247 (gd rfl) rfl (Nat.le_of_ble_eq_true rfl) ?_
                refine g_iinc 250 (gd rfl) rfl rfl (Nat.le_of_ble_eq_true rfl) (fun z247 e247 => ?_)
                have i247 := in_add 1 32 e247 i162 (in_c 1 rfl) rfl rfl
                refine g_goto 158 (gd rfl) rfl ?_
                have n158 : ∀ (σ : Int) (n : Nat) (r : Nat → Nat), CTP σ n r s (x1).toNatClampNeg → CTX σ n r s (sI sc158 73 z182.toNatClampNeg z222) (x1).toNatClampNeg (z245).toNatClampNeg (z247).toNatClampNeg (y158_2).toInt := by rw [(show (z247).toNatClampNeg = (y158_4).toNatClampNeg + 1 from (by show (z247).toInt.toNat = (y158_4).toInt.toNat + 1; exact (have a0 := in_u h1; have a1 := in_u i162; have a2 := in_u j158_3; have a3 := in_u ((in_c 0 rfl)); have a4 := in_u i182; have a5 := in_u i247; have a6 := t_add e247 i162 (in_c 1 rfl) rfl; have a7 := in_u ((in_c 1 rfl)); have a8 := in_u i245; have oc := oc_88_65; by omega)))]; intro σ n r hC; exact ct_g2 hC (g158_0 σ n r hC) (hFc158.1 68 rfl) (hFc158.1 70 rfl) e170 i172 e182 e192 c193 e210 e221 e222 e245
                exact gg_w (by first | exact Nat.le_add_right _ _ | exact gw2 | exact gw3 | exact gwe rfl | exact gwf rfl | exact gwg rfl | exact gwh rfl | omega) (gg_f (gf_cons rfl (gf_cons rfl (gf_cons rfl (gf_cons rfl (gf_cons rfl gf_nil))))) (ih158 (sI sc158 73 z182.toNatClampNeg z222) y158_2 z245 z247 hI223 (fr_sI rfl hFc158) (in_w 0 31 i245 rfl) (in_w 0 32 i247 rfl) n158 (m_up mm158 (t_add e247 i162 (in_c 1 rfl) rfl) (in_w 1 1 (in_c 1 rfl) rfl))))
              · skip
                exact zn_ne c226 (in_c 0 rfl) rfl
            · skip
              exact zn_ne c213 (in_c 0 rfl) rfl
          · skip
            have i193 := z_eq 0 0 c193 i192 rfl
            refine g_iconst 1 197 (gd rfl) rfl rfl ?_
            refine g_goto 201 (gd rfl) rfl ?_
            refine g_istore 203 (gd rfl) rfl (Nat.le_of_ble_eq_true rfl) ?_
            refine g_aload_n 204 (gd rfl) rfl rfl ?_
            refine g_getA (q2 := 73) 207 (gd rfl) rfl rfl rfl rfl ?_
            refine g_iload 209 (gd rfl) rfl rfl ?_
            refine g_dup2 210 (gd rfl) rfl rfl rfl ?_
            refine g_iaload 211 (gd rfl) rfl (n := 160) rfl (in_ix i182 rfl) (fun z210 e210 => ?_)
            refine g_iload 213 (gd rfl) rfl rfl ?_
            refine g_if_eq 216 220 (gd rfl) rfl rfl (fun c213 => ?_) (fun c213 => ?_)
            · skip
              exact zn_eq c213 (in_c 1 rfl) rfl
            · skip
              refine g_iload_n 217 (gd rfl) rfl rfl ?_
              refine g_goto 222 (gd rfl) rfl ?_
              refine g_iadd 223 (gd rfl) rfl (fun z222 e222 => ?_)
              refine g_iastore 224 (gd rfl) rfl (n := 160) rfl (in_ix i182 rfl) ?_
              have hI223 := inv_sI (q := 73) (j := z182.toNatClampNeg) hIc158 rfl (in_w (-2147483648) 2147483647 (i_rng z222) rfl)
              refine g_iload 226 (gd rfl) rfl rfl ?_
              refine g_if_eq 229 239 (gd rfl) rfl rfl (fun c226 => ?_) (fun c226 => ?_)
              · skip
                exact zn_eq c226 (in_c 1 rfl) rfl
              · skip
                refine g_aload_n 230 (gd rfl) rfl rfl ?_
                refine g_getA (q2 := 69) 233 (gd rfl) rfl rfl rfl rfl ?_
                refine g_iload 235 (gd rfl) rfl rfl ?_
                refine g_iaload 236 (gd rfl) rfl (n := 160) rfl (in_ix i182 rfl) (fun z235 e235 => ?_)
                have i235 := inv_I hI223 (n := 160) (t := 0) 0 31 rfl (in_ix i182 rfl) rfl e235
                refine g_goto 246 (gd rfl) rfl ?_
                refine g_istore_n 247 (gd rfl) rfl (Nat.le_of_ble_eq_true rfl) ?_
                refine g_iinc 250 (gd rfl) rfl rfl (Nat.le_of_ble_eq_true rfl) (fun z247 e247 => ?_)
                have i247 := in_add 1 32 e247 i162 (in_c 1 rfl) rfl rfl
                refine g_goto 158 (gd rfl) rfl ?_
                have n158 : ∀ (σ : Int) (n : Nat) (r : Nat → Nat), CTP σ n r s (x1).toNatClampNeg → CTX σ n r s (sI sc158 73 z182.toNatClampNeg z222) (x1).toNatClampNeg (z235).toNatClampNeg (z247).toNatClampNeg (y158_2).toInt := by rw [(show (z247).toNatClampNeg = (y158_4).toNatClampNeg + 1 from (by show (z247).toInt.toNat = (y158_4).toInt.toNat + 1; exact (have a0 := in_u h1; have a1 := in_u i162; have a2 := in_u j158_3; have a3 := in_u ((in_c 1 rfl)); have a4 := in_u i182; have a5 := in_u i247; have a6 := t_add e247 i162 (in_c 1 rfl) rfl; have a7 := in_u i235; have oc := oc_88_65; by omega)))]; intro σ n r hC; exact ct_g hC (g158_0 σ n r hC) (hFc158.1 68 rfl) (hFc158.1 69 rfl) e170 i172 e182 e192 c193 e210 e222 e235
                exact gg_w (by first | exact Nat.le_add_right _ _ | exact gw2 | exact gw3 | exact gwe rfl | exact gwf rfl | exact gwg rfl | exact gwh rfl | omega) (gg_f (gf_cons rfl (gf_cons rfl (gf_cons rfl (gf_cons rfl (gf_cons rfl gf_nil))))) (ih158 (sI sc158 73 z182.toNatClampNeg z222) y158_2 z235 z247 hI223 (fr_sI rfl hFc158) (in_w 0 31 i235 rfl) (in_w 0 32 i247 rfl) n158 (m_up mm158 (t_add e247 i162 (in_c 1 rfl) rfl) (in_w 1 1 (in_c 1 rfl) rfl))))
  have ct13 : ∀ (k13 : Nat) (sc13 : GS) (y13_2 : Int32) (y13_3 : Int32) (y13_4 : Int32), Inv sc13 → Fr fm_88_65 s sc13 → (In y13_3 0 31) → (In y13_4 0 32) → (∀ (σ : Int) (n : Nat) (r : Nat → Nat), CTP σ n r s (x1).toNatClampNeg → CTA σ n r s (x1).toNatClampNeg (y13_3).toNatClampNeg (y13_4).toNatClampNeg (y13_2).toInt) → ((sc13).1 73 = s.1 73 ∧ (sc13).1 74 = s.1 74) → 32 - (y13_4).toInt < (k13 : Int) → GG Z (d - 1) 88 post (gx xp) (29702 + k13 * 900) 13 (fun j => xlook j [(0, .ref (A 65)), (1, .int x1), (2, .int y13_2), (3, .int y13_3), (4, .int y13_4)]) [] (WW Z A sc13 ++ ex) 0 0 := by
    intro k13
    induction k13 with
    | zero => intro sc13 y13_2 y13_3 y13_4 hIc13 hFc13 j13_3 j13_4 g13_0 g13_1 mm13; exact m_no mm13 j13_4 rfl
    | succ k13 ih13 =>
      intro sc13 y13_2 y13_3 y13_4 hIc13 hFc13 j13_3 j13_4 g13_0 g13_1 mm13
      refine gg_w (M := 29702 + k13 * 900 + 900) gws ?_
      refine g_iload 15 (gd rfl) rfl rfl ?_
      refine g_bipush 32 17 (gd rfl) rfl rfl ?_
      refine g_cmp_ge 20 122 (gd rfl) rfl rfl (fun c17 => ?_) (fun c17 => ?_)
      · skip
        have i17 := r_le2 32 32 c17 (in_c 32 rfl) j13_4 rfl
        refine g_iload_n 123 (gd rfl) rfl rfl ?_
        refine g_aload_n 124 (gd rfl) rfl rfl ?_
        refine g_getA (q2 := 74) 127 (gd rfl) rfl rfl rfl rfl ?_
        refine g_iload_n 128 (gd rfl) rfl rfl ?_
        refine g_iaload 129 (gd rfl) rfl (n := 32) rfl (in_ix j13_3 rfl) (fun z128 e128 => ?_)
        refine g_calls (As := [.int y13_2, .int z128]) (r := []) 132 (gd rfl) rfl rfl rfl rfl rfl (Nat.le_of_ble_eq_true rfl) (mc := 0) (ms := 0) (Nat.zero_le _) (Nat.zero_le _) (P := fun v u => _) ?_ (fun v u h => h)
        intro po129 xx129 hp129 hx129
        refine g_enter2 (k := 424) (N := 300) (by first | exact dq1 hd rfl | exact dq0 hd rfl | exact dq2 hd rfl | exact dq3 hd rfl | omega) rfl (Nat.le_of_ble_eq_true rfl) ?_
        refine g_iload_n 1 (gd rfl) rfl rfl ?_
        refine g_iload_n 2 (gd rfl) rfl rfl ?_
        refine g_cmp_gt 5 9 (gd rfl) rfl rfl (fun c129x2 => ?_) (fun c129x2 => ?_)
        · skip
          have i129x2 := r_lt1 (-2147483648) 2147483646 c129x2 (i_rng z128) (i_rng y13_2) rfl
          have i129x2a := r_lt2 (-2147483647) 2147483647 c129x2 (i_rng z128) (i_rng y13_2) rfl
          refine g_iload_n 10 (gd rfl) rfl rfl ?_
          refine g_ireturn (gd rfl) rfl rfl (hp129 _ _ ?_)
          show GG _ _ _ _ _ _ _ _ [.int z128] _ _ _
          refine g_istore_n 133 (gd rfl) rfl (Nat.le_of_ble_eq_true rfl) ?_
          refine g_aload_n 134 (gd rfl) rfl rfl ?_
          refine g_getA (q2 := 74) 137 (gd rfl) rfl rfl rfl rfl ?_
          refine g_iload_n 138 (gd rfl) rfl rfl ?_
          refine g_dup2 139 (gd rfl) rfl rfl rfl ?_
          refine g_iaload 140 (gd rfl) rfl (n := 32) rfl (in_ix j13_3 rfl) (fun z139 e139 => ?_)
          have q139 : z128 = z139 := (e128).trans e139.symm
          subst q139
          refine g_iload_n 141 (gd rfl) rfl rfl ?_
          refine g_isub 142 (gd rfl) rfl (fun z141 e141 => ?_)
          refine g_iastore 143 (gd rfl) rfl (n := 32) rfl (in_ix j13_3 rfl) ?_
          have hI142 := inv_sI (q := 74) (j := y13_3.toNatClampNeg) hIc13 rfl (in_w (-2147483648) 2147483647 (i_rng z141) rfl)
          refine g_aload_n 144 (gd rfl) rfl rfl ?_
          refine g_getA (q2 := 74) 147 (gd rfl) rfl rfl rfl rfl ?_
          refine g_iload_n 148 (gd rfl) rfl rfl ?_
          refine g_dup2 149 (gd rfl) rfl rfl rfl ?_
          refine g_iaload 150 (gd rfl) rfl (n := 32) rfl (in_ix h1 rfl) (fun z149 e149 => ?_)
          refine g_iload_n 151 (gd rfl) rfl rfl ?_
          refine g_iadd 152 (gd rfl) rfl (fun z151 e151 => ?_)
          refine g_iastore 153 (gd rfl) rfl (n := 32) rfl (in_ix h1 rfl) ?_
          have hI152 := inv_sI (q := 74) (j := x1.toNatClampNeg) hI142 rfl (in_w (-2147483648) 2147483647 (i_rng z151) rfl)
          refine g_iload_n 154 (gd rfl) rfl rfl ?_
          refine g_istore_n 155 (gd rfl) rfl (Nat.le_of_ble_eq_true rfl) ?_
          refine g_iconst 0 156 (gd rfl) rfl rfl ?_
          refine g_istore 158 (gd rfl) rfl (Nat.le_of_ble_eq_true rfl) ?_
          have n158 : ∀ (σ : Int) (n : Nat) (r : Nat → Nat), CTP σ n r s (x1).toNatClampNeg → CTX σ n r s (sI (sI sc13 74 y13_3.toNatClampNeg z141) 74 x1.toNatClampNeg z151) (x1).toNatClampNeg (x1).toNatClampNeg ((Int32.ofInt 0)).toNatClampNeg (z128).toInt := by intro σ n r hC; exact (show CTX _ _ _ _ _ _ _ 0 _ from ct_e hC (g13_0 σ n r hC) (Or.inr (show 32 ≤ (y13_4).toNatClampNeg from (by show 32 ≤ (y13_4).toInt.toNat; exact (have a0 := in_u h1; have a1 := in_u i17; have a2 := in_u j13_3; have a3 := in_u ((in_c 0 rfl)); have a4 := in_u i129x2; have oc := oc_88_65; by omega)))) g13_1.1 g13_1.2 e128 ⟨by exact (have a0 := in_u h1; have a1 := in_u i17; have a2 := in_u j13_3; have a3 := in_u ((in_c 0 rfl)); have a4 := in_u i129x2; have oc := oc_88_65; by omega), by exact (have a0 := in_u h1; have a1 := in_u i17; have a2 := in_u j13_3; have a3 := in_u ((in_c 0 rfl)); have a4 := in_u i129x2; have oc := oc_88_65; by omega), by exact (have a0 := in_u h1; have a1 := in_u i17; have a2 := in_u j13_3; have a3 := in_u ((in_c 0 rfl)); have a4 := in_u i129x2; have oc := oc_88_65; by omega)⟩ e141 e149 e151)
          exact gg_w (by first | exact Nat.le_add_right _ _ | exact gw2 | exact gw3 | exact gwe rfl | exact gwf rfl | exact gwg rfl | exact gwh rfl | omega) (gg_f (gf_cons rfl (gf_cons rfl (gf_cons rfl (gf_cons rfl (gf_cons rfl gf_nil))))) (ct158 33 (sI (sI sc13 74 y13_3.toNatClampNeg z141) 74 x1.toNatClampNeg z151) z128 x1 (Int32.ofInt 0) hI152 (fr_sI rfl (fr_sI rfl hFc13)) (in_w 0 31 h1 rfl) (in_w 0 32 (in_c 0 rfl) rfl) n158 (m_in 33 (in_w 0 32 (in_c 0 rfl) rfl) rfl)))
        · skip
          refine g_iload_n 6 (gd rfl) rfl rfl ?_
          refine g_goto 10 (gd rfl) rfl ?_
          refine g_ireturn (gd rfl) rfl rfl (hp129 _ _ ?_)
          show GG _ _ _ _ _ _ _ _ [.int y13_2] _ _ _
          refine g_istore_n 133 (gd rfl) rfl (Nat.le_of_ble_eq_true rfl) ?_
          refine g_aload_n 134 (gd rfl) rfl rfl ?_
          refine g_getA (q2 := 74) 137 (gd rfl) rfl rfl rfl rfl ?_
          refine g_iload_n 138 (gd rfl) rfl rfl ?_
          refine g_dup2 139 (gd rfl) rfl rfl rfl ?_
          refine g_iaload 140 (gd rfl) rfl (n := 32) rfl (in_ix j13_3 rfl) (fun z139 e139 => ?_)
          have q139 : z128 = z139 := (e128).trans e139.symm
          subst q139
          refine g_iload_n 141 (gd rfl) rfl rfl ?_
          refine g_isub 142 (gd rfl) rfl (fun z141 e141 => ?_)
          refine g_iastore 143 (gd rfl) rfl (n := 32) rfl (in_ix j13_3 rfl) ?_
          have hI142 := inv_sI (q := 74) (j := y13_3.toNatClampNeg) hIc13 rfl (in_w (-2147483648) 2147483647 (i_rng z141) rfl)
          refine g_aload_n 144 (gd rfl) rfl rfl ?_
          refine g_getA (q2 := 74) 147 (gd rfl) rfl rfl rfl rfl ?_
          refine g_iload_n 148 (gd rfl) rfl rfl ?_
          refine g_dup2 149 (gd rfl) rfl rfl rfl ?_
          refine g_iaload 150 (gd rfl) rfl (n := 32) rfl (in_ix h1 rfl) (fun z149 e149 => ?_)
          refine g_iload_n 151 (gd rfl) rfl rfl ?_
          refine g_iadd 152 (gd rfl) rfl (fun z151 e151 => ?_)
          refine g_iastore 153 (gd rfl) rfl (n := 32) rfl (in_ix h1 rfl) ?_
          have hI152 := inv_sI (q := 74) (j := x1.toNatClampNeg) hI142 rfl (in_w (-2147483648) 2147483647 (i_rng z151) rfl)
          refine g_iload_n 154 (gd rfl) rfl rfl ?_
          refine g_istore_n 155 (gd rfl) rfl (Nat.le_of_ble_eq_true rfl) ?_
          refine g_iconst 0 156 (gd rfl) rfl rfl ?_
          refine g_istore 158 (gd rfl) rfl (Nat.le_of_ble_eq_true rfl) ?_
          have n158 : ∀ (σ : Int) (n : Nat) (r : Nat → Nat), CTP σ n r s (x1).toNatClampNeg → CTX σ n r s (sI (sI sc13 74 y13_3.toNatClampNeg z141) 74 x1.toNatClampNeg z151) (x1).toNatClampNeg (x1).toNatClampNeg ((Int32.ofInt 0)).toNatClampNeg (y13_2).toInt := by intro σ n r hC; exact (show CTX _ _ _ _ _ _ _ 0 _ from ct_e hC (g13_0 σ n r hC) (Or.inr (show 32 ≤ (y13_4).toNatClampNeg from (by show 32 ≤ (y13_4).toInt.toNat; exact (have a0 := in_u h1; have a1 := in_u i17; have a2 := in_u j13_3; have a3 := in_u ((in_c 0 rfl)); have oc := oc_88_65; by omega)))) g13_1.1 g13_1.2 e128 ⟨by exact (have a0 := in_u h1; have a1 := in_u i17; have a2 := in_u j13_3; have a3 := in_u ((in_c 0 rfl)); have oc := oc_88_65; by omega), by exact (have a0 := in_u h1; have a1 := in_u i17; have a2 := in_u j13_3; have a3 := in_u ((in_c 0 rfl)); have oc := oc_88_65; by omega), by exact (have a0 := in_u h1; have a1 := in_u i17; have a2 := in_u j13_3; have a3 := in_u ((in_c 0 rfl)); have oc := oc_88_65; by omega)⟩ e141 e149 e151)
          exact gg_w (by first | exact Nat.le_add_right _ _ | exact gw2 | exact gw3 | exact gwe rfl | exact gwf rfl | exact gwg rfl | exact gwh rfl | omega) (gg_f (gf_cons rfl (gf_cons rfl (gf_cons rfl (gf_cons rfl (gf_cons rfl gf_nil))))) (ct158 33 (sI (sI sc13 74 y13_3.toNatClampNeg z141) 74 x1.toNatClampNeg z151) y13_2 x1 (Int32.ofInt 0) hI152 (fr_sI rfl (fr_sI rfl hFc13)) (in_w 0 31 h1 rfl) (in_w 0 32 (in_c 0 rfl) rfl) n158 (m_in 33 (in_w 0 32 (in_c 0 rfl) rfl) rfl)))
      · skip
        have i17 := r_lt1 0 31 c17 j13_4 (in_c 32 rfl) rfl
        refine g_aload_n 21 (gd rfl) rfl rfl ?_
        refine g_getA (q2 := 68) 24 (gd rfl) rfl rfl rfl rfl ?_
        refine g_iload_n 25 (gd rfl) rfl rfl ?_
        refine g_iaload 26 (gd rfl) rfl (n := 32) rfl (in_ix j13_3 rfl) (fun z25 e25 => ?_)
        have i25 := inv_I hIc13 (n := 32) (t := 0) (-1) 319 rfl (in_ix j13_3 rfl) rfl e25
        refine g_iconst (-1) 27 (gd rfl) rfl rfl ?_
        refine g_cmp_eq 30 122 (gd rfl) rfl rfl (fun c27 => ?_) (fun c27 => ?_)
        · skip
          have i27 := r_eq1 (-1) (-1) c27 i25 (in_c (-1) rfl) rfl
          refine g_iload_n 123 (gd rfl) rfl rfl ?_
          refine g_aload_n 124 (gd rfl) rfl rfl ?_
          refine g_getA (q2 := 74) 127 (gd rfl) rfl rfl rfl rfl ?_
          refine g_iload_n 128 (gd rfl) rfl rfl ?_
          refine g_iaload 129 (gd rfl) rfl (n := 32) rfl (in_ix j13_3 rfl) (fun z128 e128 => ?_)
          refine g_calls (As := [.int y13_2, .int z128]) (r := []) 132 (gd rfl) rfl rfl rfl rfl rfl (Nat.le_of_ble_eq_true rfl) (mc := 0) (ms := 0) (Nat.zero_le _) (Nat.zero_le _) (P := fun v u => _) ?_ (fun v u h => h)
          intro po129 xx129 hp129 hx129
          refine g_enter2 (k := 424) (N := 300) (by first | exact dq1 hd rfl | exact dq0 hd rfl | exact dq2 hd rfl | exact dq3 hd rfl | omega) rfl (Nat.le_of_ble_eq_true rfl) ?_
          refine g_iload_n 1 (gd rfl) rfl rfl ?_
          refine g_iload_n 2 (gd rfl) rfl rfl ?_
          refine g_cmp_gt 5 9 (gd rfl) rfl rfl (fun c129x2 => ?_) (fun c129x2 => ?_)
          · skip
            have i129x2 := r_lt1 (-2147483648) 2147483646 c129x2 (i_rng z128) (i_rng y13_2) rfl
            have i129x2a := r_lt2 (-2147483647) 2147483647 c129x2 (i_rng z128) (i_rng y13_2) rfl
            refine g_iload_n 10 (gd rfl) rfl rfl ?_
            refine g_ireturn (gd rfl) rfl rfl (hp129 _ _ ?_)
            show GG _ _ _ _ _ _ _ _ [.int z128] _ _ _
            refine g_istore_n 133 (gd rfl) rfl (Nat.le_of_ble_eq_true rfl) ?_
            refine g_aload_n 134 (gd rfl) rfl rfl ?_
            refine g_getA (q2 := 74) 137 (gd rfl) rfl rfl rfl rfl ?_
            refine g_iload_n 138 (gd rfl) rfl rfl ?_
            refine g_dup2 139 (gd rfl) rfl rfl rfl ?_
            refine g_iaload 140 (gd rfl) rfl (n := 32) rfl (in_ix j13_3 rfl) (fun z139 e139 => ?_)
            have q139 : z128 = z139 := (e128).trans e139.symm
            subst q139
            refine g_iload_n 141 (gd rfl) rfl rfl ?_
            refine g_isub 142 (gd rfl) rfl (fun z141 e141 => ?_)
            refine g_iastore 143 (gd rfl) rfl (n := 32) rfl (in_ix j13_3 rfl) ?_
            have hI142 := inv_sI (q := 74) (j := y13_3.toNatClampNeg) hIc13 rfl (in_w (-2147483648) 2147483647 (i_rng z141) rfl)
            refine g_aload_n 144 (gd rfl) rfl rfl ?_
            refine g_getA (q2 := 74) 147 (gd rfl) rfl rfl rfl rfl ?_
            refine g_iload_n 148 (gd rfl) rfl rfl ?_
            refine g_dup2 149 (gd rfl) rfl rfl rfl ?_
            refine g_iaload 150 (gd rfl) rfl (n := 32) rfl (in_ix h1 rfl) (fun z149 e149 => ?_)
            refine g_iload_n 151 (gd rfl) rfl rfl ?_
            refine g_iadd 152 (gd rfl) rfl (fun z151 e151 => ?_)
            refine g_iastore 153 (gd rfl) rfl (n := 32) rfl (in_ix h1 rfl) ?_
            have hI152 := inv_sI (q := 74) (j := x1.toNatClampNeg) hI142 rfl (in_w (-2147483648) 2147483647 (i_rng z151) rfl)
            refine g_iload_n 154 (gd rfl) rfl rfl ?_
            refine g_istore_n 155 (gd rfl) rfl (Nat.le_of_ble_eq_true rfl) ?_
            refine g_iconst 0 156 (gd rfl) rfl rfl ?_
            refine g_istore 158 (gd rfl) rfl (Nat.le_of_ble_eq_true rfl) ?_
            have n158 : ∀ (σ : Int) (n : Nat) (r : Nat → Nat), CTP σ n r s (x1).toNatClampNeg → CTX σ n r s (sI (sI sc13 74 y13_3.toNatClampNeg z141) 74 x1.toNatClampNeg z151) (x1).toNatClampNeg (x1).toNatClampNeg ((Int32.ofInt 0)).toNatClampNeg (z128).toInt := by intro σ n r hC; exact (show CTX _ _ _ _ _ _ _ 0 _ from ct_e hC (g13_0 σ n r hC) (Or.inl (show viC s (y13_3).toNatClampNeg = -1 from (ct_vi (hFc13.1 68 rfl) e25).trans c27)) g13_1.1 g13_1.2 e128 ⟨by exact (have a0 := in_u h1; have a1 := in_u i17; have a2 := in_u j13_3; have a3 := in_u ((in_c 0 rfl)); have a4 := in_u i129x2; have oc := oc_88_65; by omega), by exact (have a0 := in_u h1; have a1 := in_u i17; have a2 := in_u j13_3; have a3 := in_u ((in_c 0 rfl)); have a4 := in_u i129x2; have oc := oc_88_65; by omega), by exact (have a0 := in_u h1; have a1 := in_u i17; have a2 := in_u j13_3; have a3 := in_u ((in_c 0 rfl)); have a4 := in_u i129x2; have oc := oc_88_65; by omega)⟩ e141 e149 e151)
            exact gg_w (by first | exact Nat.le_add_right _ _ | exact gw2 | exact gw3 | exact gwe rfl | exact gwf rfl | exact gwg rfl | exact gwh rfl | omega) (gg_f (gf_cons rfl (gf_cons rfl (gf_cons rfl (gf_cons rfl (gf_cons rfl gf_nil))))) (ct158 33 (sI (sI sc13 74 y13_3.toNatClampNeg z141) 74 x1.toNatClampNeg z151) z128 x1 (Int32.ofInt 0) hI152 (fr_sI rfl (fr_sI rfl hFc13)) (in_w 0 31 h1 rfl) (in_w 0 32 (in_c 0 rfl) rfl) n158 (m_in 33 (in_w 0 32 (in_c 0 rfl) rfl) rfl)))
          · skip
            refine g_iload_n 6 (gd rfl) rfl rfl ?_
            refine g_goto 10 (gd rfl) rfl ?_
            refine g_ireturn (gd rfl) rfl rfl (hp129 _ _ ?_)
            show GG _ _ _ _ _ _ _ _ [.int y13_2] _ _ _
            refine g_istore_n 133 (gd rfl) rfl (Nat.le_of_ble_eq_true rfl) ?_
            refine g_aload_n 134 (gd rfl) rfl rfl ?_
            refine g_getA (q2 := 74) 137 (gd rfl) rfl rfl rfl rfl ?_
            refine g_iload_n 138 (gd rfl) rfl rfl ?_
            refine g_dup2 139 (gd rfl) rfl rfl rfl ?_
            refine g_iaload 140 (gd rfl) rfl (n := 32) rfl (in_ix j13_3 rfl) (fun z139 e139 => ?_)
            have q139 : z128 = z139 := (e128).trans e139.symm
            subst q139
            refine g_iload_n 141 (gd rfl) rfl rfl ?_
            refine g_isub 142 (gd rfl) rfl (fun z141 e141 => ?_)
            refine g_iastore 143 (gd rfl) rfl (n := 32) rfl (in_ix j13_3 rfl) ?_
            have hI142 := inv_sI (q := 74) (j := y13_3.toNatClampNeg) hIc13 rfl (in_w (-2147483648) 2147483647 (i_rng z141) rfl)
            refine g_aload_n 144 (gd rfl) rfl rfl ?_
            refine g_getA (q2 := 74) 147 (gd rfl) rfl rfl rfl rfl ?_
            refine g_iload_n 148 (gd rfl) rfl rfl ?_
            refine g_dup2 149 (gd rfl) rfl rfl rfl ?_
            refine g_iaload 150 (gd rfl) rfl (n := 32) rfl (in_ix h1 rfl) (fun z149 e149 => ?_)
            refine g_iload_n 151 (gd rfl) rfl rfl ?_
            refine g_iadd 152 (gd rfl) rfl (fun z151 e151 => ?_)
            refine g_iastore 153 (gd rfl) rfl (n := 32) rfl (in_ix h1 rfl) ?_
            have hI152 := inv_sI (q := 74) (j := x1.toNatClampNeg) hI142 rfl (in_w (-2147483648) 2147483647 (i_rng z151) rfl)
            refine g_iload_n 154 (gd rfl) rfl rfl ?_
            refine g_istore_n 155 (gd rfl) rfl (Nat.le_of_ble_eq_true rfl) ?_
            refine g_iconst 0 156 (gd rfl) rfl rfl ?_
            refine g_istore 158 (gd rfl) rfl (Nat.le_of_ble_eq_true rfl) ?_
            have n158 : ∀ (σ : Int) (n : Nat) (r : Nat → Nat), CTP σ n r s (x1).toNatClampNeg → CTX σ n r s (sI (sI sc13 74 y13_3.toNatClampNeg z141) 74 x1.toNatClampNeg z151) (x1).toNatClampNeg (x1).toNatClampNeg ((Int32.ofInt 0)).toNatClampNeg (y13_2).toInt := by intro σ n r hC; exact (show CTX _ _ _ _ _ _ _ 0 _ from ct_e hC (g13_0 σ n r hC) (Or.inl (show viC s (y13_3).toNatClampNeg = -1 from (ct_vi (hFc13.1 68 rfl) e25).trans c27)) g13_1.1 g13_1.2 e128 ⟨by exact (have a0 := in_u h1; have a1 := in_u i17; have a2 := in_u j13_3; have a3 := in_u ((in_c 0 rfl)); have oc := oc_88_65; by omega), by exact (have a0 := in_u h1; have a1 := in_u i17; have a2 := in_u j13_3; have a3 := in_u ((in_c 0 rfl)); have oc := oc_88_65; by omega), by exact (have a0 := in_u h1; have a1 := in_u i17; have a2 := in_u j13_3; have a3 := in_u ((in_c 0 rfl)); have oc := oc_88_65; by omega)⟩ e141 e149 e151)
            exact gg_w (by first | exact Nat.le_add_right _ _ | exact gw2 | exact gw3 | exact gwe rfl | exact gwf rfl | exact gwg rfl | exact gwh rfl | omega) (gg_f (gf_cons rfl (gf_cons rfl (gf_cons rfl (gf_cons rfl (gf_cons rfl gf_nil))))) (ct158 33 (sI (sI sc13 74 y13_3.toNatClampNeg z141) 74 x1.toNatClampNeg z151) y13_2 x1 (Int32.ofInt 0) hI152 (fr_sI rfl (fr_sI rfl hFc13)) (in_w 0 31 h1 rfl) (in_w 0 32 (in_c 0 rfl) rfl) n158 (m_in 33 (in_w 0 32 (in_c 0 rfl) rfl) rfl)))
        · skip
          have i27 := r_ne1 0 319 c27 i25 (in_c (-1) rfl) rfl
          refine g_aload_n 31 (gd rfl) rfl rfl ?_
          refine g_getA (q2 := 68) 34 (gd rfl) rfl rfl rfl rfl ?_
          refine g_iload_n 35 (gd rfl) rfl rfl ?_
          refine g_iaload 36 (gd rfl) rfl (n := 32) rfl (in_ix j13_3 rfl) (fun z35 e35 => ?_)
          have q35 : z25 = z35 := (e25).trans e35.symm
          subst q35
          refine g_iconst 1 37 (gd rfl) rfl rfl ?_
          refine g_ishr 38 (gd rfl) rfl (fun z37 e37 => ?_)
          have i37 := in_shrc 1 0 159 e37 i27 rfl rfl
          refine g_istore 40 (gd rfl) rfl (Nat.le_of_ble_eq_true rfl) ?_
          refine g_aload_n 41 (gd rfl) rfl rfl ?_
          refine g_getA (q2 := 68) 44 (gd rfl) rfl rfl rfl rfl ?_
          refine g_iload_n 45 (gd rfl) rfl rfl ?_
          refine g_iaload 46 (gd rfl) rfl (n := 32) rfl (in_ix j13_3 rfl) (fun z45 e45 => ?_)
          have q45 : z25 = z45 := (e25).trans e45.symm
          subst q45
          refine g_iconst 1 47 (gd rfl) rfl rfl ?_
          refine g_iand 48 (gd rfl) rfl (fun z47 e47 => ?_)
          have i47 := in_and2 e47 (in_c 1 rfl) rfl
          refine g_if_ne 51 55 (gd rfl) rfl rfl (fun c48 => ?_) (fun c48 => ?_)
          · skip
            have i48 := z_ne 1 1 c48 i47 rfl
            refine g_iconst 0 56 (gd rfl) rfl rfl ?_
            refine g_istore 58 (gd rfl) rfl (Nat.le_of_ble_eq_true rfl) ?_
            refine g_iload_n 59 (gd rfl) rfl rfl ?_
            refine g_iload 61 (gd rfl) rfl rfl ?_
            refine g_if_eq 64 82 (gd rfl) rfl rfl (fun c61 => ?_) (fun c61 => ?_)
            · skip
              refine g_aload_n 83 (gd rfl) rfl rfl ?_
              refine g_getA (q2 := 73) 86 (gd rfl) rfl rfl rfl rfl ?_
              refine g_iload 88 (gd rfl) rfl rfl ?_
              refine g_iaload 89 (gd rfl) rfl (n := 160) rfl (in_ix i37 rfl) (fun z88 e88 => ?_)
              refine g_calls (As := [.int y13_2, .int z88]) (r := []) 92 (gd rfl) rfl rfl rfl rfl rfl (Nat.le_of_ble_eq_true rfl) (mc := 0) (ms := 0) (Nat.zero_le _) (Nat.zero_le _) (P := fun v u => _) ?_ (fun v u h => h)
              intro po89 xx89 hp89 hx89
              refine g_enter2 (k := 424) (N := 300) (by first | exact dq1 hd rfl | exact dq0 hd rfl | exact dq2 hd rfl | exact dq3 hd rfl | omega) rfl (Nat.le_of_ble_eq_true rfl) ?_
              refine g_iload_n 1 (gd rfl) rfl rfl ?_
              refine g_iload_n 2 (gd rfl) rfl rfl ?_
              refine g_cmp_gt 5 9 (gd rfl) rfl rfl (fun c89x2 => ?_) (fun c89x2 => ?_)
              · skip
                have i89x2 := r_lt1 (-2147483648) 2147483646 c89x2 (i_rng z88) (i_rng y13_2) rfl
                have i89x2a := r_lt2 (-2147483647) 2147483647 c89x2 (i_rng z88) (i_rng y13_2) rfl
                refine g_iload_n 10 (gd rfl) rfl rfl ?_
                refine g_ireturn (gd rfl) rfl rfl (hp89 _ _ ?_)
                show GG _ _ _ _ _ _ _ _ [.int z88] _ _ _
                refine g_istore_n 93 (gd rfl) rfl (Nat.le_of_ble_eq_true rfl) ?_
                refine g_iload 95 (gd rfl) rfl rfl ?_
                refine g_if_eq 98 108 (gd rfl) rfl rfl (fun c95 => ?_) (fun c95 => ?_)
                · skip
                  refine g_aload_n 109 (gd rfl) rfl rfl ?_
                  refine g_getA (q2 := 70) 112 (gd rfl) rfl rfl rfl rfl ?_
                  refine g_iload 114 (gd rfl) rfl rfl ?_
                  refine g_iaload 115 (gd rfl) rfl (n := 160) rfl (in_ix i37 rfl) (fun z114 e114 => ?_)
                  have i114 := inv_I hIc13 (n := 160) (t := 0) 0 31 rfl (in_ix i37 rfl) rfl e114
                  refine g_istore_n 116 (gd rfl) rfl (Nat.le_of_ble_eq_true rfl) ?_
                  refine g_iinc 119 (gd rfl) rfl rfl (Nat.le_of_ble_eq_true rfl) (fun z116 e116 => ?_)
                  have i116 := in_add 1 32 e116 i17 (in_c 1 rfl) rfl rfl
                  refine g_goto 13 (gd rfl) rfl ?_
                  have n13 : ∀ (σ : Int) (n : Nat) (r : Nat → Nat), CTP σ n r s (x1).toNatClampNeg → CTA σ n r s (x1).toNatClampNeg (z114).toNatClampNeg (z116).toNatClampNeg (z88).toInt := by rw [(show (z116).toNatClampNeg = (y13_4).toNatClampNeg + 1 from (by show (z116).toInt.toNat = (y13_4).toInt.toNat + 1; exact (have a0 := in_u h1; have a1 := in_u i17; have a2 := in_u j13_3; have a3 := in_u ((in_c 0 rfl)); have a4 := in_u i37; have a5 := in_u i116; have a6 := t_add e116 i17 (in_c 1 rfl) rfl; have a7 := in_u ((in_c 1 rfl)); have a8 := in_u i114; have a9 := in_u i89x2; have oc := oc_88_65; by omega)))]; intro σ n r hC; exact ct_f2 hC (g13_0 σ n r hC) (hFc13.1 68 rfl) (hFc13.1 70 rfl) g13_1.1 e25 i27 e37 e47 c48 e88 e114 ⟨by exact (have a0 := in_u h1; have a1 := in_u i17; have a2 := in_u j13_3; have a3 := in_u ((in_c 0 rfl)); have a4 := in_u i37; have a5 := in_u i116; have a6 := t_add e116 i17 (in_c 1 rfl) rfl; have a7 := in_u ((in_c 1 rfl)); have a8 := in_u i114; have a9 := in_u i89x2; have oc := oc_88_65; by omega), by exact (have a0 := in_u h1; have a1 := in_u i17; have a2 := in_u j13_3; have a3 := in_u ((in_c 0 rfl)); have a4 := in_u i37; have a5 := in_u i116; have a6 := t_add e116 i17 (in_c 1 rfl) rfl; have a7 := in_u ((in_c 1 rfl)); have a8 := in_u i114; have a9 := in_u i89x2; have oc := oc_88_65; by omega), by exact (have a0 := in_u h1; have a1 := in_u i17; have a2 := in_u j13_3; have a3 := in_u ((in_c 0 rfl)); have a4 := in_u i37; have a5 := in_u i116; have a6 := t_add e116 i17 (in_c 1 rfl) rfl; have a7 := in_u ((in_c 1 rfl)); have a8 := in_u i114; have a9 := in_u i89x2; have oc := oc_88_65; by omega)⟩
                  have n13a : (sc13).1 73 = s.1 73 ∧ (sc13).1 74 = s.1 74 := by exact g13_1
                  exact gg_w (by first | exact Nat.le_add_right _ _ | exact gw2 | exact gw3 | exact gwe rfl | exact gwf rfl | exact gwg rfl | exact gwh rfl | omega) (gg_f (gf_cons rfl (gf_cons rfl (gf_cons rfl (gf_cons rfl (gf_cons rfl gf_nil))))) (ih13 sc13 z88 z114 z116 hIc13 hFc13 (in_w 0 31 i114 rfl) (in_w 0 32 i116 rfl) n13 n13a (m_up mm13 (t_add e116 i17 (in_c 1 rfl) rfl) (in_w 1 1 (in_c 1 rfl) rfl))))
                · skip
                  exact zn_ne c95 (in_c 0 rfl) rfl
              · skip
                refine g_iload_n 6 (gd rfl) rfl rfl ?_
                refine g_goto 10 (gd rfl) rfl ?_
                refine g_ireturn (gd rfl) rfl rfl (hp89 _ _ ?_)
                show GG _ _ _ _ _ _ _ _ [.int y13_2] _ _ _
                refine g_istore_n 93 (gd rfl) rfl (Nat.le_of_ble_eq_true rfl) ?_
                refine g_iload 95 (gd rfl) rfl rfl ?_
                refine g_if_eq 98 108 (gd rfl) rfl rfl (fun c95 => ?_) (fun c95 => ?_)
                · skip
                  refine g_aload_n 109 (gd rfl) rfl rfl ?_
                  refine g_getA (q2 := 70) 112 (gd rfl) rfl rfl rfl rfl ?_
                  refine g_iload 114 (gd rfl) rfl rfl ?_
                  refine g_iaload 115 (gd rfl) rfl (n := 160) rfl (in_ix i37 rfl) (fun z114 e114 => ?_)
                  have i114 := inv_I hIc13 (n := 160) (t := 0) 0 31 rfl (in_ix i37 rfl) rfl e114
                  refine g_istore_n 116 (gd rfl) rfl (Nat.le_of_ble_eq_true rfl) ?_
                  refine g_iinc 119 (gd rfl) rfl rfl (Nat.le_of_ble_eq_true rfl) (fun z116 e116 => ?_)
                  have i116 := in_add 1 32 e116 i17 (in_c 1 rfl) rfl rfl
                  refine g_goto 13 (gd rfl) rfl ?_
                  have n13 : ∀ (σ : Int) (n : Nat) (r : Nat → Nat), CTP σ n r s (x1).toNatClampNeg → CTA σ n r s (x1).toNatClampNeg (z114).toNatClampNeg (z116).toNatClampNeg (y13_2).toInt := by rw [(show (z116).toNatClampNeg = (y13_4).toNatClampNeg + 1 from (by show (z116).toInt.toNat = (y13_4).toInt.toNat + 1; exact (have a0 := in_u h1; have a1 := in_u i17; have a2 := in_u j13_3; have a3 := in_u ((in_c 0 rfl)); have a4 := in_u i37; have a5 := in_u i116; have a6 := t_add e116 i17 (in_c 1 rfl) rfl; have a7 := in_u ((in_c 1 rfl)); have a8 := in_u i114; have oc := oc_88_65; by omega)))]; intro σ n r hC; exact ct_f2 hC (g13_0 σ n r hC) (hFc13.1 68 rfl) (hFc13.1 70 rfl) g13_1.1 e25 i27 e37 e47 c48 e88 e114 ⟨by exact (have a0 := in_u h1; have a1 := in_u i17; have a2 := in_u j13_3; have a3 := in_u ((in_c 0 rfl)); have a4 := in_u i37; have a5 := in_u i116; have a6 := t_add e116 i17 (in_c 1 rfl) rfl; have a7 := in_u ((in_c 1 rfl)); have a8 := in_u i114; have oc := oc_88_65; by omega), by exact (have a0 := in_u h1; have a1 := in_u i17; have a2 := in_u j13_3; have a3 := in_u ((in_c 0 rfl)); have a4 := in_u i37; have a5 := in_u i116; have a6 := t_add e116 i17 (in_c 1 rfl) rfl; have a7 := in_u ((in_c 1 rfl)); have a8 := in_u i114; have oc := oc_88_65; by omega), by exact (have a0 := in_u h1; have a1 := in_u i17; have a2 := in_u j13_3; have a3 := in_u ((in_c 0 rfl)); have a4 := in_u i37; have a5 := in_u i116; have a6 := t_add e116 i17 (in_c 1 rfl) rfl; have a7 := in_u ((in_c 1 rfl)); have a8 := in_u i114; have oc := oc_88_65; by omega)⟩
                  have n13a : (sc13).1 73 = s.1 73 ∧ (sc13).1 74 = s.1 74 := by exact g13_1
                  exact gg_w (by first | exact Nat.le_add_right _ _ | exact gw2 | exact gw3 | exact gwe rfl | exact gwf rfl | exact gwg rfl | exact gwh rfl | omega) (gg_f (gf_cons rfl (gf_cons rfl (gf_cons rfl (gf_cons rfl (gf_cons rfl gf_nil))))) (ih13 sc13 y13_2 z114 z116 hIc13 hFc13 (in_w 0 31 i114 rfl) (in_w 0 32 i116 rfl) n13 n13a (m_up mm13 (t_add e116 i17 (in_c 1 rfl) rfl) (in_w 1 1 (in_c 1 rfl) rfl))))
                · skip
                  exact zn_ne c95 (in_c 0 rfl) rfl
            · skip
              exact zn_ne c61 (in_c 0 rfl) rfl
          · skip
            have i48 := z_eq 0 0 c48 i47 rfl
            refine g_iconst 1 52 (gd rfl) rfl rfl ?_
            refine g_goto 56 (gd rfl) rfl ?_
            refine g_istore 58 (gd rfl) rfl (Nat.le_of_ble_eq_true rfl) ?_
            refine g_iload_n 59 (gd rfl) rfl rfl ?_
            refine g_iload 61 (gd rfl) rfl rfl ?_
            refine g_if_eq 64 82 (gd rfl) rfl rfl (fun c61 => ?_) (fun c61 => ?_)
            · skip
              exact zn_eq c61 (in_c 1 rfl) rfl
            · skip
              refine g_aload_n 65 (gd rfl) rfl rfl ?_
              refine g_getA (q2 := 72) 68 (gd rfl) rfl rfl rfl rfl ?_
              refine g_iload 70 (gd rfl) rfl rfl ?_
              refine g_iaload 71 (gd rfl) rfl (n := 160) rfl (in_ix i37 rfl) (fun z70 e70 => ?_)
              have i70 := inv_I hIc13 (n := 160) (t := 0) 0 1000000 rfl (in_ix i37 rfl) rfl e70
              refine g_aload_n 72 (gd rfl) rfl rfl ?_
              refine g_getA (q2 := 73) 75 (gd rfl) rfl rfl rfl rfl ?_
              refine g_iload 77 (gd rfl) rfl rfl ?_
              refine g_iaload 78 (gd rfl) rfl (n := 160) rfl (in_ix i37 rfl) (fun z77 e77 => ?_)
              refine g_isub 79 (gd rfl) rfl (fun z78 e78 => ?_)
              refine g_goto 89 (gd rfl) rfl ?_
              refine g_calls (As := [.int y13_2, .int z78]) (r := []) 92 (gd rfl) rfl rfl rfl rfl rfl (Nat.le_of_ble_eq_true rfl) (mc := 0) (ms := 0) (Nat.zero_le _) (Nat.zero_le _) (P := fun v u => _) ?_ (fun v u h => h)
              intro po89 xx89 hp89 hx89
              refine g_enter2 (k := 424) (N := 300) (by first | exact dq1 hd rfl | exact dq0 hd rfl | exact dq2 hd rfl | exact dq3 hd rfl | omega) rfl (Nat.le_of_ble_eq_true rfl) ?_
              refine g_iload_n 1 (gd rfl) rfl rfl ?_
              refine g_iload_n 2 (gd rfl) rfl rfl ?_
              refine g_cmp_gt 5 9 (gd rfl) rfl rfl (fun c89x2 => ?_) (fun c89x2 => ?_)
              · skip
                have i89x2 := r_lt1 (-2147483648) 2147483646 c89x2 (i_rng z78) (i_rng y13_2) rfl
                have i89x2a := r_lt2 (-2147483647) 2147483647 c89x2 (i_rng z78) (i_rng y13_2) rfl
                refine g_iload_n 10 (gd rfl) rfl rfl ?_
                refine g_ireturn (gd rfl) rfl rfl (hp89 _ _ ?_)
                show GG _ _ _ _ _ _ _ _ [.int z78] _ _ _
                refine g_istore_n 93 (gd rfl) rfl (Nat.le_of_ble_eq_true rfl) ?_
                refine g_iload 95 (gd rfl) rfl rfl ?_
                refine g_if_eq 98 108 (gd rfl) rfl rfl (fun c95 => ?_) (fun c95 => ?_)
                · skip
                  exact zn_eq c95 (in_c 1 rfl) rfl
                · skip
                  refine g_aload_n 99 (gd rfl) rfl rfl ?_
                  refine g_getA (q2 := 69) 102 (gd rfl) rfl rfl rfl rfl ?_
                  refine g_iload 104 (gd rfl) rfl rfl ?_
                  refine g_iaload 105 (gd rfl) rfl (n := 160) rfl (in_ix i37 rfl) (fun z104 e104 => ?_)
                  have i104 := inv_I hIc13 (n := 160) (t := 0) 0 31 rfl (in_ix i37 rfl) rfl e104
                  refine g_goto 115 (gd rfl) rfl ?_
                  refine g_istore_n 116 (gd rfl) rfl (Nat.le_of_ble_eq_true rfl) ?_
                  refine g_iinc 119 (gd rfl) rfl rfl (Nat.le_of_ble_eq_true rfl) (fun z116 e116 => ?_)
                  have i116 := in_add 1 32 e116 i17 (in_c 1 rfl) rfl rfl
                  refine g_goto 13 (gd rfl) rfl ?_
                  have n13 : ∀ (σ : Int) (n : Nat) (r : Nat → Nat), CTP σ n r s (x1).toNatClampNeg → CTA σ n r s (x1).toNatClampNeg (z104).toNatClampNeg (z116).toNatClampNeg (z78).toInt := by rw [(show (z116).toNatClampNeg = (y13_4).toNatClampNeg + 1 from (by show (z116).toInt.toNat = (y13_4).toInt.toNat + 1; exact (have a0 := in_u h1; have a1 := in_u i17; have a2 := in_u j13_3; have a3 := in_u ((in_c 1 rfl)); have a4 := in_u i37; have a5 := in_u i116; have a6 := t_add e116 i17 (in_c 1 rfl) rfl; have a7 := in_u i104; have a8 := in_u i89x2; have oc := oc_88_65; by omega)))]; intro σ n r hC; exact ct_f hC (g13_0 σ n r hC) (hFc13.1 68 rfl) (hFc13.1 69 rfl) (hFc13.1 72 rfl) g13_1.1 e25 i27 e37 e47 c48 e70 e77 e78 e104 ⟨by exact (have a0 := in_u h1; have a1 := in_u i17; have a2 := in_u j13_3; have a3 := in_u ((in_c 1 rfl)); have a4 := in_u i37; have a5 := in_u i116; have a6 := t_add e116 i17 (in_c 1 rfl) rfl; have a7 := in_u i104; have a8 := in_u i89x2; have oc := oc_88_65; by omega), by exact (have a0 := in_u h1; have a1 := in_u i17; have a2 := in_u j13_3; have a3 := in_u ((in_c 1 rfl)); have a4 := in_u i37; have a5 := in_u i116; have a6 := t_add e116 i17 (in_c 1 rfl) rfl; have a7 := in_u i104; have a8 := in_u i89x2; have oc := oc_88_65; by omega), by exact (have a0 := in_u h1; have a1 := in_u i17; have a2 := in_u j13_3; have a3 := in_u ((in_c 1 rfl)); have a4 := in_u i37; have a5 := in_u i116; have a6 := t_add e116 i17 (in_c 1 rfl) rfl; have a7 := in_u i104; have a8 := in_u i89x2; have oc := oc_88_65; by omega)⟩
                  have n13a : (sc13).1 73 = s.1 73 ∧ (sc13).1 74 = s.1 74 := by exact g13_1
                  exact gg_w (by first | exact Nat.le_add_right _ _ | exact gw2 | exact gw3 | exact gwe rfl | exact gwf rfl | exact gwg rfl | exact gwh rfl | omega) (gg_f (gf_cons rfl (gf_cons rfl (gf_cons rfl (gf_cons rfl (gf_cons rfl gf_nil))))) (ih13 sc13 z78 z104 z116 hIc13 hFc13 (in_w 0 31 i104 rfl) (in_w 0 32 i116 rfl) n13 n13a (m_up mm13 (t_add e116 i17 (in_c 1 rfl) rfl) (in_w 1 1 (in_c 1 rfl) rfl))))
              · skip
                refine g_iload_n 6 (gd rfl) rfl rfl ?_
                refine g_goto 10 (gd rfl) rfl ?_
                refine g_ireturn (gd rfl) rfl rfl (hp89 _ _ ?_)
                show GG _ _ _ _ _ _ _ _ [.int y13_2] _ _ _
                refine g_istore_n 93 (gd rfl) rfl (Nat.le_of_ble_eq_true rfl) ?_
                refine g_iload 95 (gd rfl) rfl rfl ?_
                refine g_if_eq 98 108 (gd rfl) rfl rfl (fun c95 => ?_) (fun c95 => ?_)
                · skip
                  exact zn_eq c95 (in_c 1 rfl) rfl
                · skip
                  refine g_aload_n 99 (gd rfl) rfl rfl ?_
                  refine g_getA (q2 := 69) 102 (gd rfl) rfl rfl rfl rfl ?_
                  refine g_iload 104 (gd rfl) rfl rfl ?_
                  refine g_iaload 105 (gd rfl) rfl (n := 160) rfl (in_ix i37 rfl) (fun z104 e104 => ?_)
                  have i104 := inv_I hIc13 (n := 160) (t := 0) 0 31 rfl (in_ix i37 rfl) rfl e104
                  refine g_goto 115 (gd rfl) rfl ?_
                  refine g_istore_n 116 (gd rfl) rfl (Nat.le_of_ble_eq_true rfl) ?_
                  refine g_iinc 119 (gd rfl) rfl rfl (Nat.le_of_ble_eq_true rfl) (fun z116 e116 => ?_)
                  have i116 := in_add 1 32 e116 i17 (in_c 1 rfl) rfl rfl
                  refine g_goto 13 (gd rfl) rfl ?_
                  have n13 : ∀ (σ : Int) (n : Nat) (r : Nat → Nat), CTP σ n r s (x1).toNatClampNeg → CTA σ n r s (x1).toNatClampNeg (z104).toNatClampNeg (z116).toNatClampNeg (y13_2).toInt := by rw [(show (z116).toNatClampNeg = (y13_4).toNatClampNeg + 1 from (by show (z116).toInt.toNat = (y13_4).toInt.toNat + 1; exact (have a0 := in_u h1; have a1 := in_u i17; have a2 := in_u j13_3; have a3 := in_u ((in_c 1 rfl)); have a4 := in_u i37; have a5 := in_u i116; have a6 := t_add e116 i17 (in_c 1 rfl) rfl; have a7 := in_u i104; have oc := oc_88_65; by omega)))]; intro σ n r hC; exact ct_f hC (g13_0 σ n r hC) (hFc13.1 68 rfl) (hFc13.1 69 rfl) (hFc13.1 72 rfl) g13_1.1 e25 i27 e37 e47 c48 e70 e77 e78 e104 ⟨by exact (have a0 := in_u h1; have a1 := in_u i17; have a2 := in_u j13_3; have a3 := in_u ((in_c 1 rfl)); have a4 := in_u i37; have a5 := in_u i116; have a6 := t_add e116 i17 (in_c 1 rfl) rfl; have a7 := in_u i104; have oc := oc_88_65; by omega), by exact (have a0 := in_u h1; have a1 := in_u i17; have a2 := in_u j13_3; have a3 := in_u ((in_c 1 rfl)); have a4 := in_u i37; have a5 := in_u i116; have a6 := t_add e116 i17 (in_c 1 rfl) rfl; have a7 := in_u i104; have oc := oc_88_65; by omega), by exact (have a0 := in_u h1; have a1 := in_u i17; have a2 := in_u j13_3; have a3 := in_u ((in_c 1 rfl)); have a4 := in_u i37; have a5 := in_u i116; have a6 := t_add e116 i17 (in_c 1 rfl) rfl; have a7 := in_u i104; have oc := oc_88_65; by omega)⟩
                  have n13a : (sc13).1 73 = s.1 73 ∧ (sc13).1 74 = s.1 74 := by exact g13_1
                  exact gg_w (by first | exact Nat.le_add_right _ _ | exact gw2 | exact gw3 | exact gwe rfl | exact gwf rfl | exact gwg rfl | exact gwh rfl | omega) (gg_f (gf_cons rfl (gf_cons rfl (gf_cons rfl (gf_cons rfl (gf_cons rfl gf_nil))))) (ih13 sc13 y13_2 z104 z116 hIc13 hFc13 (in_w 0 31 i104 rfl) (in_w 0 32 i116 rfl) n13 n13a (m_up mm13 (t_add e116 i17 (in_c 1 rfl) rfl) (in_w 1 1 (in_c 1 rfl) rfl))))
  refine g_enter2 (k := 88) (N := 60302) (by first | exact dq1 hd rfl | exact dq0 hd rfl | exact dq2 hd rfl | exact dq3 hd rfl | omega) rfl (Nat.le_of_ble_eq_true rfl) ?_
  refine g_aload_n 1 (gd rfl) rfl rfl ?_
  refine g_getA (q2 := 74) 4 (gd rfl) rfl rfl rfl rfl ?_
  refine g_iload_n 5 (gd rfl) rfl rfl ?_
  refine g_iaload 6 (gd rfl) rfl (n := 32) rfl (in_ix h1 rfl) (fun z5 e5 => ?_)
  refine g_ineg 7 (gd rfl) rfl (fun z6 e6 => ?_)
  refine g_istore_n 8 (gd rfl) rfl (Nat.le_of_ble_eq_true rfl) ?_
  refine g_iload_n 9 (gd rfl) rfl rfl ?_
  refine g_istore_n 10 (gd rfl) rfl (Nat.le_of_ble_eq_true rfl) ?_
  refine g_iconst 0 11 (gd rfl) rfl rfl ?_
  refine g_istore 13 (gd rfl) rfl (Nat.le_of_ble_eq_true rfl) ?_
  have n13 : ∀ (σ : Int) (n : Nat) (r : Nat → Nat), CTP σ n r s (x1).toNatClampNeg → CTA σ n r s (x1).toNatClampNeg (x1).toNatClampNeg ((Int32.ofInt 0)).toNatClampNeg (z6).toInt := by intro σ n r hC; exact (show CTA _ _ _ _ _ _ 0 _ from cta_0 hC ((ineg_v e6 (by have h9 := hC.2.2.2.2.2.2.2 _ hC.2.2.2.2.1; rw [e5]; exact Int.le_trans (by decide) h9.1)).trans (by rw [e5]; rfl)))
  have n13a : (s).1 73 = s.1 73 ∧ (s).1 74 = s.1 74 := by exact ⟨rfl, rfl⟩
  exact gg_w (by first | exact Nat.le_of_ble_eq_true rfl | omega) (gg_f (gf_cons rfl (gf_cons rfl (gf_cons rfl (gf_cons rfl (gf_cons rfl gf_nil))))) (ct13 33 s z6 x1 (Int32.ofInt 0) hI fr_rf (in_w 0 31 h1 rfl) (in_w 0 32 (in_c 0 rfl) rfl) n13 n13a (m_in 33 (in_w 0 32 (in_c 0 rfl) rfl) rfl)))
theorem oc_84_65 : (Int32.ofInt (-1)).toInt = (-1) ∧ (Int32.ofInt 0).toInt = 0 ∧ (Int32.ofInt 1).toInt = 1 ∧ (Int32.ofInt 160).toInt = 160 := ⟨rfl, rfl, rfl, rfl⟩
/-- GraphHouse$Flows.lay -/
theorem f_84_65 {Z : AmZ} {A : Nat → Nat} {s : GS} {ex : va_W} {d : Nat} {X : AmX} {x1 : Int32} {x2 : Int32} {x3 : Int32} {x4 : Int32} (hd : 1 ≤ d) (hI : Inv s) (h1 : In x1 0 31) (h2 : In x2 0 31) (h3 : In x3 (-1000000) 1000000) (h4 : In x4 0 1000000) : GC Z d 84 [.ref (A 65), .int x1, .int x2, .int x3, .int x4] (WW Z A s ++ ex) 0 0 (fun v u => ∃ t : GS, Inv t ∧ Fr fm_84_65 s t ∧ v = none ∧ u = WW Z A t ++ ex ∧ ((s.2.2.1 65 8).toInt < 160 → LYD s t x1 x2 x3 x4)) X := by
  intro post xp hP hX
  refine g_enter2 (k := 84) (N := 900) (by first | exact dq1 hd rfl | exact dq0 hd rfl | exact dq2 hd rfl | exact dq3 hd rfl | omega) rfl (Nat.le_of_ble_eq_true rfl) ?_
  refine g_aload_n 1 (gd rfl) rfl rfl ?_
  refine g_getI 4 (gd rfl) rfl rfl rfl (fun z1 e1 => ?_)
  have i1 := inv_F hI 0 160 rfl e1
  refine g_sipush 160 7 (gd rfl) rfl rfl ?_
  refine g_cmp_ge 10 71 (gd rfl) rfl rfl (fun c7 => ?_) (fun c7 => ?_)
  · skip
    have i7 := r_le2 160 160 c7 (in_c 160 rfl) i1 rfl
    have n71 : (s.2.2.1 65 8).toInt < 160 → LYD s s x1 x2 x3 x4 := by intro h9; exfalso; rw [← e1] at h9; exact (have a0 := in_u h4; have a1 := in_u h3; have a2 := in_u h2; have a3 := in_u h1; have a4 := in_u i7; have oc := oc_84_65; by omega)
    exact g_return (gd rfl) rfl (hP _ _ ⟨s, hI, fr_rf, rfl, rfl, n71⟩)
  · skip
    have i7 := r_lt1 0 159 c7 i1 (in_c 160 rfl) rfl
    refine g_aload_n 11 (gd rfl) rfl rfl ?_
    refine g_getA (q2 := 69) 14 (gd rfl) rfl rfl rfl rfl ?_
    refine g_aload_n 15 (gd rfl) rfl rfl ?_
    refine g_getI 18 (gd rfl) rfl rfl rfl (fun z15 e15 => ?_)
    have q15 : z1 = z15 := (e1).trans e15.symm
    subst q15
    refine g_iload_n 19 (gd rfl) rfl rfl ?_
    refine g_iastore 20 (gd rfl) rfl (n := 160) rfl (in_ix i7 rfl) ?_
    have hI19 := inv_sI (q := 69) (j := z1.toNatClampNeg) hI rfl (in_w 0 31 h1 rfl)
    refine g_aload_n 21 (gd rfl) rfl rfl ?_
    refine g_getA (q2 := 70) 24 (gd rfl) rfl rfl rfl rfl ?_
    refine g_aload_n 25 (gd rfl) rfl rfl ?_
    refine g_getI 28 (gd rfl) rfl rfl rfl (fun z25 e25 => ?_)
    have q25 : z1 = z25 := (sI_F (e1)).trans e25.symm
    subst q25
    refine g_iload_n 29 (gd rfl) rfl rfl ?_
    refine g_iastore 30 (gd rfl) rfl (n := 160) rfl (in_ix i7 rfl) ?_
    have hI29 := inv_sI (q := 70) (j := z1.toNatClampNeg) hI19 rfl (in_w 0 31 h2 rfl)
    refine g_aload_n 31 (gd rfl) rfl rfl ?_
    refine g_getA (q2 := 71) 34 (gd rfl) rfl rfl rfl rfl ?_
    refine g_aload_n 35 (gd rfl) rfl rfl ?_
    refine g_getI 38 (gd rfl) rfl rfl rfl (fun z35 e35 => ?_)
    have q35 : z1 = z35 := (sI_F (sI_F (e1))).trans e35.symm
    subst q35
    refine g_iload_n 39 (gd rfl) rfl rfl ?_
    refine g_iastore 40 (gd rfl) rfl (n := 160) rfl (in_ix i7 rfl) ?_
    have hI39 := inv_sI (q := 71) (j := z1.toNatClampNeg) hI29 rfl (in_w (-1000000) 1000000 h3 rfl)
    refine g_aload_n 41 (gd rfl) rfl rfl ?_
    refine g_getA (q2 := 72) 44 (gd rfl) rfl rfl rfl rfl ?_
    refine g_aload_n 45 (gd rfl) rfl rfl ?_
    refine g_getI 48 (gd rfl) rfl rfl rfl (fun z45 e45 => ?_)
    have q45 : z1 = z45 := (sI_F (sI_F (sI_F (e1)))).trans e45.symm
    subst q45
    refine g_iload 50 (gd rfl) rfl rfl ?_
    refine g_iastore 51 (gd rfl) rfl (n := 160) rfl (in_ix i7 rfl) ?_
    have hI50 := inv_sI (q := 72) (j := z1.toNatClampNeg) hI39 rfl (in_w 0 1000000 h4 rfl)
    refine g_aload_n 52 (gd rfl) rfl rfl ?_
    refine g_getA (q2 := 73) 55 (gd rfl) rfl rfl rfl rfl ?_
    refine g_aload_n 56 (gd rfl) rfl rfl ?_
    refine g_getI 59 (gd rfl) rfl rfl rfl (fun z56 e56 => ?_)
    have q56 : z1 = z56 := (sI_F (sI_F (sI_F (sI_F (e1))))).trans e56.symm
    subst q56
    refine g_iconst 0 60 (gd rfl) rfl rfl ?_
    refine g_iastore 61 (gd rfl) rfl (n := 160) rfl (in_ix i7 rfl) ?_
    have hI60 := inv_sI (q := 73) (j := z1.toNatClampNeg) hI50 rfl (in_w (-2147483648) 2147483647 (in_c 0 rfl) rfl)
    refine g_aload_n 62 (gd rfl) rfl rfl ?_
    refine g_dup 63 (gd rfl) rfl rfl ?_
    refine g_getI 66 (gd rfl) rfl rfl rfl (fun z63 e63 => ?_)
    have q63 : z1 = z63 := (sI_F (sI_F (sI_F (sI_F (sI_F (e1)))))).trans e63.symm
    subst q63
    refine g_iconst 1 67 (gd rfl) rfl rfl ?_
    refine g_iadd 68 (gd rfl) rfl (fun z67 e67 => ?_)
    have i67 := in_add 1 160 e67 i7 (in_c 1 rfl) rfl rfl
    refine g_putI 71 (gd rfl) rfl rfl rfl rfl ?_
    have hI68 := inv_sF (q := 65) (j := 8) hI60 rfl (in_w 0 160 i67 rfl)
    have n71 : (s.2.2.1 65 8).toInt < 160 → LYD s (sF (sI (sI (sI (sI (sI s 69 z1.toNatClampNeg x1) 70 z1.toNatClampNeg x2) 71 z1.toNatClampNeg x3) 72 z1.toNatClampNeg x4) 73 z1.toNatClampNeg (Int32.ofInt 0)) 65 8 z67) x1 x2 x3 x4 := by intro _; exact lyd_i e1 (by exact (have a0 := in_u h4; have a1 := in_u h3; have a2 := in_u h2; have a3 := in_u h1; have a4 := in_u i67; have a5 := t_add e67 i7 (in_c 1 rfl) rfl; have a6 := in_u ((in_c 1 rfl)); have a7 := in_u i7; have oc := oc_84_65; by omega))
    exact g_return (gd rfl) rfl (hP _ _ ⟨(sF (sI (sI (sI (sI (sI s 69 z1.toNatClampNeg x1) 70 z1.toNatClampNeg x2) 71 z1.toNatClampNeg x3) 72 z1.toNatClampNeg x4) 73 z1.toNatClampNeg (Int32.ofInt 0)) 65 8 z67), hI68, (fr_sF rfl (fr_sI rfl (fr_sI rfl (fr_sI rfl (fr_sI rfl (fr_sI rfl fr_rf)))))), rfl, rfl, n71⟩)
theorem oc_89_65_2 : (Int32.ofInt (-1)).toInt = (-1) ∧ (Int32.ofInt 0).toInt = 0 ∧ (Int32.ofInt 1).toInt = 1 ∧ (Int32.ofInt 13).toInt = 13 ∧ (Int32.ofInt 32).toInt = 32 ∧ (Int64.ofInt 0).toInt = 0 := ⟨rfl, rfl, rfl, rfl, rfl, rfl⟩
set_option maxHeartbeats 2000000 in
/-- GraphHouse$Flows.pair -/
theorem f_89_65_2 {Z : AmZ} {A : Nat → Nat} {s : GS} {ex : va_W} {d : Nat} {X : AmX}  (hd : 4 ≤ d) (hI : Inv s) (q_0 : TQ s) (q_1 : NDQ (gvC s)) (q_2 : PRB (gvC s) s) : GC Z d 89 [.ref (A 65), .ref (A 2)] (WW Z A s ++ ex) 0 0 (fun v u => ∃ t : GS, Inv t ∧ Fr fm_89_65_2 s t ∧ v = none ∧ u = WW Z A t ++ ex ∧ (PRQ (gvC s) t)) X := by
  intro post xp hP hX
  obtain ⟨u_2_0, e_2_0⟩ : ∃ w, w = s.2.2.1 2 0 := ⟨_, rfl⟩
  have ro_2_0 := inv_F hI 0 4000 rfl e_2_0
  obtain ⟨u_2_1, e_2_1⟩ : ∃ w, w = s.2.2.1 2 1 := ⟨_, rfl⟩
  have ro_2_1 := inv_F hI 0 32 rfl e_2_1
  obtain ⟨u_2_3, e_2_3⟩ : ∃ w, w = s.2.2.1 2 3 := ⟨_, rfl⟩
  have ro_2_3 := inv_F hI 0 160 rfl e_2_3
  have ct179 : ∀ (k179 : Nat) (sc179 : GS) (y179_2 : Int32) (w179_65_17 : Int32), Inv sc179 → Fr fm_89_65_2 s sc179 → (In y179_2 0 32) → (w179_65_17 = sc179.2.2.1 65 17) → ((w179_65_17).toInt ≤ (y179_2).toInt) → (PNS (gvC s) (s.2.2.1 2 1).toNatClampNeg sc179) → (((sc179).2.2.1 65 17).toInt = (y179_2).toInt) → ((sc179).2.2.1 65 16 = s.2.2.1 2 0) → 32 - (y179_2).toInt < (k179 : Int) → GG Z (d - 1) 89 post (gx xp) (1 + k179 * 900) 179 (fun j => xlook j [(0, .ref (A 65)), (1, .ref (A 2)), (2, .int y179_2)]) [] (WW Z A sc179 ++ ex) 0 0 := by
    intro k179
    induction k179 with
    | zero => intro sc179 y179_2 w179_65_17 hIc179 hFc179 j179_2 v179_65_17 n179_0 g179_0 g179_1 g179_2 mm179; exact m_no mm179 j179_2 rfl
    | succ k179 ih179 =>
      intro sc179 y179_2 w179_65_17 hIc179 hFc179 j179_2 v179_65_17 n179_0 g179_0 g179_1 g179_2 mm179
      refine gg_w (M := 1 + k179 * 900 + 900) gws ?_
      refine g_iload_n 180 (gd rfl) rfl rfl ?_
      refine g_bipush 32 182 (gd rfl) rfl rfl ?_
      refine g_cmp_ge 185 231 (gd rfl) rfl rfl (fun c182 => ?_) (fun c182 => ?_)
      · skip
        have i182 := r_le2 32 32 c182 (in_c 32 rfl) j179_2 rfl
        have n231 : PRQ (gvC s) sc179 := by exfalso; have h9 := pns_x (gok_C hI q_1) g179_0; have h8 := g179_1; exact (have a0 := in_u ro_2_3; have a1 := in_u ro_2_1; have a2 := in_u ro_2_0; have a3 := in_u ((inv_F hIc179 0 32 rfl v179_65_17)); have a4 := in_u i182; have oc := oc_89_65_2; by omega)
        exact g_return (gd rfl) rfl (hP _ _ ⟨sc179, hIc179, hFc179, rfl, rfl, n231⟩)
      · skip
        have i182 := r_lt1 0 31 c182 j179_2 (in_c 32 rfl) rfl
        refine g_aload_n 186 (gd rfl) rfl rfl ?_
        refine g_aload_n 187 (gd rfl) rfl rfl ?_
        refine g_getI 190 (gd rfl) rfl rfl rfl (fun z187 e187 => ?_)
        have q187 : u_2_1 = z187 := (fr_F e_2_1 hFc179 rfl).trans e187.symm
        subst q187
        refine g_iconst 1 191 (gd rfl) rfl rfl ?_
        have p191 : NLP sc179 ((Int32.ofInt 1)).toInt (u_2_1).toNatClampNeg := by rw [e_2_1]; exact (show NLP sc179 1 _ from pnb_n (gok_C hI q_1) g179_0.1)
        refine g_callv (X := _) (As := [.int u_2_1, .int (Int32.ofInt 1)]) (r := []) (b := A 65) (q := 65) 194 (gd rfl) rfl rfl rfl rfl rfl (ww_o rfl) (Nat.le_of_ble_eq_true rfl) (Nat.zero_le _) (Nat.zero_le _) (f_85_65 (by first | exact dq1 hd rfl | exact dq0 hd rfl | exact dq2 hd rfl | exact dq3 hd rfl | omega) hIc179 (in_w 0 32 ro_2_1 rfl) (in_w 1 65536 (in_c 1 rfl) rfl) p191) (fun e u h => h) (fun v u h => ?_)
        obtain ⟨s191, hI191, hF191, z191, rfl, rfl, i191, p191a, p191b⟩ := h
        show GG _ _ _ _ _ _ _ _ [.int z191] _ _ _
        refine g_istore_n 195 (gd rfl) rfl (Nat.le_of_ble_eq_true rfl) ?_
        refine g_iload_n 196 (gd rfl) rfl rfl ?_
        refine g_iconst (-1) 197 (gd rfl) rfl rfl ?_
        refine g_cmp_ne 200 201 (gd rfl) rfl rfl (fun c197 => ?_) (fun c197 => ?_)
        · skip
          have i197 := r_ne1 0 31 c197 i191 (in_c (-1) rfl) rfl
          refine g_aload_n 202 (gd rfl) rfl rfl ?_
          refine g_dup 203 (gd rfl) rfl rfl ?_
          refine g_getL 206 (gd rfl) rfl rfl rfl (fun z203 e203 => ?_)
          refine g_aload_n 207 (gd rfl) rfl rfl ?_
          refine g_iload_n 208 (gd rfl) rfl rfl ?_
          refine g_callv (X := _) (As := [.int z191]) (r := [.long z203, .ref (A 65)]) (b := A 65) (q := 65) 211 (gd rfl) rfl rfl rfl rfl rfl (ww_o rfl) (Nat.le_of_ble_eq_true rfl) (Nat.zero_le _) (Nat.zero_le _) (f_88_65 (by first | exact dq1 hd rfl | exact dq0 hd rfl | exact dq2 hd rfl | exact dq3 hd rfl | omega) hI191 (in_w 0 31 i197 rfl)) (fun e u h => h) (fun v u h => ?_)
          obtain ⟨s208, hI208, hF208, z208, rfl, rfl, p208⟩ := h
          show GG _ _ _ _ _ _ _ _ [.long z208, .long z203, .ref (A 65)] _ _ _
          refine g_ladd 212 (gd rfl) rfl (fun z211 e211 => ?_)
          refine g_putL 215 (gd rfl) rfl rfl rfl rfl ?_
          have hI212 := inv_sG (q := 65) (j := 18) (x := z211) hI208 rfl (l_rng z211)
          refine g_aload_n 216 (gd rfl) rfl rfl ?_
          refine g_dup 217 (gd rfl) rfl rfl ?_
          refine g_getI 220 (gd rfl) rfl rfl rfl (fun z217 e217 => ?_)
          have q217 : w179_65_17 = z217 := (sG_F (fr_F (fr_F (v179_65_17) hF191 rfl) hF208 rfl)).trans e217.symm
          subst q217
          refine g_iconst 1 221 (gd rfl) rfl rfl ?_
          refine g_iadd 222 (gd rfl) rfl (fun z221 e221 => ?_)
          have i221 := in_add 1 33 e221 (inv_F hIc179 0 32 rfl v179_65_17) (in_c 1 rfl) rfl rfl
          have i222 : In z221 0 32 := by exact (have a0 := in_u ro_2_3; have a1 := in_u ro_2_1; have a2 := in_u ro_2_0; have a3 := in_u ((inv_F hIc179 0 32 rfl v179_65_17)); have a4 := in_u i182; have a5 := in_u i197; have a6 := in_u i221; have a7 := t_add e221 (inv_F hIc179 0 32 rfl v179_65_17) (in_c 1 rfl) rfl; have a8 := in_u ((in_c 1 rfl)); have oc := oc_89_65_2; ⟨by omega, by omega⟩)
          refine g_putI 225 (gd rfl) rfl rfl rfl rfl ?_
          have hI222 := inv_sF (q := 65) (j := 17) hI212 rfl (in_w 0 32 i222 rfl)
          refine g_iinc 228 (gd rfl) rfl rfl (Nat.le_of_ble_eq_true rfl) (fun z225 e225 => ?_)
          have i225 := in_add 1 32 e225 i182 (in_c 1 rfl) rfl rfl
          refine g_goto 179 (gd rfl) rfl ?_
          have v179 : z221 = (sF (sG s208 65 18 z211) 65 17 z221).2.2.1 65 17 := sF_get
          have n179 : (z221).toInt ≤ (z225).toInt := by exact (have a0 := in_u ro_2_3; have a1 := in_u ro_2_1; have a2 := in_u ro_2_0; have a3 := in_u ((inv_F hIc179 0 32 rfl v179_65_17)); have a4 := in_u i182; have a5 := in_u i197; have a6 := in_u i225; have a7 := t_add e225 i182 (in_c 1 rfl) rfl; have a8 := in_u ((in_c 1 rfl)); have a9 := in_u i222; have a10 := t_add e221 (inv_F hIc179 0 32 rfl v179_65_17) (in_c 1 rfl) rfl; have oc := oc_89_65_2; by omega)
          have n179a : PNS (gvC s) (s.2.2.1 2 1).toNatClampNeg (sF (sG s208 65 18 z211) 65 17 z221) := by exact pns_s (gok_C hI q_1) g179_0 (net_fr hF191 rfl) (fi_fr hF191 rfl) (ex_fr hF191 rfl) (show ∃ r : Nat → Nat, NLF (netC sc179) (fiC sc179) 1 (s.2.2.1 2 1).toNatClampNeg (exC sc179) (faC s191) (viC s191) r from (by rw [← e_2_1]; exact p191a)) (show NBT (exC sc179) (faC s191) 1 (s.2.2.1 2 1).toNatClampNeg (z191).toInt from (by rw [← e_2_1]; exact p191b)) c197 p208 (net_fr hF208 rfl) (show (z221).toInt = (sc179.2.2.1 65 17).toInt + 1 from (by rw [← v179_65_17]; exact (have a0 := in_u ro_2_3; have a1 := in_u ro_2_1; have a2 := in_u ro_2_0; have a3 := in_u ((inv_F hIc179 0 32 rfl v179_65_17)); have a4 := in_u i182; have a5 := in_u i197; have a6 := in_u i225; have a7 := t_add e225 i182 (in_c 1 rfl) rfl; have a8 := in_u ((in_c 1 rfl)); have a9 := in_u i222; have a10 := t_add e221 (inv_F hIc179 0 32 rfl v179_65_17) (in_c 1 rfl) rfl; have oc := oc_89_65_2; by omega))) (e203.trans (hF191.2.2.2 65 18 rfl)) e211 (net_fr (show Fr ([], [], [(65, 17)], [(65, 18)]) s208 (sF (sG s208 65 18 z211) 65 17 z221) from fr_sF rfl (fr_sG rfl fr_rf)) rfl) (fi_fr (show Fr ([], [], [(65, 17)], [(65, 18)]) s208 (sF (sG s208 65 18 z211) 65 17 z221) from fr_sF rfl (fr_sG rfl fr_rf)) rfl) (ex_fr (show Fr ([], [], [(65, 17)], [(65, 18)]) s208 (sF (sG s208 65 18 z211) 65 17 z221) from fr_sF rfl (fr_sG rfl fr_rf)) rfl) (show (sF (sG s208 65 18 z211) 65 17 z221).2.2.1 65 17 = z221 from (by simp [sF])) (show (sF (sG s208 65 18 z211) 65 17 z221).2.2.2.1 65 18 = z211 from (by simp [sF, sG]))
          have n179b : (((sF (sG s208 65 18 z211) 65 17 z221)).2.2.1 65 17).toInt = (z225).toInt := by rw [(show (sF (sG s208 65 18 z211) 65 17 z221).2.2.1 65 17 = z221 from (by simp [sF]))]; have h9 := g179_1; rw [← v179_65_17] at h9; exact (have a0 := in_u ro_2_3; have a1 := in_u ro_2_1; have a2 := in_u ro_2_0; have a3 := in_u ((inv_F hIc179 0 32 rfl v179_65_17)); have a4 := in_u i182; have a5 := in_u i197; have a6 := in_u i225; have a7 := t_add e225 i182 (in_c 1 rfl) rfl; have a8 := in_u ((in_c 1 rfl)); have a9 := in_u i222; have a10 := t_add e221 (inv_F hIc179 0 32 rfl v179_65_17) (in_c 1 rfl) rfl; have oc := oc_89_65_2; by omega)
          have n179c : ((sF (sG s208 65 18 z211) 65 17 z221)).2.2.1 65 16 = s.2.2.1 2 0 := by exact (show s208.2.2.1 65 16 = _ from (hF208.2.2.1 65 16 rfl).trans ((hF191.2.2.1 65 16 rfl).trans g179_2))
          exact gg_w (by first | exact Nat.le_add_right _ _ | exact gw2 | exact gw3 | exact gwe rfl | exact gwf rfl | exact gwg rfl | exact gwh rfl | omega) (gg_f (gf_cons rfl (gf_cons rfl (gf_cons rfl gf_nil))) (ih179 (sF (sG s208 65 18 z211) 65 17 z221) z225 z221 hI222 (fr_sF rfl (fr_sG rfl (fr_tr rfl (fr_tr rfl hFc179 hF191) hF208))) (in_w 0 32 i225 rfl) v179 n179 n179a n179b n179c (m_up mm179 (t_add e225 i182 (in_c 1 rfl) rfl) (in_w 1 1 (in_c 1 rfl) rfl))))
        · skip
          have i197 := r_eq1 (-1) (-1) c197 i191 (in_c (-1) rfl) rfl
          have n200 : PRQ (gvC s) s191 := by exact pns_e (gok_C hI q_1) g179_0 (show ∃ r : Nat → Nat, NLF (netC sc179) (fiC sc179) 1 (s.2.2.1 2 1).toNatClampNeg (exC sc179) (faC s191) (viC s191) r from (by rw [← e_2_1]; exact p191a)) (show NBT (exC sc179) (faC s191) 1 (s.2.2.1 2 1).toNatClampNeg (z191).toInt from (by rw [← e_2_1]; exact p191b)) c197 (show (s191.2.2.1 65 16).toInt = (gvC s).2.2.2.2.2.2.2 from (by show _ = (s.2.2.1 2 0).toInt; rw [hF191.2.2.1 65 16 rfl, g179_2])) (hF191.2.2.1 65 17 rfl) (hF191.2.2.2 65 18 rfl)
          exact g_return (gd rfl) rfl (hP _ _ ⟨s191, hI191, (fr_tr rfl hFc179 hF191), rfl, rfl, n200⟩)
  have ct72 : ∀ (k72 : Nat) (sc72 : GS) (y72_2 : Int32) (w72_65_17 : Int32), Inv sc72 → Fr fm_89_65_2 s sc72 → (In y72_2 0 160) → (w72_65_17 = sc72.2.2.1 65 17) → ((w72_65_17).toInt = 0) → (E37 (gvC s) sc72 (s.2.2.1 2 1).toNatClampNeg) → (LYF (gvC s) sc72 (y72_2).toNatClampNeg) → ((sc72).2.2.1 65 16 = s.2.2.1 2 0 ∧ (sc72).2.2.2.1 65 18 = Int64.ofInt 0) → 160 - (y72_2).toInt < (k72 : Int) → GG Z (d - 1) 89 post (gx xp) (29702 + k72 * 900) 72 (fun j => xlook j [(0, .ref (A 65)), (1, .ref (A 2)), (2, .int y72_2)]) [] (WW Z A sc72 ++ ex) 0 0 := by
    intro k72
    induction k72 with
    | zero => intro sc72 y72_2 w72_65_17 hIc72 hFc72 j72_2 v72_65_17 n72_0 g72_0 g72_1 g72_2 mm72; exact m_no mm72 j72_2 rfl
    | succ k72 ih72 =>
      intro sc72 y72_2 w72_65_17 hIc72 hFc72 j72_2 v72_65_17 n72_0 g72_0 g72_1 g72_2 mm72
      refine gg_w (M := 29702 + k72 * 900 + 900) gws ?_
      refine g_iload_n 73 (gd rfl) rfl rfl ?_
      refine g_aload_n 74 (gd rfl) rfl rfl ?_
      refine g_getI 77 (gd rfl) rfl rfl rfl (fun z74 e74 => ?_)
      have q74 : u_2_3 = z74 := (fr_F e_2_3 hFc72 rfl).trans e74.symm
      subst q74
      refine g_cmp_ge 80 177 (gd rfl) rfl rfl (fun c77 => ?_) (fun c77 => ?_)
      · skip
        refine g_iconst 0 178 (gd rfl) rfl rfl ?_
        refine g_istore_n 179 (gd rfl) rfl (Nat.le_of_ble_eq_true rfl) ?_
        have n179 : (w72_65_17).toInt ≤ ((Int32.ofInt 0)).toInt := by exact (have a0 := in_u ro_2_3; have a1 := in_u ro_2_1; have a2 := in_u ro_2_0; have a3 := in_u ((inv_F hIc72 0 32 rfl v72_65_17)); have a4 := in_u j72_2; have a5 := in_u ((in_c 0 rfl)); have oc := oc_89_65_2; by omega)
        have n179a : PNS (gvC s) (s.2.2.1 2 1).toNatClampNeg sc72 := by have z9 := pnb_0 (gok_C hI q_1) g72_0 (lyf_w g72_1 (T0 := (s.2.2.1 2 3).toInt) (fun p h1 h2 => q_0 p h1 h2) (by rw [← e_2_3]; show _ ≤ (((y72_2).toInt.toNat : Nat) : Int); exact (have a0 := in_u ro_2_3; have a1 := in_u ro_2_1; have a2 := in_u ro_2_0; have a3 := in_u ((inv_F hIc72 0 32 rfl v72_65_17)); have a4 := in_u j72_2; have a5 := in_u ((in_c 0 rfl)); have oc := oc_89_65_2; by omega)) (by show (y72_2).toInt.toNat ≤ 160; exact (have a0 := in_u ro_2_3; have a1 := in_u ro_2_1; have a2 := in_u ro_2_0; have a3 := in_u ((inv_F hIc72 0 32 rfl v72_65_17)); have a4 := in_u j72_2; have a5 := in_u ((in_c 0 rfl)); have oc := oc_89_65_2; by omega))); exact ⟨z9.1, by rw [← v72_65_17, n72_0]; exact z9.2.1.symm, by rw [g72_2.2]; exact (show (0 : Int) = _ from z9.2.2.symm)⟩
        have n179b : ((sc72).2.2.1 65 17).toInt = ((Int32.ofInt 0)).toInt := by rw [← v72_65_17, n72_0]; rfl
        have n179c : (sc72).2.2.1 65 16 = s.2.2.1 2 0 := by exact g72_2.1
        exact gg_w (by first | exact Nat.le_add_right _ _ | exact gw2 | exact gw3 | exact gwe rfl | exact gwf rfl | exact gwg rfl | exact gwh rfl | omega) (gg_f (gf_cons rfl (gf_cons rfl (gf_cons rfl gf_nil))) (ct179 33 sc72 (Int32.ofInt 0) w72_65_17 hIc72 hFc72 (in_w 0 32 (in_c 0 rfl) rfl) v72_65_17 n179 n179a n179b n179c (m_in 33 (in_w 0 32 (in_c 0 rfl) rfl) rfl)))
      · skip
        have i77 := r_lt1 0 159 c77 j72_2 ro_2_3 rfl
        have i77a := r_lt2 1 160 c77 j72_2 ro_2_3 rfl
        refine g_aload_n 81 (gd rfl) rfl rfl ?_
        refine g_iload_n 82 (gd rfl) rfl rfl ?_
        refine g_callv (X := _) (As := [.int y72_2]) (r := []) (b := A 2) (q := 2) 85 (gd rfl) rfl rfl rfl rfl rfl (ww_o rfl) (Nat.le_of_ble_eq_true rfl) (mc := 0) (ms := 0) (Nat.zero_le _) (Nat.zero_le _) (P := fun v u => _) ?_ (fun e u h => h) (fun v u h => h)
        intro po82 xx82 hp82 hx82
        refine g_enter2 (k := 97) (N := 300) (by first | exact dq1 hd rfl | exact dq0 hd rfl | exact dq2 hd rfl | exact dq3 hd rfl | omega) rfl (Nat.le_of_ble_eq_true rfl) ?_
        refine g_aload_n 1 (gd rfl) rfl rfl ?_
        refine g_getA (q2 := 4) 4 (gd rfl) rfl rfl rfl rfl ?_
        refine g_iload_n 5 (gd rfl) rfl rfl ?_
        refine g_iaload 6 (gd rfl) rfl (n := 160) rfl (in_ix i77 rfl) (fun z82x5 e82x5 => ?_)
        have i82x5 := inv_I hIc72 (n := 160) (t := 0) (-1) 31 rfl (in_ix i77 rfl) rfl e82x5
        refine g_iconst (-1) 7 (gd rfl) rfl rfl ?_
        refine g_cmp_eq 10 29 (gd rfl) rfl rfl (fun c82x7 => ?_) (fun c82x7 => ?_)
        · skip
          have i82x7 := r_eq1 (-1) (-1) c82x7 i82x5 (in_c (-1) rfl) rfl
          refine g_iconst 0 30 (gd rfl) rfl rfl ?_
          refine g_ireturn (gd rfl) rfl (nb01 (in_w 0 1 (in_c 0 rfl) rfl)) (hp82 _ _ ?_)
          show GG _ _ _ _ _ _ _ _ [.int (Int32.ofInt 0)] _ _ _
          refine g_if_eq 88 171 (gd rfl) rfl rfl (fun c85 => ?_) (fun c85 => ?_)
          · skip
            refine g_iinc 174 (gd rfl) rfl rfl (Nat.le_of_ble_eq_true rfl) (fun z171 e171 => ?_)
            have i171 := in_add 1 160 e171 i77 (in_c 1 rfl) rfl rfl
            refine g_goto 72 (gd rfl) rfl ?_
            have n72 : (w72_65_17).toInt = 0 := by first | exact n72_0 | (exact (have a0 := in_u i77a; have a1 := in_u ro_2_1; have a2 := in_u ro_2_0; have a3 := in_u ((inv_F hIc72 0 32 rfl v72_65_17)); have a4 := in_u i77; have a5 := in_u i171; have a6 := t_add e171 i77 (in_c 1 rfl) rfl; have a7 := in_u ((in_c 1 rfl)); have oc := oc_89_65_2; by omega))
            have n72a : E37 (gvC s) sc72 (s.2.2.1 2 1).toNatClampNeg := by exact g72_0
            have n72b : LYF (gvC s) sc72 (z171).toNatClampNeg := by rw [(show (z171).toNatClampNeg = (y72_2).toNatClampNeg + 1 from (by show (z171).toInt.toNat = (y72_2).toInt.toNat + 1; exact (have a0 := in_u i77a; have a1 := in_u ro_2_1; have a2 := in_u ro_2_0; have a3 := in_u ((inv_F hIc72 0 32 rfl v72_65_17)); have a4 := in_u i77; have a5 := in_u i171; have a6 := t_add e171 i77 (in_c 1 rfl) rfl; have a7 := in_u ((in_c 1 rfl)); have oc := oc_89_65_2; by omega)))]; exact lyf_n g72_1 (pel_0 (show z82x5 = (gvC s).2.1 (y72_2).toNatClampNeg from (e82x5.trans (congrFun (hFc72.1 4 rfl) _))) c82x7)
            have n72c : (sc72).2.2.1 65 16 = s.2.2.1 2 0 ∧ (sc72).2.2.2.1 65 18 = Int64.ofInt 0 := by exact g72_2
            exact gg_w (by first | exact Nat.le_add_right _ _ | exact gw2 | exact gw3 | exact gwe rfl | exact gwf rfl | exact gwg rfl | exact gwh rfl | omega) (gg_f (gf_cons rfl (gf_cons rfl (gf_cons rfl gf_nil))) (ih72 sc72 z171 w72_65_17 hIc72 hFc72 (in_w 0 160 i171 rfl) v72_65_17 n72 n72a n72b n72c (m_up mm72 (t_add e171 i77 (in_c 1 rfl) rfl) (in_w 1 1 (in_c 1 rfl) rfl))))
          · skip
            exact zn_ne c85 (in_c 0 rfl) rfl
        · skip
          have i82x7 := r_ne1 0 31 c82x7 i82x5 (in_c (-1) rfl) rfl
          refine g_aload_n 11 (gd rfl) rfl rfl ?_
          refine g_getA (q2 := 4) 14 (gd rfl) rfl rfl rfl rfl ?_
          refine g_iload_n 15 (gd rfl) rfl rfl ?_
          refine g_iaload 16 (gd rfl) rfl (n := 160) rfl (in_ix i77 rfl) (fun z82x15 e82x15 => ?_)
          have q82x15 : z82x5 = z82x15 := (e82x5).trans e82x15.symm
          subst q82x15
          refine g_aload_n 17 (gd rfl) rfl rfl ?_
          refine g_getA (q2 := 5) 20 (gd rfl) rfl rfl rfl rfl ?_
          refine g_iload_n 21 (gd rfl) rfl rfl ?_
          refine g_iaload 22 (gd rfl) rfl (n := 160) rfl (in_ix i77 rfl) (fun z82x21 e82x21 => ?_)
          have i82x21 := inv_I hIc72 (n := 160) (t := 0) 0 31 rfl (in_ix i77 rfl) rfl e82x21
          refine g_cmp_eq 25 29 (gd rfl) rfl rfl (fun c82x22 => ?_) (fun c82x22 => ?_)
          · skip
            refine g_iconst 0 30 (gd rfl) rfl rfl ?_
            refine g_ireturn (gd rfl) rfl (nb01 (in_w 0 1 (in_c 0 rfl) rfl)) (hp82 _ _ ?_)
            show GG _ _ _ _ _ _ _ _ [.int (Int32.ofInt 0)] _ _ _
            refine g_if_eq 88 171 (gd rfl) rfl rfl (fun c85 => ?_) (fun c85 => ?_)
            · skip
              refine g_iinc 174 (gd rfl) rfl rfl (Nat.le_of_ble_eq_true rfl) (fun z171 e171 => ?_)
              have i171 := in_add 1 160 e171 i77 (in_c 1 rfl) rfl rfl
              refine g_goto 72 (gd rfl) rfl ?_
              have n72 : (w72_65_17).toInt = 0 := by first | exact n72_0 | (exact (have a0 := in_u i77a; have a1 := in_u ro_2_1; have a2 := in_u ro_2_0; have a3 := in_u ((inv_F hIc72 0 32 rfl v72_65_17)); have a4 := in_u i77; have a5 := in_u i171; have a6 := t_add e171 i77 (in_c 1 rfl) rfl; have a7 := in_u ((in_c 1 rfl)); have oc := oc_89_65_2; by omega))
              have n72a : E37 (gvC s) sc72 (s.2.2.1 2 1).toNatClampNeg := by exact g72_0
              have n72b : LYF (gvC s) sc72 (z171).toNatClampNeg := by rw [(show (z171).toNatClampNeg = (y72_2).toNatClampNeg + 1 from (by show (z171).toInt.toNat = (y72_2).toInt.toNat + 1; exact (have a0 := in_u i77a; have a1 := in_u ro_2_1; have a2 := in_u ro_2_0; have a3 := in_u ((inv_F hIc72 0 32 rfl v72_65_17)); have a4 := in_u i77; have a5 := in_u i171; have a6 := t_add e171 i77 (in_c 1 rfl) rfl; have a7 := in_u ((in_c 1 rfl)); have oc := oc_89_65_2; by omega)))]; exact lyf_n g72_1 (pel_1 (show z82x5 = (gvC s).2.1 (y72_2).toNatClampNeg from (e82x5.trans (congrFun (hFc72.1 4 rfl) _))) (show z82x21 = (gvC s).2.2.1 (y72_2).toNatClampNeg from (e82x21.trans (congrFun (hFc72.1 5 rfl) _))) c82x22)
              have n72c : (sc72).2.2.1 65 16 = s.2.2.1 2 0 ∧ (sc72).2.2.2.1 65 18 = Int64.ofInt 0 := by exact g72_2
              exact gg_w (by first | exact Nat.le_add_right _ _ | exact gw2 | exact gw3 | exact gwe rfl | exact gwf rfl | exact gwg rfl | exact gwh rfl | omega) (gg_f (gf_cons rfl (gf_cons rfl (gf_cons rfl gf_nil))) (ih72 sc72 z171 w72_65_17 hIc72 hFc72 (in_w 0 160 i171 rfl) v72_65_17 n72 n72a n72b n72c (m_up mm72 (t_add e171 i77 (in_c 1 rfl) rfl) (in_w 1 1 (in_c 1 rfl) rfl))))
            · skip
              exact zn_ne c85 (in_c 0 rfl) rfl
          · skip
            refine g_iconst 1 26 (gd rfl) rfl rfl ?_
            refine g_goto 30 (gd rfl) rfl ?_
            refine g_ireturn (gd rfl) rfl (nb01 (in_w 0 1 (in_c 1 rfl) rfl)) (hp82 _ _ ?_)
            show GG _ _ _ _ _ _ _ _ [.int (Int32.ofInt 1)] _ _ _
            refine g_if_eq 88 171 (gd rfl) rfl rfl (fun c85 => ?_) (fun c85 => ?_)
            · skip
              exact zn_eq c85 (in_c 1 rfl) rfl
            · skip
              refine g_aload_n 89 (gd rfl) rfl rfl ?_
              refine g_aload_n 90 (gd rfl) rfl rfl ?_
              refine g_getA (q2 := 4) 93 (gd rfl) rfl rfl rfl rfl ?_
              refine g_iload_n 94 (gd rfl) rfl rfl ?_
              refine g_iaload 95 (gd rfl) rfl (n := 160) rfl (in_ix i77 rfl) (fun z94 e94 => ?_)
              have q94 : z82x5 = z94 := (e82x5).trans e94.symm
              subst q94
              refine g_calls (As := [.ref (A 2), .int z82x5]) (r := []) 98 (gd rfl) rfl rfl rfl rfl rfl (Nat.le_of_ble_eq_true rfl) (mc := 0) (ms := 0) (Nat.zero_le _) (Nat.zero_le _) (P := fun v u => _) ?_ (fun v u h => h)
              intro po95 xx95 hp95 hx95
              refine g_enter2 (k := 90) (N := 300) (by first | exact dq1 hd rfl | exact dq0 hd rfl | exact dq2 hd rfl | exact dq3 hd rfl | omega) rfl (Nat.le_of_ble_eq_true rfl) ?_
              refine g_aload_n 1 (gd rfl) rfl rfl ?_
              refine g_getA (q2 := 3) 4 (gd rfl) rfl rfl rfl rfl ?_
              refine g_iload_n 5 (gd rfl) rfl rfl ?_
              refine g_iaload 6 (gd rfl) rfl (n := 32) rfl (in_ix i82x7 rfl) (fun z95x5 e95x5 => ?_)
              have i95x5 := inv_I hIc72 (n := 32) (t := 0) 0 25 rfl (in_ix i82x7 rfl) rfl e95x5
              refine g_bipush 13 8 (gd rfl) rfl rfl ?_
              refine g_cmp_ge 11 15 (gd rfl) rfl rfl (fun c95x8 => ?_) (fun c95x8 => ?_)
              · skip
                have i95x8 := r_le2 13 25 c95x8 (in_c 13 rfl) i95x5 rfl
                refine g_iconst 0 16 (gd rfl) rfl rfl ?_
                refine g_ireturn (gd rfl) rfl (nb01 (in_w 0 1 (in_c 0 rfl) rfl)) (hp95 _ _ ?_)
                show GG _ _ _ _ _ _ _ _ [.int (Int32.ofInt 0)] _ _ _
                refine g_aload_n 99 (gd rfl) rfl rfl ?_
                refine g_aload_n 100 (gd rfl) rfl rfl ?_
                refine g_getA (q2 := 5) 103 (gd rfl) rfl rfl rfl rfl ?_
                refine g_iload_n 104 (gd rfl) rfl rfl ?_
                refine g_iaload 105 (gd rfl) rfl (n := 160) rfl (in_ix i77 rfl) (fun z104 e104 => ?_)
                have q104 : z82x21 = z104 := (e82x21).trans e104.symm
                subst q104
                refine g_calls (As := [.ref (A 2), .int z82x21]) (r := [.int (Int32.ofInt 0)]) 108 (gd rfl) rfl rfl rfl rfl rfl (Nat.le_of_ble_eq_true rfl) (mc := 0) (ms := 0) (Nat.zero_le _) (Nat.zero_le _) (P := fun v u => _) ?_ (fun v u h => h)
                intro po105 xx105 hp105 hx105
                refine g_enter2 (k := 90) (N := 300) (by first | exact dq1 hd rfl | exact dq0 hd rfl | exact dq2 hd rfl | exact dq3 hd rfl | omega) rfl (Nat.le_of_ble_eq_true rfl) ?_
                refine g_aload_n 1 (gd rfl) rfl rfl ?_
                refine g_getA (q2 := 3) 4 (gd rfl) rfl rfl rfl rfl ?_
                refine g_iload_n 5 (gd rfl) rfl rfl ?_
                refine g_iaload 6 (gd rfl) rfl (n := 32) rfl (in_ix i82x21 rfl) (fun z105x5 e105x5 => ?_)
                have i105x5 := inv_I hIc72 (n := 32) (t := 0) 0 25 rfl (in_ix i82x21 rfl) rfl e105x5
                refine g_bipush 13 8 (gd rfl) rfl rfl ?_
                refine g_cmp_ge 11 15 (gd rfl) rfl rfl (fun c105x8 => ?_) (fun c105x8 => ?_)
                · skip
                  have i105x8 := r_le2 13 25 c105x8 (in_c 13 rfl) i105x5 rfl
                  refine g_iconst 0 16 (gd rfl) rfl rfl ?_
                  refine g_ireturn (gd rfl) rfl (nb01 (in_w 0 1 (in_c 0 rfl) rfl)) (hp105 _ _ ?_)
                  show GG _ _ _ _ _ _ _ _ [.int (Int32.ofInt 0), .int (Int32.ofInt 0)] _ _ _
                  refine g_cmp_eq 111 171 (gd rfl) rfl rfl (fun c108 => ?_) (fun c108 => ?_)
                  · skip
                    refine g_iinc 174 (gd rfl) rfl rfl (Nat.le_of_ble_eq_true rfl) (fun z171 e171 => ?_)
                    have i171 := in_add 1 160 e171 i77 (in_c 1 rfl) rfl rfl
                    refine g_goto 72 (gd rfl) rfl ?_
                    have n72 : (w72_65_17).toInt = 0 := by first | exact n72_0 | (exact (have a0 := in_u i77a; have a1 := in_u ro_2_1; have a2 := in_u ro_2_0; have a3 := in_u ((inv_F hIc72 0 32 rfl v72_65_17)); have a4 := in_u i77; have a5 := in_u i171; have a6 := t_add e171 i77 (in_c 1 rfl) rfl; have a7 := in_u ((in_c 1 rfl)); have oc := oc_89_65_2; by omega))
                    have n72a : E37 (gvC s) sc72 (s.2.2.1 2 1).toNatClampNeg := by exact g72_0
                    have n72b : LYF (gvC s) sc72 (z171).toNatClampNeg := by rw [(show (z171).toNatClampNeg = (y72_2).toNatClampNeg + 1 from (by show (z171).toInt.toNat = (y72_2).toInt.toNat + 1; exact (have a0 := in_u i77a; have a1 := in_u ro_2_1; have a2 := in_u ro_2_0; have a3 := in_u ((inv_F hIc72 0 32 rfl v72_65_17)); have a4 := in_u i77; have a5 := in_u i171; have a6 := t_add e171 i77 (in_c 1 rfl) rfl; have a7 := in_u ((in_c 1 rfl)); have oc := oc_89_65_2; by omega)))]; exact lyf_n g72_1 (pel_2 (show z82x5 = (gvC s).2.1 (y72_2).toNatClampNeg from (e82x5.trans (congrFun (hFc72.1 4 rfl) _))) (show z82x21 = (gvC s).2.2.1 (y72_2).toNatClampNeg from (e82x21.trans (congrFun (hFc72.1 5 rfl) _))) (show z95x5 = (gvC s).1 z82x5.toNatClampNeg from (e95x5.trans (congrFun (hFc72.1 3 rfl) _))) (show z105x5 = (gvC s).1 z82x21.toNatClampNeg from (e105x5.trans (congrFun (hFc72.1 3 rfl) _))) ⟨fun _ => (by exact (have a0 := in_u i77a; have a1 := in_u ro_2_1; have a2 := in_u ro_2_0; have a3 := in_u ((inv_F hIc72 0 32 rfl v72_65_17)); have a4 := in_u i77; have a5 := in_u i171; have a6 := t_add e171 i77 (in_c 1 rfl) rfl; have a7 := in_u ((in_c 1 rfl)); have oc := oc_89_65_2; by omega)), fun _ => (by exact (have a0 := in_u i77a; have a1 := in_u ro_2_1; have a2 := in_u ro_2_0; have a3 := in_u ((inv_F hIc72 0 32 rfl v72_65_17)); have a4 := in_u i77; have a5 := in_u i171; have a6 := t_add e171 i77 (in_c 1 rfl) rfl; have a7 := in_u ((in_c 1 rfl)); have oc := oc_89_65_2; by omega))⟩)
                    have n72c : (sc72).2.2.1 65 16 = s.2.2.1 2 0 ∧ (sc72).2.2.2.1 65 18 = Int64.ofInt 0 := by exact g72_2
                    exact gg_w (by first | exact Nat.le_add_right _ _ | exact gw2 | exact gw3 | exact gwe rfl | exact gwf rfl | exact gwg rfl | exact gwh rfl | omega) (gg_f (gf_cons rfl (gf_cons rfl (gf_cons rfl gf_nil))) (ih72 sc72 z171 w72_65_17 hIc72 hFc72 (in_w 0 160 i171 rfl) v72_65_17 n72 n72a n72b n72c (m_up mm72 (t_add e171 i77 (in_c 1 rfl) rfl) (in_w 1 1 (in_c 1 rfl) rfl))))
                  · skip
                    exact n_ne c108 (in_c 0 rfl) (in_c 0 rfl) rfl
                · skip
                  have i105x8 := r_lt1 0 12 c105x8 i105x5 (in_c 13 rfl) rfl
                  refine g_iconst 1 12 (gd rfl) rfl rfl ?_
                  refine g_goto 16 (gd rfl) rfl ?_
                  refine g_ireturn (gd rfl) rfl (nb01 (in_w 0 1 (in_c 1 rfl) rfl)) (hp105 _ _ ?_)
                  show GG _ _ _ _ _ _ _ _ [.int (Int32.ofInt 1), .int (Int32.ofInt 0)] _ _ _
                  refine g_cmp_eq 111 171 (gd rfl) rfl rfl (fun c108 => ?_) (fun c108 => ?_)
                  · skip
                    exact n_eq c108 (in_c 0 rfl) (in_c 1 rfl) rfl
                  · skip
                    refine g_aload_n 112 (gd rfl) rfl rfl ?_
                    refine g_aload_n 113 (gd rfl) rfl rfl ?_
                    refine g_getA (q2 := 4) 116 (gd rfl) rfl rfl rfl rfl ?_
                    refine g_iload_n 117 (gd rfl) rfl rfl ?_
                    refine g_iaload 118 (gd rfl) rfl (n := 160) rfl (in_ix i77 rfl) (fun z117 e117 => ?_)
                    have q117 : z82x5 = z117 := (e82x5).trans e117.symm
                    subst q117
                    refine g_calls (As := [.ref (A 2), .int z82x5]) (r := []) 121 (gd rfl) rfl rfl rfl rfl rfl (Nat.le_of_ble_eq_true rfl) (mc := 0) (ms := 0) (Nat.zero_le _) (Nat.zero_le _) (P := fun v u => _) ?_ (fun v u h => h)
                    intro po118 xx118 hp118 hx118
                    refine g_enter2 (k := 90) (N := 300) (by first | exact dq1 hd rfl | exact dq0 hd rfl | exact dq2 hd rfl | exact dq3 hd rfl | omega) rfl (Nat.le_of_ble_eq_true rfl) ?_
                    refine g_aload_n 1 (gd rfl) rfl rfl ?_
                    refine g_getA (q2 := 3) 4 (gd rfl) rfl rfl rfl rfl ?_
                    refine g_iload_n 5 (gd rfl) rfl rfl ?_
                    refine g_iaload 6 (gd rfl) rfl (n := 32) rfl (in_ix i82x7 rfl) (fun z118x5 e118x5 => ?_)
                    have q118x5 : z95x5 = z118x5 := (e95x5).trans e118x5.symm
                    subst q118x5
                    refine g_bipush 13 8 (gd rfl) rfl rfl ?_
                    refine g_cmp_ge 11 15 (gd rfl) rfl rfl (fun c118x8 => ?_) (fun c118x8 => ?_)
                    · skip
                      refine g_iconst 0 16 (gd rfl) rfl rfl ?_
                      refine g_ireturn (gd rfl) rfl (nb01 (in_w 0 1 (in_c 0 rfl) rfl)) (hp118 _ _ ?_)
                      show GG _ _ _ _ _ _ _ _ [.int (Int32.ofInt 0)] _ _ _
                      refine g_istore_n 122 (gd rfl) rfl (Nat.le_of_ble_eq_true rfl) ?_
                      refine g_aload_n 123 (gd rfl) rfl rfl ?_
                      refine g_iload_n 124 (gd rfl) rfl rfl ?_
                      refine g_if_eq 127 136 (gd rfl) rfl rfl (fun c124 => ?_) (fun c124 => ?_)
                      · skip
                        refine g_aload_n 137 (gd rfl) rfl rfl ?_
                        refine g_getA (q2 := 5) 140 (gd rfl) rfl rfl rfl rfl ?_
                        refine g_iload_n 141 (gd rfl) rfl rfl ?_
                        refine g_iaload 142 (gd rfl) rfl (n := 160) rfl (in_ix i77 rfl) (fun z141 e141 => ?_)
                        have q141 : z82x21 = z141 := (e82x21).trans e141.symm
                        subst q141
                        refine g_iload_n 143 (gd rfl) rfl rfl ?_
                        refine g_if_eq 146 155 (gd rfl) rfl rfl (fun c143 => ?_) (fun c143 => ?_)
                        · skip
                          refine g_aload_n 156 (gd rfl) rfl rfl ?_
                          refine g_getA (q2 := 4) 159 (gd rfl) rfl rfl rfl rfl ?_
                          refine g_iload_n 160 (gd rfl) rfl rfl ?_
                          refine g_iaload 161 (gd rfl) rfl (n := 160) rfl (in_ix i77 rfl) (fun z160 e160 => ?_)
                          have q160 : z82x5 = z160 := (e82x5).trans e160.symm
                          subst q160
                          refine g_aload_n 162 (gd rfl) rfl rfl ?_
                          refine g_getA (q2 := 6) 165 (gd rfl) rfl rfl rfl rfl ?_
                          refine g_iload_n 166 (gd rfl) rfl rfl ?_
                          refine g_iaload 167 (gd rfl) rfl (n := 160) rfl (in_ix i77 rfl) (fun z166 e166 => ?_)
                          have i166 := inv_I hIc72 (n := 160) (t := 0) (-1000000) 1000000 rfl (in_ix i77 rfl) rfl e166
                          refine g_iconst 1 168 (gd rfl) rfl rfl ?_
                          refine g_callv (X := _) (As := [.int z82x21, .int z82x5, .int z166, .int (Int32.ofInt 1)]) (r := []) (b := A 65) (q := 65) 171 (gd rfl) rfl rfl rfl rfl rfl (ww_o rfl) (Nat.le_of_ble_eq_true rfl) (Nat.zero_le _) (Nat.zero_le _) (f_84_65 (by first | exact dq1 hd rfl | exact dq0 hd rfl | exact dq2 hd rfl | exact dq3 hd rfl | omega) hIc72 (in_w 0 31 i82x21 rfl) (in_w 0 31 i82x7 rfl) (in_w (-1000000) 1000000 i166 rfl) (in_w 0 1000000 (in_c 1 rfl) rfl)) (fun e u h => h) (fun v u h => ?_)
                          obtain ⟨s168, hI168, hF168, rfl, rfl, p168⟩ := h
                          show GG _ _ _ _ _ _ _ _ [] _ _ _
                          refine g_iinc 174 (gd rfl) rfl rfl (Nat.le_of_ble_eq_true rfl) (fun z171 e171 => ?_)
                          have i171 := in_add 1 160 e171 i77 (in_c 1 rfl) rfl rfl
                          refine g_goto 72 (gd rfl) rfl ?_
                          have v72 : w72_65_17 = s168.2.2.1 65 17 := fr_F (v72_65_17) hF168 rfl
                          have n72 : (w72_65_17).toInt = 0 := by first | exact n72_0 | (exact (have a0 := in_u i77a; have a1 := in_u ro_2_1; have a2 := in_u ro_2_0; have a3 := in_u ((inv_F hIc72 0 32 rfl v72_65_17)); have a4 := in_u i77; have a5 := in_u ((in_c 0 rfl)); have a6 := in_u i171; have a7 := t_add e171 i77 (in_c 1 rfl) rfl; have a8 := in_u ((in_c 1 rfl)); have oc := oc_89_65_2; by omega))
                          have n72a : E37 (gvC s) s168 (s.2.2.1 2 1).toNatClampNeg := by exact e37_x g72_0 (ex_fr hF168 rfl)
                          have n72b : LYF (gvC s) s168 (z171).toNatClampNeg := by rw [(show (z171).toNatClampNeg = (y72_2).toNatClampNeg + 1 from (by show (z171).toInt.toNat = (y72_2).toInt.toNat + 1; exact (have a0 := in_u i77a; have a1 := in_u ro_2_1; have a2 := in_u ro_2_0; have a3 := in_u ((inv_F hIc72 0 32 rfl v72_65_17)); have a4 := in_u i77; have a5 := in_u ((in_c 0 rfl)); have a6 := in_u i171; have a7 := t_add e171 i77 (in_c 1 rfl) rfl; have a8 := in_u ((in_c 1 rfl)); have oc := oc_89_65_2; by omega)))]; exact lyf_y g72_1 (show (y72_2).toNatClampNeg < 160 from (by show (y72_2).toInt.toNat < 160; exact (have a0 := in_u i77a; have a1 := in_u ro_2_1; have a2 := in_u ro_2_0; have a3 := in_u ((inv_F hIc72 0 32 rfl v72_65_17)); have a4 := in_u i77; have a5 := in_u ((in_c 0 rfl)); have a6 := in_u i171; have a7 := t_add e171 i77 (in_c 1 rfl) rfl; have a8 := in_u ((in_c 1 rfl)); have oc := oc_89_65_2; by omega))) (pel_4 (show z82x5 = (gvC s).2.1 (y72_2).toNatClampNeg from (e82x5.trans (congrFun (hFc72.1 4 rfl) _))) (show z82x21 = (gvC s).2.2.1 (y72_2).toNatClampNeg from (e82x21.trans (congrFun (hFc72.1 5 rfl) _))) (show z95x5 = (gvC s).1 z82x5.toNatClampNeg from (e95x5.trans (congrFun (hFc72.1 3 rfl) _))) (show z105x5 = (gvC s).1 z82x21.toNatClampNeg from (e105x5.trans (congrFun (hFc72.1 3 rfl) _))) (by exact (have a0 := in_u i77a; have a1 := in_u ro_2_1; have a2 := in_u ro_2_0; have a3 := in_u ((inv_F hIc72 0 32 rfl v72_65_17)); have a4 := in_u i77; have a5 := in_u ((in_c 0 rfl)); have a6 := in_u i171; have a7 := t_add e171 i77 (in_c 1 rfl) rfl; have a8 := in_u ((in_c 1 rfl)); have oc := oc_89_65_2; by omega)) c82x22 (by exact (have a0 := in_u i77a; have a1 := in_u ro_2_1; have a2 := in_u ro_2_0; have a3 := in_u ((inv_F hIc72 0 32 rfl v72_65_17)); have a4 := in_u i77; have a5 := in_u ((in_c 0 rfl)); have a6 := in_u i171; have a7 := t_add e171 i77 (in_c 1 rfl) rfl; have a8 := in_u ((in_c 1 rfl)); have oc := oc_89_65_2; by omega)) (by exact (have a0 := in_u i77a; have a1 := in_u ro_2_1; have a2 := in_u ro_2_0; have a3 := in_u ((inv_F hIc72 0 32 rfl v72_65_17)); have a4 := in_u i77; have a5 := in_u ((in_c 0 rfl)); have a6 := in_u i171; have a7 := t_add e171 i77 (in_c 1 rfl) rfl; have a8 := in_u ((in_c 1 rfl)); have oc := oc_89_65_2; by omega))) (show z166 = (gvC s).2.2.2.1 (y72_2).toNatClampNeg from (e166.trans (congrFun (hFc72.1 6 rfl) _))) rfl (inv_F hIc72 (z := sc72.2.2.1 65 8) 0 160 rfl rfl).1 p168
                          have n72c : (s168).2.2.1 65 16 = s.2.2.1 2 0 ∧ (s168).2.2.2.1 65 18 = Int64.ofInt 0 := by exact ⟨(hF168.2.2.1 65 16 rfl).trans g72_2.1, (hF168.2.2.2 65 18 rfl).trans g72_2.2⟩
                          exact gg_w (by first | exact Nat.le_add_right _ _ | exact gw2 | exact gw3 | exact gwe rfl | exact gwf rfl | exact gwg rfl | exact gwh rfl | omega) (gg_f (gf_cons rfl (gf_cons rfl (gf_cons rfl gf_nil))) (ih72 s168 z171 w72_65_17 hI168 (fr_tr rfl hFc72 hF168) (in_w 0 160 i171 rfl) v72 n72 n72a n72b n72c (m_up mm72 (t_add e171 i77 (in_c 1 rfl) rfl) (in_w 1 1 (in_c 1 rfl) rfl))))
                        · skip
                          exact zn_ne c143 (in_c 0 rfl) rfl
                      · skip
                        exact zn_ne c124 (in_c 0 rfl) rfl
                    · skip
                      exact n_lt c118x8 i95x8 (in_c 13 rfl) rfl
              · skip
                have i95x8 := r_lt1 0 12 c95x8 i95x5 (in_c 13 rfl) rfl
                refine g_iconst 1 12 (gd rfl) rfl rfl ?_
                refine g_goto 16 (gd rfl) rfl ?_
                refine g_ireturn (gd rfl) rfl (nb01 (in_w 0 1 (in_c 1 rfl) rfl)) (hp95 _ _ ?_)
                show GG _ _ _ _ _ _ _ _ [.int (Int32.ofInt 1)] _ _ _
                refine g_aload_n 99 (gd rfl) rfl rfl ?_
                refine g_aload_n 100 (gd rfl) rfl rfl ?_
                refine g_getA (q2 := 5) 103 (gd rfl) rfl rfl rfl rfl ?_
                refine g_iload_n 104 (gd rfl) rfl rfl ?_
                refine g_iaload 105 (gd rfl) rfl (n := 160) rfl (in_ix i77 rfl) (fun z104 e104 => ?_)
                have q104 : z82x21 = z104 := (e82x21).trans e104.symm
                subst q104
                refine g_calls (As := [.ref (A 2), .int z82x21]) (r := [.int (Int32.ofInt 1)]) 108 (gd rfl) rfl rfl rfl rfl rfl (Nat.le_of_ble_eq_true rfl) (mc := 0) (ms := 0) (Nat.zero_le _) (Nat.zero_le _) (P := fun v u => _) ?_ (fun v u h => h)
                intro po105 xx105 hp105 hx105
                refine g_enter2 (k := 90) (N := 300) (by first | exact dq1 hd rfl | exact dq0 hd rfl | exact dq2 hd rfl | exact dq3 hd rfl | omega) rfl (Nat.le_of_ble_eq_true rfl) ?_
                refine g_aload_n 1 (gd rfl) rfl rfl ?_
                refine g_getA (q2 := 3) 4 (gd rfl) rfl rfl rfl rfl ?_
                refine g_iload_n 5 (gd rfl) rfl rfl ?_
                refine g_iaload 6 (gd rfl) rfl (n := 32) rfl (in_ix i82x21 rfl) (fun z105x5 e105x5 => ?_)
                have i105x5 := inv_I hIc72 (n := 32) (t := 0) 0 25 rfl (in_ix i82x21 rfl) rfl e105x5
                refine g_bipush 13 8 (gd rfl) rfl rfl ?_
                refine g_cmp_ge 11 15 (gd rfl) rfl rfl (fun c105x8 => ?_) (fun c105x8 => ?_)
                · skip
                  have i105x8 := r_le2 13 25 c105x8 (in_c 13 rfl) i105x5 rfl
                  refine g_iconst 0 16 (gd rfl) rfl rfl ?_
                  refine g_ireturn (gd rfl) rfl (nb01 (in_w 0 1 (in_c 0 rfl) rfl)) (hp105 _ _ ?_)
                  show GG _ _ _ _ _ _ _ _ [.int (Int32.ofInt 0), .int (Int32.ofInt 1)] _ _ _
                  refine g_cmp_eq 111 171 (gd rfl) rfl rfl (fun c108 => ?_) (fun c108 => ?_)
                  · skip
                    exact n_eq c108 (in_c 1 rfl) (in_c 0 rfl) rfl
                  · skip
                    refine g_aload_n 112 (gd rfl) rfl rfl ?_
                    refine g_aload_n 113 (gd rfl) rfl rfl ?_
                    refine g_getA (q2 := 4) 116 (gd rfl) rfl rfl rfl rfl ?_
                    refine g_iload_n 117 (gd rfl) rfl rfl ?_
                    refine g_iaload 118 (gd rfl) rfl (n := 160) rfl (in_ix i77 rfl) (fun z117 e117 => ?_)
                    have q117 : z82x5 = z117 := (e82x5).trans e117.symm
                    subst q117
                    refine g_calls (As := [.ref (A 2), .int z82x5]) (r := []) 121 (gd rfl) rfl rfl rfl rfl rfl (Nat.le_of_ble_eq_true rfl) (mc := 0) (ms := 0) (Nat.zero_le _) (Nat.zero_le _) (P := fun v u => _) ?_ (fun v u h => h)
                    intro po118 xx118 hp118 hx118
                    refine g_enter2 (k := 90) (N := 300) (by first | exact dq1 hd rfl | exact dq0 hd rfl | exact dq2 hd rfl | exact dq3 hd rfl | omega) rfl (Nat.le_of_ble_eq_true rfl) ?_
                    refine g_aload_n 1 (gd rfl) rfl rfl ?_
                    refine g_getA (q2 := 3) 4 (gd rfl) rfl rfl rfl rfl ?_
                    refine g_iload_n 5 (gd rfl) rfl rfl ?_
                    refine g_iaload 6 (gd rfl) rfl (n := 32) rfl (in_ix i82x7 rfl) (fun z118x5 e118x5 => ?_)
                    have q118x5 : z95x5 = z118x5 := (e95x5).trans e118x5.symm
                    subst q118x5
                    refine g_bipush 13 8 (gd rfl) rfl rfl ?_
                    refine g_cmp_ge 11 15 (gd rfl) rfl rfl (fun c118x8 => ?_) (fun c118x8 => ?_)
                    · skip
                      exact n_le c118x8 (in_c 13 rfl) i95x8 rfl
                    · skip
                      refine g_iconst 1 12 (gd rfl) rfl rfl ?_
                      refine g_goto 16 (gd rfl) rfl ?_
                      refine g_ireturn (gd rfl) rfl (nb01 (in_w 0 1 (in_c 1 rfl) rfl)) (hp118 _ _ ?_)
                      show GG _ _ _ _ _ _ _ _ [.int (Int32.ofInt 1)] _ _ _
                      refine g_istore_n 122 (gd rfl) rfl (Nat.le_of_ble_eq_true rfl) ?_
                      refine g_aload_n 123 (gd rfl) rfl rfl ?_
                      refine g_iload_n 124 (gd rfl) rfl rfl ?_
                      refine g_if_eq 127 136 (gd rfl) rfl rfl (fun c124 => ?_) (fun c124 => ?_)
                      · skip
                        exact zn_eq c124 (in_c 1 rfl) rfl
                      · skip
                        refine g_aload_n 128 (gd rfl) rfl rfl ?_
                        refine g_getA (q2 := 4) 131 (gd rfl) rfl rfl rfl rfl ?_
                        refine g_iload_n 132 (gd rfl) rfl rfl ?_
                        refine g_iaload 133 (gd rfl) rfl (n := 160) rfl (in_ix i77 rfl) (fun z132 e132 => ?_)
                        have q132 : z82x5 = z132 := (e82x5).trans e132.symm
                        subst q132
                        refine g_goto 142 (gd rfl) rfl ?_
                        refine g_iload_n 143 (gd rfl) rfl rfl ?_
                        refine g_if_eq 146 155 (gd rfl) rfl rfl (fun c143 => ?_) (fun c143 => ?_)
                        · skip
                          exact zn_eq c143 (in_c 1 rfl) rfl
                        · skip
                          refine g_aload_n 147 (gd rfl) rfl rfl ?_
                          refine g_getA (q2 := 5) 150 (gd rfl) rfl rfl rfl rfl ?_
                          refine g_iload_n 151 (gd rfl) rfl rfl ?_
                          refine g_iaload 152 (gd rfl) rfl (n := 160) rfl (in_ix i77 rfl) (fun z151 e151 => ?_)
                          have q151 : z82x21 = z151 := (e82x21).trans e151.symm
                          subst q151
                          refine g_goto 161 (gd rfl) rfl ?_
                          refine g_aload_n 162 (gd rfl) rfl rfl ?_
                          refine g_getA (q2 := 6) 165 (gd rfl) rfl rfl rfl rfl ?_
                          refine g_iload_n 166 (gd rfl) rfl rfl ?_
                          refine g_iaload 167 (gd rfl) rfl (n := 160) rfl (in_ix i77 rfl) (fun z166 e166 => ?_)
                          have i166 := inv_I hIc72 (n := 160) (t := 0) (-1000000) 1000000 rfl (in_ix i77 rfl) rfl e166
                          refine g_iconst 1 168 (gd rfl) rfl rfl ?_
                          refine g_callv (X := _) (As := [.int z82x5, .int z82x21, .int z166, .int (Int32.ofInt 1)]) (r := []) (b := A 65) (q := 65) 171 (gd rfl) rfl rfl rfl rfl rfl (ww_o rfl) (Nat.le_of_ble_eq_true rfl) (Nat.zero_le _) (Nat.zero_le _) (f_84_65 (by first | exact dq1 hd rfl | exact dq0 hd rfl | exact dq2 hd rfl | exact dq3 hd rfl | omega) hIc72 (in_w 0 31 i82x7 rfl) (in_w 0 31 i82x21 rfl) (in_w (-1000000) 1000000 i166 rfl) (in_w 0 1000000 (in_c 1 rfl) rfl)) (fun e u h => h) (fun v u h => ?_)
                          obtain ⟨s168, hI168, hF168, rfl, rfl, p168⟩ := h
                          show GG _ _ _ _ _ _ _ _ [] _ _ _
                          refine g_iinc 174 (gd rfl) rfl rfl (Nat.le_of_ble_eq_true rfl) (fun z171 e171 => ?_)
                          have i171 := in_add 1 160 e171 i77 (in_c 1 rfl) rfl rfl
                          refine g_goto 72 (gd rfl) rfl ?_
                          have v72 : w72_65_17 = s168.2.2.1 65 17 := fr_F (v72_65_17) hF168 rfl
                          have n72 : (w72_65_17).toInt = 0 := by first | exact n72_0 | (exact (have a0 := in_u i77a; have a1 := in_u ro_2_1; have a2 := in_u ro_2_0; have a3 := in_u ((inv_F hIc72 0 32 rfl v72_65_17)); have a4 := in_u i77; have a5 := in_u ((in_c 1 rfl)); have a6 := in_u i171; have a7 := t_add e171 i77 (in_c 1 rfl) rfl; have oc := oc_89_65_2; by omega))
                          have n72a : E37 (gvC s) s168 (s.2.2.1 2 1).toNatClampNeg := by exact e37_x g72_0 (ex_fr hF168 rfl)
                          have n72b : LYF (gvC s) s168 (z171).toNatClampNeg := by rw [(show (z171).toNatClampNeg = (y72_2).toNatClampNeg + 1 from (by show (z171).toInt.toNat = (y72_2).toInt.toNat + 1; exact (have a0 := in_u i77a; have a1 := in_u ro_2_1; have a2 := in_u ro_2_0; have a3 := in_u ((inv_F hIc72 0 32 rfl v72_65_17)); have a4 := in_u i77; have a5 := in_u ((in_c 1 rfl)); have a6 := in_u i171; have a7 := t_add e171 i77 (in_c 1 rfl) rfl; have oc := oc_89_65_2; by omega)))]; exact lyf_y g72_1 (show (y72_2).toNatClampNeg < 160 from (by show (y72_2).toInt.toNat < 160; exact (have a0 := in_u i77a; have a1 := in_u ro_2_1; have a2 := in_u ro_2_0; have a3 := in_u ((inv_F hIc72 0 32 rfl v72_65_17)); have a4 := in_u i77; have a5 := in_u ((in_c 1 rfl)); have a6 := in_u i171; have a7 := t_add e171 i77 (in_c 1 rfl) rfl; have oc := oc_89_65_2; by omega))) (pel_3 (show z82x5 = (gvC s).2.1 (y72_2).toNatClampNeg from (e82x5.trans (congrFun (hFc72.1 4 rfl) _))) (show z82x21 = (gvC s).2.2.1 (y72_2).toNatClampNeg from (e82x21.trans (congrFun (hFc72.1 5 rfl) _))) (show z95x5 = (gvC s).1 z82x5.toNatClampNeg from (e95x5.trans (congrFun (hFc72.1 3 rfl) _))) (show z105x5 = (gvC s).1 z82x21.toNatClampNeg from (e105x5.trans (congrFun (hFc72.1 3 rfl) _))) (by exact (have a0 := in_u i77a; have a1 := in_u ro_2_1; have a2 := in_u ro_2_0; have a3 := in_u ((inv_F hIc72 0 32 rfl v72_65_17)); have a4 := in_u i77; have a5 := in_u ((in_c 1 rfl)); have a6 := in_u i171; have a7 := t_add e171 i77 (in_c 1 rfl) rfl; have oc := oc_89_65_2; by omega)) c82x22 (by exact (have a0 := in_u i77a; have a1 := in_u ro_2_1; have a2 := in_u ro_2_0; have a3 := in_u ((inv_F hIc72 0 32 rfl v72_65_17)); have a4 := in_u i77; have a5 := in_u ((in_c 1 rfl)); have a6 := in_u i171; have a7 := t_add e171 i77 (in_c 1 rfl) rfl; have oc := oc_89_65_2; by omega)) (by exact (have a0 := in_u i77a; have a1 := in_u ro_2_1; have a2 := in_u ro_2_0; have a3 := in_u ((inv_F hIc72 0 32 rfl v72_65_17)); have a4 := in_u i77; have a5 := in_u ((in_c 1 rfl)); have a6 := in_u i171; have a7 := t_add e171 i77 (in_c 1 rfl) rfl; have oc := oc_89_65_2; by omega))) (show z166 = (gvC s).2.2.2.1 (y72_2).toNatClampNeg from (e166.trans (congrFun (hFc72.1 6 rfl) _))) rfl (inv_F hIc72 (z := sc72.2.2.1 65 8) 0 160 rfl rfl).1 p168
                          have n72c : (s168).2.2.1 65 16 = s.2.2.1 2 0 ∧ (s168).2.2.2.1 65 18 = Int64.ofInt 0 := by exact ⟨(hF168.2.2.1 65 16 rfl).trans g72_2.1, (hF168.2.2.2 65 18 rfl).trans g72_2.2⟩
                          exact gg_w (by first | exact Nat.le_add_right _ _ | exact gw2 | exact gw3 | exact gwe rfl | exact gwf rfl | exact gwg rfl | exact gwh rfl | omega) (gg_f (gf_cons rfl (gf_cons rfl (gf_cons rfl gf_nil))) (ih72 s168 z171 w72_65_17 hI168 (fr_tr rfl hFc72 hF168) (in_w 0 160 i171 rfl) v72 n72 n72a n72b n72c (m_up mm72 (t_add e171 i77 (in_c 1 rfl) rfl) (in_w 1 1 (in_c 1 rfl) rfl))))
                · skip
                  have i105x8 := r_lt1 0 12 c105x8 i105x5 (in_c 13 rfl) rfl
                  refine g_iconst 1 12 (gd rfl) rfl rfl ?_
                  refine g_goto 16 (gd rfl) rfl ?_
                  refine g_ireturn (gd rfl) rfl (nb01 (in_w 0 1 (in_c 1 rfl) rfl)) (hp105 _ _ ?_)
                  show GG _ _ _ _ _ _ _ _ [.int (Int32.ofInt 1), .int (Int32.ofInt 1)] _ _ _
                  refine g_cmp_eq 111 171 (gd rfl) rfl rfl (fun c108 => ?_) (fun c108 => ?_)
                  · skip
                    refine g_iinc 174 (gd rfl) rfl rfl (Nat.le_of_ble_eq_true rfl) (fun z171 e171 => ?_)
                    have i171 := in_add 1 160 e171 i77 (in_c 1 rfl) rfl rfl
                    refine g_goto 72 (gd rfl) rfl ?_
                    have n72 : (w72_65_17).toInt = 0 := by first | exact n72_0 | (exact (have a0 := in_u i77a; have a1 := in_u ro_2_1; have a2 := in_u ro_2_0; have a3 := in_u ((inv_F hIc72 0 32 rfl v72_65_17)); have a4 := in_u i77; have a5 := in_u i171; have a6 := t_add e171 i77 (in_c 1 rfl) rfl; have a7 := in_u ((in_c 1 rfl)); have oc := oc_89_65_2; by omega))
                    have n72a : E37 (gvC s) sc72 (s.2.2.1 2 1).toNatClampNeg := by exact g72_0
                    have n72b : LYF (gvC s) sc72 (z171).toNatClampNeg := by rw [(show (z171).toNatClampNeg = (y72_2).toNatClampNeg + 1 from (by show (z171).toInt.toNat = (y72_2).toInt.toNat + 1; exact (have a0 := in_u i77a; have a1 := in_u ro_2_1; have a2 := in_u ro_2_0; have a3 := in_u ((inv_F hIc72 0 32 rfl v72_65_17)); have a4 := in_u i77; have a5 := in_u i171; have a6 := t_add e171 i77 (in_c 1 rfl) rfl; have a7 := in_u ((in_c 1 rfl)); have oc := oc_89_65_2; by omega)))]; exact lyf_n g72_1 (pel_2 (show z82x5 = (gvC s).2.1 (y72_2).toNatClampNeg from (e82x5.trans (congrFun (hFc72.1 4 rfl) _))) (show z82x21 = (gvC s).2.2.1 (y72_2).toNatClampNeg from (e82x21.trans (congrFun (hFc72.1 5 rfl) _))) (show z95x5 = (gvC s).1 z82x5.toNatClampNeg from (e95x5.trans (congrFun (hFc72.1 3 rfl) _))) (show z105x5 = (gvC s).1 z82x21.toNatClampNeg from (e105x5.trans (congrFun (hFc72.1 3 rfl) _))) ⟨fun _ => (by exact (have a0 := in_u i77a; have a1 := in_u ro_2_1; have a2 := in_u ro_2_0; have a3 := in_u ((inv_F hIc72 0 32 rfl v72_65_17)); have a4 := in_u i77; have a5 := in_u i171; have a6 := t_add e171 i77 (in_c 1 rfl) rfl; have a7 := in_u ((in_c 1 rfl)); have oc := oc_89_65_2; by omega)), fun _ => (by exact (have a0 := in_u i77a; have a1 := in_u ro_2_1; have a2 := in_u ro_2_0; have a3 := in_u ((inv_F hIc72 0 32 rfl v72_65_17)); have a4 := in_u i77; have a5 := in_u i171; have a6 := t_add e171 i77 (in_c 1 rfl) rfl; have a7 := in_u ((in_c 1 rfl)); have oc := oc_89_65_2; by omega))⟩)
                    have n72c : (sc72).2.2.1 65 16 = s.2.2.1 2 0 ∧ (sc72).2.2.2.1 65 18 = Int64.ofInt 0 := by exact g72_2
                    exact gg_w (by first | exact Nat.le_add_right _ _ | exact gw2 | exact gw3 | exact gwe rfl | exact gwf rfl | exact gwg rfl | exact gwh rfl | omega) (gg_f (gf_cons rfl (gf_cons rfl (gf_cons rfl gf_nil))) (ih72 sc72 z171 w72_65_17 hIc72 hFc72 (in_w 0 160 i171 rfl) v72_65_17 n72 n72a n72b n72c (m_up mm72 (t_add e171 i77 (in_c 1 rfl) rfl) (in_w 1 1 (in_c 1 rfl) rfl))))
                  · skip
                    exact n_ne c108 (in_c 1 rfl) (in_c 1 rfl) rfl
  have ct37 : ∀ (k37 : Nat) (sc37 : GS) (y37_2 : Int32) (w37_65_17 : Int32), Inv sc37 → Fr fm_89_65_2 s sc37 → (In y37_2 0 32) → (w37_65_17 = sc37.2.2.1 65 17) → ((w37_65_17).toInt = 0) → (E37 (gvC s) sc37 (y37_2).toNatClampNeg) → ((sc37).2.2.1 65 16 = s.2.2.1 2 0 ∧ (sc37).2.2.2.1 65 18 = Int64.ofInt 0 ∧ (sc37).2.2.1 65 8 = Int32.ofInt 0) → 32 - (y37_2).toInt < (k37 : Int) → GG Z (d - 1) 89 post (gx xp) (174603 + k37 * 900) 37 (fun j => xlook j [(0, .ref (A 65)), (1, .ref (A 2)), (2, .int y37_2)]) [] (WW Z A sc37 ++ ex) 0 0 := by
    intro k37
    induction k37 with
    | zero => intro sc37 y37_2 w37_65_17 hIc37 hFc37 j37_2 v37_65_17 n37_0 g37_0 g37_1 mm37; exact m_no mm37 j37_2 rfl
    | succ k37 ih37 =>
      intro sc37 y37_2 w37_65_17 hIc37 hFc37 j37_2 v37_65_17 n37_0 g37_0 g37_1 mm37
      refine gg_w (M := 174603 + k37 * 900 + 900) gws ?_
      refine g_iload_n 38 (gd rfl) rfl rfl ?_
      refine g_aload_n 39 (gd rfl) rfl rfl ?_
      refine g_getI 42 (gd rfl) rfl rfl rfl (fun z39 e39 => ?_)
      have q39 : u_2_1 = z39 := (fr_F e_2_1 hFc37 rfl).trans e39.symm
      subst q39
      refine g_cmp_ge 45 70 (gd rfl) rfl rfl (fun c42 => ?_) (fun c42 => ?_)
      · skip
        refine g_iconst 0 71 (gd rfl) rfl rfl ?_
        refine g_istore_n 72 (gd rfl) rfl (Nat.le_of_ble_eq_true rfl) ?_
        have n72 : (w37_65_17).toInt = 0 := by first | exact n37_0 | (exact (have a0 := in_u ro_2_3; have a1 := in_u ro_2_1; have a2 := in_u ro_2_0; have a3 := in_u ((inv_F hIc37 0 32 rfl v37_65_17)); have a4 := in_u j37_2; have a5 := in_u ((in_c 0 rfl)); have oc := oc_89_65_2; by omega))
        have n72a : E37 (gvC s) sc37 (s.2.2.1 2 1).toNatClampNeg := by exact fun v hv => g37_0 v (Nat.lt_of_lt_of_le hv (show (s.2.2.1 2 1).toNatClampNeg ≤ (y37_2).toNatClampNeg from (by rw [← e_2_1]; show (u_2_1).toInt.toNat ≤ (y37_2).toInt.toNat; exact (have a0 := in_u ro_2_3; have a1 := in_u ro_2_1; have a2 := in_u ro_2_0; have a3 := in_u ((inv_F hIc37 0 32 rfl v37_65_17)); have a4 := in_u j37_2; have a5 := in_u ((in_c 0 rfl)); have oc := oc_89_65_2; by omega))))
        have n72b : LYF (gvC s) sc37 ((Int32.ofInt 0)).toNatClampNeg := by exact (show LYF _ _ 0 from lyf_0 g37_1.2.2)
        have n72c : (sc37).2.2.1 65 16 = s.2.2.1 2 0 ∧ (sc37).2.2.2.1 65 18 = Int64.ofInt 0 := by exact ⟨g37_1.1, g37_1.2.1⟩
        exact gg_w (by first | exact Nat.le_add_right _ _ | exact gw2 | exact gw3 | exact gwe rfl | exact gwf rfl | exact gwg rfl | exact gwh rfl | omega) (gg_f (gf_cons rfl (gf_cons rfl (gf_cons rfl gf_nil))) (ct72 161 sc37 (Int32.ofInt 0) w37_65_17 hIc37 hFc37 (in_w 0 160 (in_c 0 rfl) rfl) v37_65_17 n72 n72a n72b n72c (m_in 161 (in_w 0 160 (in_c 0 rfl) rfl) rfl)))
      · skip
        have i42 := r_lt1 0 31 c42 j37_2 ro_2_1 rfl
        have i42a := r_lt2 1 32 c42 j37_2 ro_2_1 rfl
        refine g_aload_n 46 (gd rfl) rfl rfl ?_
        refine g_getA (q2 := 74) 49 (gd rfl) rfl rfl rfl rfl ?_
        refine g_iload_n 50 (gd rfl) rfl rfl ?_
        refine g_aload_n 51 (gd rfl) rfl rfl ?_
        refine g_iload_n 52 (gd rfl) rfl rfl ?_
        refine g_calls (As := [.ref (A 2), .int y37_2]) (r := [.int y37_2, .ref (A 74)]) 55 (gd rfl) rfl rfl rfl rfl rfl (Nat.le_of_ble_eq_true rfl) (mc := 0) (ms := 0) (Nat.zero_le _) (Nat.zero_le _) (P := fun v u => _) ?_ (fun v u h => h)
        intro po52 xx52 hp52 hx52
        refine g_enter2 (k := 90) (N := 300) (by first | exact dq1 hd rfl | exact dq0 hd rfl | exact dq2 hd rfl | exact dq3 hd rfl | omega) rfl (Nat.le_of_ble_eq_true rfl) ?_
        refine g_aload_n 1 (gd rfl) rfl rfl ?_
        refine g_getA (q2 := 3) 4 (gd rfl) rfl rfl rfl rfl ?_
        refine g_iload_n 5 (gd rfl) rfl rfl ?_
        refine g_iaload 6 (gd rfl) rfl (n := 32) rfl (in_ix i42 rfl) (fun z52x5 e52x5 => ?_)
        have i52x5 := inv_I hIc37 (n := 32) (t := 0) 0 25 rfl (in_ix i42 rfl) rfl e52x5
        refine g_bipush 13 8 (gd rfl) rfl rfl ?_
        refine g_cmp_ge 11 15 (gd rfl) rfl rfl (fun c52x8 => ?_) (fun c52x8 => ?_)
        · skip
          have i52x8 := r_le2 13 25 c52x8 (in_c 13 rfl) i52x5 rfl
          refine g_iconst 0 16 (gd rfl) rfl rfl ?_
          refine g_ireturn (gd rfl) rfl (nb01 (in_w 0 1 (in_c 0 rfl) rfl)) (hp52 _ _ ?_)
          show GG _ _ _ _ _ _ _ _ [.int (Int32.ofInt 0), .int y37_2, .ref (A 74)] _ _ _
          refine g_if_eq 58 62 (gd rfl) rfl rfl (fun c55 => ?_) (fun c55 => ?_)
          · skip
            refine g_iconst (-1) 63 (gd rfl) rfl rfl ?_
            refine g_iastore 64 (gd rfl) rfl (n := 32) rfl (in_ix i42 rfl) ?_
            have hI63 := inv_sI (q := 74) (j := y37_2.toNatClampNeg) hIc37 rfl (in_w (-2147483648) 2147483647 (in_c (-1) rfl) rfl)
            refine g_iinc 67 (gd rfl) rfl rfl (Nat.le_of_ble_eq_true rfl) (fun z64 e64 => ?_)
            have i64 := in_add 1 32 e64 i42 (in_c 1 rfl) rfl rfl
            refine g_goto 37 (gd rfl) rfl ?_
            have v37 : w37_65_17 = (sI sc37 74 y37_2.toNatClampNeg (Int32.ofInt (-1))).2.2.1 65 17 := sI_F (v37_65_17)
            have n37 : (w37_65_17).toInt = 0 := by first | exact n37_0 | (exact (have a0 := in_u ro_2_3; have a1 := in_u i42a; have a2 := in_u ro_2_0; have a3 := in_u ((inv_F hIc37 0 32 rfl v37_65_17)); have a4 := in_u i42; have a5 := in_u i64; have a6 := t_add e64 i42 (in_c 1 rfl) rfl; have a7 := in_u ((in_c 1 rfl)); have oc := oc_89_65_2; by omega))
            have n37a : E37 (gvC s) (sI sc37 74 y37_2.toNatClampNeg (Int32.ofInt (-1))) (z64).toNatClampNeg := by rw [(show (z64).toNatClampNeg = (y37_2).toNatClampNeg + 1 from (by show (z64).toInt.toNat = (y37_2).toInt.toNat + 1; exact (have a0 := in_u ro_2_3; have a1 := in_u i42a; have a2 := in_u ro_2_0; have a3 := in_u ((inv_F hIc37 0 32 rfl v37_65_17)); have a4 := in_u i42; have a5 := in_u i64; have a6 := t_add e64 i42 (in_c 1 rfl) rfl; have a7 := in_u ((in_c 1 rfl)); have oc := oc_89_65_2; by omega)))]; first | exact e37_h g37_0 (show z52x5 = (gvC s).1 (y37_2).toNatClampNeg from (e52x5.trans (congrFun (hFc37.1 3 rfl) _))) c52x8 | exact e37_l g37_0 (show z52x5 = (gvC s).1 (y37_2).toNatClampNeg from (e52x5.trans (congrFun (hFc37.1 3 rfl) _))) c52x8
            have n37b : ((sI sc37 74 y37_2.toNatClampNeg (Int32.ofInt (-1)))).2.2.1 65 16 = s.2.2.1 2 0 ∧ ((sI sc37 74 y37_2.toNatClampNeg (Int32.ofInt (-1)))).2.2.2.1 65 18 = Int64.ofInt 0 ∧ ((sI sc37 74 y37_2.toNatClampNeg (Int32.ofInt (-1)))).2.2.1 65 8 = Int32.ofInt 0 := by exact g37_1
            exact gg_w (by first | exact Nat.le_add_right _ _ | exact gw2 | exact gw3 | exact gwe rfl | exact gwf rfl | exact gwg rfl | exact gwh rfl | omega) (gg_f (gf_cons rfl (gf_cons rfl (gf_cons rfl gf_nil))) (ih37 (sI sc37 74 y37_2.toNatClampNeg (Int32.ofInt (-1))) z64 w37_65_17 hI63 (fr_sI rfl hFc37) (in_w 0 32 i64 rfl) v37 n37 n37a n37b (m_up mm37 (t_add e64 i42 (in_c 1 rfl) rfl) (in_w 1 1 (in_c 1 rfl) rfl))))
          · skip
            exact zn_ne c55 (in_c 0 rfl) rfl
        · skip
          have i52x8 := r_lt1 0 12 c52x8 i52x5 (in_c 13 rfl) rfl
          refine g_iconst 1 12 (gd rfl) rfl rfl ?_
          refine g_goto 16 (gd rfl) rfl ?_
          refine g_ireturn (gd rfl) rfl (nb01 (in_w 0 1 (in_c 1 rfl) rfl)) (hp52 _ _ ?_)
          show GG _ _ _ _ _ _ _ _ [.int (Int32.ofInt 1), .int y37_2, .ref (A 74)] _ _ _
          refine g_if_eq 58 62 (gd rfl) rfl rfl (fun c55 => ?_) (fun c55 => ?_)
          · skip
            exact zn_eq c55 (in_c 1 rfl) rfl
          · skip
            refine g_iconst 1 59 (gd rfl) rfl rfl ?_
            refine g_goto 63 (gd rfl) rfl ?_
            refine g_iastore 64 (gd rfl) rfl (n := 32) rfl (in_ix i42 rfl) ?_
            have hI63 := inv_sI (q := 74) (j := y37_2.toNatClampNeg) hIc37 rfl (in_w (-2147483648) 2147483647 (in_c 1 rfl) rfl)
            refine g_iinc 67 (gd rfl) rfl rfl (Nat.le_of_ble_eq_true rfl) (fun z64 e64 => ?_)
            have i64 := in_add 1 32 e64 i42 (in_c 1 rfl) rfl rfl
            refine g_goto 37 (gd rfl) rfl ?_
            have v37 : w37_65_17 = (sI sc37 74 y37_2.toNatClampNeg (Int32.ofInt 1)).2.2.1 65 17 := sI_F (v37_65_17)
            have n37 : (w37_65_17).toInt = 0 := by first | exact n37_0 | (exact (have a0 := in_u ro_2_3; have a1 := in_u i42a; have a2 := in_u ro_2_0; have a3 := in_u ((inv_F hIc37 0 32 rfl v37_65_17)); have a4 := in_u i42; have a5 := in_u i64; have a6 := t_add e64 i42 (in_c 1 rfl) rfl; have a7 := in_u ((in_c 1 rfl)); have oc := oc_89_65_2; by omega))
            have n37a : E37 (gvC s) (sI sc37 74 y37_2.toNatClampNeg (Int32.ofInt 1)) (z64).toNatClampNeg := by rw [(show (z64).toNatClampNeg = (y37_2).toNatClampNeg + 1 from (by show (z64).toInt.toNat = (y37_2).toInt.toNat + 1; exact (have a0 := in_u ro_2_3; have a1 := in_u i42a; have a2 := in_u ro_2_0; have a3 := in_u ((inv_F hIc37 0 32 rfl v37_65_17)); have a4 := in_u i42; have a5 := in_u i64; have a6 := t_add e64 i42 (in_c 1 rfl) rfl; have a7 := in_u ((in_c 1 rfl)); have oc := oc_89_65_2; by omega)))]; first | exact e37_h g37_0 (show z52x5 = (gvC s).1 (y37_2).toNatClampNeg from (e52x5.trans (congrFun (hFc37.1 3 rfl) _))) c52x8 | exact e37_l g37_0 (show z52x5 = (gvC s).1 (y37_2).toNatClampNeg from (e52x5.trans (congrFun (hFc37.1 3 rfl) _))) c52x8
            have n37b : ((sI sc37 74 y37_2.toNatClampNeg (Int32.ofInt 1))).2.2.1 65 16 = s.2.2.1 2 0 ∧ ((sI sc37 74 y37_2.toNatClampNeg (Int32.ofInt 1))).2.2.2.1 65 18 = Int64.ofInt 0 ∧ ((sI sc37 74 y37_2.toNatClampNeg (Int32.ofInt 1))).2.2.1 65 8 = Int32.ofInt 0 := by exact g37_1
            exact gg_w (by first | exact Nat.le_add_right _ _ | exact gw2 | exact gw3 | exact gwe rfl | exact gwf rfl | exact gwg rfl | exact gwh rfl | omega) (gg_f (gf_cons rfl (gf_cons rfl (gf_cons rfl gf_nil))) (ih37 (sI sc37 74 y37_2.toNatClampNeg (Int32.ofInt 1)) z64 w37_65_17 hI63 (fr_sI rfl hFc37) (in_w 0 32 i64 rfl) v37 n37 n37a n37b (m_up mm37 (t_add e64 i42 (in_c 1 rfl) rfl) (in_w 1 1 (in_c 1 rfl) rfl))))
  refine g_enter2 (k := 89) (N := 205203) (by first | exact dq1 hd rfl | exact dq0 hd rfl | exact dq2 hd rfl | exact dq3 hd rfl | omega) rfl (Nat.le_of_ble_eq_true rfl) ?_
  refine g_aload_n 1 (gd rfl) rfl rfl ?_
  refine g_getI 4 (gd rfl) rfl rfl rfl (fun z1 e1 => ?_)
  have i1 := inv_F hI (-1) 4000 rfl e1
  refine g_aload_n 5 (gd rfl) rfl rfl ?_
  refine g_getI 8 (gd rfl) rfl rfl rfl (fun z5 e5 => ?_)
  have q5 : u_2_0 = z5 := (e_2_0).trans e5.symm
  subst q5
  refine g_cmp_ne 11 12 (gd rfl) rfl rfl (fun c8 => ?_) (fun c8 => ?_)
  · skip
    refine g_aload_n 13 (gd rfl) rfl rfl ?_
    refine g_aload_n 14 (gd rfl) rfl rfl ?_
    refine g_getI 17 (gd rfl) rfl rfl rfl (fun z14 e14 => ?_)
    have q14 : u_2_0 = z14 := (e_2_0).trans e14.symm
    subst q14
    refine g_putI 20 (gd rfl) rfl rfl rfl rfl ?_
    have hI17 := inv_sF (q := 65) (j := 16) hI rfl (in_w (-1) 4000 ro_2_0 rfl)
    refine g_aload_n 21 (gd rfl) rfl rfl ?_
    refine g_iconst 0 22 (gd rfl) rfl rfl ?_
    refine g_putI 25 (gd rfl) rfl rfl rfl rfl ?_
    have hI22 := inv_sF (q := 65) (j := 17) hI17 rfl (in_w 0 32 (in_c 0 rfl) rfl)
    refine g_aload_n 26 (gd rfl) rfl rfl ?_
    refine g_lconst 0 27 (gd rfl) rfl rfl ?_
    refine g_putL 30 (gd rfl) rfl rfl rfl rfl ?_
    have hI27 := inv_sG (q := 65) (j := 18) (x := (Int64.ofInt 0)) hI22 rfl (l_rng (Int64.ofInt 0))
    refine g_aload_n 31 (gd rfl) rfl rfl ?_
    refine g_iconst 0 32 (gd rfl) rfl rfl ?_
    refine g_putI 35 (gd rfl) rfl rfl rfl rfl ?_
    have hI32 := inv_sF (q := 65) (j := 8) hI27 rfl (in_w 0 160 (in_c 0 rfl) rfl)
    refine g_iconst 0 36 (gd rfl) rfl rfl ?_
    refine g_istore_n 37 (gd rfl) rfl (Nat.le_of_ble_eq_true rfl) ?_
    have v37 : (Int32.ofInt 0) = (sF (sG (sF (sF s 65 16 u_2_0) 65 17 (Int32.ofInt 0)) 65 18 (Int64.ofInt 0)) 65 8 (Int32.ofInt 0)).2.2.1 65 17 := sF_ne rfl (sG_F (sF_get))
    have n37 : ((Int32.ofInt 0)).toInt = 0 := by exact (have a0 := in_u ro_2_3; have a1 := in_u ro_2_1; have a2 := in_u ro_2_0; have a3 := in_u ((in_c 0 rfl)); have oc := oc_89_65_2; by omega)
    have n37a : E37 (gvC s) (sF (sG (sF (sF s 65 16 u_2_0) 65 17 (Int32.ofInt 0)) 65 18 (Int64.ofInt 0)) 65 8 (Int32.ofInt 0)) ((Int32.ofInt 0)).toNatClampNeg := by exact (show E37 _ _ 0 from fun v hv => absurd hv (Nat.not_lt_zero v))
    have n37b : ((sF (sG (sF (sF s 65 16 u_2_0) 65 17 (Int32.ofInt 0)) 65 18 (Int64.ofInt 0)) 65 8 (Int32.ofInt 0))).2.2.1 65 16 = s.2.2.1 2 0 ∧ ((sF (sG (sF (sF s 65 16 u_2_0) 65 17 (Int32.ofInt 0)) 65 18 (Int64.ofInt 0)) 65 8 (Int32.ofInt 0))).2.2.2.1 65 18 = Int64.ofInt 0 ∧ ((sF (sG (sF (sF s 65 16 u_2_0) 65 17 (Int32.ofInt 0)) 65 18 (Int64.ofInt 0)) 65 8 (Int32.ofInt 0))).2.2.1 65 8 = Int32.ofInt 0 := by exact ⟨e_2_0, rfl, rfl⟩
    exact gg_w (by first | exact Nat.le_of_ble_eq_true rfl | omega) (gg_f (gf_cons rfl (gf_cons rfl (gf_cons rfl gf_nil))) (ct37 33 (sF (sG (sF (sF s 65 16 u_2_0) 65 17 (Int32.ofInt 0)) 65 18 (Int64.ofInt 0)) 65 8 (Int32.ofInt 0)) (Int32.ofInt 0) (Int32.ofInt 0) hI32 (fr_sF rfl (fr_sG rfl (fr_sF rfl (fr_sF rfl fr_rf)))) (in_w 0 32 (in_c 0 rfl) rfl) v37 n37 n37a n37b (m_in 33 (in_w 0 32 (in_c 0 rfl) rfl) rfl)))
  · skip
    have i8 := r_eq1 0 4000 c8 i1 ro_2_0 rfl
    have n11 : PRQ (gvC s) s := by have c9 : (s.2.2.1 65 16).toInt = (gvC s).2.2.2.2.2.2.2 := (by show (s.2.2.1 65 16).toInt = (s.2.2.1 2 0).toInt; rw [← e1, ← e_2_0]; first | exact c8 | exact c8.symm); exact ⟨c9, q_2 c9⟩
    exact g_return (gd rfl) rfl (hP _ _ ⟨s, hI, fr_rf, rfl, rfl, n11⟩)
theorem oc_89_65_32 : (Int32.ofInt (-1)).toInt = (-1) ∧ (Int32.ofInt 0).toInt = 0 ∧ (Int32.ofInt 1).toInt = 1 ∧ (Int32.ofInt 13).toInt = 13 ∧ (Int32.ofInt 32).toInt = 32 ∧ (Int64.ofInt 0).toInt = 0 := ⟨rfl, rfl, rfl, rfl, rfl, rfl⟩
set_option maxHeartbeats 2000000 in
/-- GraphHouse$Flows.pair -/
theorem f_89_65_32 {Z : AmZ} {A : Nat → Nat} {s : GS} {ex : va_W} {d : Nat} {X : AmX}  (hd : 4 ≤ d) (hI : Inv s) (q_0 : TQD s) (q_1 : NDQ (gvD s)) (q_2 : PRB (gvD s) s) : GC Z d 89 [.ref (A 65), .ref (A 32)] (WW Z A s ++ ex) 0 0 (fun v u => ∃ t : GS, Inv t ∧ Fr fm_89_65_32 s t ∧ v = none ∧ u = WW Z A t ++ ex ∧ (PRQ (gvD s) t)) X := by
  intro post xp hP hX
  obtain ⟨u_32_0, e_32_0⟩ : ∃ w, w = s.2.2.1 32 0 := ⟨_, rfl⟩
  have ro_32_0 := inv_F hI 0 4000 rfl e_32_0
  obtain ⟨u_32_1, e_32_1⟩ : ∃ w, w = s.2.2.1 32 1 := ⟨_, rfl⟩
  have ro_32_1 := inv_F hI 0 32 rfl e_32_1
  obtain ⟨u_32_3, e_32_3⟩ : ∃ w, w = s.2.2.1 32 3 := ⟨_, rfl⟩
  have ro_32_3 := inv_F hI 0 160 rfl e_32_3
  have ct179 : ∀ (k179 : Nat) (sc179 : GS) (y179_2 : Int32) (w179_65_17 : Int32), Inv sc179 → Fr fm_89_65_32 s sc179 → (In y179_2 0 32) → (w179_65_17 = sc179.2.2.1 65 17) → ((w179_65_17).toInt ≤ (y179_2).toInt) → (PNS (gvD s) (s.2.2.1 32 1).toNatClampNeg sc179) → (((sc179).2.2.1 65 17).toInt = (y179_2).toInt) → ((sc179).2.2.1 65 16 = s.2.2.1 32 0) → 32 - (y179_2).toInt < (k179 : Int) → GG Z (d - 1) 89 post (gx xp) (1 + k179 * 900) 179 (fun j => xlook j [(0, .ref (A 65)), (1, .ref (A 32)), (2, .int y179_2)]) [] (WW Z A sc179 ++ ex) 0 0 := by
    intro k179
    induction k179 with
    | zero => intro sc179 y179_2 w179_65_17 hIc179 hFc179 j179_2 v179_65_17 n179_0 g179_0 g179_1 g179_2 mm179; exact m_no mm179 j179_2 rfl
    | succ k179 ih179 =>
      intro sc179 y179_2 w179_65_17 hIc179 hFc179 j179_2 v179_65_17 n179_0 g179_0 g179_1 g179_2 mm179
      refine gg_w (M := 1 + k179 * 900 + 900) gws ?_
      refine g_iload_n 180 (gd rfl) rfl rfl ?_
      refine g_bipush 32 182 (gd rfl) rfl rfl ?_
      refine g_cmp_ge 185 231 (gd rfl) rfl rfl (fun c182 => ?_) (fun c182 => ?_)
      · skip
        have i182 := r_le2 32 32 c182 (in_c 32 rfl) j179_2 rfl
        have n231 : PRQ (gvD s) sc179 := by exfalso; have h9 := pns_x (gok_D hI q_1) g179_0; have h8 := g179_1; exact (have a0 := in_u ro_32_3; have a1 := in_u ro_32_1; have a2 := in_u ro_32_0; have a3 := in_u ((inv_F hIc179 0 32 rfl v179_65_17)); have a4 := in_u i182; have oc := oc_89_65_32; by omega)
        exact g_return (gd rfl) rfl (hP _ _ ⟨sc179, hIc179, hFc179, rfl, rfl, n231⟩)
      · skip
        have i182 := r_lt1 0 31 c182 j179_2 (in_c 32 rfl) rfl
        refine g_aload_n 186 (gd rfl) rfl rfl ?_
        refine g_aload_n 187 (gd rfl) rfl rfl ?_
        refine g_getI 190 (gd rfl) rfl rfl rfl (fun z187 e187 => ?_)
        have q187 : u_32_1 = z187 := (fr_F e_32_1 hFc179 rfl).trans e187.symm
        subst q187
        refine g_iconst 1 191 (gd rfl) rfl rfl ?_
        have p191 : NLP sc179 ((Int32.ofInt 1)).toInt (u_32_1).toNatClampNeg := by rw [e_32_1]; exact (show NLP sc179 1 _ from pnb_n (gok_D hI q_1) g179_0.1)
        refine g_callv (X := _) (As := [.int u_32_1, .int (Int32.ofInt 1)]) (r := []) (b := A 65) (q := 65) 194 (gd rfl) rfl rfl rfl rfl rfl (ww_o rfl) (Nat.le_of_ble_eq_true rfl) (Nat.zero_le _) (Nat.zero_le _) (f_85_65 (by first | exact dq1 hd rfl | exact dq0 hd rfl | exact dq2 hd rfl | exact dq3 hd rfl | omega) hIc179 (in_w 0 32 ro_32_1 rfl) (in_w 1 65536 (in_c 1 rfl) rfl) p191) (fun e u h => h) (fun v u h => ?_)
        obtain ⟨s191, hI191, hF191, z191, rfl, rfl, i191, p191a, p191b⟩ := h
        show GG _ _ _ _ _ _ _ _ [.int z191] _ _ _
        refine g_istore_n 195 (gd rfl) rfl (Nat.le_of_ble_eq_true rfl) ?_
        refine g_iload_n 196 (gd rfl) rfl rfl ?_
        refine g_iconst (-1) 197 (gd rfl) rfl rfl ?_
        refine g_cmp_ne 200 201 (gd rfl) rfl rfl (fun c197 => ?_) (fun c197 => ?_)
        · skip
          have i197 := r_ne1 0 31 c197 i191 (in_c (-1) rfl) rfl
          refine g_aload_n 202 (gd rfl) rfl rfl ?_
          refine g_dup 203 (gd rfl) rfl rfl ?_
          refine g_getL 206 (gd rfl) rfl rfl rfl (fun z203 e203 => ?_)
          refine g_aload_n 207 (gd rfl) rfl rfl ?_
          refine g_iload_n 208 (gd rfl) rfl rfl ?_
          refine g_callv (X := _) (As := [.int z191]) (r := [.long z203, .ref (A 65)]) (b := A 65) (q := 65) 211 (gd rfl) rfl rfl rfl rfl rfl (ww_o rfl) (Nat.le_of_ble_eq_true rfl) (Nat.zero_le _) (Nat.zero_le _) (f_88_65 (by first | exact dq1 hd rfl | exact dq0 hd rfl | exact dq2 hd rfl | exact dq3 hd rfl | omega) hI191 (in_w 0 31 i197 rfl)) (fun e u h => h) (fun v u h => ?_)
          obtain ⟨s208, hI208, hF208, z208, rfl, rfl, p208⟩ := h
          show GG _ _ _ _ _ _ _ _ [.long z208, .long z203, .ref (A 65)] _ _ _
          refine g_ladd 212 (gd rfl) rfl (fun z211 e211 => ?_)
          refine g_putL 215 (gd rfl) rfl rfl rfl rfl ?_
          have hI212 := inv_sG (q := 65) (j := 18) (x := z211) hI208 rfl (l_rng z211)
          refine g_aload_n 216 (gd rfl) rfl rfl ?_
          refine g_dup 217 (gd rfl) rfl rfl ?_
          refine g_getI 220 (gd rfl) rfl rfl rfl (fun z217 e217 => ?_)
          have q217 : w179_65_17 = z217 := (sG_F (fr_F (fr_F (v179_65_17) hF191 rfl) hF208 rfl)).trans e217.symm
          subst q217
          refine g_iconst 1 221 (gd rfl) rfl rfl ?_
          refine g_iadd 222 (gd rfl) rfl (fun z221 e221 => ?_)
          have i221 := in_add 1 33 e221 (inv_F hIc179 0 32 rfl v179_65_17) (in_c 1 rfl) rfl rfl
          have i222 : In z221 0 32 := by exact (have a0 := in_u ro_32_3; have a1 := in_u ro_32_1; have a2 := in_u ro_32_0; have a3 := in_u ((inv_F hIc179 0 32 rfl v179_65_17)); have a4 := in_u i182; have a5 := in_u i197; have a6 := in_u i221; have a7 := t_add e221 (inv_F hIc179 0 32 rfl v179_65_17) (in_c 1 rfl) rfl; have a8 := in_u ((in_c 1 rfl)); have oc := oc_89_65_32; ⟨by omega, by omega⟩)
          refine g_putI 225 (gd rfl) rfl rfl rfl rfl ?_
          have hI222 := inv_sF (q := 65) (j := 17) hI212 rfl (in_w 0 32 i222 rfl)
          refine g_iinc 228 (gd rfl) rfl rfl (Nat.le_of_ble_eq_true rfl) (fun z225 e225 => ?_)
          have i225 := in_add 1 32 e225 i182 (in_c 1 rfl) rfl rfl
          refine g_goto 179 (gd rfl) rfl ?_
          have v179 : z221 = (sF (sG s208 65 18 z211) 65 17 z221).2.2.1 65 17 := sF_get
          have n179 : (z221).toInt ≤ (z225).toInt := by exact (have a0 := in_u ro_32_3; have a1 := in_u ro_32_1; have a2 := in_u ro_32_0; have a3 := in_u ((inv_F hIc179 0 32 rfl v179_65_17)); have a4 := in_u i182; have a5 := in_u i197; have a6 := in_u i225; have a7 := t_add e225 i182 (in_c 1 rfl) rfl; have a8 := in_u ((in_c 1 rfl)); have a9 := in_u i222; have a10 := t_add e221 (inv_F hIc179 0 32 rfl v179_65_17) (in_c 1 rfl) rfl; have oc := oc_89_65_32; by omega)
          have n179a : PNS (gvD s) (s.2.2.1 32 1).toNatClampNeg (sF (sG s208 65 18 z211) 65 17 z221) := by exact pns_s (gok_D hI q_1) g179_0 (net_fr hF191 rfl) (fi_fr hF191 rfl) (ex_fr hF191 rfl) (show ∃ r : Nat → Nat, NLF (netC sc179) (fiC sc179) 1 (s.2.2.1 32 1).toNatClampNeg (exC sc179) (faC s191) (viC s191) r from (by rw [← e_32_1]; exact p191a)) (show NBT (exC sc179) (faC s191) 1 (s.2.2.1 32 1).toNatClampNeg (z191).toInt from (by rw [← e_32_1]; exact p191b)) c197 p208 (net_fr hF208 rfl) (show (z221).toInt = (sc179.2.2.1 65 17).toInt + 1 from (by rw [← v179_65_17]; exact (have a0 := in_u ro_32_3; have a1 := in_u ro_32_1; have a2 := in_u ro_32_0; have a3 := in_u ((inv_F hIc179 0 32 rfl v179_65_17)); have a4 := in_u i182; have a5 := in_u i197; have a6 := in_u i225; have a7 := t_add e225 i182 (in_c 1 rfl) rfl; have a8 := in_u ((in_c 1 rfl)); have a9 := in_u i222; have a10 := t_add e221 (inv_F hIc179 0 32 rfl v179_65_17) (in_c 1 rfl) rfl; have oc := oc_89_65_32; by omega))) (e203.trans (hF191.2.2.2 65 18 rfl)) e211 (net_fr (show Fr ([], [], [(65, 17)], [(65, 18)]) s208 (sF (sG s208 65 18 z211) 65 17 z221) from fr_sF rfl (fr_sG rfl fr_rf)) rfl) (fi_fr (show Fr ([], [], [(65, 17)], [(65, 18)]) s208 (sF (sG s208 65 18 z211) 65 17 z221) from fr_sF rfl (fr_sG rfl fr_rf)) rfl) (ex_fr (show Fr ([], [], [(65, 17)], [(65, 18)]) s208 (sF (sG s208 65 18 z211) 65 17 z221) from fr_sF rfl (fr_sG rfl fr_rf)) rfl) (show (sF (sG s208 65 18 z211) 65 17 z221).2.2.1 65 17 = z221 from (by simp [sF])) (show (sF (sG s208 65 18 z211) 65 17 z221).2.2.2.1 65 18 = z211 from (by simp [sF, sG]))
          have n179b : (((sF (sG s208 65 18 z211) 65 17 z221)).2.2.1 65 17).toInt = (z225).toInt := by rw [(show (sF (sG s208 65 18 z211) 65 17 z221).2.2.1 65 17 = z221 from (by simp [sF]))]; have h9 := g179_1; rw [← v179_65_17] at h9; exact (have a0 := in_u ro_32_3; have a1 := in_u ro_32_1; have a2 := in_u ro_32_0; have a3 := in_u ((inv_F hIc179 0 32 rfl v179_65_17)); have a4 := in_u i182; have a5 := in_u i197; have a6 := in_u i225; have a7 := t_add e225 i182 (in_c 1 rfl) rfl; have a8 := in_u ((in_c 1 rfl)); have a9 := in_u i222; have a10 := t_add e221 (inv_F hIc179 0 32 rfl v179_65_17) (in_c 1 rfl) rfl; have oc := oc_89_65_32; by omega)
          have n179c : ((sF (sG s208 65 18 z211) 65 17 z221)).2.2.1 65 16 = s.2.2.1 32 0 := by exact (show s208.2.2.1 65 16 = _ from (hF208.2.2.1 65 16 rfl).trans ((hF191.2.2.1 65 16 rfl).trans g179_2))
          exact gg_w (by first | exact Nat.le_add_right _ _ | exact gw2 | exact gw3 | exact gwe rfl | exact gwf rfl | exact gwg rfl | exact gwh rfl | omega) (gg_f (gf_cons rfl (gf_cons rfl (gf_cons rfl gf_nil))) (ih179 (sF (sG s208 65 18 z211) 65 17 z221) z225 z221 hI222 (fr_sF rfl (fr_sG rfl (fr_tr rfl (fr_tr rfl hFc179 hF191) hF208))) (in_w 0 32 i225 rfl) v179 n179 n179a n179b n179c (m_up mm179 (t_add e225 i182 (in_c 1 rfl) rfl) (in_w 1 1 (in_c 1 rfl) rfl))))
        · skip
          have i197 := r_eq1 (-1) (-1) c197 i191 (in_c (-1) rfl) rfl
          have n200 : PRQ (gvD s) s191 := by exact pns_e (gok_D hI q_1) g179_0 (show ∃ r : Nat → Nat, NLF (netC sc179) (fiC sc179) 1 (s.2.2.1 32 1).toNatClampNeg (exC sc179) (faC s191) (viC s191) r from (by rw [← e_32_1]; exact p191a)) (show NBT (exC sc179) (faC s191) 1 (s.2.2.1 32 1).toNatClampNeg (z191).toInt from (by rw [← e_32_1]; exact p191b)) c197 (show (s191.2.2.1 65 16).toInt = (gvD s).2.2.2.2.2.2.2 from (by show _ = (s.2.2.1 32 0).toInt; rw [hF191.2.2.1 65 16 rfl, g179_2])) (hF191.2.2.1 65 17 rfl) (hF191.2.2.2 65 18 rfl)
          exact g_return (gd rfl) rfl (hP _ _ ⟨s191, hI191, (fr_tr rfl hFc179 hF191), rfl, rfl, n200⟩)
  have ct72 : ∀ (k72 : Nat) (sc72 : GS) (y72_2 : Int32) (w72_65_17 : Int32), Inv sc72 → Fr fm_89_65_32 s sc72 → (In y72_2 0 160) → (w72_65_17 = sc72.2.2.1 65 17) → ((w72_65_17).toInt = 0) → (E37 (gvD s) sc72 (s.2.2.1 32 1).toNatClampNeg) → (LYF (gvD s) sc72 (y72_2).toNatClampNeg) → ((sc72).2.2.1 65 16 = s.2.2.1 32 0 ∧ (sc72).2.2.2.1 65 18 = Int64.ofInt 0) → 160 - (y72_2).toInt < (k72 : Int) → GG Z (d - 1) 89 post (gx xp) (29702 + k72 * 900) 72 (fun j => xlook j [(0, .ref (A 65)), (1, .ref (A 32)), (2, .int y72_2)]) [] (WW Z A sc72 ++ ex) 0 0 := by
    intro k72
    induction k72 with
    | zero => intro sc72 y72_2 w72_65_17 hIc72 hFc72 j72_2 v72_65_17 n72_0 g72_0 g72_1 g72_2 mm72; exact m_no mm72 j72_2 rfl
    | succ k72 ih72 =>
      intro sc72 y72_2 w72_65_17 hIc72 hFc72 j72_2 v72_65_17 n72_0 g72_0 g72_1 g72_2 mm72
      refine gg_w (M := 29702 + k72 * 900 + 900) gws ?_
      refine g_iload_n 73 (gd rfl) rfl rfl ?_
      refine g_aload_n 74 (gd rfl) rfl rfl ?_
      refine g_getI 77 (gd rfl) rfl rfl rfl (fun z74 e74 => ?_)
      have q74 : u_32_3 = z74 := (fr_F e_32_3 hFc72 rfl).trans e74.symm
      subst q74
      refine g_cmp_ge 80 177 (gd rfl) rfl rfl (fun c77 => ?_) (fun c77 => ?_)
      · skip
        refine g_iconst 0 178 (gd rfl) rfl rfl ?_
        refine g_istore_n 179 (gd rfl) rfl (Nat.le_of_ble_eq_true rfl) ?_
        have n179 : (w72_65_17).toInt ≤ ((Int32.ofInt 0)).toInt := by exact (have a0 := in_u ro_32_3; have a1 := in_u ro_32_1; have a2 := in_u ro_32_0; have a3 := in_u ((inv_F hIc72 0 32 rfl v72_65_17)); have a4 := in_u j72_2; have a5 := in_u ((in_c 0 rfl)); have oc := oc_89_65_32; by omega)
        have n179a : PNS (gvD s) (s.2.2.1 32 1).toNatClampNeg sc72 := by have z9 := pnb_0 (gok_D hI q_1) g72_0 (lyf_w g72_1 (T0 := (s.2.2.1 32 3).toInt) (fun p h1 h2 => q_0 p h1 h2) (by rw [← e_32_3]; show _ ≤ (((y72_2).toInt.toNat : Nat) : Int); exact (have a0 := in_u ro_32_3; have a1 := in_u ro_32_1; have a2 := in_u ro_32_0; have a3 := in_u ((inv_F hIc72 0 32 rfl v72_65_17)); have a4 := in_u j72_2; have a5 := in_u ((in_c 0 rfl)); have oc := oc_89_65_32; by omega)) (by show (y72_2).toInt.toNat ≤ 160; exact (have a0 := in_u ro_32_3; have a1 := in_u ro_32_1; have a2 := in_u ro_32_0; have a3 := in_u ((inv_F hIc72 0 32 rfl v72_65_17)); have a4 := in_u j72_2; have a5 := in_u ((in_c 0 rfl)); have oc := oc_89_65_32; by omega))); exact ⟨z9.1, by rw [← v72_65_17, n72_0]; exact z9.2.1.symm, by rw [g72_2.2]; exact (show (0 : Int) = _ from z9.2.2.symm)⟩
        have n179b : ((sc72).2.2.1 65 17).toInt = ((Int32.ofInt 0)).toInt := by rw [← v72_65_17, n72_0]; rfl
        have n179c : (sc72).2.2.1 65 16 = s.2.2.1 32 0 := by exact g72_2.1
        exact gg_w (by first | exact Nat.le_add_right _ _ | exact gw2 | exact gw3 | exact gwe rfl | exact gwf rfl | exact gwg rfl | exact gwh rfl | omega) (gg_f (gf_cons rfl (gf_cons rfl (gf_cons rfl gf_nil))) (ct179 33 sc72 (Int32.ofInt 0) w72_65_17 hIc72 hFc72 (in_w 0 32 (in_c 0 rfl) rfl) v72_65_17 n179 n179a n179b n179c (m_in 33 (in_w 0 32 (in_c 0 rfl) rfl) rfl)))
      · skip
        have i77 := r_lt1 0 159 c77 j72_2 ro_32_3 rfl
        have i77a := r_lt2 1 160 c77 j72_2 ro_32_3 rfl
        refine g_aload_n 81 (gd rfl) rfl rfl ?_
        refine g_iload_n 82 (gd rfl) rfl rfl ?_
        refine g_callv (X := _) (As := [.int y72_2]) (r := []) (b := A 32) (q := 32) 85 (gd rfl) rfl rfl rfl rfl rfl (ww_o rfl) (Nat.le_of_ble_eq_true rfl) (mc := 0) (ms := 0) (Nat.zero_le _) (Nat.zero_le _) (P := fun v u => _) ?_ (fun e u h => h) (fun v u h => h)
        intro po82 xx82 hp82 hx82
        refine g_enter2 (k := 97) (N := 300) (by first | exact dq1 hd rfl | exact dq0 hd rfl | exact dq2 hd rfl | exact dq3 hd rfl | omega) rfl (Nat.le_of_ble_eq_true rfl) ?_
        refine g_aload_n 1 (gd rfl) rfl rfl ?_
        refine g_getA (q2 := 34) 4 (gd rfl) rfl rfl rfl rfl ?_
        refine g_iload_n 5 (gd rfl) rfl rfl ?_
        refine g_iaload 6 (gd rfl) rfl (n := 160) rfl (in_ix i77 rfl) (fun z82x5 e82x5 => ?_)
        have i82x5 := inv_I hIc72 (n := 160) (t := 0) (-1) 31 rfl (in_ix i77 rfl) rfl e82x5
        refine g_iconst (-1) 7 (gd rfl) rfl rfl ?_
        refine g_cmp_eq 10 29 (gd rfl) rfl rfl (fun c82x7 => ?_) (fun c82x7 => ?_)
        · skip
          have i82x7 := r_eq1 (-1) (-1) c82x7 i82x5 (in_c (-1) rfl) rfl
          refine g_iconst 0 30 (gd rfl) rfl rfl ?_
          refine g_ireturn (gd rfl) rfl (nb01 (in_w 0 1 (in_c 0 rfl) rfl)) (hp82 _ _ ?_)
          show GG _ _ _ _ _ _ _ _ [.int (Int32.ofInt 0)] _ _ _
          refine g_if_eq 88 171 (gd rfl) rfl rfl (fun c85 => ?_) (fun c85 => ?_)
          · skip
            refine g_iinc 174 (gd rfl) rfl rfl (Nat.le_of_ble_eq_true rfl) (fun z171 e171 => ?_)
            have i171 := in_add 1 160 e171 i77 (in_c 1 rfl) rfl rfl
            refine g_goto 72 (gd rfl) rfl ?_
            have n72 : (w72_65_17).toInt = 0 := by first | exact n72_0 | (exact (have a0 := in_u i77a; have a1 := in_u ro_32_1; have a2 := in_u ro_32_0; have a3 := in_u ((inv_F hIc72 0 32 rfl v72_65_17)); have a4 := in_u i77; have a5 := in_u i171; have a6 := t_add e171 i77 (in_c 1 rfl) rfl; have a7 := in_u ((in_c 1 rfl)); have oc := oc_89_65_32; by omega))
            have n72a : E37 (gvD s) sc72 (s.2.2.1 32 1).toNatClampNeg := by exact g72_0
            have n72b : LYF (gvD s) sc72 (z171).toNatClampNeg := by rw [(show (z171).toNatClampNeg = (y72_2).toNatClampNeg + 1 from (by show (z171).toInt.toNat = (y72_2).toInt.toNat + 1; exact (have a0 := in_u i77a; have a1 := in_u ro_32_1; have a2 := in_u ro_32_0; have a3 := in_u ((inv_F hIc72 0 32 rfl v72_65_17)); have a4 := in_u i77; have a5 := in_u i171; have a6 := t_add e171 i77 (in_c 1 rfl) rfl; have a7 := in_u ((in_c 1 rfl)); have oc := oc_89_65_32; by omega)))]; exact lyf_n g72_1 (pel_0 (show z82x5 = (gvD s).2.1 (y72_2).toNatClampNeg from (e82x5.trans (congrFun (hFc72.1 34 rfl) _))) c82x7)
            have n72c : (sc72).2.2.1 65 16 = s.2.2.1 32 0 ∧ (sc72).2.2.2.1 65 18 = Int64.ofInt 0 := by exact g72_2
            exact gg_w (by first | exact Nat.le_add_right _ _ | exact gw2 | exact gw3 | exact gwe rfl | exact gwf rfl | exact gwg rfl | exact gwh rfl | omega) (gg_f (gf_cons rfl (gf_cons rfl (gf_cons rfl gf_nil))) (ih72 sc72 z171 w72_65_17 hIc72 hFc72 (in_w 0 160 i171 rfl) v72_65_17 n72 n72a n72b n72c (m_up mm72 (t_add e171 i77 (in_c 1 rfl) rfl) (in_w 1 1 (in_c 1 rfl) rfl))))
          · skip
            exact zn_ne c85 (in_c 0 rfl) rfl
        · skip
          have i82x7 := r_ne1 0 31 c82x7 i82x5 (in_c (-1) rfl) rfl
          refine g_aload_n 11 (gd rfl) rfl rfl ?_
          refine g_getA (q2 := 34) 14 (gd rfl) rfl rfl rfl rfl ?_
          refine g_iload_n 15 (gd rfl) rfl rfl ?_
          refine g_iaload 16 (gd rfl) rfl (n := 160) rfl (in_ix i77 rfl) (fun z82x15 e82x15 => ?_)
          have q82x15 : z82x5 = z82x15 := (e82x5).trans e82x15.symm
          subst q82x15
          refine g_aload_n 17 (gd rfl) rfl rfl ?_
          refine g_getA (q2 := 35) 20 (gd rfl) rfl rfl rfl rfl ?_
          refine g_iload_n 21 (gd rfl) rfl rfl ?_
          refine g_iaload 22 (gd rfl) rfl (n := 160) rfl (in_ix i77 rfl) (fun z82x21 e82x21 => ?_)
          have i82x21 := inv_I hIc72 (n := 160) (t := 0) 0 31 rfl (in_ix i77 rfl) rfl e82x21
          refine g_cmp_eq 25 29 (gd rfl) rfl rfl (fun c82x22 => ?_) (fun c82x22 => ?_)
          · skip
            refine g_iconst 0 30 (gd rfl) rfl rfl ?_
            refine g_ireturn (gd rfl) rfl (nb01 (in_w 0 1 (in_c 0 rfl) rfl)) (hp82 _ _ ?_)
            show GG _ _ _ _ _ _ _ _ [.int (Int32.ofInt 0)] _ _ _
            refine g_if_eq 88 171 (gd rfl) rfl rfl (fun c85 => ?_) (fun c85 => ?_)
            · skip
              refine g_iinc 174 (gd rfl) rfl rfl (Nat.le_of_ble_eq_true rfl) (fun z171 e171 => ?_)
              have i171 := in_add 1 160 e171 i77 (in_c 1 rfl) rfl rfl
              refine g_goto 72 (gd rfl) rfl ?_
              have n72 : (w72_65_17).toInt = 0 := by first | exact n72_0 | (exact (have a0 := in_u i77a; have a1 := in_u ro_32_1; have a2 := in_u ro_32_0; have a3 := in_u ((inv_F hIc72 0 32 rfl v72_65_17)); have a4 := in_u i77; have a5 := in_u i171; have a6 := t_add e171 i77 (in_c 1 rfl) rfl; have a7 := in_u ((in_c 1 rfl)); have oc := oc_89_65_32; by omega))
              have n72a : E37 (gvD s) sc72 (s.2.2.1 32 1).toNatClampNeg := by exact g72_0
              have n72b : LYF (gvD s) sc72 (z171).toNatClampNeg := by rw [(show (z171).toNatClampNeg = (y72_2).toNatClampNeg + 1 from (by show (z171).toInt.toNat = (y72_2).toInt.toNat + 1; exact (have a0 := in_u i77a; have a1 := in_u ro_32_1; have a2 := in_u ro_32_0; have a3 := in_u ((inv_F hIc72 0 32 rfl v72_65_17)); have a4 := in_u i77; have a5 := in_u i171; have a6 := t_add e171 i77 (in_c 1 rfl) rfl; have a7 := in_u ((in_c 1 rfl)); have oc := oc_89_65_32; by omega)))]; exact lyf_n g72_1 (pel_1 (show z82x5 = (gvD s).2.1 (y72_2).toNatClampNeg from (e82x5.trans (congrFun (hFc72.1 34 rfl) _))) (show z82x21 = (gvD s).2.2.1 (y72_2).toNatClampNeg from (e82x21.trans (congrFun (hFc72.1 35 rfl) _))) c82x22)
              have n72c : (sc72).2.2.1 65 16 = s.2.2.1 32 0 ∧ (sc72).2.2.2.1 65 18 = Int64.ofInt 0 := by exact g72_2
              exact gg_w (by first | exact Nat.le_add_right _ _ | exact gw2 | exact gw3 | exact gwe rfl | exact gwf rfl | exact gwg rfl | exact gwh rfl | omega) (gg_f (gf_cons rfl (gf_cons rfl (gf_cons rfl gf_nil))) (ih72 sc72 z171 w72_65_17 hIc72 hFc72 (in_w 0 160 i171 rfl) v72_65_17 n72 n72a n72b n72c (m_up mm72 (t_add e171 i77 (in_c 1 rfl) rfl) (in_w 1 1 (in_c 1 rfl) rfl))))
            · skip
              exact zn_ne c85 (in_c 0 rfl) rfl
          · skip
            refine g_iconst 1 26 (gd rfl) rfl rfl ?_
            refine g_goto 30 (gd rfl) rfl ?_
            refine g_ireturn (gd rfl) rfl (nb01 (in_w 0 1 (in_c 1 rfl) rfl)) (hp82 _ _ ?_)
            show GG _ _ _ _ _ _ _ _ [.int (Int32.ofInt 1)] _ _ _
            refine g_if_eq 88 171 (gd rfl) rfl rfl (fun c85 => ?_) (fun c85 => ?_)
            · skip
              exact zn_eq c85 (in_c 1 rfl) rfl
            · skip
              refine g_aload_n 89 (gd rfl) rfl rfl ?_
              refine g_aload_n 90 (gd rfl) rfl rfl ?_
              refine g_getA (q2 := 34) 93 (gd rfl) rfl rfl rfl rfl ?_
              refine g_iload_n 94 (gd rfl) rfl rfl ?_
              refine g_iaload 95 (gd rfl) rfl (n := 160) rfl (in_ix i77 rfl) (fun z94 e94 => ?_)
              have q94 : z82x5 = z94 := (e82x5).trans e94.symm
              subst q94
              refine g_calls (As := [.ref (A 32), .int z82x5]) (r := []) 98 (gd rfl) rfl rfl rfl rfl rfl (Nat.le_of_ble_eq_true rfl) (mc := 0) (ms := 0) (Nat.zero_le _) (Nat.zero_le _) (P := fun v u => _) ?_ (fun v u h => h)
              intro po95 xx95 hp95 hx95
              refine g_enter2 (k := 90) (N := 300) (by first | exact dq1 hd rfl | exact dq0 hd rfl | exact dq2 hd rfl | exact dq3 hd rfl | omega) rfl (Nat.le_of_ble_eq_true rfl) ?_
              refine g_aload_n 1 (gd rfl) rfl rfl ?_
              refine g_getA (q2 := 33) 4 (gd rfl) rfl rfl rfl rfl ?_
              refine g_iload_n 5 (gd rfl) rfl rfl ?_
              refine g_iaload 6 (gd rfl) rfl (n := 32) rfl (in_ix i82x7 rfl) (fun z95x5 e95x5 => ?_)
              have i95x5 := inv_I hIc72 (n := 32) (t := 0) 0 25 rfl (in_ix i82x7 rfl) rfl e95x5
              refine g_bipush 13 8 (gd rfl) rfl rfl ?_
              refine g_cmp_ge 11 15 (gd rfl) rfl rfl (fun c95x8 => ?_) (fun c95x8 => ?_)
              · skip
                have i95x8 := r_le2 13 25 c95x8 (in_c 13 rfl) i95x5 rfl
                refine g_iconst 0 16 (gd rfl) rfl rfl ?_
                refine g_ireturn (gd rfl) rfl (nb01 (in_w 0 1 (in_c 0 rfl) rfl)) (hp95 _ _ ?_)
                show GG _ _ _ _ _ _ _ _ [.int (Int32.ofInt 0)] _ _ _
                refine g_aload_n 99 (gd rfl) rfl rfl ?_
                refine g_aload_n 100 (gd rfl) rfl rfl ?_
                refine g_getA (q2 := 35) 103 (gd rfl) rfl rfl rfl rfl ?_
                refine g_iload_n 104 (gd rfl) rfl rfl ?_
                refine g_iaload 105 (gd rfl) rfl (n := 160) rfl (in_ix i77 rfl) (fun z104 e104 => ?_)
                have q104 : z82x21 = z104 := (e82x21).trans e104.symm
                subst q104
                refine g_calls (As := [.ref (A 32), .int z82x21]) (r := [.int (Int32.ofInt 0)]) 108 (gd rfl) rfl rfl rfl rfl rfl (Nat.le_of_ble_eq_true rfl) (mc := 0) (ms := 0) (Nat.zero_le _) (Nat.zero_le _) (P := fun v u => _) ?_ (fun v u h => h)
                intro po105 xx105 hp105 hx105
                refine g_enter2 (k := 90) (N := 300) (by first | exact dq1 hd rfl | exact dq0 hd rfl | exact dq2 hd rfl | exact dq3 hd rfl | omega) rfl (Nat.le_of_ble_eq_true rfl) ?_
                refine g_aload_n 1 (gd rfl) rfl rfl ?_
                refine g_getA (q2 := 33) 4 (gd rfl) rfl rfl rfl rfl ?_
                refine g_iload_n 5 (gd rfl) rfl rfl ?_
                refine g_iaload 6 (gd rfl) rfl (n := 32) rfl (in_ix i82x21 rfl) (fun z105x5 e105x5 => ?_)
                have i105x5 := inv_I hIc72 (n := 32) (t := 0) 0 25 rfl (in_ix i82x21 rfl) rfl e105x5
                refine g_bipush 13 8 (gd rfl) rfl rfl ?_
                refine g_cmp_ge 11 15 (gd rfl) rfl rfl (fun c105x8 => ?_) (fun c105x8 => ?_)
                · skip
                  have i105x8 := r_le2 13 25 c105x8 (in_c 13 rfl) i105x5 rfl
                  refine g_iconst 0 16 (gd rfl) rfl rfl ?_
                  refine g_ireturn (gd rfl) rfl (nb01 (in_w 0 1 (in_c 0 rfl) rfl)) (hp105 _ _ ?_)
                  show GG _ _ _ _ _ _ _ _ [.int (Int32.ofInt 0), .int (Int32.ofInt 0)] _ _ _
                  refine g_cmp_eq 111 171 (gd rfl) rfl rfl (fun c108 => ?_) (fun c108 => ?_)
                  · skip
                    refine g_iinc 174 (gd rfl) rfl rfl (Nat.le_of_ble_eq_true rfl) (fun z171 e171 => ?_)
                    have i171 := in_add 1 160 e171 i77 (in_c 1 rfl) rfl rfl
                    refine g_goto 72 (gd rfl) rfl ?_
                    have n72 : (w72_65_17).toInt = 0 := by first | exact n72_0 | (exact (have a0 := in_u i77a; have a1 := in_u ro_32_1; have a2 := in_u ro_32_0; have a3 := in_u ((inv_F hIc72 0 32 rfl v72_65_17)); have a4 := in_u i77; have a5 := in_u i171; have a6 := t_add e171 i77 (in_c 1 rfl) rfl; have a7 := in_u ((in_c 1 rfl)); have oc := oc_89_65_32; by omega))
                    have n72a : E37 (gvD s) sc72 (s.2.2.1 32 1).toNatClampNeg := by exact g72_0
                    have n72b : LYF (gvD s) sc72 (z171).toNatClampNeg := by rw [(show (z171).toNatClampNeg = (y72_2).toNatClampNeg + 1 from (by show (z171).toInt.toNat = (y72_2).toInt.toNat + 1; exact (have a0 := in_u i77a; have a1 := in_u ro_32_1; have a2 := in_u ro_32_0; have a3 := in_u ((inv_F hIc72 0 32 rfl v72_65_17)); have a4 := in_u i77; have a5 := in_u i171; have a6 := t_add e171 i77 (in_c 1 rfl) rfl; have a7 := in_u ((in_c 1 rfl)); have oc := oc_89_65_32; by omega)))]; exact lyf_n g72_1 (pel_2 (show z82x5 = (gvD s).2.1 (y72_2).toNatClampNeg from (e82x5.trans (congrFun (hFc72.1 34 rfl) _))) (show z82x21 = (gvD s).2.2.1 (y72_2).toNatClampNeg from (e82x21.trans (congrFun (hFc72.1 35 rfl) _))) (show z95x5 = (gvD s).1 z82x5.toNatClampNeg from (e95x5.trans (congrFun (hFc72.1 33 rfl) _))) (show z105x5 = (gvD s).1 z82x21.toNatClampNeg from (e105x5.trans (congrFun (hFc72.1 33 rfl) _))) ⟨fun _ => (by exact (have a0 := in_u i77a; have a1 := in_u ro_32_1; have a2 := in_u ro_32_0; have a3 := in_u ((inv_F hIc72 0 32 rfl v72_65_17)); have a4 := in_u i77; have a5 := in_u i171; have a6 := t_add e171 i77 (in_c 1 rfl) rfl; have a7 := in_u ((in_c 1 rfl)); have oc := oc_89_65_32; by omega)), fun _ => (by exact (have a0 := in_u i77a; have a1 := in_u ro_32_1; have a2 := in_u ro_32_0; have a3 := in_u ((inv_F hIc72 0 32 rfl v72_65_17)); have a4 := in_u i77; have a5 := in_u i171; have a6 := t_add e171 i77 (in_c 1 rfl) rfl; have a7 := in_u ((in_c 1 rfl)); have oc := oc_89_65_32; by omega))⟩)
                    have n72c : (sc72).2.2.1 65 16 = s.2.2.1 32 0 ∧ (sc72).2.2.2.1 65 18 = Int64.ofInt 0 := by exact g72_2
                    exact gg_w (by first | exact Nat.le_add_right _ _ | exact gw2 | exact gw3 | exact gwe rfl | exact gwf rfl | exact gwg rfl | exact gwh rfl | omega) (gg_f (gf_cons rfl (gf_cons rfl (gf_cons rfl gf_nil))) (ih72 sc72 z171 w72_65_17 hIc72 hFc72 (in_w 0 160 i171 rfl) v72_65_17 n72 n72a n72b n72c (m_up mm72 (t_add e171 i77 (in_c 1 rfl) rfl) (in_w 1 1 (in_c 1 rfl) rfl))))
                  · skip
                    exact n_ne c108 (in_c 0 rfl) (in_c 0 rfl) rfl
                · skip
                  have i105x8 := r_lt1 0 12 c105x8 i105x5 (in_c 13 rfl) rfl
                  refine g_iconst 1 12 (gd rfl) rfl rfl ?_
                  refine g_goto 16 (gd rfl) rfl ?_
                  refine g_ireturn (gd rfl) rfl (nb01 (in_w 0 1 (in_c 1 rfl) rfl)) (hp105 _ _ ?_)
                  show GG _ _ _ _ _ _ _ _ [.int (Int32.ofInt 1), .int (Int32.ofInt 0)] _ _ _
                  refine g_cmp_eq 111 171 (gd rfl) rfl rfl (fun c108 => ?_) (fun c108 => ?_)
                  · skip
                    exact n_eq c108 (in_c 0 rfl) (in_c 1 rfl) rfl
                  · skip
                    refine g_aload_n 112 (gd rfl) rfl rfl ?_
                    refine g_aload_n 113 (gd rfl) rfl rfl ?_
                    refine g_getA (q2 := 34) 116 (gd rfl) rfl rfl rfl rfl ?_
                    refine g_iload_n 117 (gd rfl) rfl rfl ?_
                    refine g_iaload 118 (gd rfl) rfl (n := 160) rfl (in_ix i77 rfl) (fun z117 e117 => ?_)
                    have q117 : z82x5 = z117 := (e82x5).trans e117.symm
                    subst q117
                    refine g_calls (As := [.ref (A 32), .int z82x5]) (r := []) 121 (gd rfl) rfl rfl rfl rfl rfl (Nat.le_of_ble_eq_true rfl) (mc := 0) (ms := 0) (Nat.zero_le _) (Nat.zero_le _) (P := fun v u => _) ?_ (fun v u h => h)
                    intro po118 xx118 hp118 hx118
                    refine g_enter2 (k := 90) (N := 300) (by first | exact dq1 hd rfl | exact dq0 hd rfl | exact dq2 hd rfl | exact dq3 hd rfl | omega) rfl (Nat.le_of_ble_eq_true rfl) ?_
                    refine g_aload_n 1 (gd rfl) rfl rfl ?_
                    refine g_getA (q2 := 33) 4 (gd rfl) rfl rfl rfl rfl ?_
                    refine g_iload_n 5 (gd rfl) rfl rfl ?_
                    refine g_iaload 6 (gd rfl) rfl (n := 32) rfl (in_ix i82x7 rfl) (fun z118x5 e118x5 => ?_)
                    have q118x5 : z95x5 = z118x5 := (e95x5).trans e118x5.symm
                    subst q118x5
                    refine g_bipush 13 8 (gd rfl) rfl rfl ?_
                    refine g_cmp_ge 11 15 (gd rfl) rfl rfl (fun c118x8 => ?_) (fun c118x8 => ?_)
                    · skip
                      refine g_iconst 0 16 (gd rfl) rfl rfl ?_
                      refine g_ireturn (gd rfl) rfl (nb01 (in_w 0 1 (in_c 0 rfl) rfl)) (hp118 _ _ ?_)
                      show GG _ _ _ _ _ _ _ _ [.int (Int32.ofInt 0)] _ _ _
                      refine g_istore_n 122 (gd rfl) rfl (Nat.le_of_ble_eq_true rfl) ?_
                      refine g_aload_n 123 (gd rfl) rfl rfl ?_
                      refine g_iload_n 124 (gd rfl) rfl rfl ?_
                      refine g_if_eq 127 136 (gd rfl) rfl rfl (fun c124 => ?_) (fun c124 => ?_)
                      · skip
                        refine g_aload_n 137 (gd rfl) rfl rfl ?_
                        refine g_getA (q2 := 35) 140 (gd rfl) rfl rfl rfl rfl ?_
                        refine g_iload_n 141 (gd rfl) rfl rfl ?_
                        refine g_iaload 142 (gd rfl) rfl (n := 160) rfl (in_ix i77 rfl) (fun z141 e141 => ?_)
                        have q141 : z82x21 = z141 := (e82x21).trans e141.symm
                        subst q141
                        refine g_iload_n 143 (gd rfl) rfl rfl ?_
                        refine g_if_eq 146 155 (gd rfl) rfl rfl (fun c143 => ?_) (fun c143 => ?_)
                        · skip
                          refine g_aload_n 156 (gd rfl) rfl rfl ?_
                          refine g_getA (q2 := 34) 159 (gd rfl) rfl rfl rfl rfl ?_
                          refine g_iload_n 160 (gd rfl) rfl rfl ?_
                          refine g_iaload 161 (gd rfl) rfl (n := 160) rfl (in_ix i77 rfl) (fun z160 e160 => ?_)
                          have q160 : z82x5 = z160 := (e82x5).trans e160.symm
                          subst q160
                          refine g_aload_n 162 (gd rfl) rfl rfl ?_
                          refine g_getA (q2 := 36) 165 (gd rfl) rfl rfl rfl rfl ?_
                          refine g_iload_n 166 (gd rfl) rfl rfl ?_
                          refine g_iaload 167 (gd rfl) rfl (n := 160) rfl (in_ix i77 rfl) (fun z166 e166 => ?_)
                          have i166 := inv_I hIc72 (n := 160) (t := 0) (-1000000) 1000000 rfl (in_ix i77 rfl) rfl e166
                          refine g_iconst 1 168 (gd rfl) rfl rfl ?_
                          refine g_callv (X := _) (As := [.int z82x21, .int z82x5, .int z166, .int (Int32.ofInt 1)]) (r := []) (b := A 65) (q := 65) 171 (gd rfl) rfl rfl rfl rfl rfl (ww_o rfl) (Nat.le_of_ble_eq_true rfl) (Nat.zero_le _) (Nat.zero_le _) (f_84_65 (by first | exact dq1 hd rfl | exact dq0 hd rfl | exact dq2 hd rfl | exact dq3 hd rfl | omega) hIc72 (in_w 0 31 i82x21 rfl) (in_w 0 31 i82x7 rfl) (in_w (-1000000) 1000000 i166 rfl) (in_w 0 1000000 (in_c 1 rfl) rfl)) (fun e u h => h) (fun v u h => ?_)
                          obtain ⟨s168, hI168, hF168, rfl, rfl, p168⟩ := h
                          show GG _ _ _ _ _ _ _ _ [] _ _ _
                          refine g_iinc 174 (gd rfl) rfl rfl (Nat.le_of_ble_eq_true rfl) (fun z171 e171 => ?_)
                          have i171 := in_add 1 160 e171 i77 (in_c 1 rfl) rfl rfl
                          refine g_goto 72 (gd rfl) rfl ?_
                          have v72 : w72_65_17 = s168.2.2.1 65 17 := fr_F (v72_65_17) hF168 rfl
                          have n72 : (w72_65_17).toInt = 0 := by first | exact n72_0 | (exact (have a0 := in_u i77a; have a1 := in_u ro_32_1; have a2 := in_u ro_32_0; have a3 := in_u ((inv_F hIc72 0 32 rfl v72_65_17)); have a4 := in_u i77; have a5 := in_u ((in_c 0 rfl)); have a6 := in_u i171; have a7 := t_add e171 i77 (in_c 1 rfl) rfl; have a8 := in_u ((in_c 1 rfl)); have oc := oc_89_65_32; by omega))
                          have n72a : E37 (gvD s) s168 (s.2.2.1 32 1).toNatClampNeg := by exact e37_x g72_0 (ex_fr hF168 rfl)
                          have n72b : LYF (gvD s) s168 (z171).toNatClampNeg := by rw [(show (z171).toNatClampNeg = (y72_2).toNatClampNeg + 1 from (by show (z171).toInt.toNat = (y72_2).toInt.toNat + 1; exact (have a0 := in_u i77a; have a1 := in_u ro_32_1; have a2 := in_u ro_32_0; have a3 := in_u ((inv_F hIc72 0 32 rfl v72_65_17)); have a4 := in_u i77; have a5 := in_u ((in_c 0 rfl)); have a6 := in_u i171; have a7 := t_add e171 i77 (in_c 1 rfl) rfl; have a8 := in_u ((in_c 1 rfl)); have oc := oc_89_65_32; by omega)))]; exact lyf_y g72_1 (show (y72_2).toNatClampNeg < 160 from (by show (y72_2).toInt.toNat < 160; exact (have a0 := in_u i77a; have a1 := in_u ro_32_1; have a2 := in_u ro_32_0; have a3 := in_u ((inv_F hIc72 0 32 rfl v72_65_17)); have a4 := in_u i77; have a5 := in_u ((in_c 0 rfl)); have a6 := in_u i171; have a7 := t_add e171 i77 (in_c 1 rfl) rfl; have a8 := in_u ((in_c 1 rfl)); have oc := oc_89_65_32; by omega))) (pel_4 (show z82x5 = (gvD s).2.1 (y72_2).toNatClampNeg from (e82x5.trans (congrFun (hFc72.1 34 rfl) _))) (show z82x21 = (gvD s).2.2.1 (y72_2).toNatClampNeg from (e82x21.trans (congrFun (hFc72.1 35 rfl) _))) (show z95x5 = (gvD s).1 z82x5.toNatClampNeg from (e95x5.trans (congrFun (hFc72.1 33 rfl) _))) (show z105x5 = (gvD s).1 z82x21.toNatClampNeg from (e105x5.trans (congrFun (hFc72.1 33 rfl) _))) (by exact (have a0 := in_u i77a; have a1 := in_u ro_32_1; have a2 := in_u ro_32_0; have a3 := in_u ((inv_F hIc72 0 32 rfl v72_65_17)); have a4 := in_u i77; have a5 := in_u ((in_c 0 rfl)); have a6 := in_u i171; have a7 := t_add e171 i77 (in_c 1 rfl) rfl; have a8 := in_u ((in_c 1 rfl)); have oc := oc_89_65_32; by omega)) c82x22 (by exact (have a0 := in_u i77a; have a1 := in_u ro_32_1; have a2 := in_u ro_32_0; have a3 := in_u ((inv_F hIc72 0 32 rfl v72_65_17)); have a4 := in_u i77; have a5 := in_u ((in_c 0 rfl)); have a6 := in_u i171; have a7 := t_add e171 i77 (in_c 1 rfl) rfl; have a8 := in_u ((in_c 1 rfl)); have oc := oc_89_65_32; by omega)) (by exact (have a0 := in_u i77a; have a1 := in_u ro_32_1; have a2 := in_u ro_32_0; have a3 := in_u ((inv_F hIc72 0 32 rfl v72_65_17)); have a4 := in_u i77; have a5 := in_u ((in_c 0 rfl)); have a6 := in_u i171; have a7 := t_add e171 i77 (in_c 1 rfl) rfl; have a8 := in_u ((in_c 1 rfl)); have oc := oc_89_65_32; by omega))) (show z166 = (gvD s).2.2.2.1 (y72_2).toNatClampNeg from (e166.trans (congrFun (hFc72.1 36 rfl) _))) rfl (inv_F hIc72 (z := sc72.2.2.1 65 8) 0 160 rfl rfl).1 p168
                          have n72c : (s168).2.2.1 65 16 = s.2.2.1 32 0 ∧ (s168).2.2.2.1 65 18 = Int64.ofInt 0 := by exact ⟨(hF168.2.2.1 65 16 rfl).trans g72_2.1, (hF168.2.2.2 65 18 rfl).trans g72_2.2⟩
                          exact gg_w (by first | exact Nat.le_add_right _ _ | exact gw2 | exact gw3 | exact gwe rfl | exact gwf rfl | exact gwg rfl | exact gwh rfl | omega) (gg_f (gf_cons rfl (gf_cons rfl (gf_cons rfl gf_nil))) (ih72 s168 z171 w72_65_17 hI168 (fr_tr rfl hFc72 hF168) (in_w 0 160 i171 rfl) v72 n72 n72a n72b n72c (m_up mm72 (t_add e171 i77 (in_c 1 rfl) rfl) (in_w 1 1 (in_c 1 rfl) rfl))))
                        · skip
                          exact zn_ne c143 (in_c 0 rfl) rfl
                      · skip
                        exact zn_ne c124 (in_c 0 rfl) rfl
                    · skip
                      exact n_lt c118x8 i95x8 (in_c 13 rfl) rfl
              · skip
                have i95x8 := r_lt1 0 12 c95x8 i95x5 (in_c 13 rfl) rfl
                refine g_iconst 1 12 (gd rfl) rfl rfl ?_
                refine g_goto 16 (gd rfl) rfl ?_
                refine g_ireturn (gd rfl) rfl (nb01 (in_w 0 1 (in_c 1 rfl) rfl)) (hp95 _ _ ?_)
                show GG _ _ _ _ _ _ _ _ [.int (Int32.ofInt 1)] _ _ _
                refine g_aload_n 99 (gd rfl) rfl rfl ?_
                refine g_aload_n 100 (gd rfl) rfl rfl ?_
                refine g_getA (q2 := 35) 103 (gd rfl) rfl rfl rfl rfl ?_
                refine g_iload_n 104 (gd rfl) rfl rfl ?_
                refine g_iaload 105 (gd rfl) rfl (n := 160) rfl (in_ix i77 rfl) (fun z104 e104 => ?_)
                have q104 : z82x21 = z104 := (e82x21).trans e104.symm
                subst q104
                refine g_calls (As := [.ref (A 32), .int z82x21]) (r := [.int (Int32.ofInt 1)]) 108 (gd rfl) rfl rfl rfl rfl rfl (Nat.le_of_ble_eq_true rfl) (mc := 0) (ms := 0) (Nat.zero_le _) (Nat.zero_le _) (P := fun v u => _) ?_ (fun v u h => h)
                intro po105 xx105 hp105 hx105
                refine g_enter2 (k := 90) (N := 300) (by first | exact dq1 hd rfl | exact dq0 hd rfl | exact dq2 hd rfl | exact dq3 hd rfl | omega) rfl (Nat.le_of_ble_eq_true rfl) ?_
                refine g_aload_n 1 (gd rfl) rfl rfl ?_
                refine g_getA (q2 := 33) 4 (gd rfl) rfl rfl rfl rfl ?_
                refine g_iload_n 5 (gd rfl) rfl rfl ?_
                refine g_iaload 6 (gd rfl) rfl (n := 32) rfl (in_ix i82x21 rfl) (fun z105x5 e105x5 => ?_)
                have i105x5 := inv_I hIc72 (n := 32) (t := 0) 0 25 rfl (in_ix i82x21 rfl) rfl e105x5
                refine g_bipush 13 8 (gd rfl) rfl rfl ?_
                refine g_cmp_ge 11 15 (gd rfl) rfl rfl (fun c105x8 => ?_) (fun c105x8 => ?_)
                · skip
                  have i105x8 := r_le2 13 25 c105x8 (in_c 13 rfl) i105x5 rfl
                  refine g_iconst 0 16 (gd rfl) rfl rfl ?_
                  refine g_ireturn (gd rfl) rfl (nb01 (in_w 0 1 (in_c 0 rfl) rfl)) (hp105 _ _ ?_)
                  show GG _ _ _ _ _ _ _ _ [.int (Int32.ofInt 0), .int (Int32.ofInt 1)] _ _ _
                  refine g_cmp_eq 111 171 (gd rfl) rfl rfl (fun c108 => ?_) (fun c108 => ?_)
                  · skip
                    exact n_eq c108 (in_c 1 rfl) (in_c 0 rfl) rfl
                  · skip
                    refine g_aload_n 112 (gd rfl) rfl rfl ?_
                    refine g_aload_n 113 (gd rfl) rfl rfl ?_
                    refine g_getA (q2 := 34) 116 (gd rfl) rfl rfl rfl rfl ?_
                    refine g_iload_n 117 (gd rfl) rfl rfl ?_
                    refine g_iaload 118 (gd rfl) rfl (n := 160) rfl (in_ix i77 rfl) (fun z117 e117 => ?_)
                    have q117 : z82x5 = z117 := (e82x5).trans e117.symm
                    subst q117
                    refine g_calls (As := [.ref (A 32), .int z82x5]) (r := []) 121 (gd rfl) rfl rfl rfl rfl rfl (Nat.le_of_ble_eq_true rfl) (mc := 0) (ms := 0) (Nat.zero_le _) (Nat.zero_le _) (P := fun v u => _) ?_ (fun v u h => h)
                    intro po118 xx118 hp118 hx118
                    refine g_enter2 (k := 90) (N := 300) (by first | exact dq1 hd rfl | exact dq0 hd rfl | exact dq2 hd rfl | exact dq3 hd rfl | omega) rfl (Nat.le_of_ble_eq_true rfl) ?_
                    refine g_aload_n 1 (gd rfl) rfl rfl ?_
                    refine g_getA (q2 := 33) 4 (gd rfl) rfl rfl rfl rfl ?_
                    refine g_iload_n 5 (gd rfl) rfl rfl ?_
                    refine g_iaload 6 (gd rfl) rfl (n := 32) rfl (in_ix i82x7 rfl) (fun z118x5 e118x5 => ?_)
                    have q118x5 : z95x5 = z118x5 := (e95x5).trans e118x5.symm
                    subst q118x5
                    refine g_bipush 13 8 (gd rfl) rfl rfl ?_
                    refine g_cmp_ge 11 15 (gd rfl) rfl rfl (fun c118x8 => ?_) (fun c118x8 => ?_)
                    · skip
                      exact n_le c118x8 (in_c 13 rfl) i95x8 rfl
                    · skip
                      refine g_iconst 1 12 (gd rfl) rfl rfl ?_
                      refine g_goto 16 (gd rfl) rfl ?_
                      refine g_ireturn (gd rfl) rfl (nb01 (in_w 0 1 (in_c 1 rfl) rfl)) (hp118 _ _ ?_)
                      show GG _ _ _ _ _ _ _ _ [.int (Int32.ofInt 1)] _ _ _
                      refine g_istore_n 122 (gd rfl) rfl (Nat.le_of_ble_eq_true rfl) ?_
                      refine g_aload_n 123 (gd rfl) rfl rfl ?_
                      refine g_iload_n 124 (gd rfl) rfl rfl ?_
                      refine g_if_eq 127 136 (gd rfl) rfl rfl (fun c124 => ?_) (fun c124 => ?_)
                      · skip
                        exact zn_eq c124 (in_c 1 rfl) rfl
                      · skip
                        refine g_aload_n 128 (gd rfl) rfl rfl ?_
                        refine g_getA (q2 := 34) 131 (gd rfl) rfl rfl rfl rfl ?_
                        refine g_iload_n 132 (gd rfl) rfl rfl ?_
                        refine g_iaload 133 (gd rfl) rfl (n := 160) rfl (in_ix i77 rfl) (fun z132 e132 => ?_)
                        have q132 : z82x5 = z132 := (e82x5).trans e132.symm
                        subst q132
                        refine g_goto 142 (gd rfl) rfl ?_
                        refine g_iload_n 143 (gd rfl) rfl rfl ?_
                        refine g_if_eq 146 155 (gd rfl) rfl rfl (fun c143 => ?_) (fun c143 => ?_)
                        · skip
                          exact zn_eq c143 (in_c 1 rfl) rfl
                        · skip
                          refine g_aload_n 147 (gd rfl) rfl rfl ?_
                          refine g_getA (q2 := 35) 150 (gd rfl) rfl rfl rfl rfl ?_
                          refine g_iload_n 151 (gd rfl) rfl rfl ?_
                          refine g_iaload 152 (gd rfl) rfl (n := 160) rfl (in_ix i77 rfl) (fun z151 e151 => ?_)
                          have q151 : z82x21 = z151 := (e82x21).trans e151.symm
                          subst q151
                          refine g_goto 161 (gd rfl) rfl ?_
                          refine g_aload_n 162 (gd rfl) rfl rfl ?_
                          refine g_getA (q2 := 36) 165 (gd rfl) rfl rfl rfl rfl ?_
                          refine g_iload_n 166 (gd rfl) rfl rfl ?_
                          refine g_iaload 167 (gd rfl) rfl (n := 160) rfl (in_ix i77 rfl) (fun z166 e166 => ?_)
                          have i166 := inv_I hIc72 (n := 160) (t := 0) (-1000000) 1000000 rfl (in_ix i77 rfl) rfl e166
                          refine g_iconst 1 168 (gd rfl) rfl rfl ?_
                          refine g_callv (X := _) (As := [.int z82x5, .int z82x21, .int z166, .int (Int32.ofInt 1)]) (r := []) (b := A 65) (q := 65) 171 (gd rfl) rfl rfl rfl rfl rfl (ww_o rfl) (Nat.le_of_ble_eq_true rfl) (Nat.zero_le _) (Nat.zero_le _) (f_84_65 (by first | exact dq1 hd rfl | exact dq0 hd rfl | exact dq2 hd rfl | exact dq3 hd rfl | omega) hIc72 (in_w 0 31 i82x7 rfl) (in_w 0 31 i82x21 rfl) (in_w (-1000000) 1000000 i166 rfl) (in_w 0 1000000 (in_c 1 rfl) rfl)) (fun e u h => h) (fun v u h => ?_)
                          obtain ⟨s168, hI168, hF168, rfl, rfl, p168⟩ := h
                          show GG _ _ _ _ _ _ _ _ [] _ _ _
                          refine g_iinc 174 (gd rfl) rfl rfl (Nat.le_of_ble_eq_true rfl) (fun z171 e171 => ?_)
                          have i171 := in_add 1 160 e171 i77 (in_c 1 rfl) rfl rfl
                          refine g_goto 72 (gd rfl) rfl ?_
                          have v72 : w72_65_17 = s168.2.2.1 65 17 := fr_F (v72_65_17) hF168 rfl
                          have n72 : (w72_65_17).toInt = 0 := by first | exact n72_0 | (exact (have a0 := in_u i77a; have a1 := in_u ro_32_1; have a2 := in_u ro_32_0; have a3 := in_u ((inv_F hIc72 0 32 rfl v72_65_17)); have a4 := in_u i77; have a5 := in_u ((in_c 1 rfl)); have a6 := in_u i171; have a7 := t_add e171 i77 (in_c 1 rfl) rfl; have oc := oc_89_65_32; by omega))
                          have n72a : E37 (gvD s) s168 (s.2.2.1 32 1).toNatClampNeg := by exact e37_x g72_0 (ex_fr hF168 rfl)
                          have n72b : LYF (gvD s) s168 (z171).toNatClampNeg := by rw [(show (z171).toNatClampNeg = (y72_2).toNatClampNeg + 1 from (by show (z171).toInt.toNat = (y72_2).toInt.toNat + 1; exact (have a0 := in_u i77a; have a1 := in_u ro_32_1; have a2 := in_u ro_32_0; have a3 := in_u ((inv_F hIc72 0 32 rfl v72_65_17)); have a4 := in_u i77; have a5 := in_u ((in_c 1 rfl)); have a6 := in_u i171; have a7 := t_add e171 i77 (in_c 1 rfl) rfl; have oc := oc_89_65_32; by omega)))]; exact lyf_y g72_1 (show (y72_2).toNatClampNeg < 160 from (by show (y72_2).toInt.toNat < 160; exact (have a0 := in_u i77a; have a1 := in_u ro_32_1; have a2 := in_u ro_32_0; have a3 := in_u ((inv_F hIc72 0 32 rfl v72_65_17)); have a4 := in_u i77; have a5 := in_u ((in_c 1 rfl)); have a6 := in_u i171; have a7 := t_add e171 i77 (in_c 1 rfl) rfl; have oc := oc_89_65_32; by omega))) (pel_3 (show z82x5 = (gvD s).2.1 (y72_2).toNatClampNeg from (e82x5.trans (congrFun (hFc72.1 34 rfl) _))) (show z82x21 = (gvD s).2.2.1 (y72_2).toNatClampNeg from (e82x21.trans (congrFun (hFc72.1 35 rfl) _))) (show z95x5 = (gvD s).1 z82x5.toNatClampNeg from (e95x5.trans (congrFun (hFc72.1 33 rfl) _))) (show z105x5 = (gvD s).1 z82x21.toNatClampNeg from (e105x5.trans (congrFun (hFc72.1 33 rfl) _))) (by exact (have a0 := in_u i77a; have a1 := in_u ro_32_1; have a2 := in_u ro_32_0; have a3 := in_u ((inv_F hIc72 0 32 rfl v72_65_17)); have a4 := in_u i77; have a5 := in_u ((in_c 1 rfl)); have a6 := in_u i171; have a7 := t_add e171 i77 (in_c 1 rfl) rfl; have oc := oc_89_65_32; by omega)) c82x22 (by exact (have a0 := in_u i77a; have a1 := in_u ro_32_1; have a2 := in_u ro_32_0; have a3 := in_u ((inv_F hIc72 0 32 rfl v72_65_17)); have a4 := in_u i77; have a5 := in_u ((in_c 1 rfl)); have a6 := in_u i171; have a7 := t_add e171 i77 (in_c 1 rfl) rfl; have oc := oc_89_65_32; by omega)) (by exact (have a0 := in_u i77a; have a1 := in_u ro_32_1; have a2 := in_u ro_32_0; have a3 := in_u ((inv_F hIc72 0 32 rfl v72_65_17)); have a4 := in_u i77; have a5 := in_u ((in_c 1 rfl)); have a6 := in_u i171; have a7 := t_add e171 i77 (in_c 1 rfl) rfl; have oc := oc_89_65_32; by omega))) (show z166 = (gvD s).2.2.2.1 (y72_2).toNatClampNeg from (e166.trans (congrFun (hFc72.1 36 rfl) _))) rfl (inv_F hIc72 (z := sc72.2.2.1 65 8) 0 160 rfl rfl).1 p168
                          have n72c : (s168).2.2.1 65 16 = s.2.2.1 32 0 ∧ (s168).2.2.2.1 65 18 = Int64.ofInt 0 := by exact ⟨(hF168.2.2.1 65 16 rfl).trans g72_2.1, (hF168.2.2.2 65 18 rfl).trans g72_2.2⟩
                          exact gg_w (by first | exact Nat.le_add_right _ _ | exact gw2 | exact gw3 | exact gwe rfl | exact gwf rfl | exact gwg rfl | exact gwh rfl | omega) (gg_f (gf_cons rfl (gf_cons rfl (gf_cons rfl gf_nil))) (ih72 s168 z171 w72_65_17 hI168 (fr_tr rfl hFc72 hF168) (in_w 0 160 i171 rfl) v72 n72 n72a n72b n72c (m_up mm72 (t_add e171 i77 (in_c 1 rfl) rfl) (in_w 1 1 (in_c 1 rfl) rfl))))
                · skip
                  have i105x8 := r_lt1 0 12 c105x8 i105x5 (in_c 13 rfl) rfl
                  refine g_iconst 1 12 (gd rfl) rfl rfl ?_
                  refine g_goto 16 (gd rfl) rfl ?_
                  refine g_ireturn (gd rfl) rfl (nb01 (in_w 0 1 (in_c 1 rfl) rfl)) (hp105 _ _ ?_)
                  show GG _ _ _ _ _ _ _ _ [.int (Int32.ofInt 1), .int (Int32.ofInt 1)] _ _ _
                  refine g_cmp_eq 111 171 (gd rfl) rfl rfl (fun c108 => ?_) (fun c108 => ?_)
                  · skip
                    refine g_iinc 174 (gd rfl) rfl rfl (Nat.le_of_ble_eq_true rfl) (fun z171 e171 => ?_)
                    have i171 := in_add 1 160 e171 i77 (in_c 1 rfl) rfl rfl
                    refine g_goto 72 (gd rfl) rfl ?_
                    have n72 : (w72_65_17).toInt = 0 := by first | exact n72_0 | (exact (have a0 := in_u i77a; have a1 := in_u ro_32_1; have a2 := in_u ro_32_0; have a3 := in_u ((inv_F hIc72 0 32 rfl v72_65_17)); have a4 := in_u i77; have a5 := in_u i171; have a6 := t_add e171 i77 (in_c 1 rfl) rfl; have a7 := in_u ((in_c 1 rfl)); have oc := oc_89_65_32; by omega))
                    have n72a : E37 (gvD s) sc72 (s.2.2.1 32 1).toNatClampNeg := by exact g72_0
                    have n72b : LYF (gvD s) sc72 (z171).toNatClampNeg := by rw [(show (z171).toNatClampNeg = (y72_2).toNatClampNeg + 1 from (by show (z171).toInt.toNat = (y72_2).toInt.toNat + 1; exact (have a0 := in_u i77a; have a1 := in_u ro_32_1; have a2 := in_u ro_32_0; have a3 := in_u ((inv_F hIc72 0 32 rfl v72_65_17)); have a4 := in_u i77; have a5 := in_u i171; have a6 := t_add e171 i77 (in_c 1 rfl) rfl; have a7 := in_u ((in_c 1 rfl)); have oc := oc_89_65_32; by omega)))]; exact lyf_n g72_1 (pel_2 (show z82x5 = (gvD s).2.1 (y72_2).toNatClampNeg from (e82x5.trans (congrFun (hFc72.1 34 rfl) _))) (show z82x21 = (gvD s).2.2.1 (y72_2).toNatClampNeg from (e82x21.trans (congrFun (hFc72.1 35 rfl) _))) (show z95x5 = (gvD s).1 z82x5.toNatClampNeg from (e95x5.trans (congrFun (hFc72.1 33 rfl) _))) (show z105x5 = (gvD s).1 z82x21.toNatClampNeg from (e105x5.trans (congrFun (hFc72.1 33 rfl) _))) ⟨fun _ => (by exact (have a0 := in_u i77a; have a1 := in_u ro_32_1; have a2 := in_u ro_32_0; have a3 := in_u ((inv_F hIc72 0 32 rfl v72_65_17)); have a4 := in_u i77; have a5 := in_u i171; have a6 := t_add e171 i77 (in_c 1 rfl) rfl; have a7 := in_u ((in_c 1 rfl)); have oc := oc_89_65_32; by omega)), fun _ => (by exact (have a0 := in_u i77a; have a1 := in_u ro_32_1; have a2 := in_u ro_32_0; have a3 := in_u ((inv_F hIc72 0 32 rfl v72_65_17)); have a4 := in_u i77; have a5 := in_u i171; have a6 := t_add e171 i77 (in_c 1 rfl) rfl; have a7 := in_u ((in_c 1 rfl)); have oc := oc_89_65_32; by omega))⟩)
                    have n72c : (sc72).2.2.1 65 16 = s.2.2.1 32 0 ∧ (sc72).2.2.2.1 65 18 = Int64.ofInt 0 := by exact g72_2
                    exact gg_w (by first | exact Nat.le_add_right _ _ | exact gw2 | exact gw3 | exact gwe rfl | exact gwf rfl | exact gwg rfl | exact gwh rfl | omega) (gg_f (gf_cons rfl (gf_cons rfl (gf_cons rfl gf_nil))) (ih72 sc72 z171 w72_65_17 hIc72 hFc72 (in_w 0 160 i171 rfl) v72_65_17 n72 n72a n72b n72c (m_up mm72 (t_add e171 i77 (in_c 1 rfl) rfl) (in_w 1 1 (in_c 1 rfl) rfl))))
                  · skip
                    exact n_ne c108 (in_c 1 rfl) (in_c 1 rfl) rfl
  have ct37 : ∀ (k37 : Nat) (sc37 : GS) (y37_2 : Int32) (w37_65_17 : Int32), Inv sc37 → Fr fm_89_65_32 s sc37 → (In y37_2 0 32) → (w37_65_17 = sc37.2.2.1 65 17) → ((w37_65_17).toInt = 0) → (E37 (gvD s) sc37 (y37_2).toNatClampNeg) → ((sc37).2.2.1 65 16 = s.2.2.1 32 0 ∧ (sc37).2.2.2.1 65 18 = Int64.ofInt 0 ∧ (sc37).2.2.1 65 8 = Int32.ofInt 0) → 32 - (y37_2).toInt < (k37 : Int) → GG Z (d - 1) 89 post (gx xp) (174603 + k37 * 900) 37 (fun j => xlook j [(0, .ref (A 65)), (1, .ref (A 32)), (2, .int y37_2)]) [] (WW Z A sc37 ++ ex) 0 0 := by
    intro k37
    induction k37 with
    | zero => intro sc37 y37_2 w37_65_17 hIc37 hFc37 j37_2 v37_65_17 n37_0 g37_0 g37_1 mm37; exact m_no mm37 j37_2 rfl
    | succ k37 ih37 =>
      intro sc37 y37_2 w37_65_17 hIc37 hFc37 j37_2 v37_65_17 n37_0 g37_0 g37_1 mm37
      refine gg_w (M := 174603 + k37 * 900 + 900) gws ?_
      refine g_iload_n 38 (gd rfl) rfl rfl ?_
      refine g_aload_n 39 (gd rfl) rfl rfl ?_
      refine g_getI 42 (gd rfl) rfl rfl rfl (fun z39 e39 => ?_)
      have q39 : u_32_1 = z39 := (fr_F e_32_1 hFc37 rfl).trans e39.symm
      subst q39
      refine g_cmp_ge 45 70 (gd rfl) rfl rfl (fun c42 => ?_) (fun c42 => ?_)
      · skip
        refine g_iconst 0 71 (gd rfl) rfl rfl ?_
        refine g_istore_n 72 (gd rfl) rfl (Nat.le_of_ble_eq_true rfl) ?_
        have n72 : (w37_65_17).toInt = 0 := by first | exact n37_0 | (exact (have a0 := in_u ro_32_3; have a1 := in_u ro_32_1; have a2 := in_u ro_32_0; have a3 := in_u ((inv_F hIc37 0 32 rfl v37_65_17)); have a4 := in_u j37_2; have a5 := in_u ((in_c 0 rfl)); have oc := oc_89_65_32; by omega))
        have n72a : E37 (gvD s) sc37 (s.2.2.1 32 1).toNatClampNeg := by exact fun v hv => g37_0 v (Nat.lt_of_lt_of_le hv (show (s.2.2.1 32 1).toNatClampNeg ≤ (y37_2).toNatClampNeg from (by rw [← e_32_1]; show (u_32_1).toInt.toNat ≤ (y37_2).toInt.toNat; exact (have a0 := in_u ro_32_3; have a1 := in_u ro_32_1; have a2 := in_u ro_32_0; have a3 := in_u ((inv_F hIc37 0 32 rfl v37_65_17)); have a4 := in_u j37_2; have a5 := in_u ((in_c 0 rfl)); have oc := oc_89_65_32; by omega))))
        have n72b : LYF (gvD s) sc37 ((Int32.ofInt 0)).toNatClampNeg := by exact (show LYF _ _ 0 from lyf_0 g37_1.2.2)
        have n72c : (sc37).2.2.1 65 16 = s.2.2.1 32 0 ∧ (sc37).2.2.2.1 65 18 = Int64.ofInt 0 := by exact ⟨g37_1.1, g37_1.2.1⟩
        exact gg_w (by first | exact Nat.le_add_right _ _ | exact gw2 | exact gw3 | exact gwe rfl | exact gwf rfl | exact gwg rfl | exact gwh rfl | omega) (gg_f (gf_cons rfl (gf_cons rfl (gf_cons rfl gf_nil))) (ct72 161 sc37 (Int32.ofInt 0) w37_65_17 hIc37 hFc37 (in_w 0 160 (in_c 0 rfl) rfl) v37_65_17 n72 n72a n72b n72c (m_in 161 (in_w 0 160 (in_c 0 rfl) rfl) rfl)))
      · skip
        have i42 := r_lt1 0 31 c42 j37_2 ro_32_1 rfl
        have i42a := r_lt2 1 32 c42 j37_2 ro_32_1 rfl
        refine g_aload_n 46 (gd rfl) rfl rfl ?_
        refine g_getA (q2 := 74) 49 (gd rfl) rfl rfl rfl rfl ?_
        refine g_iload_n 50 (gd rfl) rfl rfl ?_
        refine g_aload_n 51 (gd rfl) rfl rfl ?_
        refine g_iload_n 52 (gd rfl) rfl rfl ?_
        refine g_calls (As := [.ref (A 32), .int y37_2]) (r := [.int y37_2, .ref (A 74)]) 55 (gd rfl) rfl rfl rfl rfl rfl (Nat.le_of_ble_eq_true rfl) (mc := 0) (ms := 0) (Nat.zero_le _) (Nat.zero_le _) (P := fun v u => _) ?_ (fun v u h => h)
        intro po52 xx52 hp52 hx52
        refine g_enter2 (k := 90) (N := 300) (by first | exact dq1 hd rfl | exact dq0 hd rfl | exact dq2 hd rfl | exact dq3 hd rfl | omega) rfl (Nat.le_of_ble_eq_true rfl) ?_
        refine g_aload_n 1 (gd rfl) rfl rfl ?_
        refine g_getA (q2 := 33) 4 (gd rfl) rfl rfl rfl rfl ?_
        refine g_iload_n 5 (gd rfl) rfl rfl ?_
        refine g_iaload 6 (gd rfl) rfl (n := 32) rfl (in_ix i42 rfl) (fun z52x5 e52x5 => ?_)
        have i52x5 := inv_I hIc37 (n := 32) (t := 0) 0 25 rfl (in_ix i42 rfl) rfl e52x5
        refine g_bipush 13 8 (gd rfl) rfl rfl ?_
        refine g_cmp_ge 11 15 (gd rfl) rfl rfl (fun c52x8 => ?_) (fun c52x8 => ?_)
        · skip
          have i52x8 := r_le2 13 25 c52x8 (in_c 13 rfl) i52x5 rfl
          refine g_iconst 0 16 (gd rfl) rfl rfl ?_
          refine g_ireturn (gd rfl) rfl (nb01 (in_w 0 1 (in_c 0 rfl) rfl)) (hp52 _ _ ?_)
          show GG _ _ _ _ _ _ _ _ [.int (Int32.ofInt 0), .int y37_2, .ref (A 74)] _ _ _
          refine g_if_eq 58 62 (gd rfl) rfl rfl (fun c55 => ?_) (fun c55 => ?_)
          · skip
            refine g_iconst (-1) 63 (gd rfl) rfl rfl ?_
            refine g_iastore 64 (gd rfl) rfl (n := 32) rfl (in_ix i42 rfl) ?_
            have hI63 := inv_sI (q := 74) (j := y37_2.toNatClampNeg) hIc37 rfl (in_w (-2147483648) 2147483647 (in_c (-1) rfl) rfl)
            refine g_iinc 67 (gd rfl) rfl rfl (Nat.le_of_ble_eq_true rfl) (fun z64 e64 => ?_)
            have i64 := in_add 1 32 e64 i42 (in_c 1 rfl) rfl rfl
            refine g_goto 37 (gd rfl) rfl ?_
            have v37 : w37_65_17 = (sI sc37 74 y37_2.toNatClampNeg (Int32.ofInt (-1))).2.2.1 65 17 := sI_F (v37_65_17)
            have n37 : (w37_65_17).toInt = 0 := by first | exact n37_0 | (exact (have a0 := in_u ro_32_3; have a1 := in_u i42a; have a2 := in_u ro_32_0; have a3 := in_u ((inv_F hIc37 0 32 rfl v37_65_17)); have a4 := in_u i42; have a5 := in_u i64; have a6 := t_add e64 i42 (in_c 1 rfl) rfl; have a7 := in_u ((in_c 1 rfl)); have oc := oc_89_65_32; by omega))
            have n37a : E37 (gvD s) (sI sc37 74 y37_2.toNatClampNeg (Int32.ofInt (-1))) (z64).toNatClampNeg := by rw [(show (z64).toNatClampNeg = (y37_2).toNatClampNeg + 1 from (by show (z64).toInt.toNat = (y37_2).toInt.toNat + 1; exact (have a0 := in_u ro_32_3; have a1 := in_u i42a; have a2 := in_u ro_32_0; have a3 := in_u ((inv_F hIc37 0 32 rfl v37_65_17)); have a4 := in_u i42; have a5 := in_u i64; have a6 := t_add e64 i42 (in_c 1 rfl) rfl; have a7 := in_u ((in_c 1 rfl)); have oc := oc_89_65_32; by omega)))]; first | exact e37_h g37_0 (show z52x5 = (gvD s).1 (y37_2).toNatClampNeg from (e52x5.trans (congrFun (hFc37.1 33 rfl) _))) c52x8 | exact e37_l g37_0 (show z52x5 = (gvD s).1 (y37_2).toNatClampNeg from (e52x5.trans (congrFun (hFc37.1 33 rfl) _))) c52x8
            have n37b : ((sI sc37 74 y37_2.toNatClampNeg (Int32.ofInt (-1)))).2.2.1 65 16 = s.2.2.1 32 0 ∧ ((sI sc37 74 y37_2.toNatClampNeg (Int32.ofInt (-1)))).2.2.2.1 65 18 = Int64.ofInt 0 ∧ ((sI sc37 74 y37_2.toNatClampNeg (Int32.ofInt (-1)))).2.2.1 65 8 = Int32.ofInt 0 := by exact g37_1
            exact gg_w (by first | exact Nat.le_add_right _ _ | exact gw2 | exact gw3 | exact gwe rfl | exact gwf rfl | exact gwg rfl | exact gwh rfl | omega) (gg_f (gf_cons rfl (gf_cons rfl (gf_cons rfl gf_nil))) (ih37 (sI sc37 74 y37_2.toNatClampNeg (Int32.ofInt (-1))) z64 w37_65_17 hI63 (fr_sI rfl hFc37) (in_w 0 32 i64 rfl) v37 n37 n37a n37b (m_up mm37 (t_add e64 i42 (in_c 1 rfl) rfl) (in_w 1 1 (in_c 1 rfl) rfl))))
          · skip
            exact zn_ne c55 (in_c 0 rfl) rfl
        · skip
          have i52x8 := r_lt1 0 12 c52x8 i52x5 (in_c 13 rfl) rfl
          refine g_iconst 1 12 (gd rfl) rfl rfl ?_
          refine g_goto 16 (gd rfl) rfl ?_
          refine g_ireturn (gd rfl) rfl (nb01 (in_w 0 1 (in_c 1 rfl) rfl)) (hp52 _ _ ?_)
          show GG _ _ _ _ _ _ _ _ [.int (Int32.ofInt 1), .int y37_2, .ref (A 74)] _ _ _
          refine g_if_eq 58 62 (gd rfl) rfl rfl (fun c55 => ?_) (fun c55 => ?_)
          · skip
            exact zn_eq c55 (in_c 1 rfl) rfl
          · skip
            refine g_iconst 1 59 (gd rfl) rfl rfl ?_
            refine g_goto 63 (gd rfl) rfl ?_
            refine g_iastore 64 (gd rfl) rfl (n := 32) rfl (in_ix i42 rfl) ?_
            have hI63 := inv_sI (q := 74) (j := y37_2.toNatClampNeg) hIc37 rfl (in_w (-2147483648) 2147483647 (in_c 1 rfl) rfl)
            refine g_iinc 67 (gd rfl) rfl rfl (Nat.le_of_ble_eq_true rfl) (fun z64 e64 => ?_)
            have i64 := in_add 1 32 e64 i42 (in_c 1 rfl) rfl rfl
            refine g_goto 37 (gd rfl) rfl ?_
            have v37 : w37_65_17 = (sI sc37 74 y37_2.toNatClampNeg (Int32.ofInt 1)).2.2.1 65 17 := sI_F (v37_65_17)
            have n37 : (w37_65_17).toInt = 0 := by first | exact n37_0 | (exact (have a0 := in_u ro_32_3; have a1 := in_u i42a; have a2 := in_u ro_32_0; have a3 := in_u ((inv_F hIc37 0 32 rfl v37_65_17)); have a4 := in_u i42; have a5 := in_u i64; have a6 := t_add e64 i42 (in_c 1 rfl) rfl; have a7 := in_u ((in_c 1 rfl)); have oc := oc_89_65_32; by omega))
            have n37a : E37 (gvD s) (sI sc37 74 y37_2.toNatClampNeg (Int32.ofInt 1)) (z64).toNatClampNeg := by rw [(show (z64).toNatClampNeg = (y37_2).toNatClampNeg + 1 from (by show (z64).toInt.toNat = (y37_2).toInt.toNat + 1; exact (have a0 := in_u ro_32_3; have a1 := in_u i42a; have a2 := in_u ro_32_0; have a3 := in_u ((inv_F hIc37 0 32 rfl v37_65_17)); have a4 := in_u i42; have a5 := in_u i64; have a6 := t_add e64 i42 (in_c 1 rfl) rfl; have a7 := in_u ((in_c 1 rfl)); have oc := oc_89_65_32; by omega)))]; first | exact e37_h g37_0 (show z52x5 = (gvD s).1 (y37_2).toNatClampNeg from (e52x5.trans (congrFun (hFc37.1 33 rfl) _))) c52x8 | exact e37_l g37_0 (show z52x5 = (gvD s).1 (y37_2).toNatClampNeg from (e52x5.trans (congrFun (hFc37.1 33 rfl) _))) c52x8
            have n37b : ((sI sc37 74 y37_2.toNatClampNeg (Int32.ofInt 1))).2.2.1 65 16 = s.2.2.1 32 0 ∧ ((sI sc37 74 y37_2.toNatClampNeg (Int32.ofInt 1))).2.2.2.1 65 18 = Int64.ofInt 0 ∧ ((sI sc37 74 y37_2.toNatClampNeg (Int32.ofInt 1))).2.2.1 65 8 = Int32.ofInt 0 := by exact g37_1
            exact gg_w (by first | exact Nat.le_add_right _ _ | exact gw2 | exact gw3 | exact gwe rfl | exact gwf rfl | exact gwg rfl | exact gwh rfl | omega) (gg_f (gf_cons rfl (gf_cons rfl (gf_cons rfl gf_nil))) (ih37 (sI sc37 74 y37_2.toNatClampNeg (Int32.ofInt 1)) z64 w37_65_17 hI63 (fr_sI rfl hFc37) (in_w 0 32 i64 rfl) v37 n37 n37a n37b (m_up mm37 (t_add e64 i42 (in_c 1 rfl) rfl) (in_w 1 1 (in_c 1 rfl) rfl))))
  refine g_enter2 (k := 89) (N := 205203) (by first | exact dq1 hd rfl | exact dq0 hd rfl | exact dq2 hd rfl | exact dq3 hd rfl | omega) rfl (Nat.le_of_ble_eq_true rfl) ?_
  refine g_aload_n 1 (gd rfl) rfl rfl ?_
  refine g_getI 4 (gd rfl) rfl rfl rfl (fun z1 e1 => ?_)
  have i1 := inv_F hI (-1) 4000 rfl e1
  refine g_aload_n 5 (gd rfl) rfl rfl ?_
  refine g_getI 8 (gd rfl) rfl rfl rfl (fun z5 e5 => ?_)
  have q5 : u_32_0 = z5 := (e_32_0).trans e5.symm
  subst q5
  refine g_cmp_ne 11 12 (gd rfl) rfl rfl (fun c8 => ?_) (fun c8 => ?_)
  · skip
    refine g_aload_n 13 (gd rfl) rfl rfl ?_
    refine g_aload_n 14 (gd rfl) rfl rfl ?_
    refine g_getI 17 (gd rfl) rfl rfl rfl (fun z14 e14 => ?_)
    have q14 : u_32_0 = z14 := (e_32_0).trans e14.symm
    subst q14
    refine g_putI 20 (gd rfl) rfl rfl rfl rfl ?_
    have hI17 := inv_sF (q := 65) (j := 16) hI rfl (in_w (-1) 4000 ro_32_0 rfl)
    refine g_aload_n 21 (gd rfl) rfl rfl ?_
    refine g_iconst 0 22 (gd rfl) rfl rfl ?_
    refine g_putI 25 (gd rfl) rfl rfl rfl rfl ?_
    have hI22 := inv_sF (q := 65) (j := 17) hI17 rfl (in_w 0 32 (in_c 0 rfl) rfl)
    refine g_aload_n 26 (gd rfl) rfl rfl ?_
    refine g_lconst 0 27 (gd rfl) rfl rfl ?_
    refine g_putL 30 (gd rfl) rfl rfl rfl rfl ?_
    have hI27 := inv_sG (q := 65) (j := 18) (x := (Int64.ofInt 0)) hI22 rfl (l_rng (Int64.ofInt 0))
    refine g_aload_n 31 (gd rfl) rfl rfl ?_
    refine g_iconst 0 32 (gd rfl) rfl rfl ?_
    refine g_putI 35 (gd rfl) rfl rfl rfl rfl ?_
    have hI32 := inv_sF (q := 65) (j := 8) hI27 rfl (in_w 0 160 (in_c 0 rfl) rfl)
    refine g_iconst 0 36 (gd rfl) rfl rfl ?_
    refine g_istore_n 37 (gd rfl) rfl (Nat.le_of_ble_eq_true rfl) ?_
    have v37 : (Int32.ofInt 0) = (sF (sG (sF (sF s 65 16 u_32_0) 65 17 (Int32.ofInt 0)) 65 18 (Int64.ofInt 0)) 65 8 (Int32.ofInt 0)).2.2.1 65 17 := sF_ne rfl (sG_F (sF_get))
    have n37 : ((Int32.ofInt 0)).toInt = 0 := by exact (have a0 := in_u ro_32_3; have a1 := in_u ro_32_1; have a2 := in_u ro_32_0; have a3 := in_u ((in_c 0 rfl)); have oc := oc_89_65_32; by omega)
    have n37a : E37 (gvD s) (sF (sG (sF (sF s 65 16 u_32_0) 65 17 (Int32.ofInt 0)) 65 18 (Int64.ofInt 0)) 65 8 (Int32.ofInt 0)) ((Int32.ofInt 0)).toNatClampNeg := by exact (show E37 _ _ 0 from fun v hv => absurd hv (Nat.not_lt_zero v))
    have n37b : ((sF (sG (sF (sF s 65 16 u_32_0) 65 17 (Int32.ofInt 0)) 65 18 (Int64.ofInt 0)) 65 8 (Int32.ofInt 0))).2.2.1 65 16 = s.2.2.1 32 0 ∧ ((sF (sG (sF (sF s 65 16 u_32_0) 65 17 (Int32.ofInt 0)) 65 18 (Int64.ofInt 0)) 65 8 (Int32.ofInt 0))).2.2.2.1 65 18 = Int64.ofInt 0 ∧ ((sF (sG (sF (sF s 65 16 u_32_0) 65 17 (Int32.ofInt 0)) 65 18 (Int64.ofInt 0)) 65 8 (Int32.ofInt 0))).2.2.1 65 8 = Int32.ofInt 0 := by exact ⟨e_32_0, rfl, rfl⟩
    exact gg_w (by first | exact Nat.le_of_ble_eq_true rfl | omega) (gg_f (gf_cons rfl (gf_cons rfl (gf_cons rfl gf_nil))) (ct37 33 (sF (sG (sF (sF s 65 16 u_32_0) 65 17 (Int32.ofInt 0)) 65 18 (Int64.ofInt 0)) 65 8 (Int32.ofInt 0)) (Int32.ofInt 0) (Int32.ofInt 0) hI32 (fr_sF rfl (fr_sG rfl (fr_sF rfl (fr_sF rfl fr_rf)))) (in_w 0 32 (in_c 0 rfl) rfl) v37 n37 n37a n37b (m_in 33 (in_w 0 32 (in_c 0 rfl) rfl) rfl)))
  · skip
    have i8 := r_eq1 0 4000 c8 i1 ro_32_0 rfl
    have n11 : PRQ (gvD s) s := by have c9 : (s.2.2.1 65 16).toInt = (gvD s).2.2.2.2.2.2.2 := (by show (s.2.2.1 65 16).toInt = (s.2.2.1 32 0).toInt; rw [← e1, ← e_32_0]; first | exact c8 | exact c8.symm); exact ⟨c9, q_2 c9⟩
    exact g_return (gd rfl) rfl (hP _ _ ⟨s, hI, fr_rf, rfl, rfl, n11⟩)
