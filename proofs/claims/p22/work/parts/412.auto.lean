section
/-! methods, by vc.py -/
def fm_356 : FM := ([148], [149], [], [])
/-- GraphHouseModel.cheapest -/
theorem k_356 {Z : AmZ} {A : Nat → Nat} {s : GS} {ex : va_W} {d : Nat} {X : AmX} {x1 : Int32} (hd : 1 ≤ d) (hI : Inv s) (h1 : In x1 0 31) (q_0 : CP s) (q_1 : (x1).toInt < (s.2.2.1 109 20).toInt) : GC Z d 356 [.ref (A 109), .int x1] (WW Z A s ++ ex) 0 0 (fun v u => ∃ t : GS, Inv t ∧ Fr fm_356 s t ∧ v = none ∧ u = WW Z A t ++ ex ∧ (CHE t (x1).toInt)) X := by
  intro post xp hP hX
  obtain ⟨u_109_19, e_109_19⟩ : ∃ w, w = s.2.2.1 109 19 := ⟨_, rfl⟩
  have ro_109_19 := inv_F hI 0 160 rfl e_109_19
  obtain ⟨u_109_20, e_109_20⟩ : ∃ w, w = s.2.2.1 109 20 := ⟨_, rfl⟩
  have ro_109_20 := inv_F hI 0 32 rfl e_109_20
  have ct50 : ∀ (k50 : Nat) (sc50 : GS) (y50_2 : Int32), Inv sc50 → Fr fm_356 s sc50 → (In y50_2 0 1) → (CI s (x1).toInt sc50) → ((y50_2).toInt = 0 → CLQ s sc50 160) → 2 * mq s (x1).toInt sc50 + (y50_2).toInt.toNat < k50 → GG Z (d - 1) 356 post (gx xp) (1 + k50 * 439525) 50 (fun j => xlook j [(0, .ref (A 109)), (1, .int x1), (2, .int y50_2)]) [] (WW Z A sc50 ++ ex) 0 0 := by
    intro k50
    induction k50 with
    | zero => intro sc50 y50_2 hIc50 hFc50 j50_2 g50_0 g50_1 mm50; exact absurd mm50 (Nat.not_lt_zero _)
    | succ k50 ih50 =>
      intro sc50 y50_2 hIc50 hFc50 j50_2 g50_0 g50_1 mm50
      refine gg_w (M := 1 + k50 * 439525 + 439525) gws ?_
      have ct58 : ∀ (k58 : Nat) (sc58 : GS) (y58_2 : Int32) (y58_3 : Int32), Inv sc58 → Fr fm_356 s sc58 → (In y58_2 0 1) → (In y58_3 0 160) → (WK s (x1).toInt (mq s (x1).toInt sc50) sc58 (y58_2).toInt (y58_3).toNatClampNeg) → (y50_2.toInt = 1) → 160 - (y58_3).toInt < (k58 : Int) → GG Z (d - 1) 356 post (gx xp) (1 + k50 * 439525 + 1 + k58 * 2702) 58 (fun j => xlook j [(0, .ref (A 109)), (1, .int x1), (2, .int y58_2), (3, .int y58_3)]) [] (WW Z A sc58 ++ ex) 0 0 := by
        intro k58
        induction k58 with
        | zero => intro sc58 y58_2 y58_3 hIc58 hFc58 j58_2 j58_3 g58_0 g58_1 mm58; exact m_no mm58 j58_3 rfl
        | succ k58 ih58 =>
          intro sc58 y58_2 y58_3 hIc58 hFc58 j58_2 j58_3 g58_0 g58_1 mm58
          refine gg_w (M := 1 + k50 * 439525 + 1 + k58 * 2702 + 2702) gws ?_
          have ct324 : ∀ (sc324 : GS) (y324_2 : Int32) (y324_4 : Int32), Inv sc324 → Fr fm_356 s sc324 → (In y324_2 0 1) → (In y58_3 0 159) → (In y324_4 0 400) → (WK s (x1).toInt (mq s (x1).toInt sc50) sc324 (y324_2).toInt ((y58_3).toNatClampNeg + 1)) → GG Z (d - 1) 356 post (gx xp) (1 + k50 * 439525 + 1 + k58 * 2702 + 901) 324 (fun j => xlook j [(0, .ref (A 109)), (1, .int x1), (2, .int y324_2), (3, .int y58_3), (4, .int y324_4)]) [] (WW Z A sc324 ++ ex) 0 0 := by
            intro sc324 y324_2 y324_4 hIc324 hFc324 j324_2 j324_3 j324_4 g324_0
            refine g_iinc 327 (gd rfl) rfl rfl (Nat.le_of_ble_eq_true rfl) (fun z324 e324 => ?_)
            have i324 := in_add 1 160 e324 j324_3 (in_c 1 rfl) rfl rfl
            refine g_goto 58 (gd rfl) rfl ?_
            have n58 : WK s (x1).toInt (mq s (x1).toInt sc50) sc324 (y324_2).toInt (z324).toNatClampNeg := by first | exact wk_0 g50_0 | (rw [show (z324).toNatClampNeg = y58_3.toNatClampNeg + 1 from (by show z324.toInt.toNat = y58_3.toInt.toNat + 1; (first | have a0 := oa7 j324_3 h1 ro_109_20 ro_109_19 j324_4 j324_2 i324 | ((first | have a0 := in_u j324_3 | (have a0 := j324_3; unfold In at a0)); (first | have a1 := in_u h1 | (have a1 := h1; unfold In at a1)); (first | have a2 := in_u ro_109_20 | (have a2 := ro_109_20; unfold In at a2)); (first | have a3 := in_u ro_109_19 | (have a3 := ro_109_19; unfold In at a3)); (first | have a4 := in_u j324_4 | (have a4 := j324_4; unfold In at a4)); (first | have a5 := in_u j324_2 | (have a5 := j324_2; unfold In at a5)); (first | have a6 := in_u i324 | (have a6 := i324; unfold In at a6)))); have a7 := t_add e324 j324_3 (in_c 1 rfl) rfl; (first | have a8 := in_u ((in_c 1 rfl)) | (have a8 := (in_c 1 rfl); unfold In at a8)); (first | exact zt_s (by omega) (by omega) | omega))]; exact g324_0)
            have n58a : y50_2.toInt = 1 := by first | exact g58_1 | (first | exact g58_1 | (have hj := j50_2; unfold In at hj; have hc := c51; omega))
            exact gg_w (by first | exact Nat.le_add_right _ _ | exact gw2 | exact gw3 | exact gwe rfl | exact gwf rfl | exact gwg rfl | exact gwh rfl | omega) (gg_f (gf_cons rfl (gf_cons rfl (gf_cons rfl (gf_cons rfl gf_nil)))) (ih58 sc324 y324_2 z324 hIc324 hFc324 (in_w 0 1 j324_2 rfl) (in_w 0 160 i324 rfl) n58 n58a (m_up mm58 (t_add e324 j324_3 (in_c 1 rfl) rfl) (in_w 1 1 (in_c 1 rfl) rfl))))
          have ct205 : ∀ (sc205 : GS) (y205_2 : Int32) (y205_4 : Int32), Inv sc205 → Fr fm_356 s sc205 → (In y205_2 0 1) → (In y58_3 0 159) → (In y205_4 0 400) → ((y205_4).toInt = (u_109_19).toInt + (y58_3).toInt) → (WK s (x1).toInt (mq s (x1).toInt sc50) sc205 (y205_2).toInt (y58_3).toNatClampNeg) → ((s.1 112 (y205_4).toNatClampNeg).toInt ≠ 0) → ((y205_2).toInt = 0 → FWQ s sc205 (y58_3).toNatClampNeg) → GG Z (d - 1) 356 post (gx xp) (1 + k50 * 439525 + 1 + k58 * 2702 + 1802) 205 (fun j => xlook j [(0, .ref (A 109)), (1, .int x1), (2, .int y205_2), (3, .int y58_3), (4, .int y205_4)]) [] (WW Z A sc205 ++ ex) 0 0 := by
            intro sc205 y205_2 y205_4 hIc205 hFc205 j205_2 j205_3 j205_4 n205_0 g205_0 g205_1 g205_2
            refine g_aload_n 206 (gd rfl) rfl rfl ?_
            refine g_getA (q2 := 147) 209 (gd rfl) rfl rfl rfl rfl ?_
            refine g_iload_n 210 (gd rfl) rfl rfl ?_
            refine g_laload 211 (gd rfl) rfl (n := 160) rfl (in_ix j205_3 rfl) (fun z210 e210 => ?_)
            refine g_lconst 0 212 (gd rfl) rfl rfl ?_
            refine g_lcmp 213 (gd rfl) rfl (fun z212 e212 => ?_)
            have i212 := lc_in e212
            refine g_if_le 216 324 (gd rfl) rfl rfl (fun c213 => ?_) (fun c213 => ?_)
            · skip
              have i213 := z_le (-1) 0 c213 i212 rfl
              have c213a := lc_le e212 c213
              have i213a := lr_le1 (-9223372036854775808) 0 c213a (l_rng z210) (l_c 0 rfl) rfl
              have n324 : WK s (x1).toInt (mq s (x1).toInt sc50) sc205 (y205_2).toInt ((y58_3).toNatClampNeg + 1) := by exact wk_bw g205_0 g205_2 (fun h0 _ => by exfalso; rw [← hFc205.2.1 147 rfl, ← e210] at h0; have hc := i213a.2; omega)
              exact gg_w (by first | exact Nat.le_add_right _ _ | exact gw2 | exact gw3 | exact gwe rfl | exact gwf rfl | exact gwg rfl | exact gwh rfl | omega) (gg_f (gf_cons rfl (gf_cons rfl (gf_cons rfl (gf_cons rfl (gf_cons rfl gf_nil))))) (ct324 sc205 y205_2 y205_4 hIc205 hFc205 (in_w 0 1 j205_2 rfl) (in_w 0 159 j205_3 rfl) (in_w 0 400 j205_4 rfl) n324))
            · skip
              have i213 := z_gt 1 1 c213 i212 rfl
              have c213a := lc_gt e212 c213
              have i213a := lr_lt2 1 9223372036854775807 c213a (l_c 0 rfl) (l_rng z210) rfl
              refine g_aload_n 217 (gd rfl) rfl rfl ?_
              refine g_getA (q2 := 149) 220 (gd rfl) rfl rfl rfl rfl ?_
              refine g_aload_n 221 (gd rfl) rfl rfl ?_
              refine g_getA (q2 := 114) 224 (gd rfl) rfl rfl rfl rfl ?_
              refine g_iload 226 (gd rfl) rfl rfl ?_
              refine g_iaload 227 (gd rfl) rfl (n := 480) rfl (in_ix j205_4 rfl) (fun z226 e226 => ?_)
              have i226 := inv_I hIc205 (n := 480) (t := 0) 0 31 rfl (in_ix j205_4 rfl) rfl e226
              refine g_laload 228 (gd rfl) rfl (n := 34) rfl (in_ix i226 rfl) (fun z227 e227 => ?_)
              refine g_ldc2_w 9000000000000000 231 (gd rfl) rfl rfl ?_
              refine g_lcmp 232 (gd rfl) rfl (fun z231 e231 => ?_)
              have i231 := lc_in e231
              refine g_if_ge 235 324 (gd rfl) rfl rfl (fun c232 => ?_) (fun c232 => ?_)
              · skip
                have i232 := z_ge 0 1 c232 i231 rfl
                have c232a := lc_ge e231 c232
                have i232a := lr_le2 9000000000000000 9223372036854775807 c232a (l_c 9000000000000000 rfl) (l_rng z227) rfl
                have n324 : WK s (x1).toInt (mq s (x1).toInt sc50) sc205 (y205_2).toInt ((y58_3).toNatClampNeg + 1) := by exact wk_bw g205_0 g205_2 (fun _ h9 => by exfalso; rw [← hFc205.1 114 rfl, (bs_x (x := y205_4) (a := y58_3) e_109_19 (by (first | have a0 := oa6 j205_3 h1 ro_109_20 ro_109_19 j205_4 j205_2 | ((first | have a0 := in_u j205_3 | (have a0 := j205_3; unfold In at a0)); (first | have a1 := in_u h1 | (have a1 := h1; unfold In at a1)); (first | have a2 := in_u ro_109_20 | (have a2 := ro_109_20; unfold In at a2)); (first | have a3 := in_u ro_109_19 | (have a3 := ro_109_19; unfold In at a3)); (first | have a4 := in_u j205_4 | (have a4 := j205_4; unfold In at a4)); (first | have a5 := in_u j205_2 | (have a5 := j205_2; unfold In at a5)))); omega) (by (first | have a0 := oa6 j205_3 h1 ro_109_20 ro_109_19 j205_4 j205_2 | ((first | have a0 := in_u j205_3 | (have a0 := j205_3; unfold In at a0)); (first | have a1 := in_u h1 | (have a1 := h1; unfold In at a1)); (first | have a2 := in_u ro_109_20 | (have a2 := ro_109_20; unfold In at a2)); (first | have a3 := in_u ro_109_19 | (have a3 := ro_109_19; unfold In at a3)); (first | have a4 := in_u j205_4 | (have a4 := j205_4; unfold In at a4)); (first | have a5 := in_u j205_2 | (have a5 := j205_2; unfold In at a5)))); omega) (by (first | have a0 := oa6 j205_3 h1 ro_109_20 ro_109_19 j205_4 j205_2 | ((first | have a0 := in_u j205_3 | (have a0 := j205_3; unfold In at a0)); (first | have a1 := in_u h1 | (have a1 := h1; unfold In at a1)); (first | have a2 := in_u ro_109_20 | (have a2 := ro_109_20; unfold In at a2)); (first | have a3 := in_u ro_109_19 | (have a3 := ro_109_19; unfold In at a3)); (first | have a4 := in_u j205_4 | (have a4 := j205_4; unfold In at a4)); (first | have a5 := in_u j205_2 | (have a5 := j205_2; unfold In at a5)))); omega)), ← e226, ← e227] at h9; have hc := i232a.1; omega)
                exact gg_w (by first | exact Nat.le_add_right _ _ | exact gw2 | exact gw3 | exact gwe rfl | exact gwf rfl | exact gwg rfl | exact gwh rfl | omega) (gg_f (gf_cons rfl (gf_cons rfl (gf_cons rfl (gf_cons rfl (gf_cons rfl gf_nil))))) (ct324 sc205 y205_2 y205_4 hIc205 hFc205 (in_w 0 1 j205_2 rfl) (in_w 0 159 j205_3 rfl) (in_w 0 400 j205_4 rfl) n324))
              · skip
                have i232 := z_lt (-1) (-1) c232 i231 rfl
                have c232a := lc_lt e231 c232
                have i232a := lr_lt1 (-9223372036854775808) 8999999999999999 c232a (l_rng z227) (l_c 9000000000000000 rfl) rfl
                refine g_aload_n 236 (gd rfl) rfl rfl ?_
                refine g_getA (q2 := 149) 239 (gd rfl) rfl rfl rfl rfl ?_
                refine g_aload_n 240 (gd rfl) rfl rfl ?_
                refine g_getA (q2 := 114) 243 (gd rfl) rfl rfl rfl rfl ?_
                refine g_iload 245 (gd rfl) rfl rfl ?_
                refine g_iaload 246 (gd rfl) rfl (n := 480) rfl (in_ix j205_4 rfl) (fun z245 e245 => ?_)
                have q245 : z226 = z245 := (e226).trans e245.symm
                subst q245
                refine g_laload 247 (gd rfl) rfl (n := 34) rfl (in_ix i226 rfl) (fun z246 e246 => ?_)
                refine g_aload_n 248 (gd rfl) rfl rfl ?_
                refine g_getA (q2 := 115) 251 (gd rfl) rfl rfl rfl rfl ?_
                refine g_iload 253 (gd rfl) rfl rfl ?_
                refine g_iaload 254 (gd rfl) rfl (n := 480) rfl (in_ix j205_4 rfl) (fun z253 e253 => ?_)
                have i253 := inv_I hIc205 (n := 480) (t := 0) (-1000000) 1000000 rfl (in_ix j205_4 rfl) rfl e253
                refine g_i2l 255 (gd rfl) rfl (fun z254 e254 => ?_)
                have i254 := l_i e254 i253
                refine g_lsub 256 (gd rfl) rfl (fun z255 e255 => ?_)
                refine g_aload_n 257 (gd rfl) rfl rfl ?_
                refine g_getA (q2 := 149) 260 (gd rfl) rfl rfl rfl rfl ?_
                refine g_aload_n 261 (gd rfl) rfl rfl ?_
                refine g_getA (q2 := 113) 264 (gd rfl) rfl rfl rfl rfl ?_
                refine g_iload 266 (gd rfl) rfl rfl ?_
                refine g_iaload 267 (gd rfl) rfl (n := 480) rfl (in_ix j205_4 rfl) (fun z266 e266 => ?_)
                have i266 := inv_I hIc205 (n := 480) (t := 0) 0 31 rfl (in_ix j205_4 rfl) rfl e266
                refine g_laload 268 (gd rfl) rfl (n := 34) rfl (in_ix i266 rfl) (fun z267 e267 => ?_)
                refine g_lcmp 269 (gd rfl) rfl (fun z268 e268 => ?_)
                have i268 := lc_in e268
                refine g_if_ge 272 324 (gd rfl) rfl rfl (fun c269 => ?_) (fun c269 => ?_)
                · skip
                  have i269 := z_ge 0 1 c269 i268 rfl
                  have c269a := lc_ge e268 c269
                  have n324 : WK s (x1).toInt (mq s (x1).toInt sc50) sc205 (y205_2).toInt ((y58_3).toNatClampNeg + 1) := by exact wk_bw g205_0 g205_2 (bwq_i hI q_0 (by (first | have a0 := oa6 j205_3 h1 ro_109_20 ro_109_19 j205_4 j205_2 | ((first | have a0 := in_u j205_3 | (have a0 := j205_3; unfold In at a0)); (first | have a1 := in_u h1 | (have a1 := h1; unfold In at a1)); (first | have a2 := in_u ro_109_20 | (have a2 := ro_109_20; unfold In at a2)); (first | have a3 := in_u ro_109_19 | (have a3 := ro_109_19; unfold In at a3)); (first | have a4 := in_u j205_4 | (have a4 := j205_4; unfold In at a4)); (first | have a5 := in_u j205_2 | (have a5 := j205_2; unfold In at a5)))); have a6 := tx_i2l e254; (first | have a7 := in_u i253 | (have a7 := i253; unfold In at a7)); omega) ⟨hFc205.1 112 rfl, hFc205.1 113 rfl, hFc205.1 114 rfl, hFc205.1 115 rfl, hFc205.1 116 rfl, hFc205.2.1 147 rfl, hFc205.2.2.1 109 19 rfl, hFc205.2.2.1 109 20 rfl⟩ g205_0.1 j205_3 (bs_x e_109_19 (by (first | have a0 := oa6 j205_3 h1 ro_109_20 ro_109_19 j205_4 j205_2 | ((first | have a0 := in_u j205_3 | (have a0 := j205_3; unfold In at a0)); (first | have a1 := in_u h1 | (have a1 := h1; unfold In at a1)); (first | have a2 := in_u ro_109_20 | (have a2 := ro_109_20; unfold In at a2)); (first | have a3 := in_u ro_109_19 | (have a3 := ro_109_19; unfold In at a3)); (first | have a4 := in_u j205_4 | (have a4 := j205_4; unfold In at a4)); (first | have a5 := in_u j205_2 | (have a5 := j205_2; unfold In at a5)))); have a6 := tx_i2l e254; (first | have a7 := in_u i253 | (have a7 := i253; unfold In at a7)); omega) (by (first | have a0 := oa6 j205_3 h1 ro_109_20 ro_109_19 j205_4 j205_2 | ((first | have a0 := in_u j205_3 | (have a0 := j205_3; unfold In at a0)); (first | have a1 := in_u h1 | (have a1 := h1; unfold In at a1)); (first | have a2 := in_u ro_109_20 | (have a2 := ro_109_20; unfold In at a2)); (first | have a3 := in_u ro_109_19 | (have a3 := ro_109_19; unfold In at a3)); (first | have a4 := in_u j205_4 | (have a4 := j205_4; unfold In at a4)); (first | have a5 := in_u j205_2 | (have a5 := j205_2; unfold In at a5)))); have a6 := tx_i2l e254; (first | have a7 := in_u i253 | (have a7 := i253; unfold In at a7)); omega) (by (first | have a0 := oa6 j205_3 h1 ro_109_20 ro_109_19 j205_4 j205_2 | ((first | have a0 := in_u j205_3 | (have a0 := j205_3; unfold In at a0)); (first | have a1 := in_u h1 | (have a1 := h1; unfold In at a1)); (first | have a2 := in_u ro_109_20 | (have a2 := ro_109_20; unfold In at a2)); (first | have a3 := in_u ro_109_19 | (have a3 := ro_109_19; unfold In at a3)); (first | have a4 := in_u j205_4 | (have a4 := j205_4; unfold In at a4)); (first | have a5 := in_u j205_2 | (have a5 := j205_2; unfold In at a5)))); have a6 := tx_i2l e254; (first | have a7 := in_u i253 | (have a7 := i253; unfold In at a7)); omega)).symm g205_1 e226 e266 e253 e246 (by rw [e246, ← e227]; have h := i232a.2; omega) e255 (tx_i2l e254) e267 c269a)
                  exact gg_w (by first | exact Nat.le_add_right _ _ | exact gw2 | exact gw3 | exact gwe rfl | exact gwf rfl | exact gwg rfl | exact gwh rfl | omega) (gg_f (gf_cons rfl (gf_cons rfl (gf_cons rfl (gf_cons rfl (gf_cons rfl gf_nil))))) (ct324 sc205 y205_2 y205_4 hIc205 hFc205 (in_w 0 1 j205_2 rfl) (in_w 0 159 j205_3 rfl) (in_w 0 400 j205_4 rfl) n324))
                · skip
                  have i269 := z_lt (-1) (-1) c269 i268 rfl
                  have c269a := lc_lt e268 c269
                  have i269a := lr_lt1 (-9223372036854775808) 9223372036854775806 c269a (l_rng z255) (l_rng z267) rfl
                  have i269b := lr_lt2 (-9223372036854775807) 9223372036854775807 c269a (l_rng z255) (l_rng z267) rfl
                  refine g_aload_n 273 (gd rfl) rfl rfl ?_
                  refine g_getA (q2 := 149) 276 (gd rfl) rfl rfl rfl rfl ?_
                  refine g_aload_n 277 (gd rfl) rfl rfl ?_
                  refine g_getA (q2 := 113) 280 (gd rfl) rfl rfl rfl rfl ?_
                  refine g_iload 282 (gd rfl) rfl rfl ?_
                  refine g_iaload 283 (gd rfl) rfl (n := 480) rfl (in_ix j205_4 rfl) (fun z282 e282 => ?_)
                  have q282 : z266 = z282 := (e266).trans e282.symm
                  subst q282
                  refine g_aload_n 284 (gd rfl) rfl rfl ?_
                  refine g_getA (q2 := 149) 287 (gd rfl) rfl rfl rfl rfl ?_
                  refine g_aload_n 288 (gd rfl) rfl rfl ?_
                  refine g_getA (q2 := 114) 291 (gd rfl) rfl rfl rfl rfl ?_
                  refine g_iload 293 (gd rfl) rfl rfl ?_
                  refine g_iaload 294 (gd rfl) rfl (n := 480) rfl (in_ix j205_4 rfl) (fun z293 e293 => ?_)
                  have q293 : z226 = z293 := (e226).trans e293.symm
                  subst q293
                  refine g_laload 295 (gd rfl) rfl (n := 34) rfl (in_ix i226 rfl) (fun z294 e294 => ?_)
                  refine g_aload_n 296 (gd rfl) rfl rfl ?_
                  refine g_getA (q2 := 115) 299 (gd rfl) rfl rfl rfl rfl ?_
                  refine g_iload 301 (gd rfl) rfl rfl ?_
                  refine g_iaload 302 (gd rfl) rfl (n := 480) rfl (in_ix j205_4 rfl) (fun z301 e301 => ?_)
                  have q301 : z253 = z301 := (e253).trans e301.symm
                  subst q301
                  refine g_i2l 303 (gd rfl) rfl (fun z302 e302 => ?_)
                  have i302 := l_i e302 i253
                  refine g_lsub 304 (gd rfl) rfl (fun z303 e303 => ?_)
                  refine g_lastore 305 (gd rfl) rfl (n := 34) rfl (in_ix i266 rfl) ?_
                  have hI304 := inv_sL (q := 149) (j := z266.toNatClampNeg) (x := z303) hIc205 rfl (l_rng z303)
                  refine g_aload_n 306 (gd rfl) rfl rfl ?_
                  refine g_getA (q2 := 148) 309 (gd rfl) rfl rfl rfl rfl ?_
                  refine g_aload_n 310 (gd rfl) rfl rfl ?_
                  refine g_getA (q2 := 113) 313 (gd rfl) rfl rfl rfl rfl ?_
                  refine g_iload 315 (gd rfl) rfl rfl ?_
                  refine g_iaload 316 (gd rfl) rfl (n := 480) rfl (in_ix j205_4 rfl) (fun z315 e315 => ?_)
                  have q315 : z266 = z315 := (sL_I (e266)).trans e315.symm
                  subst q315
                  refine g_sipush 200 319 (gd rfl) rfl rfl ?_
                  refine g_iload_n 320 (gd rfl) rfl rfl ?_
                  refine g_iadd 321 (gd rfl) rfl (fun z320 e320 => ?_)
                  have i320 := in_add 200 359 e320 (in_c 200 rfl) j205_3 rfl rfl
                  refine g_iastore 322 (gd rfl) rfl (n := 34) rfl (in_ix i266 rfl) ?_
                  have hI321 := inv_sI (q := 148) (j := z266.toNatClampNeg) hI304 rfl (in_w (-1) 1000 i320 rfl)
                  refine g_iconst 1 323 (gd rfl) rfl rfl ?_
                  refine g_istore_n 324 (gd rfl) rfl (Nat.le_of_ble_eq_true rfl) ?_
                  have n324 : WK s (x1).toInt (mq s (x1).toInt sc50) (sI (sL sc205 149 z266.toNatClampNeg z303) 148 z266.toNatClampNeg z320) ((Int32.ofInt 1)).toInt ((y58_3).toNatClampNeg + 1) := by exact (wk_ch g205_0 (ci_bw hI q_0 (by (first | have a0 := oa8 j205_3 h1 ro_109_20 ro_109_19 j205_4 j205_2 ((in_c 1 rfl)) i320 | ((first | have a0 := in_u j205_3 | (have a0 := j205_3; unfold In at a0)); (first | have a1 := in_u h1 | (have a1 := h1; unfold In at a1)); (first | have a2 := in_u ro_109_20 | (have a2 := ro_109_20; unfold In at a2)); (first | have a3 := in_u ro_109_19 | (have a3 := ro_109_19; unfold In at a3)); (first | have a4 := in_u j205_4 | (have a4 := j205_4; unfold In at a4)); (first | have a5 := in_u j205_2 | (have a5 := j205_2; unfold In at a5)); (first | have a6 := in_u ((in_c 1 rfl)) | (have a6 := (in_c 1 rfl); unfold In at a6)); (first | have a7 := in_u i320 | (have a7 := i320; unfold In at a7)))); have a8 := t_add e320 (in_c 200 rfl) j205_3 rfl; (first | have a9 := in_u ((in_c 200 rfl)) | (have a9 := (in_c 200 rfl); unfold In at a9)); have a10 := tx_i2l e302; (first | have a11 := in_u i253 | (have a11 := i253; unfold In at a11)); have a12 := tx_i2l e254; omega) (by (first | have a0 := oa8 j205_3 h1 ro_109_20 ro_109_19 j205_4 j205_2 ((in_c 1 rfl)) i320 | ((first | have a0 := in_u j205_3 | (have a0 := j205_3; unfold In at a0)); (first | have a1 := in_u h1 | (have a1 := h1; unfold In at a1)); (first | have a2 := in_u ro_109_20 | (have a2 := ro_109_20; unfold In at a2)); (first | have a3 := in_u ro_109_19 | (have a3 := ro_109_19; unfold In at a3)); (first | have a4 := in_u j205_4 | (have a4 := j205_4; unfold In at a4)); (first | have a5 := in_u j205_2 | (have a5 := j205_2; unfold In at a5)); (first | have a6 := in_u ((in_c 1 rfl)) | (have a6 := (in_c 1 rfl); unfold In at a6)); (first | have a7 := in_u i320 | (have a7 := i320; unfold In at a7)))); have a8 := t_add e320 (in_c 200 rfl) j205_3 rfl; (first | have a9 := in_u ((in_c 200 rfl)) | (have a9 := (in_c 200 rfl); unfold In at a9)); have a10 := tx_i2l e302; (first | have a11 := in_u i253 | (have a11 := i253; unfold In at a11)); have a12 := tx_i2l e254; omega) ⟨hFc205.1 112 rfl, hFc205.1 113 rfl, hFc205.1 114 rfl, hFc205.1 115 rfl, hFc205.1 116 rfl, hFc205.2.1 147 rfl, hFc205.2.2.1 109 19 rfl, hFc205.2.2.1 109 20 rfl⟩ g205_0.1 j205_3 (by (first | have a0 := oa8 j205_3 h1 ro_109_20 ro_109_19 j205_4 j205_2 ((in_c 1 rfl)) i320 | ((first | have a0 := in_u j205_3 | (have a0 := j205_3; unfold In at a0)); (first | have a1 := in_u h1 | (have a1 := h1; unfold In at a1)); (first | have a2 := in_u ro_109_20 | (have a2 := ro_109_20; unfold In at a2)); (first | have a3 := in_u ro_109_19 | (have a3 := ro_109_19; unfold In at a3)); (first | have a4 := in_u j205_4 | (have a4 := j205_4; unfold In at a4)); (first | have a5 := in_u j205_2 | (have a5 := j205_2; unfold In at a5)); (first | have a6 := in_u ((in_c 1 rfl)) | (have a6 := (in_c 1 rfl); unfold In at a6)); (first | have a7 := in_u i320 | (have a7 := i320; unfold In at a7)))); have a8 := t_add e320 (in_c 200 rfl) j205_3 rfl; (first | have a9 := in_u ((in_c 200 rfl)) | (have a9 := (in_c 200 rfl); unfold In at a9)); have a10 := tx_i2l e302; (first | have a11 := in_u i253 | (have a11 := i253; unfold In at a11)); have a12 := tx_i2l e254; omega) (bs_x e_109_19 (by (first | have a0 := oa8 j205_3 h1 ro_109_20 ro_109_19 j205_4 j205_2 ((in_c 1 rfl)) i320 | ((first | have a0 := in_u j205_3 | (have a0 := j205_3; unfold In at a0)); (first | have a1 := in_u h1 | (have a1 := h1; unfold In at a1)); (first | have a2 := in_u ro_109_20 | (have a2 := ro_109_20; unfold In at a2)); (first | have a3 := in_u ro_109_19 | (have a3 := ro_109_19; unfold In at a3)); (first | have a4 := in_u j205_4 | (have a4 := j205_4; unfold In at a4)); (first | have a5 := in_u j205_2 | (have a5 := j205_2; unfold In at a5)); (first | have a6 := in_u ((in_c 1 rfl)) | (have a6 := (in_c 1 rfl); unfold In at a6)); (first | have a7 := in_u i320 | (have a7 := i320; unfold In at a7)))); have a8 := t_add e320 (in_c 200 rfl) j205_3 rfl; (first | have a9 := in_u ((in_c 200 rfl)) | (have a9 := (in_c 200 rfl); unfold In at a9)); have a10 := tx_i2l e302; (first | have a11 := in_u i253 | (have a11 := i253; unfold In at a11)); have a12 := tx_i2l e254; omega) (by (first | have a0 := oa8 j205_3 h1 ro_109_20 ro_109_19 j205_4 j205_2 ((in_c 1 rfl)) i320 | ((first | have a0 := in_u j205_3 | (have a0 := j205_3; unfold In at a0)); (first | have a1 := in_u h1 | (have a1 := h1; unfold In at a1)); (first | have a2 := in_u ro_109_20 | (have a2 := ro_109_20; unfold In at a2)); (first | have a3 := in_u ro_109_19 | (have a3 := ro_109_19; unfold In at a3)); (first | have a4 := in_u j205_4 | (have a4 := j205_4; unfold In at a4)); (first | have a5 := in_u j205_2 | (have a5 := j205_2; unfold In at a5)); (first | have a6 := in_u ((in_c 1 rfl)) | (have a6 := (in_c 1 rfl); unfold In at a6)); (first | have a7 := in_u i320 | (have a7 := i320; unfold In at a7)))); have a8 := t_add e320 (in_c 200 rfl) j205_3 rfl; (first | have a9 := in_u ((in_c 200 rfl)) | (have a9 := (in_c 200 rfl); unfold In at a9)); have a10 := tx_i2l e302; (first | have a11 := in_u i253 | (have a11 := i253; unfold In at a11)); have a12 := tx_i2l e254; omega) (by (first | have a0 := oa8 j205_3 h1 ro_109_20 ro_109_19 j205_4 j205_2 ((in_c 1 rfl)) i320 | ((first | have a0 := in_u j205_3 | (have a0 := j205_3; unfold In at a0)); (first | have a1 := in_u h1 | (have a1 := h1; unfold In at a1)); (first | have a2 := in_u ro_109_20 | (have a2 := ro_109_20; unfold In at a2)); (first | have a3 := in_u ro_109_19 | (have a3 := ro_109_19; unfold In at a3)); (first | have a4 := in_u j205_4 | (have a4 := j205_4; unfold In at a4)); (first | have a5 := in_u j205_2 | (have a5 := j205_2; unfold In at a5)); (first | have a6 := in_u ((in_c 1 rfl)) | (have a6 := (in_c 1 rfl); unfold In at a6)); (first | have a7 := in_u i320 | (have a7 := i320; unfold In at a7)))); have a8 := t_add e320 (in_c 200 rfl) j205_3 rfl; (first | have a9 := in_u ((in_c 200 rfl)) | (have a9 := (in_c 200 rfl); unfold In at a9)); have a10 := tx_i2l e302; (first | have a11 := in_u i253 | (have a11 := i253; unfold In at a11)); have a12 := tx_i2l e254; omega)).symm g205_1 (by rw [← e210]; have h := i213a.1; omega) e226 e266 e253 e294 (by rw [e294, ← e227]; have h := i232a.2; omega) e303 (tx_i2l e302) (by rw [show z303 = z255 from (by rw [e303, e255, e294, e246, e302, e254]), ← e267]; exact c269a)) _)
                  exact gg_w (by first | exact Nat.le_add_right _ _ | exact gw2 | exact gw3 | exact gwe rfl | exact gwf rfl | exact gwg rfl | exact gwh rfl | omega) (gg_f (gf_cons rfl (gf_cons rfl (gf_cons rfl (gf_cons rfl (gf_cons rfl gf_nil))))) (ct324 (sI (sL sc205 149 z266.toNatClampNeg z303) 148 z266.toNatClampNeg z320) (Int32.ofInt 1) y205_4 hI321 (fr_sI rfl (fr_sL rfl hFc205)) (in_w 0 1 (in_c 1 rfl) rfl) (in_w 0 159 j205_3 rfl) (in_w 0 400 j205_4 rfl) n324))
          refine g_iload_n 59 (gd rfl) rfl rfl ?_
          refine g_sipush 160 62 (gd rfl) rfl rfl ?_
          refine g_cmp_ge 65 330 (gd rfl) rfl rfl (fun c62 => ?_) (fun c62 => ?_)
          · skip
            have i62 := r_le2 160 160 c62 (in_c 160 rfl) j58_3 rfl
            refine g_goto 50 (gd rfl) rfl ?_
            have n50 : CI s (x1).toInt sc58 := by first | exact g58_0.1 | exact ci_0 hI q_0 h1 q_1 ⟨hFc2.1 112 rfl, hFc2.1 113 rfl, hFc2.1 114 rfl, hFc2.1 115 rfl, hFc2.1 116 rfl, hFc2.2.1 147 rfl, hFc2.2.2.1 109 19 rfl, hFc2.2.2.1 109 20 rfl⟩ (fun k hk => g2_0 k (by rw [← e_109_20] at hk; (first | have a0 := oa5 h1 ro_109_20 ro_109_19 i62 j58_2 | ((first | have a0 := in_u h1 | (have a0 := h1; unfold In at a0)); (first | have a1 := in_u ro_109_20 | (have a1 := ro_109_20; unfold In at a1)); (first | have a2 := in_u ro_109_19 | (have a2 := ro_109_19; unfold In at a2)); (first | have a3 := in_u i62 | (have a3 := i62; unfold In at a3)); (first | have a4 := in_u j58_2 | (have a4 := j58_2; unfold In at a4)))); omega))
            have n50a : (y58_2).toInt = 0 → CLQ s sc58 160 := by first | (intro hz; exfalso; have h0 : (Int32.ofInt 1).toInt = 1 := rfl; omega) | (intro hz; have hc := g58_0.2.2.2 hz; rw [show y58_3.toNatClampNeg = 160 from (by show y58_3.toInt.toNat = 160; (first | have a0 := oa5 h1 ro_109_20 ro_109_19 i62 j58_2 | ((first | have a0 := in_u h1 | (have a0 := h1; unfold In at a0)); (first | have a1 := in_u ro_109_20 | (have a1 := ro_109_20; unfold In at a1)); (first | have a2 := in_u ro_109_19 | (have a2 := ro_109_19; unfold In at a2)); (first | have a3 := in_u i62 | (have a3 := i62; unfold In at a3)); (first | have a4 := in_u j58_2 | (have a4 := j58_2; unfold In at a4)))); (first | exact zt_e (by omega) | omega))] at hc; exact hc)
            have m50 : 2 * mq s (x1).toInt sc58 + (y58_2).toInt.toNat < k50 := by have hm := mm50; have hj := g58_1; have hm1 := g58_0.2.1; have hm2 := g58_0.2.2.1; by_cases hz : y58_2.toInt = 0; ((first | have a0 := oa5 h1 ro_109_20 ro_109_19 i62 j58_2 | ((first | have a0 := in_u h1 | (have a0 := h1; unfold In at a0)); (first | have a1 := in_u ro_109_20 | (have a1 := ro_109_20; unfold In at a1)); (first | have a2 := in_u ro_109_19 | (have a2 := ro_109_19; unfold In at a2)); (first | have a3 := in_u i62 | (have a3 := i62; unfold In at a3)); (first | have a4 := in_u j58_2 | (have a4 := j58_2; unfold In at a4)))); omega); (have hm3 := hm2 hz; have hjj := j58_2; unfold In at hjj; (first | have a0 := oa5 h1 ro_109_20 ro_109_19 i62 j58_2 | ((first | have a0 := in_u h1 | (have a0 := h1; unfold In at a0)); (first | have a1 := in_u ro_109_20 | (have a1 := ro_109_20; unfold In at a1)); (first | have a2 := in_u ro_109_19 | (have a2 := ro_109_19; unfold In at a2)); (first | have a3 := in_u i62 | (have a3 := i62; unfold In at a3)); (first | have a4 := in_u j58_2 | (have a4 := j58_2; unfold In at a4)))); omega)
            exact gg_w (by first | exact Nat.le_add_right _ _ | exact gw2 | exact gw3 | exact gwe rfl | exact gwf rfl | exact gwg rfl | exact gwh rfl | omega) (gg_f (gf_cons rfl (gf_cons rfl (gf_cons rfl gf_nil))) (ih50  sc58 y58_2 hIc58 hFc58 (in_w 0 1 j58_2 rfl) n50 n50a m50))
          · skip
            have i62 := r_lt1 0 159 c62 j58_3 (in_c 160 rfl) rfl
            refine g_aload_n 66 (gd rfl) rfl rfl ?_
            refine g_getI 69 (gd rfl) rfl rfl rfl (fun z66 e66 => ?_)
            have q66 : u_109_19 = z66 := (fr_F e_109_19 hFc58 rfl).trans e66.symm
            subst q66
            refine g_iload_n 70 (gd rfl) rfl rfl ?_
            refine g_iadd 71 (gd rfl) rfl (fun z70 e70 => ?_)
            have i70 := in_add 0 319 e70 ro_109_19 i62 rfl rfl
            refine g_istore 73 (gd rfl) rfl (Nat.le_of_ble_eq_true rfl) ?_
            refine g_aload_n 74 (gd rfl) rfl rfl ?_
            refine g_getA (q2 := 112) 77 (gd rfl) rfl rfl rfl rfl ?_
            refine g_iload 79 (gd rfl) rfl rfl ?_
            refine g_baload 80 (gd rfl) rfl (n := 480) rfl (in_ix i70 rfl) (fun z79 e79 => ?_)
            have i79 := inv_I hIc58 (n := 480) (t := 3) 0 1 rfl (in_ix i70 rfl) rfl e79
            refine g_if_eq 83 324 (gd rfl) rfl rfl (fun c80 => ?_) (fun c80 => ?_)
            · skip
              have i80 := z_eq 0 0 c80 i79 rfl
              have n324 : WK s (x1).toInt (mq s (x1).toInt sc50) sc58 (y58_2).toInt ((y58_3).toNatClampNeg + 1) := by exact wk_no g58_0 (by rw [(bs_x (x := z70) (a := y58_3) e_109_19 (by (first | have a0 := oa6 h1 ro_109_20 ro_109_19 i62 j58_2 i70 | ((first | have a0 := in_u h1 | (have a0 := h1; unfold In at a0)); (first | have a1 := in_u ro_109_20 | (have a1 := ro_109_20; unfold In at a1)); (first | have a2 := in_u ro_109_19 | (have a2 := ro_109_19; unfold In at a2)); (first | have a3 := in_u i62 | (have a3 := i62; unfold In at a3)); (first | have a4 := in_u j58_2 | (have a4 := j58_2; unfold In at a4)); (first | have a5 := in_u i70 | (have a5 := i70; unfold In at a5)))); have a6 := t_add e70 ro_109_19 i62 rfl; omega) (by (first | have a0 := oa6 h1 ro_109_20 ro_109_19 i62 j58_2 i70 | ((first | have a0 := in_u h1 | (have a0 := h1; unfold In at a0)); (first | have a1 := in_u ro_109_20 | (have a1 := ro_109_20; unfold In at a1)); (first | have a2 := in_u ro_109_19 | (have a2 := ro_109_19; unfold In at a2)); (first | have a3 := in_u i62 | (have a3 := i62; unfold In at a3)); (first | have a4 := in_u j58_2 | (have a4 := j58_2; unfold In at a4)); (first | have a5 := in_u i70 | (have a5 := i70; unfold In at a5)))); have a6 := t_add e70 ro_109_19 i62 rfl; omega) (by (first | have a0 := oa6 h1 ro_109_20 ro_109_19 i62 j58_2 i70 | ((first | have a0 := in_u h1 | (have a0 := h1; unfold In at a0)); (first | have a1 := in_u ro_109_20 | (have a1 := ro_109_20; unfold In at a1)); (first | have a2 := in_u ro_109_19 | (have a2 := ro_109_19; unfold In at a2)); (first | have a3 := in_u i62 | (have a3 := i62; unfold In at a3)); (first | have a4 := in_u j58_2 | (have a4 := j58_2; unfold In at a4)); (first | have a5 := in_u i70 | (have a5 := i70; unfold In at a5)))); have a6 := t_add e70 ro_109_19 i62 rfl; omega)), ← hFc58.1 112 rfl, ← e79]; exact c80)
              exact gg_w (by first | exact Nat.le_add_right _ _ | exact gw2 | exact gw3 | exact gwe rfl | exact gwf rfl | exact gwg rfl | exact gwh rfl | omega) (gg_f (gf_cons rfl (gf_cons rfl (gf_cons rfl (gf_cons rfl (gf_cons rfl gf_nil))))) (ct324 sc58 y58_2 z70 hIc58 hFc58 (in_w 0 1 j58_2 rfl) (in_w 0 159 i62 rfl) (in_w 0 400 i70 rfl) n324))
            · skip
              have i80 := z_ne 1 1 c80 i79 rfl
              refine g_aload_n 84 (gd rfl) rfl rfl ?_
              refine g_getA (q2 := 147) 87 (gd rfl) rfl rfl rfl rfl ?_
              refine g_iload_n 88 (gd rfl) rfl rfl ?_
              refine g_laload 89 (gd rfl) rfl (n := 160) rfl (in_ix i62 rfl) (fun z88 e88 => ?_)
              refine g_aload_n 90 (gd rfl) rfl rfl ?_
              refine g_getA (q2 := 116) 93 (gd rfl) rfl rfl rfl rfl ?_
              refine g_iload 95 (gd rfl) rfl rfl ?_
              refine g_iaload 96 (gd rfl) rfl (n := 480) rfl (in_ix i70 rfl) (fun z95 e95 => ?_)
              have i95 := inv_I hIc58 (n := 480) (t := 0) 0 1000000 rfl (in_ix i70 rfl) rfl e95
              refine g_i2l 97 (gd rfl) rfl (fun z96 e96 => ?_)
              have i96 := l_i e96 i95
              refine g_lcmp 98 (gd rfl) rfl (fun z97 e97 => ?_)
              have i97 := lc_in e97
              refine g_if_ge 101 205 (gd rfl) rfl rfl (fun c98 => ?_) (fun c98 => ?_)
              · skip
                have i98 := z_ge 0 1 c98 i97 rfl
                have c98a := lc_ge e97 c98
                have i98a := lr_le2 0 9223372036854775807 c98a i96 (l_rng z88) rfl
                have n205 : (z70).toInt = (u_109_19).toInt + (y58_3).toInt := by (first | have a0 := oa6 h1 ro_109_20 ro_109_19 i62 j58_2 i70 | ((first | have a0 := in_u h1 | (have a0 := h1; unfold In at a0)); (first | have a1 := in_u ro_109_20 | (have a1 := ro_109_20; unfold In at a1)); (first | have a2 := in_u ro_109_19 | (have a2 := ro_109_19; unfold In at a2)); (first | have a3 := in_u i62 | (have a3 := i62; unfold In at a3)); (first | have a4 := in_u j58_2 | (have a4 := j58_2; unfold In at a4)); (first | have a5 := in_u i70 | (have a5 := i70; unfold In at a5)))); have a6 := t_add e70 ro_109_19 i62 rfl; have a7 := tx_i2l e96; (first | have a8 := in_u i95 | (have a8 := i95; unfold In at a8)); omega
                have n205a : WK s (x1).toInt (mq s (x1).toInt sc50) sc58 (y58_2).toInt (y58_3).toNatClampNeg := by exact g58_0
                have n205b : (s.1 112 (z70).toNatClampNeg).toInt ≠ 0 := by rw [← hFc58.1 112 rfl, ← e79]; exact c80
                have n205c : (y58_2).toInt = 0 → FWQ s sc58 (y58_3).toNatClampNeg := by (intro _ h0 _; exfalso; rw [← hFc58.2.1 147 rfl, ← hFc58.1 116 rfl, (bs_x (x := z70) (a := y58_3) e_109_19 (by have a0 := h1; unfold In at a0; (first | have a1 := oa5 ro_109_20 ro_109_19 i62 j58_2 i70 | ((first | have a1 := in_u ro_109_20 | (have a1 := ro_109_20; unfold In at a1)); (first | have a2 := in_u ro_109_19 | (have a2 := ro_109_19; unfold In at a2)); (first | have a3 := in_u i62 | (have a3 := i62; unfold In at a3)); (first | have a4 := in_u j58_2 | (have a4 := j58_2; unfold In at a4)); (first | have a5 := in_u i70 | (have a5 := i70; unfold In at a5)))); have a6 := t_add e70 ro_109_19 i62 rfl; have a7 := tx_i2l e96; (first | have a8 := in_u i95 | (have a8 := i95; unfold In at a8)); omega) (by have a0 := h1; unfold In at a0; (first | have a1 := oa5 ro_109_20 ro_109_19 i62 j58_2 i70 | ((first | have a1 := in_u ro_109_20 | (have a1 := ro_109_20; unfold In at a1)); (first | have a2 := in_u ro_109_19 | (have a2 := ro_109_19; unfold In at a2)); (first | have a3 := in_u i62 | (have a3 := i62; unfold In at a3)); (first | have a4 := in_u j58_2 | (have a4 := j58_2; unfold In at a4)); (first | have a5 := in_u i70 | (have a5 := i70; unfold In at a5)))); have a6 := t_add e70 ro_109_19 i62 rfl; have a7 := tx_i2l e96; (first | have a8 := in_u i95 | (have a8 := i95; unfold In at a8)); omega) (by have a0 := h1; unfold In at a0; (first | have a1 := oa5 ro_109_20 ro_109_19 i62 j58_2 i70 | ((first | have a1 := in_u ro_109_20 | (have a1 := ro_109_20; unfold In at a1)); (first | have a2 := in_u ro_109_19 | (have a2 := ro_109_19; unfold In at a2)); (first | have a3 := in_u i62 | (have a3 := i62; unfold In at a3)); (first | have a4 := in_u j58_2 | (have a4 := j58_2; unfold In at a4)); (first | have a5 := in_u i70 | (have a5 := i70; unfold In at a5)))); have a6 := t_add e70 ro_109_19 i62 rfl; have a7 := tx_i2l e96; (first | have a8 := in_u i95 | (have a8 := i95; unfold In at a8)); omega)), ← e88, ← e95] at h0; have h1 := tx_i2l e96; have h2 := c98a; omega)
                exact gg_w (by first | exact Nat.le_add_right _ _ | exact gw2 | exact gw3 | exact gwe rfl | exact gwf rfl | exact gwg rfl | exact gwh rfl | omega) (gg_f (gf_cons rfl (gf_cons rfl (gf_cons rfl (gf_cons rfl (gf_cons rfl gf_nil))))) (ct205 sc58 y58_2 z70 hIc58 hFc58 (in_w 0 1 j58_2 rfl) (in_w 0 159 i62 rfl) (in_w 0 400 i70 rfl) n205 n205a n205b n205c))
              · skip
                have i98 := z_lt (-1) (-1) c98 i97 rfl
                have c98a := lc_lt e97 c98
                have i98a := lr_lt1 (-9223372036854775808) 999999 c98a (l_rng z88) i96 rfl
                refine g_aload_n 102 (gd rfl) rfl rfl ?_
                refine g_getA (q2 := 149) 105 (gd rfl) rfl rfl rfl rfl ?_
                refine g_aload_n 106 (gd rfl) rfl rfl ?_
                refine g_getA (q2 := 113) 109 (gd rfl) rfl rfl rfl rfl ?_
                refine g_iload 111 (gd rfl) rfl rfl ?_
                refine g_iaload 112 (gd rfl) rfl (n := 480) rfl (in_ix i70 rfl) (fun z111 e111 => ?_)
                have i111 := inv_I hIc58 (n := 480) (t := 0) 0 31 rfl (in_ix i70 rfl) rfl e111
                refine g_laload 113 (gd rfl) rfl (n := 34) rfl (in_ix i111 rfl) (fun z112 e112 => ?_)
                refine g_ldc2_w 9000000000000000 116 (gd rfl) rfl rfl ?_
                refine g_lcmp 117 (gd rfl) rfl (fun z116 e116 => ?_)
                have i116 := lc_in e116
                refine g_if_ge 120 205 (gd rfl) rfl rfl (fun c117 => ?_) (fun c117 => ?_)
                · skip
                  have i117 := z_ge 0 1 c117 i116 rfl
                  have c117a := lc_ge e116 c117
                  have i117a := lr_le2 9000000000000000 9223372036854775807 c117a (l_c 9000000000000000 rfl) (l_rng z112) rfl
                  have n205 : (z70).toInt = (u_109_19).toInt + (y58_3).toInt := by (first | have a0 := oa6 h1 ro_109_20 ro_109_19 i62 j58_2 i70 | ((first | have a0 := in_u h1 | (have a0 := h1; unfold In at a0)); (first | have a1 := in_u ro_109_20 | (have a1 := ro_109_20; unfold In at a1)); (first | have a2 := in_u ro_109_19 | (have a2 := ro_109_19; unfold In at a2)); (first | have a3 := in_u i62 | (have a3 := i62; unfold In at a3)); (first | have a4 := in_u j58_2 | (have a4 := j58_2; unfold In at a4)); (first | have a5 := in_u i70 | (have a5 := i70; unfold In at a5)))); have a6 := t_add e70 ro_109_19 i62 rfl; have a7 := tx_i2l e96; (first | have a8 := in_u i95 | (have a8 := i95; unfold In at a8)); omega
                  have n205a : WK s (x1).toInt (mq s (x1).toInt sc50) sc58 (y58_2).toInt (y58_3).toNatClampNeg := by exact g58_0
                  have n205b : (s.1 112 (z70).toNatClampNeg).toInt ≠ 0 := by rw [← hFc58.1 112 rfl, ← e79]; exact c80
                  have n205c : (y58_2).toInt = 0 → FWQ s sc58 (y58_3).toNatClampNeg := by (intro _ _ h9; exfalso; rw [← hFc58.1 113 rfl, (bs_x (x := z70) (a := y58_3) e_109_19 (by (first | have a0 := oa6 h1 ro_109_20 ro_109_19 i62 j58_2 i70 | ((first | have a0 := in_u h1 | (have a0 := h1; unfold In at a0)); (first | have a1 := in_u ro_109_20 | (have a1 := ro_109_20; unfold In at a1)); (first | have a2 := in_u ro_109_19 | (have a2 := ro_109_19; unfold In at a2)); (first | have a3 := in_u i62 | (have a3 := i62; unfold In at a3)); (first | have a4 := in_u j58_2 | (have a4 := j58_2; unfold In at a4)); (first | have a5 := in_u i70 | (have a5 := i70; unfold In at a5)))); have a6 := t_add e70 ro_109_19 i62 rfl; have a7 := tx_i2l e96; (first | have a8 := in_u i95 | (have a8 := i95; unfold In at a8)); omega) (by (first | have a0 := oa6 h1 ro_109_20 ro_109_19 i62 j58_2 i70 | ((first | have a0 := in_u h1 | (have a0 := h1; unfold In at a0)); (first | have a1 := in_u ro_109_20 | (have a1 := ro_109_20; unfold In at a1)); (first | have a2 := in_u ro_109_19 | (have a2 := ro_109_19; unfold In at a2)); (first | have a3 := in_u i62 | (have a3 := i62; unfold In at a3)); (first | have a4 := in_u j58_2 | (have a4 := j58_2; unfold In at a4)); (first | have a5 := in_u i70 | (have a5 := i70; unfold In at a5)))); have a6 := t_add e70 ro_109_19 i62 rfl; have a7 := tx_i2l e96; (first | have a8 := in_u i95 | (have a8 := i95; unfold In at a8)); omega) (by (first | have a0 := oa6 h1 ro_109_20 ro_109_19 i62 j58_2 i70 | ((first | have a0 := in_u h1 | (have a0 := h1; unfold In at a0)); (first | have a1 := in_u ro_109_20 | (have a1 := ro_109_20; unfold In at a1)); (first | have a2 := in_u ro_109_19 | (have a2 := ro_109_19; unfold In at a2)); (first | have a3 := in_u i62 | (have a3 := i62; unfold In at a3)); (first | have a4 := in_u j58_2 | (have a4 := j58_2; unfold In at a4)); (first | have a5 := in_u i70 | (have a5 := i70; unfold In at a5)))); have a6 := t_add e70 ro_109_19 i62 rfl; have a7 := tx_i2l e96; (first | have a8 := in_u i95 | (have a8 := i95; unfold In at a8)); omega)), ← e111, ← e112] at h9; have h2 := i117a.1; omega)
                  exact gg_w (by first | exact Nat.le_add_right _ _ | exact gw2 | exact gw3 | exact gwe rfl | exact gwf rfl | exact gwg rfl | exact gwh rfl | omega) (gg_f (gf_cons rfl (gf_cons rfl (gf_cons rfl (gf_cons rfl (gf_cons rfl gf_nil))))) (ct205 sc58 y58_2 z70 hIc58 hFc58 (in_w 0 1 j58_2 rfl) (in_w 0 159 i62 rfl) (in_w 0 400 i70 rfl) n205 n205a n205b n205c))
                · skip
                  have i117 := z_lt (-1) (-1) c117 i116 rfl
                  have c117a := lc_lt e116 c117
                  have i117a := lr_lt1 (-9223372036854775808) 8999999999999999 c117a (l_rng z112) (l_c 9000000000000000 rfl) rfl
                  refine g_aload_n 121 (gd rfl) rfl rfl ?_
                  refine g_getA (q2 := 149) 124 (gd rfl) rfl rfl rfl rfl ?_
                  refine g_aload_n 125 (gd rfl) rfl rfl ?_
                  refine g_getA (q2 := 113) 128 (gd rfl) rfl rfl rfl rfl ?_
                  refine g_iload 130 (gd rfl) rfl rfl ?_
                  refine g_iaload 131 (gd rfl) rfl (n := 480) rfl (in_ix i70 rfl) (fun z130 e130 => ?_)
                  have q130 : z111 = z130 := (e111).trans e130.symm
                  subst q130
                  refine g_laload 132 (gd rfl) rfl (n := 34) rfl (in_ix i111 rfl) (fun z131 e131 => ?_)
                  refine g_aload_n 133 (gd rfl) rfl rfl ?_
                  refine g_getA (q2 := 115) 136 (gd rfl) rfl rfl rfl rfl ?_
                  refine g_iload 138 (gd rfl) rfl rfl ?_
                  refine g_iaload 139 (gd rfl) rfl (n := 480) rfl (in_ix i70 rfl) (fun z138 e138 => ?_)
                  have i138 := inv_I hIc58 (n := 480) (t := 0) (-1000000) 1000000 rfl (in_ix i70 rfl) rfl e138
                  refine g_i2l 140 (gd rfl) rfl (fun z139 e139 => ?_)
                  have i139 := l_i e139 i138
                  refine g_ladd 141 (gd rfl) rfl (fun z140 e140 => ?_)
                  refine g_aload_n 142 (gd rfl) rfl rfl ?_
                  refine g_getA (q2 := 149) 145 (gd rfl) rfl rfl rfl rfl ?_
                  refine g_aload_n 146 (gd rfl) rfl rfl ?_
                  refine g_getA (q2 := 114) 149 (gd rfl) rfl rfl rfl rfl ?_
                  refine g_iload 151 (gd rfl) rfl rfl ?_
                  refine g_iaload 152 (gd rfl) rfl (n := 480) rfl (in_ix i70 rfl) (fun z151 e151 => ?_)
                  have i151 := inv_I hIc58 (n := 480) (t := 0) 0 31 rfl (in_ix i70 rfl) rfl e151
                  refine g_laload 153 (gd rfl) rfl (n := 34) rfl (in_ix i151 rfl) (fun z152 e152 => ?_)
                  refine g_lcmp 154 (gd rfl) rfl (fun z153 e153 => ?_)
                  have i153 := lc_in e153
                  refine g_if_ge 157 205 (gd rfl) rfl rfl (fun c154 => ?_) (fun c154 => ?_)
                  · skip
                    have i154 := z_ge 0 1 c154 i153 rfl
                    have c154a := lc_ge e153 c154
                    have n205 : (z70).toInt = (u_109_19).toInt + (y58_3).toInt := by (first | have a0 := oa6 h1 ro_109_20 ro_109_19 i62 j58_2 i70 | ((first | have a0 := in_u h1 | (have a0 := h1; unfold In at a0)); (first | have a1 := in_u ro_109_20 | (have a1 := ro_109_20; unfold In at a1)); (first | have a2 := in_u ro_109_19 | (have a2 := ro_109_19; unfold In at a2)); (first | have a3 := in_u i62 | (have a3 := i62; unfold In at a3)); (first | have a4 := in_u j58_2 | (have a4 := j58_2; unfold In at a4)); (first | have a5 := in_u i70 | (have a5 := i70; unfold In at a5)))); have a6 := t_add e70 ro_109_19 i62 rfl; have a7 := tx_i2l e139; (first | have a8 := in_u i138 | (have a8 := i138; unfold In at a8)); have a9 := tx_i2l e96; (first | have a10 := in_u i95 | (have a10 := i95; unfold In at a10)); omega
                    have n205a : WK s (x1).toInt (mq s (x1).toInt sc50) sc58 (y58_2).toInt (y58_3).toNatClampNeg := by exact g58_0
                    have n205b : (s.1 112 (z70).toNatClampNeg).toInt ≠ 0 := by rw [← hFc58.1 112 rfl, ← e79]; exact c80
                    have n205c : (y58_2).toInt = 0 → FWQ s sc58 (y58_3).toNatClampNeg := by exact fun _ => fwq_i hI q_0 (by (first | have a0 := oa6 h1 ro_109_20 ro_109_19 i62 j58_2 i70 | ((first | have a0 := in_u h1 | (have a0 := h1; unfold In at a0)); (first | have a1 := in_u ro_109_20 | (have a1 := ro_109_20; unfold In at a1)); (first | have a2 := in_u ro_109_19 | (have a2 := ro_109_19; unfold In at a2)); (first | have a3 := in_u i62 | (have a3 := i62; unfold In at a3)); (first | have a4 := in_u j58_2 | (have a4 := j58_2; unfold In at a4)); (first | have a5 := in_u i70 | (have a5 := i70; unfold In at a5)))); have a6 := t_add e70 ro_109_19 i62 rfl; have a7 := tx_i2l e139; (first | have a8 := in_u i138 | (have a8 := i138; unfold In at a8)); have a9 := tx_i2l e96; (first | have a10 := in_u i95 | (have a10 := i95; unfold In at a10)); omega) ⟨hFc58.1 112 rfl, hFc58.1 113 rfl, hFc58.1 114 rfl, hFc58.1 115 rfl, hFc58.1 116 rfl, hFc58.2.1 147 rfl, hFc58.2.2.1 109 19 rfl, hFc58.2.2.1 109 20 rfl⟩ g58_0.1 i62 (bs_x e_109_19 (by (first | have a0 := oa6 h1 ro_109_20 ro_109_19 i62 j58_2 i70 | ((first | have a0 := in_u h1 | (have a0 := h1; unfold In at a0)); (first | have a1 := in_u ro_109_20 | (have a1 := ro_109_20; unfold In at a1)); (first | have a2 := in_u ro_109_19 | (have a2 := ro_109_19; unfold In at a2)); (first | have a3 := in_u i62 | (have a3 := i62; unfold In at a3)); (first | have a4 := in_u j58_2 | (have a4 := j58_2; unfold In at a4)); (first | have a5 := in_u i70 | (have a5 := i70; unfold In at a5)))); have a6 := t_add e70 ro_109_19 i62 rfl; have a7 := tx_i2l e139; (first | have a8 := in_u i138 | (have a8 := i138; unfold In at a8)); have a9 := tx_i2l e96; (first | have a10 := in_u i95 | (have a10 := i95; unfold In at a10)); omega) (by (first | have a0 := oa6 h1 ro_109_20 ro_109_19 i62 j58_2 i70 | ((first | have a0 := in_u h1 | (have a0 := h1; unfold In at a0)); (first | have a1 := in_u ro_109_20 | (have a1 := ro_109_20; unfold In at a1)); (first | have a2 := in_u ro_109_19 | (have a2 := ro_109_19; unfold In at a2)); (first | have a3 := in_u i62 | (have a3 := i62; unfold In at a3)); (first | have a4 := in_u j58_2 | (have a4 := j58_2; unfold In at a4)); (first | have a5 := in_u i70 | (have a5 := i70; unfold In at a5)))); have a6 := t_add e70 ro_109_19 i62 rfl; have a7 := tx_i2l e139; (first | have a8 := in_u i138 | (have a8 := i138; unfold In at a8)); have a9 := tx_i2l e96; (first | have a10 := in_u i95 | (have a10 := i95; unfold In at a10)); omega) (by (first | have a0 := oa6 h1 ro_109_20 ro_109_19 i62 j58_2 i70 | ((first | have a0 := in_u h1 | (have a0 := h1; unfold In at a0)); (first | have a1 := in_u ro_109_20 | (have a1 := ro_109_20; unfold In at a1)); (first | have a2 := in_u ro_109_19 | (have a2 := ro_109_19; unfold In at a2)); (first | have a3 := in_u i62 | (have a3 := i62; unfold In at a3)); (first | have a4 := in_u j58_2 | (have a4 := j58_2; unfold In at a4)); (first | have a5 := in_u i70 | (have a5 := i70; unfold In at a5)))); have a6 := t_add e70 ro_109_19 i62 rfl; have a7 := tx_i2l e139; (first | have a8 := in_u i138 | (have a8 := i138; unfold In at a8)); have a9 := tx_i2l e96; (first | have a10 := in_u i95 | (have a10 := i95; unfold In at a10)); omega)).symm (by rw [← hFc58.1 112 rfl, ← e79]; exact c80) e111 e151 e138 e131 (by rw [e131, ← e112]; have h := i117a.2; omega) e140 (tx_i2l e139) e152 c154a
                    exact gg_w (by first | exact Nat.le_add_right _ _ | exact gw2 | exact gw3 | exact gwe rfl | exact gwf rfl | exact gwg rfl | exact gwh rfl | omega) (gg_f (gf_cons rfl (gf_cons rfl (gf_cons rfl (gf_cons rfl (gf_cons rfl gf_nil))))) (ct205 sc58 y58_2 z70 hIc58 hFc58 (in_w 0 1 j58_2 rfl) (in_w 0 159 i62 rfl) (in_w 0 400 i70 rfl) n205 n205a n205b n205c))
                  · skip
                    have i154 := z_lt (-1) (-1) c154 i153 rfl
                    have c154a := lc_lt e153 c154
                    have i154a := lr_lt1 (-9223372036854775808) 9223372036854775806 c154a (l_rng z140) (l_rng z152) rfl
                    have i154b := lr_lt2 (-9223372036854775807) 9223372036854775807 c154a (l_rng z140) (l_rng z152) rfl
                    refine g_aload_n 158 (gd rfl) rfl rfl ?_
                    refine g_getA (q2 := 149) 161 (gd rfl) rfl rfl rfl rfl ?_
                    refine g_aload_n 162 (gd rfl) rfl rfl ?_
                    refine g_getA (q2 := 114) 165 (gd rfl) rfl rfl rfl rfl ?_
                    refine g_iload 167 (gd rfl) rfl rfl ?_
                    refine g_iaload 168 (gd rfl) rfl (n := 480) rfl (in_ix i70 rfl) (fun z167 e167 => ?_)
                    have q167 : z151 = z167 := (e151).trans e167.symm
                    subst q167
                    refine g_aload_n 169 (gd rfl) rfl rfl ?_
                    refine g_getA (q2 := 149) 172 (gd rfl) rfl rfl rfl rfl ?_
                    refine g_aload_n 173 (gd rfl) rfl rfl ?_
                    refine g_getA (q2 := 113) 176 (gd rfl) rfl rfl rfl rfl ?_
                    refine g_iload 178 (gd rfl) rfl rfl ?_
                    refine g_iaload 179 (gd rfl) rfl (n := 480) rfl (in_ix i70 rfl) (fun z178 e178 => ?_)
                    have q178 : z111 = z178 := (e111).trans e178.symm
                    subst q178
                    refine g_laload 180 (gd rfl) rfl (n := 34) rfl (in_ix i111 rfl) (fun z179 e179 => ?_)
                    refine g_aload_n 181 (gd rfl) rfl rfl ?_
                    refine g_getA (q2 := 115) 184 (gd rfl) rfl rfl rfl rfl ?_
                    refine g_iload 186 (gd rfl) rfl rfl ?_
                    refine g_iaload 187 (gd rfl) rfl (n := 480) rfl (in_ix i70 rfl) (fun z186 e186 => ?_)
                    have q186 : z138 = z186 := (e138).trans e186.symm
                    subst q186
                    refine g_i2l 188 (gd rfl) rfl (fun z187 e187 => ?_)
                    have i187 := l_i e187 i138
                    refine g_ladd 189 (gd rfl) rfl (fun z188 e188 => ?_)
                    refine g_lastore 190 (gd rfl) rfl (n := 34) rfl (in_ix i151 rfl) ?_
                    have hI189 := inv_sL (q := 149) (j := z151.toNatClampNeg) (x := z188) hIc58 rfl (l_rng z188)
                    refine g_aload_n 191 (gd rfl) rfl rfl ?_
                    refine g_getA (q2 := 148) 194 (gd rfl) rfl rfl rfl rfl ?_
                    refine g_aload_n 195 (gd rfl) rfl rfl ?_
                    refine g_getA (q2 := 114) 198 (gd rfl) rfl rfl rfl rfl ?_
                    refine g_iload 200 (gd rfl) rfl rfl ?_
                    refine g_iaload 201 (gd rfl) rfl (n := 480) rfl (in_ix i70 rfl) (fun z200 e200 => ?_)
                    have q200 : z151 = z200 := (sL_I (e151)).trans e200.symm
                    subst q200
                    refine g_iload_n 202 (gd rfl) rfl rfl ?_
                    refine g_iastore 203 (gd rfl) rfl (n := 34) rfl (in_ix i151 rfl) ?_
                    have hI202 := inv_sI (q := 148) (j := z151.toNatClampNeg) hI189 rfl (in_w (-1) 1000 i62 rfl)
                    refine g_iconst 1 204 (gd rfl) rfl rfl ?_
                    refine g_istore_n 205 (gd rfl) rfl (Nat.le_of_ble_eq_true rfl) ?_
                    have n205 : (z70).toInt = (u_109_19).toInt + (y58_3).toInt := by (first | have a0 := oa6 h1 ro_109_20 ro_109_19 i62 j58_2 i70 | ((first | have a0 := in_u h1 | (have a0 := h1; unfold In at a0)); (first | have a1 := in_u ro_109_20 | (have a1 := ro_109_20; unfold In at a1)); (first | have a2 := in_u ro_109_19 | (have a2 := ro_109_19; unfold In at a2)); (first | have a3 := in_u i62 | (have a3 := i62; unfold In at a3)); (first | have a4 := in_u j58_2 | (have a4 := j58_2; unfold In at a4)); (first | have a5 := in_u i70 | (have a5 := i70; unfold In at a5)))); have a6 := t_add e70 ro_109_19 i62 rfl; (first | have a7 := in_u ((in_c 1 rfl)) | (have a7 := (in_c 1 rfl); unfold In at a7)); have a8 := tx_i2l e187; (first | have a9 := in_u i138 | (have a9 := i138; unfold In at a9)); have a10 := tx_i2l e139; have a11 := tx_i2l e96; (first | have a12 := in_u i95 | (have a12 := i95; unfold In at a12)); omega
                    have n205a : WK s (x1).toInt (mq s (x1).toInt sc50) (sI (sL sc58 149 z151.toNatClampNeg z188) 148 z151.toNatClampNeg y58_3) ((Int32.ofInt 1)).toInt (y58_3).toNatClampNeg := by exact (wk_ch g58_0 (ci_fw hI q_0 (by have a0 := h1; unfold In at a0; (first | have a1 := oa5 ro_109_20 ro_109_19 i62 j58_2 i70 | ((first | have a1 := in_u ro_109_20 | (have a1 := ro_109_20; unfold In at a1)); (first | have a2 := in_u ro_109_19 | (have a2 := ro_109_19; unfold In at a2)); (first | have a3 := in_u i62 | (have a3 := i62; unfold In at a3)); (first | have a4 := in_u j58_2 | (have a4 := j58_2; unfold In at a4)); (first | have a5 := in_u i70 | (have a5 := i70; unfold In at a5)))); have a6 := t_add e70 ro_109_19 i62 rfl; (first | have a7 := in_u ((in_c 1 rfl)) | (have a7 := (in_c 1 rfl); unfold In at a7)); have a8 := tx_i2l e187; (first | have a9 := in_u i138 | (have a9 := i138; unfold In at a9)); have a10 := tx_i2l e139; have a11 := tx_i2l e96; (first | have a12 := in_u i95 | (have a12 := i95; unfold In at a12)); omega) (by have a0 := h1; unfold In at a0; (first | have a1 := oa5 ro_109_20 ro_109_19 i62 j58_2 i70 | ((first | have a1 := in_u ro_109_20 | (have a1 := ro_109_20; unfold In at a1)); (first | have a2 := in_u ro_109_19 | (have a2 := ro_109_19; unfold In at a2)); (first | have a3 := in_u i62 | (have a3 := i62; unfold In at a3)); (first | have a4 := in_u j58_2 | (have a4 := j58_2; unfold In at a4)); (first | have a5 := in_u i70 | (have a5 := i70; unfold In at a5)))); have a6 := t_add e70 ro_109_19 i62 rfl; (first | have a7 := in_u ((in_c 1 rfl)) | (have a7 := (in_c 1 rfl); unfold In at a7)); have a8 := tx_i2l e187; (first | have a9 := in_u i138 | (have a9 := i138; unfold In at a9)); have a10 := tx_i2l e139; have a11 := tx_i2l e96; (first | have a12 := in_u i95 | (have a12 := i95; unfold In at a12)); omega) ⟨hFc58.1 112 rfl, hFc58.1 113 rfl, hFc58.1 114 rfl, hFc58.1 115 rfl, hFc58.1 116 rfl, hFc58.2.1 147 rfl, hFc58.2.2.1 109 19 rfl, hFc58.2.2.1 109 20 rfl⟩ g58_0.1 i62 (bs_x e_109_19 (by have a0 := h1; unfold In at a0; (first | have a1 := oa5 ro_109_20 ro_109_19 i62 j58_2 i70 | ((first | have a1 := in_u ro_109_20 | (have a1 := ro_109_20; unfold In at a1)); (first | have a2 := in_u ro_109_19 | (have a2 := ro_109_19; unfold In at a2)); (first | have a3 := in_u i62 | (have a3 := i62; unfold In at a3)); (first | have a4 := in_u j58_2 | (have a4 := j58_2; unfold In at a4)); (first | have a5 := in_u i70 | (have a5 := i70; unfold In at a5)))); have a6 := t_add e70 ro_109_19 i62 rfl; (first | have a7 := in_u ((in_c 1 rfl)) | (have a7 := (in_c 1 rfl); unfold In at a7)); have a8 := tx_i2l e187; (first | have a9 := in_u i138 | (have a9 := i138; unfold In at a9)); have a10 := tx_i2l e139; have a11 := tx_i2l e96; (first | have a12 := in_u i95 | (have a12 := i95; unfold In at a12)); omega) (by have a0 := h1; unfold In at a0; (first | have a1 := oa5 ro_109_20 ro_109_19 i62 j58_2 i70 | ((first | have a1 := in_u ro_109_20 | (have a1 := ro_109_20; unfold In at a1)); (first | have a2 := in_u ro_109_19 | (have a2 := ro_109_19; unfold In at a2)); (first | have a3 := in_u i62 | (have a3 := i62; unfold In at a3)); (first | have a4 := in_u j58_2 | (have a4 := j58_2; unfold In at a4)); (first | have a5 := in_u i70 | (have a5 := i70; unfold In at a5)))); have a6 := t_add e70 ro_109_19 i62 rfl; (first | have a7 := in_u ((in_c 1 rfl)) | (have a7 := (in_c 1 rfl); unfold In at a7)); have a8 := tx_i2l e187; (first | have a9 := in_u i138 | (have a9 := i138; unfold In at a9)); have a10 := tx_i2l e139; have a11 := tx_i2l e96; (first | have a12 := in_u i95 | (have a12 := i95; unfold In at a12)); omega) (by have a0 := h1; unfold In at a0; (first | have a1 := oa5 ro_109_20 ro_109_19 i62 j58_2 i70 | ((first | have a1 := in_u ro_109_20 | (have a1 := ro_109_20; unfold In at a1)); (first | have a2 := in_u ro_109_19 | (have a2 := ro_109_19; unfold In at a2)); (first | have a3 := in_u i62 | (have a3 := i62; unfold In at a3)); (first | have a4 := in_u j58_2 | (have a4 := j58_2; unfold In at a4)); (first | have a5 := in_u i70 | (have a5 := i70; unfold In at a5)))); have a6 := t_add e70 ro_109_19 i62 rfl; (first | have a7 := in_u ((in_c 1 rfl)) | (have a7 := (in_c 1 rfl); unfold In at a7)); have a8 := tx_i2l e187; (first | have a9 := in_u i138 | (have a9 := i138; unfold In at a9)); have a10 := tx_i2l e139; have a11 := tx_i2l e96; (first | have a12 := in_u i95 | (have a12 := i95; unfold In at a12)); omega)).symm (by rw [← hFc58.1 112 rfl, ← e79]; exact c80) (by rw [← e88, ← e95]; have h1 := tx_i2l e96; have h2 := c98a; omega) e111 e151 e138 e179 (by rw [e179, ← e112]; have h := i117a.2; omega) e188 (tx_i2l e187) (by rw [show z188 = z140 from (by rw [e188, e140, e179, e131, e187, e139]), ← e152]; exact c154a)) _)
                    have n205b : (s.1 112 (z70).toNatClampNeg).toInt ≠ 0 := by rw [← hFc58.1 112 rfl, ← e79]; exact c80
                    have n205c : ((Int32.ofInt 1)).toInt = 0 → FWQ s (sI (sL sc58 149 z151.toNatClampNeg z188) 148 z151.toNatClampNeg y58_3) (y58_3).toNatClampNeg := by exact fun h => absurd h (by decide)
                    exact gg_w (by first | exact Nat.le_add_right _ _ | exact gw2 | exact gw3 | exact gwe rfl | exact gwf rfl | exact gwg rfl | exact gwh rfl | omega) (gg_f (gf_cons rfl (gf_cons rfl (gf_cons rfl (gf_cons rfl (gf_cons rfl gf_nil))))) (ct205 (sI (sL sc58 149 z151.toNatClampNeg z188) 148 z151.toNatClampNeg y58_3) (Int32.ofInt 1) z70 hI202 (fr_sI rfl (fr_sL rfl hFc58)) (in_w 0 1 (in_c 1 rfl) rfl) (in_w 0 159 i62 rfl) (in_w 0 400 i70 rfl) n205 n205a n205b n205c))
      refine g_iload_n 51 (gd rfl) rfl rfl ?_
      refine g_if_eq 54 333 (gd rfl) rfl rfl (fun c51 => ?_) (fun c51 => ?_)
      · skip
        have i51 := z_eq 0 0 c51 j50_2 rfl
        have n333 : CHE sc50 (x1).toInt := by exact che_e hI q_0 (by (first | have a0 := oa4 h1 ro_109_20 ro_109_19 i51 | ((first | have a0 := in_u h1 | (have a0 := h1; unfold In at a0)); (first | have a1 := in_u ro_109_20 | (have a1 := ro_109_20; unfold In at a1)); (first | have a2 := in_u ro_109_19 | (have a2 := ro_109_19; unfold In at a2)); (first | have a3 := in_u i51 | (have a3 := i51; unfold In at a3)))); omega) (by (first | have a0 := oa4 h1 ro_109_20 ro_109_19 i51 | ((first | have a0 := in_u h1 | (have a0 := h1; unfold In at a0)); (first | have a1 := in_u ro_109_20 | (have a1 := ro_109_20; unfold In at a1)); (first | have a2 := in_u ro_109_19 | (have a2 := ro_109_19; unfold In at a2)); (first | have a3 := in_u i51 | (have a3 := i51; unfold In at a3)))); omega) ⟨hFc50.1 112 rfl, hFc50.1 113 rfl, hFc50.1 114 rfl, hFc50.1 115 rfl, hFc50.1 116 rfl, hFc50.2.1 147 rfl, hFc50.2.2.1 109 19 rfl, hFc50.2.2.1 109 20 rfl⟩ ⟨g50_0, Nat.le_refl _, fun z => absurd rfl z, fun _ => g50_1 c51⟩
        exact g_return (gd rfl) rfl (hP _ _ ⟨sc50, hIc50, hFc50, rfl, rfl, n333⟩)
      · skip
        have i51 := z_ne 1 1 c51 j50_2 rfl
        refine g_iconst 0 55 (gd rfl) rfl rfl ?_
        refine g_istore_n 56 (gd rfl) rfl (Nat.le_of_ble_eq_true rfl) ?_
        refine g_iconst 0 57 (gd rfl) rfl rfl ?_
        refine g_istore_n 58 (gd rfl) rfl (Nat.le_of_ble_eq_true rfl) ?_
        have n58 : WK s (x1).toInt (mq s (x1).toInt sc50) sc50 ((Int32.ofInt 0)).toInt ((Int32.ofInt 0)).toNatClampNeg := by first | exact wk_0 g50_0 | (rw [show (z324).toNatClampNeg = y58_3.toNatClampNeg + 1 from (by show z324.toInt.toNat = y58_3.toInt.toNat + 1; (first | have a0 := oa5 h1 ro_109_20 ro_109_19 i51 ((in_c 0 rfl)) | ((first | have a0 := in_u h1 | (have a0 := h1; unfold In at a0)); (first | have a1 := in_u ro_109_20 | (have a1 := ro_109_20; unfold In at a1)); (first | have a2 := in_u ro_109_19 | (have a2 := ro_109_19; unfold In at a2)); (first | have a3 := in_u i51 | (have a3 := i51; unfold In at a3)); (first | have a4 := in_u ((in_c 0 rfl)) | (have a4 := (in_c 0 rfl); unfold In at a4)))); (first | exact zt_s (by omega) (by omega) | omega))]; exact g324_0)
        have n58a : y50_2.toInt = 1 := by first | exact g58_1 | (have hj := j50_2; unfold In at hj; have hc := c51; omega)
        exact gg_w (by first | exact Nat.le_add_right _ _ | exact gw2 | exact gw3 | exact gwe rfl | exact gwf rfl | exact gwg rfl | exact gwh rfl | omega) (gg_f (gf_cons rfl (gf_cons rfl (gf_cons rfl (gf_cons rfl gf_nil)))) (ct58 161 sc50 (Int32.ofInt 0) (Int32.ofInt 0) hIc50 hFc50 (in_w 0 1 (in_c 0 rfl) rfl) (in_w 0 160 (in_c 0 rfl) rfl) n58 n58a (m_in 161 (in_w 0 160 (in_c 0 rfl) rfl) rfl)))
  have ct2 : ∀ (k2 : Nat) (sc2 : GS) (y2_2 : Int32), Inv sc2 → Fr fm_356 s sc2 → (In y2_2 0 32) → (∀ k : Nat, (k : Int) < (y2_2).toInt → (sc2.1 148 k).toInt < 0 ∧ (sc2.2.1 149 k).toInt = 9000000000000000) → 32 - (y2_2).toInt < (k2 : Int) → GG Z (d - 1) 356 post (gx xp) (2812960000879052 + k2 * 900) 2 (fun j => xlook j [(0, .ref (A 109)), (1, .int x1), (2, .int y2_2)]) [] (WW Z A sc2 ++ ex) 0 0 := by
    intro k2
    induction k2 with
    | zero => intro sc2 y2_2 hIc2 hFc2 j2_2 g2_0 mm2; exact m_no mm2 j2_2 rfl
    | succ k2 ih2 =>
      intro sc2 y2_2 hIc2 hFc2 j2_2 g2_0 mm2
      refine gg_w (M := 2812960000879052 + k2 * 900 + 900) gws ?_
      refine g_iload_n 3 (gd rfl) rfl rfl ?_
      refine g_aload_n 4 (gd rfl) rfl rfl ?_
      refine g_getI 7 (gd rfl) rfl rfl rfl (fun z4 e4 => ?_)
      have q4 : u_109_20 = z4 := (fr_F e_109_20 hFc2 rfl).trans e4.symm
      subst q4
      refine g_cmp_ge 10 32 (gd rfl) rfl rfl (fun c7 => ?_) (fun c7 => ?_)
      · skip
        refine g_aload_n 33 (gd rfl) rfl rfl ?_
        refine g_getA (q2 := 149) 36 (gd rfl) rfl rfl rfl rfl ?_
        refine g_iload_n 37 (gd rfl) rfl rfl ?_
        refine g_lconst 0 38 (gd rfl) rfl rfl ?_
        refine g_lastore 39 (gd rfl) rfl (n := 34) rfl (in_ix h1 rfl) ?_
        have hI38 := inv_sL (q := 149) (j := x1.toNatClampNeg) (x := (Int64.ofInt 0)) hIc2 rfl (l_rng (Int64.ofInt 0))
        refine g_aload_n 40 (gd rfl) rfl rfl ?_
        refine g_getA (q2 := 148) 43 (gd rfl) rfl rfl rfl rfl ?_
        refine g_iload_n 44 (gd rfl) rfl rfl ?_
        refine g_sipush 1000 47 (gd rfl) rfl rfl ?_
        refine g_iastore 48 (gd rfl) rfl (n := 34) rfl (in_ix h1 rfl) ?_
        have hI47 := inv_sI (q := 148) (j := x1.toNatClampNeg) hI38 rfl (in_w (-1) 1000 (in_c 1000 rfl) rfl)
        refine g_iconst 1 49 (gd rfl) rfl rfl ?_
        refine g_istore_n 50 (gd rfl) rfl (Nat.le_of_ble_eq_true rfl) ?_
        have n50 : CI s (x1).toInt (sI (sL sc2 149 x1.toNatClampNeg (Int64.ofInt 0)) 148 x1.toNatClampNeg (Int32.ofInt 1000)) := by first | exact g58_0.1 | exact ci_0 hI q_0 h1 q_1 ⟨hFc2.1 112 rfl, hFc2.1 113 rfl, hFc2.1 114 rfl, hFc2.1 115 rfl, hFc2.1 116 rfl, hFc2.2.1 147 rfl, hFc2.2.2.1 109 19 rfl, hFc2.2.2.1 109 20 rfl⟩ (fun k hk => g2_0 k (by rw [← e_109_20] at hk; (first | have a0 := oa5 h1 ro_109_20 ro_109_19 j2_2 ((in_c 1 rfl)) | ((first | have a0 := in_u h1 | (have a0 := h1; unfold In at a0)); (first | have a1 := in_u ro_109_20 | (have a1 := ro_109_20; unfold In at a1)); (first | have a2 := in_u ro_109_19 | (have a2 := ro_109_19; unfold In at a2)); (first | have a3 := in_u j2_2 | (have a3 := j2_2; unfold In at a3)); (first | have a4 := in_u ((in_c 1 rfl)) | (have a4 := (in_c 1 rfl); unfold In at a4)))); omega))
        have n50a : ((Int32.ofInt 1)).toInt = 0 → CLQ s (sI (sL sc2 149 x1.toNatClampNeg (Int64.ofInt 0)) 148 x1.toNatClampNeg (Int32.ofInt 1000)) 160 := by exact fun h => absurd h (by decide)
        have m50 : 2 * mq s (x1).toInt (sI (sL sc2 149 x1.toNatClampNeg (Int64.ofInt 0)) 148 x1.toNatClampNeg (Int32.ofInt 1000)) + ((Int32.ofInt 1)).toInt.toNat < 6400000002 := by have hm := ci_m n50; have h1 : (Int32.ofInt 1).toInt.toNat = 1 := rfl; omega
        exact gg_w (by first | exact Nat.le_add_right _ _ | exact gw2 | exact gw3 | exact gwe rfl | exact gwf rfl | exact gwg rfl | exact gwh rfl | omega) (gg_f (gf_cons rfl (gf_cons rfl (gf_cons rfl gf_nil))) (ct50 (6400000002) (sI (sL sc2 149 x1.toNatClampNeg (Int64.ofInt 0)) 148 x1.toNatClampNeg (Int32.ofInt 1000)) (Int32.ofInt 1) hI47 (fr_sI rfl (fr_sL rfl hFc2)) (in_w 0 1 (in_c 1 rfl) rfl) n50 n50a m50))
      · skip
        have i7 := r_lt1 0 31 c7 j2_2 ro_109_20 rfl
        have i7a := r_lt2 1 32 c7 j2_2 ro_109_20 rfl
        refine g_aload_n 11 (gd rfl) rfl rfl ?_
        refine g_getA (q2 := 149) 14 (gd rfl) rfl rfl rfl rfl ?_
        refine g_iload_n 15 (gd rfl) rfl rfl ?_
        refine g_ldc2_w 9000000000000000 18 (gd rfl) rfl rfl ?_
        refine g_lastore 19 (gd rfl) rfl (n := 34) rfl (in_ix i7 rfl) ?_
        have hI18 := inv_sL (q := 149) (j := y2_2.toNatClampNeg) (x := (Int64.ofInt 9000000000000000)) hIc2 rfl (l_rng (Int64.ofInt 9000000000000000))
        refine g_aload_n 20 (gd rfl) rfl rfl ?_
        refine g_getA (q2 := 148) 23 (gd rfl) rfl rfl rfl rfl ?_
        refine g_iload_n 24 (gd rfl) rfl rfl ?_
        refine g_iconst (-1) 25 (gd rfl) rfl rfl ?_
        refine g_iastore 26 (gd rfl) rfl (n := 34) rfl (in_ix i7 rfl) ?_
        have hI25 := inv_sI (q := 148) (j := y2_2.toNatClampNeg) hI18 rfl (in_w (-1) 1000 (in_c (-1) rfl) rfl)
        refine g_iinc 29 (gd rfl) rfl rfl (Nat.le_of_ble_eq_true rfl) (fun z26 e26 => ?_)
        have i26 := in_add 1 32 e26 i7 (in_c 1 rfl) rfl rfl
        refine g_goto 2 (gd rfl) rfl ?_
        have n2 : ∀ k : Nat, (k : Int) < (z26).toInt → ((sI (sL sc2 149 y2_2.toNatClampNeg (Int64.ofInt 9000000000000000)) 148 y2_2.toNatClampNeg (Int32.ofInt (-1))).1 148 k).toInt < 0 ∧ ((sI (sL sc2 149 y2_2.toNatClampNeg (Int64.ofInt 9000000000000000)) 148 y2_2.toNatClampNeg (Int32.ofInt (-1))).2.1 149 k).toInt = 9000000000000000 := by first | (intro k hk; exfalso; have h0 : (Int32.ofInt 0).toInt = 0 := rfl; omega) | (intro k hk; have e2 : y2_2.toNatClampNeg = y2_2.toInt.toNat := rfl; rw [sI_q, show ((sI (sL sc2 149 y2_2.toNatClampNeg (Int64.ofInt 9000000000000000)) 148 y2_2.toNatClampNeg (Int32.ofInt (-1)))).2.1 149 = vp_updL (sc2.2.1 149) y2_2.toNatClampNeg (Int64.ofInt 9000000000000000) from (by simp [sI, sL])]; by_cases c : k = y2_2.toNatClampNeg; (rw [c, ul_eq]; unfold upd; rw [if_pos rfl]; exact ⟨by decide, by have hl : InL (Int64.ofInt 9000000000000000) 9000000000000000 9000000000000000 := l_c 9000000000000000 rfl; exact Int.le_antisymm hl.2 hl.1⟩); (rw [ul_ne c]; unfold upd; rw [if_neg c]; exact g2_0 k (by (first | have a0 := oa5 h1 i7a ro_109_19 i7 i26 | ((first | have a0 := in_u h1 | (have a0 := h1; unfold In at a0)); (first | have a1 := in_u i7a | (have a1 := i7a; unfold In at a1)); (first | have a2 := in_u ro_109_19 | (have a2 := ro_109_19; unfold In at a2)); (first | have a3 := in_u i7 | (have a3 := i7; unfold In at a3)); (first | have a4 := in_u i26 | (have a4 := i26; unfold In at a4)))); have a5 := t_add e26 i7 (in_c 1 rfl) rfl; (first | have a6 := in_u ((in_c 1 rfl)) | (have a6 := (in_c 1 rfl); unfold In at a6)); omega)))
        exact gg_w (by first | exact Nat.le_add_right _ _ | exact gw2 | exact gw3 | exact gwe rfl | exact gwf rfl | exact gwg rfl | exact gwh rfl | omega) (gg_f (gf_cons rfl (gf_cons rfl (gf_cons rfl gf_nil))) (ih2 (sI (sL sc2 149 y2_2.toNatClampNeg (Int64.ofInt 9000000000000000)) 148 y2_2.toNatClampNeg (Int32.ofInt (-1))) z26 hI25 (fr_sI rfl (fr_sL rfl hFc2)) (in_w 0 32 i26 rfl) n2 (m_up mm2 (t_add e26 i7 (in_c 1 rfl) rfl) (in_w 1 1 (in_c 1 rfl) rfl))))
  refine g_enter2 (k := 356) (N := 2812960000909652) (by first | exact dq1 hd rfl | exact dq0 hd rfl | exact dq2 hd rfl | exact dq3 hd rfl | omega) rfl (Nat.le_of_ble_eq_true rfl) ?_
  refine g_iconst 0 1 (gd rfl) rfl rfl ?_
  refine g_istore_n 2 (gd rfl) rfl (Nat.le_of_ble_eq_true rfl) ?_
  have n2 : ∀ k : Nat, (k : Int) < ((Int32.ofInt 0)).toInt → (s.1 148 k).toInt < 0 ∧ (s.2.1 149 k).toInt = 9000000000000000 := by first | (intro k hk; exfalso; have h0 : (Int32.ofInt 0).toInt = 0 := rfl; omega) | (intro k hk; have e2 : y2_2.toNatClampNeg = y2_2.toInt.toNat := rfl; rw [sI_q, show (s).2.1 149 = vp_updL (sc2.2.1 149) y2_2.toNatClampNeg (Int64.ofInt 9000000000000000) from (by simp [sI, sL])]; by_cases c : k = y2_2.toNatClampNeg; (rw [c, ul_eq]; unfold upd; rw [if_pos rfl]; exact ⟨by decide, by have hl : InL (Int64.ofInt 9000000000000000) 9000000000000000 9000000000000000 := l_c 9000000000000000 rfl; exact Int.le_antisymm hl.2 hl.1⟩); (rw [ul_ne c]; unfold upd; rw [if_neg c]; exact g2_0 k (by (first | have a0 := oa4 ro_109_20 ro_109_19 h1 ((in_c 0 rfl)) | ((first | have a0 := in_u ro_109_20 | (have a0 := ro_109_20; unfold In at a0)); (first | have a1 := in_u ro_109_19 | (have a1 := ro_109_19; unfold In at a1)); (first | have a2 := in_u h1 | (have a2 := h1; unfold In at a2)); (first | have a3 := in_u ((in_c 0 rfl)) | (have a3 := (in_c 0 rfl); unfold In at a3)))); omega)))
  exact gg_w (by first | exact Nat.le_of_ble_eq_true rfl | omega) (gg_f (gf_cons rfl (gf_cons rfl (gf_cons rfl gf_nil))) (ct2 33 s (Int32.ofInt 0) hI fr_rf (in_w 0 32 (in_c 0 rfl) rfl) n2 (m_in 33 (in_w 0 32 (in_c 0 rfl) rfl) rfl)))

def fm_365 : FM := ([160], [], [(109, 0)], [])
/-- GraphHouseModel.span -/
theorem k_365 {Z : AmZ} {A : Nat → Nat} {s : GS} {ex : va_W} {d : Nat} {X : AmX} {x1 : Int32} (hd : 4 ≤ d) (hI : Inv s)  : GC Z d 365 [.ref (A 109), .int x1] (WW Z A s ++ ex) 0 0 (fun v u => ∃ t : GS, Inv t ∧ Fr fm_365 s t ∧ ∃ z : Int32, v = some (.int z) ∧ u = WW Z A t ++ ex ∧ In z 0 1) X := by
  intro post xp hP hX
  obtain ⟨u_109_19, e_109_19⟩ : ∃ w, w = s.2.2.1 109 19 := ⟨_, rfl⟩
  have ro_109_19 := inv_F hI 0 160 rfl e_109_19
  obtain ⟨u_109_20, e_109_20⟩ : ∃ w, w = s.2.2.1 109 20 := ⟨_, rfl⟩
  have ro_109_20 := inv_F hI 0 32 rfl e_109_20
  have ct62 : ∀ (k62 : Nat) (sc62 : GS) (y62_2 : Int64) (y62_4 : Int32), Inv sc62 → Fr fm_365 s sc62 → (In x1 0 159) → (In y62_4 0 32) → 32 - (y62_4).toInt < (k62 : Int) → GG Z (d - 1) 365 post (gx xp) (1 + k62 * 293563) 62 (fun j => xlook j [(0, .ref (A 109)), (1, .int x1), (2, .long y62_2), (4, .int y62_4)]) [] (WW Z A sc62 ++ ex) 0 0 := by
    intro k62
    induction k62 with
    | zero => intro sc62 y62_2 y62_4 hIc62 hFc62 j62_1 j62_4 mm62; exact m_no mm62 j62_4 rfl
    | succ k62 ih62 =>
      intro sc62 y62_2 y62_4 hIc62 hFc62 j62_1 j62_4 mm62
      refine gg_w (M := 1 + k62 * 293563 + 293563) gws ?_
      have ct74 : ∀ (k74 : Nat) (sc74 : GS) (y74_5 : Int32), Inv sc74 → Fr fm_365 s sc74 → (In y62_4 0 31) → (In y74_5 0 160) → 160 - (y74_5).toInt < (k74 : Int) → GG Z (d - 1) 365 post (gx xp) (1 + k62 * 293563 + 1 + k74 * 1801) 74 (fun j => xlook j [(0, .ref (A 109)), (1, .int x1), (2, .long y62_2), (4, .int y62_4), (5, .int y74_5)]) [] (WW Z A sc74 ++ ex) 0 0 := by
        intro k74
        induction k74 with
        | zero => intro sc74 y74_5 hIc74 hFc74 j74_4 j74_5 mm74; exact m_no mm74 j74_5 rfl
        | succ k74 ih74 =>
          intro sc74 y74_5 hIc74 hFc74 j74_4 j74_5 mm74
          refine gg_w (M := 1 + k62 * 293563 + 1 + k74 * 1801 + 1801) gws ?_
          have ct201 : ∀ (sc201 : GS) , Inv sc201 → Fr fm_365 s sc201 → (In y74_5 0 159) → GG Z (d - 1) 365 post (gx xp) (1 + k62 * 293563 + 1 + k74 * 1801 + 901) 201 (fun j => xlook j [(0, .ref (A 109)), (1, .int x1), (2, .long y62_2), (4, .int y62_4), (5, .int y74_5)]) [] (WW Z A sc201 ++ ex) 0 0 := by
            intro sc201  hIc201 hFc201 j201_5
            refine g_iinc 204 (gd rfl) rfl rfl (Nat.le_of_ble_eq_true rfl) (fun z201 e201 => ?_)
            have i201 := in_add 1 160 e201 j201_5 (in_c 1 rfl) rfl rfl
            refine g_goto 74 (gd rfl) rfl ?_
            exact gg_w (by first | exact Nat.le_add_right _ _ | exact gw2 | exact gw3 | exact gwe rfl | exact gwf rfl | exact gwg rfl | exact gwh rfl | omega) (gg_f (gf_cons rfl (gf_cons rfl (gf_cons rfl (gf_cons rfl (gf_cons rfl gf_nil))))) (ih74 sc201 z201 hIc201 hFc201 (in_w 0 31 j74_4 rfl) (in_w 0 160 i201 rfl) (m_up mm74 (t_add e201 j201_5 (in_c 1 rfl) rfl) (in_w 1 1 (in_c 1 rfl) rfl))))
          refine g_iload 76 (gd rfl) rfl rfl ?_
          refine g_sipush 160 79 (gd rfl) rfl rfl ?_
          refine g_cmp_ge 82 207 (gd rfl) rfl rfl (fun c79 => ?_) (fun c79 => ?_)
          · skip
            have i79 := r_le2 160 160 c79 (in_c 160 rfl) j74_5 rfl
            refine g_iinc 210 (gd rfl) rfl rfl (Nat.le_of_ble_eq_true rfl) (fun z207 e207 => ?_)
            have i207 := in_add 1 32 e207 j74_4 (in_c 1 rfl) rfl rfl
            refine g_goto 62 (gd rfl) rfl ?_
            exact gg_w (by first | exact Nat.le_add_right _ _ | exact gw2 | exact gw3 | exact gwe rfl | exact gwf rfl | exact gwg rfl | exact gwh rfl | omega) (gg_f (gf_cons rfl (gf_cons rfl (gf_cons rfl (gf_cons rfl gf_nil)))) (ih62 sc74 y62_2 z207 hIc74 hFc74 (in_w 0 159 j62_1 rfl) (in_w 0 32 i207 rfl) (m_up mm62 (t_add e207 j74_4 (in_c 1 rfl) rfl) (in_w 1 1 (in_c 1 rfl) rfl))))
          · skip
            have i79 := r_lt1 0 159 c79 j74_5 (in_c 160 rfl) rfl
            refine g_aload_n 83 (gd rfl) rfl rfl ?_
            refine g_iload 85 (gd rfl) rfl rfl ?_
            refine g_callv (X := _) (As := [.int y74_5]) (r := []) (b := A 109) (q := 109) 88 (gd rfl) rfl rfl rfl rfl rfl (ww_o rfl) (Nat.le_of_ble_eq_true rfl) (mc := 0) (ms := 0) (Nat.zero_le _) (Nat.zero_le _) (P := fun v u => _) ?_ (fun e u h => h) (fun v u h => h)
            intro po85 xx85 hp85 hx85
            refine g_enter2 (k := 288) (N := 300) (by first | exact dq1 hd rfl | exact dq0 hd rfl | exact dq2 hd rfl | exact dq3 hd rfl | omega) rfl (Nat.le_of_ble_eq_true rfl) ?_
            refine g_aload_n 1 (gd rfl) rfl rfl ?_
            refine g_getA (q2 := 112) 4 (gd rfl) rfl rfl rfl rfl ?_
            refine g_aload_n 5 (gd rfl) rfl rfl ?_
            refine g_getI 8 (gd rfl) rfl rfl rfl (fun z85x5 e85x5 => ?_)
            have q85x5 : u_109_19 = z85x5 := (fr_F e_109_19 hFc74 rfl).trans e85x5.symm
            subst q85x5
            refine g_iload_n 9 (gd rfl) rfl rfl ?_
            refine g_iadd 10 (gd rfl) rfl (fun z85x9 e85x9 => ?_)
            have i85x9 := in_add 0 319 e85x9 ro_109_19 i79 rfl rfl
            refine g_baload 11 (gd rfl) rfl (n := 480) rfl (in_ix i85x9 rfl) (fun z85x10 e85x10 => ?_)
            have i85x10 := inv_I hIc74 (n := 480) (t := 3) 0 1 rfl (in_ix i85x9 rfl) rfl e85x10
            refine g_if_eq 14 43 (gd rfl) rfl rfl (fun c85x11 => ?_) (fun c85x11 => ?_)
            · skip
              have i85x11 := z_eq 0 0 c85x11 i85x10 rfl
              refine g_iconst 0 44 (gd rfl) rfl rfl ?_
              refine g_ireturn (gd rfl) rfl (nb01 (in_w 0 1 (in_c 0 rfl) rfl)) (hp85 _ _ ?_)
              show GG _ _ _ _ _ _ _ _ [.int (Int32.ofInt 0)] _ _ _
              refine g_if_eq 91 201 (gd rfl) rfl rfl (fun c88 => ?_) (fun c88 => ?_)
              · skip
                exact gg_w (by first | exact Nat.le_add_right _ _ | exact gw2 | exact gw3 | exact gwe rfl | exact gwf rfl | exact gwg rfl | exact gwh rfl | omega) (gg_f (gf_cons rfl (gf_cons rfl (gf_cons rfl (gf_cons rfl (gf_cons rfl gf_nil))))) (ct201 sc74  hIc74 hFc74 (in_w 0 159 i79 rfl)))
              · skip
                exact zn_ne c88 (in_c 0 rfl) rfl
            · skip
              have i85x11 := z_ne 1 1 c85x11 i85x10 rfl
              refine g_aload_n 15 (gd rfl) rfl rfl ?_
              refine g_getA (q2 := 113) 18 (gd rfl) rfl rfl rfl rfl ?_
              refine g_aload_n 19 (gd rfl) rfl rfl ?_
              refine g_getI 22 (gd rfl) rfl rfl rfl (fun z85x19 e85x19 => ?_)
              have q85x19 : u_109_19 = z85x19 := (fr_F e_109_19 hFc74 rfl).trans e85x19.symm
              subst q85x19
              refine g_iload_n 23 (gd rfl) rfl rfl ?_
              refine g_iadd 24 (gd rfl) rfl (fun z85x23 e85x23 => ?_)
              have i85x23 := in_add 0 319 e85x23 ro_109_19 i79 rfl rfl
              refine g_iaload 25 (gd rfl) rfl (n := 480) rfl (in_ix i85x23 rfl) (fun z85x24 e85x24 => ?_)
              have i85x24 := inv_I hIc74 (n := 480) (t := 0) 0 31 rfl (in_ix i85x23 rfl) rfl e85x24
              refine g_aload_n 26 (gd rfl) rfl rfl ?_
              refine g_getA (q2 := 114) 29 (gd rfl) rfl rfl rfl rfl ?_
              refine g_aload_n 30 (gd rfl) rfl rfl ?_
              refine g_getI 33 (gd rfl) rfl rfl rfl (fun z85x30 e85x30 => ?_)
              have q85x30 : u_109_19 = z85x30 := (fr_F e_109_19 hFc74 rfl).trans e85x30.symm
              subst q85x30
              refine g_iload_n 34 (gd rfl) rfl rfl ?_
              refine g_iadd 35 (gd rfl) rfl (fun z85x34 e85x34 => ?_)
              have i85x34 := in_add 0 319 e85x34 ro_109_19 i79 rfl rfl
              refine g_iaload 36 (gd rfl) rfl (n := 480) rfl (in_ix i85x34 rfl) (fun z85x35 e85x35 => ?_)
              have i85x35 := inv_I hIc74 (n := 480) (t := 0) 0 31 rfl (in_ix i85x34 rfl) rfl e85x35
              refine g_cmp_eq 39 43 (gd rfl) rfl rfl (fun c85x36 => ?_) (fun c85x36 => ?_)
              · skip
                refine g_iconst 0 44 (gd rfl) rfl rfl ?_
                refine g_ireturn (gd rfl) rfl (nb01 (in_w 0 1 (in_c 0 rfl) rfl)) (hp85 _ _ ?_)
                show GG _ _ _ _ _ _ _ _ [.int (Int32.ofInt 0)] _ _ _
                refine g_if_eq 91 201 (gd rfl) rfl rfl (fun c88 => ?_) (fun c88 => ?_)
                · skip
                  exact gg_w (by first | exact Nat.le_add_right _ _ | exact gw2 | exact gw3 | exact gwe rfl | exact gwf rfl | exact gwg rfl | exact gwh rfl | omega) (gg_f (gf_cons rfl (gf_cons rfl (gf_cons rfl (gf_cons rfl (gf_cons rfl gf_nil))))) (ct201 sc74  hIc74 hFc74 (in_w 0 159 i79 rfl)))
                · skip
                  exact zn_ne c88 (in_c 0 rfl) rfl
              · skip
                refine g_iconst 1 40 (gd rfl) rfl rfl ?_
                refine g_goto 44 (gd rfl) rfl ?_
                refine g_ireturn (gd rfl) rfl (nb01 (in_w 0 1 (in_c 1 rfl) rfl)) (hp85 _ _ ?_)
                show GG _ _ _ _ _ _ _ _ [.int (Int32.ofInt 1)] _ _ _
                refine g_if_eq 91 201 (gd rfl) rfl rfl (fun c88 => ?_) (fun c88 => ?_)
                · skip
                  exact zn_eq c88 (in_c 1 rfl) rfl
                · skip
                  refine g_aload_n 92 (gd rfl) rfl rfl ?_
                  refine g_aload_n 93 (gd rfl) rfl rfl ?_
                  refine g_getI 96 (gd rfl) rfl rfl rfl (fun z93 e93 => ?_)
                  have q93 : u_109_19 = z93 := (fr_F e_109_19 hFc74 rfl).trans e93.symm
                  subst q93
                  refine g_iload 98 (gd rfl) rfl rfl ?_
                  refine g_iadd 99 (gd rfl) rfl (fun z98 e98 => ?_)
                  have i98 := in_add 0 319 e98 ro_109_19 i79 rfl rfl
                  refine g_iload 101 (gd rfl) rfl rfl ?_
                  refine g_callv (X := _) (As := [.int z98, .int y74_5]) (r := []) (b := A 109) (q := 109) 104 (gd rfl) rfl rfl rfl rfl rfl (ww_o rfl) (Nat.le_of_ble_eq_true rfl) (mc := 0) (ms := 0) (Nat.zero_le _) (Nat.zero_le _) (P := fun v u => _) ?_ (fun e u h => h) (fun v u h => h)
                  intro po101 xx101 hp101 hx101
                  refine g_enter2 (k := 366) (N := 300) (by first | exact dq1 hd rfl | exact dq0 hd rfl | exact dq2 hd rfl | exact dq3 hd rfl | omega) rfl (Nat.le_of_ble_eq_true rfl) ?_
                  refine g_ldc2_w 1000 3 (gd rfl) rfl rfl ?_
                  refine g_aload_n 4 (gd rfl) rfl rfl ?_
                  refine g_getA (q2 := 115) 7 (gd rfl) rfl rfl rfl rfl ?_
                  refine g_iload_n 8 (gd rfl) rfl rfl ?_
                  refine g_iaload 9 (gd rfl) rfl (n := 480) rfl (in_ix i98 rfl) (fun z101x8 e101x8 => ?_)
                  have i101x8 := inv_I hIc74 (n := 480) (t := 0) (-1000000) 1000000 rfl (in_ix i98 rfl) rfl e101x8
                  refine g_i2l 10 (gd rfl) rfl (fun z101x9 e101x9 => ?_)
                  have i101x9 := l_i e101x9 i101x8
                  refine g_ldc2_w 1000000 13 (gd rfl) rfl rfl ?_
                  refine g_ladd 14 (gd rfl) rfl (fun z101x13 e101x13 => ?_)
                  have i101x13 := l_add 0 2000000 e101x13 i101x9 (l_c 1000000 rfl) rfl
                  refine g_lmul 15 (gd rfl) rfl (fun z101x14 e101x14 => ?_)
                  have i101x14 := l_mulc 1000 0 2000000000 (Or.inl e101x14) i101x13 rfl
                  refine g_iload_n 16 (gd rfl) rfl rfl ?_
                  refine g_i2l 17 (gd rfl) rfl (fun z101x16 e101x16 => ?_)
                  have i101x16 := l_i e101x16 i79
                  refine g_ladd 18 (gd rfl) rfl (fun z101x17 e101x17 => ?_)
                  have i101x17 := l_add 0 2000000159 e101x17 i101x14 i101x16 rfl
                  refine g_lreturn (gd rfl) rfl (hp101 _ _ ?_)
                  show GG _ _ _ _ _ _ _ _ [.long z101x17] _ _ _
                  refine g_lload_n 105 (gd rfl) rfl rfl ?_
                  refine g_lcmp 106 (gd rfl) rfl (fun z105 e105 => ?_)
                  have i105 := lc_in e105
                  refine g_if_ge 109 201 (gd rfl) rfl rfl (fun c106 => ?_) (fun c106 => ?_)
                  · skip
                    have i106 := z_ge 0 1 c106 i105 rfl
                    have c106a := lc_ge e105 c106
                    have i106a := lr_le1 (-9223372036854775808) 2000000159 c106a (l_rng y62_2) i101x17 rfl
                    exact gg_w (by first | exact Nat.le_add_right _ _ | exact gw2 | exact gw3 | exact gwe rfl | exact gwf rfl | exact gwg rfl | exact gwh rfl | omega) (gg_f (gf_cons rfl (gf_cons rfl (gf_cons rfl (gf_cons rfl (gf_cons rfl gf_nil))))) (ct201 sc74  hIc74 hFc74 (in_w 0 159 i79 rfl)))
                  · skip
                    have i106 := z_lt (-1) (-1) c106 i105 rfl
                    have c106a := lc_lt e105 c106
                    have i106a := lr_lt2 1 9223372036854775807 c106a i101x17 (l_rng y62_2) rfl
                    refine g_aload_n 110 (gd rfl) rfl rfl ?_
                    refine g_getA (q2 := 160) 113 (gd rfl) rfl rfl rfl rfl ?_
                    refine g_aload_n 114 (gd rfl) rfl rfl ?_
                    refine g_getA (q2 := 113) 117 (gd rfl) rfl rfl rfl rfl ?_
                    refine g_aload_n 118 (gd rfl) rfl rfl ?_
                    refine g_getI 121 (gd rfl) rfl rfl rfl (fun z118 e118 => ?_)
                    have q118 : u_109_19 = z118 := (fr_F e_109_19 hFc74 rfl).trans e118.symm
                    subst q118
                    refine g_iload 123 (gd rfl) rfl rfl ?_
                    refine g_iadd 124 (gd rfl) rfl (fun z123 e123 => ?_)
                    have i123 := in_add 0 319 e123 ro_109_19 i79 rfl rfl
                    refine g_iaload 125 (gd rfl) rfl (n := 480) rfl (in_ix i123 rfl) (fun z124 e124 => ?_)
                    have i124 := inv_I hIc74 (n := 480) (t := 0) 0 31 rfl (in_ix i123 rfl) rfl e124
                    refine g_iaload 126 (gd rfl) rfl (n := 32) rfl (in_ix i124 rfl) (fun z125 e125 => ?_)
                    have i125 := inv_I hIc74 (n := 32) (t := 0) 0 31 rfl (in_ix i124 rfl) rfl e125
                    refine g_istore 128 (gd rfl) rfl (Nat.le_of_ble_eq_true rfl) ?_
                    refine g_aload_n 129 (gd rfl) rfl rfl ?_
                    refine g_getA (q2 := 160) 132 (gd rfl) rfl rfl rfl rfl ?_
                    refine g_aload_n 133 (gd rfl) rfl rfl ?_
                    refine g_getA (q2 := 114) 136 (gd rfl) rfl rfl rfl rfl ?_
                    refine g_aload_n 137 (gd rfl) rfl rfl ?_
                    refine g_getI 140 (gd rfl) rfl rfl rfl (fun z137 e137 => ?_)
                    have q137 : u_109_19 = z137 := (fr_F e_109_19 hFc74 rfl).trans e137.symm
                    subst q137
                    refine g_iload 142 (gd rfl) rfl rfl ?_
                    refine g_iadd 143 (gd rfl) rfl (fun z142 e142 => ?_)
                    have i142 := in_add 0 319 e142 ro_109_19 i79 rfl rfl
                    refine g_iaload 144 (gd rfl) rfl (n := 480) rfl (in_ix i142 rfl) (fun z143 e143 => ?_)
                    have i143 := inv_I hIc74 (n := 480) (t := 0) 0 31 rfl (in_ix i142 rfl) rfl e143
                    refine g_iaload 145 (gd rfl) rfl (n := 32) rfl (in_ix i143 rfl) (fun z144 e144 => ?_)
                    have i144 := inv_I hIc74 (n := 32) (t := 0) 0 31 rfl (in_ix i143 rfl) rfl e144
                    refine g_istore 147 (gd rfl) rfl (Nat.le_of_ble_eq_true rfl) ?_
                    refine g_iload 149 (gd rfl) rfl rfl ?_
                    refine g_iload 151 (gd rfl) rfl rfl ?_
                    refine g_cmp_ge 154 159 (gd rfl) rfl rfl (fun c151 => ?_) (fun c151 => ?_)
                    · skip
                      refine g_iload 161 (gd rfl) rfl rfl ?_
                      refine g_istore 163 (gd rfl) rfl (Nat.le_of_ble_eq_true rfl) ?_
                      refine g_aload_n 164 (gd rfl) rfl rfl ?_
                      refine g_getA (q2 := 160) 167 (gd rfl) rfl rfl rfl rfl ?_
                      refine g_aload_n 168 (gd rfl) rfl rfl ?_
                      refine g_getA (q2 := 113) 171 (gd rfl) rfl rfl rfl rfl ?_
                      refine g_aload_n 172 (gd rfl) rfl rfl ?_
                      refine g_getI 175 (gd rfl) rfl rfl rfl (fun z172 e172 => ?_)
                      have q172 : u_109_19 = z172 := (fr_F e_109_19 hFc74 rfl).trans e172.symm
                      subst q172
                      refine g_iload 177 (gd rfl) rfl rfl ?_
                      refine g_iadd 178 (gd rfl) rfl (fun z177 e177 => ?_)
                      have i177 := in_add 0 319 e177 ro_109_19 i79 rfl rfl
                      refine g_iaload 179 (gd rfl) rfl (n := 480) rfl (in_ix i177 rfl) (fun z178 e178 => ?_)
                      have i178 := inv_I hIc74 (n := 480) (t := 0) 0 31 rfl (in_ix i177 rfl) rfl e178
                      refine g_iload 181 (gd rfl) rfl rfl ?_
                      refine g_iastore 182 (gd rfl) rfl (n := 32) rfl (in_ix i178 rfl) ?_
                      have hI181 := inv_sI (q := 160) (j := z178.toNatClampNeg) hIc74 rfl (in_w 0 31 i144 rfl)
                      refine g_aload_n 183 (gd rfl) rfl rfl ?_
                      refine g_getA (q2 := 160) 186 (gd rfl) rfl rfl rfl rfl ?_
                      refine g_aload_n 187 (gd rfl) rfl rfl ?_
                      refine g_getA (q2 := 114) 190 (gd rfl) rfl rfl rfl rfl ?_
                      refine g_aload_n 191 (gd rfl) rfl rfl ?_
                      refine g_getI 194 (gd rfl) rfl rfl rfl (fun z191 e191 => ?_)
                      have q191 : u_109_19 = z191 := (sI_F (fr_F e_109_19 hFc74 rfl)).trans e191.symm
                      subst q191
                      refine g_iload 196 (gd rfl) rfl rfl ?_
                      refine g_iadd 197 (gd rfl) rfl (fun z196 e196 => ?_)
                      have i196 := in_add 0 319 e196 ro_109_19 i79 rfl rfl
                      refine g_iaload 198 (gd rfl) rfl (n := 480) rfl (in_ix i196 rfl) (fun z197 e197 => ?_)
                      have i197 := inv_I hI181 (n := 480) (t := 0) 0 31 rfl (in_ix i196 rfl) rfl e197
                      refine g_iload 200 (gd rfl) rfl rfl ?_
                      refine g_iastore 201 (gd rfl) rfl (n := 32) rfl (in_ix i197 rfl) ?_
                      have hI200 := inv_sI (q := 160) (j := z197.toNatClampNeg) hI181 rfl (in_w 0 31 i144 rfl)
                      exact gg_w (by first | exact Nat.le_add_right _ _ | exact gw2 | exact gw3 | exact gwe rfl | exact gwf rfl | exact gwg rfl | exact gwh rfl | omega) (gg_f (gf_cons rfl (gf_cons rfl (gf_cons rfl (gf_cons rfl (gf_cons rfl gf_nil))))) (ct201 (sI (sI sc74 160 z178.toNatClampNeg z144) 160 z197.toNatClampNeg z144)  hI200 (fr_sI rfl (fr_sI rfl hFc74)) (in_w 0 159 i79 rfl)))
                    · skip
                      have i151 := r_lt1 0 30 c151 i125 i144 rfl
                      have i151a := r_lt2 1 31 c151 i125 i144 rfl
                      refine g_iload 156 (gd rfl) rfl rfl ?_
                      refine g_goto 161 (gd rfl) rfl ?_
                      refine g_istore 163 (gd rfl) rfl (Nat.le_of_ble_eq_true rfl) ?_
                      refine g_aload_n 164 (gd rfl) rfl rfl ?_
                      refine g_getA (q2 := 160) 167 (gd rfl) rfl rfl rfl rfl ?_
                      refine g_aload_n 168 (gd rfl) rfl rfl ?_
                      refine g_getA (q2 := 113) 171 (gd rfl) rfl rfl rfl rfl ?_
                      refine g_aload_n 172 (gd rfl) rfl rfl ?_
                      refine g_getI 175 (gd rfl) rfl rfl rfl (fun z172 e172 => ?_)
                      have q172 : u_109_19 = z172 := (fr_F e_109_19 hFc74 rfl).trans e172.symm
                      subst q172
                      refine g_iload 177 (gd rfl) rfl rfl ?_
                      refine g_iadd 178 (gd rfl) rfl (fun z177 e177 => ?_)
                      have i177 := in_add 0 319 e177 ro_109_19 i79 rfl rfl
                      refine g_iaload 179 (gd rfl) rfl (n := 480) rfl (in_ix i177 rfl) (fun z178 e178 => ?_)
                      have i178 := inv_I hIc74 (n := 480) (t := 0) 0 31 rfl (in_ix i177 rfl) rfl e178
                      refine g_iload 181 (gd rfl) rfl rfl ?_
                      refine g_iastore 182 (gd rfl) rfl (n := 32) rfl (in_ix i178 rfl) ?_
                      have hI181 := inv_sI (q := 160) (j := z178.toNatClampNeg) hIc74 rfl (in_w 0 31 i151 rfl)
                      refine g_aload_n 183 (gd rfl) rfl rfl ?_
                      refine g_getA (q2 := 160) 186 (gd rfl) rfl rfl rfl rfl ?_
                      refine g_aload_n 187 (gd rfl) rfl rfl ?_
                      refine g_getA (q2 := 114) 190 (gd rfl) rfl rfl rfl rfl ?_
                      refine g_aload_n 191 (gd rfl) rfl rfl ?_
                      refine g_getI 194 (gd rfl) rfl rfl rfl (fun z191 e191 => ?_)
                      have q191 : u_109_19 = z191 := (sI_F (fr_F e_109_19 hFc74 rfl)).trans e191.symm
                      subst q191
                      refine g_iload 196 (gd rfl) rfl rfl ?_
                      refine g_iadd 197 (gd rfl) rfl (fun z196 e196 => ?_)
                      have i196 := in_add 0 319 e196 ro_109_19 i79 rfl rfl
                      refine g_iaload 198 (gd rfl) rfl (n := 480) rfl (in_ix i196 rfl) (fun z197 e197 => ?_)
                      have i197 := inv_I hI181 (n := 480) (t := 0) 0 31 rfl (in_ix i196 rfl) rfl e197
                      refine g_iload 200 (gd rfl) rfl rfl ?_
                      refine g_iastore 201 (gd rfl) rfl (n := 32) rfl (in_ix i197 rfl) ?_
                      have hI200 := inv_sI (q := 160) (j := z197.toNatClampNeg) hI181 rfl (in_w 0 31 i151 rfl)
                      exact gg_w (by first | exact Nat.le_add_right _ _ | exact gw2 | exact gw3 | exact gwe rfl | exact gwf rfl | exact gwg rfl | exact gwh rfl | omega) (gg_f (gf_cons rfl (gf_cons rfl (gf_cons rfl (gf_cons rfl (gf_cons rfl gf_nil))))) (ct201 (sI (sI sc74 160 z178.toNatClampNeg z125) 160 z197.toNatClampNeg z125)  hI200 (fr_sI rfl (fr_sI rfl hFc74)) (in_w 0 159 i79 rfl)))
      refine g_iload 64 (gd rfl) rfl rfl ?_
      refine g_aload_n 65 (gd rfl) rfl rfl ?_
      refine g_getI 68 (gd rfl) rfl rfl rfl (fun z65 e65 => ?_)
      have q65 : u_109_20 = z65 := (fr_F e_109_20 hFc62 rfl).trans e65.symm
      subst q65
      refine g_cmp_ge 71 213 (gd rfl) rfl rfl (fun c68 => ?_) (fun c68 => ?_)
      · skip
        refine g_aload_n 214 (gd rfl) rfl rfl ?_
        refine g_getA (q2 := 160) 217 (gd rfl) rfl rfl rfl rfl ?_
        refine g_aload_n 218 (gd rfl) rfl rfl ?_
        refine g_getA (q2 := 113) 221 (gd rfl) rfl rfl rfl rfl ?_
        refine g_aload_n 222 (gd rfl) rfl rfl ?_
        refine g_getI 225 (gd rfl) rfl rfl rfl (fun z222 e222 => ?_)
        have q222 : u_109_19 = z222 := (fr_F e_109_19 hFc62 rfl).trans e222.symm
        subst q222
        refine g_iload_n 226 (gd rfl) rfl rfl ?_
        refine g_iadd 227 (gd rfl) rfl (fun z226 e226 => ?_)
        have i226 := in_add 0 319 e226 ro_109_19 j62_1 rfl rfl
        refine g_iaload 228 (gd rfl) rfl (n := 480) rfl (in_ix i226 rfl) (fun z227 e227 => ?_)
        have i227 := inv_I hIc62 (n := 480) (t := 0) 0 31 rfl (in_ix i226 rfl) rfl e227
        refine g_iaload 229 (gd rfl) rfl (n := 32) rfl (in_ix i227 rfl) (fun z228 e228 => ?_)
        have i228 := inv_I hIc62 (n := 32) (t := 0) 0 31 rfl (in_ix i227 rfl) rfl e228
        refine g_aload_n 230 (gd rfl) rfl rfl ?_
        refine g_getA (q2 := 160) 233 (gd rfl) rfl rfl rfl rfl ?_
        refine g_aload_n 234 (gd rfl) rfl rfl ?_
        refine g_getA (q2 := 114) 237 (gd rfl) rfl rfl rfl rfl ?_
        refine g_aload_n 238 (gd rfl) rfl rfl ?_
        refine g_getI 241 (gd rfl) rfl rfl rfl (fun z238 e238 => ?_)
        have q238 : u_109_19 = z238 := (fr_F e_109_19 hFc62 rfl).trans e238.symm
        subst q238
        refine g_iload_n 242 (gd rfl) rfl rfl ?_
        refine g_iadd 243 (gd rfl) rfl (fun z242 e242 => ?_)
        have i242 := in_add 0 319 e242 ro_109_19 j62_1 rfl rfl
        refine g_iaload 244 (gd rfl) rfl (n := 480) rfl (in_ix i242 rfl) (fun z243 e243 => ?_)
        have i243 := inv_I hIc62 (n := 480) (t := 0) 0 31 rfl (in_ix i242 rfl) rfl e243
        refine g_iaload 245 (gd rfl) rfl (n := 32) rfl (in_ix i243 rfl) (fun z244 e244 => ?_)
        have i244 := inv_I hIc62 (n := 32) (t := 0) 0 31 rfl (in_ix i243 rfl) rfl e244
        refine g_cmp_eq 248 252 (gd rfl) rfl rfl (fun c245 => ?_) (fun c245 => ?_)
        · skip
          refine g_iconst 0 253 (gd rfl) rfl rfl ?_
          exact g_ireturn (gd rfl) rfl (nb01 (in_w 0 1 (in_c 0 rfl) rfl)) (hP _ _ ⟨sc62, hIc62, hFc62, (Int32.ofInt 0), rfl, rfl, in_w 0 1 (in_c 0 rfl) rfl⟩)
        · skip
          refine g_iconst 1 249 (gd rfl) rfl rfl ?_
          refine g_goto 253 (gd rfl) rfl ?_
          exact g_ireturn (gd rfl) rfl (nb01 (in_w 0 1 (in_c 1 rfl) rfl)) (hP _ _ ⟨sc62, hIc62, hFc62, (Int32.ofInt 1), rfl, rfl, in_w 0 1 (in_c 1 rfl) rfl⟩)
      · skip
        have i68 := r_lt1 0 31 c68 j62_4 ro_109_20 rfl
        have i68a := r_lt2 1 32 c68 j62_4 ro_109_20 rfl
        refine g_iconst 0 72 (gd rfl) rfl rfl ?_
        refine g_istore 74 (gd rfl) rfl (Nat.le_of_ble_eq_true rfl) ?_
        exact gg_w (by first | exact Nat.le_add_right _ _ | exact gw2 | exact gw3 | exact gwe rfl | exact gwf rfl | exact gwg rfl | exact gwh rfl | omega) (gg_f (gf_cons rfl (gf_cons rfl (gf_cons rfl (gf_cons rfl (gf_cons rfl gf_nil))))) (ct74 161 sc62 (Int32.ofInt 0) hIc62 hFc62 (in_w 0 31 i68 rfl) (in_w 0 160 (in_c 0 rfl) rfl) (m_in 161 (in_w 0 160 (in_c 0 rfl) rfl) rfl)))
  have ct26 : ∀ (k26 : Nat) (sc26 : GS) (y26_2 : Int32), Inv sc26 → Fr fm_365 s sc26 → (In x1 0 159) → (In y26_2 0 32) → 32 - (y26_2).toInt < (k26 : Int) → GG Z (d - 1) 365 post (gx xp) (9687581 + k26 * 900) 26 (fun j => xlook j [(0, .ref (A 109)), (1, .int x1), (2, .int y26_2)]) [] (WW Z A sc26 ++ ex) 0 0 := by
    intro k26
    induction k26 with
    | zero => intro sc26 y26_2 hIc26 hFc26 j26_1 j26_2 mm26; exact m_no mm26 j26_2 rfl
    | succ k26 ih26 =>
      intro sc26 y26_2 hIc26 hFc26 j26_1 j26_2 mm26
      refine gg_w (M := 9687581 + k26 * 900 + 900) gws ?_
      refine g_iload_n 27 (gd rfl) rfl rfl ?_
      refine g_aload_n 28 (gd rfl) rfl rfl ?_
      refine g_getI 31 (gd rfl) rfl rfl rfl (fun z28 e28 => ?_)
      have q28 : u_109_20 = z28 := (fr_F e_109_20 hFc26 rfl).trans e28.symm
      subst q28
      refine g_cmp_ge 34 47 (gd rfl) rfl rfl (fun c31 => ?_) (fun c31 => ?_)
      · skip
        refine g_aload_n 48 (gd rfl) rfl rfl ?_
        refine g_aload_n 49 (gd rfl) rfl rfl ?_
        refine g_getI 52 (gd rfl) rfl rfl rfl (fun z49 e49 => ?_)
        have q49 : u_109_19 = z49 := (fr_F e_109_19 hFc26 rfl).trans e49.symm
        subst q49
        refine g_iload_n 53 (gd rfl) rfl rfl ?_
        refine g_iadd 54 (gd rfl) rfl (fun z53 e53 => ?_)
        have i53 := in_add 0 319 e53 ro_109_19 j26_1 rfl rfl
        refine g_iload_n 55 (gd rfl) rfl rfl ?_
        refine g_callv (X := _) (As := [.int z53, .int x1]) (r := []) (b := A 109) (q := 109) 58 (gd rfl) rfl rfl rfl rfl rfl (ww_o rfl) (Nat.le_of_ble_eq_true rfl) (mc := 0) (ms := 0) (Nat.zero_le _) (Nat.zero_le _) (P := fun v u => _) ?_ (fun e u h => h) (fun v u h => h)
        intro po55 xx55 hp55 hx55
        refine g_enter2 (k := 366) (N := 300) (by first | exact dq1 hd rfl | exact dq0 hd rfl | exact dq2 hd rfl | exact dq3 hd rfl | omega) rfl (Nat.le_of_ble_eq_true rfl) ?_
        refine g_ldc2_w 1000 3 (gd rfl) rfl rfl ?_
        refine g_aload_n 4 (gd rfl) rfl rfl ?_
        refine g_getA (q2 := 115) 7 (gd rfl) rfl rfl rfl rfl ?_
        refine g_iload_n 8 (gd rfl) rfl rfl ?_
        refine g_iaload 9 (gd rfl) rfl (n := 480) rfl (in_ix i53 rfl) (fun z55x8 e55x8 => ?_)
        have i55x8 := inv_I hIc26 (n := 480) (t := 0) (-1000000) 1000000 rfl (in_ix i53 rfl) rfl e55x8
        refine g_i2l 10 (gd rfl) rfl (fun z55x9 e55x9 => ?_)
        have i55x9 := l_i e55x9 i55x8
        refine g_ldc2_w 1000000 13 (gd rfl) rfl rfl ?_
        refine g_ladd 14 (gd rfl) rfl (fun z55x13 e55x13 => ?_)
        have i55x13 := l_add 0 2000000 e55x13 i55x9 (l_c 1000000 rfl) rfl
        refine g_lmul 15 (gd rfl) rfl (fun z55x14 e55x14 => ?_)
        have i55x14 := l_mulc 1000 0 2000000000 (Or.inl e55x14) i55x13 rfl
        refine g_iload_n 16 (gd rfl) rfl rfl ?_
        refine g_i2l 17 (gd rfl) rfl (fun z55x16 e55x16 => ?_)
        have i55x16 := l_i e55x16 j26_1
        refine g_ladd 18 (gd rfl) rfl (fun z55x17 e55x17 => ?_)
        have i55x17 := l_add 0 2000000159 e55x17 i55x14 i55x16 rfl
        refine g_lreturn (gd rfl) rfl (hp55 _ _ ?_)
        show GG _ _ _ _ _ _ _ _ [.long z55x17] _ _ _
        refine g_lstore_n 59 (gd rfl) rfl (Nat.le_of_ble_eq_true rfl) ?_
        refine g_iconst 0 60 (gd rfl) rfl rfl ?_
        refine g_istore 62 (gd rfl) rfl (Nat.le_of_ble_eq_true rfl) ?_
        exact gg_w (by first | exact Nat.le_add_right _ _ | exact gw2 | exact gw3 | exact gwe rfl | exact gwf rfl | exact gwg rfl | exact gwh rfl | omega) (gg_f (gf_cons rfl (gf_cons rfl (gf_cons rfl (gf_cons rfl gf_nil)))) (ct62 33 sc26 z55x17 (Int32.ofInt 0) hIc26 hFc26 (in_w 0 159 j26_1 rfl) (in_w 0 32 (in_c 0 rfl) rfl) (m_in 33 (in_w 0 32 (in_c 0 rfl) rfl) rfl)))
      · skip
        have i31 := r_lt1 0 31 c31 j26_2 ro_109_20 rfl
        have i31a := r_lt2 1 32 c31 j26_2 ro_109_20 rfl
        refine g_aload_n 35 (gd rfl) rfl rfl ?_
        refine g_getA (q2 := 160) 38 (gd rfl) rfl rfl rfl rfl ?_
        refine g_iload_n 39 (gd rfl) rfl rfl ?_
        refine g_iload_n 40 (gd rfl) rfl rfl ?_
        refine g_iastore 41 (gd rfl) rfl (n := 32) rfl (in_ix i31 rfl) ?_
        have hI40 := inv_sI (q := 160) (j := y26_2.toNatClampNeg) hIc26 rfl (in_w 0 31 i31 rfl)
        refine g_iinc 44 (gd rfl) rfl rfl (Nat.le_of_ble_eq_true rfl) (fun z41 e41 => ?_)
        have i41 := in_add 1 32 e41 i31 (in_c 1 rfl) rfl rfl
        refine g_goto 26 (gd rfl) rfl ?_
        exact gg_w (by first | exact Nat.le_add_right _ _ | exact gw2 | exact gw3 | exact gwe rfl | exact gwf rfl | exact gwg rfl | exact gwh rfl | omega) (gg_f (gf_cons rfl (gf_cons rfl (gf_cons rfl gf_nil))) (ih26 (sI sc26 160 y26_2.toNatClampNeg y26_2) z41 hI40 (fr_sI rfl hFc26) (in_w 0 159 j26_1 rfl) (in_w 0 32 i41 rfl) (m_up mm26 (t_add e41 i31 (in_c 1 rfl) rfl) (in_w 1 1 (in_c 1 rfl) rfl))))
  refine g_enter2 (k := 365) (N := 9718181) (by first | exact dq1 hd rfl | exact dq0 hd rfl | exact dq2 hd rfl | exact dq3 hd rfl | omega) rfl (Nat.le_of_ble_eq_true rfl) ?_
  refine g_aload_n 1 (gd rfl) rfl rfl ?_
  refine g_aload_n 2 (gd rfl) rfl rfl ?_
  refine g_iload_n 3 (gd rfl) rfl rfl ?_
  refine g_callv (X := _) (As := [.int x1]) (r := [.ref (A 109)]) (b := A 109) (q := 109) 6 (gd rfl) rfl rfl rfl rfl rfl (ww_o rfl) (Nat.le_of_ble_eq_true rfl) (mc := 0) (ms := 0) (Nat.zero_le _) (Nat.zero_le _) (P := fun v u => _) ?_ (fun e u h => h) (fun v u h => h)
  intro po3 xx3 hp3 hx3
  refine g_enter2 (k := 273) (N := 300) (by first | exact dq1 hd rfl | exact dq0 hd rfl | exact dq2 hd rfl | exact dq3 hd rfl | omega) rfl (Nat.le_of_ble_eq_true rfl) ?_
  refine g_iload_n 1 (gd rfl) rfl rfl ?_
  refine g_if_lt 4 29 (gd rfl) rfl rfl (fun c3x1 => ?_) (fun c3x1 => ?_)
  · skip
    have i3x1 := z_lt (-2147483648) (-1) c3x1 (i_rng x1) rfl
    refine g_iconst 0 30 (gd rfl) rfl rfl ?_
    refine g_ireturn (gd rfl) rfl (nb01 (in_w 0 1 (in_c 0 rfl) rfl)) (hp3 _ _ ?_)
    show GG _ _ _ _ _ _ _ _ [.int (Int32.ofInt 0), .ref (A 109)] _ _ _
    refine g_callv (X := _) (As := [.int (Int32.ofInt 0)]) (r := []) (b := A 109) (q := 109) 9 (gd rfl) rfl rfl rfl rfl rfl (ww_o rfl) (Nat.le_of_ble_eq_true rfl) (mc := 0) (ms := 0) (Nat.zero_le _) (Nat.zero_le _) (P := fun v u => _) ?_ (fun e u h => h) (fun v u h => h)
    intro po6 xx6 hp6 hx6
    refine g_enter2 (k := 271) (N := 300) (by first | exact dq1 hd rfl | exact dq0 hd rfl | exact dq2 hd rfl | exact dq3 hd rfl | omega) rfl (Nat.le_of_ble_eq_true rfl) ?_
    refine g_aload_n 1 (gd rfl) rfl rfl ?_
    refine g_iload_n 2 (gd rfl) rfl rfl ?_
    refine g_iconst 1 3 (gd rfl) rfl rfl ?_
    refine g_callv (X := _) (As := [.int (Int32.ofInt 0), .int (Int32.ofInt 1)]) (r := []) (b := A 109) (q := 109) 6 (gd rfl) rfl rfl rfl rfl rfl (ww_o rfl) (Nat.le_of_ble_eq_true rfl) (mc := 0) (ms := 0) (Nat.zero_le _) (Nat.zero_le _) (P := fun v u => _) ?_ (fun e u h => h) (fun v u h => h)
    intro po6x3 xx6x3 hp6x3 hx6x3
    refine g_enter2 (k := 270) (N := 300) (by first | exact dq1 hd rfl | exact dq0 hd rfl | exact dq2 hd rfl | exact dq3 hd rfl | omega) rfl (Nat.le_of_ble_eq_true rfl) ?_
    refine g_aload_n 1 (gd rfl) rfl rfl ?_
    refine g_iload_n 2 (gd rfl) rfl rfl ?_
    refine g_if_ne 5 9 (gd rfl) rfl rfl (fun c6x3x2 => ?_) (fun c6x3x2 => ?_)
    · skip
      exact zn_ne c6x3x2 (in_c 0 rfl) rfl
    · skip
      refine g_iconst 1 6 (gd rfl) rfl rfl ?_
      refine g_goto 18 (gd rfl) rfl ?_
      refine g_putI 21 (gd rfl) rfl rfl rfl rfl ?_
      have hI6x3x18 := inv_sF (q := 109) (j := 0) hI rfl (in_w 0 2 (in_c 1 rfl) rfl)
      refine g_aload_n 22 (gd rfl) rfl rfl ?_
      refine g_getI 25 (gd rfl) rfl rfl rfl (fun z6x3x22 e6x3x22 => ?_)
      have q6x3x22 : (Int32.ofInt 1) = z6x3x22 := (sF_get).trans e6x3x22.symm
      subst q6x3x22
      refine g_if_le 28 32 (gd rfl) rfl rfl (fun c6x3x25 => ?_) (fun c6x3x25 => ?_)
      · skip
        exact zn_le c6x3x25 (in_c 1 rfl) rfl
      · skip
        refine g_iconst 1 29 (gd rfl) rfl rfl ?_
        refine g_goto 33 (gd rfl) rfl ?_
        refine g_ireturn (gd rfl) rfl (nb01 (in_w 0 1 (in_c 1 rfl) rfl)) (hp6x3 _ _ ?_)
        show GG _ _ _ _ _ _ _ _ [.int (Int32.ofInt 1)] _ _ _
        refine g_ireturn (gd rfl) rfl (nb01 (in_w 0 1 (in_c 1 rfl) rfl)) (hp6 _ _ ?_)
        show GG _ _ _ _ _ _ _ _ [.int (Int32.ofInt 1)] _ _ _
        refine g_if_eq 12 14 (gd rfl) rfl rfl (fun c9 => ?_) (fun c9 => ?_)
        · skip
          exact zn_eq c9 (in_c 1 rfl) rfl
        · skip
          refine g_iconst 0 13 (gd rfl) rfl rfl ?_
          exact g_ireturn (gd rfl) rfl (nb01 (in_w 0 1 (in_c 0 rfl) rfl)) (hP _ _ ⟨(sF s 109 0 (Int32.ofInt 1)), hI6x3x18, (fr_sF rfl fr_rf), (Int32.ofInt 0), rfl, rfl, in_w 0 1 (in_c 0 rfl) rfl⟩)
  · skip
    have i3x1 := z_ge 0 2147483647 c3x1 (i_rng x1) rfl
    refine g_iload_n 5 (gd rfl) rfl rfl ?_
    refine g_sipush 160 8 (gd rfl) rfl rfl ?_
    refine g_cmp_ge 11 29 (gd rfl) rfl rfl (fun c3x8 => ?_) (fun c3x8 => ?_)
    · skip
      have i3x8 := r_le2 160 2147483647 c3x8 (in_c 160 rfl) i3x1 rfl
      refine g_iconst 0 30 (gd rfl) rfl rfl ?_
      refine g_ireturn (gd rfl) rfl (nb01 (in_w 0 1 (in_c 0 rfl) rfl)) (hp3 _ _ ?_)
      show GG _ _ _ _ _ _ _ _ [.int (Int32.ofInt 0), .ref (A 109)] _ _ _
      refine g_callv (X := _) (As := [.int (Int32.ofInt 0)]) (r := []) (b := A 109) (q := 109) 9 (gd rfl) rfl rfl rfl rfl rfl (ww_o rfl) (Nat.le_of_ble_eq_true rfl) (mc := 0) (ms := 0) (Nat.zero_le _) (Nat.zero_le _) (P := fun v u => _) ?_ (fun e u h => h) (fun v u h => h)
      intro po6 xx6 hp6 hx6
      refine g_enter2 (k := 271) (N := 300) (by first | exact dq1 hd rfl | exact dq0 hd rfl | exact dq2 hd rfl | exact dq3 hd rfl | omega) rfl (Nat.le_of_ble_eq_true rfl) ?_
      refine g_aload_n 1 (gd rfl) rfl rfl ?_
      refine g_iload_n 2 (gd rfl) rfl rfl ?_
      refine g_iconst 1 3 (gd rfl) rfl rfl ?_
      refine g_callv (X := _) (As := [.int (Int32.ofInt 0), .int (Int32.ofInt 1)]) (r := []) (b := A 109) (q := 109) 6 (gd rfl) rfl rfl rfl rfl rfl (ww_o rfl) (Nat.le_of_ble_eq_true rfl) (mc := 0) (ms := 0) (Nat.zero_le _) (Nat.zero_le _) (P := fun v u => _) ?_ (fun e u h => h) (fun v u h => h)
      intro po6x3 xx6x3 hp6x3 hx6x3
      refine g_enter2 (k := 270) (N := 300) (by first | exact dq1 hd rfl | exact dq0 hd rfl | exact dq2 hd rfl | exact dq3 hd rfl | omega) rfl (Nat.le_of_ble_eq_true rfl) ?_
      refine g_aload_n 1 (gd rfl) rfl rfl ?_
      refine g_iload_n 2 (gd rfl) rfl rfl ?_
      refine g_if_ne 5 9 (gd rfl) rfl rfl (fun c6x3x2 => ?_) (fun c6x3x2 => ?_)
      · skip
        exact zn_ne c6x3x2 (in_c 0 rfl) rfl
      · skip
        refine g_iconst 1 6 (gd rfl) rfl rfl ?_
        refine g_goto 18 (gd rfl) rfl ?_
        refine g_putI 21 (gd rfl) rfl rfl rfl rfl ?_
        have hI6x3x18 := inv_sF (q := 109) (j := 0) hI rfl (in_w 0 2 (in_c 1 rfl) rfl)
        refine g_aload_n 22 (gd rfl) rfl rfl ?_
        refine g_getI 25 (gd rfl) rfl rfl rfl (fun z6x3x22 e6x3x22 => ?_)
        have q6x3x22 : (Int32.ofInt 1) = z6x3x22 := (sF_get).trans e6x3x22.symm
        subst q6x3x22
        refine g_if_le 28 32 (gd rfl) rfl rfl (fun c6x3x25 => ?_) (fun c6x3x25 => ?_)
        · skip
          exact zn_le c6x3x25 (in_c 1 rfl) rfl
        · skip
          refine g_iconst 1 29 (gd rfl) rfl rfl ?_
          refine g_goto 33 (gd rfl) rfl ?_
          refine g_ireturn (gd rfl) rfl (nb01 (in_w 0 1 (in_c 1 rfl) rfl)) (hp6x3 _ _ ?_)
          show GG _ _ _ _ _ _ _ _ [.int (Int32.ofInt 1)] _ _ _
          refine g_ireturn (gd rfl) rfl (nb01 (in_w 0 1 (in_c 1 rfl) rfl)) (hp6 _ _ ?_)
          show GG _ _ _ _ _ _ _ _ [.int (Int32.ofInt 1)] _ _ _
          refine g_if_eq 12 14 (gd rfl) rfl rfl (fun c9 => ?_) (fun c9 => ?_)
          · skip
            exact zn_eq c9 (in_c 1 rfl) rfl
          · skip
            refine g_iconst 0 13 (gd rfl) rfl rfl ?_
            exact g_ireturn (gd rfl) rfl (nb01 (in_w 0 1 (in_c 0 rfl) rfl)) (hP _ _ ⟨(sF s 109 0 (Int32.ofInt 1)), hI6x3x18, (fr_sF rfl fr_rf), (Int32.ofInt 0), rfl, rfl, in_w 0 1 (in_c 0 rfl) rfl⟩)
    · skip
      have i3x8 := r_lt1 0 159 c3x8 i3x1 (in_c 160 rfl) rfl
      refine g_aload_n 12 (gd rfl) rfl rfl ?_
      refine g_getA (q2 := 112) 15 (gd rfl) rfl rfl rfl rfl ?_
      refine g_aload_n 16 (gd rfl) rfl rfl ?_
      refine g_getI 19 (gd rfl) rfl rfl rfl (fun z3x16 e3x16 => ?_)
      have q3x16 : u_109_19 = z3x16 := (e_109_19).trans e3x16.symm
      subst q3x16
      refine g_iload_n 20 (gd rfl) rfl rfl ?_
      refine g_iadd 21 (gd rfl) rfl (fun z3x20 e3x20 => ?_)
      have i3x20 := in_add 0 319 e3x20 ro_109_19 i3x8 rfl rfl
      refine g_baload 22 (gd rfl) rfl (n := 480) rfl (in_ix i3x20 rfl) (fun z3x21 e3x21 => ?_)
      have i3x21 := inv_I hI (n := 480) (t := 3) 0 1 rfl (in_ix i3x20 rfl) rfl e3x21
      refine g_if_eq 25 29 (gd rfl) rfl rfl (fun c3x22 => ?_) (fun c3x22 => ?_)
      · skip
        have i3x22 := z_eq 0 0 c3x22 i3x21 rfl
        refine g_iconst 0 30 (gd rfl) rfl rfl ?_
        refine g_ireturn (gd rfl) rfl (nb01 (in_w 0 1 (in_c 0 rfl) rfl)) (hp3 _ _ ?_)
        show GG _ _ _ _ _ _ _ _ [.int (Int32.ofInt 0), .ref (A 109)] _ _ _
        refine g_callv (X := _) (As := [.int (Int32.ofInt 0)]) (r := []) (b := A 109) (q := 109) 9 (gd rfl) rfl rfl rfl rfl rfl (ww_o rfl) (Nat.le_of_ble_eq_true rfl) (mc := 0) (ms := 0) (Nat.zero_le _) (Nat.zero_le _) (P := fun v u => _) ?_ (fun e u h => h) (fun v u h => h)
        intro po6 xx6 hp6 hx6
        refine g_enter2 (k := 271) (N := 300) (by first | exact dq1 hd rfl | exact dq0 hd rfl | exact dq2 hd rfl | exact dq3 hd rfl | omega) rfl (Nat.le_of_ble_eq_true rfl) ?_
        refine g_aload_n 1 (gd rfl) rfl rfl ?_
        refine g_iload_n 2 (gd rfl) rfl rfl ?_
        refine g_iconst 1 3 (gd rfl) rfl rfl ?_
        refine g_callv (X := _) (As := [.int (Int32.ofInt 0), .int (Int32.ofInt 1)]) (r := []) (b := A 109) (q := 109) 6 (gd rfl) rfl rfl rfl rfl rfl (ww_o rfl) (Nat.le_of_ble_eq_true rfl) (mc := 0) (ms := 0) (Nat.zero_le _) (Nat.zero_le _) (P := fun v u => _) ?_ (fun e u h => h) (fun v u h => h)
        intro po6x3 xx6x3 hp6x3 hx6x3
        refine g_enter2 (k := 270) (N := 300) (by first | exact dq1 hd rfl | exact dq0 hd rfl | exact dq2 hd rfl | exact dq3 hd rfl | omega) rfl (Nat.le_of_ble_eq_true rfl) ?_
        refine g_aload_n 1 (gd rfl) rfl rfl ?_
        refine g_iload_n 2 (gd rfl) rfl rfl ?_
        refine g_if_ne 5 9 (gd rfl) rfl rfl (fun c6x3x2 => ?_) (fun c6x3x2 => ?_)
        · skip
          exact zn_ne c6x3x2 (in_c 0 rfl) rfl
        · skip
          refine g_iconst 1 6 (gd rfl) rfl rfl ?_
          refine g_goto 18 (gd rfl) rfl ?_
          refine g_putI 21 (gd rfl) rfl rfl rfl rfl ?_
          have hI6x3x18 := inv_sF (q := 109) (j := 0) hI rfl (in_w 0 2 (in_c 1 rfl) rfl)
          refine g_aload_n 22 (gd rfl) rfl rfl ?_
          refine g_getI 25 (gd rfl) rfl rfl rfl (fun z6x3x22 e6x3x22 => ?_)
          have q6x3x22 : (Int32.ofInt 1) = z6x3x22 := (sF_get).trans e6x3x22.symm
          subst q6x3x22
          refine g_if_le 28 32 (gd rfl) rfl rfl (fun c6x3x25 => ?_) (fun c6x3x25 => ?_)
          · skip
            exact zn_le c6x3x25 (in_c 1 rfl) rfl
          · skip
            refine g_iconst 1 29 (gd rfl) rfl rfl ?_
            refine g_goto 33 (gd rfl) rfl ?_
            refine g_ireturn (gd rfl) rfl (nb01 (in_w 0 1 (in_c 1 rfl) rfl)) (hp6x3 _ _ ?_)
            show GG _ _ _ _ _ _ _ _ [.int (Int32.ofInt 1)] _ _ _
            refine g_ireturn (gd rfl) rfl (nb01 (in_w 0 1 (in_c 1 rfl) rfl)) (hp6 _ _ ?_)
            show GG _ _ _ _ _ _ _ _ [.int (Int32.ofInt 1)] _ _ _
            refine g_if_eq 12 14 (gd rfl) rfl rfl (fun c9 => ?_) (fun c9 => ?_)
            · skip
              exact zn_eq c9 (in_c 1 rfl) rfl
            · skip
              refine g_iconst 0 13 (gd rfl) rfl rfl ?_
              exact g_ireturn (gd rfl) rfl (nb01 (in_w 0 1 (in_c 0 rfl) rfl)) (hP _ _ ⟨(sF s 109 0 (Int32.ofInt 1)), hI6x3x18, (fr_sF rfl fr_rf), (Int32.ofInt 0), rfl, rfl, in_w 0 1 (in_c 0 rfl) rfl⟩)
      · skip
        have i3x22 := z_ne 1 1 c3x22 i3x21 rfl
        refine g_iconst 1 26 (gd rfl) rfl rfl ?_
        refine g_goto 30 (gd rfl) rfl ?_
        refine g_ireturn (gd rfl) rfl (nb01 (in_w 0 1 (in_c 1 rfl) rfl)) (hp3 _ _ ?_)
        show GG _ _ _ _ _ _ _ _ [.int (Int32.ofInt 1), .ref (A 109)] _ _ _
        refine g_callv (X := _) (As := [.int (Int32.ofInt 1)]) (r := []) (b := A 109) (q := 109) 9 (gd rfl) rfl rfl rfl rfl rfl (ww_o rfl) (Nat.le_of_ble_eq_true rfl) (mc := 0) (ms := 0) (Nat.zero_le _) (Nat.zero_le _) (P := fun v u => _) ?_ (fun e u h => h) (fun v u h => h)
        intro po6 xx6 hp6 hx6
        refine g_enter2 (k := 271) (N := 300) (by first | exact dq1 hd rfl | exact dq0 hd rfl | exact dq2 hd rfl | exact dq3 hd rfl | omega) rfl (Nat.le_of_ble_eq_true rfl) ?_
        refine g_aload_n 1 (gd rfl) rfl rfl ?_
        refine g_iload_n 2 (gd rfl) rfl rfl ?_
        refine g_iconst 1 3 (gd rfl) rfl rfl ?_
        refine g_callv (X := _) (As := [.int (Int32.ofInt 1), .int (Int32.ofInt 1)]) (r := []) (b := A 109) (q := 109) 6 (gd rfl) rfl rfl rfl rfl rfl (ww_o rfl) (Nat.le_of_ble_eq_true rfl) (mc := 0) (ms := 0) (Nat.zero_le _) (Nat.zero_le _) (P := fun v u => _) ?_ (fun e u h => h) (fun v u h => h)
        intro po6x3 xx6x3 hp6x3 hx6x3
        refine g_enter2 (k := 270) (N := 300) (by first | exact dq1 hd rfl | exact dq0 hd rfl | exact dq2 hd rfl | exact dq3 hd rfl | omega) rfl (Nat.le_of_ble_eq_true rfl) ?_
        refine g_aload_n 1 (gd rfl) rfl rfl ?_
        refine g_iload_n 2 (gd rfl) rfl rfl ?_
        refine g_if_ne 5 9 (gd rfl) rfl rfl (fun c6x3x2 => ?_) (fun c6x3x2 => ?_)
        · skip
          refine g_iload_n 10 (gd rfl) rfl rfl ?_
          refine g_if_ne 13 17 (gd rfl) rfl rfl (fun c6x3x10 => ?_) (fun c6x3x10 => ?_)
          · skip
            refine g_iconst 0 18 (gd rfl) rfl rfl ?_
            refine g_putI 21 (gd rfl) rfl rfl rfl rfl ?_
            have hI6x3x18 := inv_sF (q := 109) (j := 0) hI rfl (in_w 0 2 (in_c 0 rfl) rfl)
            refine g_aload_n 22 (gd rfl) rfl rfl ?_
            refine g_getI 25 (gd rfl) rfl rfl rfl (fun z6x3x22 e6x3x22 => ?_)
            have q6x3x22 : (Int32.ofInt 0) = z6x3x22 := (sF_get).trans e6x3x22.symm
            subst q6x3x22
            refine g_if_le 28 32 (gd rfl) rfl rfl (fun c6x3x25 => ?_) (fun c6x3x25 => ?_)
            · skip
              refine g_iconst 0 33 (gd rfl) rfl rfl ?_
              refine g_ireturn (gd rfl) rfl (nb01 (in_w 0 1 (in_c 0 rfl) rfl)) (hp6x3 _ _ ?_)
              show GG _ _ _ _ _ _ _ _ [.int (Int32.ofInt 0)] _ _ _
              refine g_ireturn (gd rfl) rfl (nb01 (in_w 0 1 (in_c 0 rfl) rfl)) (hp6 _ _ ?_)
              show GG _ _ _ _ _ _ _ _ [.int (Int32.ofInt 0)] _ _ _
              refine g_if_eq 12 14 (gd rfl) rfl rfl (fun c9 => ?_) (fun c9 => ?_)
              · skip
                refine g_aload_n 15 (gd rfl) rfl rfl ?_
                refine g_iload_n 16 (gd rfl) rfl rfl ?_
                refine g_callv (X := _) (As := [.int x1]) (r := []) (b := A 109) (q := 109) 19 (gd rfl) rfl rfl rfl rfl rfl (ww_o rfl) (Nat.le_of_ble_eq_true rfl) (mc := 0) (ms := 0) (Nat.zero_le _) (Nat.zero_le _) (P := fun v u => _) ?_ (fun e u h => h) (fun v u h => h)
                intro po16 xx16 hp16 hx16
                refine g_enter2 (k := 288) (N := 300) (by first | exact dq1 hd rfl | exact dq0 hd rfl | exact dq2 hd rfl | exact dq3 hd rfl | omega) rfl (Nat.le_of_ble_eq_true rfl) ?_
                refine g_aload_n 1 (gd rfl) rfl rfl ?_
                refine g_getA (q2 := 112) 4 (gd rfl) rfl rfl rfl rfl ?_
                refine g_aload_n 5 (gd rfl) rfl rfl ?_
                refine g_getI 8 (gd rfl) rfl rfl rfl (fun z16x5 e16x5 => ?_)
                have q16x5 : u_109_19 = z16x5 := (sF_ne rfl (e_109_19)).trans e16x5.symm
                subst q16x5
                refine g_iload_n 9 (gd rfl) rfl rfl ?_
                refine g_iadd 10 (gd rfl) rfl (fun z16x9 e16x9 => ?_)
                have i16x9 := in_add 0 319 e16x9 ro_109_19 i3x8 rfl rfl
                refine g_baload 11 (gd rfl) rfl (n := 480) rfl (in_ix i16x9 rfl) (fun z16x10 e16x10 => ?_)
                have i16x10 := inv_I hI6x3x18 (n := 480) (t := 3) 0 1 rfl (in_ix i16x9 rfl) rfl e16x10
                refine g_if_eq 14 43 (gd rfl) rfl rfl (fun c16x11 => ?_) (fun c16x11 => ?_)
                · skip
                  have i16x11 := z_eq 0 0 c16x11 i16x10 rfl
                  refine g_iconst 0 44 (gd rfl) rfl rfl ?_
                  refine g_ireturn (gd rfl) rfl (nb01 (in_w 0 1 (in_c 0 rfl) rfl)) (hp16 _ _ ?_)
                  show GG _ _ _ _ _ _ _ _ [.int (Int32.ofInt 0)] _ _ _
                  refine g_if_ne 22 24 (gd rfl) rfl rfl (fun c19 => ?_) (fun c19 => ?_)
                  · skip
                    exact zn_ne c19 (in_c 0 rfl) rfl
                  · skip
                    refine g_iconst 0 23 (gd rfl) rfl rfl ?_
                    exact g_ireturn (gd rfl) rfl (nb01 (in_w 0 1 (in_c 0 rfl) rfl)) (hP _ _ ⟨(sF s 109 0 (Int32.ofInt 0)), hI6x3x18, (fr_sF rfl fr_rf), (Int32.ofInt 0), rfl, rfl, in_w 0 1 (in_c 0 rfl) rfl⟩)
                · skip
                  have i16x11 := z_ne 1 1 c16x11 i16x10 rfl
                  refine g_aload_n 15 (gd rfl) rfl rfl ?_
                  refine g_getA (q2 := 113) 18 (gd rfl) rfl rfl rfl rfl ?_
                  refine g_aload_n 19 (gd rfl) rfl rfl ?_
                  refine g_getI 22 (gd rfl) rfl rfl rfl (fun z16x19 e16x19 => ?_)
                  have q16x19 : u_109_19 = z16x19 := (sF_ne rfl (e_109_19)).trans e16x19.symm
                  subst q16x19
                  refine g_iload_n 23 (gd rfl) rfl rfl ?_
                  refine g_iadd 24 (gd rfl) rfl (fun z16x23 e16x23 => ?_)
                  have i16x23 := in_add 0 319 e16x23 ro_109_19 i3x8 rfl rfl
                  refine g_iaload 25 (gd rfl) rfl (n := 480) rfl (in_ix i16x23 rfl) (fun z16x24 e16x24 => ?_)
                  have i16x24 := inv_I hI6x3x18 (n := 480) (t := 0) 0 31 rfl (in_ix i16x23 rfl) rfl e16x24
                  refine g_aload_n 26 (gd rfl) rfl rfl ?_
                  refine g_getA (q2 := 114) 29 (gd rfl) rfl rfl rfl rfl ?_
                  refine g_aload_n 30 (gd rfl) rfl rfl ?_
                  refine g_getI 33 (gd rfl) rfl rfl rfl (fun z16x30 e16x30 => ?_)
                  have q16x30 : u_109_19 = z16x30 := (sF_ne rfl (e_109_19)).trans e16x30.symm
                  subst q16x30
                  refine g_iload_n 34 (gd rfl) rfl rfl ?_
                  refine g_iadd 35 (gd rfl) rfl (fun z16x34 e16x34 => ?_)
                  have i16x34 := in_add 0 319 e16x34 ro_109_19 i3x8 rfl rfl
                  refine g_iaload 36 (gd rfl) rfl (n := 480) rfl (in_ix i16x34 rfl) (fun z16x35 e16x35 => ?_)
                  have i16x35 := inv_I hI6x3x18 (n := 480) (t := 0) 0 31 rfl (in_ix i16x34 rfl) rfl e16x35
                  refine g_cmp_eq 39 43 (gd rfl) rfl rfl (fun c16x36 => ?_) (fun c16x36 => ?_)
                  · skip
                    refine g_iconst 0 44 (gd rfl) rfl rfl ?_
                    refine g_ireturn (gd rfl) rfl (nb01 (in_w 0 1 (in_c 0 rfl) rfl)) (hp16 _ _ ?_)
                    show GG _ _ _ _ _ _ _ _ [.int (Int32.ofInt 0)] _ _ _
                    refine g_if_ne 22 24 (gd rfl) rfl rfl (fun c19 => ?_) (fun c19 => ?_)
                    · skip
                      exact zn_ne c19 (in_c 0 rfl) rfl
                    · skip
                      refine g_iconst 0 23 (gd rfl) rfl rfl ?_
                      exact g_ireturn (gd rfl) rfl (nb01 (in_w 0 1 (in_c 0 rfl) rfl)) (hP _ _ ⟨(sF s 109 0 (Int32.ofInt 0)), hI6x3x18, (fr_sF rfl fr_rf), (Int32.ofInt 0), rfl, rfl, in_w 0 1 (in_c 0 rfl) rfl⟩)
                  · skip
                    refine g_iconst 1 40 (gd rfl) rfl rfl ?_
                    refine g_goto 44 (gd rfl) rfl ?_
                    refine g_ireturn (gd rfl) rfl (nb01 (in_w 0 1 (in_c 1 rfl) rfl)) (hp16 _ _ ?_)
                    show GG _ _ _ _ _ _ _ _ [.int (Int32.ofInt 1)] _ _ _
                    refine g_if_ne 22 24 (gd rfl) rfl rfl (fun c19 => ?_) (fun c19 => ?_)
                    · skip
                      refine g_iconst 0 25 (gd rfl) rfl rfl ?_
                      refine g_istore_n 26 (gd rfl) rfl (Nat.le_of_ble_eq_true rfl) ?_
                      exact gg_w (by first | exact Nat.le_of_ble_eq_true rfl | omega) (gg_f (gf_cons rfl (gf_cons rfl (gf_cons rfl gf_nil))) (ct26 33 (sF s 109 0 (Int32.ofInt 0)) (Int32.ofInt 0) hI6x3x18 (fr_sF rfl fr_rf) (in_w 0 159 i3x8 rfl) (in_w 0 32 (in_c 0 rfl) rfl) (m_in 33 (in_w 0 32 (in_c 0 rfl) rfl) rfl)))
                    · skip
                      exact zn_eq c19 (in_c 1 rfl) rfl
              · skip
                exact zn_ne c9 (in_c 0 rfl) rfl
            · skip
              exact zn_gt c6x3x25 (in_c 0 rfl) rfl
          · skip
            exact zn_eq c6x3x10 (in_c 1 rfl) rfl
        · skip
          exact zn_eq c6x3x2 (in_c 1 rfl) rfl

/-- GraphHouseModel.power -/
theorem k_367 {Z : AmZ} {A : Nat → Nat} {s : GS} {ex : va_W} {d : Nat} {X : AmX} {x0 : Int64} {x1 : Int64} (hd : 1 ≤ d) (hI : Inv s)  : GC Z d 367 [.long x0, .long x1] (WW Z A s ++ ex) 0 0 (fun v u => ∃ z : Int64, v = some (.long z) ∧ u = WW Z A s ++ ex) X := by
  intro post xp hP hX
  have ct9 : ∀ (k9 : Nat) (y9_4 : Int64) (y9_6 : Int64) (y9_8 : Int64), ((y9_8.toInt.toNat : Nat) : Int) < (k9 : Int) → GG Z (d - 1) 367 post (gx xp) (1 + k9 * 900) 9 (fun j => xlook j [(0, .long x0), (2, .long x1), (4, .long y9_4), (6, .long y9_6), (8, .long y9_8)]) [] (WW Z A s ++ ex) 0 0 := by
    intro k9
    induction k9 with
    | zero => intro y9_4 y9_6 y9_8  mm9; exact absurd mm9 (Int.not_lt.mpr (Int.natCast_nonneg _))
    | succ k9 ih9 =>
      intro y9_4 y9_6 y9_8  mm9
      refine gg_w (M := 1 + k9 * 900 + 900) gws ?_
      refine g_lload 11 (gd rfl) rfl rfl ?_
      refine g_lconst 0 12 (gd rfl) rfl rfl ?_
      refine g_lcmp 13 (gd rfl) rfl (fun z12 e12 => ?_)
      have i12 := lc_in e12
      refine g_if_le 16 65 (gd rfl) rfl rfl (fun c13 => ?_) (fun c13 => ?_)
      · skip
        have i13 := z_le (-1) 0 c13 i12 rfl
        have c13a := lc_le e12 c13
        have i13a := lr_le1 (-9223372036854775808) 0 c13a (l_rng y9_8) (l_c 0 rfl) rfl
        refine g_lload 67 (gd rfl) rfl rfl ?_
        exact g_lreturn (gd rfl) rfl (hP _ _ ⟨y9_4, rfl, rfl⟩)
      · skip
        have i13 := z_gt 1 1 c13 i12 rfl
        have c13a := lc_gt e12 c13
        have i13a := lr_lt2 1 9223372036854775807 c13a (l_c 0 rfl) (l_rng y9_8) rfl
        refine g_lload 18 (gd rfl) rfl rfl ?_
        refine g_ldc2_w 2 21 (gd rfl) rfl rfl ?_
        refine g_lrem 22 (gd rfl) rfl (by decide) (fun z21 e21 => ?_)
        have i21 := l_rem (-1) 1 e21 rfl
        refine g_lconst 1 23 (gd rfl) rfl rfl ?_
        refine g_lcmp 24 (gd rfl) rfl (fun z23 e23 => ?_)
        have i23 := lc_in e23
        refine g_if_ne 27 39 (gd rfl) rfl rfl (fun c24 => ?_) (fun c24 => ?_)
        · skip
          have c24a := lc_ne e23 c24
          have i24 := lr_ne1 (-1) 0 c24a i21 (l_c 1 rfl) rfl
          refine g_lload 41 (gd rfl) rfl rfl ?_
          refine g_lstore 43 (gd rfl) rfl (Nat.le_of_ble_eq_true rfl) ?_
          refine g_lload 45 (gd rfl) rfl rfl ?_
          refine g_lload 47 (gd rfl) rfl rfl ?_
          refine g_lmul 48 (gd rfl) rfl (fun z47 e47 => ?_)
          refine g_ldc2_w 1000000007 51 (gd rfl) rfl rfl ?_
          refine g_lrem 52 (gd rfl) rfl (by decide) (fun z51 e51 => ?_)
          have i51 := l_rem (-1000000006) 1000000006 e51 rfl
          refine g_lstore 54 (gd rfl) rfl (Nat.le_of_ble_eq_true rfl) ?_
          refine g_lload 56 (gd rfl) rfl rfl ?_
          refine g_ldc2_w 2 59 (gd rfl) rfl rfl ?_
          refine g_ldiv 60 (gd rfl) rfl (by decide) (fun z59 e59 => ?_)
          refine g_lstore 62 (gd rfl) rfl (Nat.le_of_ble_eq_true rfl) ?_
          refine g_goto 9 (gd rfl) rfl ?_
          exact gg_w (by first | exact Nat.le_add_right _ _ | exact gw2 | exact gw3 | exact gwe rfl | exact gwf rfl | exact gwg rfl | exact gwh rfl | omega) (gg_f (gf_cons rfl (gf_cons rfl (gf_cons rfl (gf_cons rfl (gf_cons rfl gf_nil))))) (ih9  y9_4 z51 z59   (mh e59 i13a rfl mm9)))
        · skip
          have i24 := z_eq 0 0 c24 i23 rfl
          have c24a := lc_eq e23 c24
          have i24a := lr_eq1 1 1 c24a i21 (l_c 1 rfl) rfl
          refine g_lload 29 (gd rfl) rfl rfl ?_
          refine g_lload 31 (gd rfl) rfl rfl ?_
          refine g_lmul 32 (gd rfl) rfl (fun z31 e31 => ?_)
          refine g_ldc2_w 1000000007 35 (gd rfl) rfl rfl ?_
          refine g_lrem 36 (gd rfl) rfl (by decide) (fun z35 e35 => ?_)
          have i35 := l_rem (-1000000006) 1000000006 e35 rfl
          refine g_goto 41 (gd rfl) rfl ?_
          refine g_lstore 43 (gd rfl) rfl (Nat.le_of_ble_eq_true rfl) ?_
          refine g_lload 45 (gd rfl) rfl rfl ?_
          refine g_lload 47 (gd rfl) rfl rfl ?_
          refine g_lmul 48 (gd rfl) rfl (fun z47 e47 => ?_)
          refine g_ldc2_w 1000000007 51 (gd rfl) rfl rfl ?_
          refine g_lrem 52 (gd rfl) rfl (by decide) (fun z51 e51 => ?_)
          have i51 := l_rem (-1000000006) 1000000006 e51 rfl
          refine g_lstore 54 (gd rfl) rfl (Nat.le_of_ble_eq_true rfl) ?_
          refine g_lload 56 (gd rfl) rfl rfl ?_
          refine g_ldc2_w 2 59 (gd rfl) rfl rfl ?_
          refine g_ldiv 60 (gd rfl) rfl (by decide) (fun z59 e59 => ?_)
          refine g_lstore 62 (gd rfl) rfl (Nat.le_of_ble_eq_true rfl) ?_
          refine g_goto 9 (gd rfl) rfl ?_
          exact gg_w (by first | exact Nat.le_add_right _ _ | exact gw2 | exact gw3 | exact gwe rfl | exact gwf rfl | exact gwg rfl | exact gwh rfl | omega) (gg_f (gf_cons rfl (gf_cons rfl (gf_cons rfl (gf_cons rfl (gf_cons rfl gf_nil))))) (ih9  z35 z51 z59   (mh e59 i13a rfl mm9)))
  refine g_enter2 (k := 367) (N := 16602069666338596455301) (by first | exact dq1 hd rfl | exact dq0 hd rfl | exact dq2 hd rfl | exact dq3 hd rfl | omega) rfl (Nat.le_of_ble_eq_true rfl) ?_
  refine g_lconst 1 1 (gd rfl) rfl rfl ?_
  refine g_lstore 3 (gd rfl) rfl (Nat.le_of_ble_eq_true rfl) ?_
  refine g_lload_n 4 (gd rfl) rfl rfl ?_
  refine g_lstore 6 (gd rfl) rfl (Nat.le_of_ble_eq_true rfl) ?_
  refine g_lload_n 7 (gd rfl) rfl rfl ?_
  refine g_lstore 9 (gd rfl) rfl (Nat.le_of_ble_eq_true rfl) ?_
  exact gg_w (by first | exact Nat.le_of_ble_eq_true rfl | omega) (gg_f (gf_cons rfl (gf_cons rfl (gf_cons rfl (gf_cons rfl (gf_cons rfl gf_nil))))) (ct9 18446744073709551616  (Int64.ofInt 1) x0 x1   (mh_in _)))

def fm_368 : FM := ([], [161], [(109, 0)], [])
/-- GraphHouseModel.trees -/
theorem k_368 {Z : AmZ} {A : Nat → Nat} {s : GS} {ex : va_W} {d : Nat} {X : AmX}  (hd : 3 ≤ d) (hI : Inv s)  : GC Z d 368 [.ref (A 109)] (WW Z A s ++ ex) 0 0 (fun v u => ∃ t : GS, Inv t ∧ Fr fm_368 s t ∧ ∃ z : Int32, v = some (.int z) ∧ u = WW Z A t ++ ex ∧ In z (-2147483648) 2147483647) X := by
  intro post xp hP hX
  obtain ⟨u_109_19, e_109_19⟩ : ∃ w, w = s.2.2.1 109 19 := ⟨_, rfl⟩
  have ro_109_19 := inv_F hI 0 160 rfl e_109_19
  obtain ⟨u_109_20, e_109_20⟩ : ∃ w, w = s.2.2.1 109 20 := ⟨_, rfl⟩
  have ro_109_20 := inv_F hI 0 32 rfl e_109_20
  have ct174 : ∀ (k174 : Nat) (sc174 : GS) (y174_1 : Int64) (y174_3 : Int32), Inv sc174 → Fr fm_368 s sc174 → (In y174_3 1 32) → 32 - (y174_3).toInt < (k174 : Int) → GG Z (d - 1) 368 post (gx xp) (1 + k174 * 1071935) 174 (fun j => xlook j [(0, .ref (A 109)), (1, .long y174_1), (3, .int y174_3)]) [] (WW Z A sc174 ++ ex) 0 0 := by
    intro k174
    induction k174 with
    | zero => intro sc174 y174_1 y174_3 hIc174 hFc174 j174_3 mm174; exact m_no mm174 j174_3 rfl
    | succ k174 ih174 =>
      intro sc174 y174_1 y174_3 hIc174 hFc174 j174_3 mm174
      refine gg_w (M := 1 + k174 * 1071935 + 1071935) gws ?_
      have ct364 : ∀ (k364 : Nat) (sc364 : GS) (y364_1 : Int64) (y364_4 : Int32) (y364_5 : Int64) (y364_7 : Int32), Inv sc364 → Fr fm_368 s sc364 → (In y174_3 1 31) → (In y364_4 0 31) → (In y364_7 2 32) → 32 - (y364_7).toInt < (k364 : Int) → GG Z (d - 1) 368 post (gx xp) (1 + k174 * 1071935 + 1 + k364 * 31501) 364 (fun j => xlook j [(0, .ref (A 109)), (1, .long y364_1), (3, .int y174_3), (4, .int y364_4), (5, .long y364_5), (7, .int y364_7)]) [] (WW Z A sc364 ++ ex) 0 0 := by
        intro k364
        induction k364 with
        | zero => intro sc364 y364_1 y364_4 y364_5 y364_7 hIc364 hFc364 j364_3 j364_4 j364_7 mm364; exact m_no mm364 j364_7 rfl
        | succ k364 ih364 =>
          intro sc364 y364_1 y364_4 y364_5 y364_7 hIc364 hFc364 j364_3 j364_4 j364_7 mm364
          refine gg_w (M := 1 + k174 * 1071935 + 1 + k364 * 31501 + 31501) gws ?_
          have ct397 : ∀ (k397 : Nat) (sc397 : GS) (y397_8 : Int64) (y397_10 : Int32), Inv sc397 → Fr fm_368 s sc397 → (In y364_7 2 31) → (In y397_10 1 32) → 32 - (y397_10).toInt < (k397 : Int) → GG Z (d - 1) 368 post (gx xp) (1 + k174 * 1071935 + 1 + k364 * 31501 + 1 + k397 * 900) 397 (fun j => xlook j [(0, .ref (A 109)), (1, .long y364_1), (3, .int y174_3), (4, .int y364_4), (5, .long y364_5), (7, .int y364_7), (8, .long y397_8), (10, .int y397_10)]) [] (WW Z A sc397 ++ ex) 0 0 := by
            intro k397
            induction k397 with
            | zero => intro sc397 y397_8 y397_10 hIc397 hFc397 j397_7 j397_10 mm397; exact m_no mm397 j397_10 rfl
            | succ k397 ih397 =>
              intro sc397 y397_8 y397_10 hIc397 hFc397 j397_7 j397_10 mm397
              refine gg_w (M := 1 + k174 * 1071935 + 1 + k364 * 31501 + 1 + k397 * 900 + 900) gws ?_
              refine g_iload 399 (gd rfl) rfl rfl ?_
              refine g_aload_n 400 (gd rfl) rfl rfl ?_
              refine g_getI 403 (gd rfl) rfl rfl rfl (fun z400 e400 => ?_)
              have q400 : u_109_20 = z400 := (fr_F e_109_20 hFc397 rfl).trans e400.symm
              subst q400
              refine g_cmp_ge 406 462 (gd rfl) rfl rfl (fun c403 => ?_) (fun c403 => ?_)
              · skip
                refine g_iinc 465 (gd rfl) rfl rfl (Nat.le_of_ble_eq_true rfl) (fun z462 e462 => ?_)
                have i462 := in_add 3 32 e462 j397_7 (in_c 1 rfl) rfl rfl
                refine g_goto 364 (gd rfl) rfl ?_
                exact gg_w (by first | exact Nat.le_add_right _ _ | exact gw2 | exact gw3 | exact gwe rfl | exact gwf rfl | exact gwg rfl | exact gwh rfl | omega) (gg_f (gf_cons rfl (gf_cons rfl (gf_cons rfl (gf_cons rfl (gf_cons rfl (gf_cons rfl gf_nil)))))) (ih364 sc397 y364_1 y364_4 y364_5 z462 hIc397 hFc397 (in_w 1 31 j364_3 rfl) (in_w 0 31 j364_4 rfl) (in_w 2 32 i462 rfl) (m_up mm364 (t_add e462 j397_7 (in_c 1 rfl) rfl) (in_w 1 1 (in_c 1 rfl) rfl))))
              · skip
                have i403 := r_lt1 1 31 c403 j397_10 ro_109_20 rfl
                have i403a := r_lt2 2 32 c403 j397_10 ro_109_20 rfl
                refine g_aload_n 407 (gd rfl) rfl rfl ?_
                refine g_getA (q2 := 161) 410 (gd rfl) rfl rfl rfl rfl ?_
                refine g_bipush 32 412 (gd rfl) rfl rfl ?_
                refine g_iload 414 (gd rfl) rfl rfl ?_
                refine g_imul 415 (gd rfl) rfl (fun z414 e414 => ?_)
                have i414 := in_mulc 32 64 992 (Or.inl e414) j397_7 rfl rfl
                refine g_iload 417 (gd rfl) rfl rfl ?_
                refine g_iadd 418 (gd rfl) rfl (fun z417 e417 => ?_)
                have i417 := in_add 65 1023 e417 i414 i403 rfl rfl
                refine g_aload_n 419 (gd rfl) rfl rfl ?_
                refine g_getA (q2 := 161) 422 (gd rfl) rfl rfl rfl rfl ?_
                refine g_bipush 32 424 (gd rfl) rfl rfl ?_
                refine g_iload 426 (gd rfl) rfl rfl ?_
                refine g_imul 427 (gd rfl) rfl (fun z426 e426 => ?_)
                have i426 := in_mulc 32 64 992 (Or.inl e426) j397_7 rfl rfl
                refine g_iload 429 (gd rfl) rfl rfl ?_
                refine g_iadd 430 (gd rfl) rfl (fun z429 e429 => ?_)
                have i429 := in_add 65 1023 e429 i426 i403 rfl rfl
                refine g_laload 431 (gd rfl) rfl (n := 1024) rfl (in_ix i429 rfl) (fun z430 e430 => ?_)
                refine g_ldc2_w 1000000007 434 (gd rfl) rfl rfl ?_
                refine g_lload 436 (gd rfl) rfl rfl ?_
                refine g_lsub 437 (gd rfl) rfl (fun z436 e436 => ?_)
                refine g_aload_n 438 (gd rfl) rfl rfl ?_
                refine g_getA (q2 := 161) 441 (gd rfl) rfl rfl rfl rfl ?_
                refine g_bipush 32 443 (gd rfl) rfl rfl ?_
                refine g_iload_n 444 (gd rfl) rfl rfl ?_
                refine g_imul 445 (gd rfl) rfl (fun z444 e444 => ?_)
                have i444 := in_mulc 32 32 992 (Or.inl e444) j364_3 rfl rfl
                refine g_iload 447 (gd rfl) rfl rfl ?_
                refine g_iadd 448 (gd rfl) rfl (fun z447 e447 => ?_)
                have i447 := in_add 33 1023 e447 i444 i403 rfl rfl
                refine g_laload 449 (gd rfl) rfl (n := 1024) rfl (in_ix i447 rfl) (fun z448 e448 => ?_)
                refine g_lmul 450 (gd rfl) rfl (fun z449 e449 => ?_)
                refine g_ladd 451 (gd rfl) rfl (fun z450 e450 => ?_)
                refine g_ldc2_w 1000000007 454 (gd rfl) rfl rfl ?_
                refine g_lrem 455 (gd rfl) rfl (by decide) (fun z454 e454 => ?_)
                have i454 := l_rem (-1000000006) 1000000006 e454 rfl
                refine g_lastore 456 (gd rfl) rfl (n := 1024) rfl (in_ix i417 rfl) ?_
                have hI455 := inv_sL (q := 161) (j := z417.toNatClampNeg) (x := z454) hIc397 rfl (l_rng z454)
                refine g_iinc 459 (gd rfl) rfl rfl (Nat.le_of_ble_eq_true rfl) (fun z456 e456 => ?_)
                have i456 := in_add 2 32 e456 i403 (in_c 1 rfl) rfl rfl
                refine g_goto 397 (gd rfl) rfl ?_
                exact gg_w (by first | exact Nat.le_add_right _ _ | exact gw2 | exact gw3 | exact gwe rfl | exact gwf rfl | exact gwg rfl | exact gwh rfl | omega) (gg_f (gf_cons rfl (gf_cons rfl (gf_cons rfl (gf_cons rfl (gf_cons rfl (gf_cons rfl (gf_cons rfl (gf_cons rfl gf_nil)))))))) (ih397 (sL sc397 161 z417.toNatClampNeg z454) y397_8 z456 hI455 (fr_sL rfl hFc397) (in_w 2 31 j397_7 rfl) (in_w 1 32 i456 rfl) (m_up mm397 (t_add e456 i403 (in_c 1 rfl) rfl) (in_w 1 1 (in_c 1 rfl) rfl))))
          refine g_iload 366 (gd rfl) rfl rfl ?_
          refine g_aload_n 367 (gd rfl) rfl rfl ?_
          refine g_getI 370 (gd rfl) rfl rfl rfl (fun z367 e367 => ?_)
          have q367 : u_109_20 = z367 := (fr_F e_109_20 hFc364 rfl).trans e367.symm
          subst q367
          refine g_cmp_ge 373 468 (gd rfl) rfl rfl (fun c370 => ?_) (fun c370 => ?_)
          · skip
            refine g_iinc 471 (gd rfl) rfl rfl (Nat.le_of_ble_eq_true rfl) (fun z468 e468 => ?_)
            have i468 := in_add 2 32 e468 j364_3 (in_c 1 rfl) rfl rfl
            refine g_goto 174 (gd rfl) rfl ?_
            exact gg_w (by first | exact Nat.le_add_right _ _ | exact gw2 | exact gw3 | exact gwe rfl | exact gwf rfl | exact gwg rfl | exact gwh rfl | omega) (gg_f (gf_cons rfl (gf_cons rfl (gf_cons rfl gf_nil))) (ih174 sc364 y364_1 z468 hIc364 hFc364 (in_w 1 32 i468 rfl) (m_up mm174 (t_add e468 j364_3 (in_c 1 rfl) rfl) (in_w 1 1 (in_c 1 rfl) rfl))))
          · skip
            have i370 := r_lt1 2 31 c370 j364_7 ro_109_20 rfl
            have i370a := r_lt2 3 32 c370 j364_7 ro_109_20 rfl
            refine g_aload_n 374 (gd rfl) rfl rfl ?_
            refine g_getA (q2 := 161) 377 (gd rfl) rfl rfl rfl rfl ?_
            refine g_bipush 32 379 (gd rfl) rfl rfl ?_
            refine g_iload 381 (gd rfl) rfl rfl ?_
            refine g_imul 382 (gd rfl) rfl (fun z381 e381 => ?_)
            have i381 := in_mulc 32 64 992 (Or.inl e381) i370 rfl rfl
            refine g_iload_n 383 (gd rfl) rfl rfl ?_
            refine g_iadd 384 (gd rfl) rfl (fun z383 e383 => ?_)
            have i383 := in_add 65 1023 e383 i381 j364_3 rfl rfl
            refine g_laload 385 (gd rfl) rfl (n := 1024) rfl (in_ix i383 rfl) (fun z384 e384 => ?_)
            refine g_lload 387 (gd rfl) rfl rfl ?_
            refine g_lmul 388 (gd rfl) rfl (fun z387 e387 => ?_)
            refine g_ldc2_w 1000000007 391 (gd rfl) rfl rfl ?_
            refine g_lrem 392 (gd rfl) rfl (by decide) (fun z391 e391 => ?_)
            have i391 := l_rem (-1000000006) 1000000006 e391 rfl
            refine g_lstore 394 (gd rfl) rfl (Nat.le_of_ble_eq_true rfl) ?_
            refine g_iload_n 395 (gd rfl) rfl rfl ?_
            refine g_istore 397 (gd rfl) rfl (Nat.le_of_ble_eq_true rfl) ?_
            exact gg_w (by first | exact Nat.le_add_right _ _ | exact gw2 | exact gw3 | exact gwe rfl | exact gwf rfl | exact gwg rfl | exact gwh rfl | omega) (gg_f (gf_cons rfl (gf_cons rfl (gf_cons rfl (gf_cons rfl (gf_cons rfl (gf_cons rfl (gf_cons rfl (gf_cons rfl gf_nil)))))))) (ct397 32 sc364 z391 y174_3 hIc364 hFc364 (in_w 2 31 i370 rfl) (in_w 1 32 j364_3 rfl) (m_in 32 (in_w 1 32 j364_3 rfl) rfl)))
      have ct231 : ∀ (k231 : Nat) (sc231 : GS) (y231_4 : Int32) (y231_5 : Int32), Inv sc231 → Fr fm_368 s sc231 → (In y174_3 1 31) → (In y231_4 0 31) → (In y231_5 0 32) → 32 - (y231_5).toInt < (k231 : Int) → GG Z (d - 1) 368 post (gx xp) (1 + k174 * 1071935 + 976533 + k231 * 900) 231 (fun j => xlook j [(0, .ref (A 109)), (1, .long y174_1), (3, .int y174_3), (4, .int y231_4), (5, .int y231_5)]) [] (WW Z A sc231 ++ ex) 0 0 := by
        intro k231
        induction k231 with
        | zero => intro sc231 y231_4 y231_5 hIc231 hFc231 j231_3 j231_4 j231_5 mm231; exact m_no mm231 j231_5 rfl
        | succ k231 ih231 =>
          intro sc231 y231_4 y231_5 hIc231 hFc231 j231_3 j231_4 j231_5 mm231
          refine gg_w (M := 1 + k174 * 1071935 + 976533 + k231 * 900 + 900) gws ?_
          refine g_iload 233 (gd rfl) rfl rfl ?_
          refine g_aload_n 234 (gd rfl) rfl rfl ?_
          refine g_getI 237 (gd rfl) rfl rfl rfl (fun z234 e234 => ?_)
          have q234 : u_109_20 = z234 := (fr_F e_109_20 hFc231 rfl).trans e234.symm
          subst q234
          refine g_cmp_ge 240 306 (gd rfl) rfl rfl (fun c237 => ?_) (fun c237 => ?_)
          · skip
            refine g_iload 308 (gd rfl) rfl rfl ?_
            refine g_iload_n 309 (gd rfl) rfl rfl ?_
            refine g_cmp_eq 312 324 (gd rfl) rfl rfl (fun c309 => ?_) (fun c309 => ?_)
            · skip
              have i309 := r_eq1 1 31 c309 j231_4 j231_3 rfl
              refine g_lload_n 325 (gd rfl) rfl rfl ?_
              refine g_lstore_n 326 (gd rfl) rfl (Nat.le_of_ble_eq_true rfl) ?_
              refine g_lload_n 327 (gd rfl) rfl rfl ?_
              refine g_aload_n 328 (gd rfl) rfl rfl ?_
              refine g_getA (q2 := 161) 331 (gd rfl) rfl rfl rfl rfl ?_
              refine g_bipush 33 333 (gd rfl) rfl rfl ?_
              refine g_iload_n 334 (gd rfl) rfl rfl ?_
              refine g_imul 335 (gd rfl) rfl (fun z334 e334 => ?_)
              have i334 := in_mulc 33 33 1023 (Or.inl e334) j231_3 rfl rfl
              refine g_laload 336 (gd rfl) rfl (n := 1024) rfl (in_ix i334 rfl) (fun z335 e335 => ?_)
              refine g_lmul 337 (gd rfl) rfl (fun z336 e336 => ?_)
              refine g_ldc2_w 1000000007 340 (gd rfl) rfl rfl ?_
              refine g_lrem 341 (gd rfl) rfl (by decide) (fun z340 e340 => ?_)
              have i340 := l_rem (-1000000006) 1000000006 e340 rfl
              refine g_lstore_n 342 (gd rfl) rfl (Nat.le_of_ble_eq_true rfl) ?_
              refine g_aload_n 343 (gd rfl) rfl rfl ?_
              refine g_getA (q2 := 161) 346 (gd rfl) rfl rfl rfl rfl ?_
              refine g_bipush 33 348 (gd rfl) rfl rfl ?_
              refine g_iload_n 349 (gd rfl) rfl rfl ?_
              refine g_imul 350 (gd rfl) rfl (fun z349 e349 => ?_)
              have i349 := in_mulc 33 33 1023 (Or.inl e349) j231_3 rfl rfl
              refine g_laload 351 (gd rfl) rfl (n := 1024) rfl (in_ix i349 rfl) (fun z350 e350 => ?_)
              refine g_ldc2_w 1000000005 354 (gd rfl) rfl rfl ?_
              refine g_calls (As := [.long z350, .long (Int64.ofInt 1000000005)]) (r := []) 357 (gd rfl) rfl rfl rfl rfl rfl (Nat.le_of_ble_eq_true rfl) (Nat.zero_le _) (Nat.zero_le _) (k_367 (by first | exact dq1 hd rfl | exact dq0 hd rfl | exact dq2 hd rfl | exact dq3 hd rfl | omega) hIc231 ) (fun v u h => ?_)
              obtain ⟨z354, rfl, rfl⟩ := h
              show GG _ _ _ _ _ _ _ _ [.long z354] _ _ _
              refine g_lstore 359 (gd rfl) rfl (Nat.le_of_ble_eq_true rfl) ?_
              refine g_iload_n 360 (gd rfl) rfl rfl ?_
              refine g_iconst 1 361 (gd rfl) rfl rfl ?_
              refine g_iadd 362 (gd rfl) rfl (fun z361 e361 => ?_)
              have i361 := in_add 2 32 e361 j231_3 (in_c 1 rfl) rfl rfl
              refine g_istore 364 (gd rfl) rfl (Nat.le_of_ble_eq_true rfl) ?_
              exact gg_w (by first | exact Nat.le_add_right _ _ | exact gw2 | exact gw3 | exact gwe rfl | exact gwf rfl | exact gwg rfl | exact gwh rfl | omega) (gg_f (gf_cons rfl (gf_cons rfl (gf_cons rfl (gf_cons rfl (gf_cons rfl (gf_cons rfl gf_nil)))))) (ct364 31 sc231 z340 y231_4 z354 z361 hIc231 hFc231 (in_w 1 31 j231_3 rfl) (in_w 0 31 i309 rfl) (in_w 2 32 i361 rfl) (m_in 31 (in_w 2 32 i361 rfl) rfl)))
            · skip
              refine g_ldc2_w 1000000007 315 (gd rfl) rfl rfl ?_
              refine g_lload_n 316 (gd rfl) rfl rfl ?_
              refine g_lsub 317 (gd rfl) rfl (fun z316 e316 => ?_)
              refine g_ldc2_w 1000000007 320 (gd rfl) rfl rfl ?_
              refine g_lrem 321 (gd rfl) rfl (by decide) (fun z320 e320 => ?_)
              have i320 := l_rem (-1000000006) 1000000006 e320 rfl
              refine g_goto 325 (gd rfl) rfl ?_
              refine g_lstore_n 326 (gd rfl) rfl (Nat.le_of_ble_eq_true rfl) ?_
              refine g_lload_n 327 (gd rfl) rfl rfl ?_
              refine g_aload_n 328 (gd rfl) rfl rfl ?_
              refine g_getA (q2 := 161) 331 (gd rfl) rfl rfl rfl rfl ?_
              refine g_bipush 33 333 (gd rfl) rfl rfl ?_
              refine g_iload_n 334 (gd rfl) rfl rfl ?_
              refine g_imul 335 (gd rfl) rfl (fun z334 e334 => ?_)
              have i334 := in_mulc 33 33 1023 (Or.inl e334) j231_3 rfl rfl
              refine g_laload 336 (gd rfl) rfl (n := 1024) rfl (in_ix i334 rfl) (fun z335 e335 => ?_)
              refine g_lmul 337 (gd rfl) rfl (fun z336 e336 => ?_)
              refine g_ldc2_w 1000000007 340 (gd rfl) rfl rfl ?_
              refine g_lrem 341 (gd rfl) rfl (by decide) (fun z340 e340 => ?_)
              have i340 := l_rem (-1000000006) 1000000006 e340 rfl
              refine g_lstore_n 342 (gd rfl) rfl (Nat.le_of_ble_eq_true rfl) ?_
              refine g_aload_n 343 (gd rfl) rfl rfl ?_
              refine g_getA (q2 := 161) 346 (gd rfl) rfl rfl rfl rfl ?_
              refine g_bipush 33 348 (gd rfl) rfl rfl ?_
              refine g_iload_n 349 (gd rfl) rfl rfl ?_
              refine g_imul 350 (gd rfl) rfl (fun z349 e349 => ?_)
              have i349 := in_mulc 33 33 1023 (Or.inl e349) j231_3 rfl rfl
              refine g_laload 351 (gd rfl) rfl (n := 1024) rfl (in_ix i349 rfl) (fun z350 e350 => ?_)
              refine g_ldc2_w 1000000005 354 (gd rfl) rfl rfl ?_
              refine g_calls (As := [.long z350, .long (Int64.ofInt 1000000005)]) (r := []) 357 (gd rfl) rfl rfl rfl rfl rfl (Nat.le_of_ble_eq_true rfl) (Nat.zero_le _) (Nat.zero_le _) (k_367 (by first | exact dq1 hd rfl | exact dq0 hd rfl | exact dq2 hd rfl | exact dq3 hd rfl | omega) hIc231 ) (fun v u h => ?_)
              obtain ⟨z354, rfl, rfl⟩ := h
              show GG _ _ _ _ _ _ _ _ [.long z354] _ _ _
              refine g_lstore 359 (gd rfl) rfl (Nat.le_of_ble_eq_true rfl) ?_
              refine g_iload_n 360 (gd rfl) rfl rfl ?_
              refine g_iconst 1 361 (gd rfl) rfl rfl ?_
              refine g_iadd 362 (gd rfl) rfl (fun z361 e361 => ?_)
              have i361 := in_add 2 32 e361 j231_3 (in_c 1 rfl) rfl rfl
              refine g_istore 364 (gd rfl) rfl (Nat.le_of_ble_eq_true rfl) ?_
              exact gg_w (by first | exact Nat.le_add_right _ _ | exact gw2 | exact gw3 | exact gwe rfl | exact gwf rfl | exact gwg rfl | exact gwh rfl | omega) (gg_f (gf_cons rfl (gf_cons rfl (gf_cons rfl (gf_cons rfl (gf_cons rfl (gf_cons rfl gf_nil)))))) (ct364 31 sc231 z340 y231_4 z354 z361 hIc231 hFc231 (in_w 1 31 j231_3 rfl) (in_w 0 31 j231_4 rfl) (in_w 2 32 i361 rfl) (m_in 31 (in_w 2 32 i361 rfl) rfl)))
          · skip
            have i237 := r_lt1 0 31 c237 j231_5 ro_109_20 rfl
            have i237a := r_lt2 1 32 c237 j231_5 ro_109_20 rfl
            refine g_iload 242 (gd rfl) rfl rfl ?_
            refine g_iload_n 243 (gd rfl) rfl rfl ?_
            refine g_cmp_eq 246 306 (gd rfl) rfl rfl (fun c243 => ?_) (fun c243 => ?_)
            · skip
              have i243 := r_eq1 1 31 c243 j231_4 j231_3 rfl
              refine g_iload 308 (gd rfl) rfl rfl ?_
              refine g_iload_n 309 (gd rfl) rfl rfl ?_
              refine g_cmp_eq 312 324 (gd rfl) rfl rfl (fun c309 => ?_) (fun c309 => ?_)
              · skip
                refine g_lload_n 325 (gd rfl) rfl rfl ?_
                refine g_lstore_n 326 (gd rfl) rfl (Nat.le_of_ble_eq_true rfl) ?_
                refine g_lload_n 327 (gd rfl) rfl rfl ?_
                refine g_aload_n 328 (gd rfl) rfl rfl ?_
                refine g_getA (q2 := 161) 331 (gd rfl) rfl rfl rfl rfl ?_
                refine g_bipush 33 333 (gd rfl) rfl rfl ?_
                refine g_iload_n 334 (gd rfl) rfl rfl ?_
                refine g_imul 335 (gd rfl) rfl (fun z334 e334 => ?_)
                have i334 := in_mulc 33 33 1023 (Or.inl e334) j231_3 rfl rfl
                refine g_laload 336 (gd rfl) rfl (n := 1024) rfl (in_ix i334 rfl) (fun z335 e335 => ?_)
                refine g_lmul 337 (gd rfl) rfl (fun z336 e336 => ?_)
                refine g_ldc2_w 1000000007 340 (gd rfl) rfl rfl ?_
                refine g_lrem 341 (gd rfl) rfl (by decide) (fun z340 e340 => ?_)
                have i340 := l_rem (-1000000006) 1000000006 e340 rfl
                refine g_lstore_n 342 (gd rfl) rfl (Nat.le_of_ble_eq_true rfl) ?_
                refine g_aload_n 343 (gd rfl) rfl rfl ?_
                refine g_getA (q2 := 161) 346 (gd rfl) rfl rfl rfl rfl ?_
                refine g_bipush 33 348 (gd rfl) rfl rfl ?_
                refine g_iload_n 349 (gd rfl) rfl rfl ?_
                refine g_imul 350 (gd rfl) rfl (fun z349 e349 => ?_)
                have i349 := in_mulc 33 33 1023 (Or.inl e349) j231_3 rfl rfl
                refine g_laload 351 (gd rfl) rfl (n := 1024) rfl (in_ix i349 rfl) (fun z350 e350 => ?_)
                refine g_ldc2_w 1000000005 354 (gd rfl) rfl rfl ?_
                refine g_calls (As := [.long z350, .long (Int64.ofInt 1000000005)]) (r := []) 357 (gd rfl) rfl rfl rfl rfl rfl (Nat.le_of_ble_eq_true rfl) (Nat.zero_le _) (Nat.zero_le _) (k_367 (by first | exact dq1 hd rfl | exact dq0 hd rfl | exact dq2 hd rfl | exact dq3 hd rfl | omega) hIc231 ) (fun v u h => ?_)
                obtain ⟨z354, rfl, rfl⟩ := h
                show GG _ _ _ _ _ _ _ _ [.long z354] _ _ _
                refine g_lstore 359 (gd rfl) rfl (Nat.le_of_ble_eq_true rfl) ?_
                refine g_iload_n 360 (gd rfl) rfl rfl ?_
                refine g_iconst 1 361 (gd rfl) rfl rfl ?_
                refine g_iadd 362 (gd rfl) rfl (fun z361 e361 => ?_)
                have i361 := in_add 2 32 e361 j231_3 (in_c 1 rfl) rfl rfl
                refine g_istore 364 (gd rfl) rfl (Nat.le_of_ble_eq_true rfl) ?_
                exact gg_w (by first | exact Nat.le_add_right _ _ | exact gw2 | exact gw3 | exact gwe rfl | exact gwf rfl | exact gwg rfl | exact gwh rfl | omega) (gg_f (gf_cons rfl (gf_cons rfl (gf_cons rfl (gf_cons rfl (gf_cons rfl (gf_cons rfl gf_nil)))))) (ct364 31 sc231 z340 y231_4 z354 z361 hIc231 hFc231 (in_w 1 31 j231_3 rfl) (in_w 0 31 i243 rfl) (in_w 2 32 i361 rfl) (m_in 31 (in_w 2 32 i361 rfl) rfl)))
              · skip
                refine g_ldc2_w 1000000007 315 (gd rfl) rfl rfl ?_
                refine g_lload_n 316 (gd rfl) rfl rfl ?_
                refine g_lsub 317 (gd rfl) rfl (fun z316 e316 => ?_)
                refine g_ldc2_w 1000000007 320 (gd rfl) rfl rfl ?_
                refine g_lrem 321 (gd rfl) rfl (by decide) (fun z320 e320 => ?_)
                have i320 := l_rem (-1000000006) 1000000006 e320 rfl
                refine g_goto 325 (gd rfl) rfl ?_
                refine g_lstore_n 326 (gd rfl) rfl (Nat.le_of_ble_eq_true rfl) ?_
                refine g_lload_n 327 (gd rfl) rfl rfl ?_
                refine g_aload_n 328 (gd rfl) rfl rfl ?_
                refine g_getA (q2 := 161) 331 (gd rfl) rfl rfl rfl rfl ?_
                refine g_bipush 33 333 (gd rfl) rfl rfl ?_
                refine g_iload_n 334 (gd rfl) rfl rfl ?_
                refine g_imul 335 (gd rfl) rfl (fun z334 e334 => ?_)
                have i334 := in_mulc 33 33 1023 (Or.inl e334) j231_3 rfl rfl
                refine g_laload 336 (gd rfl) rfl (n := 1024) rfl (in_ix i334 rfl) (fun z335 e335 => ?_)
                refine g_lmul 337 (gd rfl) rfl (fun z336 e336 => ?_)
                refine g_ldc2_w 1000000007 340 (gd rfl) rfl rfl ?_
                refine g_lrem 341 (gd rfl) rfl (by decide) (fun z340 e340 => ?_)
                have i340 := l_rem (-1000000006) 1000000006 e340 rfl
                refine g_lstore_n 342 (gd rfl) rfl (Nat.le_of_ble_eq_true rfl) ?_
                refine g_aload_n 343 (gd rfl) rfl rfl ?_
                refine g_getA (q2 := 161) 346 (gd rfl) rfl rfl rfl rfl ?_
                refine g_bipush 33 348 (gd rfl) rfl rfl ?_
                refine g_iload_n 349 (gd rfl) rfl rfl ?_
                refine g_imul 350 (gd rfl) rfl (fun z349 e349 => ?_)
                have i349 := in_mulc 33 33 1023 (Or.inl e349) j231_3 rfl rfl
                refine g_laload 351 (gd rfl) rfl (n := 1024) rfl (in_ix i349 rfl) (fun z350 e350 => ?_)
                refine g_ldc2_w 1000000005 354 (gd rfl) rfl rfl ?_
                refine g_calls (As := [.long z350, .long (Int64.ofInt 1000000005)]) (r := []) 357 (gd rfl) rfl rfl rfl rfl rfl (Nat.le_of_ble_eq_true rfl) (Nat.zero_le _) (Nat.zero_le _) (k_367 (by first | exact dq1 hd rfl | exact dq0 hd rfl | exact dq2 hd rfl | exact dq3 hd rfl | omega) hIc231 ) (fun v u h => ?_)
                obtain ⟨z354, rfl, rfl⟩ := h
                show GG _ _ _ _ _ _ _ _ [.long z354] _ _ _
                refine g_lstore 359 (gd rfl) rfl (Nat.le_of_ble_eq_true rfl) ?_
                refine g_iload_n 360 (gd rfl) rfl rfl ?_
                refine g_iconst 1 361 (gd rfl) rfl rfl ?_
                refine g_iadd 362 (gd rfl) rfl (fun z361 e361 => ?_)
                have i361 := in_add 2 32 e361 j231_3 (in_c 1 rfl) rfl rfl
                refine g_istore 364 (gd rfl) rfl (Nat.le_of_ble_eq_true rfl) ?_
                exact gg_w (by first | exact Nat.le_add_right _ _ | exact gw2 | exact gw3 | exact gwe rfl | exact gwf rfl | exact gwg rfl | exact gwh rfl | omega) (gg_f (gf_cons rfl (gf_cons rfl (gf_cons rfl (gf_cons rfl (gf_cons rfl (gf_cons rfl gf_nil)))))) (ct364 31 sc231 z340 y231_4 z354 z361 hIc231 hFc231 (in_w 1 31 j231_3 rfl) (in_w 0 31 i243 rfl) (in_w 2 32 i361 rfl) (m_in 31 (in_w 2 32 i361 rfl) rfl)))
            · skip
              refine g_aload_n 247 (gd rfl) rfl rfl ?_
              refine g_getA (q2 := 161) 250 (gd rfl) rfl rfl rfl rfl ?_
              refine g_bipush 32 252 (gd rfl) rfl rfl ?_
              refine g_iload 254 (gd rfl) rfl rfl ?_
              refine g_imul 255 (gd rfl) rfl (fun z254 e254 => ?_)
              have i254 := in_mulc 32 0 992 (Or.inl e254) j231_4 rfl rfl
              refine g_iload 257 (gd rfl) rfl rfl ?_
              refine g_iadd 258 (gd rfl) rfl (fun z257 e257 => ?_)
              have i257 := in_add 0 1023 e257 i254 i237 rfl rfl
              refine g_laload 259 (gd rfl) rfl (n := 1024) rfl (in_ix i257 rfl) (fun z258 e258 => ?_)
              refine g_lstore 261 (gd rfl) rfl (Nat.le_of_ble_eq_true rfl) ?_
              refine g_aload_n 262 (gd rfl) rfl rfl ?_
              refine g_getA (q2 := 161) 265 (gd rfl) rfl rfl rfl rfl ?_
              refine g_bipush 32 267 (gd rfl) rfl rfl ?_
              refine g_iload 269 (gd rfl) rfl rfl ?_
              refine g_imul 270 (gd rfl) rfl (fun z269 e269 => ?_)
              have i269 := in_mulc 32 0 992 (Or.inl e269) j231_4 rfl rfl
              refine g_iload 272 (gd rfl) rfl rfl ?_
              refine g_iadd 273 (gd rfl) rfl (fun z272 e272 => ?_)
              have i272 := in_add 0 1023 e272 i269 i237 rfl rfl
              refine g_aload_n 274 (gd rfl) rfl rfl ?_
              refine g_getA (q2 := 161) 277 (gd rfl) rfl rfl rfl rfl ?_
              refine g_bipush 32 279 (gd rfl) rfl rfl ?_
              refine g_iload_n 280 (gd rfl) rfl rfl ?_
              refine g_imul 281 (gd rfl) rfl (fun z280 e280 => ?_)
              have i280 := in_mulc 32 32 992 (Or.inl e280) j231_3 rfl rfl
              refine g_iload 283 (gd rfl) rfl rfl ?_
              refine g_iadd 284 (gd rfl) rfl (fun z283 e283 => ?_)
              have i283 := in_add 32 1023 e283 i280 i237 rfl rfl
              refine g_laload 285 (gd rfl) rfl (n := 1024) rfl (in_ix i283 rfl) (fun z284 e284 => ?_)
              refine g_lastore 286 (gd rfl) rfl (n := 1024) rfl (in_ix i272 rfl) ?_
              have hI285 := inv_sL (q := 161) (j := z272.toNatClampNeg) (x := z284) hIc231 rfl (l_rng z284)
              refine g_aload_n 287 (gd rfl) rfl rfl ?_
              refine g_getA (q2 := 161) 290 (gd rfl) rfl rfl rfl rfl ?_
              refine g_bipush 32 292 (gd rfl) rfl rfl ?_
              refine g_iload_n 293 (gd rfl) rfl rfl ?_
              refine g_imul 294 (gd rfl) rfl (fun z293 e293 => ?_)
              have i293 := in_mulc 32 32 992 (Or.inl e293) j231_3 rfl rfl
              refine g_iload 296 (gd rfl) rfl rfl ?_
              refine g_iadd 297 (gd rfl) rfl (fun z296 e296 => ?_)
              have i296 := in_add 32 1023 e296 i293 i237 rfl rfl
              refine g_lload 299 (gd rfl) rfl rfl ?_
              refine g_lastore 300 (gd rfl) rfl (n := 1024) rfl (in_ix i296 rfl) ?_
              have hI299 := inv_sL (q := 161) (j := z296.toNatClampNeg) (x := z258) hI285 rfl (l_rng z258)
              refine g_iinc 303 (gd rfl) rfl rfl (Nat.le_of_ble_eq_true rfl) (fun z300 e300 => ?_)
              have i300 := in_add 1 32 e300 i237 (in_c 1 rfl) rfl rfl
              refine g_goto 231 (gd rfl) rfl ?_
              exact gg_w (by first | exact Nat.le_add_right _ _ | exact gw2 | exact gw3 | exact gwe rfl | exact gwf rfl | exact gwg rfl | exact gwh rfl | omega) (gg_f (gf_cons rfl (gf_cons rfl (gf_cons rfl (gf_cons rfl (gf_cons rfl gf_nil))))) (ih231 (sL (sL sc231 161 z272.toNatClampNeg z284) 161 z296.toNatClampNeg z258) y231_4 z300 hI299 (fr_sL rfl (fr_sL rfl hFc231)) (in_w 1 31 j231_3 rfl) (in_w 0 31 j231_4 rfl) (in_w 0 32 i300 rfl) (m_up mm231 (t_add e300 i237 (in_c 1 rfl) rfl) (in_w 1 1 (in_c 1 rfl) rfl))))
      have ct185 : ∀ (k185 : Nat) (sc185 : GS) (y185_4 : Int32), Inv sc185 → Fr fm_368 s sc185 → (In y174_3 1 31) → (In y185_4 1 32) → ((y185_4).toInt ≤ (u_109_20).toInt) → 32 - (y185_4).toInt < (k185 : Int) → GG Z (d - 1) 368 post (gx xp) (1 + k174 * 1071935 + 1006234 + k185 * 900) 185 (fun j => xlook j [(0, .ref (A 109)), (1, .long y174_1), (3, .int y174_3), (4, .int y185_4)]) [] (WW Z A sc185 ++ ex) 0 0 := by
        intro k185
        induction k185 with
        | zero => intro sc185 y185_4 hIc185 hFc185 j185_3 j185_4 n185_0 mm185; exact m_no mm185 j185_4 rfl
        | succ k185 ih185 =>
          intro sc185 y185_4 hIc185 hFc185 j185_3 j185_4 n185_0 mm185
          refine gg_w (M := 1 + k174 * 1071935 + 1006234 + k185 * 900 + 900) gws ?_
          refine g_iload 187 (gd rfl) rfl rfl ?_
          refine g_aload_n 188 (gd rfl) rfl rfl ?_
          refine g_getI 191 (gd rfl) rfl rfl rfl (fun z188 e188 => ?_)
          have q188 : u_109_20 = z188 := (fr_F e_109_20 hFc185 rfl).trans e188.symm
          subst q188
          refine g_cmp_ge 194 217 (gd rfl) rfl rfl (fun c191 => ?_) (fun c191 => ?_)
          · skip
            refine g_iload 219 (gd rfl) rfl rfl ?_
            refine g_aload_n 220 (gd rfl) rfl rfl ?_
            refine g_getI 223 (gd rfl) rfl rfl rfl (fun z220 e220 => ?_)
            have q220 : u_109_20 = z220 := (fr_F e_109_20 hFc185 rfl).trans e220.symm
            subst q220
            refine g_cmp_ne 226 228 (gd rfl) rfl rfl (fun c223 => ?_) (fun c223 => ?_)
            · skip
              refine g_iconst 0 229 (gd rfl) rfl rfl ?_
              refine g_istore 231 (gd rfl) rfl (Nat.le_of_ble_eq_true rfl) ?_
              have i231 : In y185_4 0 31 := by exact ⟨by (first | have a0 := oa5 j185_3 ro_109_20 ro_109_19 j185_4 ((in_c 0 rfl)) | ((first | have a0 := in_u j185_3 | (have a0 := j185_3; unfold In at a0)); (first | have a1 := in_u ro_109_20 | (have a1 := ro_109_20; unfold In at a1)); (first | have a2 := in_u ro_109_19 | (have a2 := ro_109_19; unfold In at a2)); (first | have a3 := in_u j185_4 | (have a3 := j185_4; unfold In at a3)); (first | have a4 := in_u ((in_c 0 rfl)) | (have a4 := (in_c 0 rfl); unfold In at a4)))); omega, by (first | have a0 := oa5 j185_3 ro_109_20 ro_109_19 j185_4 ((in_c 0 rfl)) | ((first | have a0 := in_u j185_3 | (have a0 := j185_3; unfold In at a0)); (first | have a1 := in_u ro_109_20 | (have a1 := ro_109_20; unfold In at a1)); (first | have a2 := in_u ro_109_19 | (have a2 := ro_109_19; unfold In at a2)); (first | have a3 := in_u j185_4 | (have a3 := j185_4; unfold In at a3)); (first | have a4 := in_u ((in_c 0 rfl)) | (have a4 := (in_c 0 rfl); unfold In at a4)))); omega⟩
              exact gg_w (by first | exact Nat.le_add_right _ _ | exact gw2 | exact gw3 | exact gwe rfl | exact gwf rfl | exact gwg rfl | exact gwh rfl | omega) (gg_f (gf_cons rfl (gf_cons rfl (gf_cons rfl (gf_cons rfl (gf_cons rfl gf_nil))))) (ct231 33 sc185 y185_4 (Int32.ofInt 0) hIc185 hFc185 (in_w 1 31 j185_3 rfl) i231 (in_w 0 32 (in_c 0 rfl) rfl) (m_in 33 (in_w 0 32 (in_c 0 rfl) rfl) rfl)))
            · skip
              have i223 := r_eq2 1 32 c223 j185_4 ro_109_20 rfl
              refine g_iconst 0 227 (gd rfl) rfl rfl ?_
              exact g_ireturn (gd rfl) rfl rfl (hP _ _ ⟨sc185, hIc185, hFc185, (Int32.ofInt 0), rfl, rfl, in_w (-2147483648) 2147483647 (in_c 0 rfl) rfl⟩)
          · skip
            have i191 := r_lt1 1 31 c191 j185_4 ro_109_20 rfl
            have i191a := r_lt2 2 32 c191 j185_4 ro_109_20 rfl
            refine g_aload_n 195 (gd rfl) rfl rfl ?_
            refine g_getA (q2 := 161) 198 (gd rfl) rfl rfl rfl rfl ?_
            refine g_bipush 32 200 (gd rfl) rfl rfl ?_
            refine g_iload 202 (gd rfl) rfl rfl ?_
            refine g_imul 203 (gd rfl) rfl (fun z202 e202 => ?_)
            have i202 := in_mulc 32 32 992 (Or.inl e202) i191 rfl rfl
            refine g_iload_n 204 (gd rfl) rfl rfl ?_
            refine g_iadd 205 (gd rfl) rfl (fun z204 e204 => ?_)
            have i204 := in_add 33 1023 e204 i202 j185_3 rfl rfl
            refine g_laload 206 (gd rfl) rfl (n := 1024) rfl (in_ix i204 rfl) (fun z205 e205 => ?_)
            refine g_lconst 0 207 (gd rfl) rfl rfl ?_
            refine g_lcmp 208 (gd rfl) rfl (fun z207 e207 => ?_)
            have i207 := lc_in e207
            refine g_if_ne 211 217 (gd rfl) rfl rfl (fun c208 => ?_) (fun c208 => ?_)
            · skip
              have c208a := lc_ne e207 c208
              refine g_iload 219 (gd rfl) rfl rfl ?_
              refine g_aload_n 220 (gd rfl) rfl rfl ?_
              refine g_getI 223 (gd rfl) rfl rfl rfl (fun z220 e220 => ?_)
              have q220 : u_109_20 = z220 := (fr_F e_109_20 hFc185 rfl).trans e220.symm
              subst q220
              refine g_cmp_ne 226 228 (gd rfl) rfl rfl (fun c223 => ?_) (fun c223 => ?_)
              · skip
                refine g_iconst 0 229 (gd rfl) rfl rfl ?_
                refine g_istore 231 (gd rfl) rfl (Nat.le_of_ble_eq_true rfl) ?_
                exact gg_w (by first | exact Nat.le_add_right _ _ | exact gw2 | exact gw3 | exact gwe rfl | exact gwf rfl | exact gwg rfl | exact gwh rfl | omega) (gg_f (gf_cons rfl (gf_cons rfl (gf_cons rfl (gf_cons rfl (gf_cons rfl gf_nil))))) (ct231 33 sc185 y185_4 (Int32.ofInt 0) hIc185 hFc185 (in_w 1 31 j185_3 rfl) (in_w 0 31 i191 rfl) (in_w 0 32 (in_c 0 rfl) rfl) (m_in 33 (in_w 0 32 (in_c 0 rfl) rfl) rfl)))
              · skip
                have i223 := r_eq1 2 31 c223 i191 i191a rfl
                have i223a := r_eq2 2 31 c223 i191 i191a rfl
                refine g_iconst 0 227 (gd rfl) rfl rfl ?_
                exact g_ireturn (gd rfl) rfl rfl (hP _ _ ⟨sc185, hIc185, hFc185, (Int32.ofInt 0), rfl, rfl, in_w (-2147483648) 2147483647 (in_c 0 rfl) rfl⟩)
            · skip
              have i208 := z_eq 0 0 c208 i207 rfl
              have c208a := lc_eq e207 c208
              have i208a := lr_eq1 0 0 c208a (l_rng z205) (l_c 0 rfl) rfl
              refine g_iinc 214 (gd rfl) rfl rfl (Nat.le_of_ble_eq_true rfl) (fun z211 e211 => ?_)
              have i211 := in_add 2 32 e211 i191 (in_c 1 rfl) rfl rfl
              refine g_goto 185 (gd rfl) rfl ?_
              have n185 : (z211).toInt ≤ (u_109_20).toInt := by (first | have a0 := oa5 j185_3 i191a ro_109_19 i191 i211 | ((first | have a0 := in_u j185_3 | (have a0 := j185_3; unfold In at a0)); (first | have a1 := in_u i191a | (have a1 := i191a; unfold In at a1)); (first | have a2 := in_u ro_109_19 | (have a2 := ro_109_19; unfold In at a2)); (first | have a3 := in_u i191 | (have a3 := i191; unfold In at a3)); (first | have a4 := in_u i211 | (have a4 := i211; unfold In at a4)))); have a5 := t_add e211 i191 (in_c 1 rfl) rfl; (first | have a6 := oa2 ((in_c 1 rfl)) i204 | ((first | have a6 := in_u ((in_c 1 rfl)) | (have a6 := (in_c 1 rfl); unfold In at a6)); (first | have a7 := in_u i204 | (have a7 := i204; unfold In at a7)))); have a8 := t_add e204 i202 j185_3 rfl; (first | have a9 := in_u i202 | (have a9 := i202; unfold In at a9)); have a10 := (t_mulc 32 (Or.inl e202) i191 rfl).1; omega
              exact gg_w (by first | exact Nat.le_add_right _ _ | exact gw2 | exact gw3 | exact gwe rfl | exact gwf rfl | exact gwg rfl | exact gwh rfl | omega) (gg_f (gf_cons rfl (gf_cons rfl (gf_cons rfl (gf_cons rfl gf_nil)))) (ih185 sc185 z211 hIc185 hFc185 (in_w 1 31 j185_3 rfl) (in_w 1 32 i211 rfl) n185 (m_up mm185 (t_add e211 i191 (in_c 1 rfl) rfl) (in_w 1 1 (in_c 1 rfl) rfl))))
      refine g_iload_n 175 (gd rfl) rfl rfl ?_
      refine g_aload_n 176 (gd rfl) rfl rfl ?_
      refine g_getI 179 (gd rfl) rfl rfl rfl (fun z176 e176 => ?_)
      have q176 : u_109_20 = z176 := (fr_F e_109_20 hFc174 rfl).trans e176.symm
      subst q176
      refine g_cmp_ge 182 474 (gd rfl) rfl rfl (fun c179 => ?_) (fun c179 => ?_)
      · skip
        refine g_lload_n 475 (gd rfl) rfl rfl ?_
        refine g_l2i 476 (gd rfl) rfl (fun z475 e475 => ?_)
        exact g_ireturn (gd rfl) rfl rfl (hP _ _ ⟨sc174, hIc174, hFc174, z475, rfl, rfl, in_w (-2147483648) 2147483647 (i_rng z475) rfl⟩)
      · skip
        have i179 := r_lt1 1 31 c179 j174_3 ro_109_20 rfl
        have i179a := r_lt2 2 32 c179 j174_3 ro_109_20 rfl
        refine g_iload_n 183 (gd rfl) rfl rfl ?_
        refine g_istore 185 (gd rfl) rfl (Nat.le_of_ble_eq_true rfl) ?_
        have n185 : (y174_3).toInt ≤ (u_109_20).toInt := by (first | have a0 := oa3 i179a ro_109_19 i179 | ((first | have a0 := in_u i179a | (have a0 := i179a; unfold In at a0)); (first | have a1 := in_u ro_109_19 | (have a1 := ro_109_19; unfold In at a1)); (first | have a2 := in_u i179 | (have a2 := i179; unfold In at a2)))); omega
        exact gg_w (by first | exact Nat.le_add_right _ _ | exact gw2 | exact gw3 | exact gwe rfl | exact gwf rfl | exact gwg rfl | exact gwh rfl | omega) (gg_f (gf_cons rfl (gf_cons rfl (gf_cons rfl (gf_cons rfl gf_nil)))) (ct185 32 sc174 y174_3 hIc174 hFc174 (in_w 1 31 i179 rfl) (in_w 1 32 i179 rfl) n185 (m_in 32 (in_w 1 32 i179 rfl) rfl)))
  have ct145 : ∀ (k145 : Nat) (sc145 : GS) (y145_1 : Int32), Inv sc145 → Fr fm_368 s sc145 → (In y145_1 0 1024) → 1024 - (y145_1).toInt < (k145 : Int) → GG Z (d - 1) 368 post (gx xp) (34301922 + k145 * 900) 145 (fun j => xlook j [(0, .ref (A 109)), (1, .int y145_1)]) [] (WW Z A sc145 ++ ex) 0 0 := by
    intro k145
    induction k145 with
    | zero => intro sc145 y145_1 hIc145 hFc145 j145_1 mm145; exact m_no mm145 j145_1 rfl
    | succ k145 ih145 =>
      intro sc145 y145_1 hIc145 hFc145 j145_1 mm145
      refine gg_w (M := 34301922 + k145 * 900 + 900) gws ?_
      refine g_iload_n 146 (gd rfl) rfl rfl ?_
      refine g_sipush 1024 149 (gd rfl) rfl rfl ?_
      refine g_cmp_ge 152 170 (gd rfl) rfl rfl (fun c149 => ?_) (fun c149 => ?_)
      · skip
        have i149 := r_le2 1024 1024 c149 (in_c 1024 rfl) j145_1 rfl
        refine g_lconst 1 171 (gd rfl) rfl rfl ?_
        refine g_lstore_n 172 (gd rfl) rfl (Nat.le_of_ble_eq_true rfl) ?_
        refine g_iconst 1 173 (gd rfl) rfl rfl ?_
        refine g_istore_n 174 (gd rfl) rfl (Nat.le_of_ble_eq_true rfl) ?_
        exact gg_w (by first | exact Nat.le_add_right _ _ | exact gw2 | exact gw3 | exact gwe rfl | exact gwf rfl | exact gwg rfl | exact gwh rfl | omega) (gg_f (gf_cons rfl (gf_cons rfl (gf_cons rfl gf_nil))) (ct174 32 sc145 (Int64.ofInt 1) (Int32.ofInt 1) hIc145 hFc145 (in_w 1 32 (in_c 1 rfl) rfl) (m_in 32 (in_w 1 32 (in_c 1 rfl) rfl) rfl)))
      · skip
        have i149 := r_lt1 0 1023 c149 j145_1 (in_c 1024 rfl) rfl
        refine g_aload_n 153 (gd rfl) rfl rfl ?_
        refine g_getA (q2 := 161) 156 (gd rfl) rfl rfl rfl rfl ?_
        refine g_iload_n 157 (gd rfl) rfl rfl ?_
        refine g_dup2 158 (gd rfl) rfl rfl rfl ?_
        refine g_laload 159 (gd rfl) rfl (n := 1024) rfl (in_ix i149 rfl) (fun z158 e158 => ?_)
        refine g_ldc2_w 1000000007 162 (gd rfl) rfl rfl ?_
        refine g_lrem 163 (gd rfl) rfl (by decide) (fun z162 e162 => ?_)
        have i162 := l_rem (-1000000006) 1000000006 e162 rfl
        refine g_lastore 164 (gd rfl) rfl (n := 1024) rfl (in_ix i149 rfl) ?_
        have hI163 := inv_sL (q := 161) (j := y145_1.toNatClampNeg) (x := z162) hIc145 rfl (l_rng z162)
        refine g_iinc 167 (gd rfl) rfl rfl (Nat.le_of_ble_eq_true rfl) (fun z164 e164 => ?_)
        have i164 := in_add 1 1024 e164 i149 (in_c 1 rfl) rfl rfl
        refine g_goto 145 (gd rfl) rfl ?_
        exact gg_w (by first | exact Nat.le_add_right _ _ | exact gw2 | exact gw3 | exact gwe rfl | exact gwf rfl | exact gwg rfl | exact gwh rfl | omega) (gg_f (gf_cons rfl (gf_cons rfl gf_nil)) (ih145 (sL sc145 161 y145_1.toNatClampNeg z162) z164 hI163 (fr_sL rfl hFc145) (in_w 0 1024 i164 rfl) (m_up mm145 (t_add e164 i149 (in_c 1 rfl) rfl) (in_w 1 1 (in_c 1 rfl) rfl))))
  have ct38 : ∀ (k38 : Nat) (sc38 : GS) (y38_1 : Int32), Inv sc38 → Fr fm_368 s sc38 → (In y38_1 0 160) → 160 - (y38_1).toInt < (k38 : Int) → GG Z (d - 1) 368 post (gx xp) (35224423 + k38 * 900) 38 (fun j => xlook j [(0, .ref (A 109)), (1, .int y38_1)]) [] (WW Z A sc38 ++ ex) 0 0 := by
    intro k38
    induction k38 with
    | zero => intro sc38 y38_1 hIc38 hFc38 j38_1 mm38; exact m_no mm38 j38_1 rfl
    | succ k38 ih38 =>
      intro sc38 y38_1 hIc38 hFc38 j38_1 mm38
      refine gg_w (M := 35224423 + k38 * 900 + 900) gws ?_
      refine g_iload_n 39 (gd rfl) rfl rfl ?_
      refine g_sipush 160 42 (gd rfl) rfl rfl ?_
      refine g_cmp_ge 45 143 (gd rfl) rfl rfl (fun c42 => ?_) (fun c42 => ?_)
      · skip
        have i42 := r_le2 160 160 c42 (in_c 160 rfl) j38_1 rfl
        refine g_iconst 0 144 (gd rfl) rfl rfl ?_
        refine g_istore_n 145 (gd rfl) rfl (Nat.le_of_ble_eq_true rfl) ?_
        exact gg_w (by first | exact Nat.le_add_right _ _ | exact gw2 | exact gw3 | exact gwe rfl | exact gwf rfl | exact gwg rfl | exact gwh rfl | omega) (gg_f (gf_cons rfl (gf_cons rfl gf_nil)) (ct145 1025 sc38 (Int32.ofInt 0) hIc38 hFc38 (in_w 0 1024 (in_c 0 rfl) rfl) (m_in 1025 (in_w 0 1024 (in_c 0 rfl) rfl) rfl)))
      · skip
        have i42 := r_lt1 0 159 c42 j38_1 (in_c 160 rfl) rfl
        refine g_aload_n 46 (gd rfl) rfl rfl ?_
        refine g_iload_n 47 (gd rfl) rfl rfl ?_
        refine g_callv (X := _) (As := [.int y38_1]) (r := []) (b := A 109) (q := 109) 50 (gd rfl) rfl rfl rfl rfl rfl (ww_o rfl) (Nat.le_of_ble_eq_true rfl) (mc := 0) (ms := 0) (Nat.zero_le _) (Nat.zero_le _) (P := fun v u => _) ?_ (fun e u h => h) (fun v u h => h)
        intro po47 xx47 hp47 hx47
        refine g_enter2 (k := 288) (N := 300) (by first | exact dq1 hd rfl | exact dq0 hd rfl | exact dq2 hd rfl | exact dq3 hd rfl | omega) rfl (Nat.le_of_ble_eq_true rfl) ?_
        refine g_aload_n 1 (gd rfl) rfl rfl ?_
        refine g_getA (q2 := 112) 4 (gd rfl) rfl rfl rfl rfl ?_
        refine g_aload_n 5 (gd rfl) rfl rfl ?_
        refine g_getI 8 (gd rfl) rfl rfl rfl (fun z47x5 e47x5 => ?_)
        have q47x5 : u_109_19 = z47x5 := (fr_F e_109_19 hFc38 rfl).trans e47x5.symm
        subst q47x5
        refine g_iload_n 9 (gd rfl) rfl rfl ?_
        refine g_iadd 10 (gd rfl) rfl (fun z47x9 e47x9 => ?_)
        have i47x9 := in_add 0 319 e47x9 ro_109_19 i42 rfl rfl
        refine g_baload 11 (gd rfl) rfl (n := 480) rfl (in_ix i47x9 rfl) (fun z47x10 e47x10 => ?_)
        have i47x10 := inv_I hIc38 (n := 480) (t := 3) 0 1 rfl (in_ix i47x9 rfl) rfl e47x10
        refine g_if_eq 14 43 (gd rfl) rfl rfl (fun c47x11 => ?_) (fun c47x11 => ?_)
        · skip
          have i47x11 := z_eq 0 0 c47x11 i47x10 rfl
          refine g_iconst 0 44 (gd rfl) rfl rfl ?_
          refine g_ireturn (gd rfl) rfl (nb01 (in_w 0 1 (in_c 0 rfl) rfl)) (hp47 _ _ ?_)
          show GG _ _ _ _ _ _ _ _ [.int (Int32.ofInt 0)] _ _ _
          refine g_if_eq 53 137 (gd rfl) rfl rfl (fun c50 => ?_) (fun c50 => ?_)
          · skip
            refine g_iinc 140 (gd rfl) rfl rfl (Nat.le_of_ble_eq_true rfl) (fun z137 e137 => ?_)
            have i137 := in_add 1 160 e137 i42 (in_c 1 rfl) rfl rfl
            refine g_goto 38 (gd rfl) rfl ?_
            exact gg_w (by first | exact Nat.le_add_right _ _ | exact gw2 | exact gw3 | exact gwe rfl | exact gwf rfl | exact gwg rfl | exact gwh rfl | omega) (gg_f (gf_cons rfl (gf_cons rfl gf_nil)) (ih38 sc38 z137 hIc38 hFc38 (in_w 0 160 i137 rfl) (m_up mm38 (t_add e137 i42 (in_c 1 rfl) rfl) (in_w 1 1 (in_c 1 rfl) rfl))))
          · skip
            exact zn_ne c50 (in_c 0 rfl) rfl
        · skip
          have i47x11 := z_ne 1 1 c47x11 i47x10 rfl
          refine g_aload_n 15 (gd rfl) rfl rfl ?_
          refine g_getA (q2 := 113) 18 (gd rfl) rfl rfl rfl rfl ?_
          refine g_aload_n 19 (gd rfl) rfl rfl ?_
          refine g_getI 22 (gd rfl) rfl rfl rfl (fun z47x19 e47x19 => ?_)
          have q47x19 : u_109_19 = z47x19 := (fr_F e_109_19 hFc38 rfl).trans e47x19.symm
          subst q47x19
          refine g_iload_n 23 (gd rfl) rfl rfl ?_
          refine g_iadd 24 (gd rfl) rfl (fun z47x23 e47x23 => ?_)
          have i47x23 := in_add 0 319 e47x23 ro_109_19 i42 rfl rfl
          refine g_iaload 25 (gd rfl) rfl (n := 480) rfl (in_ix i47x23 rfl) (fun z47x24 e47x24 => ?_)
          have i47x24 := inv_I hIc38 (n := 480) (t := 0) 0 31 rfl (in_ix i47x23 rfl) rfl e47x24
          refine g_aload_n 26 (gd rfl) rfl rfl ?_
          refine g_getA (q2 := 114) 29 (gd rfl) rfl rfl rfl rfl ?_
          refine g_aload_n 30 (gd rfl) rfl rfl ?_
          refine g_getI 33 (gd rfl) rfl rfl rfl (fun z47x30 e47x30 => ?_)
          have q47x30 : u_109_19 = z47x30 := (fr_F e_109_19 hFc38 rfl).trans e47x30.symm
          subst q47x30
          refine g_iload_n 34 (gd rfl) rfl rfl ?_
          refine g_iadd 35 (gd rfl) rfl (fun z47x34 e47x34 => ?_)
          have i47x34 := in_add 0 319 e47x34 ro_109_19 i42 rfl rfl
          refine g_iaload 36 (gd rfl) rfl (n := 480) rfl (in_ix i47x34 rfl) (fun z47x35 e47x35 => ?_)
          have i47x35 := inv_I hIc38 (n := 480) (t := 0) 0 31 rfl (in_ix i47x34 rfl) rfl e47x35
          refine g_cmp_eq 39 43 (gd rfl) rfl rfl (fun c47x36 => ?_) (fun c47x36 => ?_)
          · skip
            refine g_iconst 0 44 (gd rfl) rfl rfl ?_
            refine g_ireturn (gd rfl) rfl (nb01 (in_w 0 1 (in_c 0 rfl) rfl)) (hp47 _ _ ?_)
            show GG _ _ _ _ _ _ _ _ [.int (Int32.ofInt 0)] _ _ _
            refine g_if_eq 53 137 (gd rfl) rfl rfl (fun c50 => ?_) (fun c50 => ?_)
            · skip
              refine g_iinc 140 (gd rfl) rfl rfl (Nat.le_of_ble_eq_true rfl) (fun z137 e137 => ?_)
              have i137 := in_add 1 160 e137 i42 (in_c 1 rfl) rfl rfl
              refine g_goto 38 (gd rfl) rfl ?_
              exact gg_w (by first | exact Nat.le_add_right _ _ | exact gw2 | exact gw3 | exact gwe rfl | exact gwf rfl | exact gwg rfl | exact gwh rfl | omega) (gg_f (gf_cons rfl (gf_cons rfl gf_nil)) (ih38 sc38 z137 hIc38 hFc38 (in_w 0 160 i137 rfl) (m_up mm38 (t_add e137 i42 (in_c 1 rfl) rfl) (in_w 1 1 (in_c 1 rfl) rfl))))
            · skip
              exact zn_ne c50 (in_c 0 rfl) rfl
          · skip
            refine g_iconst 1 40 (gd rfl) rfl rfl ?_
            refine g_goto 44 (gd rfl) rfl ?_
            refine g_ireturn (gd rfl) rfl (nb01 (in_w 0 1 (in_c 1 rfl) rfl)) (hp47 _ _ ?_)
            show GG _ _ _ _ _ _ _ _ [.int (Int32.ofInt 1)] _ _ _
            refine g_if_eq 53 137 (gd rfl) rfl rfl (fun c50 => ?_) (fun c50 => ?_)
            · skip
              exact zn_eq c50 (in_c 1 rfl) rfl
            · skip
              refine g_aload_n 54 (gd rfl) rfl rfl ?_
              refine g_getA (q2 := 113) 57 (gd rfl) rfl rfl rfl rfl ?_
              refine g_aload_n 58 (gd rfl) rfl rfl ?_
              refine g_getI 61 (gd rfl) rfl rfl rfl (fun z58 e58 => ?_)
              have q58 : u_109_19 = z58 := (fr_F e_109_19 hFc38 rfl).trans e58.symm
              subst q58
              refine g_iload_n 62 (gd rfl) rfl rfl ?_
              refine g_iadd 63 (gd rfl) rfl (fun z62 e62 => ?_)
              have i62 := in_add 0 319 e62 ro_109_19 i42 rfl rfl
              refine g_iaload 64 (gd rfl) rfl (n := 480) rfl (in_ix i62 rfl) (fun z63 e63 => ?_)
              have i63 := inv_I hIc38 (n := 480) (t := 0) 0 31 rfl (in_ix i62 rfl) rfl e63
              refine g_istore_n 65 (gd rfl) rfl (Nat.le_of_ble_eq_true rfl) ?_
              refine g_aload_n 66 (gd rfl) rfl rfl ?_
              refine g_getA (q2 := 114) 69 (gd rfl) rfl rfl rfl rfl ?_
              refine g_aload_n 70 (gd rfl) rfl rfl ?_
              refine g_getI 73 (gd rfl) rfl rfl rfl (fun z70 e70 => ?_)
              have q70 : u_109_19 = z70 := (fr_F e_109_19 hFc38 rfl).trans e70.symm
              subst q70
              refine g_iload_n 74 (gd rfl) rfl rfl ?_
              refine g_iadd 75 (gd rfl) rfl (fun z74 e74 => ?_)
              have i74 := in_add 0 319 e74 ro_109_19 i42 rfl rfl
              refine g_iaload 76 (gd rfl) rfl (n := 480) rfl (in_ix i74 rfl) (fun z75 e75 => ?_)
              have i75 := inv_I hIc38 (n := 480) (t := 0) 0 31 rfl (in_ix i74 rfl) rfl e75
              refine g_istore_n 77 (gd rfl) rfl (Nat.le_of_ble_eq_true rfl) ?_
              refine g_aload_n 78 (gd rfl) rfl rfl ?_
              refine g_getA (q2 := 161) 81 (gd rfl) rfl rfl rfl rfl ?_
              refine g_bipush 33 83 (gd rfl) rfl rfl ?_
              refine g_iload_n 84 (gd rfl) rfl rfl ?_
              refine g_imul 85 (gd rfl) rfl (fun z84 e84 => ?_)
              have i84 := in_mulc 33 0 1023 (Or.inl e84) i63 rfl rfl
              refine g_dup2 86 (gd rfl) rfl rfl rfl ?_
              refine g_laload 87 (gd rfl) rfl (n := 1024) rfl (in_ix i84 rfl) (fun z86 e86 => ?_)
              refine g_lconst 1 88 (gd rfl) rfl rfl ?_
              refine g_ladd 89 (gd rfl) rfl (fun z88 e88 => ?_)
              refine g_lastore 90 (gd rfl) rfl (n := 1024) rfl (in_ix i84 rfl) ?_
              have hI89 := inv_sL (q := 161) (j := z84.toNatClampNeg) (x := z88) hIc38 rfl (l_rng z88)
              refine g_aload_n 91 (gd rfl) rfl rfl ?_
              refine g_getA (q2 := 161) 94 (gd rfl) rfl rfl rfl rfl ?_
              refine g_bipush 33 96 (gd rfl) rfl rfl ?_
              refine g_iload_n 97 (gd rfl) rfl rfl ?_
              refine g_imul 98 (gd rfl) rfl (fun z97 e97 => ?_)
              have i97 := in_mulc 33 0 1023 (Or.inl e97) i75 rfl rfl
              refine g_dup2 99 (gd rfl) rfl rfl rfl ?_
              refine g_laload 100 (gd rfl) rfl (n := 1024) rfl (in_ix i97 rfl) (fun z99 e99 => ?_)
              refine g_lconst 1 101 (gd rfl) rfl rfl ?_
              refine g_ladd 102 (gd rfl) rfl (fun z101 e101 => ?_)
              refine g_lastore 103 (gd rfl) rfl (n := 1024) rfl (in_ix i97 rfl) ?_
              have hI102 := inv_sL (q := 161) (j := z97.toNatClampNeg) (x := z101) hI89 rfl (l_rng z101)
              refine g_aload_n 104 (gd rfl) rfl rfl ?_
              refine g_getA (q2 := 161) 107 (gd rfl) rfl rfl rfl rfl ?_
              refine g_bipush 32 109 (gd rfl) rfl rfl ?_
              refine g_iload_n 110 (gd rfl) rfl rfl ?_
              refine g_imul 111 (gd rfl) rfl (fun z110 e110 => ?_)
              have i110 := in_mulc 32 0 992 (Or.inl e110) i63 rfl rfl
              refine g_iload_n 112 (gd rfl) rfl rfl ?_
              refine g_iadd 113 (gd rfl) rfl (fun z112 e112 => ?_)
              have i112 := in_add 0 1023 e112 i110 i75 rfl rfl
              refine g_dup2 114 (gd rfl) rfl rfl rfl ?_
              refine g_laload 115 (gd rfl) rfl (n := 1024) rfl (in_ix i112 rfl) (fun z114 e114 => ?_)
              refine g_ldc2_w 1000000006 118 (gd rfl) rfl rfl ?_
              refine g_ladd 119 (gd rfl) rfl (fun z118 e118 => ?_)
              refine g_lastore 120 (gd rfl) rfl (n := 1024) rfl (in_ix i112 rfl) ?_
              have hI119 := inv_sL (q := 161) (j := z112.toNatClampNeg) (x := z118) hI102 rfl (l_rng z118)
              refine g_aload_n 121 (gd rfl) rfl rfl ?_
              refine g_getA (q2 := 161) 124 (gd rfl) rfl rfl rfl rfl ?_
              refine g_bipush 32 126 (gd rfl) rfl rfl ?_
              refine g_iload_n 127 (gd rfl) rfl rfl ?_
              refine g_imul 128 (gd rfl) rfl (fun z127 e127 => ?_)
              have i127 := in_mulc 32 0 992 (Or.inl e127) i75 rfl rfl
              refine g_iload_n 129 (gd rfl) rfl rfl ?_
              refine g_iadd 130 (gd rfl) rfl (fun z129 e129 => ?_)
              have i129 := in_add 0 1023 e129 i127 i63 rfl rfl
              refine g_dup2 131 (gd rfl) rfl rfl rfl ?_
              refine g_laload 132 (gd rfl) rfl (n := 1024) rfl (in_ix i129 rfl) (fun z131 e131 => ?_)
              refine g_ldc2_w 1000000006 135 (gd rfl) rfl rfl ?_
              refine g_ladd 136 (gd rfl) rfl (fun z135 e135 => ?_)
              refine g_lastore 137 (gd rfl) rfl (n := 1024) rfl (in_ix i129 rfl) ?_
              have hI136 := inv_sL (q := 161) (j := z129.toNatClampNeg) (x := z135) hI119 rfl (l_rng z135)
              refine g_iinc 140 (gd rfl) rfl rfl (Nat.le_of_ble_eq_true rfl) (fun z137 e137 => ?_)
              have i137 := in_add 1 160 e137 i42 (in_c 1 rfl) rfl rfl
              refine g_goto 38 (gd rfl) rfl ?_
              exact gg_w (by first | exact Nat.le_add_right _ _ | exact gw2 | exact gw3 | exact gwe rfl | exact gwf rfl | exact gwg rfl | exact gwh rfl | omega) (gg_f (gf_cons rfl (gf_cons rfl gf_nil)) (ih38 (sL (sL (sL (sL sc38 161 z84.toNatClampNeg z88) 161 z97.toNatClampNeg z101) 161 z112.toNatClampNeg z118) 161 z129.toNatClampNeg z135) z137 hI136 (fr_sL rfl (fr_sL rfl (fr_sL rfl (fr_sL rfl hFc38)))) (in_w 0 160 i137 rfl) (m_up mm38 (t_add e137 i42 (in_c 1 rfl) rfl) (in_w 1 1 (in_c 1 rfl) rfl))))
  have ct16 : ∀ (k16 : Nat) (sc16 : GS) (y16_1 : Int32), Inv sc16 → Fr fm_368 s sc16 → (In y16_1 0 1024) → 1024 - (y16_1).toInt < (k16 : Int) → GG Z (d - 1) 368 post (gx xp) (35369324 + k16 * 900) 16 (fun j => xlook j [(0, .ref (A 109)), (1, .int y16_1)]) [] (WW Z A sc16 ++ ex) 0 0 := by
    intro k16
    induction k16 with
    | zero => intro sc16 y16_1 hIc16 hFc16 j16_1 mm16; exact m_no mm16 j16_1 rfl
    | succ k16 ih16 =>
      intro sc16 y16_1 hIc16 hFc16 j16_1 mm16
      refine gg_w (M := 35369324 + k16 * 900 + 900) gws ?_
      refine g_iload_n 17 (gd rfl) rfl rfl ?_
      refine g_sipush 1024 20 (gd rfl) rfl rfl ?_
      refine g_cmp_ge 23 36 (gd rfl) rfl rfl (fun c20 => ?_) (fun c20 => ?_)
      · skip
        have i20 := r_le2 1024 1024 c20 (in_c 1024 rfl) j16_1 rfl
        refine g_iconst 0 37 (gd rfl) rfl rfl ?_
        refine g_istore_n 38 (gd rfl) rfl (Nat.le_of_ble_eq_true rfl) ?_
        exact gg_w (by first | exact Nat.le_add_right _ _ | exact gw2 | exact gw3 | exact gwe rfl | exact gwf rfl | exact gwg rfl | exact gwh rfl | omega) (gg_f (gf_cons rfl (gf_cons rfl gf_nil)) (ct38 161 sc16 (Int32.ofInt 0) hIc16 hFc16 (in_w 0 160 (in_c 0 rfl) rfl) (m_in 161 (in_w 0 160 (in_c 0 rfl) rfl) rfl)))
      · skip
        have i20 := r_lt1 0 1023 c20 j16_1 (in_c 1024 rfl) rfl
        refine g_aload_n 24 (gd rfl) rfl rfl ?_
        refine g_getA (q2 := 161) 27 (gd rfl) rfl rfl rfl rfl ?_
        refine g_iload_n 28 (gd rfl) rfl rfl ?_
        refine g_lconst 0 29 (gd rfl) rfl rfl ?_
        refine g_lastore 30 (gd rfl) rfl (n := 1024) rfl (in_ix i20 rfl) ?_
        have hI29 := inv_sL (q := 161) (j := y16_1.toNatClampNeg) (x := (Int64.ofInt 0)) hIc16 rfl (l_rng (Int64.ofInt 0))
        refine g_iinc 33 (gd rfl) rfl rfl (Nat.le_of_ble_eq_true rfl) (fun z30 e30 => ?_)
        have i30 := in_add 1 1024 e30 i20 (in_c 1 rfl) rfl rfl
        refine g_goto 16 (gd rfl) rfl ?_
        exact gg_w (by first | exact Nat.le_add_right _ _ | exact gw2 | exact gw3 | exact gwe rfl | exact gwf rfl | exact gwg rfl | exact gwh rfl | omega) (gg_f (gf_cons rfl (gf_cons rfl gf_nil)) (ih16 (sL sc16 161 y16_1.toNatClampNeg (Int64.ofInt 0)) z30 hI29 (fr_sL rfl hFc16) (in_w 0 1024 i30 rfl) (m_up mm16 (t_add e30 i20 (in_c 1 rfl) rfl) (in_w 1 1 (in_c 1 rfl) rfl))))
  refine g_enter2 (k := 368) (N := 36292724) (by first | exact dq1 hd rfl | exact dq0 hd rfl | exact dq2 hd rfl | exact dq3 hd rfl | omega) rfl (Nat.le_of_ble_eq_true rfl) ?_
  refine g_aload_n 1 (gd rfl) rfl rfl ?_
  refine g_iconst 0 2 (gd rfl) rfl rfl ?_
  refine g_putI 5 (gd rfl) rfl rfl rfl rfl ?_
  have hI2 := inv_sF (q := 109) (j := 0) hI rfl (in_w 0 2 (in_c 0 rfl) rfl)
  refine g_aload_n 6 (gd rfl) rfl rfl ?_
  refine g_getI 9 (gd rfl) rfl rfl rfl (fun z6 e6 => ?_)
  have q6 : u_109_20 = z6 := (sF_ne rfl (e_109_20)).trans e6.symm
  subst q6
  refine g_if_ne 12 14 (gd rfl) rfl rfl (fun c9 => ?_) (fun c9 => ?_)
  · skip
    have i9 := z_ne 1 32 c9 ro_109_20 rfl
    refine g_iconst 0 15 (gd rfl) rfl rfl ?_
    refine g_istore_n 16 (gd rfl) rfl (Nat.le_of_ble_eq_true rfl) ?_
    exact gg_w (by first | exact Nat.le_of_ble_eq_true rfl | omega) (gg_f (gf_cons rfl (gf_cons rfl gf_nil)) (ct16 1025 (sF s 109 0 (Int32.ofInt 0)) (Int32.ofInt 0) hI2 (fr_sF rfl fr_rf) (in_w 0 1024 (in_c 0 rfl) rfl) (m_in 1025 (in_w 0 1024 (in_c 0 rfl) rfl) rfl)))
  · skip
    have i9 := z_eq 0 0 c9 ro_109_20 rfl
    refine g_iconst 0 13 (gd rfl) rfl rfl ?_
    exact g_ireturn (gd rfl) rfl rfl (hP _ _ ⟨(sF s 109 0 (Int32.ofInt 0)), hI2, (fr_sF rfl fr_rf), (Int32.ofInt 0), rfl, rfl, in_w (-2147483648) 2147483647 (in_c 0 rfl) rfl⟩)

def fm_369 : FM := ([164], [162, 163], [(109, 0)], [])
/-- GraphHouseModel.rank -/
theorem k_369 {Z : AmZ} {A : Nat → Nat} {s : GS} {ex : va_W} {d : Nat} {X : AmX} {x1 : Int32} {x2 : Int32} (hd : 4 ≤ d) (hI : Inv s)  : GC Z d 369 [.ref (A 109), .int x1, .int x2] (WW Z A s ++ ex) 0 0 (fun v u => ∃ t : GS, Inv t ∧ Fr fm_369 s t ∧ ∃ z : Int64, v = some (.long z) ∧ u = WW Z A t ++ ex) X := by
  intro post xp hP hX
  obtain ⟨u_109_19, e_109_19⟩ : ∃ w, w = s.2.2.1 109 19 := ⟨_, rfl⟩
  have ro_109_19 := inv_F hI 0 160 rfl e_109_19
  obtain ⟨u_109_20, e_109_20⟩ : ∃ w, w = s.2.2.1 109 20 := ⟨_, rfl⟩
  have ro_109_20 := inv_F hI 0 32 rfl e_109_20
  have ct115 : ∀ (k115 : Nat) (sc115 : GS) (y115_3 : Int32), Inv sc115 → Fr fm_369 s sc115 → (In x1 0 31) → (In x2 0 40) → (In y115_3 0 60) → (∀ i : Nat, (u_109_19).toInt ≤ (i : Int) → (i : Int) < (u_109_19).toInt + 160 → (s.1 112 i).toInt ≠ 0 → 1 ≤ (sc115.1 164 (s.1 113 i).toNatClampNeg).toInt) → 60 - (y115_3).toInt < (k115 : Int) → GG Z (d - 1) 369 post (gx xp) (1 + k115 * 426603) 115 (fun j => xlook j [(0, .ref (A 109)), (1, .int x1), (2, .int x2), (3, .int y115_3)]) [] (WW Z A sc115 ++ ex) 0 0 := by
    intro k115
    induction k115 with
    | zero => intro sc115 y115_3 hIc115 hFc115 j115_1 j115_2 j115_3 g115_0 mm115; exact m_no mm115 j115_3 rfl
    | succ k115 ih115 =>
      intro sc115 y115_3 hIc115 hFc115 j115_1 j115_2 j115_3 g115_0 mm115
      refine gg_w (M := 1 + k115 * 426603 + 426603) gws ?_
      have ct259 : ∀ (k259 : Nat) (sc259 : GS) (y259_4 : Int64) (y259_6 : Int32), Inv sc259 → Fr fm_369 s sc259 → (In x2 1 40) → (In y115_3 0 40) → (In y259_6 0 32) → (∀ i : Nat, (u_109_19).toInt ≤ (i : Int) → (i : Int) < (u_109_19).toInt + 160 → (s.1 112 i).toInt ≠ 0 → 1 ≤ (sc259.1 164 (s.1 113 i).toNatClampNeg).toInt) → 32 - (y259_6).toInt < (k259 : Int) → GG Z (d - 1) 369 post (gx xp) (1 + k115 * 426603 + 1 + k259 * 900) 259 (fun j => xlook j [(0, .ref (A 109)), (1, .int x1), (2, .int x2), (3, .int y115_3), (4, .long y259_4), (6, .int y259_6)]) [] (WW Z A sc259 ++ ex) 0 0 := by
        intro k259
        induction k259 with
        | zero => intro sc259 y259_4 y259_6 hIc259 hFc259 j259_2 j259_3 j259_6 g259_0 mm259; exact m_no mm259 j259_6 rfl
        | succ k259 ih259 =>
          intro sc259 y259_4 y259_6 hIc259 hFc259 j259_2 j259_3 j259_6 g259_0 mm259
          refine gg_w (M := 1 + k115 * 426603 + 1 + k259 * 900 + 900) gws ?_
          refine g_iload 261 (gd rfl) rfl rfl ?_
          refine g_aload_n 262 (gd rfl) rfl rfl ?_
          refine g_getI 265 (gd rfl) rfl rfl rfl (fun z262 e262 => ?_)
          have q262 : u_109_20 = z262 := (fr_F e_109_20 hFc259 rfl).trans e262.symm
          subst q262
          refine g_cmp_ge 268 318 (gd rfl) rfl rfl (fun c265 => ?_) (fun c265 => ?_)
          · skip
            refine g_iinc 321 (gd rfl) rfl rfl (Nat.le_of_ble_eq_true rfl) (fun z318 e318 => ?_)
            have i318 := in_add 1 41 e318 j259_3 (in_c 1 rfl) rfl rfl
            refine g_goto 115 (gd rfl) rfl ?_
            have n115 : ∀ i : Nat, (u_109_19).toInt ≤ (i : Int) → (i : Int) < (u_109_19).toInt + 160 → (s.1 112 i).toInt ≠ 0 → 1 ≤ (sc259.1 164 (s.1 113 i).toNatClampNeg).toInt := by first | exact g259_0 | (first | (intro i h1 h2; exact g71_1 i h1 (by (first | have a0 := oa7 j259_3 j259_2 j115_1 ro_109_20 ro_109_19 j259_6 i318 | ((first | have a0 := in_u j259_3 | (have a0 := j259_3; unfold In at a0)); (first | have a1 := in_u j259_2 | (have a1 := j259_2; unfold In at a1)); (first | have a2 := in_u j115_1 | (have a2 := j115_1; unfold In at a2)); (first | have a3 := in_u ro_109_20 | (have a3 := ro_109_20; unfold In at a3)); (first | have a4 := in_u ro_109_19 | (have a4 := ro_109_19; unfold In at a4)); (first | have a5 := in_u j259_6 | (have a5 := j259_6; unfold In at a5)); (first | have a6 := in_u i318 | (have a6 := i318; unfold In at a6)))); have a7 := t_add e318 j259_3 (in_c 1 rfl) rfl; (first | have a8 := in_u ((in_c 1 rfl)) | (have a8 := (in_c 1 rfl); unfold In at a8)); omega)) | exact g259_0)
            exact gg_w (by first | exact Nat.le_add_right _ _ | exact gw2 | exact gw3 | exact gwe rfl | exact gwf rfl | exact gwg rfl | exact gwh rfl | omega) (gg_f (gf_cons rfl (gf_cons rfl (gf_cons rfl (gf_cons rfl gf_nil)))) (ih115 sc259 z318 hIc259 hFc259 (in_w 0 31 j115_1 rfl) (in_w 0 40 j259_2 rfl) (in_w 0 60 i318 rfl) n115 (m_up mm115 (t_add e318 j259_3 (in_c 1 rfl) rfl) (in_w 1 1 (in_c 1 rfl) rfl))))
          · skip
            have i265 := r_lt1 0 31 c265 j259_6 ro_109_20 rfl
            have i265a := r_lt2 1 32 c265 j259_6 ro_109_20 rfl
            refine g_aload_n 269 (gd rfl) rfl rfl ?_
            refine g_getA (q2 := 162) 272 (gd rfl) rfl rfl rfl rfl ?_
            refine g_iload 274 (gd rfl) rfl rfl ?_
            refine g_aload_n 275 (gd rfl) rfl rfl ?_
            refine g_getA (q2 := 163) 278 (gd rfl) rfl rfl rfl rfl ?_
            refine g_iload 280 (gd rfl) rfl rfl ?_
            refine g_laload 281 (gd rfl) rfl (n := 32) rfl (in_ix i265 rfl) (fun z280 e280 => ?_)
            refine g_lload 283 (gd rfl) rfl rfl ?_
            refine g_aload_n 284 (gd rfl) rfl rfl ?_
            refine g_getI 287 (gd rfl) rfl rfl rfl (fun z284 e284 => ?_)
            have q284 : u_109_20 = z284 := (fr_F e_109_20 hFc259 rfl).trans e284.symm
            subst q284
            refine g_i2l 288 (gd rfl) rfl (fun z287 e287 => ?_)
            have i287 := l_i e287 i265a
            refine g_ldiv 289 (gd rfl) rfl (ldv_nz i287 rfl) (fun z288 e288 => ?_)
            refine g_ladd 290 (gd rfl) rfl (fun z289 e289 => ?_)
            refine g_iload 292 (gd rfl) rfl rfl ?_
            refine g_i2l 293 (gd rfl) rfl (fun z292 e292 => ?_)
            have i292 := l_i e292 i265
            refine g_lload 295 (gd rfl) rfl rfl ?_
            refine g_aload_n 296 (gd rfl) rfl rfl ?_
            refine g_getI 299 (gd rfl) rfl rfl rfl (fun z296 e296 => ?_)
            have q296 : u_109_20 = z296 := (fr_F e_109_20 hFc259 rfl).trans e296.symm
            subst q296
            refine g_i2l 300 (gd rfl) rfl (fun z299 e299 => ?_)
            have i299 := l_i e299 i265a
            refine g_lrem 301 (gd rfl) rfl (ldv_nz i299 rfl) (fun z300 e300 => ?_)
            refine g_lcmp 302 (gd rfl) rfl (fun z301 e301 => ?_)
            have i301 := lc_in e301
            refine g_if_ge 305 309 (gd rfl) rfl rfl (fun c302 => ?_) (fun c302 => ?_)
            · skip
              have i302 := z_ge 0 1 c302 i301 rfl
              have c302a := lc_ge e301 c302
              have i302a := lr_le1 (-9223372036854775808) 31 c302a (l_rng z300) i292 rfl
              refine g_lconst 0 310 (gd rfl) rfl rfl ?_
              refine g_ladd 311 (gd rfl) rfl (fun z310 e310 => ?_)
              refine g_lastore 312 (gd rfl) rfl (n := 32) rfl (in_ix i265 rfl) ?_
              have hI311 := inv_sL (q := 162) (j := y259_6.toNatClampNeg) (x := z310) hIc259 rfl (l_rng z310)
              refine g_iinc 315 (gd rfl) rfl rfl (Nat.le_of_ble_eq_true rfl) (fun z312 e312 => ?_)
              have i312 := in_add 1 32 e312 i265 (in_c 1 rfl) rfl rfl
              refine g_goto 259 (gd rfl) rfl ?_
              have n259 : ∀ i : Nat, (u_109_19).toInt ≤ (i : Int) → (i : Int) < (u_109_19).toInt + 160 → (s.1 112 i).toInt ≠ 0 → 1 ≤ ((sL sc259 162 y259_6.toNatClampNeg z310).1 164 (s.1 113 i).toNatClampNeg).toInt := by first | exact g167_0 | exact g259_0
              exact gg_w (by first | exact Nat.le_add_right _ _ | exact gw2 | exact gw3 | exact gwe rfl | exact gwf rfl | exact gwg rfl | exact gwh rfl | omega) (gg_f (gf_cons rfl (gf_cons rfl (gf_cons rfl (gf_cons rfl (gf_cons rfl (gf_cons rfl gf_nil)))))) (ih259 (sL sc259 162 y259_6.toNatClampNeg z310) y259_4 z312 hI311 (fr_sL rfl hFc259) (in_w 1 40 j259_2 rfl) (in_w 0 40 j259_3 rfl) (in_w 0 32 i312 rfl) n259 (m_up mm259 (t_add e312 i265 (in_c 1 rfl) rfl) (in_w 1 1 (in_c 1 rfl) rfl))))
            · skip
              have i302 := z_lt (-1) (-1) c302 i301 rfl
              have c302a := lc_lt e301 c302
              have i302a := lr_lt2 1 9223372036854775807 c302a i292 (l_rng z300) rfl
              refine g_lconst 1 306 (gd rfl) rfl rfl ?_
              refine g_goto 310 (gd rfl) rfl ?_
              refine g_ladd 311 (gd rfl) rfl (fun z310 e310 => ?_)
              refine g_lastore 312 (gd rfl) rfl (n := 32) rfl (in_ix i265 rfl) ?_
              have hI311 := inv_sL (q := 162) (j := y259_6.toNatClampNeg) (x := z310) hIc259 rfl (l_rng z310)
              refine g_iinc 315 (gd rfl) rfl rfl (Nat.le_of_ble_eq_true rfl) (fun z312 e312 => ?_)
              have i312 := in_add 1 32 e312 i265 (in_c 1 rfl) rfl rfl
              refine g_goto 259 (gd rfl) rfl ?_
              have n259 : ∀ i : Nat, (u_109_19).toInt ≤ (i : Int) → (i : Int) < (u_109_19).toInt + 160 → (s.1 112 i).toInt ≠ 0 → 1 ≤ ((sL sc259 162 y259_6.toNatClampNeg z310).1 164 (s.1 113 i).toNatClampNeg).toInt := by first | exact g167_0 | exact g259_0
              exact gg_w (by first | exact Nat.le_add_right _ _ | exact gw2 | exact gw3 | exact gwe rfl | exact gwf rfl | exact gwg rfl | exact gwh rfl | omega) (gg_f (gf_cons rfl (gf_cons rfl (gf_cons rfl (gf_cons rfl (gf_cons rfl (gf_cons rfl gf_nil)))))) (ih259 (sL sc259 162 y259_6.toNatClampNeg z310) y259_4 z312 hI311 (fr_sL rfl hFc259) (in_w 1 40 j259_2 rfl) (in_w 0 40 j259_3 rfl) (in_w 0 32 i312 rfl) n259 (m_up mm259 (t_add e312 i265 (in_c 1 rfl) rfl) (in_w 1 1 (in_c 1 rfl) rfl))))
      have ct167 : ∀ (k167 : Nat) (sc167 : GS) (y167_4 : Int64) (y167_6 : Int32), Inv sc167 → Fr fm_369 s sc167 → (In x2 1 40) → (In y115_3 0 40) → (In y167_6 0 400) → ((u_109_19).toInt ≤ (y167_6).toInt) → (∀ i : Nat, (u_109_19).toInt ≤ (i : Int) → (i : Int) < (u_109_19).toInt + 160 → (s.1 112 i).toInt ≠ 0 → 1 ≤ (sc167.1 164 (s.1 113 i).toNatClampNeg).toInt) → 400 - (y167_6).toInt < (k167 : Int) → GG Z (d - 1) 369 post (gx xp) (1 + k115 * 426603 + 29702 + k167 * 900) 167 (fun j => xlook j [(0, .ref (A 109)), (1, .int x1), (2, .int x2), (3, .int y115_3), (4, .long y167_4), (6, .int y167_6)]) [] (WW Z A sc167 ++ ex) 0 0 := by
        intro k167
        induction k167 with
        | zero => intro sc167 y167_4 y167_6 hIc167 hFc167 j167_2 j167_3 j167_6 n167_0 g167_0 mm167; exact m_no mm167 j167_6 rfl
        | succ k167 ih167 =>
          intro sc167 y167_4 y167_6 hIc167 hFc167 j167_2 j167_3 j167_6 n167_0 g167_0 mm167
          refine gg_w (M := 1 + k115 * 426603 + 29702 + k167 * 900 + 900) gws ?_
          refine g_iload 169 (gd rfl) rfl rfl ?_
          refine g_aload_n 170 (gd rfl) rfl rfl ?_
          refine g_getI 173 (gd rfl) rfl rfl rfl (fun z170 e170 => ?_)
          have q170 : u_109_19 = z170 := (fr_F e_109_19 hFc167 rfl).trans e170.symm
          subst q170
          refine g_sipush 160 176 (gd rfl) rfl rfl ?_
          refine g_iadd 177 (gd rfl) rfl (fun z176 e176 => ?_)
          have i176 := in_add 160 320 e176 ro_109_19 (in_c 160 rfl) rfl rfl
          refine g_cmp_ge 180 256 (gd rfl) rfl rfl (fun c177 => ?_) (fun c177 => ?_)
          · skip
            have i177 := r_le2 160 400 c177 i176 j167_6 rfl
            refine g_iconst 0 257 (gd rfl) rfl rfl ?_
            refine g_istore 259 (gd rfl) rfl (Nat.le_of_ble_eq_true rfl) ?_
            have n259 : ∀ i : Nat, (u_109_19).toInt ≤ (i : Int) → (i : Int) < (u_109_19).toInt + 160 → (s.1 112 i).toInt ≠ 0 → 1 ≤ (sc167.1 164 (s.1 113 i).toNatClampNeg).toInt := by first | exact g167_0 | exact g259_0
            exact gg_w (by first | exact Nat.le_add_right _ _ | exact gw2 | exact gw3 | exact gwe rfl | exact gwf rfl | exact gwg rfl | exact gwh rfl | omega) (gg_f (gf_cons rfl (gf_cons rfl (gf_cons rfl (gf_cons rfl (gf_cons rfl (gf_cons rfl gf_nil)))))) (ct259 33 sc167 y167_4 (Int32.ofInt 0) hIc167 hFc167 (in_w 1 40 j167_2 rfl) (in_w 0 40 j167_3 rfl) (in_w 0 32 (in_c 0 rfl) rfl) n259 (m_in 33 (in_w 0 32 (in_c 0 rfl) rfl) rfl)))
          · skip
            have i177 := r_lt1 0 319 c177 j167_6 i176 rfl
            refine g_aload_n 181 (gd rfl) rfl rfl ?_
            refine g_getA (q2 := 112) 184 (gd rfl) rfl rfl rfl rfl ?_
            refine g_iload 186 (gd rfl) rfl rfl ?_
            refine g_baload 187 (gd rfl) rfl (n := 480) rfl (in_ix i177 rfl) (fun z186 e186 => ?_)
            have i186 := inv_I hIc167 (n := 480) (t := 3) 0 1 rfl (in_ix i177 rfl) rfl e186
            refine g_if_eq 190 250 (gd rfl) rfl rfl (fun c187 => ?_) (fun c187 => ?_)
            · skip
              have i187 := z_eq 0 0 c187 i186 rfl
              refine g_iinc 253 (gd rfl) rfl rfl (Nat.le_of_ble_eq_true rfl) (fun z250 e250 => ?_)
              have i250 := in_add 1 320 e250 i177 (in_c 1 rfl) rfl rfl
              refine g_goto 167 (gd rfl) rfl ?_
              have n167 : (u_109_19).toInt ≤ (z250).toInt := by (first | have a0 := oa7 j167_3 j167_2 j115_1 ro_109_20 ro_109_19 i177 i250 | ((first | have a0 := in_u j167_3 | (have a0 := j167_3; unfold In at a0)); (first | have a1 := in_u j167_2 | (have a1 := j167_2; unfold In at a1)); (first | have a2 := in_u j115_1 | (have a2 := j115_1; unfold In at a2)); (first | have a3 := in_u ro_109_20 | (have a3 := ro_109_20; unfold In at a3)); (first | have a4 := in_u ro_109_19 | (have a4 := ro_109_19; unfold In at a4)); (first | have a5 := in_u i177 | (have a5 := i177; unfold In at a5)); (first | have a6 := in_u i250 | (have a6 := i250; unfold In at a6)))); have a7 := t_add e250 i177 (in_c 1 rfl) rfl; (first | have a8 := oa2 ((in_c 1 rfl)) i176 | ((first | have a8 := in_u ((in_c 1 rfl)) | (have a8 := (in_c 1 rfl); unfold In at a8)); (first | have a9 := in_u i176 | (have a9 := i176; unfold In at a9)))); have a10 := t_add e176 ro_109_19 (in_c 160 rfl) rfl; (first | have a11 := in_u ((in_c 160 rfl)) | (have a11 := (in_c 160 rfl); unfold In at a11)); omega
              have n167a : ∀ i : Nat, (u_109_19).toInt ≤ (i : Int) → (i : Int) < (u_109_19).toInt + 160 → (s.1 112 i).toInt ≠ 0 → 1 ≤ (sc167.1 164 (s.1 113 i).toNatClampNeg).toInt := by first | exact g126_0 | exact g167_0
              exact gg_w (by first | exact Nat.le_add_right _ _ | exact gw2 | exact gw3 | exact gwe rfl | exact gwf rfl | exact gwg rfl | exact gwh rfl | omega) (gg_f (gf_cons rfl (gf_cons rfl (gf_cons rfl (gf_cons rfl (gf_cons rfl (gf_cons rfl gf_nil)))))) (ih167 sc167 y167_4 z250 hIc167 hFc167 (in_w 1 40 j167_2 rfl) (in_w 0 40 j167_3 rfl) (in_w 0 400 i250 rfl) n167 n167a (m_up mm167 (t_add e250 i177 (in_c 1 rfl) rfl) (in_w 1 1 (in_c 1 rfl) rfl))))
            · skip
              have i187 := z_ne 1 1 c187 i186 rfl
              refine g_aload_n 191 (gd rfl) rfl rfl ?_
              refine g_getA (q2 := 162) 194 (gd rfl) rfl rfl rfl rfl ?_
              refine g_aload_n 195 (gd rfl) rfl rfl ?_
              refine g_getA (q2 := 113) 198 (gd rfl) rfl rfl rfl rfl ?_
              refine g_iload 200 (gd rfl) rfl rfl ?_
              refine g_iaload 201 (gd rfl) rfl (n := 480) rfl (in_ix i177 rfl) (fun z200 e200 => ?_)
              have i200 := inv_I hIc167 (n := 480) (t := 0) 0 31 rfl (in_ix i177 rfl) rfl e200
              refine g_laload 202 (gd rfl) rfl (n := 32) rfl (in_ix i200 rfl) (fun z201 e201 => ?_)
              refine g_ldc2_w 85 205 (gd rfl) rfl rfl ?_
              refine g_lmul 206 (gd rfl) rfl (fun z205 e205 => ?_)
              refine g_ldc2_w 100 209 (gd rfl) rfl rfl ?_
              refine g_aload_n 210 (gd rfl) rfl rfl ?_
              refine g_getA (q2 := 164) 213 (gd rfl) rfl rfl rfl rfl ?_
              refine g_aload_n 214 (gd rfl) rfl rfl ?_
              refine g_getA (q2 := 113) 217 (gd rfl) rfl rfl rfl rfl ?_
              refine g_iload 219 (gd rfl) rfl rfl ?_
              refine g_iaload 220 (gd rfl) rfl (n := 480) rfl (in_ix i177 rfl) (fun z219 e219 => ?_)
              have q219 : z200 = z219 := (e200).trans e219.symm
              subst q219
              refine g_iaload 221 (gd rfl) rfl (n := 32) rfl (in_ix i200 rfl) (fun z220 e220 => ?_)
              have i220 := inv_I hIc167 (n := 32) (t := 0) 0 160 rfl (in_ix i200 rfl) rfl e220
              have i221 : In z220 1 160 := by have h3 := (hFc167.1 112 rfl); have h4 := (hFc167.1 113 rfl); have h := g167_0 y167_6.toNatClampNeg (by show _ ≤ ((y167_6.toInt.toNat : Nat) : Int); (first | have a0 := oa7 j167_3 j167_2 j115_1 ro_109_20 ro_109_19 i177 i176 | ((first | have a0 := in_u j167_3 | (have a0 := j167_3; unfold In at a0)); (first | have a1 := in_u j167_2 | (have a1 := j167_2; unfold In at a1)); (first | have a2 := in_u j115_1 | (have a2 := j115_1; unfold In at a2)); (first | have a3 := in_u ro_109_20 | (have a3 := ro_109_20; unfold In at a3)); (first | have a4 := in_u ro_109_19 | (have a4 := ro_109_19; unfold In at a4)); (first | have a5 := in_u i177 | (have a5 := i177; unfold In at a5)); (first | have a6 := in_u i176 | (have a6 := i176; unfold In at a6)))); have a7 := t_add e176 ro_109_19 (in_c 160 rfl) rfl; (first | have a8 := in_u ((in_c 160 rfl)) | (have a8 := (in_c 160 rfl); unfold In at a8)); omega) (by show ((y167_6.toInt.toNat : Nat) : Int) < _; (first | have a0 := oa7 j167_3 j167_2 j115_1 ro_109_20 ro_109_19 i177 i176 | ((first | have a0 := in_u j167_3 | (have a0 := j167_3; unfold In at a0)); (first | have a1 := in_u j167_2 | (have a1 := j167_2; unfold In at a1)); (first | have a2 := in_u j115_1 | (have a2 := j115_1; unfold In at a2)); (first | have a3 := in_u ro_109_20 | (have a3 := ro_109_20; unfold In at a3)); (first | have a4 := in_u ro_109_19 | (have a4 := ro_109_19; unfold In at a4)); (first | have a5 := in_u i177 | (have a5 := i177; unfold In at a5)); (first | have a6 := in_u i176 | (have a6 := i176; unfold In at a6)))); have a7 := t_add e176 ro_109_19 (in_c 160 rfl) rfl; (first | have a8 := in_u ((in_c 160 rfl)) | (have a8 := (in_c 160 rfl); unfold In at a8)); omega) (by rw [← h3, ← e186]; have hz := i187; unfold In at hz; omega); rw [← h4, ← e200, ← e220] at h; exact ⟨h, i220.2⟩
              refine g_i2l 222 (gd rfl) rfl (fun z221 e221 => ?_)
              have i221a := l_i e221 i221
              refine g_lmul 223 (gd rfl) rfl (fun z222 e222 => ?_)
              have i222 := l_mulc 100 100 16000 (Or.inl e222) i221a rfl
              refine g_ldiv 224 (gd rfl) rfl (ldv_nz i222 rfl) (fun z223 e223 => ?_)
              refine g_lstore 226 (gd rfl) rfl (Nat.le_of_ble_eq_true rfl) ?_
              refine g_aload_n 227 (gd rfl) rfl rfl ?_
              refine g_getA (q2 := 163) 230 (gd rfl) rfl rfl rfl rfl ?_
              refine g_aload_n 231 (gd rfl) rfl rfl ?_
              refine g_getA (q2 := 114) 234 (gd rfl) rfl rfl rfl rfl ?_
              refine g_iload 236 (gd rfl) rfl rfl ?_
              refine g_iaload 237 (gd rfl) rfl (n := 480) rfl (in_ix i177 rfl) (fun z236 e236 => ?_)
              have i236 := inv_I hIc167 (n := 480) (t := 0) 0 31 rfl (in_ix i177 rfl) rfl e236
              refine g_dup2 238 (gd rfl) rfl rfl rfl ?_
              refine g_laload 239 (gd rfl) rfl (n := 32) rfl (in_ix i236 rfl) (fun z238 e238 => ?_)
              refine g_lload 241 (gd rfl) rfl rfl ?_
              refine g_ladd 242 (gd rfl) rfl (fun z241 e241 => ?_)
              refine g_lastore 243 (gd rfl) rfl (n := 32) rfl (in_ix i236 rfl) ?_
              have hI242 := inv_sL (q := 163) (j := z236.toNatClampNeg) (x := z241) hIc167 rfl (l_rng z241)
              refine g_lload 245 (gd rfl) rfl rfl ?_
              refine g_lload 247 (gd rfl) rfl rfl ?_
              refine g_lsub 248 (gd rfl) rfl (fun z247 e247 => ?_)
              refine g_lstore 250 (gd rfl) rfl (Nat.le_of_ble_eq_true rfl) ?_
              refine g_iinc 253 (gd rfl) rfl rfl (Nat.le_of_ble_eq_true rfl) (fun z250 e250 => ?_)
              have i250 := in_add 1 320 e250 i177 (in_c 1 rfl) rfl rfl
              refine g_goto 167 (gd rfl) rfl ?_
              have n167 : (u_109_19).toInt ≤ (z250).toInt := by (first | have a0 := oa7 j167_3 j167_2 j115_1 ro_109_20 ro_109_19 i177 i250 | ((first | have a0 := in_u j167_3 | (have a0 := j167_3; unfold In at a0)); (first | have a1 := in_u j167_2 | (have a1 := j167_2; unfold In at a1)); (first | have a2 := in_u j115_1 | (have a2 := j115_1; unfold In at a2)); (first | have a3 := in_u ro_109_20 | (have a3 := ro_109_20; unfold In at a3)); (first | have a4 := in_u ro_109_19 | (have a4 := ro_109_19; unfold In at a4)); (first | have a5 := in_u i177 | (have a5 := i177; unfold In at a5)); (first | have a6 := in_u i250 | (have a6 := i250; unfold In at a6)))); have a7 := t_add e250 i177 (in_c 1 rfl) rfl; (first | have a8 := in_u ((in_c 1 rfl)) | (have a8 := (in_c 1 rfl); unfold In at a8)); have a9 := tx_i2l e221; (first | have a10 := oa2 i221 i176 | ((first | have a10 := in_u i221 | (have a10 := i221; unfold In at a10)); (first | have a11 := in_u i176 | (have a11 := i176; unfold In at a11)))); have a12 := t_add e176 ro_109_19 (in_c 160 rfl) rfl; (first | have a13 := in_u ((in_c 160 rfl)) | (have a13 := (in_c 160 rfl); unfold In at a13)); omega
              have n167a : ∀ i : Nat, (u_109_19).toInt ≤ (i : Int) → (i : Int) < (u_109_19).toInt + 160 → (s.1 112 i).toInt ≠ 0 → 1 ≤ ((sL sc167 163 z236.toNatClampNeg z241).1 164 (s.1 113 i).toNatClampNeg).toInt := by first | exact g126_0 | exact g167_0
              exact gg_w (by first | exact Nat.le_add_right _ _ | exact gw2 | exact gw3 | exact gwe rfl | exact gwf rfl | exact gwg rfl | exact gwh rfl | omega) (gg_f (gf_cons rfl (gf_cons rfl (gf_cons rfl (gf_cons rfl (gf_cons rfl (gf_cons rfl gf_nil)))))) (ih167 (sL sc167 163 z236.toNatClampNeg z241) z247 z250 hI242 (fr_sL rfl hFc167) (in_w 1 40 j167_2 rfl) (in_w 0 40 j167_3 rfl) (in_w 0 400 i250 rfl) n167 n167a (m_up mm167 (t_add e250 i177 (in_c 1 rfl) rfl) (in_w 1 1 (in_c 1 rfl) rfl))))
      have ct126 : ∀ (k126 : Nat) (sc126 : GS) (y126_4 : Int64) (y126_6 : Int32), Inv sc126 → Fr fm_369 s sc126 → (In x2 1 40) → (In y115_3 0 40) → (In y126_6 0 32) → (∀ i : Nat, (u_109_19).toInt ≤ (i : Int) → (i : Int) < (u_109_19).toInt + 160 → (s.1 112 i).toInt ≠ 0 → 1 ≤ (sc126.1 164 (s.1 113 i).toNatClampNeg).toInt) → 32 - (y126_6).toInt < (k126 : Int) → GG Z (d - 1) 369 post (gx xp) (1 + k115 * 426603 + 390603 + k126 * 900) 126 (fun j => xlook j [(0, .ref (A 109)), (1, .int x1), (2, .int x2), (3, .int y115_3), (4, .long y126_4), (6, .int y126_6)]) [] (WW Z A sc126 ++ ex) 0 0 := by
        intro k126
        induction k126 with
        | zero => intro sc126 y126_4 y126_6 hIc126 hFc126 j126_2 j126_3 j126_6 g126_0 mm126; exact m_no mm126 j126_6 rfl
        | succ k126 ih126 =>
          intro sc126 y126_4 y126_6 hIc126 hFc126 j126_2 j126_3 j126_6 g126_0 mm126
          refine gg_w (M := 1 + k115 * 426603 + 390603 + k126 * 900 + 900) gws ?_
          refine g_iload 128 (gd rfl) rfl rfl ?_
          refine g_aload_n 129 (gd rfl) rfl rfl ?_
          refine g_getI 132 (gd rfl) rfl rfl rfl (fun z129 e129 => ?_)
          have q129 : u_109_20 = z129 := (fr_F e_109_20 hFc126 rfl).trans e129.symm
          subst q129
          refine g_cmp_ge 135 161 (gd rfl) rfl rfl (fun c132 => ?_) (fun c132 => ?_)
          · skip
            refine g_aload_n 162 (gd rfl) rfl rfl ?_
            refine g_getI 165 (gd rfl) rfl rfl rfl (fun z162 e162 => ?_)
            have q162 : u_109_19 = z162 := (fr_F e_109_19 hFc126 rfl).trans e162.symm
            subst q162
            refine g_istore 167 (gd rfl) rfl (Nat.le_of_ble_eq_true rfl) ?_
            have n167 : (u_109_19).toInt ≤ (u_109_19).toInt := by exact Int.le_refl _
            have n167a : ∀ i : Nat, (u_109_19).toInt ≤ (i : Int) → (i : Int) < (u_109_19).toInt + 160 → (s.1 112 i).toInt ≠ 0 → 1 ≤ (sc126.1 164 (s.1 113 i).toNatClampNeg).toInt := by first | exact g126_0 | exact g167_0
            exact gg_w (by first | exact Nat.le_add_right _ _ | exact gw2 | exact gw3 | exact gwe rfl | exact gwf rfl | exact gwg rfl | exact gwh rfl | omega) (gg_f (gf_cons rfl (gf_cons rfl (gf_cons rfl (gf_cons rfl (gf_cons rfl (gf_cons rfl gf_nil)))))) (ct167 401 sc126 y126_4 u_109_19 hIc126 hFc126 (in_w 1 40 j126_2 rfl) (in_w 0 40 j126_3 rfl) (in_w 0 400 ro_109_19 rfl) n167 n167a (m_in 401 (in_w 0 400 ro_109_19 rfl) rfl)))
          · skip
            have i132 := r_lt1 0 31 c132 j126_6 ro_109_20 rfl
            have i132a := r_lt2 1 32 c132 j126_6 ro_109_20 rfl
            refine g_lload 137 (gd rfl) rfl rfl ?_
            refine g_aload_n 138 (gd rfl) rfl rfl ?_
            refine g_getA (q2 := 162) 141 (gd rfl) rfl rfl rfl rfl ?_
            refine g_iload 143 (gd rfl) rfl rfl ?_
            refine g_laload 144 (gd rfl) rfl (n := 32) rfl (in_ix i132 rfl) (fun z143 e143 => ?_)
            refine g_ladd 145 (gd rfl) rfl (fun z144 e144 => ?_)
            refine g_lstore 147 (gd rfl) rfl (Nat.le_of_ble_eq_true rfl) ?_
            refine g_aload_n 148 (gd rfl) rfl rfl ?_
            refine g_getA (q2 := 163) 151 (gd rfl) rfl rfl rfl rfl ?_
            refine g_iload 153 (gd rfl) rfl rfl ?_
            refine g_lconst 0 154 (gd rfl) rfl rfl ?_
            refine g_lastore 155 (gd rfl) rfl (n := 32) rfl (in_ix i132 rfl) ?_
            have hI154 := inv_sL (q := 163) (j := y126_6.toNatClampNeg) (x := (Int64.ofInt 0)) hIc126 rfl (l_rng (Int64.ofInt 0))
            refine g_iinc 158 (gd rfl) rfl rfl (Nat.le_of_ble_eq_true rfl) (fun z155 e155 => ?_)
            have i155 := in_add 1 32 e155 i132 (in_c 1 rfl) rfl rfl
            refine g_goto 126 (gd rfl) rfl ?_
            have n126 : ∀ i : Nat, (u_109_19).toInt ≤ (i : Int) → (i : Int) < (u_109_19).toInt + 160 → (s.1 112 i).toInt ≠ 0 → 1 ≤ ((sL sc126 163 y126_6.toNatClampNeg (Int64.ofInt 0)).1 164 (s.1 113 i).toNatClampNeg).toInt := by first | exact g115_0 | exact g126_0
            exact gg_w (by first | exact Nat.le_add_right _ _ | exact gw2 | exact gw3 | exact gwe rfl | exact gwf rfl | exact gwg rfl | exact gwh rfl | omega) (gg_f (gf_cons rfl (gf_cons rfl (gf_cons rfl (gf_cons rfl (gf_cons rfl (gf_cons rfl gf_nil)))))) (ih126 (sL sc126 163 y126_6.toNatClampNeg (Int64.ofInt 0)) z144 z155 hI154 (fr_sL rfl hFc126) (in_w 1 40 j126_2 rfl) (in_w 0 40 j126_3 rfl) (in_w 0 32 i155 rfl) n126 (m_up mm126 (t_add e155 i132 (in_c 1 rfl) rfl) (in_w 1 1 (in_c 1 rfl) rfl))))
      refine g_iload_n 116 (gd rfl) rfl rfl ?_
      refine g_iload_n 117 (gd rfl) rfl rfl ?_
      refine g_cmp_ge 120 324 (gd rfl) rfl rfl (fun c117 => ?_) (fun c117 => ?_)
      · skip
        refine g_aload_n 325 (gd rfl) rfl rfl ?_
        refine g_getA (q2 := 162) 328 (gd rfl) rfl rfl rfl rfl ?_
        refine g_iload_n 329 (gd rfl) rfl rfl ?_
        refine g_laload 330 (gd rfl) rfl (n := 32) rfl (in_ix j115_1 rfl) (fun z329 e329 => ?_)
        exact g_lreturn (gd rfl) rfl (hP _ _ ⟨sc115, hIc115, hFc115, z329, rfl, rfl⟩)
      · skip
        have i117 := r_lt1 0 39 c117 j115_3 j115_2 rfl
        have i117a := r_lt2 1 40 c117 j115_3 j115_2 rfl
        refine g_lconst 0 121 (gd rfl) rfl rfl ?_
        refine g_lstore 123 (gd rfl) rfl (Nat.le_of_ble_eq_true rfl) ?_
        refine g_iconst 0 124 (gd rfl) rfl rfl ?_
        refine g_istore 126 (gd rfl) rfl (Nat.le_of_ble_eq_true rfl) ?_
        have n126 : ∀ i : Nat, (u_109_19).toInt ≤ (i : Int) → (i : Int) < (u_109_19).toInt + 160 → (s.1 112 i).toInt ≠ 0 → 1 ≤ (sc115.1 164 (s.1 113 i).toNatClampNeg).toInt := by first | exact g115_0 | exact g126_0
        exact gg_w (by first | exact Nat.le_add_right _ _ | exact gw2 | exact gw3 | exact gwe rfl | exact gwf rfl | exact gwg rfl | exact gwh rfl | omega) (gg_f (gf_cons rfl (gf_cons rfl (gf_cons rfl (gf_cons rfl (gf_cons rfl (gf_cons rfl gf_nil)))))) (ct126 33 sc115 (Int64.ofInt 0) (Int32.ofInt 0) hIc115 hFc115 (in_w 1 40 i117a rfl) (in_w 0 40 i117 rfl) (in_w 0 32 (in_c 0 rfl) rfl) n126 (m_in 33 (in_w 0 32 (in_c 0 rfl) rfl) rfl)))
  have ct71 : ∀ (k71 : Nat) (sc71 : GS) (y71_3 : Int32), Inv sc71 → Fr fm_369 s sc71 → (In x1 0 31) → (In x2 0 40) → (In y71_3 0 400) → ((u_109_19).toInt ≤ (y71_3).toInt) → ((y71_3).toInt ≤ (u_109_19).toInt + 160) → (∀ j : Nat, (j : Int) < (u_109_20).toInt → (sc71.1 164 j).toInt ≤ (y71_3).toInt - (u_109_19).toInt) → (∀ i : Nat, (u_109_19).toInt ≤ (i : Int) → (i : Int) < (y71_3).toInt → (s.1 112 i).toInt ≠ 0 → 1 ≤ (sc71.1 164 (s.1 113 i).toNatClampNeg).toInt) → 400 - (y71_3).toInt < (k71 : Int) → GG Z (d - 1) 369 post (gx xp) (26022785 + k71 * 900) 71 (fun j => xlook j [(0, .ref (A 109)), (1, .int x1), (2, .int x2), (3, .int y71_3)]) [] (WW Z A sc71 ++ ex) 0 0 := by
    intro k71
    induction k71 with
    | zero => intro sc71 y71_3 hIc71 hFc71 j71_1 j71_2 j71_3 n71_0 n71_1 g71_0 g71_1 mm71; exact m_no mm71 j71_3 rfl
    | succ k71 ih71 =>
      intro sc71 y71_3 hIc71 hFc71 j71_1 j71_2 j71_3 n71_0 n71_1 g71_0 g71_1 mm71
      refine gg_w (M := 26022785 + k71 * 900 + 900) gws ?_
      refine g_iload_n 72 (gd rfl) rfl rfl ?_
      refine g_aload_n 73 (gd rfl) rfl rfl ?_
      refine g_getI 76 (gd rfl) rfl rfl rfl (fun z73 e73 => ?_)
      have q73 : u_109_19 = z73 := (fr_F e_109_19 hFc71 rfl).trans e73.symm
      subst q73
      refine g_sipush 160 79 (gd rfl) rfl rfl ?_
      refine g_iadd 80 (gd rfl) rfl (fun z79 e79 => ?_)
      have i79 := in_add 160 320 e79 ro_109_19 (in_c 160 rfl) rfl rfl
      refine g_cmp_ge 83 113 (gd rfl) rfl rfl (fun c80 => ?_) (fun c80 => ?_)
      · skip
        have i80 := r_le2 160 400 c80 i79 j71_3 rfl
        refine g_iconst 0 114 (gd rfl) rfl rfl ?_
        refine g_istore_n 115 (gd rfl) rfl (Nat.le_of_ble_eq_true rfl) ?_
        have n115 : ∀ i : Nat, (u_109_19).toInt ≤ (i : Int) → (i : Int) < (u_109_19).toInt + 160 → (s.1 112 i).toInt ≠ 0 → 1 ≤ (sc71.1 164 (s.1 113 i).toNatClampNeg).toInt := by first | (intro i h1 h2; exact g71_1 i h1 (by (first | have a0 := oa7 j71_2 j71_1 ro_109_20 ro_109_19 i80 ((in_c 0 rfl)) i79 | ((first | have a0 := in_u j71_2 | (have a0 := j71_2; unfold In at a0)); (first | have a1 := in_u j71_1 | (have a1 := j71_1; unfold In at a1)); (first | have a2 := in_u ro_109_20 | (have a2 := ro_109_20; unfold In at a2)); (first | have a3 := in_u ro_109_19 | (have a3 := ro_109_19; unfold In at a3)); (first | have a4 := in_u i80 | (have a4 := i80; unfold In at a4)); (first | have a5 := in_u ((in_c 0 rfl)) | (have a5 := (in_c 0 rfl); unfold In at a5)); (first | have a6 := in_u i79 | (have a6 := i79; unfold In at a6)))); have a7 := t_add e79 ro_109_19 (in_c 160 rfl) rfl; (first | have a8 := in_u ((in_c 160 rfl)) | (have a8 := (in_c 160 rfl); unfold In at a8)); omega)) | exact g259_0
        exact gg_w (by first | exact Nat.le_add_right _ _ | exact gw2 | exact gw3 | exact gwe rfl | exact gwf rfl | exact gwg rfl | exact gwh rfl | omega) (gg_f (gf_cons rfl (gf_cons rfl (gf_cons rfl (gf_cons rfl gf_nil)))) (ct115 61 sc71 (Int32.ofInt 0) hIc71 hFc71 (in_w 0 31 j71_1 rfl) (in_w 0 40 j71_2 rfl) (in_w 0 60 (in_c 0 rfl) rfl) n115 (m_in 61 (in_w 0 60 (in_c 0 rfl) rfl) rfl)))
      · skip
        have i80 := r_lt1 0 319 c80 j71_3 i79 rfl
        refine g_aload_n 84 (gd rfl) rfl rfl ?_
        refine g_getA (q2 := 112) 87 (gd rfl) rfl rfl rfl rfl ?_
        refine g_iload_n 88 (gd rfl) rfl rfl ?_
        refine g_baload 89 (gd rfl) rfl (n := 480) rfl (in_ix i80 rfl) (fun z88 e88 => ?_)
        have i88 := inv_I hIc71 (n := 480) (t := 3) 0 1 rfl (in_ix i80 rfl) rfl e88
        refine g_if_eq 92 107 (gd rfl) rfl rfl (fun c89 => ?_) (fun c89 => ?_)
        · skip
          have i89 := z_eq 0 0 c89 i88 rfl
          refine g_iinc 110 (gd rfl) rfl rfl (Nat.le_of_ble_eq_true rfl) (fun z107 e107 => ?_)
          have i107 := in_add 1 320 e107 i80 (in_c 1 rfl) rfl rfl
          refine g_goto 71 (gd rfl) rfl ?_
          have n71 : (u_109_19).toInt ≤ (z107).toInt := by (first | have a0 := oa6 j71_2 j71_1 ro_109_20 ro_109_19 i80 i107 | ((first | have a0 := in_u j71_2 | (have a0 := j71_2; unfold In at a0)); (first | have a1 := in_u j71_1 | (have a1 := j71_1; unfold In at a1)); (first | have a2 := in_u ro_109_20 | (have a2 := ro_109_20; unfold In at a2)); (first | have a3 := in_u ro_109_19 | (have a3 := ro_109_19; unfold In at a3)); (first | have a4 := in_u i80 | (have a4 := i80; unfold In at a4)); (first | have a5 := in_u i107 | (have a5 := i107; unfold In at a5)))); have a6 := t_add e107 i80 (in_c 1 rfl) rfl; (first | have a7 := oa2 ((in_c 1 rfl)) i79 | ((first | have a7 := in_u ((in_c 1 rfl)) | (have a7 := (in_c 1 rfl); unfold In at a7)); (first | have a8 := in_u i79 | (have a8 := i79; unfold In at a8)))); have a9 := t_add e79 ro_109_19 (in_c 160 rfl) rfl; (first | have a10 := in_u ((in_c 160 rfl)) | (have a10 := (in_c 160 rfl); unfold In at a10)); omega
          have n71a : (z107).toInt ≤ (u_109_19).toInt + 160 := by (first | have a0 := oa6 j71_2 j71_1 ro_109_20 ro_109_19 i80 i107 | ((first | have a0 := in_u j71_2 | (have a0 := j71_2; unfold In at a0)); (first | have a1 := in_u j71_1 | (have a1 := j71_1; unfold In at a1)); (first | have a2 := in_u ro_109_20 | (have a2 := ro_109_20; unfold In at a2)); (first | have a3 := in_u ro_109_19 | (have a3 := ro_109_19; unfold In at a3)); (first | have a4 := in_u i80 | (have a4 := i80; unfold In at a4)); (first | have a5 := in_u i107 | (have a5 := i107; unfold In at a5)))); have a6 := t_add e107 i80 (in_c 1 rfl) rfl; (first | have a7 := oa2 ((in_c 1 rfl)) i79 | ((first | have a7 := in_u ((in_c 1 rfl)) | (have a7 := (in_c 1 rfl); unfold In at a7)); (first | have a8 := in_u i79 | (have a8 := i79; unfold In at a8)))); have a9 := t_add e79 ro_109_19 (in_c 160 rfl) rfl; (first | have a10 := in_u ((in_c 160 rfl)) | (have a10 := (in_c 160 rfl); unfold In at a10)); omega
          have n71b : ∀ j : Nat, (j : Int) < (u_109_20).toInt → (sc71.1 164 j).toInt ≤ (z107).toInt - (u_109_19).toInt := by first | (intro j hj; have h := g36_0 j (by (first | have a0 := oa6 j71_2 j71_1 ro_109_20 ro_109_19 i80 i107 | ((first | have a0 := in_u j71_2 | (have a0 := j71_2; unfold In at a0)); (first | have a1 := in_u j71_1 | (have a1 := j71_1; unfold In at a1)); (first | have a2 := in_u ro_109_20 | (have a2 := ro_109_20; unfold In at a2)); (first | have a3 := in_u ro_109_19 | (have a3 := ro_109_19; unfold In at a3)); (first | have a4 := in_u i80 | (have a4 := i80; unfold In at a4)); (first | have a5 := in_u i107 | (have a5 := i107; unfold In at a5)))); have a6 := t_add e107 i80 (in_c 1 rfl) rfl; (first | have a7 := oa2 ((in_c 1 rfl)) i79 | ((first | have a7 := in_u ((in_c 1 rfl)) | (have a7 := (in_c 1 rfl); unfold In at a7)); (first | have a8 := in_u i79 | (have a8 := i79; unfold In at a8)))); have a9 := t_add e79 ro_109_19 (in_c 160 rfl) rfl; (first | have a10 := in_u ((in_c 160 rfl)) | (have a10 := (in_c 160 rfl); unfold In at a10)); omega); omega) | (intro j hj; have h := g71_0 j hj; (first | have a0 := oa6 j71_2 j71_1 ro_109_20 ro_109_19 i80 i107 | ((first | have a0 := in_u j71_2 | (have a0 := j71_2; unfold In at a0)); (first | have a1 := in_u j71_1 | (have a1 := j71_1; unfold In at a1)); (first | have a2 := in_u ro_109_20 | (have a2 := ro_109_20; unfold In at a2)); (first | have a3 := in_u ro_109_19 | (have a3 := ro_109_19; unfold In at a3)); (first | have a4 := in_u i80 | (have a4 := i80; unfold In at a4)); (first | have a5 := in_u i107 | (have a5 := i107; unfold In at a5)))); have a6 := t_add e107 i80 (in_c 1 rfl) rfl; (first | have a7 := oa2 ((in_c 1 rfl)) i79 | ((first | have a7 := in_u ((in_c 1 rfl)) | (have a7 := (in_c 1 rfl); unfold In at a7)); (first | have a8 := in_u i79 | (have a8 := i79; unfold In at a8)))); have a9 := t_add e79 ro_109_19 (in_c 160 rfl) rfl; (first | have a10 := in_u ((in_c 160 rfl)) | (have a10 := (in_c 160 rfl); unfold In at a10)); omega) | (intro j hj; rw [sI_q]; unfold upd; have h := g71_0 j hj; have e5 : z101.toNatClampNeg = z101.toInt.toNat := rfl; by_cases c : j = z101.toNatClampNeg; (rw [if_pos c]; rw [c, ← e103] at h; (first | have a0 := oa6 j71_2 j71_1 ro_109_20 ro_109_19 i80 i107 | ((first | have a0 := in_u j71_2 | (have a0 := j71_2; unfold In at a0)); (first | have a1 := in_u j71_1 | (have a1 := j71_1; unfold In at a1)); (first | have a2 := in_u ro_109_20 | (have a2 := ro_109_20; unfold In at a2)); (first | have a3 := in_u ro_109_19 | (have a3 := ro_109_19; unfold In at a3)); (first | have a4 := in_u i80 | (have a4 := i80; unfold In at a4)); (first | have a5 := in_u i107 | (have a5 := i107; unfold In at a5)))); have a6 := t_add e107 i80 (in_c 1 rfl) rfl; (first | have a7 := oa2 ((in_c 1 rfl)) i79 | ((first | have a7 := in_u ((in_c 1 rfl)) | (have a7 := (in_c 1 rfl); unfold In at a7)); (first | have a8 := in_u i79 | (have a8 := i79; unfold In at a8)))); have a9 := t_add e79 ro_109_19 (in_c 160 rfl) rfl; (first | have a10 := in_u ((in_c 160 rfl)) | (have a10 := (in_c 160 rfl); unfold In at a10)); omega); (rw [if_neg c]; (first | have a0 := oa6 j71_2 j71_1 ro_109_20 ro_109_19 i80 i107 | ((first | have a0 := in_u j71_2 | (have a0 := j71_2; unfold In at a0)); (first | have a1 := in_u j71_1 | (have a1 := j71_1; unfold In at a1)); (first | have a2 := in_u ro_109_20 | (have a2 := ro_109_20; unfold In at a2)); (first | have a3 := in_u ro_109_19 | (have a3 := ro_109_19; unfold In at a3)); (first | have a4 := in_u i80 | (have a4 := i80; unfold In at a4)); (first | have a5 := in_u i107 | (have a5 := i107; unfold In at a5)))); have a6 := t_add e107 i80 (in_c 1 rfl) rfl; (first | have a7 := oa2 ((in_c 1 rfl)) i79 | ((first | have a7 := in_u ((in_c 1 rfl)) | (have a7 := (in_c 1 rfl); unfold In at a7)); (first | have a8 := in_u i79 | (have a8 := i79; unfold In at a8)))); have a9 := t_add e79 ro_109_19 (in_c 160 rfl) rfl; (first | have a10 := in_u ((in_c 160 rfl)) | (have a10 := (in_c 160 rfl); unfold In at a10)); omega))
          have n71c : ∀ i : Nat, (u_109_19).toInt ≤ (i : Int) → (i : Int) < (z107).toInt → (s.1 112 i).toInt ≠ 0 → 1 ≤ (sc71.1 164 (s.1 113 i).toNatClampNeg).toInt := by first | (intro i h1 h2; exfalso; omega) | (intro i h1 h2 ht; by_cases c : (i : Int) < y71_3.toInt; exact g71_1 i h1 c ht; (exfalso; apply ht; have h3 := (hFc71.1 112 rfl); have h4 := (hFc71.1 113 rfl); have e8 : z88 = s.1 112 y71_3.toNatClampNeg := (by rw [e88, h3]); have ei : i = y71_3.toNatClampNeg := (by show i = y71_3.toInt.toNat; (first | have a0 := oa6 j71_2 j71_1 ro_109_20 ro_109_19 i80 i107 | ((first | have a0 := in_u j71_2 | (have a0 := j71_2; unfold In at a0)); (first | have a1 := in_u j71_1 | (have a1 := j71_1; unfold In at a1)); (first | have a2 := in_u ro_109_20 | (have a2 := ro_109_20; unfold In at a2)); (first | have a3 := in_u ro_109_19 | (have a3 := ro_109_19; unfold In at a3)); (first | have a4 := in_u i80 | (have a4 := i80; unfold In at a4)); (first | have a5 := in_u i107 | (have a5 := i107; unfold In at a5)))); have a6 := t_add e107 i80 (in_c 1 rfl) rfl; (first | have a7 := oa2 ((in_c 1 rfl)) i79 | ((first | have a7 := in_u ((in_c 1 rfl)) | (have a7 := (in_c 1 rfl); unfold In at a7)); (first | have a8 := in_u i79 | (have a8 := i79; unfold In at a8)))); have a9 := t_add e79 ro_109_19 (in_c 160 rfl) rfl; (first | have a10 := in_u ((in_c 160 rfl)) | (have a10 := (in_c 160 rfl); unfold In at a10)); omega); rw [ei, ← e8]; have hz := i89; unfold In at hz; omega)) | (intro i h1 h2 ht; rw [sI_q]; unfold upd; by_cases c2 : (s.1 113 i).toNatClampNeg = z101.toNatClampNeg; (rw [if_pos c2]; have ha := i104; unfold In at ha; (first | have a0 := oa6 j71_2 j71_1 ro_109_20 ro_109_19 i80 i107 | ((first | have a0 := in_u j71_2 | (have a0 := j71_2; unfold In at a0)); (first | have a1 := in_u j71_1 | (have a1 := j71_1; unfold In at a1)); (first | have a2 := in_u ro_109_20 | (have a2 := ro_109_20; unfold In at a2)); (first | have a3 := in_u ro_109_19 | (have a3 := ro_109_19; unfold In at a3)); (first | have a4 := in_u i80 | (have a4 := i80; unfold In at a4)); (first | have a5 := in_u i107 | (have a5 := i107; unfold In at a5)))); have a6 := t_add e107 i80 (in_c 1 rfl) rfl; (first | have a7 := oa2 ((in_c 1 rfl)) i79 | ((first | have a7 := in_u ((in_c 1 rfl)) | (have a7 := (in_c 1 rfl); unfold In at a7)); (first | have a8 := in_u i79 | (have a8 := i79; unfold In at a8)))); have a9 := t_add e79 ro_109_19 (in_c 160 rfl) rfl; (first | have a10 := in_u ((in_c 160 rfl)) | (have a10 := (in_c 160 rfl); unfold In at a10)); omega); (rw [if_neg c2]; by_cases c : (i : Int) < y71_3.toInt; exact g71_1 i h1 c ht; (exfalso; apply c2; have ei : i = y71_3.toNatClampNeg := (by show i = y71_3.toInt.toNat; (first | have a0 := oa6 j71_2 j71_1 ro_109_20 ro_109_19 i80 i107 | ((first | have a0 := in_u j71_2 | (have a0 := j71_2; unfold In at a0)); (first | have a1 := in_u j71_1 | (have a1 := j71_1; unfold In at a1)); (first | have a2 := in_u ro_109_20 | (have a2 := ro_109_20; unfold In at a2)); (first | have a3 := in_u ro_109_19 | (have a3 := ro_109_19; unfold In at a3)); (first | have a4 := in_u i80 | (have a4 := i80; unfold In at a4)); (first | have a5 := in_u i107 | (have a5 := i107; unfold In at a5)))); have a6 := t_add e107 i80 (in_c 1 rfl) rfl; (first | have a7 := oa2 ((in_c 1 rfl)) i79 | ((first | have a7 := in_u ((in_c 1 rfl)) | (have a7 := (in_c 1 rfl); unfold In at a7)); (first | have a8 := in_u i79 | (have a8 := i79; unfold In at a8)))); have a9 := t_add e79 ro_109_19 (in_c 160 rfl) rfl; (first | have a10 := in_u ((in_c 160 rfl)) | (have a10 := (in_c 160 rfl); unfold In at a10)); omega); rw [ei, e101, hFc71.1 113 rfl])))
          exact gg_w (by first | exact Nat.le_add_right _ _ | exact gw2 | exact gw3 | exact gwe rfl | exact gwf rfl | exact gwg rfl | exact gwh rfl | omega) (gg_f (gf_cons rfl (gf_cons rfl (gf_cons rfl (gf_cons rfl gf_nil)))) (ih71 sc71 z107 hIc71 hFc71 (in_w 0 31 j71_1 rfl) (in_w 0 40 j71_2 rfl) (in_w 0 400 i107 rfl) n71 n71a n71b n71c (m_up mm71 (t_add e107 i80 (in_c 1 rfl) rfl) (in_w 1 1 (in_c 1 rfl) rfl))))
        · skip
          have i89 := z_ne 1 1 c89 i88 rfl
          refine g_aload_n 93 (gd rfl) rfl rfl ?_
          refine g_getA (q2 := 164) 96 (gd rfl) rfl rfl rfl rfl ?_
          refine g_aload_n 97 (gd rfl) rfl rfl ?_
          refine g_getA (q2 := 113) 100 (gd rfl) rfl rfl rfl rfl ?_
          refine g_iload_n 101 (gd rfl) rfl rfl ?_
          refine g_iaload 102 (gd rfl) rfl (n := 480) rfl (in_ix i80 rfl) (fun z101 e101 => ?_)
          have i101 := inv_I hIc71 (n := 480) (t := 0) 0 31 rfl (in_ix i80 rfl) rfl e101
          refine g_dup2 103 (gd rfl) rfl rfl rfl ?_
          refine g_iaload 104 (gd rfl) rfl (n := 32) rfl (in_ix i101 rfl) (fun z103 e103 => ?_)
          have i103 := inv_I hIc71 (n := 32) (t := 0) 0 160 rfl (in_ix i101 rfl) rfl e103
          have i104 : In z103 0 159 := by have h3 := (hFc71.1 112 rfl); have h4 := (hFc71.1 113 rfl); have e8 : z88 = s.1 112 y71_3.toNatClampNeg := (by rw [e88, h3]); have hz : (s.1 112 y71_3.toNatClampNeg).toInt ≠ 0 := (by rw [← e8]; have hz := i89; unfold In at hz; omega); have hk := ke_n hI (i := y71_3.toNatClampNeg) (by rw [← e_109_19]; show _ ≤ ((y71_3.toInt.toNat : Nat) : Int); (first | have a0 := oa6 j71_2 j71_1 ro_109_20 ro_109_19 i80 i79 | ((first | have a0 := in_u j71_2 | (have a0 := j71_2; unfold In at a0)); (first | have a1 := in_u j71_1 | (have a1 := j71_1; unfold In at a1)); (first | have a2 := in_u ro_109_20 | (have a2 := ro_109_20; unfold In at a2)); (first | have a3 := in_u ro_109_19 | (have a3 := ro_109_19; unfold In at a3)); (first | have a4 := in_u i80 | (have a4 := i80; unfold In at a4)); (first | have a5 := in_u i79 | (have a5 := i79; unfold In at a5)))); have a6 := t_add e79 ro_109_19 (in_c 160 rfl) rfl; (first | have a7 := in_u ((in_c 160 rfl)) | (have a7 := (in_c 160 rfl); unfold In at a7)); omega) (by rw [← e_109_19]; show ((y71_3.toInt.toNat : Nat) : Int) < _; (first | have a0 := oa6 j71_2 j71_1 ro_109_20 ro_109_19 i80 i79 | ((first | have a0 := in_u j71_2 | (have a0 := j71_2; unfold In at a0)); (first | have a1 := in_u j71_1 | (have a1 := j71_1; unfold In at a1)); (first | have a2 := in_u ro_109_20 | (have a2 := ro_109_20; unfold In at a2)); (first | have a3 := in_u ro_109_19 | (have a3 := ro_109_19; unfold In at a3)); (first | have a4 := in_u i80 | (have a4 := i80; unfold In at a4)); (first | have a5 := in_u i79 | (have a5 := i79; unfold In at a5)))); have a6 := t_add e79 ro_109_19 (in_c 160 rfl) rfl; (first | have a7 := in_u ((in_c 160 rfl)) | (have a7 := (in_c 160 rfl); unfold In at a7)); omega) hz; rw [← e_109_20, ← h4, ← e101] at hk; have h1 := g71_0 z101.toNatClampNeg (by show ((z101.toInt.toNat : Nat) : Int) < _; have h := i101; unfold In at h; omega); rw [← e103] at h1; exact ⟨i103.1, by (first | have a0 := oa6 j71_2 j71_1 ro_109_20 ro_109_19 i80 i79 | ((first | have a0 := in_u j71_2 | (have a0 := j71_2; unfold In at a0)); (first | have a1 := in_u j71_1 | (have a1 := j71_1; unfold In at a1)); (first | have a2 := in_u ro_109_20 | (have a2 := ro_109_20; unfold In at a2)); (first | have a3 := in_u ro_109_19 | (have a3 := ro_109_19; unfold In at a3)); (first | have a4 := in_u i80 | (have a4 := i80; unfold In at a4)); (first | have a5 := in_u i79 | (have a5 := i79; unfold In at a5)))); have a6 := t_add e79 ro_109_19 (in_c 160 rfl) rfl; (first | have a7 := in_u ((in_c 160 rfl)) | (have a7 := (in_c 160 rfl); unfold In at a7)); omega⟩
          refine g_iconst 1 105 (gd rfl) rfl rfl ?_
          refine g_iadd 106 (gd rfl) rfl (fun z105 e105 => ?_)
          have i105 := in_add 1 160 e105 i104 (in_c 1 rfl) rfl rfl
          refine g_iastore 107 (gd rfl) rfl (n := 32) rfl (in_ix i101 rfl) ?_
          have hI106 := inv_sI (q := 164) (j := z101.toNatClampNeg) hIc71 rfl (in_w 0 160 i105 rfl)
          refine g_iinc 110 (gd rfl) rfl rfl (Nat.le_of_ble_eq_true rfl) (fun z107 e107 => ?_)
          have i107 := in_add 1 320 e107 i80 (in_c 1 rfl) rfl rfl
          refine g_goto 71 (gd rfl) rfl ?_
          have n71 : (u_109_19).toInt ≤ (z107).toInt := by (first | have a0 := oa6 j71_2 j71_1 ro_109_20 ro_109_19 i80 i107 | ((first | have a0 := in_u j71_2 | (have a0 := j71_2; unfold In at a0)); (first | have a1 := in_u j71_1 | (have a1 := j71_1; unfold In at a1)); (first | have a2 := in_u ro_109_20 | (have a2 := ro_109_20; unfold In at a2)); (first | have a3 := in_u ro_109_19 | (have a3 := ro_109_19; unfold In at a3)); (first | have a4 := in_u i80 | (have a4 := i80; unfold In at a4)); (first | have a5 := in_u i107 | (have a5 := i107; unfold In at a5)))); have a6 := t_add e107 i80 (in_c 1 rfl) rfl; (first | have a7 := oa2 ((in_c 1 rfl)) i105 | ((first | have a7 := in_u ((in_c 1 rfl)) | (have a7 := (in_c 1 rfl); unfold In at a7)); (first | have a8 := in_u i105 | (have a8 := i105; unfold In at a8)))); have a9 := t_add e105 i104 (in_c 1 rfl) rfl; (first | have a10 := oa2 i104 i79 | ((first | have a10 := in_u i104 | (have a10 := i104; unfold In at a10)); (first | have a11 := in_u i79 | (have a11 := i79; unfold In at a11)))); have a12 := t_add e79 ro_109_19 (in_c 160 rfl) rfl; (first | have a13 := in_u ((in_c 160 rfl)) | (have a13 := (in_c 160 rfl); unfold In at a13)); omega
          have n71a : (z107).toInt ≤ (u_109_19).toInt + 160 := by (first | have a0 := oa6 j71_2 j71_1 ro_109_20 ro_109_19 i80 i107 | ((first | have a0 := in_u j71_2 | (have a0 := j71_2; unfold In at a0)); (first | have a1 := in_u j71_1 | (have a1 := j71_1; unfold In at a1)); (first | have a2 := in_u ro_109_20 | (have a2 := ro_109_20; unfold In at a2)); (first | have a3 := in_u ro_109_19 | (have a3 := ro_109_19; unfold In at a3)); (first | have a4 := in_u i80 | (have a4 := i80; unfold In at a4)); (first | have a5 := in_u i107 | (have a5 := i107; unfold In at a5)))); have a6 := t_add e107 i80 (in_c 1 rfl) rfl; (first | have a7 := oa2 ((in_c 1 rfl)) i105 | ((first | have a7 := in_u ((in_c 1 rfl)) | (have a7 := (in_c 1 rfl); unfold In at a7)); (first | have a8 := in_u i105 | (have a8 := i105; unfold In at a8)))); have a9 := t_add e105 i104 (in_c 1 rfl) rfl; (first | have a10 := oa2 i104 i79 | ((first | have a10 := in_u i104 | (have a10 := i104; unfold In at a10)); (first | have a11 := in_u i79 | (have a11 := i79; unfold In at a11)))); have a12 := t_add e79 ro_109_19 (in_c 160 rfl) rfl; (first | have a13 := in_u ((in_c 160 rfl)) | (have a13 := (in_c 160 rfl); unfold In at a13)); omega
          have n71b : ∀ j : Nat, (j : Int) < (u_109_20).toInt → ((sI sc71 164 z101.toNatClampNeg z105).1 164 j).toInt ≤ (z107).toInt - (u_109_19).toInt := by first | (intro j hj; have h := g36_0 j (by (first | have a0 := oa6 j71_2 j71_1 ro_109_20 ro_109_19 i80 i107 | ((first | have a0 := in_u j71_2 | (have a0 := j71_2; unfold In at a0)); (first | have a1 := in_u j71_1 | (have a1 := j71_1; unfold In at a1)); (first | have a2 := in_u ro_109_20 | (have a2 := ro_109_20; unfold In at a2)); (first | have a3 := in_u ro_109_19 | (have a3 := ro_109_19; unfold In at a3)); (first | have a4 := in_u i80 | (have a4 := i80; unfold In at a4)); (first | have a5 := in_u i107 | (have a5 := i107; unfold In at a5)))); have a6 := t_add e107 i80 (in_c 1 rfl) rfl; (first | have a7 := oa2 ((in_c 1 rfl)) i105 | ((first | have a7 := in_u ((in_c 1 rfl)) | (have a7 := (in_c 1 rfl); unfold In at a7)); (first | have a8 := in_u i105 | (have a8 := i105; unfold In at a8)))); have a9 := t_add e105 i104 (in_c 1 rfl) rfl; (first | have a10 := oa2 i104 i79 | ((first | have a10 := in_u i104 | (have a10 := i104; unfold In at a10)); (first | have a11 := in_u i79 | (have a11 := i79; unfold In at a11)))); have a12 := t_add e79 ro_109_19 (in_c 160 rfl) rfl; (first | have a13 := in_u ((in_c 160 rfl)) | (have a13 := (in_c 160 rfl); unfold In at a13)); omega); omega) | (intro j hj; have h := g71_0 j hj; (first | have a0 := oa6 j71_2 j71_1 ro_109_20 ro_109_19 i80 i107 | ((first | have a0 := in_u j71_2 | (have a0 := j71_2; unfold In at a0)); (first | have a1 := in_u j71_1 | (have a1 := j71_1; unfold In at a1)); (first | have a2 := in_u ro_109_20 | (have a2 := ro_109_20; unfold In at a2)); (first | have a3 := in_u ro_109_19 | (have a3 := ro_109_19; unfold In at a3)); (first | have a4 := in_u i80 | (have a4 := i80; unfold In at a4)); (first | have a5 := in_u i107 | (have a5 := i107; unfold In at a5)))); have a6 := t_add e107 i80 (in_c 1 rfl) rfl; (first | have a7 := oa2 ((in_c 1 rfl)) i105 | ((first | have a7 := in_u ((in_c 1 rfl)) | (have a7 := (in_c 1 rfl); unfold In at a7)); (first | have a8 := in_u i105 | (have a8 := i105; unfold In at a8)))); have a9 := t_add e105 i104 (in_c 1 rfl) rfl; (first | have a10 := oa2 i104 i79 | ((first | have a10 := in_u i104 | (have a10 := i104; unfold In at a10)); (first | have a11 := in_u i79 | (have a11 := i79; unfold In at a11)))); have a12 := t_add e79 ro_109_19 (in_c 160 rfl) rfl; (first | have a13 := in_u ((in_c 160 rfl)) | (have a13 := (in_c 160 rfl); unfold In at a13)); omega) | (intro j hj; rw [sI_q]; unfold upd; have h := g71_0 j hj; have e5 : z101.toNatClampNeg = z101.toInt.toNat := rfl; by_cases c : j = z101.toNatClampNeg; (rw [if_pos c]; rw [c, ← e103] at h; (first | have a0 := oa6 j71_2 j71_1 ro_109_20 ro_109_19 i80 i107 | ((first | have a0 := in_u j71_2 | (have a0 := j71_2; unfold In at a0)); (first | have a1 := in_u j71_1 | (have a1 := j71_1; unfold In at a1)); (first | have a2 := in_u ro_109_20 | (have a2 := ro_109_20; unfold In at a2)); (first | have a3 := in_u ro_109_19 | (have a3 := ro_109_19; unfold In at a3)); (first | have a4 := in_u i80 | (have a4 := i80; unfold In at a4)); (first | have a5 := in_u i107 | (have a5 := i107; unfold In at a5)))); have a6 := t_add e107 i80 (in_c 1 rfl) rfl; (first | have a7 := oa2 ((in_c 1 rfl)) i105 | ((first | have a7 := in_u ((in_c 1 rfl)) | (have a7 := (in_c 1 rfl); unfold In at a7)); (first | have a8 := in_u i105 | (have a8 := i105; unfold In at a8)))); have a9 := t_add e105 i104 (in_c 1 rfl) rfl; (first | have a10 := oa2 i104 i79 | ((first | have a10 := in_u i104 | (have a10 := i104; unfold In at a10)); (first | have a11 := in_u i79 | (have a11 := i79; unfold In at a11)))); have a12 := t_add e79 ro_109_19 (in_c 160 rfl) rfl; (first | have a13 := in_u ((in_c 160 rfl)) | (have a13 := (in_c 160 rfl); unfold In at a13)); omega); (rw [if_neg c]; (first | have a0 := oa6 j71_2 j71_1 ro_109_20 ro_109_19 i80 i107 | ((first | have a0 := in_u j71_2 | (have a0 := j71_2; unfold In at a0)); (first | have a1 := in_u j71_1 | (have a1 := j71_1; unfold In at a1)); (first | have a2 := in_u ro_109_20 | (have a2 := ro_109_20; unfold In at a2)); (first | have a3 := in_u ro_109_19 | (have a3 := ro_109_19; unfold In at a3)); (first | have a4 := in_u i80 | (have a4 := i80; unfold In at a4)); (first | have a5 := in_u i107 | (have a5 := i107; unfold In at a5)))); have a6 := t_add e107 i80 (in_c 1 rfl) rfl; (first | have a7 := oa2 ((in_c 1 rfl)) i105 | ((first | have a7 := in_u ((in_c 1 rfl)) | (have a7 := (in_c 1 rfl); unfold In at a7)); (first | have a8 := in_u i105 | (have a8 := i105; unfold In at a8)))); have a9 := t_add e105 i104 (in_c 1 rfl) rfl; (first | have a10 := oa2 i104 i79 | ((first | have a10 := in_u i104 | (have a10 := i104; unfold In at a10)); (first | have a11 := in_u i79 | (have a11 := i79; unfold In at a11)))); have a12 := t_add e79 ro_109_19 (in_c 160 rfl) rfl; (first | have a13 := in_u ((in_c 160 rfl)) | (have a13 := (in_c 160 rfl); unfold In at a13)); omega))
          have n71c : ∀ i : Nat, (u_109_19).toInt ≤ (i : Int) → (i : Int) < (z107).toInt → (s.1 112 i).toInt ≠ 0 → 1 ≤ ((sI sc71 164 z101.toNatClampNeg z105).1 164 (s.1 113 i).toNatClampNeg).toInt := by first | (intro i h1 h2; exfalso; omega) | (intro i h1 h2 ht; by_cases c : (i : Int) < y71_3.toInt; exact g71_1 i h1 c ht; (exfalso; apply ht; have h3 := (hFc71.1 112 rfl); have h4 := (hFc71.1 113 rfl); have e8 : z88 = s.1 112 y71_3.toNatClampNeg := (by rw [e88, h3]); have ei : i = y71_3.toNatClampNeg := (by show i = y71_3.toInt.toNat; (first | have a0 := oa6 j71_2 j71_1 ro_109_20 ro_109_19 i80 i107 | ((first | have a0 := in_u j71_2 | (have a0 := j71_2; unfold In at a0)); (first | have a1 := in_u j71_1 | (have a1 := j71_1; unfold In at a1)); (first | have a2 := in_u ro_109_20 | (have a2 := ro_109_20; unfold In at a2)); (first | have a3 := in_u ro_109_19 | (have a3 := ro_109_19; unfold In at a3)); (first | have a4 := in_u i80 | (have a4 := i80; unfold In at a4)); (first | have a5 := in_u i107 | (have a5 := i107; unfold In at a5)))); have a6 := t_add e107 i80 (in_c 1 rfl) rfl; (first | have a7 := oa2 ((in_c 1 rfl)) i105 | ((first | have a7 := in_u ((in_c 1 rfl)) | (have a7 := (in_c 1 rfl); unfold In at a7)); (first | have a8 := in_u i105 | (have a8 := i105; unfold In at a8)))); have a9 := t_add e105 i104 (in_c 1 rfl) rfl; (first | have a10 := oa2 i104 i79 | ((first | have a10 := in_u i104 | (have a10 := i104; unfold In at a10)); (first | have a11 := in_u i79 | (have a11 := i79; unfold In at a11)))); have a12 := t_add e79 ro_109_19 (in_c 160 rfl) rfl; (first | have a13 := in_u ((in_c 160 rfl)) | (have a13 := (in_c 160 rfl); unfold In at a13)); omega); rw [ei, ← e8]; have hz := i89; unfold In at hz; omega)) | (intro i h1 h2 ht; rw [sI_q]; unfold upd; by_cases c2 : (s.1 113 i).toNatClampNeg = z101.toNatClampNeg; (rw [if_pos c2]; have ha := i104; unfold In at ha; (first | have a0 := oa6 j71_2 j71_1 ro_109_20 ro_109_19 i80 i107 | ((first | have a0 := in_u j71_2 | (have a0 := j71_2; unfold In at a0)); (first | have a1 := in_u j71_1 | (have a1 := j71_1; unfold In at a1)); (first | have a2 := in_u ro_109_20 | (have a2 := ro_109_20; unfold In at a2)); (first | have a3 := in_u ro_109_19 | (have a3 := ro_109_19; unfold In at a3)); (first | have a4 := in_u i80 | (have a4 := i80; unfold In at a4)); (first | have a5 := in_u i107 | (have a5 := i107; unfold In at a5)))); have a6 := t_add e107 i80 (in_c 1 rfl) rfl; (first | have a7 := oa2 ((in_c 1 rfl)) i105 | ((first | have a7 := in_u ((in_c 1 rfl)) | (have a7 := (in_c 1 rfl); unfold In at a7)); (first | have a8 := in_u i105 | (have a8 := i105; unfold In at a8)))); have a9 := t_add e105 i104 (in_c 1 rfl) rfl; (first | have a10 := oa2 i104 i79 | ((first | have a10 := in_u i104 | (have a10 := i104; unfold In at a10)); (first | have a11 := in_u i79 | (have a11 := i79; unfold In at a11)))); have a12 := t_add e79 ro_109_19 (in_c 160 rfl) rfl; (first | have a13 := in_u ((in_c 160 rfl)) | (have a13 := (in_c 160 rfl); unfold In at a13)); omega); (rw [if_neg c2]; by_cases c : (i : Int) < y71_3.toInt; exact g71_1 i h1 c ht; (exfalso; apply c2; have ei : i = y71_3.toNatClampNeg := (by show i = y71_3.toInt.toNat; (first | have a0 := oa6 j71_2 j71_1 ro_109_20 ro_109_19 i80 i107 | ((first | have a0 := in_u j71_2 | (have a0 := j71_2; unfold In at a0)); (first | have a1 := in_u j71_1 | (have a1 := j71_1; unfold In at a1)); (first | have a2 := in_u ro_109_20 | (have a2 := ro_109_20; unfold In at a2)); (first | have a3 := in_u ro_109_19 | (have a3 := ro_109_19; unfold In at a3)); (first | have a4 := in_u i80 | (have a4 := i80; unfold In at a4)); (first | have a5 := in_u i107 | (have a5 := i107; unfold In at a5)))); have a6 := t_add e107 i80 (in_c 1 rfl) rfl; (first | have a7 := oa2 ((in_c 1 rfl)) i105 | ((first | have a7 := in_u ((in_c 1 rfl)) | (have a7 := (in_c 1 rfl); unfold In at a7)); (first | have a8 := in_u i105 | (have a8 := i105; unfold In at a8)))); have a9 := t_add e105 i104 (in_c 1 rfl) rfl; (first | have a10 := oa2 i104 i79 | ((first | have a10 := in_u i104 | (have a10 := i104; unfold In at a10)); (first | have a11 := in_u i79 | (have a11 := i79; unfold In at a11)))); have a12 := t_add e79 ro_109_19 (in_c 160 rfl) rfl; (first | have a13 := in_u ((in_c 160 rfl)) | (have a13 := (in_c 160 rfl); unfold In at a13)); omega); rw [ei, e101, hFc71.1 113 rfl])))
          exact gg_w (by first | exact Nat.le_add_right _ _ | exact gw2 | exact gw3 | exact gwe rfl | exact gwf rfl | exact gwg rfl | exact gwh rfl | omega) (gg_f (gf_cons rfl (gf_cons rfl (gf_cons rfl (gf_cons rfl gf_nil)))) (ih71 (sI sc71 164 z101.toNatClampNeg z105) z107 hI106 (fr_sI rfl hFc71) (in_w 0 31 j71_1 rfl) (in_w 0 40 j71_2 rfl) (in_w 0 400 i107 rfl) n71 n71a n71b n71c (m_up mm71 (t_add e107 i80 (in_c 1 rfl) rfl) (in_w 1 1 (in_c 1 rfl) rfl))))
  have ct36 : ∀ (k36 : Nat) (sc36 : GS) (y36_3 : Int32), Inv sc36 → Fr fm_369 s sc36 → (In x1 0 31) → (In x2 0 40) → (In y36_3 0 32) → (∀ j : Nat, (j : Int) < (y36_3).toInt → (sc36.1 164 j).toInt = 0) → 32 - (y36_3).toInt < (k36 : Int) → GG Z (d - 1) 369 post (gx xp) (26383686 + k36 * 900) 36 (fun j => xlook j [(0, .ref (A 109)), (1, .int x1), (2, .int x2), (3, .int y36_3)]) [] (WW Z A sc36 ++ ex) 0 0 := by
    intro k36
    induction k36 with
    | zero => intro sc36 y36_3 hIc36 hFc36 j36_1 j36_2 j36_3 g36_0 mm36; exact m_no mm36 j36_3 rfl
    | succ k36 ih36 =>
      intro sc36 y36_3 hIc36 hFc36 j36_1 j36_2 j36_3 g36_0 mm36
      refine gg_w (M := 26383686 + k36 * 900 + 900) gws ?_
      refine g_iload_n 37 (gd rfl) rfl rfl ?_
      refine g_aload_n 38 (gd rfl) rfl rfl ?_
      refine g_getI 41 (gd rfl) rfl rfl rfl (fun z38 e38 => ?_)
      have q38 : u_109_20 = z38 := (fr_F e_109_20 hFc36 rfl).trans e38.symm
      subst q38
      refine g_cmp_ge 44 66 (gd rfl) rfl rfl (fun c41 => ?_) (fun c41 => ?_)
      · skip
        refine g_aload_n 67 (gd rfl) rfl rfl ?_
        refine g_getI 70 (gd rfl) rfl rfl rfl (fun z67 e67 => ?_)
        have q67 : u_109_19 = z67 := (fr_F e_109_19 hFc36 rfl).trans e67.symm
        subst q67
        refine g_istore_n 71 (gd rfl) rfl (Nat.le_of_ble_eq_true rfl) ?_
        have n71 : (u_109_19).toInt ≤ (u_109_19).toInt := by exact Int.le_refl _
        have n71a : (u_109_19).toInt ≤ (u_109_19).toInt + 160 := by (first | have a0 := oa5 j36_2 j36_1 ro_109_20 ro_109_19 j36_3 | ((first | have a0 := in_u j36_2 | (have a0 := j36_2; unfold In at a0)); (first | have a1 := in_u j36_1 | (have a1 := j36_1; unfold In at a1)); (first | have a2 := in_u ro_109_20 | (have a2 := ro_109_20; unfold In at a2)); (first | have a3 := in_u ro_109_19 | (have a3 := ro_109_19; unfold In at a3)); (first | have a4 := in_u j36_3 | (have a4 := j36_3; unfold In at a4)))); omega
        have n71b : ∀ j : Nat, (j : Int) < (u_109_20).toInt → (sc36.1 164 j).toInt ≤ (u_109_19).toInt - (u_109_19).toInt := by first | (intro j hj; have h := g36_0 j (by (first | have a0 := oa5 j36_2 j36_1 ro_109_20 ro_109_19 j36_3 | ((first | have a0 := in_u j36_2 | (have a0 := j36_2; unfold In at a0)); (first | have a1 := in_u j36_1 | (have a1 := j36_1; unfold In at a1)); (first | have a2 := in_u ro_109_20 | (have a2 := ro_109_20; unfold In at a2)); (first | have a3 := in_u ro_109_19 | (have a3 := ro_109_19; unfold In at a3)); (first | have a4 := in_u j36_3 | (have a4 := j36_3; unfold In at a4)))); omega); omega) | (intro j hj; have h := g71_0 j hj; (first | have a0 := oa5 j36_2 j36_1 ro_109_20 ro_109_19 j36_3 | ((first | have a0 := in_u j36_2 | (have a0 := j36_2; unfold In at a0)); (first | have a1 := in_u j36_1 | (have a1 := j36_1; unfold In at a1)); (first | have a2 := in_u ro_109_20 | (have a2 := ro_109_20; unfold In at a2)); (first | have a3 := in_u ro_109_19 | (have a3 := ro_109_19; unfold In at a3)); (first | have a4 := in_u j36_3 | (have a4 := j36_3; unfold In at a4)))); omega) | (intro j hj; rw [sI_q]; unfold upd; have h := g71_0 j hj; have e5 : z101.toNatClampNeg = z101.toInt.toNat := rfl; by_cases c : j = z101.toNatClampNeg; (rw [if_pos c]; rw [c, ← e103] at h; (first | have a0 := oa5 j36_2 j36_1 ro_109_20 ro_109_19 j36_3 | ((first | have a0 := in_u j36_2 | (have a0 := j36_2; unfold In at a0)); (first | have a1 := in_u j36_1 | (have a1 := j36_1; unfold In at a1)); (first | have a2 := in_u ro_109_20 | (have a2 := ro_109_20; unfold In at a2)); (first | have a3 := in_u ro_109_19 | (have a3 := ro_109_19; unfold In at a3)); (first | have a4 := in_u j36_3 | (have a4 := j36_3; unfold In at a4)))); omega); (rw [if_neg c]; (first | have a0 := oa5 j36_2 j36_1 ro_109_20 ro_109_19 j36_3 | ((first | have a0 := in_u j36_2 | (have a0 := j36_2; unfold In at a0)); (first | have a1 := in_u j36_1 | (have a1 := j36_1; unfold In at a1)); (first | have a2 := in_u ro_109_20 | (have a2 := ro_109_20; unfold In at a2)); (first | have a3 := in_u ro_109_19 | (have a3 := ro_109_19; unfold In at a3)); (first | have a4 := in_u j36_3 | (have a4 := j36_3; unfold In at a4)))); omega))
        have n71c : ∀ i : Nat, (u_109_19).toInt ≤ (i : Int) → (i : Int) < (u_109_19).toInt → (s.1 112 i).toInt ≠ 0 → 1 ≤ (sc36.1 164 (s.1 113 i).toNatClampNeg).toInt := by first | (intro i h1 h2; exfalso; omega) | (intro i h1 h2 ht; by_cases c : (i : Int) < y71_3.toInt; exact g71_1 i h1 c ht; (exfalso; apply ht; have h3 := (hFc71.1 112 rfl); have h4 := (hFc71.1 113 rfl); have e8 : z88 = s.1 112 y71_3.toNatClampNeg := (by rw [e88, h3]); have ei : i = y71_3.toNatClampNeg := (by show i = y71_3.toInt.toNat; (first | have a0 := oa5 j36_2 j36_1 ro_109_20 ro_109_19 j36_3 | ((first | have a0 := in_u j36_2 | (have a0 := j36_2; unfold In at a0)); (first | have a1 := in_u j36_1 | (have a1 := j36_1; unfold In at a1)); (first | have a2 := in_u ro_109_20 | (have a2 := ro_109_20; unfold In at a2)); (first | have a3 := in_u ro_109_19 | (have a3 := ro_109_19; unfold In at a3)); (first | have a4 := in_u j36_3 | (have a4 := j36_3; unfold In at a4)))); omega); rw [ei, ← e8]; have hz := i89; unfold In at hz; omega)) | (intro i h1 h2 ht; rw [sI_q]; unfold upd; by_cases c2 : (s.1 113 i).toNatClampNeg = z101.toNatClampNeg; (rw [if_pos c2]; have ha := i104; unfold In at ha; (first | have a0 := oa5 j36_2 j36_1 ro_109_20 ro_109_19 j36_3 | ((first | have a0 := in_u j36_2 | (have a0 := j36_2; unfold In at a0)); (first | have a1 := in_u j36_1 | (have a1 := j36_1; unfold In at a1)); (first | have a2 := in_u ro_109_20 | (have a2 := ro_109_20; unfold In at a2)); (first | have a3 := in_u ro_109_19 | (have a3 := ro_109_19; unfold In at a3)); (first | have a4 := in_u j36_3 | (have a4 := j36_3; unfold In at a4)))); omega); (rw [if_neg c2]; by_cases c : (i : Int) < y71_3.toInt; exact g71_1 i h1 c ht; (exfalso; apply c2; have ei : i = y71_3.toNatClampNeg := (by show i = y71_3.toInt.toNat; (first | have a0 := oa5 j36_2 j36_1 ro_109_20 ro_109_19 j36_3 | ((first | have a0 := in_u j36_2 | (have a0 := j36_2; unfold In at a0)); (first | have a1 := in_u j36_1 | (have a1 := j36_1; unfold In at a1)); (first | have a2 := in_u ro_109_20 | (have a2 := ro_109_20; unfold In at a2)); (first | have a3 := in_u ro_109_19 | (have a3 := ro_109_19; unfold In at a3)); (first | have a4 := in_u j36_3 | (have a4 := j36_3; unfold In at a4)))); omega); rw [ei, e101, hFc71.1 113 rfl])))
        exact gg_w (by first | exact Nat.le_add_right _ _ | exact gw2 | exact gw3 | exact gwe rfl | exact gwf rfl | exact gwg rfl | exact gwh rfl | omega) (gg_f (gf_cons rfl (gf_cons rfl (gf_cons rfl (gf_cons rfl gf_nil)))) (ct71 401 sc36 u_109_19 hIc36 hFc36 (in_w 0 31 j36_1 rfl) (in_w 0 40 j36_2 rfl) (in_w 0 400 ro_109_19 rfl) n71 n71a n71b n71c (m_in 401 (in_w 0 400 ro_109_19 rfl) rfl)))
      · skip
        have i41 := r_lt1 0 31 c41 j36_3 ro_109_20 rfl
        have i41a := r_lt2 1 32 c41 j36_3 ro_109_20 rfl
        refine g_aload_n 45 (gd rfl) rfl rfl ?_
        refine g_getA (q2 := 162) 48 (gd rfl) rfl rfl rfl rfl ?_
        refine g_iload_n 49 (gd rfl) rfl rfl ?_
        refine g_ldc2_w 1000000000000 52 (gd rfl) rfl rfl ?_
        refine g_lastore 53 (gd rfl) rfl (n := 32) rfl (in_ix i41 rfl) ?_
        have hI52 := inv_sL (q := 162) (j := y36_3.toNatClampNeg) (x := (Int64.ofInt 1000000000000)) hIc36 rfl (l_rng (Int64.ofInt 1000000000000))
        refine g_aload_n 54 (gd rfl) rfl rfl ?_
        refine g_getA (q2 := 164) 57 (gd rfl) rfl rfl rfl rfl ?_
        refine g_iload_n 58 (gd rfl) rfl rfl ?_
        refine g_iconst 0 59 (gd rfl) rfl rfl ?_
        refine g_iastore 60 (gd rfl) rfl (n := 32) rfl (in_ix i41 rfl) ?_
        have hI59 := inv_sI (q := 164) (j := y36_3.toNatClampNeg) hI52 rfl (in_w 0 160 (in_c 0 rfl) rfl)
        refine g_iinc 63 (gd rfl) rfl rfl (Nat.le_of_ble_eq_true rfl) (fun z60 e60 => ?_)
        have i60 := in_add 1 32 e60 i41 (in_c 1 rfl) rfl rfl
        refine g_goto 36 (gd rfl) rfl ?_
        have n36 : ∀ j : Nat, (j : Int) < (z60).toInt → ((sI (sL sc36 162 y36_3.toNatClampNeg (Int64.ofInt 1000000000000)) 164 y36_3.toNatClampNeg (Int32.ofInt 0)).1 164 j).toInt = 0 := by first | (intro j hj; exfalso; have h0 : (Int32.ofInt 0).toInt = 0 := rfl; omega) | (intro j hj; show (upd (sc36.1 164) y36_3.toNatClampNeg (Int32.ofInt 0) j).toInt = 0; unfold upd; by_cases c : j = y36_3.toNatClampNeg; (rw [if_pos c]; rfl); (rw [if_neg c]; exact g36_0 j (by have e5 : y36_3.toNatClampNeg = y36_3.toInt.toNat := rfl; (first | have a0 := oa6 j36_2 j36_1 i41a ro_109_19 i41 i60 | ((first | have a0 := in_u j36_2 | (have a0 := j36_2; unfold In at a0)); (first | have a1 := in_u j36_1 | (have a1 := j36_1; unfold In at a1)); (first | have a2 := in_u i41a | (have a2 := i41a; unfold In at a2)); (first | have a3 := in_u ro_109_19 | (have a3 := ro_109_19; unfold In at a3)); (first | have a4 := in_u i41 | (have a4 := i41; unfold In at a4)); (first | have a5 := in_u i60 | (have a5 := i60; unfold In at a5)))); have a6 := t_add e60 i41 (in_c 1 rfl) rfl; (first | have a7 := in_u ((in_c 1 rfl)) | (have a7 := (in_c 1 rfl); unfold In at a7)); omega)))
        exact gg_w (by first | exact Nat.le_add_right _ _ | exact gw2 | exact gw3 | exact gwe rfl | exact gwf rfl | exact gwg rfl | exact gwh rfl | omega) (gg_f (gf_cons rfl (gf_cons rfl (gf_cons rfl (gf_cons rfl gf_nil)))) (ih36 (sI (sL sc36 162 y36_3.toNatClampNeg (Int64.ofInt 1000000000000)) 164 y36_3.toNatClampNeg (Int32.ofInt 0)) z60 hI59 (fr_sI rfl (fr_sL rfl hFc36)) (in_w 0 31 j36_1 rfl) (in_w 0 40 j36_2 rfl) (in_w 0 32 i60 rfl) n36 (m_up mm36 (t_add e60 i41 (in_c 1 rfl) rfl) (in_w 1 1 (in_c 1 rfl) rfl))))
  refine g_enter2 (k := 369) (N := 26414286) (by first | exact dq1 hd rfl | exact dq0 hd rfl | exact dq2 hd rfl | exact dq3 hd rfl | omega) rfl (Nat.le_of_ble_eq_true rfl) ?_
  refine g_aload_n 1 (gd rfl) rfl rfl ?_
  refine g_aload_n 2 (gd rfl) rfl rfl ?_
  refine g_iload_n 3 (gd rfl) rfl rfl ?_
  refine g_callv (X := _) (As := [.int x1]) (r := [.ref (A 109)]) (b := A 109) (q := 109) 6 (gd rfl) rfl rfl rfl rfl rfl (ww_o rfl) (Nat.le_of_ble_eq_true rfl) (mc := 0) (ms := 0) (Nat.zero_le _) (Nat.zero_le _) (P := fun v u => _) ?_ (fun e u h => h) (fun v u h => h)
  intro po3 xx3 hp3 hx3
  refine g_enter2 (k := 272) (N := 300) (by first | exact dq1 hd rfl | exact dq0 hd rfl | exact dq2 hd rfl | exact dq3 hd rfl | omega) rfl (Nat.le_of_ble_eq_true rfl) ?_
  refine g_iload_n 1 (gd rfl) rfl rfl ?_
  refine g_if_lt 4 16 (gd rfl) rfl rfl (fun c3x1 => ?_) (fun c3x1 => ?_)
  · skip
    have i3x1 := z_lt (-2147483648) (-1) c3x1 (i_rng x1) rfl
    refine g_iconst 0 17 (gd rfl) rfl rfl ?_
    refine g_ireturn (gd rfl) rfl (nb01 (in_w 0 1 (in_c 0 rfl) rfl)) (hp3 _ _ ?_)
    show GG _ _ _ _ _ _ _ _ [.int (Int32.ofInt 0), .ref (A 109)] _ _ _
    refine g_if_eq 9 25 (gd rfl) rfl rfl (fun c6 => ?_) (fun c6 => ?_)
    · skip
      refine g_iconst 0 26 (gd rfl) rfl rfl ?_
      refine g_callv (X := _) (As := [.int (Int32.ofInt 0)]) (r := []) (b := A 109) (q := 109) 29 (gd rfl) rfl rfl rfl rfl rfl (ww_o rfl) (Nat.le_of_ble_eq_true rfl) (mc := 0) (ms := 0) (Nat.zero_le _) (Nat.zero_le _) (P := fun v u => _) ?_ (fun e u h => h) (fun v u h => h)
      intro po26 xx26 hp26 hx26
      refine g_enter2 (k := 271) (N := 300) (by first | exact dq1 hd rfl | exact dq0 hd rfl | exact dq2 hd rfl | exact dq3 hd rfl | omega) rfl (Nat.le_of_ble_eq_true rfl) ?_
      refine g_aload_n 1 (gd rfl) rfl rfl ?_
      refine g_iload_n 2 (gd rfl) rfl rfl ?_
      refine g_iconst 1 3 (gd rfl) rfl rfl ?_
      refine g_callv (X := _) (As := [.int (Int32.ofInt 0), .int (Int32.ofInt 1)]) (r := []) (b := A 109) (q := 109) 6 (gd rfl) rfl rfl rfl rfl rfl (ww_o rfl) (Nat.le_of_ble_eq_true rfl) (mc := 0) (ms := 0) (Nat.zero_le _) (Nat.zero_le _) (P := fun v u => _) ?_ (fun e u h => h) (fun v u h => h)
      intro po26x3 xx26x3 hp26x3 hx26x3
      refine g_enter2 (k := 270) (N := 300) (by first | exact dq1 hd rfl | exact dq0 hd rfl | exact dq2 hd rfl | exact dq3 hd rfl | omega) rfl (Nat.le_of_ble_eq_true rfl) ?_
      refine g_aload_n 1 (gd rfl) rfl rfl ?_
      refine g_iload_n 2 (gd rfl) rfl rfl ?_
      refine g_if_ne 5 9 (gd rfl) rfl rfl (fun c26x3x2 => ?_) (fun c26x3x2 => ?_)
      · skip
        exact zn_ne c26x3x2 (in_c 0 rfl) rfl
      · skip
        refine g_iconst 1 6 (gd rfl) rfl rfl ?_
        refine g_goto 18 (gd rfl) rfl ?_
        refine g_putI 21 (gd rfl) rfl rfl rfl rfl ?_
        have hI26x3x18 := inv_sF (q := 109) (j := 0) hI rfl (in_w 0 2 (in_c 1 rfl) rfl)
        refine g_aload_n 22 (gd rfl) rfl rfl ?_
        refine g_getI 25 (gd rfl) rfl rfl rfl (fun z26x3x22 e26x3x22 => ?_)
        have q26x3x22 : (Int32.ofInt 1) = z26x3x22 := (sF_get).trans e26x3x22.symm
        subst q26x3x22
        refine g_if_le 28 32 (gd rfl) rfl rfl (fun c26x3x25 => ?_) (fun c26x3x25 => ?_)
        · skip
          exact zn_le c26x3x25 (in_c 1 rfl) rfl
        · skip
          refine g_iconst 1 29 (gd rfl) rfl rfl ?_
          refine g_goto 33 (gd rfl) rfl ?_
          refine g_ireturn (gd rfl) rfl (nb01 (in_w 0 1 (in_c 1 rfl) rfl)) (hp26x3 _ _ ?_)
          show GG _ _ _ _ _ _ _ _ [.int (Int32.ofInt 1)] _ _ _
          refine g_ireturn (gd rfl) rfl (nb01 (in_w 0 1 (in_c 1 rfl) rfl)) (hp26 _ _ ?_)
          show GG _ _ _ _ _ _ _ _ [.int (Int32.ofInt 1)] _ _ _
          refine g_if_eq 32 34 (gd rfl) rfl rfl (fun c29 => ?_) (fun c29 => ?_)
          · skip
            exact zn_eq c29 (in_c 1 rfl) rfl
          · skip
            refine g_lconst 0 33 (gd rfl) rfl rfl ?_
            exact g_lreturn (gd rfl) rfl (hP _ _ ⟨(sF s 109 0 (Int32.ofInt 1)), hI26x3x18, (fr_sF rfl fr_rf), (Int64.ofInt 0), rfl, rfl⟩)
    · skip
      exact zn_ne c6 (in_c 0 rfl) rfl
  · skip
    have i3x1 := z_ge 0 2147483647 c3x1 (i_rng x1) rfl
    refine g_iload_n 5 (gd rfl) rfl rfl ?_
    refine g_aload_n 6 (gd rfl) rfl rfl ?_
    refine g_getI 9 (gd rfl) rfl rfl rfl (fun z3x6 e3x6 => ?_)
    have q3x6 : u_109_20 = z3x6 := (e_109_20).trans e3x6.symm
    subst q3x6
    refine g_cmp_ge 12 16 (gd rfl) rfl rfl (fun c3x9 => ?_) (fun c3x9 => ?_)
    · skip
      refine g_iconst 0 17 (gd rfl) rfl rfl ?_
      refine g_ireturn (gd rfl) rfl (nb01 (in_w 0 1 (in_c 0 rfl) rfl)) (hp3 _ _ ?_)
      show GG _ _ _ _ _ _ _ _ [.int (Int32.ofInt 0), .ref (A 109)] _ _ _
      refine g_if_eq 9 25 (gd rfl) rfl rfl (fun c6 => ?_) (fun c6 => ?_)
      · skip
        refine g_iconst 0 26 (gd rfl) rfl rfl ?_
        refine g_callv (X := _) (As := [.int (Int32.ofInt 0)]) (r := []) (b := A 109) (q := 109) 29 (gd rfl) rfl rfl rfl rfl rfl (ww_o rfl) (Nat.le_of_ble_eq_true rfl) (mc := 0) (ms := 0) (Nat.zero_le _) (Nat.zero_le _) (P := fun v u => _) ?_ (fun e u h => h) (fun v u h => h)
        intro po26 xx26 hp26 hx26
        refine g_enter2 (k := 271) (N := 300) (by first | exact dq1 hd rfl | exact dq0 hd rfl | exact dq2 hd rfl | exact dq3 hd rfl | omega) rfl (Nat.le_of_ble_eq_true rfl) ?_
        refine g_aload_n 1 (gd rfl) rfl rfl ?_
        refine g_iload_n 2 (gd rfl) rfl rfl ?_
        refine g_iconst 1 3 (gd rfl) rfl rfl ?_
        refine g_callv (X := _) (As := [.int (Int32.ofInt 0), .int (Int32.ofInt 1)]) (r := []) (b := A 109) (q := 109) 6 (gd rfl) rfl rfl rfl rfl rfl (ww_o rfl) (Nat.le_of_ble_eq_true rfl) (mc := 0) (ms := 0) (Nat.zero_le _) (Nat.zero_le _) (P := fun v u => _) ?_ (fun e u h => h) (fun v u h => h)
        intro po26x3 xx26x3 hp26x3 hx26x3
        refine g_enter2 (k := 270) (N := 300) (by first | exact dq1 hd rfl | exact dq0 hd rfl | exact dq2 hd rfl | exact dq3 hd rfl | omega) rfl (Nat.le_of_ble_eq_true rfl) ?_
        refine g_aload_n 1 (gd rfl) rfl rfl ?_
        refine g_iload_n 2 (gd rfl) rfl rfl ?_
        refine g_if_ne 5 9 (gd rfl) rfl rfl (fun c26x3x2 => ?_) (fun c26x3x2 => ?_)
        · skip
          exact zn_ne c26x3x2 (in_c 0 rfl) rfl
        · skip
          refine g_iconst 1 6 (gd rfl) rfl rfl ?_
          refine g_goto 18 (gd rfl) rfl ?_
          refine g_putI 21 (gd rfl) rfl rfl rfl rfl ?_
          have hI26x3x18 := inv_sF (q := 109) (j := 0) hI rfl (in_w 0 2 (in_c 1 rfl) rfl)
          refine g_aload_n 22 (gd rfl) rfl rfl ?_
          refine g_getI 25 (gd rfl) rfl rfl rfl (fun z26x3x22 e26x3x22 => ?_)
          have q26x3x22 : (Int32.ofInt 1) = z26x3x22 := (sF_get).trans e26x3x22.symm
          subst q26x3x22
          refine g_if_le 28 32 (gd rfl) rfl rfl (fun c26x3x25 => ?_) (fun c26x3x25 => ?_)
          · skip
            exact zn_le c26x3x25 (in_c 1 rfl) rfl
          · skip
            refine g_iconst 1 29 (gd rfl) rfl rfl ?_
            refine g_goto 33 (gd rfl) rfl ?_
            refine g_ireturn (gd rfl) rfl (nb01 (in_w 0 1 (in_c 1 rfl) rfl)) (hp26x3 _ _ ?_)
            show GG _ _ _ _ _ _ _ _ [.int (Int32.ofInt 1)] _ _ _
            refine g_ireturn (gd rfl) rfl (nb01 (in_w 0 1 (in_c 1 rfl) rfl)) (hp26 _ _ ?_)
            show GG _ _ _ _ _ _ _ _ [.int (Int32.ofInt 1)] _ _ _
            refine g_if_eq 32 34 (gd rfl) rfl rfl (fun c29 => ?_) (fun c29 => ?_)
            · skip
              exact zn_eq c29 (in_c 1 rfl) rfl
            · skip
              refine g_lconst 0 33 (gd rfl) rfl rfl ?_
              exact g_lreturn (gd rfl) rfl (hP _ _ ⟨(sF s 109 0 (Int32.ofInt 1)), hI26x3x18, (fr_sF rfl fr_rf), (Int64.ofInt 0), rfl, rfl⟩)
      · skip
        exact zn_ne c6 (in_c 0 rfl) rfl
    · skip
      have i3x9 := r_lt1 0 31 c3x9 i3x1 ro_109_20 rfl
      have i3x9a := r_lt2 1 32 c3x9 i3x1 ro_109_20 rfl
      refine g_iconst 1 13 (gd rfl) rfl rfl ?_
      refine g_goto 17 (gd rfl) rfl ?_
      refine g_ireturn (gd rfl) rfl (nb01 (in_w 0 1 (in_c 1 rfl) rfl)) (hp3 _ _ ?_)
      show GG _ _ _ _ _ _ _ _ [.int (Int32.ofInt 1), .ref (A 109)] _ _ _
      refine g_if_eq 9 25 (gd rfl) rfl rfl (fun c6 => ?_) (fun c6 => ?_)
      · skip
        exact zn_eq c6 (in_c 1 rfl) rfl
      · skip
        refine g_iload_n 10 (gd rfl) rfl rfl ?_
        refine g_i2l 11 (gd rfl) rfl (fun z10 e10 => ?_)
        have i10 := l_i e10 (i_rng x2)
        refine g_lconst 0 12 (gd rfl) rfl rfl ?_
        refine g_ldc2_w 40 15 (gd rfl) rfl rfl ?_
        refine g_calls (As := [.long z10, .long (Int64.ofInt 0), .long (Int64.ofInt 40)]) (r := [.ref (A 109)]) 18 (gd rfl) rfl rfl rfl rfl rfl (Nat.le_of_ble_eq_true rfl) (mc := 0) (ms := 0) (Nat.zero_le _) (Nat.zero_le _) (P := fun v u => _) ?_ (fun v u h => h)
        intro po15 xx15 hp15 hx15
        refine g_enter2 (k := 269) (N := 300) (by first | exact dq1 hd rfl | exact dq0 hd rfl | exact dq2 hd rfl | exact dq3 hd rfl | omega) rfl (Nat.le_of_ble_eq_true rfl) ?_
        refine g_lload_n 1 (gd rfl) rfl rfl ?_
        refine g_lload_n 2 (gd rfl) rfl rfl ?_
        refine g_lcmp 3 (gd rfl) rfl (fun z15x2 e15x2 => ?_)
        have i15x2 := lc_in e15x2
        refine g_if_lt 6 17 (gd rfl) rfl rfl (fun c15x3 => ?_) (fun c15x3 => ?_)
        · skip
          have i15x3 := z_lt (-1) (-1) c15x3 i15x2 rfl
          have c15x3a := lc_lt e15x2 c15x3
          have i15x3a := lr_lt1 (-2147483648) (-1) c15x3a i10 (l_c 0 rfl) rfl
          have i15x3b := l_b e10 i15x3a
          refine g_iconst 0 18 (gd rfl) rfl rfl ?_
          refine g_ireturn (gd rfl) rfl (nb01 (in_w 0 1 (in_c 0 rfl) rfl)) (hp15 _ _ ?_)
          show GG _ _ _ _ _ _ _ _ [.int (Int32.ofInt 0), .ref (A 109)] _ _ _
          refine g_if_eq 21 25 (gd rfl) rfl rfl (fun c18 => ?_) (fun c18 => ?_)
          · skip
            refine g_iconst 0 26 (gd rfl) rfl rfl ?_
            refine g_callv (X := _) (As := [.int (Int32.ofInt 0)]) (r := []) (b := A 109) (q := 109) 29 (gd rfl) rfl rfl rfl rfl rfl (ww_o rfl) (Nat.le_of_ble_eq_true rfl) (mc := 0) (ms := 0) (Nat.zero_le _) (Nat.zero_le _) (P := fun v u => _) ?_ (fun e u h => h) (fun v u h => h)
            intro po26 xx26 hp26 hx26
            refine g_enter2 (k := 271) (N := 300) (by first | exact dq1 hd rfl | exact dq0 hd rfl | exact dq2 hd rfl | exact dq3 hd rfl | omega) rfl (Nat.le_of_ble_eq_true rfl) ?_
            refine g_aload_n 1 (gd rfl) rfl rfl ?_
            refine g_iload_n 2 (gd rfl) rfl rfl ?_
            refine g_iconst 1 3 (gd rfl) rfl rfl ?_
            refine g_callv (X := _) (As := [.int (Int32.ofInt 0), .int (Int32.ofInt 1)]) (r := []) (b := A 109) (q := 109) 6 (gd rfl) rfl rfl rfl rfl rfl (ww_o rfl) (Nat.le_of_ble_eq_true rfl) (mc := 0) (ms := 0) (Nat.zero_le _) (Nat.zero_le _) (P := fun v u => _) ?_ (fun e u h => h) (fun v u h => h)
            intro po26x3 xx26x3 hp26x3 hx26x3
            refine g_enter2 (k := 270) (N := 300) (by first | exact dq1 hd rfl | exact dq0 hd rfl | exact dq2 hd rfl | exact dq3 hd rfl | omega) rfl (Nat.le_of_ble_eq_true rfl) ?_
            refine g_aload_n 1 (gd rfl) rfl rfl ?_
            refine g_iload_n 2 (gd rfl) rfl rfl ?_
            refine g_if_ne 5 9 (gd rfl) rfl rfl (fun c26x3x2 => ?_) (fun c26x3x2 => ?_)
            · skip
              exact zn_ne c26x3x2 (in_c 0 rfl) rfl
            · skip
              refine g_iconst 1 6 (gd rfl) rfl rfl ?_
              refine g_goto 18 (gd rfl) rfl ?_
              refine g_putI 21 (gd rfl) rfl rfl rfl rfl ?_
              have hI26x3x18 := inv_sF (q := 109) (j := 0) hI rfl (in_w 0 2 (in_c 1 rfl) rfl)
              refine g_aload_n 22 (gd rfl) rfl rfl ?_
              refine g_getI 25 (gd rfl) rfl rfl rfl (fun z26x3x22 e26x3x22 => ?_)
              have q26x3x22 : (Int32.ofInt 1) = z26x3x22 := (sF_get).trans e26x3x22.symm
              subst q26x3x22
              refine g_if_le 28 32 (gd rfl) rfl rfl (fun c26x3x25 => ?_) (fun c26x3x25 => ?_)
              · skip
                exact zn_le c26x3x25 (in_c 1 rfl) rfl
              · skip
                refine g_iconst 1 29 (gd rfl) rfl rfl ?_
                refine g_goto 33 (gd rfl) rfl ?_
                refine g_ireturn (gd rfl) rfl (nb01 (in_w 0 1 (in_c 1 rfl) rfl)) (hp26x3 _ _ ?_)
                show GG _ _ _ _ _ _ _ _ [.int (Int32.ofInt 1)] _ _ _
                refine g_ireturn (gd rfl) rfl (nb01 (in_w 0 1 (in_c 1 rfl) rfl)) (hp26 _ _ ?_)
                show GG _ _ _ _ _ _ _ _ [.int (Int32.ofInt 1)] _ _ _
                refine g_if_eq 32 34 (gd rfl) rfl rfl (fun c29 => ?_) (fun c29 => ?_)
                · skip
                  exact zn_eq c29 (in_c 1 rfl) rfl
                · skip
                  refine g_lconst 0 33 (gd rfl) rfl rfl ?_
                  exact g_lreturn (gd rfl) rfl (hP _ _ ⟨(sF s 109 0 (Int32.ofInt 1)), hI26x3x18, (fr_sF rfl fr_rf), (Int64.ofInt 0), rfl, rfl⟩)
          · skip
            exact zn_ne c18 (in_c 0 rfl) rfl
        · skip
          have i15x3 := z_ge 0 1 c15x3 i15x2 rfl
          have c15x3a := lc_ge e15x2 c15x3
          have i15x3a := lr_le2 0 2147483647 c15x3a (l_c 0 rfl) i10 rfl
          have i15x3b := l_b e10 i15x3a
          refine g_lload_n 7 (gd rfl) rfl rfl ?_
          refine g_lload 9 (gd rfl) rfl rfl ?_
          refine g_lcmp 10 (gd rfl) rfl (fun z15x9 e15x9 => ?_)
          have i15x9 := lc_in e15x9
          refine g_if_gt 13 17 (gd rfl) rfl rfl (fun c15x10 => ?_) (fun c15x10 => ?_)
          · skip
            have i15x10 := z_gt 1 1 c15x10 i15x9 rfl
            have c15x10a := lc_gt e15x9 c15x10
            have i15x10a := lr_lt2 41 2147483647 c15x10a (l_c 40 rfl) i15x3a rfl
            have i15x10b := l_b e10 i15x10a
            refine g_iconst 0 18 (gd rfl) rfl rfl ?_
            refine g_ireturn (gd rfl) rfl (nb01 (in_w 0 1 (in_c 0 rfl) rfl)) (hp15 _ _ ?_)
            show GG _ _ _ _ _ _ _ _ [.int (Int32.ofInt 0), .ref (A 109)] _ _ _
            refine g_if_eq 21 25 (gd rfl) rfl rfl (fun c18 => ?_) (fun c18 => ?_)
            · skip
              refine g_iconst 0 26 (gd rfl) rfl rfl ?_
              refine g_callv (X := _) (As := [.int (Int32.ofInt 0)]) (r := []) (b := A 109) (q := 109) 29 (gd rfl) rfl rfl rfl rfl rfl (ww_o rfl) (Nat.le_of_ble_eq_true rfl) (mc := 0) (ms := 0) (Nat.zero_le _) (Nat.zero_le _) (P := fun v u => _) ?_ (fun e u h => h) (fun v u h => h)
              intro po26 xx26 hp26 hx26
              refine g_enter2 (k := 271) (N := 300) (by first | exact dq1 hd rfl | exact dq0 hd rfl | exact dq2 hd rfl | exact dq3 hd rfl | omega) rfl (Nat.le_of_ble_eq_true rfl) ?_
              refine g_aload_n 1 (gd rfl) rfl rfl ?_
              refine g_iload_n 2 (gd rfl) rfl rfl ?_
              refine g_iconst 1 3 (gd rfl) rfl rfl ?_
              refine g_callv (X := _) (As := [.int (Int32.ofInt 0), .int (Int32.ofInt 1)]) (r := []) (b := A 109) (q := 109) 6 (gd rfl) rfl rfl rfl rfl rfl (ww_o rfl) (Nat.le_of_ble_eq_true rfl) (mc := 0) (ms := 0) (Nat.zero_le _) (Nat.zero_le _) (P := fun v u => _) ?_ (fun e u h => h) (fun v u h => h)
              intro po26x3 xx26x3 hp26x3 hx26x3
              refine g_enter2 (k := 270) (N := 300) (by first | exact dq1 hd rfl | exact dq0 hd rfl | exact dq2 hd rfl | exact dq3 hd rfl | omega) rfl (Nat.le_of_ble_eq_true rfl) ?_
              refine g_aload_n 1 (gd rfl) rfl rfl ?_
              refine g_iload_n 2 (gd rfl) rfl rfl ?_
              refine g_if_ne 5 9 (gd rfl) rfl rfl (fun c26x3x2 => ?_) (fun c26x3x2 => ?_)
              · skip
                exact zn_ne c26x3x2 (in_c 0 rfl) rfl
              · skip
                refine g_iconst 1 6 (gd rfl) rfl rfl ?_
                refine g_goto 18 (gd rfl) rfl ?_
                refine g_putI 21 (gd rfl) rfl rfl rfl rfl ?_
                have hI26x3x18 := inv_sF (q := 109) (j := 0) hI rfl (in_w 0 2 (in_c 1 rfl) rfl)
                refine g_aload_n 22 (gd rfl) rfl rfl ?_
                refine g_getI 25 (gd rfl) rfl rfl rfl (fun z26x3x22 e26x3x22 => ?_)
                have q26x3x22 : (Int32.ofInt 1) = z26x3x22 := (sF_get).trans e26x3x22.symm
                subst q26x3x22
                refine g_if_le 28 32 (gd rfl) rfl rfl (fun c26x3x25 => ?_) (fun c26x3x25 => ?_)
                · skip
                  exact zn_le c26x3x25 (in_c 1 rfl) rfl
                · skip
                  refine g_iconst 1 29 (gd rfl) rfl rfl ?_
                  refine g_goto 33 (gd rfl) rfl ?_
                  refine g_ireturn (gd rfl) rfl (nb01 (in_w 0 1 (in_c 1 rfl) rfl)) (hp26x3 _ _ ?_)
                  show GG _ _ _ _ _ _ _ _ [.int (Int32.ofInt 1)] _ _ _
                  refine g_ireturn (gd rfl) rfl (nb01 (in_w 0 1 (in_c 1 rfl) rfl)) (hp26 _ _ ?_)
                  show GG _ _ _ _ _ _ _ _ [.int (Int32.ofInt 1)] _ _ _
                  refine g_if_eq 32 34 (gd rfl) rfl rfl (fun c29 => ?_) (fun c29 => ?_)
                  · skip
                    exact zn_eq c29 (in_c 1 rfl) rfl
                  · skip
                    refine g_lconst 0 33 (gd rfl) rfl rfl ?_
                    exact g_lreturn (gd rfl) rfl (hP _ _ ⟨(sF s 109 0 (Int32.ofInt 1)), hI26x3x18, (fr_sF rfl fr_rf), (Int64.ofInt 0), rfl, rfl⟩)
            · skip
              exact zn_ne c18 (in_c 0 rfl) rfl
          · skip
            have i15x10 := z_le (-1) 0 c15x10 i15x9 rfl
            have c15x10a := lc_le e15x9 c15x10
            have i15x10a := lr_le1 0 40 c15x10a i15x3a (l_c 40 rfl) rfl
            have i15x10b := l_b e10 i15x10a
            refine g_iconst 1 14 (gd rfl) rfl rfl ?_
            refine g_goto 18 (gd rfl) rfl ?_
            refine g_ireturn (gd rfl) rfl (nb01 (in_w 0 1 (in_c 1 rfl) rfl)) (hp15 _ _ ?_)
            show GG _ _ _ _ _ _ _ _ [.int (Int32.ofInt 1), .ref (A 109)] _ _ _
            refine g_if_eq 21 25 (gd rfl) rfl rfl (fun c18 => ?_) (fun c18 => ?_)
            · skip
              exact zn_eq c18 (in_c 1 rfl) rfl
            · skip
              refine g_iconst 1 22 (gd rfl) rfl rfl ?_
              refine g_goto 26 (gd rfl) rfl ?_
              refine g_callv (X := _) (As := [.int (Int32.ofInt 1)]) (r := []) (b := A 109) (q := 109) 29 (gd rfl) rfl rfl rfl rfl rfl (ww_o rfl) (Nat.le_of_ble_eq_true rfl) (mc := 0) (ms := 0) (Nat.zero_le _) (Nat.zero_le _) (P := fun v u => _) ?_ (fun e u h => h) (fun v u h => h)
              intro po26 xx26 hp26 hx26
              refine g_enter2 (k := 271) (N := 300) (by first | exact dq1 hd rfl | exact dq0 hd rfl | exact dq2 hd rfl | exact dq3 hd rfl | omega) rfl (Nat.le_of_ble_eq_true rfl) ?_
              refine g_aload_n 1 (gd rfl) rfl rfl ?_
              refine g_iload_n 2 (gd rfl) rfl rfl ?_
              refine g_iconst 1 3 (gd rfl) rfl rfl ?_
              refine g_callv (X := _) (As := [.int (Int32.ofInt 1), .int (Int32.ofInt 1)]) (r := []) (b := A 109) (q := 109) 6 (gd rfl) rfl rfl rfl rfl rfl (ww_o rfl) (Nat.le_of_ble_eq_true rfl) (mc := 0) (ms := 0) (Nat.zero_le _) (Nat.zero_le _) (P := fun v u => _) ?_ (fun e u h => h) (fun v u h => h)
              intro po26x3 xx26x3 hp26x3 hx26x3
              refine g_enter2 (k := 270) (N := 300) (by first | exact dq1 hd rfl | exact dq0 hd rfl | exact dq2 hd rfl | exact dq3 hd rfl | omega) rfl (Nat.le_of_ble_eq_true rfl) ?_
              refine g_aload_n 1 (gd rfl) rfl rfl ?_
              refine g_iload_n 2 (gd rfl) rfl rfl ?_
              refine g_if_ne 5 9 (gd rfl) rfl rfl (fun c26x3x2 => ?_) (fun c26x3x2 => ?_)
              · skip
                refine g_iload_n 10 (gd rfl) rfl rfl ?_
                refine g_if_ne 13 17 (gd rfl) rfl rfl (fun c26x3x10 => ?_) (fun c26x3x10 => ?_)
                · skip
                  refine g_iconst 0 18 (gd rfl) rfl rfl ?_
                  refine g_putI 21 (gd rfl) rfl rfl rfl rfl ?_
                  have hI26x3x18 := inv_sF (q := 109) (j := 0) hI rfl (in_w 0 2 (in_c 0 rfl) rfl)
                  refine g_aload_n 22 (gd rfl) rfl rfl ?_
                  refine g_getI 25 (gd rfl) rfl rfl rfl (fun z26x3x22 e26x3x22 => ?_)
                  have q26x3x22 : (Int32.ofInt 0) = z26x3x22 := (sF_get).trans e26x3x22.symm
                  subst q26x3x22
                  refine g_if_le 28 32 (gd rfl) rfl rfl (fun c26x3x25 => ?_) (fun c26x3x25 => ?_)
                  · skip
                    refine g_iconst 0 33 (gd rfl) rfl rfl ?_
                    refine g_ireturn (gd rfl) rfl (nb01 (in_w 0 1 (in_c 0 rfl) rfl)) (hp26x3 _ _ ?_)
                    show GG _ _ _ _ _ _ _ _ [.int (Int32.ofInt 0)] _ _ _
                    refine g_ireturn (gd rfl) rfl (nb01 (in_w 0 1 (in_c 0 rfl) rfl)) (hp26 _ _ ?_)
                    show GG _ _ _ _ _ _ _ _ [.int (Int32.ofInt 0)] _ _ _
                    refine g_if_eq 32 34 (gd rfl) rfl rfl (fun c29 => ?_) (fun c29 => ?_)
                    · skip
                      refine g_iconst 0 35 (gd rfl) rfl rfl ?_
                      refine g_istore_n 36 (gd rfl) rfl (Nat.le_of_ble_eq_true rfl) ?_
                      have n36 : ∀ j : Nat, (j : Int) < ((Int32.ofInt 0)).toInt → ((sF s 109 0 (Int32.ofInt 0)).1 164 j).toInt = 0 := by first | (intro j hj; exfalso; have h0 : (Int32.ofInt 0).toInt = 0 := rfl; omega) | (intro j hj; show (upd (sc36.1 164) y36_3.toNatClampNeg (Int32.ofInt 0) j).toInt = 0; unfold upd; by_cases c : j = y36_3.toNatClampNeg; (rw [if_pos c]; rfl); (rw [if_neg c]; exact g36_0 j (by have e5 : y36_3.toNatClampNeg = y36_3.toInt.toNat := rfl; (first | have a0 := oa5 i15x10b i3x9 i3x9a ro_109_19 ((in_c 0 rfl)) | ((first | have a0 := in_u i15x10b | (have a0 := i15x10b; unfold In at a0)); (first | have a1 := in_u i3x9 | (have a1 := i3x9; unfold In at a1)); (first | have a2 := in_u i3x9a | (have a2 := i3x9a; unfold In at a2)); (first | have a3 := in_u ro_109_19 | (have a3 := ro_109_19; unfold In at a3)); (first | have a4 := in_u ((in_c 0 rfl)) | (have a4 := (in_c 0 rfl); unfold In at a4)))); have a5 := tx_i2l e10; omega)))
                      exact gg_w (by first | exact Nat.le_of_ble_eq_true rfl | omega) (gg_f (gf_cons rfl (gf_cons rfl (gf_cons rfl (gf_cons rfl gf_nil)))) (ct36 33 (sF s 109 0 (Int32.ofInt 0)) (Int32.ofInt 0) hI26x3x18 (fr_sF rfl fr_rf) (in_w 0 31 i3x9 rfl) (in_w 0 40 i15x10b rfl) (in_w 0 32 (in_c 0 rfl) rfl) n36 (m_in 33 (in_w 0 32 (in_c 0 rfl) rfl) rfl)))
                    · skip
                      exact zn_ne c29 (in_c 0 rfl) rfl
                  · skip
                    exact zn_gt c26x3x25 (in_c 0 rfl) rfl
                · skip
                  exact zn_eq c26x3x10 (in_c 1 rfl) rfl
              · skip
                exact zn_eq c26x3x2 (in_c 1 rfl) rfl
end
section
/-! methods, by vc.py -/
def fm_370_109_165_166 : FM := ([165], [166], [], [])
/-- GraphHouseModel.hop -/
theorem k_370_109_165_166 {Z : AmZ} {A : Nat → Nat} {s : GS} {ex : va_W} {d : Nat} {X : AmX} {x1 : Int32} {x2 : Int32} (hd : 1 ≤ d) (hI : Inv s) (h1 : In x1 0 31) (h2 : In x2 0 0) : GC Z d 370 [.ref (A 109), .int x1, .int x2, .ref (A 165), .ref (A 166)] (WW Z A s ++ ex) 0 0 (fun v u => ∃ t : GS, Inv t ∧ Fr fm_370_109_165_166 s t ∧ v = none ∧ u = WW Z A t ++ ex) X := by
  intro post xp hP hX
  obtain ⟨u_109_19, e_109_19⟩ : ∃ w, w = s.2.2.1 109 19 := ⟨_, rfl⟩
  have ro_109_19 := inv_F hI 0 160 rfl e_109_19
  obtain ⟨u_109_20, e_109_20⟩ : ∃ w, w = s.2.2.1 109 20 := ⟨_, rfl⟩
  have ro_109_20 := inv_F hI 0 32 rfl e_109_20
  have ct52 : ∀ (k52 : Nat) (sc52 : GS) (y52_5 : Int32), Inv sc52 → Fr fm_370_109_165_166 s sc52 → (In y52_5 0 32) → 32 - (y52_5).toInt < (k52 : Int) → GG Z (d - 1) 370 post (gx xp) (1 + k52 * 363601) 52 (fun j => xlook j [(0, .ref (A 109)), (1, .int x1), (2, .int x2), (3, .ref (A 165)), (4, .ref (A 166)), (5, .int y52_5)]) [] (WW Z A sc52 ++ ex) 0 0 := by
    intro k52
    induction k52 with
    | zero => intro sc52 y52_5 hIc52 hFc52 j52_5 mm52; exact m_no mm52 j52_5 rfl
    | succ k52 ih52 =>
      intro sc52 y52_5 hIc52 hFc52 j52_5 mm52
      refine gg_w (M := 1 + k52 * 363601 + 363601) gws ?_
      have ct67 : ∀ (k67 : Nat) (sc67 : GS) (y67_6 : Int32), Inv sc67 → Fr fm_370_109_165_166 s sc67 → (In y52_5 0 31) → (In y67_6 0 400) → 400 - (y67_6).toInt < (k67 : Int) → GG Z (d - 1) 370 post (gx xp) (1 + k52 * 363601 + 1 + k67 * 900) 67 (fun j => xlook j [(0, .ref (A 109)), (1, .int x1), (2, .int x2), (3, .ref (A 165)), (4, .ref (A 166)), (5, .int y52_5), (6, .int y67_6)]) [] (WW Z A sc67 ++ ex) 0 0 := by
        intro k67
        induction k67 with
        | zero => intro sc67 y67_6 hIc67 hFc67 j67_5 j67_6 mm67; exact m_no mm67 j67_6 rfl
        | succ k67 ih67 =>
          intro sc67 y67_6 hIc67 hFc67 j67_5 j67_6 mm67
          refine gg_w (M := 1 + k52 * 363601 + 1 + k67 * 900 + 900) gws ?_
          refine g_iload 69 (gd rfl) rfl rfl ?_
          refine g_aload_n 70 (gd rfl) rfl rfl ?_
          refine g_getI 73 (gd rfl) rfl rfl rfl (fun z70 e70 => ?_)
          have q70 : u_109_19 = z70 := (fr_F e_109_19 hFc67 rfl).trans e70.symm
          subst q70
          refine g_sipush 160 76 (gd rfl) rfl rfl ?_
          refine g_iadd 77 (gd rfl) rfl (fun z76 e76 => ?_)
          have i76 := in_add 160 320 e76 ro_109_19 (in_c 160 rfl) rfl rfl
          refine g_cmp_ge 80 197 (gd rfl) rfl rfl (fun c77 => ?_) (fun c77 => ?_)
          · skip
            have i77 := r_le2 160 400 c77 i76 j67_6 rfl
            refine g_iinc 200 (gd rfl) rfl rfl (Nat.le_of_ble_eq_true rfl) (fun z197 e197 => ?_)
            have i197 := in_add 1 32 e197 j67_5 (in_c 1 rfl) rfl rfl
            refine g_goto 52 (gd rfl) rfl ?_
            exact gg_w (by first | exact Nat.le_add_right _ _ | exact gw2 | exact gw3 | exact gwe rfl | exact gwf rfl | exact gwg rfl | exact gwh rfl | omega) (gg_f (gf_cons rfl (gf_cons rfl (gf_cons rfl (gf_cons rfl (gf_cons rfl (gf_cons rfl gf_nil)))))) (ih52 sc67 z197 hIc67 hFc67 (in_w 0 32 i197 rfl) (m_up mm52 (t_add e197 j67_5 (in_c 1 rfl) rfl) (in_w 1 1 (in_c 1 rfl) rfl))))
          · skip
            have i77 := r_lt1 0 319 c77 j67_6 i76 rfl
            refine g_iload_n 81 (gd rfl) rfl rfl ?_
            refine g_if_eq 84 94 (gd rfl) rfl rfl (fun c81 => ?_) (fun c81 => ?_)
            · skip
              refine g_aload_n 95 (gd rfl) rfl rfl ?_
              refine g_getA (q2 := 113) 98 (gd rfl) rfl rfl rfl rfl ?_
              refine g_iload 100 (gd rfl) rfl rfl ?_
              refine g_iaload 101 (gd rfl) rfl (n := 480) rfl (in_ix i77 rfl) (fun z100 e100 => ?_)
              have i100 := inv_I hIc67 (n := 480) (t := 0) 0 31 rfl (in_ix i77 rfl) rfl e100
              refine g_istore 103 (gd rfl) rfl (Nat.le_of_ble_eq_true rfl) ?_
              refine g_iload_n 104 (gd rfl) rfl rfl ?_
              refine g_if_eq 107 117 (gd rfl) rfl rfl (fun c104 => ?_) (fun c104 => ?_)
              · skip
                refine g_aload_n 118 (gd rfl) rfl rfl ?_
                refine g_getA (q2 := 114) 121 (gd rfl) rfl rfl rfl rfl ?_
                refine g_iload 123 (gd rfl) rfl rfl ?_
                refine g_iaload 124 (gd rfl) rfl (n := 480) rfl (in_ix i77 rfl) (fun z123 e123 => ?_)
                have i123 := inv_I hIc67 (n := 480) (t := 0) 0 31 rfl (in_ix i77 rfl) rfl e123
                refine g_istore 126 (gd rfl) rfl (Nat.le_of_ble_eq_true rfl) ?_
                refine g_aload_n 127 (gd rfl) rfl rfl ?_
                refine g_getA (q2 := 112) 130 (gd rfl) rfl rfl rfl rfl ?_
                refine g_iload 132 (gd rfl) rfl rfl ?_
                refine g_baload 133 (gd rfl) rfl (n := 480) rfl (in_ix i77 rfl) (fun z132 e132 => ?_)
                have i132 := inv_I hIc67 (n := 480) (t := 3) 0 1 rfl (in_ix i77 rfl) rfl e132
                refine g_if_eq 136 191 (gd rfl) rfl rfl (fun c133 => ?_) (fun c133 => ?_)
                · skip
                  have i133 := z_eq 0 0 c133 i132 rfl
                  refine g_iinc 194 (gd rfl) rfl rfl (Nat.le_of_ble_eq_true rfl) (fun z191 e191 => ?_)
                  have i191 := in_add 1 320 e191 i77 (in_c 1 rfl) rfl rfl
                  refine g_goto 67 (gd rfl) rfl ?_
                  exact gg_w (by first | exact Nat.le_add_right _ _ | exact gw2 | exact gw3 | exact gwe rfl | exact gwf rfl | exact gwg rfl | exact gwh rfl | omega) (gg_f (gf_cons rfl (gf_cons rfl (gf_cons rfl (gf_cons rfl (gf_cons rfl (gf_cons rfl (gf_cons rfl gf_nil))))))) (ih67 sc67 z191 hIc67 hFc67 (in_w 0 31 j67_5 rfl) (in_w 0 400 i191 rfl) (m_up mm67 (t_add e191 i77 (in_c 1 rfl) rfl) (in_w 1 1 (in_c 1 rfl) rfl))))
                · skip
                  have i133 := z_ne 1 1 c133 i132 rfl
                  refine g_aload_n 137 (gd rfl) rfl rfl ?_
                  refine g_iload 139 (gd rfl) rfl rfl ?_
                  refine g_iaload 140 (gd rfl) rfl (n := 32) rfl (in_ix i100 rfl) (fun z139 e139 => ?_)
                  refine g_iload 142 (gd rfl) rfl rfl ?_
                  refine g_cmp_ne 145 191 (gd rfl) rfl rfl (fun c142 => ?_) (fun c142 => ?_)
                  · skip
                    refine g_iinc 194 (gd rfl) rfl rfl (Nat.le_of_ble_eq_true rfl) (fun z191 e191 => ?_)
                    have i191 := in_add 1 320 e191 i77 (in_c 1 rfl) rfl rfl
                    refine g_goto 67 (gd rfl) rfl ?_
                    exact gg_w (by first | exact Nat.le_add_right _ _ | exact gw2 | exact gw3 | exact gwe rfl | exact gwf rfl | exact gwg rfl | exact gwh rfl | omega) (gg_f (gf_cons rfl (gf_cons rfl (gf_cons rfl (gf_cons rfl (gf_cons rfl (gf_cons rfl (gf_cons rfl gf_nil))))))) (ih67 sc67 z191 hIc67 hFc67 (in_w 0 31 j67_5 rfl) (in_w 0 400 i191 rfl) (m_up mm67 (t_add e191 i77 (in_c 1 rfl) rfl) (in_w 1 1 (in_c 1 rfl) rfl))))
                  · skip
                    have i142 := r_eq1 0 31 c142 (i_rng z139) j67_5 rfl
                    refine g_aload_n 146 (gd rfl) rfl rfl ?_
                    refine g_iload 148 (gd rfl) rfl rfl ?_
                    refine g_iaload 149 (gd rfl) rfl (n := 32) rfl (in_ix i123 rfl) (fun z148 e148 => ?_)
                    refine g_if_lt 152 163 (gd rfl) rfl rfl (fun c149 => ?_) (fun c149 => ?_)
                    · skip
                      have i149 := z_lt (-2147483648) (-1) c149 (i_rng z148) rfl
                      refine g_aload_n 164 (gd rfl) rfl rfl ?_
                      refine g_iload 166 (gd rfl) rfl rfl ?_
                      refine g_iload 168 (gd rfl) rfl rfl ?_
                      refine g_iconst 1 169 (gd rfl) rfl rfl ?_
                      refine g_iadd 170 (gd rfl) rfl (fun z169 e169 => ?_)
                      have i169 := in_add 1 32 e169 j67_5 (in_c 1 rfl) rfl rfl
                      refine g_iastore 171 (gd rfl) rfl (n := 32) rfl (in_ix i123 rfl) ?_
                      have hI170 := inv_sI (q := 165) (j := z123.toNatClampNeg) hIc67 rfl (in_w (-2147483648) 2147483647 i169 rfl)
                      refine g_aload 173 (gd rfl) rfl rfl ?_
                      refine g_iload 175 (gd rfl) rfl rfl ?_
                      refine g_aload 177 (gd rfl) rfl rfl ?_
                      refine g_iload 179 (gd rfl) rfl rfl ?_
                      refine g_laload 180 (gd rfl) rfl (n := 32) rfl (in_ix i123 rfl) (fun z179 e179 => ?_)
                      refine g_aload 182 (gd rfl) rfl rfl ?_
                      refine g_iload 184 (gd rfl) rfl rfl ?_
                      refine g_laload 185 (gd rfl) rfl (n := 32) rfl (in_ix i100 rfl) (fun z184 e184 => ?_)
                      refine g_ladd 186 (gd rfl) rfl (fun z185 e185 => ?_)
                      refine g_ldc2_w 1000000007 189 (gd rfl) rfl rfl ?_
                      refine g_lrem 190 (gd rfl) rfl (by decide) (fun z189 e189 => ?_)
                      have i189 := l_rem (-1000000006) 1000000006 e189 rfl
                      refine g_lastore 191 (gd rfl) rfl (n := 32) rfl (in_ix i123 rfl) ?_
                      have hI190 := inv_sL (q := 166) (j := z123.toNatClampNeg) (x := z189) hI170 rfl (l_rng z189)
                      refine g_iinc 194 (gd rfl) rfl rfl (Nat.le_of_ble_eq_true rfl) (fun z191 e191 => ?_)
                      have i191 := in_add 1 320 e191 i77 (in_c 1 rfl) rfl rfl
                      refine g_goto 67 (gd rfl) rfl ?_
                      exact gg_w (by first | exact Nat.le_add_right _ _ | exact gw2 | exact gw3 | exact gwe rfl | exact gwf rfl | exact gwg rfl | exact gwh rfl | omega) (gg_f (gf_cons rfl (gf_cons rfl (gf_cons rfl (gf_cons rfl (gf_cons rfl (gf_cons rfl (gf_cons rfl gf_nil))))))) (ih67 (sL (sI sc67 165 z123.toNatClampNeg z169) 166 z123.toNatClampNeg z189) z191 hI190 (fr_sL rfl (fr_sI rfl hFc67)) (in_w 0 31 j67_5 rfl) (in_w 0 400 i191 rfl) (m_up mm67 (t_add e191 i77 (in_c 1 rfl) rfl) (in_w 1 1 (in_c 1 rfl) rfl))))
                    · skip
                      have i149 := z_ge 0 2147483647 c149 (i_rng z148) rfl
                      refine g_aload_n 153 (gd rfl) rfl rfl ?_
                      refine g_iload 155 (gd rfl) rfl rfl ?_
                      refine g_iaload 156 (gd rfl) rfl (n := 32) rfl (in_ix i123 rfl) (fun z155 e155 => ?_)
                      have q155 : z148 = z155 := (e148).trans e155.symm
                      subst q155
                      refine g_iload 158 (gd rfl) rfl rfl ?_
                      refine g_iconst 1 159 (gd rfl) rfl rfl ?_
                      refine g_iadd 160 (gd rfl) rfl (fun z159 e159 => ?_)
                      have i159 := in_add 1 32 e159 j67_5 (in_c 1 rfl) rfl rfl
                      refine g_cmp_ne 163 191 (gd rfl) rfl rfl (fun c160 => ?_) (fun c160 => ?_)
                      · skip
                        refine g_iinc 194 (gd rfl) rfl rfl (Nat.le_of_ble_eq_true rfl) (fun z191 e191 => ?_)
                        have i191 := in_add 1 320 e191 i77 (in_c 1 rfl) rfl rfl
                        refine g_goto 67 (gd rfl) rfl ?_
                        exact gg_w (by first | exact Nat.le_add_right _ _ | exact gw2 | exact gw3 | exact gwe rfl | exact gwf rfl | exact gwg rfl | exact gwh rfl | omega) (gg_f (gf_cons rfl (gf_cons rfl (gf_cons rfl (gf_cons rfl (gf_cons rfl (gf_cons rfl (gf_cons rfl gf_nil))))))) (ih67 sc67 z191 hIc67 hFc67 (in_w 0 31 j67_5 rfl) (in_w 0 400 i191 rfl) (m_up mm67 (t_add e191 i77 (in_c 1 rfl) rfl) (in_w 1 1 (in_c 1 rfl) rfl))))
                      · skip
                        have i160 := r_eq1 1 32 c160 i149 i159 rfl
                        refine g_aload_n 164 (gd rfl) rfl rfl ?_
                        refine g_iload 166 (gd rfl) rfl rfl ?_
                        refine g_iload 168 (gd rfl) rfl rfl ?_
                        refine g_iconst 1 169 (gd rfl) rfl rfl ?_
                        refine g_iadd 170 (gd rfl) rfl (fun z169 e169 => ?_)
                        have i169 := in_add 1 32 e169 j67_5 (in_c 1 rfl) rfl rfl
                        refine g_iastore 171 (gd rfl) rfl (n := 32) rfl (in_ix i123 rfl) ?_
                        have hI170 := inv_sI (q := 165) (j := z123.toNatClampNeg) hIc67 rfl (in_w (-2147483648) 2147483647 i169 rfl)
                        refine g_aload 173 (gd rfl) rfl rfl ?_
                        refine g_iload 175 (gd rfl) rfl rfl ?_
                        refine g_aload 177 (gd rfl) rfl rfl ?_
                        refine g_iload 179 (gd rfl) rfl rfl ?_
                        refine g_laload 180 (gd rfl) rfl (n := 32) rfl (in_ix i123 rfl) (fun z179 e179 => ?_)
                        refine g_aload 182 (gd rfl) rfl rfl ?_
                        refine g_iload 184 (gd rfl) rfl rfl ?_
                        refine g_laload 185 (gd rfl) rfl (n := 32) rfl (in_ix i100 rfl) (fun z184 e184 => ?_)
                        refine g_ladd 186 (gd rfl) rfl (fun z185 e185 => ?_)
                        refine g_ldc2_w 1000000007 189 (gd rfl) rfl rfl ?_
                        refine g_lrem 190 (gd rfl) rfl (by decide) (fun z189 e189 => ?_)
                        have i189 := l_rem (-1000000006) 1000000006 e189 rfl
                        refine g_lastore 191 (gd rfl) rfl (n := 32) rfl (in_ix i123 rfl) ?_
                        have hI190 := inv_sL (q := 166) (j := z123.toNatClampNeg) (x := z189) hI170 rfl (l_rng z189)
                        refine g_iinc 194 (gd rfl) rfl rfl (Nat.le_of_ble_eq_true rfl) (fun z191 e191 => ?_)
                        have i191 := in_add 1 320 e191 i77 (in_c 1 rfl) rfl rfl
                        refine g_goto 67 (gd rfl) rfl ?_
                        exact gg_w (by first | exact Nat.le_add_right _ _ | exact gw2 | exact gw3 | exact gwe rfl | exact gwf rfl | exact gwg rfl | exact gwh rfl | omega) (gg_f (gf_cons rfl (gf_cons rfl (gf_cons rfl (gf_cons rfl (gf_cons rfl (gf_cons rfl (gf_cons rfl gf_nil))))))) (ih67 (sL (sI sc67 165 z123.toNatClampNeg z169) 166 z123.toNatClampNeg z189) z191 hI190 (fr_sL rfl (fr_sI rfl hFc67)) (in_w 0 31 j67_5 rfl) (in_w 0 400 i191 rfl) (m_up mm67 (t_add e191 i77 (in_c 1 rfl) rfl) (in_w 1 1 (in_c 1 rfl) rfl))))
              · skip
                exact zn_ne c104 h2 rfl
            · skip
              exact zn_ne c81 h2 rfl
      refine g_iload 54 (gd rfl) rfl rfl ?_
      refine g_aload_n 55 (gd rfl) rfl rfl ?_
      refine g_getI 58 (gd rfl) rfl rfl rfl (fun z55 e55 => ?_)
      have q55 : u_109_20 = z55 := (fr_F e_109_20 hFc52 rfl).trans e55.symm
      subst q55
      refine g_cmp_ge 61 203 (gd rfl) rfl rfl (fun c58 => ?_) (fun c58 => ?_)
      · skip
        exact g_return (gd rfl) rfl (hP _ _ ⟨sc52, hIc52, hFc52, rfl, rfl⟩)
      · skip
        have i58 := r_lt1 0 31 c58 j52_5 ro_109_20 rfl
        have i58a := r_lt2 1 32 c58 j52_5 ro_109_20 rfl
        refine g_aload_n 62 (gd rfl) rfl rfl ?_
        refine g_getI 65 (gd rfl) rfl rfl rfl (fun z62 e62 => ?_)
        have q62 : u_109_19 = z62 := (fr_F e_109_19 hFc52 rfl).trans e62.symm
        subst q62
        refine g_istore 67 (gd rfl) rfl (Nat.le_of_ble_eq_true rfl) ?_
        exact gg_w (by first | exact Nat.le_add_right _ _ | exact gw2 | exact gw3 | exact gwe rfl | exact gwf rfl | exact gwg rfl | exact gwh rfl | omega) (gg_f (gf_cons rfl (gf_cons rfl (gf_cons rfl (gf_cons rfl (gf_cons rfl (gf_cons rfl (gf_cons rfl gf_nil))))))) (ct67 401 sc52 u_109_19 hIc52 hFc52 (in_w 0 31 i58 rfl) (in_w 0 400 ro_109_19 rfl) (m_in 401 (in_w 0 400 ro_109_19 rfl) rfl)))
  have ct3 : ∀ (k3 : Nat) (sc3 : GS) (y3_5 : Int32), Inv sc3 → Fr fm_370_109_165_166 s sc3 → (In y3_5 0 32) → 32 - (y3_5).toInt < (k3 : Int) → GG Z (d - 1) 370 post (gx xp) (11998835 + k3 * 900) 3 (fun j => xlook j [(0, .ref (A 109)), (1, .int x1), (2, .int x2), (3, .ref (A 165)), (4, .ref (A 166)), (5, .int y3_5)]) [] (WW Z A sc3 ++ ex) 0 0 := by
    intro k3
    induction k3 with
    | zero => intro sc3 y3_5 hIc3 hFc3 j3_5 mm3; exact m_no mm3 j3_5 rfl
    | succ k3 ih3 =>
      intro sc3 y3_5 hIc3 hFc3 j3_5 mm3
      refine gg_w (M := 11998835 + k3 * 900 + 900) gws ?_
      refine g_iload 5 (gd rfl) rfl rfl ?_
      refine g_aload_n 6 (gd rfl) rfl rfl ?_
      refine g_getI 9 (gd rfl) rfl rfl rfl (fun z6 e6 => ?_)
      have q6 : u_109_20 = z6 := (fr_F e_109_20 hFc3 rfl).trans e6.symm
      subst q6
      refine g_cmp_ge 12 49 (gd rfl) rfl rfl (fun c9 => ?_) (fun c9 => ?_)
      · skip
        refine g_iconst 0 50 (gd rfl) rfl rfl ?_
        refine g_istore 52 (gd rfl) rfl (Nat.le_of_ble_eq_true rfl) ?_
        exact gg_w (by first | exact Nat.le_add_right _ _ | exact gw2 | exact gw3 | exact gwe rfl | exact gwf rfl | exact gwg rfl | exact gwh rfl | omega) (gg_f (gf_cons rfl (gf_cons rfl (gf_cons rfl (gf_cons rfl (gf_cons rfl (gf_cons rfl gf_nil)))))) (ct52 33 sc3 (Int32.ofInt 0) hIc3 hFc3 (in_w 0 32 (in_c 0 rfl) rfl) (m_in 33 (in_w 0 32 (in_c 0 rfl) rfl) rfl)))
      · skip
        have i9 := r_lt1 0 31 c9 j3_5 ro_109_20 rfl
        have i9a := r_lt2 1 32 c9 j3_5 ro_109_20 rfl
        refine g_aload_n 13 (gd rfl) rfl rfl ?_
        refine g_iload 15 (gd rfl) rfl rfl ?_
        refine g_iload 17 (gd rfl) rfl rfl ?_
        refine g_iload_n 18 (gd rfl) rfl rfl ?_
        refine g_cmp_ne 21 25 (gd rfl) rfl rfl (fun c18 => ?_) (fun c18 => ?_)
        · skip
          refine g_iconst (-1) 26 (gd rfl) rfl rfl ?_
          refine g_iastore 27 (gd rfl) rfl (n := 32) rfl (in_ix i9 rfl) ?_
          have hI26 := inv_sI (q := 165) (j := y3_5.toNatClampNeg) hIc3 rfl (in_w (-2147483648) 2147483647 (in_c (-1) rfl) rfl)
          refine g_aload 29 (gd rfl) rfl rfl ?_
          refine g_iload 31 (gd rfl) rfl rfl ?_
          refine g_iload 33 (gd rfl) rfl rfl ?_
          refine g_iload_n 34 (gd rfl) rfl rfl ?_
          refine g_cmp_ne 37 41 (gd rfl) rfl rfl (fun c34 => ?_) (fun c34 => ?_)
          · skip
            refine g_lconst 0 42 (gd rfl) rfl rfl ?_
            refine g_lastore 43 (gd rfl) rfl (n := 32) rfl (in_ix i9 rfl) ?_
            have hI42 := inv_sL (q := 166) (j := y3_5.toNatClampNeg) (x := (Int64.ofInt 0)) hI26 rfl (l_rng (Int64.ofInt 0))
            refine g_iinc 46 (gd rfl) rfl rfl (Nat.le_of_ble_eq_true rfl) (fun z43 e43 => ?_)
            have i43 := in_add 1 32 e43 i9 (in_c 1 rfl) rfl rfl
            refine g_goto 3 (gd rfl) rfl ?_
            exact gg_w (by first | exact Nat.le_add_right _ _ | exact gw2 | exact gw3 | exact gwe rfl | exact gwf rfl | exact gwg rfl | exact gwh rfl | omega) (gg_f (gf_cons rfl (gf_cons rfl (gf_cons rfl (gf_cons rfl (gf_cons rfl (gf_cons rfl gf_nil)))))) (ih3 (sL (sI sc3 165 y3_5.toNatClampNeg (Int32.ofInt (-1))) 166 y3_5.toNatClampNeg (Int64.ofInt 0)) z43 hI42 (fr_sL rfl (fr_sI rfl hFc3)) (in_w 0 32 i43 rfl) (m_up mm3 (t_add e43 i9 (in_c 1 rfl) rfl) (in_w 1 1 (in_c 1 rfl) rfl))))
          · skip
            refine g_lconst 1 38 (gd rfl) rfl rfl ?_
            refine g_goto 42 (gd rfl) rfl ?_
            refine g_lastore 43 (gd rfl) rfl (n := 32) rfl (in_ix i9 rfl) ?_
            have hI42 := inv_sL (q := 166) (j := y3_5.toNatClampNeg) (x := (Int64.ofInt 1)) hI26 rfl (l_rng (Int64.ofInt 1))
            refine g_iinc 46 (gd rfl) rfl rfl (Nat.le_of_ble_eq_true rfl) (fun z43 e43 => ?_)
            have i43 := in_add 1 32 e43 i9 (in_c 1 rfl) rfl rfl
            refine g_goto 3 (gd rfl) rfl ?_
            exact gg_w (by first | exact Nat.le_add_right _ _ | exact gw2 | exact gw3 | exact gwe rfl | exact gwf rfl | exact gwg rfl | exact gwh rfl | omega) (gg_f (gf_cons rfl (gf_cons rfl (gf_cons rfl (gf_cons rfl (gf_cons rfl (gf_cons rfl gf_nil)))))) (ih3 (sL (sI sc3 165 y3_5.toNatClampNeg (Int32.ofInt (-1))) 166 y3_5.toNatClampNeg (Int64.ofInt 1)) z43 hI42 (fr_sL rfl (fr_sI rfl hFc3)) (in_w 0 32 i43 rfl) (m_up mm3 (t_add e43 i9 (in_c 1 rfl) rfl) (in_w 1 1 (in_c 1 rfl) rfl))))
        · skip
          refine g_iconst 0 22 (gd rfl) rfl rfl ?_
          refine g_goto 26 (gd rfl) rfl ?_
          refine g_iastore 27 (gd rfl) rfl (n := 32) rfl (in_ix i9 rfl) ?_
          have hI26 := inv_sI (q := 165) (j := y3_5.toNatClampNeg) hIc3 rfl (in_w (-2147483648) 2147483647 (in_c 0 rfl) rfl)
          refine g_aload 29 (gd rfl) rfl rfl ?_
          refine g_iload 31 (gd rfl) rfl rfl ?_
          refine g_iload 33 (gd rfl) rfl rfl ?_
          refine g_iload_n 34 (gd rfl) rfl rfl ?_
          refine g_cmp_ne 37 41 (gd rfl) rfl rfl (fun c34 => ?_) (fun c34 => ?_)
          · skip
            refine g_lconst 0 42 (gd rfl) rfl rfl ?_
            refine g_lastore 43 (gd rfl) rfl (n := 32) rfl (in_ix i9 rfl) ?_
            have hI42 := inv_sL (q := 166) (j := y3_5.toNatClampNeg) (x := (Int64.ofInt 0)) hI26 rfl (l_rng (Int64.ofInt 0))
            refine g_iinc 46 (gd rfl) rfl rfl (Nat.le_of_ble_eq_true rfl) (fun z43 e43 => ?_)
            have i43 := in_add 1 32 e43 i9 (in_c 1 rfl) rfl rfl
            refine g_goto 3 (gd rfl) rfl ?_
            exact gg_w (by first | exact Nat.le_add_right _ _ | exact gw2 | exact gw3 | exact gwe rfl | exact gwf rfl | exact gwg rfl | exact gwh rfl | omega) (gg_f (gf_cons rfl (gf_cons rfl (gf_cons rfl (gf_cons rfl (gf_cons rfl (gf_cons rfl gf_nil)))))) (ih3 (sL (sI sc3 165 y3_5.toNatClampNeg (Int32.ofInt 0)) 166 y3_5.toNatClampNeg (Int64.ofInt 0)) z43 hI42 (fr_sL rfl (fr_sI rfl hFc3)) (in_w 0 32 i43 rfl) (m_up mm3 (t_add e43 i9 (in_c 1 rfl) rfl) (in_w 1 1 (in_c 1 rfl) rfl))))
          · skip
            refine g_lconst 1 38 (gd rfl) rfl rfl ?_
            refine g_goto 42 (gd rfl) rfl ?_
            refine g_lastore 43 (gd rfl) rfl (n := 32) rfl (in_ix i9 rfl) ?_
            have hI42 := inv_sL (q := 166) (j := y3_5.toNatClampNeg) (x := (Int64.ofInt 1)) hI26 rfl (l_rng (Int64.ofInt 1))
            refine g_iinc 46 (gd rfl) rfl rfl (Nat.le_of_ble_eq_true rfl) (fun z43 e43 => ?_)
            have i43 := in_add 1 32 e43 i9 (in_c 1 rfl) rfl rfl
            refine g_goto 3 (gd rfl) rfl ?_
            exact gg_w (by first | exact Nat.le_add_right _ _ | exact gw2 | exact gw3 | exact gwe rfl | exact gwf rfl | exact gwg rfl | exact gwh rfl | omega) (gg_f (gf_cons rfl (gf_cons rfl (gf_cons rfl (gf_cons rfl (gf_cons rfl (gf_cons rfl gf_nil)))))) (ih3 (sL (sI sc3 165 y3_5.toNatClampNeg (Int32.ofInt 0)) 166 y3_5.toNatClampNeg (Int64.ofInt 1)) z43 hI42 (fr_sL rfl (fr_sI rfl hFc3)) (in_w 0 32 i43 rfl) (m_up mm3 (t_add e43 i9 (in_c 1 rfl) rfl) (in_w 1 1 (in_c 1 rfl) rfl))))
  refine g_enter2 (k := 370) (N := 12029435) (by first | exact dq1 hd rfl | exact dq0 hd rfl | exact dq2 hd rfl | exact dq3 hd rfl | omega) rfl (Nat.le_of_ble_eq_true rfl) ?_
  refine g_iconst 0 1 (gd rfl) rfl rfl ?_
  refine g_istore 3 (gd rfl) rfl (Nat.le_of_ble_eq_true rfl) ?_
  exact gg_w (by first | exact Nat.le_of_ble_eq_true rfl | omega) (gg_f (gf_cons rfl (gf_cons rfl (gf_cons rfl (gf_cons rfl (gf_cons rfl (gf_cons rfl gf_nil)))))) (ct3 33 s (Int32.ofInt 0) hI fr_rf (in_w 0 32 (in_c 0 rfl) rfl) (m_in 33 (in_w 0 32 (in_c 0 rfl) rfl) rfl)))

def fm_370_109_167_168 : FM := ([167], [168], [], [])
/-- GraphHouseModel.hop -/
theorem k_370_109_167_168 {Z : AmZ} {A : Nat → Nat} {s : GS} {ex : va_W} {d : Nat} {X : AmX} {x1 : Int32} {x2 : Int32} (hd : 1 ≤ d) (hI : Inv s) (h1 : In x1 0 31) (h2 : In x2 1 1) : GC Z d 370 [.ref (A 109), .int x1, .int x2, .ref (A 167), .ref (A 168)] (WW Z A s ++ ex) 0 0 (fun v u => ∃ t : GS, Inv t ∧ Fr fm_370_109_167_168 s t ∧ v = none ∧ u = WW Z A t ++ ex) X := by
  intro post xp hP hX
  obtain ⟨u_109_19, e_109_19⟩ : ∃ w, w = s.2.2.1 109 19 := ⟨_, rfl⟩
  have ro_109_19 := inv_F hI 0 160 rfl e_109_19
  obtain ⟨u_109_20, e_109_20⟩ : ∃ w, w = s.2.2.1 109 20 := ⟨_, rfl⟩
  have ro_109_20 := inv_F hI 0 32 rfl e_109_20
  have ct52 : ∀ (k52 : Nat) (sc52 : GS) (y52_5 : Int32), Inv sc52 → Fr fm_370_109_167_168 s sc52 → (In y52_5 0 32) → ((x2).toInt ≠ 0) → 32 - (y52_5).toInt < (k52 : Int) → GG Z (d - 1) 370 post (gx xp) (1 + k52 * 363601) 52 (fun j => xlook j [(0, .ref (A 109)), (1, .int x1), (2, .int x2), (3, .ref (A 167)), (4, .ref (A 168)), (5, .int y52_5)]) [] (WW Z A sc52 ++ ex) 0 0 := by
    intro k52
    induction k52 with
    | zero => intro sc52 y52_5 hIc52 hFc52 j52_5 nz52_2 mm52; exact m_no mm52 j52_5 rfl
    | succ k52 ih52 =>
      intro sc52 y52_5 hIc52 hFc52 j52_5 nz52_2 mm52
      refine gg_w (M := 1 + k52 * 363601 + 363601) gws ?_
      have ct67 : ∀ (k67 : Nat) (sc67 : GS) (y67_6 : Int32), Inv sc67 → Fr fm_370_109_167_168 s sc67 → (In y52_5 0 31) → (In y67_6 0 400) → ((x2).toInt ≠ 0) → 400 - (y67_6).toInt < (k67 : Int) → GG Z (d - 1) 370 post (gx xp) (1 + k52 * 363601 + 1 + k67 * 900) 67 (fun j => xlook j [(0, .ref (A 109)), (1, .int x1), (2, .int x2), (3, .ref (A 167)), (4, .ref (A 168)), (5, .int y52_5), (6, .int y67_6)]) [] (WW Z A sc67 ++ ex) 0 0 := by
        intro k67
        induction k67 with
        | zero => intro sc67 y67_6 hIc67 hFc67 j67_5 j67_6 nz67_2 mm67; exact m_no mm67 j67_6 rfl
        | succ k67 ih67 =>
          intro sc67 y67_6 hIc67 hFc67 j67_5 j67_6 nz67_2 mm67
          refine gg_w (M := 1 + k52 * 363601 + 1 + k67 * 900 + 900) gws ?_
          refine g_iload 69 (gd rfl) rfl rfl ?_
          refine g_aload_n 70 (gd rfl) rfl rfl ?_
          refine g_getI 73 (gd rfl) rfl rfl rfl (fun z70 e70 => ?_)
          have q70 : u_109_19 = z70 := (fr_F e_109_19 hFc67 rfl).trans e70.symm
          subst q70
          refine g_sipush 160 76 (gd rfl) rfl rfl ?_
          refine g_iadd 77 (gd rfl) rfl (fun z76 e76 => ?_)
          have i76 := in_add 160 320 e76 ro_109_19 (in_c 160 rfl) rfl rfl
          refine g_cmp_ge 80 197 (gd rfl) rfl rfl (fun c77 => ?_) (fun c77 => ?_)
          · skip
            have i77 := r_le2 160 400 c77 i76 j67_6 rfl
            refine g_iinc 200 (gd rfl) rfl rfl (Nat.le_of_ble_eq_true rfl) (fun z197 e197 => ?_)
            have i197 := in_add 1 32 e197 j67_5 (in_c 1 rfl) rfl rfl
            refine g_goto 52 (gd rfl) rfl ?_
            exact gg_w (by first | exact Nat.le_add_right _ _ | exact gw2 | exact gw3 | exact gwe rfl | exact gwf rfl | exact gwg rfl | exact gwh rfl | omega) (gg_f (gf_cons rfl (gf_cons rfl (gf_cons rfl (gf_cons rfl (gf_cons rfl (gf_cons rfl gf_nil)))))) (ih52 sc67 z197 hIc67 hFc67 (in_w 0 32 i197 rfl) nz67_2 (m_up mm52 (t_add e197 j67_5 (in_c 1 rfl) rfl) (in_w 1 1 (in_c 1 rfl) rfl))))
          · skip
            have i77 := r_lt1 0 319 c77 j67_6 i76 rfl
            refine g_iload_n 81 (gd rfl) rfl rfl ?_
            refine g_if_eq 84 94 (gd rfl) rfl rfl (fun c81 => ?_) (fun c81 => ?_)
            · skip
              exact zn_eq c81 h2 rfl
            · skip
              refine g_aload_n 85 (gd rfl) rfl rfl ?_
              refine g_getA (q2 := 114) 88 (gd rfl) rfl rfl rfl rfl ?_
              refine g_iload 90 (gd rfl) rfl rfl ?_
              refine g_iaload 91 (gd rfl) rfl (n := 480) rfl (in_ix i77 rfl) (fun z90 e90 => ?_)
              have i90 := inv_I hIc67 (n := 480) (t := 0) 0 31 rfl (in_ix i77 rfl) rfl e90
              refine g_goto 101 (gd rfl) rfl ?_
              refine g_istore 103 (gd rfl) rfl (Nat.le_of_ble_eq_true rfl) ?_
              refine g_iload_n 104 (gd rfl) rfl rfl ?_
              refine g_if_eq 107 117 (gd rfl) rfl rfl (fun c104 => ?_) (fun c104 => ?_)
              · skip
                exact zn_eq c104 h2 rfl
              · skip
                refine g_aload_n 108 (gd rfl) rfl rfl ?_
                refine g_getA (q2 := 113) 111 (gd rfl) rfl rfl rfl rfl ?_
                refine g_iload 113 (gd rfl) rfl rfl ?_
                refine g_iaload 114 (gd rfl) rfl (n := 480) rfl (in_ix i77 rfl) (fun z113 e113 => ?_)
                have i113 := inv_I hIc67 (n := 480) (t := 0) 0 31 rfl (in_ix i77 rfl) rfl e113
                refine g_goto 124 (gd rfl) rfl ?_
                refine g_istore 126 (gd rfl) rfl (Nat.le_of_ble_eq_true rfl) ?_
                refine g_aload_n 127 (gd rfl) rfl rfl ?_
                refine g_getA (q2 := 112) 130 (gd rfl) rfl rfl rfl rfl ?_
                refine g_iload 132 (gd rfl) rfl rfl ?_
                refine g_baload 133 (gd rfl) rfl (n := 480) rfl (in_ix i77 rfl) (fun z132 e132 => ?_)
                have i132 := inv_I hIc67 (n := 480) (t := 3) 0 1 rfl (in_ix i77 rfl) rfl e132
                refine g_if_eq 136 191 (gd rfl) rfl rfl (fun c133 => ?_) (fun c133 => ?_)
                · skip
                  have i133 := z_eq 0 0 c133 i132 rfl
                  refine g_iinc 194 (gd rfl) rfl rfl (Nat.le_of_ble_eq_true rfl) (fun z191 e191 => ?_)
                  have i191 := in_add 1 320 e191 i77 (in_c 1 rfl) rfl rfl
                  refine g_goto 67 (gd rfl) rfl ?_
                  exact gg_w (by first | exact Nat.le_add_right _ _ | exact gw2 | exact gw3 | exact gwe rfl | exact gwf rfl | exact gwg rfl | exact gwh rfl | omega) (gg_f (gf_cons rfl (gf_cons rfl (gf_cons rfl (gf_cons rfl (gf_cons rfl (gf_cons rfl (gf_cons rfl gf_nil))))))) (ih67 sc67 z191 hIc67 hFc67 (in_w 0 31 j67_5 rfl) (in_w 0 400 i191 rfl) c104 (m_up mm67 (t_add e191 i77 (in_c 1 rfl) rfl) (in_w 1 1 (in_c 1 rfl) rfl))))
                · skip
                  have i133 := z_ne 1 1 c133 i132 rfl
                  refine g_aload_n 137 (gd rfl) rfl rfl ?_
                  refine g_iload 139 (gd rfl) rfl rfl ?_
                  refine g_iaload 140 (gd rfl) rfl (n := 32) rfl (in_ix i90 rfl) (fun z139 e139 => ?_)
                  refine g_iload 142 (gd rfl) rfl rfl ?_
                  refine g_cmp_ne 145 191 (gd rfl) rfl rfl (fun c142 => ?_) (fun c142 => ?_)
                  · skip
                    refine g_iinc 194 (gd rfl) rfl rfl (Nat.le_of_ble_eq_true rfl) (fun z191 e191 => ?_)
                    have i191 := in_add 1 320 e191 i77 (in_c 1 rfl) rfl rfl
                    refine g_goto 67 (gd rfl) rfl ?_
                    exact gg_w (by first | exact Nat.le_add_right _ _ | exact gw2 | exact gw3 | exact gwe rfl | exact gwf rfl | exact gwg rfl | exact gwh rfl | omega) (gg_f (gf_cons rfl (gf_cons rfl (gf_cons rfl (gf_cons rfl (gf_cons rfl (gf_cons rfl (gf_cons rfl gf_nil))))))) (ih67 sc67 z191 hIc67 hFc67 (in_w 0 31 j67_5 rfl) (in_w 0 400 i191 rfl) c104 (m_up mm67 (t_add e191 i77 (in_c 1 rfl) rfl) (in_w 1 1 (in_c 1 rfl) rfl))))
                  · skip
                    have i142 := r_eq1 0 31 c142 (i_rng z139) j67_5 rfl
                    refine g_aload_n 146 (gd rfl) rfl rfl ?_
                    refine g_iload 148 (gd rfl) rfl rfl ?_
                    refine g_iaload 149 (gd rfl) rfl (n := 32) rfl (in_ix i113 rfl) (fun z148 e148 => ?_)
                    refine g_if_lt 152 163 (gd rfl) rfl rfl (fun c149 => ?_) (fun c149 => ?_)
                    · skip
                      have i149 := z_lt (-2147483648) (-1) c149 (i_rng z148) rfl
                      refine g_aload_n 164 (gd rfl) rfl rfl ?_
                      refine g_iload 166 (gd rfl) rfl rfl ?_
                      refine g_iload 168 (gd rfl) rfl rfl ?_
                      refine g_iconst 1 169 (gd rfl) rfl rfl ?_
                      refine g_iadd 170 (gd rfl) rfl (fun z169 e169 => ?_)
                      have i169 := in_add 1 32 e169 j67_5 (in_c 1 rfl) rfl rfl
                      refine g_iastore 171 (gd rfl) rfl (n := 32) rfl (in_ix i113 rfl) ?_
                      have hI170 := inv_sI (q := 167) (j := z113.toNatClampNeg) hIc67 rfl (in_w (-2147483648) 2147483647 i169 rfl)
                      refine g_aload 173 (gd rfl) rfl rfl ?_
                      refine g_iload 175 (gd rfl) rfl rfl ?_
                      refine g_aload 177 (gd rfl) rfl rfl ?_
                      refine g_iload 179 (gd rfl) rfl rfl ?_
                      refine g_laload 180 (gd rfl) rfl (n := 32) rfl (in_ix i113 rfl) (fun z179 e179 => ?_)
                      refine g_aload 182 (gd rfl) rfl rfl ?_
                      refine g_iload 184 (gd rfl) rfl rfl ?_
                      refine g_laload 185 (gd rfl) rfl (n := 32) rfl (in_ix i90 rfl) (fun z184 e184 => ?_)
                      refine g_ladd 186 (gd rfl) rfl (fun z185 e185 => ?_)
                      refine g_ldc2_w 1000000007 189 (gd rfl) rfl rfl ?_
                      refine g_lrem 190 (gd rfl) rfl (by decide) (fun z189 e189 => ?_)
                      have i189 := l_rem (-1000000006) 1000000006 e189 rfl
                      refine g_lastore 191 (gd rfl) rfl (n := 32) rfl (in_ix i113 rfl) ?_
                      have hI190 := inv_sL (q := 168) (j := z113.toNatClampNeg) (x := z189) hI170 rfl (l_rng z189)
                      refine g_iinc 194 (gd rfl) rfl rfl (Nat.le_of_ble_eq_true rfl) (fun z191 e191 => ?_)
                      have i191 := in_add 1 320 e191 i77 (in_c 1 rfl) rfl rfl
                      refine g_goto 67 (gd rfl) rfl ?_
                      exact gg_w (by first | exact Nat.le_add_right _ _ | exact gw2 | exact gw3 | exact gwe rfl | exact gwf rfl | exact gwg rfl | exact gwh rfl | omega) (gg_f (gf_cons rfl (gf_cons rfl (gf_cons rfl (gf_cons rfl (gf_cons rfl (gf_cons rfl (gf_cons rfl gf_nil))))))) (ih67 (sL (sI sc67 167 z113.toNatClampNeg z169) 168 z113.toNatClampNeg z189) z191 hI190 (fr_sL rfl (fr_sI rfl hFc67)) (in_w 0 31 j67_5 rfl) (in_w 0 400 i191 rfl) c104 (m_up mm67 (t_add e191 i77 (in_c 1 rfl) rfl) (in_w 1 1 (in_c 1 rfl) rfl))))
                    · skip
                      have i149 := z_ge 0 2147483647 c149 (i_rng z148) rfl
                      refine g_aload_n 153 (gd rfl) rfl rfl ?_
                      refine g_iload 155 (gd rfl) rfl rfl ?_
                      refine g_iaload 156 (gd rfl) rfl (n := 32) rfl (in_ix i113 rfl) (fun z155 e155 => ?_)
                      have q155 : z148 = z155 := (e148).trans e155.symm
                      subst q155
                      refine g_iload 158 (gd rfl) rfl rfl ?_
                      refine g_iconst 1 159 (gd rfl) rfl rfl ?_
                      refine g_iadd 160 (gd rfl) rfl (fun z159 e159 => ?_)
                      have i159 := in_add 1 32 e159 j67_5 (in_c 1 rfl) rfl rfl
                      refine g_cmp_ne 163 191 (gd rfl) rfl rfl (fun c160 => ?_) (fun c160 => ?_)
                      · skip
                        refine g_iinc 194 (gd rfl) rfl rfl (Nat.le_of_ble_eq_true rfl) (fun z191 e191 => ?_)
                        have i191 := in_add 1 320 e191 i77 (in_c 1 rfl) rfl rfl
                        refine g_goto 67 (gd rfl) rfl ?_
                        exact gg_w (by first | exact Nat.le_add_right _ _ | exact gw2 | exact gw3 | exact gwe rfl | exact gwf rfl | exact gwg rfl | exact gwh rfl | omega) (gg_f (gf_cons rfl (gf_cons rfl (gf_cons rfl (gf_cons rfl (gf_cons rfl (gf_cons rfl (gf_cons rfl gf_nil))))))) (ih67 sc67 z191 hIc67 hFc67 (in_w 0 31 j67_5 rfl) (in_w 0 400 i191 rfl) c104 (m_up mm67 (t_add e191 i77 (in_c 1 rfl) rfl) (in_w 1 1 (in_c 1 rfl) rfl))))
                      · skip
                        have i160 := r_eq1 1 32 c160 i149 i159 rfl
                        refine g_aload_n 164 (gd rfl) rfl rfl ?_
                        refine g_iload 166 (gd rfl) rfl rfl ?_
                        refine g_iload 168 (gd rfl) rfl rfl ?_
                        refine g_iconst 1 169 (gd rfl) rfl rfl ?_
                        refine g_iadd 170 (gd rfl) rfl (fun z169 e169 => ?_)
                        have i169 := in_add 1 32 e169 j67_5 (in_c 1 rfl) rfl rfl
                        refine g_iastore 171 (gd rfl) rfl (n := 32) rfl (in_ix i113 rfl) ?_
                        have hI170 := inv_sI (q := 167) (j := z113.toNatClampNeg) hIc67 rfl (in_w (-2147483648) 2147483647 i169 rfl)
                        refine g_aload 173 (gd rfl) rfl rfl ?_
                        refine g_iload 175 (gd rfl) rfl rfl ?_
                        refine g_aload 177 (gd rfl) rfl rfl ?_
                        refine g_iload 179 (gd rfl) rfl rfl ?_
                        refine g_laload 180 (gd rfl) rfl (n := 32) rfl (in_ix i113 rfl) (fun z179 e179 => ?_)
                        refine g_aload 182 (gd rfl) rfl rfl ?_
                        refine g_iload 184 (gd rfl) rfl rfl ?_
                        refine g_laload 185 (gd rfl) rfl (n := 32) rfl (in_ix i90 rfl) (fun z184 e184 => ?_)
                        refine g_ladd 186 (gd rfl) rfl (fun z185 e185 => ?_)
                        refine g_ldc2_w 1000000007 189 (gd rfl) rfl rfl ?_
                        refine g_lrem 190 (gd rfl) rfl (by decide) (fun z189 e189 => ?_)
                        have i189 := l_rem (-1000000006) 1000000006 e189 rfl
                        refine g_lastore 191 (gd rfl) rfl (n := 32) rfl (in_ix i113 rfl) ?_
                        have hI190 := inv_sL (q := 168) (j := z113.toNatClampNeg) (x := z189) hI170 rfl (l_rng z189)
                        refine g_iinc 194 (gd rfl) rfl rfl (Nat.le_of_ble_eq_true rfl) (fun z191 e191 => ?_)
                        have i191 := in_add 1 320 e191 i77 (in_c 1 rfl) rfl rfl
                        refine g_goto 67 (gd rfl) rfl ?_
                        exact gg_w (by first | exact Nat.le_add_right _ _ | exact gw2 | exact gw3 | exact gwe rfl | exact gwf rfl | exact gwg rfl | exact gwh rfl | omega) (gg_f (gf_cons rfl (gf_cons rfl (gf_cons rfl (gf_cons rfl (gf_cons rfl (gf_cons rfl (gf_cons rfl gf_nil))))))) (ih67 (sL (sI sc67 167 z113.toNatClampNeg z169) 168 z113.toNatClampNeg z189) z191 hI190 (fr_sL rfl (fr_sI rfl hFc67)) (in_w 0 31 j67_5 rfl) (in_w 0 400 i191 rfl) c104 (m_up mm67 (t_add e191 i77 (in_c 1 rfl) rfl) (in_w 1 1 (in_c 1 rfl) rfl))))
      refine g_iload 54 (gd rfl) rfl rfl ?_
      refine g_aload_n 55 (gd rfl) rfl rfl ?_
      refine g_getI 58 (gd rfl) rfl rfl rfl (fun z55 e55 => ?_)
      have q55 : u_109_20 = z55 := (fr_F e_109_20 hFc52 rfl).trans e55.symm
      subst q55
      refine g_cmp_ge 61 203 (gd rfl) rfl rfl (fun c58 => ?_) (fun c58 => ?_)
      · skip
        exact g_return (gd rfl) rfl (hP _ _ ⟨sc52, hIc52, hFc52, rfl, rfl⟩)
      · skip
        have i58 := r_lt1 0 31 c58 j52_5 ro_109_20 rfl
        have i58a := r_lt2 1 32 c58 j52_5 ro_109_20 rfl
        refine g_aload_n 62 (gd rfl) rfl rfl ?_
        refine g_getI 65 (gd rfl) rfl rfl rfl (fun z62 e62 => ?_)
        have q62 : u_109_19 = z62 := (fr_F e_109_19 hFc52 rfl).trans e62.symm
        subst q62
        refine g_istore 67 (gd rfl) rfl (Nat.le_of_ble_eq_true rfl) ?_
        exact gg_w (by first | exact Nat.le_add_right _ _ | exact gw2 | exact gw3 | exact gwe rfl | exact gwf rfl | exact gwg rfl | exact gwh rfl | omega) (gg_f (gf_cons rfl (gf_cons rfl (gf_cons rfl (gf_cons rfl (gf_cons rfl (gf_cons rfl (gf_cons rfl gf_nil))))))) (ct67 401 sc52 u_109_19 hIc52 hFc52 (in_w 0 31 i58 rfl) (in_w 0 400 ro_109_19 rfl) nz52_2 (m_in 401 (in_w 0 400 ro_109_19 rfl) rfl)))
  have ct3 : ∀ (k3 : Nat) (sc3 : GS) (y3_5 : Int32), Inv sc3 → Fr fm_370_109_167_168 s sc3 → (In y3_5 0 32) → ((x2).toInt ≠ 0) → 32 - (y3_5).toInt < (k3 : Int) → GG Z (d - 1) 370 post (gx xp) (11998835 + k3 * 900) 3 (fun j => xlook j [(0, .ref (A 109)), (1, .int x1), (2, .int x2), (3, .ref (A 167)), (4, .ref (A 168)), (5, .int y3_5)]) [] (WW Z A sc3 ++ ex) 0 0 := by
    intro k3
    induction k3 with
    | zero => intro sc3 y3_5 hIc3 hFc3 j3_5 nz3_2 mm3; exact m_no mm3 j3_5 rfl
    | succ k3 ih3 =>
      intro sc3 y3_5 hIc3 hFc3 j3_5 nz3_2 mm3
      refine gg_w (M := 11998835 + k3 * 900 + 900) gws ?_
      refine g_iload 5 (gd rfl) rfl rfl ?_
      refine g_aload_n 6 (gd rfl) rfl rfl ?_
      refine g_getI 9 (gd rfl) rfl rfl rfl (fun z6 e6 => ?_)
      have q6 : u_109_20 = z6 := (fr_F e_109_20 hFc3 rfl).trans e6.symm
      subst q6
      refine g_cmp_ge 12 49 (gd rfl) rfl rfl (fun c9 => ?_) (fun c9 => ?_)
      · skip
        refine g_iconst 0 50 (gd rfl) rfl rfl ?_
        refine g_istore 52 (gd rfl) rfl (Nat.le_of_ble_eq_true rfl) ?_
        exact gg_w (by first | exact Nat.le_add_right _ _ | exact gw2 | exact gw3 | exact gwe rfl | exact gwf rfl | exact gwg rfl | exact gwh rfl | omega) (gg_f (gf_cons rfl (gf_cons rfl (gf_cons rfl (gf_cons rfl (gf_cons rfl (gf_cons rfl gf_nil)))))) (ct52 33 sc3 (Int32.ofInt 0) hIc3 hFc3 (in_w 0 32 (in_c 0 rfl) rfl) nz3_2 (m_in 33 (in_w 0 32 (in_c 0 rfl) rfl) rfl)))
      · skip
        have i9 := r_lt1 0 31 c9 j3_5 ro_109_20 rfl
        have i9a := r_lt2 1 32 c9 j3_5 ro_109_20 rfl
        refine g_aload_n 13 (gd rfl) rfl rfl ?_
        refine g_iload 15 (gd rfl) rfl rfl ?_
        refine g_iload 17 (gd rfl) rfl rfl ?_
        refine g_iload_n 18 (gd rfl) rfl rfl ?_
        refine g_cmp_ne 21 25 (gd rfl) rfl rfl (fun c18 => ?_) (fun c18 => ?_)
        · skip
          refine g_iconst (-1) 26 (gd rfl) rfl rfl ?_
          refine g_iastore 27 (gd rfl) rfl (n := 32) rfl (in_ix i9 rfl) ?_
          have hI26 := inv_sI (q := 167) (j := y3_5.toNatClampNeg) hIc3 rfl (in_w (-2147483648) 2147483647 (in_c (-1) rfl) rfl)
          refine g_aload 29 (gd rfl) rfl rfl ?_
          refine g_iload 31 (gd rfl) rfl rfl ?_
          refine g_iload 33 (gd rfl) rfl rfl ?_
          refine g_iload_n 34 (gd rfl) rfl rfl ?_
          refine g_cmp_ne 37 41 (gd rfl) rfl rfl (fun c34 => ?_) (fun c34 => ?_)
          · skip
            refine g_lconst 0 42 (gd rfl) rfl rfl ?_
            refine g_lastore 43 (gd rfl) rfl (n := 32) rfl (in_ix i9 rfl) ?_
            have hI42 := inv_sL (q := 168) (j := y3_5.toNatClampNeg) (x := (Int64.ofInt 0)) hI26 rfl (l_rng (Int64.ofInt 0))
            refine g_iinc 46 (gd rfl) rfl rfl (Nat.le_of_ble_eq_true rfl) (fun z43 e43 => ?_)
            have i43 := in_add 1 32 e43 i9 (in_c 1 rfl) rfl rfl
            refine g_goto 3 (gd rfl) rfl ?_
            exact gg_w (by first | exact Nat.le_add_right _ _ | exact gw2 | exact gw3 | exact gwe rfl | exact gwf rfl | exact gwg rfl | exact gwh rfl | omega) (gg_f (gf_cons rfl (gf_cons rfl (gf_cons rfl (gf_cons rfl (gf_cons rfl (gf_cons rfl gf_nil)))))) (ih3 (sL (sI sc3 167 y3_5.toNatClampNeg (Int32.ofInt (-1))) 168 y3_5.toNatClampNeg (Int64.ofInt 0)) z43 hI42 (fr_sL rfl (fr_sI rfl hFc3)) (in_w 0 32 i43 rfl) nz3_2 (m_up mm3 (t_add e43 i9 (in_c 1 rfl) rfl) (in_w 1 1 (in_c 1 rfl) rfl))))
          · skip
            refine g_lconst 1 38 (gd rfl) rfl rfl ?_
            refine g_goto 42 (gd rfl) rfl ?_
            refine g_lastore 43 (gd rfl) rfl (n := 32) rfl (in_ix i9 rfl) ?_
            have hI42 := inv_sL (q := 168) (j := y3_5.toNatClampNeg) (x := (Int64.ofInt 1)) hI26 rfl (l_rng (Int64.ofInt 1))
            refine g_iinc 46 (gd rfl) rfl rfl (Nat.le_of_ble_eq_true rfl) (fun z43 e43 => ?_)
            have i43 := in_add 1 32 e43 i9 (in_c 1 rfl) rfl rfl
            refine g_goto 3 (gd rfl) rfl ?_
            exact gg_w (by first | exact Nat.le_add_right _ _ | exact gw2 | exact gw3 | exact gwe rfl | exact gwf rfl | exact gwg rfl | exact gwh rfl | omega) (gg_f (gf_cons rfl (gf_cons rfl (gf_cons rfl (gf_cons rfl (gf_cons rfl (gf_cons rfl gf_nil)))))) (ih3 (sL (sI sc3 167 y3_5.toNatClampNeg (Int32.ofInt (-1))) 168 y3_5.toNatClampNeg (Int64.ofInt 1)) z43 hI42 (fr_sL rfl (fr_sI rfl hFc3)) (in_w 0 32 i43 rfl) nz3_2 (m_up mm3 (t_add e43 i9 (in_c 1 rfl) rfl) (in_w 1 1 (in_c 1 rfl) rfl))))
        · skip
          refine g_iconst 0 22 (gd rfl) rfl rfl ?_
          refine g_goto 26 (gd rfl) rfl ?_
          refine g_iastore 27 (gd rfl) rfl (n := 32) rfl (in_ix i9 rfl) ?_
          have hI26 := inv_sI (q := 167) (j := y3_5.toNatClampNeg) hIc3 rfl (in_w (-2147483648) 2147483647 (in_c 0 rfl) rfl)
          refine g_aload 29 (gd rfl) rfl rfl ?_
          refine g_iload 31 (gd rfl) rfl rfl ?_
          refine g_iload 33 (gd rfl) rfl rfl ?_
          refine g_iload_n 34 (gd rfl) rfl rfl ?_
          refine g_cmp_ne 37 41 (gd rfl) rfl rfl (fun c34 => ?_) (fun c34 => ?_)
          · skip
            refine g_lconst 0 42 (gd rfl) rfl rfl ?_
            refine g_lastore 43 (gd rfl) rfl (n := 32) rfl (in_ix i9 rfl) ?_
            have hI42 := inv_sL (q := 168) (j := y3_5.toNatClampNeg) (x := (Int64.ofInt 0)) hI26 rfl (l_rng (Int64.ofInt 0))
            refine g_iinc 46 (gd rfl) rfl rfl (Nat.le_of_ble_eq_true rfl) (fun z43 e43 => ?_)
            have i43 := in_add 1 32 e43 i9 (in_c 1 rfl) rfl rfl
            refine g_goto 3 (gd rfl) rfl ?_
            exact gg_w (by first | exact Nat.le_add_right _ _ | exact gw2 | exact gw3 | exact gwe rfl | exact gwf rfl | exact gwg rfl | exact gwh rfl | omega) (gg_f (gf_cons rfl (gf_cons rfl (gf_cons rfl (gf_cons rfl (gf_cons rfl (gf_cons rfl gf_nil)))))) (ih3 (sL (sI sc3 167 y3_5.toNatClampNeg (Int32.ofInt 0)) 168 y3_5.toNatClampNeg (Int64.ofInt 0)) z43 hI42 (fr_sL rfl (fr_sI rfl hFc3)) (in_w 0 32 i43 rfl) nz3_2 (m_up mm3 (t_add e43 i9 (in_c 1 rfl) rfl) (in_w 1 1 (in_c 1 rfl) rfl))))
          · skip
            refine g_lconst 1 38 (gd rfl) rfl rfl ?_
            refine g_goto 42 (gd rfl) rfl ?_
            refine g_lastore 43 (gd rfl) rfl (n := 32) rfl (in_ix i9 rfl) ?_
            have hI42 := inv_sL (q := 168) (j := y3_5.toNatClampNeg) (x := (Int64.ofInt 1)) hI26 rfl (l_rng (Int64.ofInt 1))
            refine g_iinc 46 (gd rfl) rfl rfl (Nat.le_of_ble_eq_true rfl) (fun z43 e43 => ?_)
            have i43 := in_add 1 32 e43 i9 (in_c 1 rfl) rfl rfl
            refine g_goto 3 (gd rfl) rfl ?_
            exact gg_w (by first | exact Nat.le_add_right _ _ | exact gw2 | exact gw3 | exact gwe rfl | exact gwf rfl | exact gwg rfl | exact gwh rfl | omega) (gg_f (gf_cons rfl (gf_cons rfl (gf_cons rfl (gf_cons rfl (gf_cons rfl (gf_cons rfl gf_nil)))))) (ih3 (sL (sI sc3 167 y3_5.toNatClampNeg (Int32.ofInt 0)) 168 y3_5.toNatClampNeg (Int64.ofInt 1)) z43 hI42 (fr_sL rfl (fr_sI rfl hFc3)) (in_w 0 32 i43 rfl) nz3_2 (m_up mm3 (t_add e43 i9 (in_c 1 rfl) rfl) (in_w 1 1 (in_c 1 rfl) rfl))))
  refine g_enter2 (k := 370) (N := 12029435) (by first | exact dq1 hd rfl | exact dq0 hd rfl | exact dq2 hd rfl | exact dq3 hd rfl | omega) rfl (Nat.le_of_ble_eq_true rfl) ?_
  refine g_iconst 0 1 (gd rfl) rfl rfl ?_
  refine g_istore 3 (gd rfl) rfl (Nat.le_of_ble_eq_true rfl) ?_
  exact gg_w (by first | exact Nat.le_of_ble_eq_true rfl | omega) (gg_f (gf_cons rfl (gf_cons rfl (gf_cons rfl (gf_cons rfl (gf_cons rfl (gf_cons rfl gf_nil)))))) (ct3 33 s (Int32.ofInt 0) hI fr_rf (in_w 0 32 (in_c 0 rfl) rfl) (nz_r h2 rfl) (m_in 33 (in_w 0 32 (in_c 0 rfl) rfl) rfl)))

def fm_371 : FM := ([165, 167], [166, 168], [(109, 0)], [])
/-- GraphHouseModel.shortest -/
theorem k_371 {Z : AmZ} {A : Nat → Nat} {s : GS} {ex : va_W} {d : Nat} {X : AmX} {x1 : Int32} {x2 : Int32} {x3 : Int32} {x4 : Int32} (hd : 4 ≤ d) (hI : Inv s)  : GC Z d 371 [.ref (A 109), .int x1, .int x2, .int x3, .int x4] (WW Z A s ++ ex) 0 0 (fun v u => ∃ t : GS, Inv t ∧ Fr fm_371 s t ∧ ∃ z : Int32, v = some (.int z) ∧ u = WW Z A t ++ ex ∧ In z (-2147483648) 2147483647) X := by
  intro post xp hP hX
  obtain ⟨u_109_20, e_109_20⟩ : ∃ w, w = s.2.2.1 109 20 := ⟨_, rfl⟩
  have ro_109_20 := inv_F hI 0 32 rfl e_109_20
  have ct151 : ∀ (sc151 : GS) , Inv sc151 → Fr fm_371 s sc151 → (In x1 0 31) → (In x2 0 31) → (In x3 2 2) → (In x4 0 31) → ((x3).toInt ≠ 0) → GG Z (d - 1) 371 post (gx xp) (901) 151 (fun j => xlook j [(0, .ref (A 109)), (1, .int x1), (2, .int x2), (3, .int x3), (4, .int x4)]) [] (WW Z A sc151 ++ ex) 0 0 := by
    intro sc151  hIc151 hFc151 j151_1 j151_2 j151_3 j151_4 nz151_3
    refine g_iconst 0 152 (gd rfl) rfl rfl ?_
    refine g_istore 154 (gd rfl) rfl (Nat.le_of_ble_eq_true rfl) ?_
    refine g_iload 156 (gd rfl) rfl rfl ?_
    refine g_if_eq 159 182 (gd rfl) rfl rfl (fun c156 => ?_) (fun c156 => ?_)
    · skip
      refine g_iconst 0 183 (gd rfl) rfl rfl ?_
      exact g_ireturn (gd rfl) rfl rfl (hP _ _ ⟨sc151, hIc151, hFc151, (Int32.ofInt 0), rfl, rfl, in_w (-2147483648) 2147483647 (in_c 0 rfl) rfl⟩)
    · skip
      exact zn_ne c156 (in_c 0 rfl) rfl
  refine g_enter2 (k := 371) (N := 1801) (by first | exact dq1 hd rfl | exact dq0 hd rfl | exact dq2 hd rfl | exact dq3 hd rfl | omega) rfl (Nat.le_of_ble_eq_true rfl) ?_
  refine g_aload_n 1 (gd rfl) rfl rfl ?_
  refine g_aload_n 2 (gd rfl) rfl rfl ?_
  refine g_iload_n 3 (gd rfl) rfl rfl ?_
  refine g_callv (X := _) (As := [.int x1]) (r := [.ref (A 109)]) (b := A 109) (q := 109) 6 (gd rfl) rfl rfl rfl rfl rfl (ww_o rfl) (Nat.le_of_ble_eq_true rfl) (mc := 0) (ms := 0) (Nat.zero_le _) (Nat.zero_le _) (P := fun v u => _) ?_ (fun e u h => h) (fun v u h => h)
  intro po3 xx3 hp3 hx3
  refine g_enter2 (k := 272) (N := 300) (by first | exact dq1 hd rfl | exact dq0 hd rfl | exact dq2 hd rfl | exact dq3 hd rfl | omega) rfl (Nat.le_of_ble_eq_true rfl) ?_
  refine g_iload_n 1 (gd rfl) rfl rfl ?_
  refine g_if_lt 4 16 (gd rfl) rfl rfl (fun c3x1 => ?_) (fun c3x1 => ?_)
  · skip
    have i3x1 := z_lt (-2147483648) (-1) c3x1 (i_rng x1) rfl
    refine g_iconst 0 17 (gd rfl) rfl rfl ?_
    refine g_ireturn (gd rfl) rfl (nb01 (in_w 0 1 (in_c 0 rfl) rfl)) (hp3 _ _ ?_)
    show GG _ _ _ _ _ _ _ _ [.int (Int32.ofInt 0), .ref (A 109)] _ _ _
    refine g_if_eq 9 42 (gd rfl) rfl rfl (fun c6 => ?_) (fun c6 => ?_)
    · skip
      refine g_iconst 0 43 (gd rfl) rfl rfl ?_
      refine g_callv (X := _) (As := [.int (Int32.ofInt 0)]) (r := []) (b := A 109) (q := 109) 46 (gd rfl) rfl rfl rfl rfl rfl (ww_o rfl) (Nat.le_of_ble_eq_true rfl) (mc := 0) (ms := 0) (Nat.zero_le _) (Nat.zero_le _) (P := fun v u => _) ?_ (fun e u h => h) (fun v u h => h)
      intro po43 xx43 hp43 hx43
      refine g_enter2 (k := 271) (N := 300) (by first | exact dq1 hd rfl | exact dq0 hd rfl | exact dq2 hd rfl | exact dq3 hd rfl | omega) rfl (Nat.le_of_ble_eq_true rfl) ?_
      refine g_aload_n 1 (gd rfl) rfl rfl ?_
      refine g_iload_n 2 (gd rfl) rfl rfl ?_
      refine g_iconst 1 3 (gd rfl) rfl rfl ?_
      refine g_callv (X := _) (As := [.int (Int32.ofInt 0), .int (Int32.ofInt 1)]) (r := []) (b := A 109) (q := 109) 6 (gd rfl) rfl rfl rfl rfl rfl (ww_o rfl) (Nat.le_of_ble_eq_true rfl) (mc := 0) (ms := 0) (Nat.zero_le _) (Nat.zero_le _) (P := fun v u => _) ?_ (fun e u h => h) (fun v u h => h)
      intro po43x3 xx43x3 hp43x3 hx43x3
      refine g_enter2 (k := 270) (N := 300) (by first | exact dq1 hd rfl | exact dq0 hd rfl | exact dq2 hd rfl | exact dq3 hd rfl | omega) rfl (Nat.le_of_ble_eq_true rfl) ?_
      refine g_aload_n 1 (gd rfl) rfl rfl ?_
      refine g_iload_n 2 (gd rfl) rfl rfl ?_
      refine g_if_ne 5 9 (gd rfl) rfl rfl (fun c43x3x2 => ?_) (fun c43x3x2 => ?_)
      · skip
        exact zn_ne c43x3x2 (in_c 0 rfl) rfl
      · skip
        refine g_iconst 1 6 (gd rfl) rfl rfl ?_
        refine g_goto 18 (gd rfl) rfl ?_
        refine g_putI 21 (gd rfl) rfl rfl rfl rfl ?_
        have hI43x3x18 := inv_sF (q := 109) (j := 0) hI rfl (in_w 0 2 (in_c 1 rfl) rfl)
        refine g_aload_n 22 (gd rfl) rfl rfl ?_
        refine g_getI 25 (gd rfl) rfl rfl rfl (fun z43x3x22 e43x3x22 => ?_)
        have q43x3x22 : (Int32.ofInt 1) = z43x3x22 := (sF_get).trans e43x3x22.symm
        subst q43x3x22
        refine g_if_le 28 32 (gd rfl) rfl rfl (fun c43x3x25 => ?_) (fun c43x3x25 => ?_)
        · skip
          exact zn_le c43x3x25 (in_c 1 rfl) rfl
        · skip
          refine g_iconst 1 29 (gd rfl) rfl rfl ?_
          refine g_goto 33 (gd rfl) rfl ?_
          refine g_ireturn (gd rfl) rfl (nb01 (in_w 0 1 (in_c 1 rfl) rfl)) (hp43x3 _ _ ?_)
          show GG _ _ _ _ _ _ _ _ [.int (Int32.ofInt 1)] _ _ _
          refine g_ireturn (gd rfl) rfl (nb01 (in_w 0 1 (in_c 1 rfl) rfl)) (hp43 _ _ ?_)
          show GG _ _ _ _ _ _ _ _ [.int (Int32.ofInt 1)] _ _ _
          refine g_if_eq 49 51 (gd rfl) rfl rfl (fun c46 => ?_) (fun c46 => ?_)
          · skip
            exact zn_eq c46 (in_c 1 rfl) rfl
          · skip
            refine g_iconst 0 50 (gd rfl) rfl rfl ?_
            exact g_ireturn (gd rfl) rfl rfl (hP _ _ ⟨(sF s 109 0 (Int32.ofInt 1)), hI43x3x18, (fr_sF rfl fr_rf), (Int32.ofInt 0), rfl, rfl, in_w (-2147483648) 2147483647 (in_c 0 rfl) rfl⟩)
    · skip
      exact zn_ne c6 (in_c 0 rfl) rfl
  · skip
    have i3x1 := z_ge 0 2147483647 c3x1 (i_rng x1) rfl
    refine g_iload_n 5 (gd rfl) rfl rfl ?_
    refine g_aload_n 6 (gd rfl) rfl rfl ?_
    refine g_getI 9 (gd rfl) rfl rfl rfl (fun z3x6 e3x6 => ?_)
    have q3x6 : u_109_20 = z3x6 := (e_109_20).trans e3x6.symm
    subst q3x6
    refine g_cmp_ge 12 16 (gd rfl) rfl rfl (fun c3x9 => ?_) (fun c3x9 => ?_)
    · skip
      refine g_iconst 0 17 (gd rfl) rfl rfl ?_
      refine g_ireturn (gd rfl) rfl (nb01 (in_w 0 1 (in_c 0 rfl) rfl)) (hp3 _ _ ?_)
      show GG _ _ _ _ _ _ _ _ [.int (Int32.ofInt 0), .ref (A 109)] _ _ _
      refine g_if_eq 9 42 (gd rfl) rfl rfl (fun c6 => ?_) (fun c6 => ?_)
      · skip
        refine g_iconst 0 43 (gd rfl) rfl rfl ?_
        refine g_callv (X := _) (As := [.int (Int32.ofInt 0)]) (r := []) (b := A 109) (q := 109) 46 (gd rfl) rfl rfl rfl rfl rfl (ww_o rfl) (Nat.le_of_ble_eq_true rfl) (mc := 0) (ms := 0) (Nat.zero_le _) (Nat.zero_le _) (P := fun v u => _) ?_ (fun e u h => h) (fun v u h => h)
        intro po43 xx43 hp43 hx43
        refine g_enter2 (k := 271) (N := 300) (by first | exact dq1 hd rfl | exact dq0 hd rfl | exact dq2 hd rfl | exact dq3 hd rfl | omega) rfl (Nat.le_of_ble_eq_true rfl) ?_
        refine g_aload_n 1 (gd rfl) rfl rfl ?_
        refine g_iload_n 2 (gd rfl) rfl rfl ?_
        refine g_iconst 1 3 (gd rfl) rfl rfl ?_
        refine g_callv (X := _) (As := [.int (Int32.ofInt 0), .int (Int32.ofInt 1)]) (r := []) (b := A 109) (q := 109) 6 (gd rfl) rfl rfl rfl rfl rfl (ww_o rfl) (Nat.le_of_ble_eq_true rfl) (mc := 0) (ms := 0) (Nat.zero_le _) (Nat.zero_le _) (P := fun v u => _) ?_ (fun e u h => h) (fun v u h => h)
        intro po43x3 xx43x3 hp43x3 hx43x3
        refine g_enter2 (k := 270) (N := 300) (by first | exact dq1 hd rfl | exact dq0 hd rfl | exact dq2 hd rfl | exact dq3 hd rfl | omega) rfl (Nat.le_of_ble_eq_true rfl) ?_
        refine g_aload_n 1 (gd rfl) rfl rfl ?_
        refine g_iload_n 2 (gd rfl) rfl rfl ?_
        refine g_if_ne 5 9 (gd rfl) rfl rfl (fun c43x3x2 => ?_) (fun c43x3x2 => ?_)
        · skip
          exact zn_ne c43x3x2 (in_c 0 rfl) rfl
        · skip
          refine g_iconst 1 6 (gd rfl) rfl rfl ?_
          refine g_goto 18 (gd rfl) rfl ?_
          refine g_putI 21 (gd rfl) rfl rfl rfl rfl ?_
          have hI43x3x18 := inv_sF (q := 109) (j := 0) hI rfl (in_w 0 2 (in_c 1 rfl) rfl)
          refine g_aload_n 22 (gd rfl) rfl rfl ?_
          refine g_getI 25 (gd rfl) rfl rfl rfl (fun z43x3x22 e43x3x22 => ?_)
          have q43x3x22 : (Int32.ofInt 1) = z43x3x22 := (sF_get).trans e43x3x22.symm
          subst q43x3x22
          refine g_if_le 28 32 (gd rfl) rfl rfl (fun c43x3x25 => ?_) (fun c43x3x25 => ?_)
          · skip
            exact zn_le c43x3x25 (in_c 1 rfl) rfl
          · skip
            refine g_iconst 1 29 (gd rfl) rfl rfl ?_
            refine g_goto 33 (gd rfl) rfl ?_
            refine g_ireturn (gd rfl) rfl (nb01 (in_w 0 1 (in_c 1 rfl) rfl)) (hp43x3 _ _ ?_)
            show GG _ _ _ _ _ _ _ _ [.int (Int32.ofInt 1)] _ _ _
            refine g_ireturn (gd rfl) rfl (nb01 (in_w 0 1 (in_c 1 rfl) rfl)) (hp43 _ _ ?_)
            show GG _ _ _ _ _ _ _ _ [.int (Int32.ofInt 1)] _ _ _
            refine g_if_eq 49 51 (gd rfl) rfl rfl (fun c46 => ?_) (fun c46 => ?_)
            · skip
              exact zn_eq c46 (in_c 1 rfl) rfl
            · skip
              refine g_iconst 0 50 (gd rfl) rfl rfl ?_
              exact g_ireturn (gd rfl) rfl rfl (hP _ _ ⟨(sF s 109 0 (Int32.ofInt 1)), hI43x3x18, (fr_sF rfl fr_rf), (Int32.ofInt 0), rfl, rfl, in_w (-2147483648) 2147483647 (in_c 0 rfl) rfl⟩)
      · skip
        exact zn_ne c6 (in_c 0 rfl) rfl
    · skip
      have i3x9 := r_lt1 0 31 c3x9 i3x1 ro_109_20 rfl
      have i3x9a := r_lt2 1 32 c3x9 i3x1 ro_109_20 rfl
      refine g_iconst 1 13 (gd rfl) rfl rfl ?_
      refine g_goto 17 (gd rfl) rfl ?_
      refine g_ireturn (gd rfl) rfl (nb01 (in_w 0 1 (in_c 1 rfl) rfl)) (hp3 _ _ ?_)
      show GG _ _ _ _ _ _ _ _ [.int (Int32.ofInt 1), .ref (A 109)] _ _ _
      refine g_if_eq 9 42 (gd rfl) rfl rfl (fun c6 => ?_) (fun c6 => ?_)
      · skip
        exact zn_eq c6 (in_c 1 rfl) rfl
      · skip
        refine g_aload_n 10 (gd rfl) rfl rfl ?_
        refine g_iload_n 11 (gd rfl) rfl rfl ?_
        refine g_callv (X := _) (As := [.int x2]) (r := [.ref (A 109)]) (b := A 109) (q := 109) 14 (gd rfl) rfl rfl rfl rfl rfl (ww_o rfl) (Nat.le_of_ble_eq_true rfl) (mc := 0) (ms := 0) (Nat.zero_le _) (Nat.zero_le _) (P := fun v u => _) ?_ (fun e u h => h) (fun v u h => h)
        intro po11 xx11 hp11 hx11
        refine g_enter2 (k := 272) (N := 300) (by first | exact dq1 hd rfl | exact dq0 hd rfl | exact dq2 hd rfl | exact dq3 hd rfl | omega) rfl (Nat.le_of_ble_eq_true rfl) ?_
        refine g_iload_n 1 (gd rfl) rfl rfl ?_
        refine g_if_lt 4 16 (gd rfl) rfl rfl (fun c11x1 => ?_) (fun c11x1 => ?_)
        · skip
          have i11x1 := z_lt (-2147483648) (-1) c11x1 (i_rng x2) rfl
          refine g_iconst 0 17 (gd rfl) rfl rfl ?_
          refine g_ireturn (gd rfl) rfl (nb01 (in_w 0 1 (in_c 0 rfl) rfl)) (hp11 _ _ ?_)
          show GG _ _ _ _ _ _ _ _ [.int (Int32.ofInt 0), .ref (A 109)] _ _ _
          refine g_if_eq 17 42 (gd rfl) rfl rfl (fun c14 => ?_) (fun c14 => ?_)
          · skip
            refine g_iconst 0 43 (gd rfl) rfl rfl ?_
            refine g_callv (X := _) (As := [.int (Int32.ofInt 0)]) (r := []) (b := A 109) (q := 109) 46 (gd rfl) rfl rfl rfl rfl rfl (ww_o rfl) (Nat.le_of_ble_eq_true rfl) (mc := 0) (ms := 0) (Nat.zero_le _) (Nat.zero_le _) (P := fun v u => _) ?_ (fun e u h => h) (fun v u h => h)
            intro po43 xx43 hp43 hx43
            refine g_enter2 (k := 271) (N := 300) (by first | exact dq1 hd rfl | exact dq0 hd rfl | exact dq2 hd rfl | exact dq3 hd rfl | omega) rfl (Nat.le_of_ble_eq_true rfl) ?_
            refine g_aload_n 1 (gd rfl) rfl rfl ?_
            refine g_iload_n 2 (gd rfl) rfl rfl ?_
            refine g_iconst 1 3 (gd rfl) rfl rfl ?_
            refine g_callv (X := _) (As := [.int (Int32.ofInt 0), .int (Int32.ofInt 1)]) (r := []) (b := A 109) (q := 109) 6 (gd rfl) rfl rfl rfl rfl rfl (ww_o rfl) (Nat.le_of_ble_eq_true rfl) (mc := 0) (ms := 0) (Nat.zero_le _) (Nat.zero_le _) (P := fun v u => _) ?_ (fun e u h => h) (fun v u h => h)
            intro po43x3 xx43x3 hp43x3 hx43x3
            refine g_enter2 (k := 270) (N := 300) (by first | exact dq1 hd rfl | exact dq0 hd rfl | exact dq2 hd rfl | exact dq3 hd rfl | omega) rfl (Nat.le_of_ble_eq_true rfl) ?_
            refine g_aload_n 1 (gd rfl) rfl rfl ?_
            refine g_iload_n 2 (gd rfl) rfl rfl ?_
            refine g_if_ne 5 9 (gd rfl) rfl rfl (fun c43x3x2 => ?_) (fun c43x3x2 => ?_)
            · skip
              exact zn_ne c43x3x2 (in_c 0 rfl) rfl
            · skip
              refine g_iconst 1 6 (gd rfl) rfl rfl ?_
              refine g_goto 18 (gd rfl) rfl ?_
              refine g_putI 21 (gd rfl) rfl rfl rfl rfl ?_
              have hI43x3x18 := inv_sF (q := 109) (j := 0) hI rfl (in_w 0 2 (in_c 1 rfl) rfl)
              refine g_aload_n 22 (gd rfl) rfl rfl ?_
              refine g_getI 25 (gd rfl) rfl rfl rfl (fun z43x3x22 e43x3x22 => ?_)
              have q43x3x22 : (Int32.ofInt 1) = z43x3x22 := (sF_get).trans e43x3x22.symm
              subst q43x3x22
              refine g_if_le 28 32 (gd rfl) rfl rfl (fun c43x3x25 => ?_) (fun c43x3x25 => ?_)
              · skip
                exact zn_le c43x3x25 (in_c 1 rfl) rfl
              · skip
                refine g_iconst 1 29 (gd rfl) rfl rfl ?_
                refine g_goto 33 (gd rfl) rfl ?_
                refine g_ireturn (gd rfl) rfl (nb01 (in_w 0 1 (in_c 1 rfl) rfl)) (hp43x3 _ _ ?_)
                show GG _ _ _ _ _ _ _ _ [.int (Int32.ofInt 1)] _ _ _
                refine g_ireturn (gd rfl) rfl (nb01 (in_w 0 1 (in_c 1 rfl) rfl)) (hp43 _ _ ?_)
                show GG _ _ _ _ _ _ _ _ [.int (Int32.ofInt 1)] _ _ _
                refine g_if_eq 49 51 (gd rfl) rfl rfl (fun c46 => ?_) (fun c46 => ?_)
                · skip
                  exact zn_eq c46 (in_c 1 rfl) rfl
                · skip
                  refine g_iconst 0 50 (gd rfl) rfl rfl ?_
                  exact g_ireturn (gd rfl) rfl rfl (hP _ _ ⟨(sF s 109 0 (Int32.ofInt 1)), hI43x3x18, (fr_sF rfl fr_rf), (Int32.ofInt 0), rfl, rfl, in_w (-2147483648) 2147483647 (in_c 0 rfl) rfl⟩)
          · skip
            exact zn_ne c14 (in_c 0 rfl) rfl
        · skip
          have i11x1 := z_ge 0 2147483647 c11x1 (i_rng x2) rfl
          refine g_iload_n 5 (gd rfl) rfl rfl ?_
          refine g_aload_n 6 (gd rfl) rfl rfl ?_
          refine g_getI 9 (gd rfl) rfl rfl rfl (fun z11x6 e11x6 => ?_)
          have q11x6 : u_109_20 = z11x6 := (e_109_20).trans e11x6.symm
          subst q11x6
          refine g_cmp_ge 12 16 (gd rfl) rfl rfl (fun c11x9 => ?_) (fun c11x9 => ?_)
          · skip
            have i11x9 := r_le2 1 2147483647 c11x9 i3x9a i11x1 rfl
            refine g_iconst 0 17 (gd rfl) rfl rfl ?_
            refine g_ireturn (gd rfl) rfl (nb01 (in_w 0 1 (in_c 0 rfl) rfl)) (hp11 _ _ ?_)
            show GG _ _ _ _ _ _ _ _ [.int (Int32.ofInt 0), .ref (A 109)] _ _ _
            refine g_if_eq 17 42 (gd rfl) rfl rfl (fun c14 => ?_) (fun c14 => ?_)
            · skip
              refine g_iconst 0 43 (gd rfl) rfl rfl ?_
              refine g_callv (X := _) (As := [.int (Int32.ofInt 0)]) (r := []) (b := A 109) (q := 109) 46 (gd rfl) rfl rfl rfl rfl rfl (ww_o rfl) (Nat.le_of_ble_eq_true rfl) (mc := 0) (ms := 0) (Nat.zero_le _) (Nat.zero_le _) (P := fun v u => _) ?_ (fun e u h => h) (fun v u h => h)
              intro po43 xx43 hp43 hx43
              refine g_enter2 (k := 271) (N := 300) (by first | exact dq1 hd rfl | exact dq0 hd rfl | exact dq2 hd rfl | exact dq3 hd rfl | omega) rfl (Nat.le_of_ble_eq_true rfl) ?_
              refine g_aload_n 1 (gd rfl) rfl rfl ?_
              refine g_iload_n 2 (gd rfl) rfl rfl ?_
              refine g_iconst 1 3 (gd rfl) rfl rfl ?_
              refine g_callv (X := _) (As := [.int (Int32.ofInt 0), .int (Int32.ofInt 1)]) (r := []) (b := A 109) (q := 109) 6 (gd rfl) rfl rfl rfl rfl rfl (ww_o rfl) (Nat.le_of_ble_eq_true rfl) (mc := 0) (ms := 0) (Nat.zero_le _) (Nat.zero_le _) (P := fun v u => _) ?_ (fun e u h => h) (fun v u h => h)
              intro po43x3 xx43x3 hp43x3 hx43x3
              refine g_enter2 (k := 270) (N := 300) (by first | exact dq1 hd rfl | exact dq0 hd rfl | exact dq2 hd rfl | exact dq3 hd rfl | omega) rfl (Nat.le_of_ble_eq_true rfl) ?_
              refine g_aload_n 1 (gd rfl) rfl rfl ?_
              refine g_iload_n 2 (gd rfl) rfl rfl ?_
              refine g_if_ne 5 9 (gd rfl) rfl rfl (fun c43x3x2 => ?_) (fun c43x3x2 => ?_)
              · skip
                exact zn_ne c43x3x2 (in_c 0 rfl) rfl
              · skip
                refine g_iconst 1 6 (gd rfl) rfl rfl ?_
                refine g_goto 18 (gd rfl) rfl ?_
                refine g_putI 21 (gd rfl) rfl rfl rfl rfl ?_
                have hI43x3x18 := inv_sF (q := 109) (j := 0) hI rfl (in_w 0 2 (in_c 1 rfl) rfl)
                refine g_aload_n 22 (gd rfl) rfl rfl ?_
                refine g_getI 25 (gd rfl) rfl rfl rfl (fun z43x3x22 e43x3x22 => ?_)
                have q43x3x22 : (Int32.ofInt 1) = z43x3x22 := (sF_get).trans e43x3x22.symm
                subst q43x3x22
                refine g_if_le 28 32 (gd rfl) rfl rfl (fun c43x3x25 => ?_) (fun c43x3x25 => ?_)
                · skip
                  exact zn_le c43x3x25 (in_c 1 rfl) rfl
                · skip
                  refine g_iconst 1 29 (gd rfl) rfl rfl ?_
                  refine g_goto 33 (gd rfl) rfl ?_
                  refine g_ireturn (gd rfl) rfl (nb01 (in_w 0 1 (in_c 1 rfl) rfl)) (hp43x3 _ _ ?_)
                  show GG _ _ _ _ _ _ _ _ [.int (Int32.ofInt 1)] _ _ _
                  refine g_ireturn (gd rfl) rfl (nb01 (in_w 0 1 (in_c 1 rfl) rfl)) (hp43 _ _ ?_)
                  show GG _ _ _ _ _ _ _ _ [.int (Int32.ofInt 1)] _ _ _
                  refine g_if_eq 49 51 (gd rfl) rfl rfl (fun c46 => ?_) (fun c46 => ?_)
                  · skip
                    exact zn_eq c46 (in_c 1 rfl) rfl
                  · skip
                    refine g_iconst 0 50 (gd rfl) rfl rfl ?_
                    exact g_ireturn (gd rfl) rfl rfl (hP _ _ ⟨(sF s 109 0 (Int32.ofInt 1)), hI43x3x18, (fr_sF rfl fr_rf), (Int32.ofInt 0), rfl, rfl, in_w (-2147483648) 2147483647 (in_c 0 rfl) rfl⟩)
            · skip
              exact zn_ne c14 (in_c 0 rfl) rfl
          · skip
            have i11x9 := r_lt1 0 31 c11x9 i11x1 i3x9a rfl
            refine g_iconst 1 13 (gd rfl) rfl rfl ?_
            refine g_goto 17 (gd rfl) rfl ?_
            refine g_ireturn (gd rfl) rfl (nb01 (in_w 0 1 (in_c 1 rfl) rfl)) (hp11 _ _ ?_)
            show GG _ _ _ _ _ _ _ _ [.int (Int32.ofInt 1), .ref (A 109)] _ _ _
            refine g_if_eq 17 42 (gd rfl) rfl rfl (fun c14 => ?_) (fun c14 => ?_)
            · skip
              exact zn_eq c14 (in_c 1 rfl) rfl
            · skip
              refine g_iload_n 18 (gd rfl) rfl rfl ?_
              refine g_i2l 19 (gd rfl) rfl (fun z18 e18 => ?_)
              have i18 := l_i e18 (i_rng x3)
              refine g_lconst 0 20 (gd rfl) rfl rfl ?_
              refine g_ldc2_w 2 23 (gd rfl) rfl rfl ?_
              refine g_calls (As := [.long z18, .long (Int64.ofInt 0), .long (Int64.ofInt 2)]) (r := [.ref (A 109)]) 26 (gd rfl) rfl rfl rfl rfl rfl (Nat.le_of_ble_eq_true rfl) (mc := 0) (ms := 0) (Nat.zero_le _) (Nat.zero_le _) (P := fun v u => _) ?_ (fun v u h => h)
              intro po23 xx23 hp23 hx23
              refine g_enter2 (k := 269) (N := 300) (by first | exact dq1 hd rfl | exact dq0 hd rfl | exact dq2 hd rfl | exact dq3 hd rfl | omega) rfl (Nat.le_of_ble_eq_true rfl) ?_
              refine g_lload_n 1 (gd rfl) rfl rfl ?_
              refine g_lload_n 2 (gd rfl) rfl rfl ?_
              refine g_lcmp 3 (gd rfl) rfl (fun z23x2 e23x2 => ?_)
              have i23x2 := lc_in e23x2
              refine g_if_lt 6 17 (gd rfl) rfl rfl (fun c23x3 => ?_) (fun c23x3 => ?_)
              · skip
                have i23x3 := z_lt (-1) (-1) c23x3 i23x2 rfl
                have c23x3a := lc_lt e23x2 c23x3
                have i23x3a := lr_lt1 (-2147483648) (-1) c23x3a i18 (l_c 0 rfl) rfl
                have i23x3b := l_b e18 i23x3a
                refine g_iconst 0 18 (gd rfl) rfl rfl ?_
                refine g_ireturn (gd rfl) rfl (nb01 (in_w 0 1 (in_c 0 rfl) rfl)) (hp23 _ _ ?_)
                show GG _ _ _ _ _ _ _ _ [.int (Int32.ofInt 0), .ref (A 109)] _ _ _
                refine g_if_eq 29 42 (gd rfl) rfl rfl (fun c26 => ?_) (fun c26 => ?_)
                · skip
                  refine g_iconst 0 43 (gd rfl) rfl rfl ?_
                  refine g_callv (X := _) (As := [.int (Int32.ofInt 0)]) (r := []) (b := A 109) (q := 109) 46 (gd rfl) rfl rfl rfl rfl rfl (ww_o rfl) (Nat.le_of_ble_eq_true rfl) (mc := 0) (ms := 0) (Nat.zero_le _) (Nat.zero_le _) (P := fun v u => _) ?_ (fun e u h => h) (fun v u h => h)
                  intro po43 xx43 hp43 hx43
                  refine g_enter2 (k := 271) (N := 300) (by first | exact dq1 hd rfl | exact dq0 hd rfl | exact dq2 hd rfl | exact dq3 hd rfl | omega) rfl (Nat.le_of_ble_eq_true rfl) ?_
                  refine g_aload_n 1 (gd rfl) rfl rfl ?_
                  refine g_iload_n 2 (gd rfl) rfl rfl ?_
                  refine g_iconst 1 3 (gd rfl) rfl rfl ?_
                  refine g_callv (X := _) (As := [.int (Int32.ofInt 0), .int (Int32.ofInt 1)]) (r := []) (b := A 109) (q := 109) 6 (gd rfl) rfl rfl rfl rfl rfl (ww_o rfl) (Nat.le_of_ble_eq_true rfl) (mc := 0) (ms := 0) (Nat.zero_le _) (Nat.zero_le _) (P := fun v u => _) ?_ (fun e u h => h) (fun v u h => h)
                  intro po43x3 xx43x3 hp43x3 hx43x3
                  refine g_enter2 (k := 270) (N := 300) (by first | exact dq1 hd rfl | exact dq0 hd rfl | exact dq2 hd rfl | exact dq3 hd rfl | omega) rfl (Nat.le_of_ble_eq_true rfl) ?_
                  refine g_aload_n 1 (gd rfl) rfl rfl ?_
                  refine g_iload_n 2 (gd rfl) rfl rfl ?_
                  refine g_if_ne 5 9 (gd rfl) rfl rfl (fun c43x3x2 => ?_) (fun c43x3x2 => ?_)
                  · skip
                    exact zn_ne c43x3x2 (in_c 0 rfl) rfl
                  · skip
                    refine g_iconst 1 6 (gd rfl) rfl rfl ?_
                    refine g_goto 18 (gd rfl) rfl ?_
                    refine g_putI 21 (gd rfl) rfl rfl rfl rfl ?_
                    have hI43x3x18 := inv_sF (q := 109) (j := 0) hI rfl (in_w 0 2 (in_c 1 rfl) rfl)
                    refine g_aload_n 22 (gd rfl) rfl rfl ?_
                    refine g_getI 25 (gd rfl) rfl rfl rfl (fun z43x3x22 e43x3x22 => ?_)
                    have q43x3x22 : (Int32.ofInt 1) = z43x3x22 := (sF_get).trans e43x3x22.symm
                    subst q43x3x22
                    refine g_if_le 28 32 (gd rfl) rfl rfl (fun c43x3x25 => ?_) (fun c43x3x25 => ?_)
                    · skip
                      exact zn_le c43x3x25 (in_c 1 rfl) rfl
                    · skip
                      refine g_iconst 1 29 (gd rfl) rfl rfl ?_
                      refine g_goto 33 (gd rfl) rfl ?_
                      refine g_ireturn (gd rfl) rfl (nb01 (in_w 0 1 (in_c 1 rfl) rfl)) (hp43x3 _ _ ?_)
                      show GG _ _ _ _ _ _ _ _ [.int (Int32.ofInt 1)] _ _ _
                      refine g_ireturn (gd rfl) rfl (nb01 (in_w 0 1 (in_c 1 rfl) rfl)) (hp43 _ _ ?_)
                      show GG _ _ _ _ _ _ _ _ [.int (Int32.ofInt 1)] _ _ _
                      refine g_if_eq 49 51 (gd rfl) rfl rfl (fun c46 => ?_) (fun c46 => ?_)
                      · skip
                        exact zn_eq c46 (in_c 1 rfl) rfl
                      · skip
                        refine g_iconst 0 50 (gd rfl) rfl rfl ?_
                        exact g_ireturn (gd rfl) rfl rfl (hP _ _ ⟨(sF s 109 0 (Int32.ofInt 1)), hI43x3x18, (fr_sF rfl fr_rf), (Int32.ofInt 0), rfl, rfl, in_w (-2147483648) 2147483647 (in_c 0 rfl) rfl⟩)
                · skip
                  exact zn_ne c26 (in_c 0 rfl) rfl
              · skip
                have i23x3 := z_ge 0 1 c23x3 i23x2 rfl
                have c23x3a := lc_ge e23x2 c23x3
                have i23x3a := lr_le2 0 2147483647 c23x3a (l_c 0 rfl) i18 rfl
                have i23x3b := l_b e18 i23x3a
                refine g_lload_n 7 (gd rfl) rfl rfl ?_
                refine g_lload 9 (gd rfl) rfl rfl ?_
                refine g_lcmp 10 (gd rfl) rfl (fun z23x9 e23x9 => ?_)
                have i23x9 := lc_in e23x9
                refine g_if_gt 13 17 (gd rfl) rfl rfl (fun c23x10 => ?_) (fun c23x10 => ?_)
                · skip
                  have i23x10 := z_gt 1 1 c23x10 i23x9 rfl
                  have c23x10a := lc_gt e23x9 c23x10
                  have i23x10a := lr_lt2 3 2147483647 c23x10a (l_c 2 rfl) i23x3a rfl
                  have i23x10b := l_b e18 i23x10a
                  refine g_iconst 0 18 (gd rfl) rfl rfl ?_
                  refine g_ireturn (gd rfl) rfl (nb01 (in_w 0 1 (in_c 0 rfl) rfl)) (hp23 _ _ ?_)
                  show GG _ _ _ _ _ _ _ _ [.int (Int32.ofInt 0), .ref (A 109)] _ _ _
                  refine g_if_eq 29 42 (gd rfl) rfl rfl (fun c26 => ?_) (fun c26 => ?_)
                  · skip
                    refine g_iconst 0 43 (gd rfl) rfl rfl ?_
                    refine g_callv (X := _) (As := [.int (Int32.ofInt 0)]) (r := []) (b := A 109) (q := 109) 46 (gd rfl) rfl rfl rfl rfl rfl (ww_o rfl) (Nat.le_of_ble_eq_true rfl) (mc := 0) (ms := 0) (Nat.zero_le _) (Nat.zero_le _) (P := fun v u => _) ?_ (fun e u h => h) (fun v u h => h)
                    intro po43 xx43 hp43 hx43
                    refine g_enter2 (k := 271) (N := 300) (by first | exact dq1 hd rfl | exact dq0 hd rfl | exact dq2 hd rfl | exact dq3 hd rfl | omega) rfl (Nat.le_of_ble_eq_true rfl) ?_
                    refine g_aload_n 1 (gd rfl) rfl rfl ?_
                    refine g_iload_n 2 (gd rfl) rfl rfl ?_
                    refine g_iconst 1 3 (gd rfl) rfl rfl ?_
                    refine g_callv (X := _) (As := [.int (Int32.ofInt 0), .int (Int32.ofInt 1)]) (r := []) (b := A 109) (q := 109) 6 (gd rfl) rfl rfl rfl rfl rfl (ww_o rfl) (Nat.le_of_ble_eq_true rfl) (mc := 0) (ms := 0) (Nat.zero_le _) (Nat.zero_le _) (P := fun v u => _) ?_ (fun e u h => h) (fun v u h => h)
                    intro po43x3 xx43x3 hp43x3 hx43x3
                    refine g_enter2 (k := 270) (N := 300) (by first | exact dq1 hd rfl | exact dq0 hd rfl | exact dq2 hd rfl | exact dq3 hd rfl | omega) rfl (Nat.le_of_ble_eq_true rfl) ?_
                    refine g_aload_n 1 (gd rfl) rfl rfl ?_
                    refine g_iload_n 2 (gd rfl) rfl rfl ?_
                    refine g_if_ne 5 9 (gd rfl) rfl rfl (fun c43x3x2 => ?_) (fun c43x3x2 => ?_)
                    · skip
                      exact zn_ne c43x3x2 (in_c 0 rfl) rfl
                    · skip
                      refine g_iconst 1 6 (gd rfl) rfl rfl ?_
                      refine g_goto 18 (gd rfl) rfl ?_
                      refine g_putI 21 (gd rfl) rfl rfl rfl rfl ?_
                      have hI43x3x18 := inv_sF (q := 109) (j := 0) hI rfl (in_w 0 2 (in_c 1 rfl) rfl)
                      refine g_aload_n 22 (gd rfl) rfl rfl ?_
                      refine g_getI 25 (gd rfl) rfl rfl rfl (fun z43x3x22 e43x3x22 => ?_)
                      have q43x3x22 : (Int32.ofInt 1) = z43x3x22 := (sF_get).trans e43x3x22.symm
                      subst q43x3x22
                      refine g_if_le 28 32 (gd rfl) rfl rfl (fun c43x3x25 => ?_) (fun c43x3x25 => ?_)
                      · skip
                        exact zn_le c43x3x25 (in_c 1 rfl) rfl
                      · skip
                        refine g_iconst 1 29 (gd rfl) rfl rfl ?_
                        refine g_goto 33 (gd rfl) rfl ?_
                        refine g_ireturn (gd rfl) rfl (nb01 (in_w 0 1 (in_c 1 rfl) rfl)) (hp43x3 _ _ ?_)
                        show GG _ _ _ _ _ _ _ _ [.int (Int32.ofInt 1)] _ _ _
                        refine g_ireturn (gd rfl) rfl (nb01 (in_w 0 1 (in_c 1 rfl) rfl)) (hp43 _ _ ?_)
                        show GG _ _ _ _ _ _ _ _ [.int (Int32.ofInt 1)] _ _ _
                        refine g_if_eq 49 51 (gd rfl) rfl rfl (fun c46 => ?_) (fun c46 => ?_)
                        · skip
                          exact zn_eq c46 (in_c 1 rfl) rfl
                        · skip
                          refine g_iconst 0 50 (gd rfl) rfl rfl ?_
                          exact g_ireturn (gd rfl) rfl rfl (hP _ _ ⟨(sF s 109 0 (Int32.ofInt 1)), hI43x3x18, (fr_sF rfl fr_rf), (Int32.ofInt 0), rfl, rfl, in_w (-2147483648) 2147483647 (in_c 0 rfl) rfl⟩)
                  · skip
                    exact zn_ne c26 (in_c 0 rfl) rfl
                · skip
                  have i23x10 := z_le (-1) 0 c23x10 i23x9 rfl
                  have c23x10a := lc_le e23x9 c23x10
                  have i23x10a := lr_le1 0 2 c23x10a i23x3a (l_c 2 rfl) rfl
                  have i23x10b := l_b e18 i23x10a
                  refine g_iconst 1 14 (gd rfl) rfl rfl ?_
                  refine g_goto 18 (gd rfl) rfl ?_
                  refine g_ireturn (gd rfl) rfl (nb01 (in_w 0 1 (in_c 1 rfl) rfl)) (hp23 _ _ ?_)
                  show GG _ _ _ _ _ _ _ _ [.int (Int32.ofInt 1), .ref (A 109)] _ _ _
                  refine g_if_eq 29 42 (gd rfl) rfl rfl (fun c26 => ?_) (fun c26 => ?_)
                  · skip
                    exact zn_eq c26 (in_c 1 rfl) rfl
                  · skip
                    refine g_aload_n 30 (gd rfl) rfl rfl ?_
                    refine g_iload 32 (gd rfl) rfl rfl ?_
                    refine g_callv (X := _) (As := [.int x4]) (r := [.ref (A 109)]) (b := A 109) (q := 109) 35 (gd rfl) rfl rfl rfl rfl rfl (ww_o rfl) (Nat.le_of_ble_eq_true rfl) (mc := 0) (ms := 0) (Nat.zero_le _) (Nat.zero_le _) (P := fun v u => _) ?_ (fun e u h => h) (fun v u h => h)
                    intro po32 xx32 hp32 hx32
                    refine g_enter2 (k := 272) (N := 300) (by first | exact dq1 hd rfl | exact dq0 hd rfl | exact dq2 hd rfl | exact dq3 hd rfl | omega) rfl (Nat.le_of_ble_eq_true rfl) ?_
                    refine g_iload_n 1 (gd rfl) rfl rfl ?_
                    refine g_if_lt 4 16 (gd rfl) rfl rfl (fun c32x1 => ?_) (fun c32x1 => ?_)
                    · skip
                      have i32x1 := z_lt (-2147483648) (-1) c32x1 (i_rng x4) rfl
                      refine g_iconst 0 17 (gd rfl) rfl rfl ?_
                      refine g_ireturn (gd rfl) rfl (nb01 (in_w 0 1 (in_c 0 rfl) rfl)) (hp32 _ _ ?_)
                      show GG _ _ _ _ _ _ _ _ [.int (Int32.ofInt 0), .ref (A 109)] _ _ _
                      refine g_if_eq 38 42 (gd rfl) rfl rfl (fun c35 => ?_) (fun c35 => ?_)
                      · skip
                        refine g_iconst 0 43 (gd rfl) rfl rfl ?_
                        refine g_callv (X := _) (As := [.int (Int32.ofInt 0)]) (r := []) (b := A 109) (q := 109) 46 (gd rfl) rfl rfl rfl rfl rfl (ww_o rfl) (Nat.le_of_ble_eq_true rfl) (mc := 0) (ms := 0) (Nat.zero_le _) (Nat.zero_le _) (P := fun v u => _) ?_ (fun e u h => h) (fun v u h => h)
                        intro po43 xx43 hp43 hx43
                        refine g_enter2 (k := 271) (N := 300) (by first | exact dq1 hd rfl | exact dq0 hd rfl | exact dq2 hd rfl | exact dq3 hd rfl | omega) rfl (Nat.le_of_ble_eq_true rfl) ?_
                        refine g_aload_n 1 (gd rfl) rfl rfl ?_
                        refine g_iload_n 2 (gd rfl) rfl rfl ?_
                        refine g_iconst 1 3 (gd rfl) rfl rfl ?_
                        refine g_callv (X := _) (As := [.int (Int32.ofInt 0), .int (Int32.ofInt 1)]) (r := []) (b := A 109) (q := 109) 6 (gd rfl) rfl rfl rfl rfl rfl (ww_o rfl) (Nat.le_of_ble_eq_true rfl) (mc := 0) (ms := 0) (Nat.zero_le _) (Nat.zero_le _) (P := fun v u => _) ?_ (fun e u h => h) (fun v u h => h)
                        intro po43x3 xx43x3 hp43x3 hx43x3
                        refine g_enter2 (k := 270) (N := 300) (by first | exact dq1 hd rfl | exact dq0 hd rfl | exact dq2 hd rfl | exact dq3 hd rfl | omega) rfl (Nat.le_of_ble_eq_true rfl) ?_
                        refine g_aload_n 1 (gd rfl) rfl rfl ?_
                        refine g_iload_n 2 (gd rfl) rfl rfl ?_
                        refine g_if_ne 5 9 (gd rfl) rfl rfl (fun c43x3x2 => ?_) (fun c43x3x2 => ?_)
                        · skip
                          exact zn_ne c43x3x2 (in_c 0 rfl) rfl
                        · skip
                          refine g_iconst 1 6 (gd rfl) rfl rfl ?_
                          refine g_goto 18 (gd rfl) rfl ?_
                          refine g_putI 21 (gd rfl) rfl rfl rfl rfl ?_
                          have hI43x3x18 := inv_sF (q := 109) (j := 0) hI rfl (in_w 0 2 (in_c 1 rfl) rfl)
                          refine g_aload_n 22 (gd rfl) rfl rfl ?_
                          refine g_getI 25 (gd rfl) rfl rfl rfl (fun z43x3x22 e43x3x22 => ?_)
                          have q43x3x22 : (Int32.ofInt 1) = z43x3x22 := (sF_get).trans e43x3x22.symm
                          subst q43x3x22
                          refine g_if_le 28 32 (gd rfl) rfl rfl (fun c43x3x25 => ?_) (fun c43x3x25 => ?_)
                          · skip
                            exact zn_le c43x3x25 (in_c 1 rfl) rfl
                          · skip
                            refine g_iconst 1 29 (gd rfl) rfl rfl ?_
                            refine g_goto 33 (gd rfl) rfl ?_
                            refine g_ireturn (gd rfl) rfl (nb01 (in_w 0 1 (in_c 1 rfl) rfl)) (hp43x3 _ _ ?_)
                            show GG _ _ _ _ _ _ _ _ [.int (Int32.ofInt 1)] _ _ _
                            refine g_ireturn (gd rfl) rfl (nb01 (in_w 0 1 (in_c 1 rfl) rfl)) (hp43 _ _ ?_)
                            show GG _ _ _ _ _ _ _ _ [.int (Int32.ofInt 1)] _ _ _
                            refine g_if_eq 49 51 (gd rfl) rfl rfl (fun c46 => ?_) (fun c46 => ?_)
                            · skip
                              exact zn_eq c46 (in_c 1 rfl) rfl
                            · skip
                              refine g_iconst 0 50 (gd rfl) rfl rfl ?_
                              exact g_ireturn (gd rfl) rfl rfl (hP _ _ ⟨(sF s 109 0 (Int32.ofInt 1)), hI43x3x18, (fr_sF rfl fr_rf), (Int32.ofInt 0), rfl, rfl, in_w (-2147483648) 2147483647 (in_c 0 rfl) rfl⟩)
                      · skip
                        exact zn_ne c35 (in_c 0 rfl) rfl
                    · skip
                      have i32x1 := z_ge 0 2147483647 c32x1 (i_rng x4) rfl
                      refine g_iload_n 5 (gd rfl) rfl rfl ?_
                      refine g_aload_n 6 (gd rfl) rfl rfl ?_
                      refine g_getI 9 (gd rfl) rfl rfl rfl (fun z32x6 e32x6 => ?_)
                      have q32x6 : u_109_20 = z32x6 := (e_109_20).trans e32x6.symm
                      subst q32x6
                      refine g_cmp_ge 12 16 (gd rfl) rfl rfl (fun c32x9 => ?_) (fun c32x9 => ?_)
                      · skip
                        have i32x9 := r_le2 1 2147483647 c32x9 i3x9a i32x1 rfl
                        refine g_iconst 0 17 (gd rfl) rfl rfl ?_
                        refine g_ireturn (gd rfl) rfl (nb01 (in_w 0 1 (in_c 0 rfl) rfl)) (hp32 _ _ ?_)
                        show GG _ _ _ _ _ _ _ _ [.int (Int32.ofInt 0), .ref (A 109)] _ _ _
                        refine g_if_eq 38 42 (gd rfl) rfl rfl (fun c35 => ?_) (fun c35 => ?_)
                        · skip
                          refine g_iconst 0 43 (gd rfl) rfl rfl ?_
                          refine g_callv (X := _) (As := [.int (Int32.ofInt 0)]) (r := []) (b := A 109) (q := 109) 46 (gd rfl) rfl rfl rfl rfl rfl (ww_o rfl) (Nat.le_of_ble_eq_true rfl) (mc := 0) (ms := 0) (Nat.zero_le _) (Nat.zero_le _) (P := fun v u => _) ?_ (fun e u h => h) (fun v u h => h)
                          intro po43 xx43 hp43 hx43
                          refine g_enter2 (k := 271) (N := 300) (by first | exact dq1 hd rfl | exact dq0 hd rfl | exact dq2 hd rfl | exact dq3 hd rfl | omega) rfl (Nat.le_of_ble_eq_true rfl) ?_
                          refine g_aload_n 1 (gd rfl) rfl rfl ?_
                          refine g_iload_n 2 (gd rfl) rfl rfl ?_
                          refine g_iconst 1 3 (gd rfl) rfl rfl ?_
                          refine g_callv (X := _) (As := [.int (Int32.ofInt 0), .int (Int32.ofInt 1)]) (r := []) (b := A 109) (q := 109) 6 (gd rfl) rfl rfl rfl rfl rfl (ww_o rfl) (Nat.le_of_ble_eq_true rfl) (mc := 0) (ms := 0) (Nat.zero_le _) (Nat.zero_le _) (P := fun v u => _) ?_ (fun e u h => h) (fun v u h => h)
                          intro po43x3 xx43x3 hp43x3 hx43x3
                          refine g_enter2 (k := 270) (N := 300) (by first | exact dq1 hd rfl | exact dq0 hd rfl | exact dq2 hd rfl | exact dq3 hd rfl | omega) rfl (Nat.le_of_ble_eq_true rfl) ?_
                          refine g_aload_n 1 (gd rfl) rfl rfl ?_
                          refine g_iload_n 2 (gd rfl) rfl rfl ?_
                          refine g_if_ne 5 9 (gd rfl) rfl rfl (fun c43x3x2 => ?_) (fun c43x3x2 => ?_)
                          · skip
                            exact zn_ne c43x3x2 (in_c 0 rfl) rfl
                          · skip
                            refine g_iconst 1 6 (gd rfl) rfl rfl ?_
                            refine g_goto 18 (gd rfl) rfl ?_
                            refine g_putI 21 (gd rfl) rfl rfl rfl rfl ?_
                            have hI43x3x18 := inv_sF (q := 109) (j := 0) hI rfl (in_w 0 2 (in_c 1 rfl) rfl)
                            refine g_aload_n 22 (gd rfl) rfl rfl ?_
                            refine g_getI 25 (gd rfl) rfl rfl rfl (fun z43x3x22 e43x3x22 => ?_)
                            have q43x3x22 : (Int32.ofInt 1) = z43x3x22 := (sF_get).trans e43x3x22.symm
                            subst q43x3x22
                            refine g_if_le 28 32 (gd rfl) rfl rfl (fun c43x3x25 => ?_) (fun c43x3x25 => ?_)
                            · skip
                              exact zn_le c43x3x25 (in_c 1 rfl) rfl
                            · skip
                              refine g_iconst 1 29 (gd rfl) rfl rfl ?_
                              refine g_goto 33 (gd rfl) rfl ?_
                              refine g_ireturn (gd rfl) rfl (nb01 (in_w 0 1 (in_c 1 rfl) rfl)) (hp43x3 _ _ ?_)
                              show GG _ _ _ _ _ _ _ _ [.int (Int32.ofInt 1)] _ _ _
                              refine g_ireturn (gd rfl) rfl (nb01 (in_w 0 1 (in_c 1 rfl) rfl)) (hp43 _ _ ?_)
                              show GG _ _ _ _ _ _ _ _ [.int (Int32.ofInt 1)] _ _ _
                              refine g_if_eq 49 51 (gd rfl) rfl rfl (fun c46 => ?_) (fun c46 => ?_)
                              · skip
                                exact zn_eq c46 (in_c 1 rfl) rfl
                              · skip
                                refine g_iconst 0 50 (gd rfl) rfl rfl ?_
                                exact g_ireturn (gd rfl) rfl rfl (hP _ _ ⟨(sF s 109 0 (Int32.ofInt 1)), hI43x3x18, (fr_sF rfl fr_rf), (Int32.ofInt 0), rfl, rfl, in_w (-2147483648) 2147483647 (in_c 0 rfl) rfl⟩)
                        · skip
                          exact zn_ne c35 (in_c 0 rfl) rfl
                      · skip
                        have i32x9 := r_lt1 0 31 c32x9 i32x1 i3x9a rfl
                        refine g_iconst 1 13 (gd rfl) rfl rfl ?_
                        refine g_goto 17 (gd rfl) rfl ?_
                        refine g_ireturn (gd rfl) rfl (nb01 (in_w 0 1 (in_c 1 rfl) rfl)) (hp32 _ _ ?_)
                        show GG _ _ _ _ _ _ _ _ [.int (Int32.ofInt 1), .ref (A 109)] _ _ _
                        refine g_if_eq 38 42 (gd rfl) rfl rfl (fun c35 => ?_) (fun c35 => ?_)
                        · skip
                          exact zn_eq c35 (in_c 1 rfl) rfl
                        · skip
                          refine g_iconst 1 39 (gd rfl) rfl rfl ?_
                          refine g_goto 43 (gd rfl) rfl ?_
                          refine g_callv (X := _) (As := [.int (Int32.ofInt 1)]) (r := []) (b := A 109) (q := 109) 46 (gd rfl) rfl rfl rfl rfl rfl (ww_o rfl) (Nat.le_of_ble_eq_true rfl) (mc := 0) (ms := 0) (Nat.zero_le _) (Nat.zero_le _) (P := fun v u => _) ?_ (fun e u h => h) (fun v u h => h)
                          intro po43 xx43 hp43 hx43
                          refine g_enter2 (k := 271) (N := 300) (by first | exact dq1 hd rfl | exact dq0 hd rfl | exact dq2 hd rfl | exact dq3 hd rfl | omega) rfl (Nat.le_of_ble_eq_true rfl) ?_
                          refine g_aload_n 1 (gd rfl) rfl rfl ?_
                          refine g_iload_n 2 (gd rfl) rfl rfl ?_
                          refine g_iconst 1 3 (gd rfl) rfl rfl ?_
                          refine g_callv (X := _) (As := [.int (Int32.ofInt 1), .int (Int32.ofInt 1)]) (r := []) (b := A 109) (q := 109) 6 (gd rfl) rfl rfl rfl rfl rfl (ww_o rfl) (Nat.le_of_ble_eq_true rfl) (mc := 0) (ms := 0) (Nat.zero_le _) (Nat.zero_le _) (P := fun v u => _) ?_ (fun e u h => h) (fun v u h => h)
                          intro po43x3 xx43x3 hp43x3 hx43x3
                          refine g_enter2 (k := 270) (N := 300) (by first | exact dq1 hd rfl | exact dq0 hd rfl | exact dq2 hd rfl | exact dq3 hd rfl | omega) rfl (Nat.le_of_ble_eq_true rfl) ?_
                          refine g_aload_n 1 (gd rfl) rfl rfl ?_
                          refine g_iload_n 2 (gd rfl) rfl rfl ?_
                          refine g_if_ne 5 9 (gd rfl) rfl rfl (fun c43x3x2 => ?_) (fun c43x3x2 => ?_)
                          · skip
                            refine g_iload_n 10 (gd rfl) rfl rfl ?_
                            refine g_if_ne 13 17 (gd rfl) rfl rfl (fun c43x3x10 => ?_) (fun c43x3x10 => ?_)
                            · skip
                              refine g_iconst 0 18 (gd rfl) rfl rfl ?_
                              refine g_putI 21 (gd rfl) rfl rfl rfl rfl ?_
                              have hI43x3x18 := inv_sF (q := 109) (j := 0) hI rfl (in_w 0 2 (in_c 0 rfl) rfl)
                              refine g_aload_n 22 (gd rfl) rfl rfl ?_
                              refine g_getI 25 (gd rfl) rfl rfl rfl (fun z43x3x22 e43x3x22 => ?_)
                              have q43x3x22 : (Int32.ofInt 0) = z43x3x22 := (sF_get).trans e43x3x22.symm
                              subst q43x3x22
                              refine g_if_le 28 32 (gd rfl) rfl rfl (fun c43x3x25 => ?_) (fun c43x3x25 => ?_)
                              · skip
                                refine g_iconst 0 33 (gd rfl) rfl rfl ?_
                                refine g_ireturn (gd rfl) rfl (nb01 (in_w 0 1 (in_c 0 rfl) rfl)) (hp43x3 _ _ ?_)
                                show GG _ _ _ _ _ _ _ _ [.int (Int32.ofInt 0)] _ _ _
                                refine g_ireturn (gd rfl) rfl (nb01 (in_w 0 1 (in_c 0 rfl) rfl)) (hp43 _ _ ?_)
                                show GG _ _ _ _ _ _ _ _ [.int (Int32.ofInt 0)] _ _ _
                                refine g_if_eq 49 51 (gd rfl) rfl rfl (fun c46 => ?_) (fun c46 => ?_)
                                · skip
                                  refine g_aload_n 52 (gd rfl) rfl rfl ?_
                                  refine g_iload_n 53 (gd rfl) rfl rfl ?_
                                  refine g_iconst 0 54 (gd rfl) rfl rfl ?_
                                  refine g_aload_n 55 (gd rfl) rfl rfl ?_
                                  refine g_getA (q2 := 165) 58 (gd rfl) rfl rfl rfl rfl ?_
                                  refine g_aload_n 59 (gd rfl) rfl rfl ?_
                                  refine g_getA (q2 := 166) 62 (gd rfl) rfl rfl rfl rfl ?_
                                  refine g_callv (X := _) (As := [.int x1, .int (Int32.ofInt 0), .ref (A 165), .ref (A 166)]) (r := []) (b := A 109) (q := 109) 65 (gd rfl) rfl rfl rfl rfl rfl (ww_o rfl) (Nat.le_of_ble_eq_true rfl) (Nat.zero_le _) (Nat.zero_le _) (k_370_109_165_166 (by first | exact dq1 hd rfl | exact dq0 hd rfl | exact dq2 hd rfl | exact dq3 hd rfl | omega) hI43x3x18 (in_w 0 31 i3x9 rfl) (in_w 0 0 (in_c 0 rfl) rfl)) (fun e u h => h) (fun v u h => ?_)
                                  obtain ⟨s62, hI62, hF62, rfl, rfl⟩ := h
                                  show GG _ _ _ _ _ _ _ _ [] _ _ _
                                  refine g_aload_n 66 (gd rfl) rfl rfl ?_
                                  refine g_iload_n 67 (gd rfl) rfl rfl ?_
                                  refine g_iconst 1 68 (gd rfl) rfl rfl ?_
                                  refine g_aload_n 69 (gd rfl) rfl rfl ?_
                                  refine g_getA (q2 := 167) 72 (gd rfl) rfl rfl rfl rfl ?_
                                  refine g_aload_n 73 (gd rfl) rfl rfl ?_
                                  refine g_getA (q2 := 168) 76 (gd rfl) rfl rfl rfl rfl ?_
                                  refine g_callv (X := _) (As := [.int x2, .int (Int32.ofInt 1), .ref (A 167), .ref (A 168)]) (r := []) (b := A 109) (q := 109) 79 (gd rfl) rfl rfl rfl rfl rfl (ww_o rfl) (Nat.le_of_ble_eq_true rfl) (Nat.zero_le _) (Nat.zero_le _) (k_370_109_167_168 (by first | exact dq1 hd rfl | exact dq0 hd rfl | exact dq2 hd rfl | exact dq3 hd rfl | omega) hI62 (in_w 0 31 i11x9 rfl) (in_w 1 1 (in_c 1 rfl) rfl)) (fun e u h => h) (fun v u h => ?_)
                                  obtain ⟨s76, hI76, hF76, rfl, rfl⟩ := h
                                  show GG _ _ _ _ _ _ _ _ [] _ _ _
                                  refine g_iload_n 80 (gd rfl) rfl rfl ?_
                                  refine g_if_ne 83 90 (gd rfl) rfl rfl (fun c80 => ?_) (fun c80 => ?_)
                                  · skip
                                    have i80 := z_ne 1 2 c80 i23x10b rfl
                                    refine g_iload_n 91 (gd rfl) rfl rfl ?_
                                    refine g_iconst 1 92 (gd rfl) rfl rfl ?_
                                    refine g_cmp_ne 95 103 (gd rfl) rfl rfl (fun c92 => ?_) (fun c92 => ?_)
                                    · skip
                                      have i92 := r_ne1 2 2 c92 i80 (in_c 1 rfl) rfl
                                      refine g_aload_n 104 (gd rfl) rfl rfl ?_
                                      refine g_getA (q2 := 165) 107 (gd rfl) rfl rfl rfl rfl ?_
                                      refine g_iload 109 (gd rfl) rfl rfl ?_
                                      refine g_iaload 110 (gd rfl) rfl (n := 32) rfl (in_ix i32x9 rfl) (fun z109 e109 => ?_)
                                      refine g_if_lt 113 151 (gd rfl) rfl rfl (fun c110 => ?_) (fun c110 => ?_)
                                      · skip
                                        have i110 := z_lt (-2147483648) (-1) c110 (i_rng z109) rfl
                                        exact gg_w (by first | exact Nat.le_of_ble_eq_true rfl | omega) (gg_f (gf_cons rfl (gf_cons rfl (gf_cons rfl (gf_cons rfl (gf_cons rfl gf_nil))))) (ct151 s76  hI76 (fr_tr rfl (fr_tr rfl (fr_sF rfl fr_rf) hF62) hF76) (in_w 0 31 i3x9 rfl) (in_w 0 31 i11x9 rfl) (in_w 2 2 i92 rfl) (in_w 0 31 i32x9 rfl) c80))
                                      · skip
                                        have i110 := z_ge 0 2147483647 c110 (i_rng z109) rfl
                                        refine g_aload_n 114 (gd rfl) rfl rfl ?_
                                        refine g_getA (q2 := 167) 117 (gd rfl) rfl rfl rfl rfl ?_
                                        refine g_iload 119 (gd rfl) rfl rfl ?_
                                        refine g_iaload 120 (gd rfl) rfl (n := 32) rfl (in_ix i32x9 rfl) (fun z119 e119 => ?_)
                                        refine g_if_lt 123 151 (gd rfl) rfl rfl (fun c120 => ?_) (fun c120 => ?_)
                                        · skip
                                          have i120 := z_lt (-2147483648) (-1) c120 (i_rng z119) rfl
                                          exact gg_w (by first | exact Nat.le_of_ble_eq_true rfl | omega) (gg_f (gf_cons rfl (gf_cons rfl (gf_cons rfl (gf_cons rfl (gf_cons rfl gf_nil))))) (ct151 s76  hI76 (fr_tr rfl (fr_tr rfl (fr_sF rfl fr_rf) hF62) hF76) (in_w 0 31 i3x9 rfl) (in_w 0 31 i11x9 rfl) (in_w 2 2 i92 rfl) (in_w 0 31 i32x9 rfl) c80))
                                        · skip
                                          have i120 := z_ge 0 2147483647 c120 (i_rng z119) rfl
                                          refine g_aload_n 124 (gd rfl) rfl rfl ?_
                                          refine g_getA (q2 := 165) 127 (gd rfl) rfl rfl rfl rfl ?_
                                          refine g_iload 129 (gd rfl) rfl rfl ?_
                                          refine g_iaload 130 (gd rfl) rfl (n := 32) rfl (in_ix i32x9 rfl) (fun z129 e129 => ?_)
                                          have q129 : z109 = z129 := (e109).trans e129.symm
                                          subst q129
                                          refine g_aload_n 131 (gd rfl) rfl rfl ?_
                                          refine g_getA (q2 := 167) 134 (gd rfl) rfl rfl rfl rfl ?_
                                          refine g_iload 136 (gd rfl) rfl rfl ?_
                                          refine g_iaload 137 (gd rfl) rfl (n := 32) rfl (in_ix i32x9 rfl) (fun z136 e136 => ?_)
                                          have q136 : z119 = z136 := (e119).trans e136.symm
                                          subst q136
                                          refine g_iadd 138 (gd rfl) rfl (fun z137 e137 => ?_)
                                          refine g_aload_n 139 (gd rfl) rfl rfl ?_
                                          refine g_getA (q2 := 165) 142 (gd rfl) rfl rfl rfl rfl ?_
                                          refine g_iload_n 143 (gd rfl) rfl rfl ?_
                                          refine g_iaload 144 (gd rfl) rfl (n := 32) rfl (in_ix i11x9 rfl) (fun z143 e143 => ?_)
                                          refine g_cmp_ne 147 151 (gd rfl) rfl rfl (fun c144 => ?_) (fun c144 => ?_)
                                          · skip
                                            exact gg_w (by first | exact Nat.le_of_ble_eq_true rfl | omega) (gg_f (gf_cons rfl (gf_cons rfl (gf_cons rfl (gf_cons rfl (gf_cons rfl gf_nil))))) (ct151 s76  hI76 (fr_tr rfl (fr_tr rfl (fr_sF rfl fr_rf) hF62) hF76) (in_w 0 31 i3x9 rfl) (in_w 0 31 i11x9 rfl) (in_w 2 2 i92 rfl) (in_w 0 31 i32x9 rfl) c80))
                                          · skip
                                            refine g_iconst 1 148 (gd rfl) rfl rfl ?_
                                            refine g_goto 152 (gd rfl) rfl ?_
                                            refine g_istore 154 (gd rfl) rfl (Nat.le_of_ble_eq_true rfl) ?_
                                            refine g_iload 156 (gd rfl) rfl rfl ?_
                                            refine g_if_eq 159 182 (gd rfl) rfl rfl (fun c156 => ?_) (fun c156 => ?_)
                                            · skip
                                              exact zn_eq c156 (in_c 1 rfl) rfl
                                            · skip
                                              refine g_aload_n 160 (gd rfl) rfl rfl ?_
                                              refine g_getA (q2 := 166) 163 (gd rfl) rfl rfl rfl rfl ?_
                                              refine g_iload 165 (gd rfl) rfl rfl ?_
                                              refine g_laload 166 (gd rfl) rfl (n := 32) rfl (in_ix i32x9 rfl) (fun z165 e165 => ?_)
                                              refine g_aload_n 167 (gd rfl) rfl rfl ?_
                                              refine g_getA (q2 := 168) 170 (gd rfl) rfl rfl rfl rfl ?_
                                              refine g_iload 172 (gd rfl) rfl rfl ?_
                                              refine g_laload 173 (gd rfl) rfl (n := 32) rfl (in_ix i32x9 rfl) (fun z172 e172 => ?_)
                                              refine g_lmul 174 (gd rfl) rfl (fun z173 e173 => ?_)
                                              refine g_ldc2_w 1000000007 177 (gd rfl) rfl rfl ?_
                                              refine g_lrem 178 (gd rfl) rfl (by decide) (fun z177 e177 => ?_)
                                              have i177 := l_rem (-1000000006) 1000000006 e177 rfl
                                              refine g_l2i 179 (gd rfl) rfl (fun z178 e178 => ?_)
                                              refine g_goto 183 (gd rfl) rfl ?_
                                              exact g_ireturn (gd rfl) rfl rfl (hP _ _ ⟨s76, hI76, (fr_tr rfl (fr_tr rfl (fr_sF rfl fr_rf) hF62) hF76), z178, rfl, rfl, in_w (-2147483648) 2147483647 (i_rng z178) rfl⟩)
                                    · skip
                                      have i92 := r_eq1 1 1 c92 i80 (in_c 1 rfl) rfl
                                      refine g_aload_n 96 (gd rfl) rfl rfl ?_
                                      refine g_getA (q2 := 166) 99 (gd rfl) rfl rfl rfl rfl ?_
                                      refine g_iload_n 100 (gd rfl) rfl rfl ?_
                                      refine g_laload 101 (gd rfl) rfl (n := 32) rfl (in_ix i11x9 rfl) (fun z100 e100 => ?_)
                                      refine g_l2i 102 (gd rfl) rfl (fun z101 e101 => ?_)
                                      exact g_ireturn (gd rfl) rfl rfl (hP _ _ ⟨s76, hI76, (fr_tr rfl (fr_tr rfl (fr_sF rfl fr_rf) hF62) hF76), z101, rfl, rfl, in_w (-2147483648) 2147483647 (i_rng z101) rfl⟩)
                                  · skip
                                    have i80 := z_eq 0 0 c80 i23x10b rfl
                                    refine g_aload_n 84 (gd rfl) rfl rfl ?_
                                    refine g_getA (q2 := 165) 87 (gd rfl) rfl rfl rfl rfl ?_
                                    refine g_iload_n 88 (gd rfl) rfl rfl ?_
                                    refine g_iaload 89 (gd rfl) rfl (n := 32) rfl (in_ix i11x9 rfl) (fun z88 e88 => ?_)
                                    exact g_ireturn (gd rfl) rfl rfl (hP _ _ ⟨s76, hI76, (fr_tr rfl (fr_tr rfl (fr_sF rfl fr_rf) hF62) hF76), z88, rfl, rfl, in_w (-2147483648) 2147483647 (i_rng z88) rfl⟩)
                                · skip
                                  exact zn_ne c46 (in_c 0 rfl) rfl
                              · skip
                                exact zn_gt c43x3x25 (in_c 0 rfl) rfl
                            · skip
                              exact zn_eq c43x3x10 (in_c 1 rfl) rfl
                          · skip
                            exact zn_eq c43x3x2 (in_c 1 rfl) rfl

/-- GraphHouseModel.gainIn -/
theorem k_373 {Z : AmZ} {A : Nat → Nat} {s : GS} {ex : va_W} {d : Nat} {X : AmX} {x1 : Int32} {x2 : Int32} (hd : 3 ≤ d) (hI : Inv s) (h1 : In x1 0 31) : GC Z d 373 [.ref (A 109), .int x1, .int x2] (WW Z A s ++ ex) 0 0 (fun v u => ∃ z : Int64, v = some (.long z) ∧ u = WW Z A s ++ ex) X := by
  intro post xp hP hX
  obtain ⟨u_109_20, e_109_20⟩ : ∃ w, w = s.2.2.1 109 20 := ⟨_, rfl⟩
  have ro_109_20 := inv_F hI 0 32 rfl e_109_20
  obtain ⟨u_109_80, e_109_80⟩ : ∃ w, w = s.2.2.1 109 80 := ⟨_, rfl⟩
  have ro_109_80 := inv_F hI 0 160 rfl e_109_80
  have ct5 : ∀ (k5 : Nat) (y5_3 : Int64) (y5_5 : Int32), (In y5_5 0 32) → 32 - (y5_5).toInt < (k5 : Int) → GG Z (d - 1) 373 post (gx xp) (1 + k5 * 900) 5 (fun j => xlook j [(0, .ref (A 109)), (1, .int x1), (2, .int x2), (3, .long y5_3), (5, .int y5_5)]) [] (WW Z A s ++ ex) 0 0 := by
    intro k5
    induction k5 with
    | zero => intro y5_3 y5_5 j5_5 mm5; exact m_no mm5 j5_5 rfl
    | succ k5 ih5 =>
      intro y5_3 y5_5 j5_5 mm5
      refine gg_w (M := 1 + k5 * 900 + 900) gws ?_
      refine g_iload 7 (gd rfl) rfl rfl ?_
      refine g_aload_n 8 (gd rfl) rfl rfl ?_
      refine g_getI 11 (gd rfl) rfl rfl rfl (fun z8 e8 => ?_)
      have q8 : u_109_20 = z8 := (e_109_20).trans e8.symm
      subst q8
      refine g_cmp_ge 14 51 (gd rfl) rfl rfl (fun c11 => ?_) (fun c11 => ?_)
      · skip
        refine g_lload_n 52 (gd rfl) rfl rfl ?_
        exact g_lreturn (gd rfl) rfl (hP _ _ ⟨y5_3, rfl, rfl⟩)
      · skip
        have i11 := r_lt1 0 31 c11 j5_5 ro_109_20 rfl
        have i11a := r_lt2 1 32 c11 j5_5 ro_109_20 rfl
        refine g_lload_n 15 (gd rfl) rfl rfl ?_
        refine g_iload 17 (gd rfl) rfl rfl ?_
        refine g_iload_n 18 (gd rfl) rfl rfl ?_
        refine g_cmp_eq 21 42 (gd rfl) rfl rfl (fun c18 => ?_) (fun c18 => ?_)
        · skip
          refine g_lconst 0 43 (gd rfl) rfl rfl ?_
          refine g_ladd 44 (gd rfl) rfl (fun z43 e43 => ?_)
          refine g_lstore_n 45 (gd rfl) rfl (Nat.le_of_ble_eq_true rfl) ?_
          refine g_iinc 48 (gd rfl) rfl rfl (Nat.le_of_ble_eq_true rfl) (fun z45 e45 => ?_)
          have i45 := in_add 1 32 e45 i11 (in_c 1 rfl) rfl rfl
          refine g_goto 5 (gd rfl) rfl ?_
          exact gg_w (by first | exact Nat.le_add_right _ _ | exact gw2 | exact gw3 | exact gwe rfl | exact gwf rfl | exact gwg rfl | exact gwh rfl | omega) (gg_f (gf_cons rfl (gf_cons rfl (gf_cons rfl (gf_cons rfl (gf_cons rfl gf_nil))))) (ih5  z43 z45  (in_w 0 32 i45 rfl) (m_up mm5 (t_add e45 i11 (in_c 1 rfl) rfl) (in_w 1 1 (in_c 1 rfl) rfl))))
        · skip
          refine g_aload_n 22 (gd rfl) rfl rfl ?_
          refine g_getA (q2 := 169) 25 (gd rfl) rfl rfl rfl rfl ?_
          refine g_iload 27 (gd rfl) rfl rfl ?_
          refine g_iaload 28 (gd rfl) rfl (n := 32) rfl (in_ix i11 rfl) (fun z27 e27 => ?_)
          refine g_iload_n 29 (gd rfl) rfl rfl ?_
          refine g_cmp_ne 32 42 (gd rfl) rfl rfl (fun c29 => ?_) (fun c29 => ?_)
          · skip
            refine g_lconst 0 43 (gd rfl) rfl rfl ?_
            refine g_ladd 44 (gd rfl) rfl (fun z43 e43 => ?_)
            refine g_lstore_n 45 (gd rfl) rfl (Nat.le_of_ble_eq_true rfl) ?_
            refine g_iinc 48 (gd rfl) rfl rfl (Nat.le_of_ble_eq_true rfl) (fun z45 e45 => ?_)
            have i45 := in_add 1 32 e45 i11 (in_c 1 rfl) rfl rfl
            refine g_goto 5 (gd rfl) rfl ?_
            exact gg_w (by first | exact Nat.le_add_right _ _ | exact gw2 | exact gw3 | exact gwe rfl | exact gwf rfl | exact gwg rfl | exact gwh rfl | omega) (gg_f (gf_cons rfl (gf_cons rfl (gf_cons rfl (gf_cons rfl (gf_cons rfl gf_nil))))) (ih5  z43 z45  (in_w 0 32 i45 rfl) (m_up mm5 (t_add e45 i11 (in_c 1 rfl) rfl) (in_w 1 1 (in_c 1 rfl) rfl))))
          · skip
            refine g_aload_n 33 (gd rfl) rfl rfl ?_
            refine g_iload_n 34 (gd rfl) rfl rfl ?_
            refine g_iload 36 (gd rfl) rfl rfl ?_
            refine g_callv (X := _) (As := [.int x1, .int y5_5]) (r := [.long y5_3]) (b := A 109) (q := 109) 39 (gd rfl) rfl rfl rfl rfl rfl (ww_o rfl) (Nat.le_of_ble_eq_true rfl) (mc := 0) (ms := 0) (Nat.zero_le _) (Nat.zero_le _) (P := fun v u => _) ?_ (fun e u h => h) (fun v u h => h)
            intro po36 xx36 hp36 hx36
            refine g_enter2 (k := 372) (N := 300) (by first | exact dq1 hd rfl | exact dq0 hd rfl | exact dq2 hd rfl | exact dq3 hd rfl | omega) rfl (Nat.le_of_ble_eq_true rfl) ?_
            refine g_ldc2_w 2 3 (gd rfl) rfl rfl ?_
            refine g_aload_n 4 (gd rfl) rfl rfl ?_
            refine g_getI 7 (gd rfl) rfl rfl rfl (fun z36x4 e36x4 => ?_)
            have q36x4 : u_109_80 = z36x4 := (e_109_80).trans e36x4.symm
            subst q36x4
            refine g_i2l 8 (gd rfl) rfl (fun z36x7 e36x7 => ?_)
            have i36x7 := l_i e36x7 ro_109_80
            refine g_lmul 9 (gd rfl) rfl (fun z36x8 e36x8 => ?_)
            have i36x8 := l_mulc 2 0 320 (Or.inl e36x8) i36x7 rfl
            refine g_aload_n 10 (gd rfl) rfl rfl ?_
            refine g_getA (q2 := 171) 13 (gd rfl) rfl rfl rfl rfl ?_
            refine g_bipush 32 15 (gd rfl) rfl rfl ?_
            refine g_iload_n 16 (gd rfl) rfl rfl ?_
            refine g_imul 17 (gd rfl) rfl (fun z36x16 e36x16 => ?_)
            have i36x16 := in_mulc 32 0 992 (Or.inl e36x16) h1 rfl rfl
            refine g_iload_n 18 (gd rfl) rfl rfl ?_
            refine g_iadd 19 (gd rfl) rfl (fun z36x18 e36x18 => ?_)
            have i36x18 := in_add 0 1023 e36x18 i36x16 i11 rfl rfl
            refine g_iaload 20 (gd rfl) rfl (n := 1024) rfl (in_ix i36x18 rfl) (fun z36x19 e36x19 => ?_)
            refine g_i2l 21 (gd rfl) rfl (fun z36x20 e36x20 => ?_)
            have i36x20 := l_i e36x20 (i_rng z36x19)
            refine g_lmul 22 (gd rfl) rfl (fun z36x21 e36x21 => ?_)
            refine g_aload_n 23 (gd rfl) rfl rfl ?_
            refine g_getA (q2 := 170) 26 (gd rfl) rfl rfl rfl rfl ?_
            refine g_iload_n 27 (gd rfl) rfl rfl ?_
            refine g_iaload 28 (gd rfl) rfl (n := 32) rfl (in_ix h1 rfl) (fun z36x27 e36x27 => ?_)
            refine g_i2l 29 (gd rfl) rfl (fun z36x28 e36x28 => ?_)
            have i36x28 := l_i e36x28 (i_rng z36x27)
            refine g_aload_n 30 (gd rfl) rfl rfl ?_
            refine g_getA (q2 := 170) 33 (gd rfl) rfl rfl rfl rfl ?_
            refine g_iload_n 34 (gd rfl) rfl rfl ?_
            refine g_iaload 35 (gd rfl) rfl (n := 32) rfl (in_ix i11 rfl) (fun z36x34 e36x34 => ?_)
            refine g_i2l 36 (gd rfl) rfl (fun z36x35 e36x35 => ?_)
            have i36x35 := l_i e36x35 (i_rng z36x34)
            refine g_lmul 37 (gd rfl) rfl (fun z36x36 e36x36 => ?_)
            refine g_lsub 38 (gd rfl) rfl (fun z36x37 e36x37 => ?_)
            refine g_lreturn (gd rfl) rfl (hp36 _ _ ?_)
            show GG _ _ _ _ _ _ _ _ [.long z36x37, .long y5_3] _ _ _
            refine g_goto 43 (gd rfl) rfl ?_
            refine g_ladd 44 (gd rfl) rfl (fun z43 e43 => ?_)
            refine g_lstore_n 45 (gd rfl) rfl (Nat.le_of_ble_eq_true rfl) ?_
            refine g_iinc 48 (gd rfl) rfl rfl (Nat.le_of_ble_eq_true rfl) (fun z45 e45 => ?_)
            have i45 := in_add 1 32 e45 i11 (in_c 1 rfl) rfl rfl
            refine g_goto 5 (gd rfl) rfl ?_
            exact gg_w (by first | exact Nat.le_add_right _ _ | exact gw2 | exact gw3 | exact gwe rfl | exact gwf rfl | exact gwg rfl | exact gwh rfl | omega) (gg_f (gf_cons rfl (gf_cons rfl (gf_cons rfl (gf_cons rfl (gf_cons rfl gf_nil))))) (ih5  z43 z45  (in_w 0 32 i45 rfl) (m_up mm5 (t_add e45 i11 (in_c 1 rfl) rfl) (in_w 1 1 (in_c 1 rfl) rfl))))
  refine g_enter2 (k := 373) (N := 30601) (by first | exact dq1 hd rfl | exact dq0 hd rfl | exact dq2 hd rfl | exact dq3 hd rfl | omega) rfl (Nat.le_of_ble_eq_true rfl) ?_
  refine g_lconst 0 1 (gd rfl) rfl rfl ?_
  refine g_lstore_n 2 (gd rfl) rfl (Nat.le_of_ble_eq_true rfl) ?_
  refine g_iconst 0 3 (gd rfl) rfl rfl ?_
  refine g_istore 5 (gd rfl) rfl (Nat.le_of_ble_eq_true rfl) ?_
  exact gg_w (by first | exact Nat.le_of_ble_eq_true rfl | omega) (gg_f (gf_cons rfl (gf_cons rfl (gf_cons rfl (gf_cons rfl (gf_cons rfl gf_nil))))) (ct5 33  (Int64.ofInt 0) (Int32.ofInt 0)  (in_w 0 32 (in_c 0 rfl) rfl) (m_in 33 (in_w 0 32 (in_c 0 rfl) rfl) rfl)))

/-- GraphHouseModel.leastOf -/
theorem k_375 {Z : AmZ} {A : Nat → Nat} {s : GS} {ex : va_W} {d : Nat} {X : AmX} {x1 : Int32} {x2 : Int32} (hd : 1 ≤ d) (hI : Inv s) (h2 : In x2 (-1) 31) : GC Z d 375 [.ref (A 109), .int x1, .int x2] (WW Z A s ++ ex) 0 0 (fun v u => ∃ z : Int32, v = some (.int z) ∧ u = WW Z A s ++ ex ∧ In z 0 40 ∧ ((z).toInt < 40 → ∃ v : Nat, v < 32 ∧ s.1 169 v = x1)) X := by
  intro post xp hP hX
  obtain ⟨u_109_20, e_109_20⟩ : ∃ w, w = s.2.2.1 109 20 := ⟨_, rfl⟩
  have ro_109_20 := inv_F hI 0 32 rfl e_109_20
  have ct11 : ∀ (k11 : Nat) (y11_3 : Int32) (y11_4 : Int32), (In y11_3 0 40) → (In y11_4 (-1) 31) → ((y11_3).toInt < 40 → ∃ v : Nat, v < 32 ∧ s.1 169 v = x1) → (y11_4).toInt - (-1) < (k11 : Int) → GG Z (d - 1) 375 post (gx xp) (1 + k11 * 900) 11 (fun j => xlook j [(0, .ref (A 109)), (1, .int x1), (2, .int x2), (3, .int y11_3), (4, .int y11_4)]) [] (WW Z A s ++ ex) 0 0 := by
    intro k11
    induction k11 with
    | zero => intro y11_3 y11_4 j11_3 j11_4 g11_0 mm11; exact m_nod mm11 j11_4 rfl
    | succ k11 ih11 =>
      intro y11_3 y11_4 j11_3 j11_4 g11_0 mm11
      refine gg_w (M := 1 + k11 * 900 + 900) gws ?_
      refine g_iload 13 (gd rfl) rfl rfl ?_
      refine g_if_lt 16 46 (gd rfl) rfl rfl (fun c13 => ?_) (fun c13 => ?_)
      · skip
        have i13 := z_lt (-1) (-1) c13 j11_4 rfl
        refine g_iload_n 47 (gd rfl) rfl rfl ?_
        have n47 : (y11_3).toInt < 40 → ∃ v : Nat, v < 32 ∧ s.1 169 v = x1 := by exact g11_0
        exact g_ireturn (gd rfl) rfl rfl (hP _ _ ⟨y11_3, rfl, rfl, in_w 0 40 j11_3 rfl, n47⟩)
      · skip
        have i13 := z_ge 0 31 c13 j11_4 rfl
        refine g_aload_n 17 (gd rfl) rfl rfl ?_
        refine g_getA (q2 := 169) 20 (gd rfl) rfl rfl rfl rfl ?_
        refine g_iload 22 (gd rfl) rfl rfl ?_
        refine g_iaload 23 (gd rfl) rfl (n := 32) rfl (in_ix i13 rfl) (fun z22 e22 => ?_)
        refine g_iload_n 24 (gd rfl) rfl rfl ?_
        refine g_cmp_ne 27 38 (gd rfl) rfl rfl (fun c24 => ?_) (fun c24 => ?_)
        · skip
          refine g_iload_n 39 (gd rfl) rfl rfl ?_
          refine g_istore_n 40 (gd rfl) rfl (Nat.le_of_ble_eq_true rfl) ?_
          refine g_iinc 43 (gd rfl) rfl rfl (Nat.le_of_ble_eq_true rfl) (fun z40 e40 => ?_)
          have i40 := in_add (-1) 30 e40 i13 (in_c (-1) rfl) rfl rfl
          refine g_goto 11 (gd rfl) rfl ?_
          have n11 : (y11_3).toInt < 40 → ∃ v : Nat, v < 32 ∧ s.1 169 v = x1 := by first | exact g11_0 | (intro h; exact absurd h (by decide)) | (intro _; refine ⟨y11_4.toNatClampNeg, by show y11_4.toInt.toNat < 32; (first | have a0 := oa5 h2 ro_109_20 i13 j11_3 i40 | ((first | have a0 := in_u h2 | (have a0 := h2; unfold In at a0)); (first | have a1 := in_u ro_109_20 | (have a1 := ro_109_20; unfold In at a1)); (first | have a2 := in_u i13 | (have a2 := i13; unfold In at a2)); (first | have a3 := in_u j11_3 | (have a3 := j11_3; unfold In at a3)); (first | have a4 := in_u i40 | (have a4 := i40; unfold In at a4)))); have a5 := t_add e40 i13 (in_c (-1) rfl) rfl; (first | have a6 := in_u ((in_c (-1) rfl)) | (have a6 := (in_c (-1) rfl); unfold In at a6)); (first | exact zt_l (by decide) (by omega) | omega), ?_⟩; exact e22.symm.trans (Int32.toInt_inj.mp c24))
          exact gg_w (by first | exact Nat.le_add_right _ _ | exact gw2 | exact gw3 | exact gwe rfl | exact gwf rfl | exact gwg rfl | exact gwh rfl | omega) (gg_f (gf_cons rfl (gf_cons rfl (gf_cons rfl (gf_cons rfl (gf_cons rfl gf_nil))))) (ih11  y11_3 z40  (in_w 0 40 j11_3 rfl) (in_w (-1) 31 i40 rfl) n11 (m_dn mm11 (t_add e40 i13 (in_c (-1) rfl) rfl) (in_w (-1) (-1) (in_c (-1) rfl) rfl))))
        · skip
          refine g_iload 29 (gd rfl) rfl rfl ?_
          refine g_iload_n 30 (gd rfl) rfl rfl ?_
          refine g_cmp_eq 33 38 (gd rfl) rfl rfl (fun c30 => ?_) (fun c30 => ?_)
          · skip
            have i30 := r_eq2 0 31 c30 i13 h2 rfl
            refine g_iload_n 39 (gd rfl) rfl rfl ?_
            refine g_istore_n 40 (gd rfl) rfl (Nat.le_of_ble_eq_true rfl) ?_
            refine g_iinc 43 (gd rfl) rfl rfl (Nat.le_of_ble_eq_true rfl) (fun z40 e40 => ?_)
            have i40 := in_add (-1) 30 e40 i13 (in_c (-1) rfl) rfl rfl
            refine g_goto 11 (gd rfl) rfl ?_
            have n11 : (y11_3).toInt < 40 → ∃ v : Nat, v < 32 ∧ s.1 169 v = x1 := by first | exact g11_0 | (intro h; exact absurd h (by decide)) | (intro _; refine ⟨y11_4.toNatClampNeg, by show y11_4.toInt.toNat < 32; (first | have a0 := oa5 i30 ro_109_20 i13 j11_3 i40 | ((first | have a0 := in_u i30 | (have a0 := i30; unfold In at a0)); (first | have a1 := in_u ro_109_20 | (have a1 := ro_109_20; unfold In at a1)); (first | have a2 := in_u i13 | (have a2 := i13; unfold In at a2)); (first | have a3 := in_u j11_3 | (have a3 := j11_3; unfold In at a3)); (first | have a4 := in_u i40 | (have a4 := i40; unfold In at a4)))); have a5 := t_add e40 i13 (in_c (-1) rfl) rfl; (first | have a6 := in_u ((in_c (-1) rfl)) | (have a6 := (in_c (-1) rfl); unfold In at a6)); (first | exact zt_l (by decide) (by omega) | omega), ?_⟩; exact e22.symm.trans (Int32.toInt_inj.mp c24))
            exact gg_w (by first | exact Nat.le_add_right _ _ | exact gw2 | exact gw3 | exact gwe rfl | exact gwf rfl | exact gwg rfl | exact gwh rfl | omega) (gg_f (gf_cons rfl (gf_cons rfl (gf_cons rfl (gf_cons rfl (gf_cons rfl gf_nil))))) (ih11  y11_3 z40  (in_w 0 40 j11_3 rfl) (in_w (-1) 31 i40 rfl) n11 (m_dn mm11 (t_add e40 i13 (in_c (-1) rfl) rfl) (in_w (-1) (-1) (in_c (-1) rfl) rfl))))
          · skip
            refine g_iload 35 (gd rfl) rfl rfl ?_
            refine g_goto 39 (gd rfl) rfl ?_
            refine g_istore_n 40 (gd rfl) rfl (Nat.le_of_ble_eq_true rfl) ?_
            refine g_iinc 43 (gd rfl) rfl rfl (Nat.le_of_ble_eq_true rfl) (fun z40 e40 => ?_)
            have i40 := in_add (-1) 30 e40 i13 (in_c (-1) rfl) rfl rfl
            refine g_goto 11 (gd rfl) rfl ?_
            have n11 : (y11_4).toInt < 40 → ∃ v : Nat, v < 32 ∧ s.1 169 v = x1 := by first | exact g11_0 | (intro h; exact absurd h (by decide)) | (intro _; refine ⟨y11_4.toNatClampNeg, by show y11_4.toInt.toNat < 32; (first | have a0 := oa5 h2 ro_109_20 i13 j11_3 i40 | ((first | have a0 := in_u h2 | (have a0 := h2; unfold In at a0)); (first | have a1 := in_u ro_109_20 | (have a1 := ro_109_20; unfold In at a1)); (first | have a2 := in_u i13 | (have a2 := i13; unfold In at a2)); (first | have a3 := in_u j11_3 | (have a3 := j11_3; unfold In at a3)); (first | have a4 := in_u i40 | (have a4 := i40; unfold In at a4)))); have a5 := t_add e40 i13 (in_c (-1) rfl) rfl; (first | have a6 := in_u ((in_c (-1) rfl)) | (have a6 := (in_c (-1) rfl); unfold In at a6)); (first | exact zt_l (by decide) (by omega) | omega), ?_⟩; exact e22.symm.trans (Int32.toInt_inj.mp c24))
            exact gg_w (by first | exact Nat.le_add_right _ _ | exact gw2 | exact gw3 | exact gwe rfl | exact gwf rfl | exact gwg rfl | exact gwh rfl | omega) (gg_f (gf_cons rfl (gf_cons rfl (gf_cons rfl (gf_cons rfl (gf_cons rfl gf_nil))))) (ih11  y11_4 z40  (in_w 0 40 i13 rfl) (in_w (-1) 31 i40 rfl) n11 (m_dn mm11 (t_add e40 i13 (in_c (-1) rfl) rfl) (in_w (-1) (-1) (in_c (-1) rfl) rfl))))
  refine g_enter2 (k := 375) (N := 30601) (by first | exact dq1 hd rfl | exact dq0 hd rfl | exact dq2 hd rfl | exact dq3 hd rfl | omega) rfl (Nat.le_of_ble_eq_true rfl) ?_
  refine g_bipush 40 2 (gd rfl) rfl rfl ?_
  refine g_istore_n 3 (gd rfl) rfl (Nat.le_of_ble_eq_true rfl) ?_
  refine g_aload_n 4 (gd rfl) rfl rfl ?_
  refine g_getI 7 (gd rfl) rfl rfl rfl (fun z4 e4 => ?_)
  have q4 : u_109_20 = z4 := (e_109_20).trans e4.symm
  subst q4
  refine g_iconst 1 8 (gd rfl) rfl rfl ?_
  refine g_isub 9 (gd rfl) rfl (fun z8 e8 => ?_)
  have i8 := in_sub (-1) 31 e8 ro_109_20 (in_c 1 rfl) rfl rfl
  refine g_istore 11 (gd rfl) rfl (Nat.le_of_ble_eq_true rfl) ?_
  have n11 : ((Int32.ofInt 40)).toInt < 40 → ∃ v : Nat, v < 32 ∧ s.1 169 v = x1 := by first | exact g11_0 | (intro h; exact absurd h (by decide)) | (intro _; refine ⟨y11_4.toNatClampNeg, by show y11_4.toInt.toNat < 32; (first | have a0 := oa3 ro_109_20 h2 i8 | ((first | have a0 := in_u ro_109_20 | (have a0 := ro_109_20; unfold In at a0)); (first | have a1 := in_u h2 | (have a1 := h2; unfold In at a1)); (first | have a2 := in_u i8 | (have a2 := i8; unfold In at a2)))); have a3 := t_sub e8 ro_109_20 (in_c 1 rfl) rfl; (first | have a4 := oa2 ((in_c 1 rfl)) ((in_c 40 rfl)) | ((first | have a4 := in_u ((in_c 1 rfl)) | (have a4 := (in_c 1 rfl); unfold In at a4)); (first | have a5 := in_u ((in_c 40 rfl)) | (have a5 := (in_c 40 rfl); unfold In at a5)))); (first | exact zt_l (by decide) (by omega) | omega), ?_⟩; exact e22.symm.trans (Int32.toInt_inj.mp c24))
  exact gg_w (by first | exact Nat.le_of_ble_eq_true rfl | omega) (gg_f (gf_cons rfl (gf_cons rfl (gf_cons rfl (gf_cons rfl (gf_cons rfl gf_nil))))) (ct11 33  (Int32.ofInt 40) z8  (in_w 0 40 (in_c 40 rfl) rfl) (in_w (-1) 31 i8 rfl) n11 (m_ind 33 (in_w (-1) 31 i8 rfl) rfl)))

/-- GraphHouseModel.freeGroup -/
theorem k_377 {Z : AmZ} {A : Nat → Nat} {s : GS} {ex : va_W} {d : Nat} {X : AmX}  (hd : 2 ≤ d) (hI : Inv s)  : GC Z d 377 [.ref (A 109)] (WW Z A s ++ ex) 0 0 (fun v u => ∃ z : Int32, v = some (.int z) ∧ u = WW Z A s ++ ex ∧ In z 0 32) X := by
  intro post xp hP hX
  have ct2 : ∀ (k2 : Nat) (y2_1 : Int32), (In y2_1 0 32) → ((y2_1).toInt ≤ (cgr (s.1 169) (y2_1).toInt : Int)) → 33 - (y2_1).toInt < (k2 : Int) → GG Z (d - 1) 377 post (gx xp) (1 + k2 * 900) 2 (fun j => xlook j [(0, .ref (A 109)), (1, .int y2_1)]) [] (WW Z A s ++ ex) 0 0 := by
    intro k2
    induction k2 with
    | zero => intro y2_1 j2_1 g2_0 mm2; exfalso; have a0 := j2_1; unfold In at a0; omega
    | succ k2 ih2 =>
      intro y2_1 j2_1 g2_0 mm2
      refine gg_w (M := 1 + k2 * 900 + 900) gws ?_
      refine g_aload_n 3 (gd rfl) rfl rfl ?_
      refine g_iload_n 4 (gd rfl) rfl rfl ?_
      refine g_iconst (-1) 5 (gd rfl) rfl rfl ?_
      refine g_callv (X := _) (As := [.int y2_1, .int (Int32.ofInt (-1))]) (r := []) (b := A 109) (q := 109) 8 (gd rfl) rfl rfl rfl rfl rfl (ww_o rfl) (Nat.le_of_ble_eq_true rfl) (Nat.zero_le _) (Nat.zero_le _) (k_375 (by first | exact dq1 hd rfl | exact dq0 hd rfl | exact dq2 hd rfl | exact dq3 hd rfl | omega) hI (in_w (-1) 31 (in_c (-1) rfl) rfl)) (fun e u h => h) (fun v u h => ?_)
      obtain ⟨z5, rfl, rfl, i5, p5⟩ := h
      show GG _ _ _ _ _ _ _ _ [.int z5] _ _ _
      refine g_bipush 40 10 (gd rfl) rfl rfl ?_
      refine g_cmp_ge 13 19 (gd rfl) rfl rfl (fun c10 => ?_) (fun c10 => ?_)
      · skip
        have i10 := r_le2 40 40 c10 (in_c 40 rfl) i5 rfl
        refine g_iload_n 20 (gd rfl) rfl rfl ?_
        exact g_ireturn (gd rfl) rfl rfl (hP _ _ ⟨y2_1, rfl, rfl, in_w 0 32 j2_1 rfl⟩)
      · skip
        have i10 := r_lt1 0 39 c10 i5 (in_c 40 rfl) rfl
        refine g_iinc 16 (gd rfl) rfl rfl (Nat.le_of_ble_eq_true rfl) (fun z13 e13 => ?_)
        have i13 := in_add 1 33 e13 j2_1 (in_c 1 rfl) rfl rfl
        have n2q : (z13).toInt ≤ (cgr (s.1 169) (z13).toInt : Int) := cgr_s (by have h := j2_1; unfold In at h; omega) (t_add e13 j2_1 (in_c 1 rfl) rfl) (p5 c10) g2_0
        refine g_goto 2 (gd rfl) rfl ?_
        have i2 : In z13 0 32 := by have hc := cgr_le (s.1 169) (z13).toInt; have hq := n2q; exact ⟨by (first | have a0 := oa2 j2_1 i13 | ((first | have a0 := in_u j2_1 | (have a0 := j2_1; unfold In at a0)); (first | have a1 := in_u i13 | (have a1 := i13; unfold In at a1)))); have a2 := t_add e13 j2_1 (in_c 1 rfl) rfl; (first | have a3 := in_u ((in_c 1 rfl)) | (have a3 := (in_c 1 rfl); unfold In at a3)); omega, by omega⟩
        have n2 : (z13).toInt ≤ (cgr (s.1 169) (z13).toInt : Int) := by first | exact n2q | (show (Int32.ofInt 0).toInt ≤ _; have h0 : (Int32.ofInt 0).toInt = 0 := rfl; omega)
        have m2 : 33 - (z13).toInt < ((k2 : Nat) : Int) := by (first | have a0 := oa2 j2_1 i2 | ((first | have a0 := in_u j2_1 | (have a0 := j2_1; unfold In at a0)); (first | have a1 := in_u i2 | (have a1 := i2; unfold In at a1)))); have a2 := t_add e13 j2_1 (in_c 1 rfl) rfl; (first | have a3 := in_u ((in_c 1 rfl)) | (have a3 := (in_c 1 rfl); unfold In at a3)); omega
        exact gg_w (by first | exact Nat.le_add_right _ _ | exact gw2 | exact gw3 | exact gwe rfl | exact gwf rfl | exact gwg rfl | exact gwh rfl | omega) (gg_f (gf_cons rfl (gf_cons rfl gf_nil)) (ih2   z13  i2 n2 m2))
  refine g_enter2 (k := 377) (N := 36901) (by first | exact dq1 hd rfl | exact dq0 hd rfl | exact dq2 hd rfl | exact dq3 hd rfl | omega) rfl (Nat.le_of_ble_eq_true rfl) ?_
  refine g_iconst 0 1 (gd rfl) rfl rfl ?_
  refine g_istore_n 2 (gd rfl) rfl (Nat.le_of_ble_eq_true rfl) ?_
  have n2 : ((Int32.ofInt 0)).toInt ≤ (cgr (s.1 169) ((Int32.ofInt 0)).toInt : Int) := by first | exact n2q | (show (Int32.ofInt 0).toInt ≤ _; have h0 : (Int32.ofInt 0).toInt = 0 := rfl; omega)
  have m2 : 33 - ((Int32.ofInt 0)).toInt < ((40 : Nat) : Int) := by (first | have a0 := in_u ((in_c 0 rfl)) | (have a0 := (in_c 0 rfl); unfold In at a0)); omega
  exact gg_w (by first | exact Nat.le_of_ble_eq_true rfl | omega) (gg_f (gf_cons rfl (gf_cons rfl gf_nil)) (ct2 40  (Int32.ofInt 0)  (in_w 0 32 (in_c 0 rfl) rfl) n2 m2))

def fm_380 : FM := ([138], [], [(109, 0)], [])
/-- GraphHouseModel.figures -/
theorem k_380 {Z : AmZ} {A : Nat → Nat} {s : GS} {ex : va_W} {d : Nat} {X : AmX} {x1 : Int32} (hd : 4 ≤ d) (hI : Inv s)  : GC Z d 380 [.ref (A 109), .int x1] (WW Z A s ++ ex) 0 0 (fun v u => ∃ t : GS, Inv t ∧ Fr fm_380 s t ∧ ∃ z : Int64, v = some (.long z) ∧ u = WW Z A t ++ ex) X := by
  intro post xp hP hX
  obtain ⟨u_109_20, e_109_20⟩ : ∃ w, w = s.2.2.1 109 20 := ⟨_, rfl⟩
  have ro_109_20 := inv_F hI 0 32 rfl e_109_20
  have ct25 : ∀ (k25 : Nat) (sc25 : GS) (y25_2 : Int64) (y25_4 : Int32), Inv sc25 → Fr fm_380 s sc25 → (In x1 0 1) → (In y25_4 0 32) → 32 - (y25_4).toInt < (k25 : Int) → GG Z (d - 1) 380 post (gx xp) (1 + k25 * 31501) 25 (fun j => xlook j [(0, .ref (A 109)), (1, .int x1), (2, .long y25_2), (4, .int y25_4)]) [] (WW Z A sc25 ++ ex) 0 0 := by
    intro k25
    induction k25 with
    | zero => intro sc25 y25_2 y25_4 hIc25 hFc25 j25_1 j25_4 mm25; exact m_no mm25 j25_4 rfl
    | succ k25 ih25 =>
      intro sc25 y25_2 y25_4 hIc25 hFc25 j25_1 j25_4 mm25
      refine gg_w (M := 1 + k25 * 31501 + 31501) gws ?_
      have ct40 : ∀ (k40 : Nat) (sc40 : GS) (y40_2 : Int64) (y40_5 : Int32), Inv sc40 → Fr fm_380 s sc40 → (In y25_4 0 31) → (In y40_5 1 32) → 32 - (y40_5).toInt < (k40 : Int) → GG Z (d - 1) 380 post (gx xp) (1 + k25 * 31501 + 1 + k40 * 900) 40 (fun j => xlook j [(0, .ref (A 109)), (1, .int x1), (2, .long y40_2), (4, .int y25_4), (5, .int y40_5)]) [] (WW Z A sc40 ++ ex) 0 0 := by
        intro k40
        induction k40 with
        | zero => intro sc40 y40_2 y40_5 hIc40 hFc40 j40_4 j40_5 mm40; exact m_no mm40 j40_5 rfl
        | succ k40 ih40 =>
          intro sc40 y40_2 y40_5 hIc40 hFc40 j40_4 j40_5 mm40
          refine gg_w (M := 1 + k25 * 31501 + 1 + k40 * 900 + 900) gws ?_
          refine g_iload 42 (gd rfl) rfl rfl ?_
          refine g_aload_n 43 (gd rfl) rfl rfl ?_
          refine g_getI 46 (gd rfl) rfl rfl rfl (fun z43 e43 => ?_)
          have q43 : u_109_20 = z43 := (fr_F e_109_20 hFc40 rfl).trans e43.symm
          subst q43
          refine g_cmp_ge 49 119 (gd rfl) rfl rfl (fun c46 => ?_) (fun c46 => ?_)
          · skip
            refine g_iinc 122 (gd rfl) rfl rfl (Nat.le_of_ble_eq_true rfl) (fun z119 e119 => ?_)
            have i119 := in_add 1 32 e119 j40_4 (in_c 1 rfl) rfl rfl
            refine g_goto 25 (gd rfl) rfl ?_
            exact gg_w (by first | exact Nat.le_add_right _ _ | exact gw2 | exact gw3 | exact gwe rfl | exact gwf rfl | exact gwg rfl | exact gwh rfl | omega) (gg_f (gf_cons rfl (gf_cons rfl (gf_cons rfl (gf_cons rfl gf_nil)))) (ih25 sc40 y40_2 z119 hIc40 hFc40 (in_w 0 1 j25_1 rfl) (in_w 0 32 i119 rfl) (m_up mm25 (t_add e119 j40_4 (in_c 1 rfl) rfl) (in_w 1 1 (in_c 1 rfl) rfl))))
          · skip
            have i46 := r_lt1 1 31 c46 j40_5 ro_109_20 rfl
            have i46a := r_lt2 2 32 c46 j40_5 ro_109_20 rfl
            refine g_aload_n 50 (gd rfl) rfl rfl ?_
            refine g_getA (q2 := 138) 53 (gd rfl) rfl rfl rfl rfl ?_
            refine g_iload 55 (gd rfl) rfl rfl ?_
            refine g_iaload 56 (gd rfl) rfl (n := 32) rfl (in_ix j40_4 rfl) (fun z55 e55 => ?_)
            refine g_aload_n 57 (gd rfl) rfl rfl ?_
            refine g_getA (q2 := 138) 60 (gd rfl) rfl rfl rfl rfl ?_
            refine g_iload 62 (gd rfl) rfl rfl ?_
            refine g_iaload 63 (gd rfl) rfl (n := 32) rfl (in_ix i46 rfl) (fun z62 e62 => ?_)
            refine g_iand 64 (gd rfl) rfl (fun z63 e63 => ?_)
            refine g_calls (As := [.int z63]) (r := []) 67 (gd rfl) rfl rfl rfl rfl rfl (Nat.le_of_ble_eq_true rfl) (Nat.zero_le _) (Nat.zero_le _) (k_336 (by first | exact dq1 hd rfl | exact dq0 hd rfl | exact dq2 hd rfl | exact dq3 hd rfl | omega) hIc40 ) (fun v u h => ?_)
            obtain ⟨z64, rfl, rfl, i64, p64⟩ := h
            show GG _ _ _ _ _ _ _ _ [.int z64] _ _ _
            refine g_i2l 68 (gd rfl) rfl (fun z67 e67 => ?_)
            have i67 := l_i e67 i64
            refine g_lstore 70 (gd rfl) rfl (Nat.le_of_ble_eq_true rfl) ?_
            refine g_lload_n 71 (gd rfl) rfl rfl ?_
            refine g_iload_n 72 (gd rfl) rfl rfl ?_
            refine g_iconst 1 73 (gd rfl) rfl rfl ?_
            refine g_cmp_ne 76 90 (gd rfl) rfl rfl (fun c73 => ?_) (fun c73 => ?_)
            · skip
              have i73 := r_ne1 0 0 c73 j25_1 (in_c 1 rfl) rfl
              refine g_aload_n 91 (gd rfl) rfl rfl ?_
              refine g_getA (q2 := 138) 94 (gd rfl) rfl rfl rfl rfl ?_
              refine g_iload 96 (gd rfl) rfl rfl ?_
              refine g_iaload 97 (gd rfl) rfl (n := 32) rfl (in_ix j40_4 rfl) (fun z96 e96 => ?_)
              have q96 : z55 = z96 := (e55).trans e96.symm
              subst q96
              refine g_iload 99 (gd rfl) rfl rfl ?_
              refine g_calls (As := [.int z55, .int y40_5]) (r := [.long y40_2]) 102 (gd rfl) rfl rfl rfl rfl rfl (Nat.le_of_ble_eq_true rfl) (mc := 0) (ms := 0) (Nat.zero_le _) (Nat.zero_le _) (P := fun v u => _) ?_ (fun v u h => h)
              intro po99 xx99 hp99 hx99
              refine g_enter2 (k := 311) (N := 300) (by first | exact dq1 hd rfl | exact dq0 hd rfl | exact dq2 hd rfl | exact dq3 hd rfl | omega) rfl (Nat.le_of_ble_eq_true rfl) ?_
              refine g_iload_n 1 (gd rfl) rfl rfl ?_
              refine g_iload_n 2 (gd rfl) rfl rfl ?_
              refine g_ishr 3 (gd rfl) rfl (fun z99x2 e99x2 => ?_)
              refine g_iconst 1 4 (gd rfl) rfl rfl ?_
              refine g_iand 5 (gd rfl) rfl (fun z99x4 e99x4 => ?_)
              have i99x4 := in_and2 e99x4 (in_c 1 rfl) rfl
              refine g_iconst 1 6 (gd rfl) rfl rfl ?_
              refine g_cmp_ne 9 13 (gd rfl) rfl rfl (fun c99x6 => ?_) (fun c99x6 => ?_)
              · skip
                have i99x6 := r_ne1 0 0 c99x6 i99x4 (in_c 1 rfl) rfl
                refine g_iconst 0 14 (gd rfl) rfl rfl ?_
                refine g_ireturn (gd rfl) rfl (nb01 (in_w 0 1 (in_c 0 rfl) rfl)) (hp99 _ _ ?_)
                show GG _ _ _ _ _ _ _ _ [.int (Int32.ofInt 0), .long y40_2] _ _ _
                refine g_if_eq 105 110 (gd rfl) rfl rfl (fun c102 => ?_) (fun c102 => ?_)
                · skip
                  refine g_lconst 0 111 (gd rfl) rfl rfl ?_
                  refine g_ladd 112 (gd rfl) rfl (fun z111 e111 => ?_)
                  refine g_lstore_n 113 (gd rfl) rfl (Nat.le_of_ble_eq_true rfl) ?_
                  refine g_iinc 116 (gd rfl) rfl rfl (Nat.le_of_ble_eq_true rfl) (fun z113 e113 => ?_)
                  have i113 := in_add 2 32 e113 i46 (in_c 1 rfl) rfl rfl
                  refine g_goto 40 (gd rfl) rfl ?_
                  exact gg_w (by first | exact Nat.le_add_right _ _ | exact gw2 | exact gw3 | exact gwe rfl | exact gwf rfl | exact gwg rfl | exact gwh rfl | omega) (gg_f (gf_cons rfl (gf_cons rfl (gf_cons rfl (gf_cons rfl (gf_cons rfl gf_nil))))) (ih40 sc40 z111 z113 hIc40 hFc40 (in_w 0 31 j40_4 rfl) (in_w 1 32 i113 rfl) (m_up mm40 (t_add e113 i46 (in_c 1 rfl) rfl) (in_w 1 1 (in_c 1 rfl) rfl))))
                · skip
                  exact zn_ne c102 (in_c 0 rfl) rfl
              · skip
                have i99x6 := r_eq1 1 1 c99x6 i99x4 (in_c 1 rfl) rfl
                refine g_iconst 1 10 (gd rfl) rfl rfl ?_
                refine g_goto 14 (gd rfl) rfl ?_
                refine g_ireturn (gd rfl) rfl (nb01 (in_w 0 1 (in_c 1 rfl) rfl)) (hp99 _ _ ?_)
                show GG _ _ _ _ _ _ _ _ [.int (Int32.ofInt 1), .long y40_2] _ _ _
                refine g_if_eq 105 110 (gd rfl) rfl rfl (fun c102 => ?_) (fun c102 => ?_)
                · skip
                  exact zn_eq c102 (in_c 1 rfl) rfl
                · skip
                  refine g_lload 107 (gd rfl) rfl rfl ?_
                  refine g_goto 111 (gd rfl) rfl ?_
                  refine g_ladd 112 (gd rfl) rfl (fun z111 e111 => ?_)
                  refine g_lstore_n 113 (gd rfl) rfl (Nat.le_of_ble_eq_true rfl) ?_
                  refine g_iinc 116 (gd rfl) rfl rfl (Nat.le_of_ble_eq_true rfl) (fun z113 e113 => ?_)
                  have i113 := in_add 2 32 e113 i46 (in_c 1 rfl) rfl rfl
                  refine g_goto 40 (gd rfl) rfl ?_
                  exact gg_w (by first | exact Nat.le_add_right _ _ | exact gw2 | exact gw3 | exact gwe rfl | exact gwf rfl | exact gwg rfl | exact gwh rfl | omega) (gg_f (gf_cons rfl (gf_cons rfl (gf_cons rfl (gf_cons rfl (gf_cons rfl gf_nil))))) (ih40 sc40 z111 z113 hIc40 hFc40 (in_w 0 31 j40_4 rfl) (in_w 1 32 i113 rfl) (m_up mm40 (t_add e113 i46 (in_c 1 rfl) rfl) (in_w 1 1 (in_c 1 rfl) rfl))))
            · skip
              have i73 := r_eq1 1 1 c73 j25_1 (in_c 1 rfl) rfl
              refine g_lload 78 (gd rfl) rfl rfl ?_
              refine g_lload 80 (gd rfl) rfl rfl ?_
              refine g_lconst 1 81 (gd rfl) rfl rfl ?_
              refine g_lsub 82 (gd rfl) rfl (fun z81 e81 => ?_)
              have i81 := l_sub (-1) 31 e81 i67 (l_c 1 rfl) rfl
              refine g_lmul 83 (gd rfl) rfl (fun z82 e82 => ?_)
              refine g_ldc2_w 2 86 (gd rfl) rfl rfl ?_
              refine g_ldiv 87 (gd rfl) rfl (by decide) (fun z86 e86 => ?_)
              refine g_goto 111 (gd rfl) rfl ?_
              refine g_ladd 112 (gd rfl) rfl (fun z111 e111 => ?_)
              refine g_lstore_n 113 (gd rfl) rfl (Nat.le_of_ble_eq_true rfl) ?_
              refine g_iinc 116 (gd rfl) rfl rfl (Nat.le_of_ble_eq_true rfl) (fun z113 e113 => ?_)
              have i113 := in_add 2 32 e113 i46 (in_c 1 rfl) rfl rfl
              refine g_goto 40 (gd rfl) rfl ?_
              exact gg_w (by first | exact Nat.le_add_right _ _ | exact gw2 | exact gw3 | exact gwe rfl | exact gwf rfl | exact gwg rfl | exact gwh rfl | omega) (gg_f (gf_cons rfl (gf_cons rfl (gf_cons rfl (gf_cons rfl (gf_cons rfl gf_nil))))) (ih40 sc40 z111 z113 hIc40 hFc40 (in_w 0 31 j40_4 rfl) (in_w 1 32 i113 rfl) (m_up mm40 (t_add e113 i46 (in_c 1 rfl) rfl) (in_w 1 1 (in_c 1 rfl) rfl))))
      refine g_iload 27 (gd rfl) rfl rfl ?_
      refine g_aload_n 28 (gd rfl) rfl rfl ?_
      refine g_getI 31 (gd rfl) rfl rfl rfl (fun z28 e28 => ?_)
      have q28 : u_109_20 = z28 := (fr_F e_109_20 hFc25 rfl).trans e28.symm
      subst q28
      refine g_cmp_ge 34 125 (gd rfl) rfl rfl (fun c31 => ?_) (fun c31 => ?_)
      · skip
        refine g_iload_n 126 (gd rfl) rfl rfl ?_
        refine g_if_ne 129 137 (gd rfl) rfl rfl (fun c126 => ?_) (fun c126 => ?_)
        · skip
          have i126 := z_ne 1 1 c126 j25_1 rfl
          refine g_lload_n 138 (gd rfl) rfl rfl ?_
          refine g_ldc2_w 2 141 (gd rfl) rfl rfl ?_
          refine g_ldiv 142 (gd rfl) rfl (by decide) (fun z141 e141 => ?_)
          exact g_lreturn (gd rfl) rfl (hP _ _ ⟨sc25, hIc25, hFc25, z141, rfl, rfl⟩)
        · skip
          have i126 := z_eq 0 0 c126 j25_1 rfl
          refine g_lload_n 130 (gd rfl) rfl rfl ?_
          refine g_ldc2_w 3 133 (gd rfl) rfl rfl ?_
          refine g_ldiv 134 (gd rfl) rfl (by decide) (fun z133 e133 => ?_)
          refine g_goto 142 (gd rfl) rfl ?_
          exact g_lreturn (gd rfl) rfl (hP _ _ ⟨sc25, hIc25, hFc25, z133, rfl, rfl⟩)
      · skip
        have i31 := r_lt1 0 31 c31 j25_4 ro_109_20 rfl
        have i31a := r_lt2 1 32 c31 j25_4 ro_109_20 rfl
        refine g_iload 36 (gd rfl) rfl rfl ?_
        refine g_iconst 1 37 (gd rfl) rfl rfl ?_
        refine g_iadd 38 (gd rfl) rfl (fun z37 e37 => ?_)
        have i37 := in_add 1 32 e37 i31 (in_c 1 rfl) rfl rfl
        refine g_istore 40 (gd rfl) rfl (Nat.le_of_ble_eq_true rfl) ?_
        exact gg_w (by first | exact Nat.le_add_right _ _ | exact gw2 | exact gw3 | exact gwe rfl | exact gwf rfl | exact gwg rfl | exact gwh rfl | omega) (gg_f (gf_cons rfl (gf_cons rfl (gf_cons rfl (gf_cons rfl (gf_cons rfl gf_nil))))) (ct40 32 sc25 y25_2 z37 hIc25 hFc25 (in_w 0 31 i31 rfl) (in_w 1 32 i37 rfl) (m_in 32 (in_w 1 32 i37 rfl) rfl)))
  refine g_enter2 (k := 380) (N := 1040434) (by first | exact dq1 hd rfl | exact dq0 hd rfl | exact dq2 hd rfl | exact dq3 hd rfl | omega) rfl (Nat.le_of_ble_eq_true rfl) ?_
  refine g_aload_n 1 (gd rfl) rfl rfl ?_
  refine g_iload_n 2 (gd rfl) rfl rfl ?_
  refine g_i2l 3 (gd rfl) rfl (fun z2 e2 => ?_)
  have i2 := l_i e2 (i_rng x1)
  refine g_lconst 0 4 (gd rfl) rfl rfl ?_
  refine g_lconst 1 5 (gd rfl) rfl rfl ?_
  refine g_calls (As := [.long z2, .long (Int64.ofInt 0), .long (Int64.ofInt 1)]) (r := [.ref (A 109)]) 8 (gd rfl) rfl rfl rfl rfl rfl (Nat.le_of_ble_eq_true rfl) (mc := 0) (ms := 0) (Nat.zero_le _) (Nat.zero_le _) (P := fun v u => _) ?_ (fun v u h => h)
  intro po5 xx5 hp5 hx5
  refine g_enter2 (k := 269) (N := 300) (by first | exact dq1 hd rfl | exact dq0 hd rfl | exact dq2 hd rfl | exact dq3 hd rfl | omega) rfl (Nat.le_of_ble_eq_true rfl) ?_
  refine g_lload_n 1 (gd rfl) rfl rfl ?_
  refine g_lload_n 2 (gd rfl) rfl rfl ?_
  refine g_lcmp 3 (gd rfl) rfl (fun z5x2 e5x2 => ?_)
  have i5x2 := lc_in e5x2
  refine g_if_lt 6 17 (gd rfl) rfl rfl (fun c5x3 => ?_) (fun c5x3 => ?_)
  · skip
    have i5x3 := z_lt (-1) (-1) c5x3 i5x2 rfl
    have c5x3a := lc_lt e5x2 c5x3
    have i5x3a := lr_lt1 (-2147483648) (-1) c5x3a i2 (l_c 0 rfl) rfl
    have i5x3b := l_b e2 i5x3a
    refine g_iconst 0 18 (gd rfl) rfl rfl ?_
    refine g_ireturn (gd rfl) rfl (nb01 (in_w 0 1 (in_c 0 rfl) rfl)) (hp5 _ _ ?_)
    show GG _ _ _ _ _ _ _ _ [.int (Int32.ofInt 0), .ref (A 109)] _ _ _
    refine g_callv (X := _) (As := [.int (Int32.ofInt 0)]) (r := []) (b := A 109) (q := 109) 11 (gd rfl) rfl rfl rfl rfl rfl (ww_o rfl) (Nat.le_of_ble_eq_true rfl) (mc := 0) (ms := 0) (Nat.zero_le _) (Nat.zero_le _) (P := fun v u => _) ?_ (fun e u h => h) (fun v u h => h)
    intro po8 xx8 hp8 hx8
    refine g_enter2 (k := 271) (N := 300) (by first | exact dq1 hd rfl | exact dq0 hd rfl | exact dq2 hd rfl | exact dq3 hd rfl | omega) rfl (Nat.le_of_ble_eq_true rfl) ?_
    refine g_aload_n 1 (gd rfl) rfl rfl ?_
    refine g_iload_n 2 (gd rfl) rfl rfl ?_
    refine g_iconst 1 3 (gd rfl) rfl rfl ?_
    refine g_callv (X := _) (As := [.int (Int32.ofInt 0), .int (Int32.ofInt 1)]) (r := []) (b := A 109) (q := 109) 6 (gd rfl) rfl rfl rfl rfl rfl (ww_o rfl) (Nat.le_of_ble_eq_true rfl) (mc := 0) (ms := 0) (Nat.zero_le _) (Nat.zero_le _) (P := fun v u => _) ?_ (fun e u h => h) (fun v u h => h)
    intro po8x3 xx8x3 hp8x3 hx8x3
    refine g_enter2 (k := 270) (N := 300) (by first | exact dq1 hd rfl | exact dq0 hd rfl | exact dq2 hd rfl | exact dq3 hd rfl | omega) rfl (Nat.le_of_ble_eq_true rfl) ?_
    refine g_aload_n 1 (gd rfl) rfl rfl ?_
    refine g_iload_n 2 (gd rfl) rfl rfl ?_
    refine g_if_ne 5 9 (gd rfl) rfl rfl (fun c8x3x2 => ?_) (fun c8x3x2 => ?_)
    · skip
      exact zn_ne c8x3x2 (in_c 0 rfl) rfl
    · skip
      refine g_iconst 1 6 (gd rfl) rfl rfl ?_
      refine g_goto 18 (gd rfl) rfl ?_
      refine g_putI 21 (gd rfl) rfl rfl rfl rfl ?_
      have hI8x3x18 := inv_sF (q := 109) (j := 0) hI rfl (in_w 0 2 (in_c 1 rfl) rfl)
      refine g_aload_n 22 (gd rfl) rfl rfl ?_
      refine g_getI 25 (gd rfl) rfl rfl rfl (fun z8x3x22 e8x3x22 => ?_)
      have q8x3x22 : (Int32.ofInt 1) = z8x3x22 := (sF_get).trans e8x3x22.symm
      subst q8x3x22
      refine g_if_le 28 32 (gd rfl) rfl rfl (fun c8x3x25 => ?_) (fun c8x3x25 => ?_)
      · skip
        exact zn_le c8x3x25 (in_c 1 rfl) rfl
      · skip
        refine g_iconst 1 29 (gd rfl) rfl rfl ?_
        refine g_goto 33 (gd rfl) rfl ?_
        refine g_ireturn (gd rfl) rfl (nb01 (in_w 0 1 (in_c 1 rfl) rfl)) (hp8x3 _ _ ?_)
        show GG _ _ _ _ _ _ _ _ [.int (Int32.ofInt 1)] _ _ _
        refine g_ireturn (gd rfl) rfl (nb01 (in_w 0 1 (in_c 1 rfl) rfl)) (hp8 _ _ ?_)
        show GG _ _ _ _ _ _ _ _ [.int (Int32.ofInt 1)] _ _ _
        refine g_if_eq 14 16 (gd rfl) rfl rfl (fun c11 => ?_) (fun c11 => ?_)
        · skip
          exact zn_eq c11 (in_c 1 rfl) rfl
        · skip
          refine g_lconst 0 15 (gd rfl) rfl rfl ?_
          exact g_lreturn (gd rfl) rfl (hP _ _ ⟨(sF s 109 0 (Int32.ofInt 1)), hI8x3x18, (fr_sF rfl fr_rf), (Int64.ofInt 0), rfl, rfl⟩)
  · skip
    have i5x3 := z_ge 0 1 c5x3 i5x2 rfl
    have c5x3a := lc_ge e5x2 c5x3
    have i5x3a := lr_le2 0 2147483647 c5x3a (l_c 0 rfl) i2 rfl
    have i5x3b := l_b e2 i5x3a
    refine g_lload_n 7 (gd rfl) rfl rfl ?_
    refine g_lload 9 (gd rfl) rfl rfl ?_
    refine g_lcmp 10 (gd rfl) rfl (fun z5x9 e5x9 => ?_)
    have i5x9 := lc_in e5x9
    refine g_if_gt 13 17 (gd rfl) rfl rfl (fun c5x10 => ?_) (fun c5x10 => ?_)
    · skip
      have i5x10 := z_gt 1 1 c5x10 i5x9 rfl
      have c5x10a := lc_gt e5x9 c5x10
      have i5x10a := lr_lt2 2 2147483647 c5x10a (l_c 1 rfl) i5x3a rfl
      have i5x10b := l_b e2 i5x10a
      refine g_iconst 0 18 (gd rfl) rfl rfl ?_
      refine g_ireturn (gd rfl) rfl (nb01 (in_w 0 1 (in_c 0 rfl) rfl)) (hp5 _ _ ?_)
      show GG _ _ _ _ _ _ _ _ [.int (Int32.ofInt 0), .ref (A 109)] _ _ _
      refine g_callv (X := _) (As := [.int (Int32.ofInt 0)]) (r := []) (b := A 109) (q := 109) 11 (gd rfl) rfl rfl rfl rfl rfl (ww_o rfl) (Nat.le_of_ble_eq_true rfl) (mc := 0) (ms := 0) (Nat.zero_le _) (Nat.zero_le _) (P := fun v u => _) ?_ (fun e u h => h) (fun v u h => h)
      intro po8 xx8 hp8 hx8
      refine g_enter2 (k := 271) (N := 300) (by first | exact dq1 hd rfl | exact dq0 hd rfl | exact dq2 hd rfl | exact dq3 hd rfl | omega) rfl (Nat.le_of_ble_eq_true rfl) ?_
      refine g_aload_n 1 (gd rfl) rfl rfl ?_
      refine g_iload_n 2 (gd rfl) rfl rfl ?_
      refine g_iconst 1 3 (gd rfl) rfl rfl ?_
      refine g_callv (X := _) (As := [.int (Int32.ofInt 0), .int (Int32.ofInt 1)]) (r := []) (b := A 109) (q := 109) 6 (gd rfl) rfl rfl rfl rfl rfl (ww_o rfl) (Nat.le_of_ble_eq_true rfl) (mc := 0) (ms := 0) (Nat.zero_le _) (Nat.zero_le _) (P := fun v u => _) ?_ (fun e u h => h) (fun v u h => h)
      intro po8x3 xx8x3 hp8x3 hx8x3
      refine g_enter2 (k := 270) (N := 300) (by first | exact dq1 hd rfl | exact dq0 hd rfl | exact dq2 hd rfl | exact dq3 hd rfl | omega) rfl (Nat.le_of_ble_eq_true rfl) ?_
      refine g_aload_n 1 (gd rfl) rfl rfl ?_
      refine g_iload_n 2 (gd rfl) rfl rfl ?_
      refine g_if_ne 5 9 (gd rfl) rfl rfl (fun c8x3x2 => ?_) (fun c8x3x2 => ?_)
      · skip
        exact zn_ne c8x3x2 (in_c 0 rfl) rfl
      · skip
        refine g_iconst 1 6 (gd rfl) rfl rfl ?_
        refine g_goto 18 (gd rfl) rfl ?_
        refine g_putI 21 (gd rfl) rfl rfl rfl rfl ?_
        have hI8x3x18 := inv_sF (q := 109) (j := 0) hI rfl (in_w 0 2 (in_c 1 rfl) rfl)
        refine g_aload_n 22 (gd rfl) rfl rfl ?_
        refine g_getI 25 (gd rfl) rfl rfl rfl (fun z8x3x22 e8x3x22 => ?_)
        have q8x3x22 : (Int32.ofInt 1) = z8x3x22 := (sF_get).trans e8x3x22.symm
        subst q8x3x22
        refine g_if_le 28 32 (gd rfl) rfl rfl (fun c8x3x25 => ?_) (fun c8x3x25 => ?_)
        · skip
          exact zn_le c8x3x25 (in_c 1 rfl) rfl
        · skip
          refine g_iconst 1 29 (gd rfl) rfl rfl ?_
          refine g_goto 33 (gd rfl) rfl ?_
          refine g_ireturn (gd rfl) rfl (nb01 (in_w 0 1 (in_c 1 rfl) rfl)) (hp8x3 _ _ ?_)
          show GG _ _ _ _ _ _ _ _ [.int (Int32.ofInt 1)] _ _ _
          refine g_ireturn (gd rfl) rfl (nb01 (in_w 0 1 (in_c 1 rfl) rfl)) (hp8 _ _ ?_)
          show GG _ _ _ _ _ _ _ _ [.int (Int32.ofInt 1)] _ _ _
          refine g_if_eq 14 16 (gd rfl) rfl rfl (fun c11 => ?_) (fun c11 => ?_)
          · skip
            exact zn_eq c11 (in_c 1 rfl) rfl
          · skip
            refine g_lconst 0 15 (gd rfl) rfl rfl ?_
            exact g_lreturn (gd rfl) rfl (hP _ _ ⟨(sF s 109 0 (Int32.ofInt 1)), hI8x3x18, (fr_sF rfl fr_rf), (Int64.ofInt 0), rfl, rfl⟩)
    · skip
      have i5x10 := z_le (-1) 0 c5x10 i5x9 rfl
      have c5x10a := lc_le e5x9 c5x10
      have i5x10a := lr_le1 0 1 c5x10a i5x3a (l_c 1 rfl) rfl
      have i5x10b := l_b e2 i5x10a
      refine g_iconst 1 14 (gd rfl) rfl rfl ?_
      refine g_goto 18 (gd rfl) rfl ?_
      refine g_ireturn (gd rfl) rfl (nb01 (in_w 0 1 (in_c 1 rfl) rfl)) (hp5 _ _ ?_)
      show GG _ _ _ _ _ _ _ _ [.int (Int32.ofInt 1), .ref (A 109)] _ _ _
      refine g_callv (X := _) (As := [.int (Int32.ofInt 1)]) (r := []) (b := A 109) (q := 109) 11 (gd rfl) rfl rfl rfl rfl rfl (ww_o rfl) (Nat.le_of_ble_eq_true rfl) (mc := 0) (ms := 0) (Nat.zero_le _) (Nat.zero_le _) (P := fun v u => _) ?_ (fun e u h => h) (fun v u h => h)
      intro po8 xx8 hp8 hx8
      refine g_enter2 (k := 271) (N := 300) (by first | exact dq1 hd rfl | exact dq0 hd rfl | exact dq2 hd rfl | exact dq3 hd rfl | omega) rfl (Nat.le_of_ble_eq_true rfl) ?_
      refine g_aload_n 1 (gd rfl) rfl rfl ?_
      refine g_iload_n 2 (gd rfl) rfl rfl ?_
      refine g_iconst 1 3 (gd rfl) rfl rfl ?_
      refine g_callv (X := _) (As := [.int (Int32.ofInt 1), .int (Int32.ofInt 1)]) (r := []) (b := A 109) (q := 109) 6 (gd rfl) rfl rfl rfl rfl rfl (ww_o rfl) (Nat.le_of_ble_eq_true rfl) (mc := 0) (ms := 0) (Nat.zero_le _) (Nat.zero_le _) (P := fun v u => _) ?_ (fun e u h => h) (fun v u h => h)
      intro po8x3 xx8x3 hp8x3 hx8x3
      refine g_enter2 (k := 270) (N := 300) (by first | exact dq1 hd rfl | exact dq0 hd rfl | exact dq2 hd rfl | exact dq3 hd rfl | omega) rfl (Nat.le_of_ble_eq_true rfl) ?_
      refine g_aload_n 1 (gd rfl) rfl rfl ?_
      refine g_iload_n 2 (gd rfl) rfl rfl ?_
      refine g_if_ne 5 9 (gd rfl) rfl rfl (fun c8x3x2 => ?_) (fun c8x3x2 => ?_)
      · skip
        refine g_iload_n 10 (gd rfl) rfl rfl ?_
        refine g_if_ne 13 17 (gd rfl) rfl rfl (fun c8x3x10 => ?_) (fun c8x3x10 => ?_)
        · skip
          refine g_iconst 0 18 (gd rfl) rfl rfl ?_
          refine g_putI 21 (gd rfl) rfl rfl rfl rfl ?_
          have hI8x3x18 := inv_sF (q := 109) (j := 0) hI rfl (in_w 0 2 (in_c 0 rfl) rfl)
          refine g_aload_n 22 (gd rfl) rfl rfl ?_
          refine g_getI 25 (gd rfl) rfl rfl rfl (fun z8x3x22 e8x3x22 => ?_)
          have q8x3x22 : (Int32.ofInt 0) = z8x3x22 := (sF_get).trans e8x3x22.symm
          subst q8x3x22
          refine g_if_le 28 32 (gd rfl) rfl rfl (fun c8x3x25 => ?_) (fun c8x3x25 => ?_)
          · skip
            refine g_iconst 0 33 (gd rfl) rfl rfl ?_
            refine g_ireturn (gd rfl) rfl (nb01 (in_w 0 1 (in_c 0 rfl) rfl)) (hp8x3 _ _ ?_)
            show GG _ _ _ _ _ _ _ _ [.int (Int32.ofInt 0)] _ _ _
            refine g_ireturn (gd rfl) rfl (nb01 (in_w 0 1 (in_c 0 rfl) rfl)) (hp8 _ _ ?_)
            show GG _ _ _ _ _ _ _ _ [.int (Int32.ofInt 0)] _ _ _
            refine g_if_eq 14 16 (gd rfl) rfl rfl (fun c11 => ?_) (fun c11 => ?_)
            · skip
              refine g_aload_n 17 (gd rfl) rfl rfl ?_
              refine g_callv (X := _) (As := []) (r := []) (b := A 109) (q := 109) 20 (gd rfl) rfl rfl rfl rfl rfl (ww_o rfl) (Nat.le_of_ble_eq_true rfl) (Nat.zero_le _) (Nat.zero_le _) (k_335 (by first | exact dq1 hd rfl | exact dq0 hd rfl | exact dq2 hd rfl | exact dq3 hd rfl | omega) hI8x3x18 ) (fun e u h => h) (fun v u h => ?_)
              obtain ⟨s17, hI17, hF17, rfl, rfl, p17⟩ := h
              show GG _ _ _ _ _ _ _ _ [] _ _ _
              refine g_lconst 0 21 (gd rfl) rfl rfl ?_
              refine g_lstore_n 22 (gd rfl) rfl (Nat.le_of_ble_eq_true rfl) ?_
              refine g_iconst 0 23 (gd rfl) rfl rfl ?_
              refine g_istore 25 (gd rfl) rfl (Nat.le_of_ble_eq_true rfl) ?_
              exact gg_w (by first | exact Nat.le_of_ble_eq_true rfl | omega) (gg_f (gf_cons rfl (gf_cons rfl (gf_cons rfl (gf_cons rfl gf_nil)))) (ct25 33 s17 (Int64.ofInt 0) (Int32.ofInt 0) hI17 (fr_tr rfl (fr_sF rfl fr_rf) hF17) (in_w 0 1 i5x10b rfl) (in_w 0 32 (in_c 0 rfl) rfl) (m_in 33 (in_w 0 32 (in_c 0 rfl) rfl) rfl)))
            · skip
              exact zn_ne c11 (in_c 0 rfl) rfl
          · skip
            exact zn_gt c8x3x25 (in_c 0 rfl) rfl
        · skip
          exact zn_eq c8x3x10 (in_c 1 rfl) rfl
      · skip
        exact zn_eq c8x3x2 (in_c 1 rfl) rfl

def fm_383 : FM := ([], [175], [], [])
/-- GraphHouseModel.follow -/
theorem k_383 {Z : AmZ} {A : Nat → Nat} {s : GS} {ex : va_W} {d : Nat} {X : AmX} {x1 : Int64} {x2 : Int64} (hd : 1 ≤ d) (hI : Inv s)  : GC Z d 383 [.ref (A 109), .long x1, .long x2] (WW Z A s ++ ex) 0 0 (fun v u => ∃ t : GS, Inv t ∧ Fr fm_383 s t ∧ v = none ∧ u = WW Z A t ++ ex) X := by
  intro post xp hP hX
  have ct3 : ∀ (k3 : Nat) (sc3 : GS) (y3_5 : Int32), Inv sc3 → Fr fm_383 s sc3 → (In y3_5 0 60) → 60 - (y3_5).toInt < (k3 : Int) → GG Z (d - 1) 383 post (gx xp) (1 + k3 * 900) 3 (fun j => xlook j [(0, .ref (A 109)), (1, .long x1), (3, .long x2), (5, .int y3_5)]) [] (WW Z A sc3 ++ ex) 0 0 := by
    intro k3
    induction k3 with
    | zero => intro sc3 y3_5 hIc3 hFc3 j3_5 mm3; exact m_no mm3 j3_5 rfl
    | succ k3 ih3 =>
      intro sc3 y3_5 hIc3 hFc3 j3_5 mm3
      refine gg_w (M := 1 + k3 * 900 + 900) gws ?_
      refine g_iload 5 (gd rfl) rfl rfl ?_
      refine g_bipush 60 7 (gd rfl) rfl rfl ?_
      refine g_cmp_ge 10 42 (gd rfl) rfl rfl (fun c7 => ?_) (fun c7 => ?_)
      · skip
        have i7 := r_le2 60 60 c7 (in_c 60 rfl) j3_5 rfl
        exact g_return (gd rfl) rfl (hP _ _ ⟨sc3, hIc3, hFc3, rfl, rfl⟩)
      · skip
        have i7 := r_lt1 0 59 c7 j3_5 (in_c 60 rfl) rfl
        refine g_aload_n 11 (gd rfl) rfl rfl ?_
        refine g_getA (q2 := 175) 14 (gd rfl) rfl rfl rfl rfl ?_
        refine g_iload 16 (gd rfl) rfl rfl ?_
        refine g_dup2 17 (gd rfl) rfl rfl rfl ?_
        refine g_laload 18 (gd rfl) rfl (n := 60) rfl (in_ix i7 rfl) (fun z17 e17 => ?_)
        refine g_lload_n 19 (gd rfl) rfl rfl ?_
        refine g_iload 21 (gd rfl) rfl rfl ?_
        refine g_lshr 22 (gd rfl) rfl (fun z21 e21 => ?_)
        refine g_lconst 1 23 (gd rfl) rfl rfl ?_
        refine g_land 24 (gd rfl) rfl (fun z23 e23 => ?_)
        have i23 := inl_and2 e23 (l_c 1 rfl) rfl
        refine g_lconst 1 25 (gd rfl) rfl rfl ?_
        refine g_lcmp 26 (gd rfl) rfl (fun z25 e25 => ?_)
        have i25 := lc_in e25
        refine g_if_ne 29 33 (gd rfl) rfl rfl (fun c26 => ?_) (fun c26 => ?_)
        · skip
          have c26a := lc_ne e25 c26
          have i26 := lr_ne1 0 0 c26a i23 (l_c 1 rfl) rfl
          refine g_lconst 0 34 (gd rfl) rfl rfl ?_
          refine g_lor 35 (gd rfl) rfl (fun z34 e34 => ?_)
          refine g_lastore 36 (gd rfl) rfl (n := 60) rfl (in_ix i7 rfl) ?_
          have hI35 := inv_sL (q := 175) (j := y3_5.toNatClampNeg) (x := z34) hIc3 rfl (l_rng z34)
          refine g_iinc 39 (gd rfl) rfl rfl (Nat.le_of_ble_eq_true rfl) (fun z36 e36 => ?_)
          have i36 := in_add 1 60 e36 i7 (in_c 1 rfl) rfl rfl
          refine g_goto 3 (gd rfl) rfl ?_
          exact gg_w (by first | exact Nat.le_add_right _ _ | exact gw2 | exact gw3 | exact gwe rfl | exact gwf rfl | exact gwg rfl | exact gwh rfl | omega) (gg_f (gf_cons rfl (gf_cons rfl (gf_cons rfl (gf_cons rfl gf_nil)))) (ih3 (sL sc3 175 y3_5.toNatClampNeg z34) z36 hI35 (fr_sL rfl hFc3) (in_w 0 60 i36 rfl) (m_up mm3 (t_add e36 i7 (in_c 1 rfl) rfl) (in_w 1 1 (in_c 1 rfl) rfl))))
        · skip
          have i26 := z_eq 0 0 c26 i25 rfl
          have c26a := lc_eq e25 c26
          have i26a := lr_eq1 1 1 c26a i23 (l_c 1 rfl) rfl
          refine g_lload_n 30 (gd rfl) rfl rfl ?_
          refine g_goto 34 (gd rfl) rfl ?_
          refine g_lor 35 (gd rfl) rfl (fun z34 e34 => ?_)
          refine g_lastore 36 (gd rfl) rfl (n := 60) rfl (in_ix i7 rfl) ?_
          have hI35 := inv_sL (q := 175) (j := y3_5.toNatClampNeg) (x := z34) hIc3 rfl (l_rng z34)
          refine g_iinc 39 (gd rfl) rfl rfl (Nat.le_of_ble_eq_true rfl) (fun z36 e36 => ?_)
          have i36 := in_add 1 60 e36 i7 (in_c 1 rfl) rfl rfl
          refine g_goto 3 (gd rfl) rfl ?_
          exact gg_w (by first | exact Nat.le_add_right _ _ | exact gw2 | exact gw3 | exact gwe rfl | exact gwf rfl | exact gwg rfl | exact gwh rfl | omega) (gg_f (gf_cons rfl (gf_cons rfl (gf_cons rfl (gf_cons rfl gf_nil)))) (ih3 (sL sc3 175 y3_5.toNatClampNeg z34) z36 hI35 (fr_sL rfl hFc3) (in_w 0 60 i36 rfl) (m_up mm3 (t_add e36 i7 (in_c 1 rfl) rfl) (in_w 1 1 (in_c 1 rfl) rfl))))
  refine g_enter2 (k := 383) (N := 55801) (by first | exact dq1 hd rfl | exact dq0 hd rfl | exact dq2 hd rfl | exact dq3 hd rfl | omega) rfl (Nat.le_of_ble_eq_true rfl) ?_
  refine g_iconst 0 1 (gd rfl) rfl rfl ?_
  refine g_istore 3 (gd rfl) rfl (Nat.le_of_ble_eq_true rfl) ?_
  exact gg_w (by first | exact Nat.le_of_ble_eq_true rfl | omega) (gg_f (gf_cons rfl (gf_cons rfl (gf_cons rfl (gf_cons rfl gf_nil)))) (ct3 61 s (Int32.ofInt 0) hI fr_rf (in_w 0 60 (in_c 0 rfl) rfl) (m_in 61 (in_w 0 60 (in_c 0 rfl) rfl) rfl)))

def fm_384 : FM := ([180], [175, 181, 182], [(109, 97), (109, 98)], [])
/-- GraphHouseModel.flush -/
theorem k_384 {Z : AmZ} {A : Nat → Nat} {s : GS} {ex : va_W} {d : Nat} {X : AmX}  (hd : 2 ≤ d) (hI : Inv s)  : GC Z d 384 [.ref (A 109)] (WW Z A s ++ ex) 0 0 (fun v u => ∃ t : GS, Inv t ∧ Fr fm_384 s t ∧ v = none ∧ u = WW Z A t ++ ex) X := by
  intro post xp hP hX
  obtain ⟨u_109_96, e_109_96⟩ : ∃ w, w = s.2.2.1 109 96 := ⟨_, rfl⟩
  have ro_109_96 := inv_F hI 0 10 rfl e_109_96
  obtain ⟨u_109_99, e_109_99⟩ : ∃ w, w = s.2.2.1 109 99 := ⟨_, rfl⟩
  have ro_109_99 := inv_F hI 0 1 rfl e_109_99
  refine g_enter2 (k := 384) (N := 900) (by first | exact dq1 hd rfl | exact dq0 hd rfl | exact dq2 hd rfl | exact dq3 hd rfl | omega) rfl (Nat.le_of_ble_eq_true rfl) ?_
  refine g_aload_n 1 (gd rfl) rfl rfl ?_
  refine g_getZ 4 (gd rfl) rfl rfl rfl (fun z1 e1 => ?_)
  have i1 := inv_F hI 0 1 rfl e1
  refine g_if_eq 7 123 (gd rfl) rfl rfl (fun c4 => ?_) (fun c4 => ?_)
  · skip
    have i4 := z_eq 0 0 c4 i1 rfl
    refine g_aload_n 124 (gd rfl) rfl rfl ?_
    refine g_iconst 0 125 (gd rfl) rfl rfl ?_
    refine g_putZ 128 (gd rfl) rfl rfl rfl rfl (in01 (in_w 0 1 (in_c 0 rfl) rfl)) ?_
    have hI125 := inv_sF (q := 109) (j := 97) hI rfl (in_w 0 1 (in_c 0 rfl) rfl)
    refine g_aload_n 129 (gd rfl) rfl rfl ?_
    refine g_iconst 0 130 (gd rfl) rfl rfl ?_
    refine g_putZ 133 (gd rfl) rfl rfl rfl rfl (in01 (in_w 0 1 (in_c 0 rfl) rfl)) ?_
    have hI130 := inv_sF (q := 109) (j := 98) hI125 rfl (in_w 0 1 (in_c 0 rfl) rfl)
    exact g_return (gd rfl) rfl (hP _ _ ⟨(sF (sF s 109 97 (Int32.ofInt 0)) 109 98 (Int32.ofInt 0)), hI130, (fr_sF rfl (fr_sF rfl fr_rf)), rfl, rfl⟩)
  · skip
    have i4 := z_ne 1 1 c4 i1 rfl
    refine g_aload_n 8 (gd rfl) rfl rfl ?_
    refine g_aload_n 9 (gd rfl) rfl rfl ?_
    refine g_getA (q2 := 182) 12 (gd rfl) rfl rfl rfl rfl ?_
    refine g_aload_n 13 (gd rfl) rfl rfl ?_
    refine g_getI 16 (gd rfl) rfl rfl rfl (fun z13 e13 => ?_)
    have q13 : u_109_96 = z13 := (e_109_96).trans e13.symm
    subst q13
    refine g_laload 17 (gd rfl) rfl (n := 12) rfl (in_ix ro_109_96 rfl) (fun z16 e16 => ?_)
    refine g_aload_n 18 (gd rfl) rfl rfl ?_
    refine g_getL 21 (gd rfl) rfl rfl rfl (fun z18 e18 => ?_)
    refine g_callv (X := _) (As := [.long z16, .long z18]) (r := []) (b := A 109) (q := 109) 24 (gd rfl) rfl rfl rfl rfl rfl (ww_o rfl) (Nat.le_of_ble_eq_true rfl) (Nat.zero_le _) (Nat.zero_le _) (k_383 (by first | exact dq1 hd rfl | exact dq0 hd rfl | exact dq2 hd rfl | exact dq3 hd rfl | omega) hI ) (fun e u h => h) (fun v u h => ?_)
    obtain ⟨s21, hI21, hF21, rfl, rfl⟩ := h
    show GG _ _ _ _ _ _ _ _ [] _ _ _
    refine g_aload_n 25 (gd rfl) rfl rfl ?_
    refine g_getA (q2 := 181) 28 (gd rfl) rfl rfl rfl rfl ?_
    refine g_aload_n 29 (gd rfl) rfl rfl ?_
    refine g_getI 32 (gd rfl) rfl rfl rfl (fun z29 e29 => ?_)
    have q29 : u_109_96 = z29 := (fr_F (e_109_96) hF21 rfl).trans e29.symm
    subst q29
    refine g_dup2 33 (gd rfl) rfl rfl rfl ?_
    refine g_laload 34 (gd rfl) rfl (n := 12) rfl (in_ix ro_109_96 rfl) (fun z33 e33 => ?_)
    refine g_aload_n 35 (gd rfl) rfl rfl ?_
    refine g_getA (q2 := 180) 38 (gd rfl) rfl rfl rfl rfl ?_
    refine g_aload_n 39 (gd rfl) rfl rfl ?_
    refine g_getI 42 (gd rfl) rfl rfl rfl (fun z39 e39 => ?_)
    have q39 : u_109_96 = z39 := (fr_F (e_109_96) hF21 rfl).trans e39.symm
    subst q39
    refine g_baload 43 (gd rfl) rfl (n := 12) rfl (in_ix ro_109_96 rfl) (fun z42 e42 => ?_)
    have i42 := inv_I hI21 (n := 12) (t := 3) 0 1 rfl (in_ix ro_109_96 rfl) rfl e42
    refine g_if_eq 46 53 (gd rfl) rfl rfl (fun c43 => ?_) (fun c43 => ?_)
    · skip
      have i43 := z_eq 0 0 c43 i42 rfl
      refine g_lconst 0 54 (gd rfl) rfl rfl ?_
      refine g_lor 55 (gd rfl) rfl (fun z54 e54 => ?_)
      refine g_lastore 56 (gd rfl) rfl (n := 12) rfl (in_ix ro_109_96 rfl) ?_
      have hI55 := inv_sL (q := 181) (j := u_109_96.toNatClampNeg) (x := z54) hI21 rfl (l_rng z54)
      refine g_aload_n 57 (gd rfl) rfl rfl ?_
      refine g_getA (q2 := 182) 60 (gd rfl) rfl rfl rfl rfl ?_
      refine g_aload_n 61 (gd rfl) rfl rfl ?_
      refine g_getI 64 (gd rfl) rfl rfl rfl (fun z61 e61 => ?_)
      have q61 : u_109_96 = z61 := (sL_F (fr_F (e_109_96) hF21 rfl)).trans e61.symm
      subst q61
      refine g_aload_n 65 (gd rfl) rfl rfl ?_
      refine g_getL 68 (gd rfl) rfl rfl rfl (fun z65 e65 => ?_)
      refine g_aload_n 69 (gd rfl) rfl rfl ?_
      refine g_getZ 72 (gd rfl) rfl rfl rfl (fun z69 e69 => ?_)
      have q69 : u_109_99 = z69 := (sL_F (fr_F (e_109_99) hF21 rfl)).trans e69.symm
      subst q69
      refine g_if_eq 75 87 (gd rfl) rfl rfl (fun c72 => ?_) (fun c72 => ?_)
      · skip
        have i72 := z_eq 0 0 c72 ro_109_99 rfl
        refine g_lconst 0 88 (gd rfl) rfl rfl ?_
        refine g_lor 89 (gd rfl) rfl (fun z88 e88 => ?_)
        refine g_lastore 90 (gd rfl) rfl (n := 12) rfl (in_ix ro_109_96 rfl) ?_
        have hI89 := inv_sL (q := 182) (j := u_109_96.toNatClampNeg) (x := z88) hI55 rfl (l_rng z88)
        refine g_aload_n 91 (gd rfl) rfl rfl ?_
        refine g_getA (q2 := 180) 94 (gd rfl) rfl rfl rfl rfl ?_
        refine g_aload_n 95 (gd rfl) rfl rfl ?_
        refine g_getI 98 (gd rfl) rfl rfl rfl (fun z95 e95 => ?_)
        have q95 : u_109_96 = z95 := (sL_F (sL_F (fr_F (e_109_96) hF21 rfl))).trans e95.symm
        subst q95
        refine g_aload_n 99 (gd rfl) rfl rfl ?_
        refine g_getA (q2 := 180) 102 (gd rfl) rfl rfl rfl rfl ?_
        refine g_aload_n 103 (gd rfl) rfl rfl ?_
        refine g_getI 106 (gd rfl) rfl rfl rfl (fun z103 e103 => ?_)
        have q103 : u_109_96 = z103 := (sL_F (sL_F (fr_F (e_109_96) hF21 rfl))).trans e103.symm
        subst q103
        refine g_baload 107 (gd rfl) rfl (n := 12) rfl (in_ix ro_109_96 rfl) (fun z106 e106 => ?_)
        have q106 : z42 = z106 := (sL_I (sL_I (e42))).trans e106.symm
        subst q106
        refine g_if_eq 110 121 (gd rfl) rfl rfl (fun c107 => ?_) (fun c107 => ?_)
        · skip
          refine g_iconst 0 122 (gd rfl) rfl rfl ?_
          refine g_bastore 123 (gd rfl) rfl (n := 12) rfl (in_ix ro_109_96 rfl) ?_
          have hI122 := inv_sI (q := 180) (j := u_109_96.toNatClampNeg) hI89 rfl (in_w 0 1 (nar01 (in_w 0 1 (in_c 0 rfl) rfl)) rfl)
          refine g_aload_n 124 (gd rfl) rfl rfl ?_
          refine g_iconst 0 125 (gd rfl) rfl rfl ?_
          refine g_putZ 128 (gd rfl) rfl rfl rfl rfl (in01 (in_w 0 1 (in_c 0 rfl) rfl)) ?_
          have hI125 := inv_sF (q := 109) (j := 97) hI122 rfl (in_w 0 1 (in_c 0 rfl) rfl)
          refine g_aload_n 129 (gd rfl) rfl rfl ?_
          refine g_iconst 0 130 (gd rfl) rfl rfl ?_
          refine g_putZ 133 (gd rfl) rfl rfl rfl rfl (in01 (in_w 0 1 (in_c 0 rfl) rfl)) ?_
          have hI130 := inv_sF (q := 109) (j := 98) hI125 rfl (in_w 0 1 (in_c 0 rfl) rfl)
          exact g_return (gd rfl) rfl (hP _ _ ⟨(sF (sF (sI (sL (sL s21 181 u_109_96.toNatClampNeg z54) 182 u_109_96.toNatClampNeg z88) 180 u_109_96.toNatClampNeg (vp_nar .boolean (Int32.ofInt 0))) 109 97 (Int32.ofInt 0)) 109 98 (Int32.ofInt 0)), hI130, (fr_sF rfl (fr_sF rfl (fr_sI rfl (fr_sL rfl (fr_sL rfl (fr_tr rfl fr_rf hF21)))))), rfl, rfl⟩)
        · skip
          exact zn_ne c107 i43 rfl
      · skip
        have i72 := z_ne 1 1 c72 ro_109_99 rfl
        refine g_aload_n 76 (gd rfl) rfl rfl ?_
        refine g_getA (q2 := 182) 79 (gd rfl) rfl rfl rfl rfl ?_
        refine g_aload_n 80 (gd rfl) rfl rfl ?_
        refine g_getI 83 (gd rfl) rfl rfl rfl (fun z80 e80 => ?_)
        have q80 : u_109_96 = z80 := (sL_F (fr_F (e_109_96) hF21 rfl)).trans e80.symm
        subst q80
        refine g_laload 84 (gd rfl) rfl (n := 12) rfl (in_ix ro_109_96 rfl) (fun z83 e83 => ?_)
        refine g_goto 88 (gd rfl) rfl ?_
        refine g_lor 89 (gd rfl) rfl (fun z88 e88 => ?_)
        refine g_lastore 90 (gd rfl) rfl (n := 12) rfl (in_ix ro_109_96 rfl) ?_
        have hI89 := inv_sL (q := 182) (j := u_109_96.toNatClampNeg) (x := z88) hI55 rfl (l_rng z88)
        refine g_aload_n 91 (gd rfl) rfl rfl ?_
        refine g_getA (q2 := 180) 94 (gd rfl) rfl rfl rfl rfl ?_
        refine g_aload_n 95 (gd rfl) rfl rfl ?_
        refine g_getI 98 (gd rfl) rfl rfl rfl (fun z95 e95 => ?_)
        have q95 : u_109_96 = z95 := (sL_F (sL_F (fr_F (e_109_96) hF21 rfl))).trans e95.symm
        subst q95
        refine g_aload_n 99 (gd rfl) rfl rfl ?_
        refine g_getA (q2 := 180) 102 (gd rfl) rfl rfl rfl rfl ?_
        refine g_aload_n 103 (gd rfl) rfl rfl ?_
        refine g_getI 106 (gd rfl) rfl rfl rfl (fun z103 e103 => ?_)
        have q103 : u_109_96 = z103 := (sL_F (sL_F (fr_F (e_109_96) hF21 rfl))).trans e103.symm
        subst q103
        refine g_baload 107 (gd rfl) rfl (n := 12) rfl (in_ix ro_109_96 rfl) (fun z106 e106 => ?_)
        have q106 : z42 = z106 := (sL_I (sL_I (e42))).trans e106.symm
        subst q106
        refine g_if_eq 110 121 (gd rfl) rfl rfl (fun c107 => ?_) (fun c107 => ?_)
        · skip
          refine g_iconst 0 122 (gd rfl) rfl rfl ?_
          refine g_bastore 123 (gd rfl) rfl (n := 12) rfl (in_ix ro_109_96 rfl) ?_
          have hI122 := inv_sI (q := 180) (j := u_109_96.toNatClampNeg) hI89 rfl (in_w 0 1 (nar01 (in_w 0 1 (in_c 0 rfl) rfl)) rfl)
          refine g_aload_n 124 (gd rfl) rfl rfl ?_
          refine g_iconst 0 125 (gd rfl) rfl rfl ?_
          refine g_putZ 128 (gd rfl) rfl rfl rfl rfl (in01 (in_w 0 1 (in_c 0 rfl) rfl)) ?_
          have hI125 := inv_sF (q := 109) (j := 97) hI122 rfl (in_w 0 1 (in_c 0 rfl) rfl)
          refine g_aload_n 129 (gd rfl) rfl rfl ?_
          refine g_iconst 0 130 (gd rfl) rfl rfl ?_
          refine g_putZ 133 (gd rfl) rfl rfl rfl rfl (in01 (in_w 0 1 (in_c 0 rfl) rfl)) ?_
          have hI130 := inv_sF (q := 109) (j := 98) hI125 rfl (in_w 0 1 (in_c 0 rfl) rfl)
          exact g_return (gd rfl) rfl (hP _ _ ⟨(sF (sF (sI (sL (sL s21 181 u_109_96.toNatClampNeg z54) 182 u_109_96.toNatClampNeg z88) 180 u_109_96.toNatClampNeg (vp_nar .boolean (Int32.ofInt 0))) 109 97 (Int32.ofInt 0)) 109 98 (Int32.ofInt 0)), hI130, (fr_sF rfl (fr_sF rfl (fr_sI rfl (fr_sL rfl (fr_sL rfl (fr_tr rfl fr_rf hF21)))))), rfl, rfl⟩)
        · skip
          exact zn_ne c107 i43 rfl
    · skip
      have i43 := z_ne 1 1 c43 i42 rfl
      refine g_aload_n 47 (gd rfl) rfl rfl ?_
      refine g_getL 50 (gd rfl) rfl rfl rfl (fun z47 e47 => ?_)
      refine g_goto 54 (gd rfl) rfl ?_
      refine g_lor 55 (gd rfl) rfl (fun z54 e54 => ?_)
      refine g_lastore 56 (gd rfl) rfl (n := 12) rfl (in_ix ro_109_96 rfl) ?_
      have hI55 := inv_sL (q := 181) (j := u_109_96.toNatClampNeg) (x := z54) hI21 rfl (l_rng z54)
      refine g_aload_n 57 (gd rfl) rfl rfl ?_
      refine g_getA (q2 := 182) 60 (gd rfl) rfl rfl rfl rfl ?_
      refine g_aload_n 61 (gd rfl) rfl rfl ?_
      refine g_getI 64 (gd rfl) rfl rfl rfl (fun z61 e61 => ?_)
      have q61 : u_109_96 = z61 := (sL_F (fr_F (e_109_96) hF21 rfl)).trans e61.symm
      subst q61
      refine g_aload_n 65 (gd rfl) rfl rfl ?_
      refine g_getL 68 (gd rfl) rfl rfl rfl (fun z65 e65 => ?_)
      refine g_aload_n 69 (gd rfl) rfl rfl ?_
      refine g_getZ 72 (gd rfl) rfl rfl rfl (fun z69 e69 => ?_)
      have q69 : u_109_99 = z69 := (sL_F (fr_F (e_109_99) hF21 rfl)).trans e69.symm
      subst q69
      refine g_if_eq 75 87 (gd rfl) rfl rfl (fun c72 => ?_) (fun c72 => ?_)
      · skip
        have i72 := z_eq 0 0 c72 ro_109_99 rfl
        refine g_lconst 0 88 (gd rfl) rfl rfl ?_
        refine g_lor 89 (gd rfl) rfl (fun z88 e88 => ?_)
        refine g_lastore 90 (gd rfl) rfl (n := 12) rfl (in_ix ro_109_96 rfl) ?_
        have hI89 := inv_sL (q := 182) (j := u_109_96.toNatClampNeg) (x := z88) hI55 rfl (l_rng z88)
        refine g_aload_n 91 (gd rfl) rfl rfl ?_
        refine g_getA (q2 := 180) 94 (gd rfl) rfl rfl rfl rfl ?_
        refine g_aload_n 95 (gd rfl) rfl rfl ?_
        refine g_getI 98 (gd rfl) rfl rfl rfl (fun z95 e95 => ?_)
        have q95 : u_109_96 = z95 := (sL_F (sL_F (fr_F (e_109_96) hF21 rfl))).trans e95.symm
        subst q95
        refine g_aload_n 99 (gd rfl) rfl rfl ?_
        refine g_getA (q2 := 180) 102 (gd rfl) rfl rfl rfl rfl ?_
        refine g_aload_n 103 (gd rfl) rfl rfl ?_
        refine g_getI 106 (gd rfl) rfl rfl rfl (fun z103 e103 => ?_)
        have q103 : u_109_96 = z103 := (sL_F (sL_F (fr_F (e_109_96) hF21 rfl))).trans e103.symm
        subst q103
        refine g_baload 107 (gd rfl) rfl (n := 12) rfl (in_ix ro_109_96 rfl) (fun z106 e106 => ?_)
        have q106 : z42 = z106 := (sL_I (sL_I (e42))).trans e106.symm
        subst q106
        refine g_if_eq 110 121 (gd rfl) rfl rfl (fun c107 => ?_) (fun c107 => ?_)
        · skip
          exact zn_eq c107 i43 rfl
        · skip
          refine g_aload_n 111 (gd rfl) rfl rfl ?_
          refine g_getZ 114 (gd rfl) rfl rfl rfl (fun z111 e111 => ?_)
          have q111 : u_109_99 = z111 := (sL_F (sL_F (fr_F (e_109_99) hF21 rfl))).trans e111.symm
          subst q111
          refine g_if_eq 117 121 (gd rfl) rfl rfl (fun c114 => ?_) (fun c114 => ?_)
          · skip
            refine g_iconst 0 122 (gd rfl) rfl rfl ?_
            refine g_bastore 123 (gd rfl) rfl (n := 12) rfl (in_ix ro_109_96 rfl) ?_
            have hI122 := inv_sI (q := 180) (j := u_109_96.toNatClampNeg) hI89 rfl (in_w 0 1 (nar01 (in_w 0 1 (in_c 0 rfl) rfl)) rfl)
            refine g_aload_n 124 (gd rfl) rfl rfl ?_
            refine g_iconst 0 125 (gd rfl) rfl rfl ?_
            refine g_putZ 128 (gd rfl) rfl rfl rfl rfl (in01 (in_w 0 1 (in_c 0 rfl) rfl)) ?_
            have hI125 := inv_sF (q := 109) (j := 97) hI122 rfl (in_w 0 1 (in_c 0 rfl) rfl)
            refine g_aload_n 129 (gd rfl) rfl rfl ?_
            refine g_iconst 0 130 (gd rfl) rfl rfl ?_
            refine g_putZ 133 (gd rfl) rfl rfl rfl rfl (in01 (in_w 0 1 (in_c 0 rfl) rfl)) ?_
            have hI130 := inv_sF (q := 109) (j := 98) hI125 rfl (in_w 0 1 (in_c 0 rfl) rfl)
            exact g_return (gd rfl) rfl (hP _ _ ⟨(sF (sF (sI (sL (sL s21 181 u_109_96.toNatClampNeg z54) 182 u_109_96.toNatClampNeg z88) 180 u_109_96.toNatClampNeg (vp_nar .boolean (Int32.ofInt 0))) 109 97 (Int32.ofInt 0)) 109 98 (Int32.ofInt 0)), hI130, (fr_sF rfl (fr_sF rfl (fr_sI rfl (fr_sL rfl (fr_sL rfl (fr_tr rfl fr_rf hF21)))))), rfl, rfl⟩)
          · skip
            exact zn_ne c114 i72 rfl
      · skip
        have i72 := z_ne 1 1 c72 ro_109_99 rfl
        refine g_aload_n 76 (gd rfl) rfl rfl ?_
        refine g_getA (q2 := 182) 79 (gd rfl) rfl rfl rfl rfl ?_
        refine g_aload_n 80 (gd rfl) rfl rfl ?_
        refine g_getI 83 (gd rfl) rfl rfl rfl (fun z80 e80 => ?_)
        have q80 : u_109_96 = z80 := (sL_F (fr_F (e_109_96) hF21 rfl)).trans e80.symm
        subst q80
        refine g_laload 84 (gd rfl) rfl (n := 12) rfl (in_ix ro_109_96 rfl) (fun z83 e83 => ?_)
        refine g_goto 88 (gd rfl) rfl ?_
        refine g_lor 89 (gd rfl) rfl (fun z88 e88 => ?_)
        refine g_lastore 90 (gd rfl) rfl (n := 12) rfl (in_ix ro_109_96 rfl) ?_
        have hI89 := inv_sL (q := 182) (j := u_109_96.toNatClampNeg) (x := z88) hI55 rfl (l_rng z88)
        refine g_aload_n 91 (gd rfl) rfl rfl ?_
        refine g_getA (q2 := 180) 94 (gd rfl) rfl rfl rfl rfl ?_
        refine g_aload_n 95 (gd rfl) rfl rfl ?_
        refine g_getI 98 (gd rfl) rfl rfl rfl (fun z95 e95 => ?_)
        have q95 : u_109_96 = z95 := (sL_F (sL_F (fr_F (e_109_96) hF21 rfl))).trans e95.symm
        subst q95
        refine g_aload_n 99 (gd rfl) rfl rfl ?_
        refine g_getA (q2 := 180) 102 (gd rfl) rfl rfl rfl rfl ?_
        refine g_aload_n 103 (gd rfl) rfl rfl ?_
        refine g_getI 106 (gd rfl) rfl rfl rfl (fun z103 e103 => ?_)
        have q103 : u_109_96 = z103 := (sL_F (sL_F (fr_F (e_109_96) hF21 rfl))).trans e103.symm
        subst q103
        refine g_baload 107 (gd rfl) rfl (n := 12) rfl (in_ix ro_109_96 rfl) (fun z106 e106 => ?_)
        have q106 : z42 = z106 := (sL_I (sL_I (e42))).trans e106.symm
        subst q106
        refine g_if_eq 110 121 (gd rfl) rfl rfl (fun c107 => ?_) (fun c107 => ?_)
        · skip
          exact zn_eq c107 i43 rfl
        · skip
          refine g_aload_n 111 (gd rfl) rfl rfl ?_
          refine g_getZ 114 (gd rfl) rfl rfl rfl (fun z111 e111 => ?_)
          have q111 : u_109_99 = z111 := (sL_F (sL_F (fr_F (e_109_99) hF21 rfl))).trans e111.symm
          subst q111
          refine g_if_eq 117 121 (gd rfl) rfl rfl (fun c114 => ?_) (fun c114 => ?_)
          · skip
            exact zn_eq c114 i72 rfl
          · skip
            refine g_iconst 1 118 (gd rfl) rfl rfl ?_
            refine g_goto 122 (gd rfl) rfl ?_
            refine g_bastore 123 (gd rfl) rfl (n := 12) rfl (in_ix ro_109_96 rfl) ?_
            have hI122 := inv_sI (q := 180) (j := u_109_96.toNatClampNeg) hI89 rfl (in_w 0 1 (nar01 (in_w 0 1 (in_c 1 rfl) rfl)) rfl)
            refine g_aload_n 124 (gd rfl) rfl rfl ?_
            refine g_iconst 0 125 (gd rfl) rfl rfl ?_
            refine g_putZ 128 (gd rfl) rfl rfl rfl rfl (in01 (in_w 0 1 (in_c 0 rfl) rfl)) ?_
            have hI125 := inv_sF (q := 109) (j := 97) hI122 rfl (in_w 0 1 (in_c 0 rfl) rfl)
            refine g_aload_n 129 (gd rfl) rfl rfl ?_
            refine g_iconst 0 130 (gd rfl) rfl rfl ?_
            refine g_putZ 133 (gd rfl) rfl rfl rfl rfl (in01 (in_w 0 1 (in_c 0 rfl) rfl)) ?_
            have hI130 := inv_sF (q := 109) (j := 98) hI125 rfl (in_w 0 1 (in_c 0 rfl) rfl)
            exact g_return (gd rfl) rfl (hP _ _ ⟨(sF (sF (sI (sL (sL s21 181 u_109_96.toNatClampNeg z54) 182 u_109_96.toNatClampNeg z88) 180 u_109_96.toNatClampNeg (vp_nar .boolean (Int32.ofInt 1))) 109 97 (Int32.ofInt 0)) 109 98 (Int32.ofInt 0)), hI130, (fr_sF rfl (fr_sF rfl (fr_sI rfl (fr_sL rfl (fr_sL rfl (fr_tr rfl fr_rf hF21)))))), rfl, rfl⟩)

def fm_385 : FM := ([176, 177, 180], [175, 178, 179, 181, 182], [(109, 97), (109, 98)], [])
/-- GraphHouseModel.endSequence -/
theorem k_385 {Z : AmZ} {A : Nat → Nat} {s : GS} {ex : va_W} {d : Nat} {X : AmX}  (hd : 3 ≤ d) (hI : Inv s)  : GC Z d 385 [.ref (A 109)] (WW Z A s ++ ex) 0 0 (fun v u => ∃ t : GS, Inv t ∧ Fr fm_385 s t ∧ v = none ∧ u = WW Z A t ++ ex) X := by
  intro post xp hP hX
  obtain ⟨u_109_96, e_109_96⟩ : ∃ w, w = s.2.2.1 109 96 := ⟨_, rfl⟩
  have ro_109_96 := inv_F hI 0 10 rfl e_109_96
  refine g_enter2 (k := 385) (N := 900) (by first | exact dq1 hd rfl | exact dq0 hd rfl | exact dq2 hd rfl | exact dq3 hd rfl | omega) rfl (Nat.le_of_ble_eq_true rfl) ?_
  refine g_aload_n 1 (gd rfl) rfl rfl ?_
  refine g_callv (X := _) (As := []) (r := []) (b := A 109) (q := 109) 4 (gd rfl) rfl rfl rfl rfl rfl (ww_o rfl) (Nat.le_of_ble_eq_true rfl) (Nat.zero_le _) (Nat.zero_le _) (k_384 (by first | exact dq1 hd rfl | exact dq0 hd rfl | exact dq2 hd rfl | exact dq3 hd rfl | omega) hI ) (fun e u h => h) (fun v u h => ?_)
  obtain ⟨s1, hI1, hF1, rfl, rfl⟩ := h
  show GG _ _ _ _ _ _ _ _ [] _ _ _
  refine g_aload_n 5 (gd rfl) rfl rfl ?_
  refine g_getA (q2 := 176) 8 (gd rfl) rfl rfl rfl rfl ?_
  refine g_aload_n 9 (gd rfl) rfl rfl ?_
  refine g_getI 12 (gd rfl) rfl rfl rfl (fun z9 e9 => ?_)
  have q9 : u_109_96 = z9 := (fr_F (e_109_96) hF1 rfl).trans e9.symm
  subst q9
  refine g_iconst 1 13 (gd rfl) rfl rfl ?_
  refine g_bastore 14 (gd rfl) rfl (n := 12) rfl (in_ix ro_109_96 rfl) ?_
  have hI13 := inv_sI (q := 176) (j := u_109_96.toNatClampNeg) hI1 rfl (in_w 0 1 (nar01 (in_w 0 1 (in_c 1 rfl) rfl)) rfl)
  refine g_aload_n 15 (gd rfl) rfl rfl ?_
  refine g_getA (q2 := 177) 18 (gd rfl) rfl rfl rfl rfl ?_
  refine g_aload_n 19 (gd rfl) rfl rfl ?_
  refine g_getI 22 (gd rfl) rfl rfl rfl (fun z19 e19 => ?_)
  have q19 : u_109_96 = z19 := (sI_F (fr_F (e_109_96) hF1 rfl)).trans e19.symm
  subst q19
  refine g_aload_n 23 (gd rfl) rfl rfl ?_
  refine g_getA (q2 := 177) 26 (gd rfl) rfl rfl rfl rfl ?_
  refine g_aload_n 27 (gd rfl) rfl rfl ?_
  refine g_getI 30 (gd rfl) rfl rfl rfl (fun z27 e27 => ?_)
  have q27 : u_109_96 = z27 := (sI_F (fr_F (e_109_96) hF1 rfl)).trans e27.symm
  subst q27
  refine g_baload 31 (gd rfl) rfl (n := 12) rfl (in_ix ro_109_96 rfl) (fun z30 e30 => ?_)
  have i30 := inv_I hI13 (n := 12) (t := 3) 0 1 rfl (in_ix ro_109_96 rfl) rfl e30
  refine g_if_ne 34 46 (gd rfl) rfl rfl (fun c31 => ?_) (fun c31 => ?_)
  · skip
    have i31 := z_ne 1 1 c31 i30 rfl
    refine g_iconst 1 47 (gd rfl) rfl rfl ?_
    refine g_goto 51 (gd rfl) rfl ?_
    refine g_bastore 52 (gd rfl) rfl (n := 12) rfl (in_ix ro_109_96 rfl) ?_
    have hI51 := inv_sI (q := 177) (j := u_109_96.toNatClampNeg) hI13 rfl (in_w 0 1 (nar01 (in_w 0 1 (in_c 1 rfl) rfl)) rfl)
    refine g_aload_n 53 (gd rfl) rfl rfl ?_
    refine g_getA (q2 := 178) 56 (gd rfl) rfl rfl rfl rfl ?_
    refine g_aload_n 57 (gd rfl) rfl rfl ?_
    refine g_getI 60 (gd rfl) rfl rfl rfl (fun z57 e57 => ?_)
    have q57 : u_109_96 = z57 := (sI_F (sI_F (fr_F (e_109_96) hF1 rfl))).trans e57.symm
    subst q57
    refine g_dup2 61 (gd rfl) rfl rfl rfl ?_
    refine g_laload 62 (gd rfl) rfl (n := 12) rfl (in_ix ro_109_96 rfl) (fun z61 e61 => ?_)
    refine g_aload_n 63 (gd rfl) rfl rfl ?_
    refine g_getA (q2 := 181) 66 (gd rfl) rfl rfl rfl rfl ?_
    refine g_aload_n 67 (gd rfl) rfl rfl ?_
    refine g_getI 70 (gd rfl) rfl rfl rfl (fun z67 e67 => ?_)
    have q67 : u_109_96 = z67 := (sI_F (sI_F (fr_F (e_109_96) hF1 rfl))).trans e67.symm
    subst q67
    refine g_laload 71 (gd rfl) rfl (n := 12) rfl (in_ix ro_109_96 rfl) (fun z70 e70 => ?_)
    refine g_lor 72 (gd rfl) rfl (fun z71 e71 => ?_)
    refine g_lastore 73 (gd rfl) rfl (n := 12) rfl (in_ix ro_109_96 rfl) ?_
    have hI72 := inv_sL (q := 178) (j := u_109_96.toNatClampNeg) (x := z71) hI51 rfl (l_rng z71)
    refine g_aload_n 74 (gd rfl) rfl rfl ?_
    refine g_getA (q2 := 179) 77 (gd rfl) rfl rfl rfl rfl ?_
    refine g_aload_n 78 (gd rfl) rfl rfl ?_
    refine g_getI 81 (gd rfl) rfl rfl rfl (fun z78 e78 => ?_)
    have q78 : u_109_96 = z78 := (sL_F (sI_F (sI_F (fr_F (e_109_96) hF1 rfl)))).trans e78.symm
    subst q78
    refine g_dup2 82 (gd rfl) rfl rfl rfl ?_
    refine g_laload 83 (gd rfl) rfl (n := 12) rfl (in_ix ro_109_96 rfl) (fun z82 e82 => ?_)
    refine g_aload_n 84 (gd rfl) rfl rfl ?_
    refine g_getA (q2 := 182) 87 (gd rfl) rfl rfl rfl rfl ?_
    refine g_aload_n 88 (gd rfl) rfl rfl ?_
    refine g_getI 91 (gd rfl) rfl rfl rfl (fun z88 e88 => ?_)
    have q88 : u_109_96 = z88 := (sL_F (sI_F (sI_F (fr_F (e_109_96) hF1 rfl)))).trans e88.symm
    subst q88
    refine g_laload 92 (gd rfl) rfl (n := 12) rfl (in_ix ro_109_96 rfl) (fun z91 e91 => ?_)
    refine g_lor 93 (gd rfl) rfl (fun z92 e92 => ?_)
    refine g_lastore 94 (gd rfl) rfl (n := 12) rfl (in_ix ro_109_96 rfl) ?_
    have hI93 := inv_sL (q := 179) (j := u_109_96.toNatClampNeg) (x := z92) hI72 rfl (l_rng z92)
    exact g_return (gd rfl) rfl (hP _ _ ⟨(sL (sL (sI (sI s1 176 u_109_96.toNatClampNeg (vp_nar .boolean (Int32.ofInt 1))) 177 u_109_96.toNatClampNeg (vp_nar .boolean (Int32.ofInt 1))) 178 u_109_96.toNatClampNeg z71) 179 u_109_96.toNatClampNeg z92), hI93, (fr_sL rfl (fr_sL rfl (fr_sI rfl (fr_sI rfl (fr_tr rfl fr_rf hF1))))), rfl, rfl⟩)
  · skip
    have i31 := z_eq 0 0 c31 i30 rfl
    refine g_aload_n 35 (gd rfl) rfl rfl ?_
    refine g_getA (q2 := 180) 38 (gd rfl) rfl rfl rfl rfl ?_
    refine g_aload_n 39 (gd rfl) rfl rfl ?_
    refine g_getI 42 (gd rfl) rfl rfl rfl (fun z39 e39 => ?_)
    have q39 : u_109_96 = z39 := (sI_F (fr_F (e_109_96) hF1 rfl)).trans e39.symm
    subst q39
    refine g_baload 43 (gd rfl) rfl (n := 12) rfl (in_ix ro_109_96 rfl) (fun z42 e42 => ?_)
    have i42 := inv_I hI13 (n := 12) (t := 3) 0 1 rfl (in_ix ro_109_96 rfl) rfl e42
    refine g_if_eq 46 50 (gd rfl) rfl rfl (fun c43 => ?_) (fun c43 => ?_)
    · skip
      have i43 := z_eq 0 0 c43 i42 rfl
      refine g_iconst 0 51 (gd rfl) rfl rfl ?_
      refine g_bastore 52 (gd rfl) rfl (n := 12) rfl (in_ix ro_109_96 rfl) ?_
      have hI51 := inv_sI (q := 177) (j := u_109_96.toNatClampNeg) hI13 rfl (in_w 0 1 (nar01 (in_w 0 1 (in_c 0 rfl) rfl)) rfl)
      refine g_aload_n 53 (gd rfl) rfl rfl ?_
      refine g_getA (q2 := 178) 56 (gd rfl) rfl rfl rfl rfl ?_
      refine g_aload_n 57 (gd rfl) rfl rfl ?_
      refine g_getI 60 (gd rfl) rfl rfl rfl (fun z57 e57 => ?_)
      have q57 : u_109_96 = z57 := (sI_F (sI_F (fr_F (e_109_96) hF1 rfl))).trans e57.symm
      subst q57
      refine g_dup2 61 (gd rfl) rfl rfl rfl ?_
      refine g_laload 62 (gd rfl) rfl (n := 12) rfl (in_ix ro_109_96 rfl) (fun z61 e61 => ?_)
      refine g_aload_n 63 (gd rfl) rfl rfl ?_
      refine g_getA (q2 := 181) 66 (gd rfl) rfl rfl rfl rfl ?_
      refine g_aload_n 67 (gd rfl) rfl rfl ?_
      refine g_getI 70 (gd rfl) rfl rfl rfl (fun z67 e67 => ?_)
      have q67 : u_109_96 = z67 := (sI_F (sI_F (fr_F (e_109_96) hF1 rfl))).trans e67.symm
      subst q67
      refine g_laload 71 (gd rfl) rfl (n := 12) rfl (in_ix ro_109_96 rfl) (fun z70 e70 => ?_)
      refine g_lor 72 (gd rfl) rfl (fun z71 e71 => ?_)
      refine g_lastore 73 (gd rfl) rfl (n := 12) rfl (in_ix ro_109_96 rfl) ?_
      have hI72 := inv_sL (q := 178) (j := u_109_96.toNatClampNeg) (x := z71) hI51 rfl (l_rng z71)
      refine g_aload_n 74 (gd rfl) rfl rfl ?_
      refine g_getA (q2 := 179) 77 (gd rfl) rfl rfl rfl rfl ?_
      refine g_aload_n 78 (gd rfl) rfl rfl ?_
      refine g_getI 81 (gd rfl) rfl rfl rfl (fun z78 e78 => ?_)
      have q78 : u_109_96 = z78 := (sL_F (sI_F (sI_F (fr_F (e_109_96) hF1 rfl)))).trans e78.symm
      subst q78
      refine g_dup2 82 (gd rfl) rfl rfl rfl ?_
      refine g_laload 83 (gd rfl) rfl (n := 12) rfl (in_ix ro_109_96 rfl) (fun z82 e82 => ?_)
      refine g_aload_n 84 (gd rfl) rfl rfl ?_
      refine g_getA (q2 := 182) 87 (gd rfl) rfl rfl rfl rfl ?_
      refine g_aload_n 88 (gd rfl) rfl rfl ?_
      refine g_getI 91 (gd rfl) rfl rfl rfl (fun z88 e88 => ?_)
      have q88 : u_109_96 = z88 := (sL_F (sI_F (sI_F (fr_F (e_109_96) hF1 rfl)))).trans e88.symm
      subst q88
      refine g_laload 92 (gd rfl) rfl (n := 12) rfl (in_ix ro_109_96 rfl) (fun z91 e91 => ?_)
      refine g_lor 93 (gd rfl) rfl (fun z92 e92 => ?_)
      refine g_lastore 94 (gd rfl) rfl (n := 12) rfl (in_ix ro_109_96 rfl) ?_
      have hI93 := inv_sL (q := 179) (j := u_109_96.toNatClampNeg) (x := z92) hI72 rfl (l_rng z92)
      exact g_return (gd rfl) rfl (hP _ _ ⟨(sL (sL (sI (sI s1 176 u_109_96.toNatClampNeg (vp_nar .boolean (Int32.ofInt 1))) 177 u_109_96.toNatClampNeg (vp_nar .boolean (Int32.ofInt 0))) 178 u_109_96.toNatClampNeg z71) 179 u_109_96.toNatClampNeg z92), hI93, (fr_sL rfl (fr_sL rfl (fr_sI rfl (fr_sI rfl (fr_tr rfl fr_rf hF1))))), rfl, rfl⟩)
    · skip
      have i43 := z_ne 1 1 c43 i42 rfl
      refine g_iconst 1 47 (gd rfl) rfl rfl ?_
      refine g_goto 51 (gd rfl) rfl ?_
      refine g_bastore 52 (gd rfl) rfl (n := 12) rfl (in_ix ro_109_96 rfl) ?_
      have hI51 := inv_sI (q := 177) (j := u_109_96.toNatClampNeg) hI13 rfl (in_w 0 1 (nar01 (in_w 0 1 (in_c 1 rfl) rfl)) rfl)
      refine g_aload_n 53 (gd rfl) rfl rfl ?_
      refine g_getA (q2 := 178) 56 (gd rfl) rfl rfl rfl rfl ?_
      refine g_aload_n 57 (gd rfl) rfl rfl ?_
      refine g_getI 60 (gd rfl) rfl rfl rfl (fun z57 e57 => ?_)
      have q57 : u_109_96 = z57 := (sI_F (sI_F (fr_F (e_109_96) hF1 rfl))).trans e57.symm
      subst q57
      refine g_dup2 61 (gd rfl) rfl rfl rfl ?_
      refine g_laload 62 (gd rfl) rfl (n := 12) rfl (in_ix ro_109_96 rfl) (fun z61 e61 => ?_)
      refine g_aload_n 63 (gd rfl) rfl rfl ?_
      refine g_getA (q2 := 181) 66 (gd rfl) rfl rfl rfl rfl ?_
      refine g_aload_n 67 (gd rfl) rfl rfl ?_
      refine g_getI 70 (gd rfl) rfl rfl rfl (fun z67 e67 => ?_)
      have q67 : u_109_96 = z67 := (sI_F (sI_F (fr_F (e_109_96) hF1 rfl))).trans e67.symm
      subst q67
      refine g_laload 71 (gd rfl) rfl (n := 12) rfl (in_ix ro_109_96 rfl) (fun z70 e70 => ?_)
      refine g_lor 72 (gd rfl) rfl (fun z71 e71 => ?_)
      refine g_lastore 73 (gd rfl) rfl (n := 12) rfl (in_ix ro_109_96 rfl) ?_
      have hI72 := inv_sL (q := 178) (j := u_109_96.toNatClampNeg) (x := z71) hI51 rfl (l_rng z71)
      refine g_aload_n 74 (gd rfl) rfl rfl ?_
      refine g_getA (q2 := 179) 77 (gd rfl) rfl rfl rfl rfl ?_
      refine g_aload_n 78 (gd rfl) rfl rfl ?_
      refine g_getI 81 (gd rfl) rfl rfl rfl (fun z78 e78 => ?_)
      have q78 : u_109_96 = z78 := (sL_F (sI_F (sI_F (fr_F (e_109_96) hF1 rfl)))).trans e78.symm
      subst q78
      refine g_dup2 82 (gd rfl) rfl rfl rfl ?_
      refine g_laload 83 (gd rfl) rfl (n := 12) rfl (in_ix ro_109_96 rfl) (fun z82 e82 => ?_)
      refine g_aload_n 84 (gd rfl) rfl rfl ?_
      refine g_getA (q2 := 182) 87 (gd rfl) rfl rfl rfl rfl ?_
      refine g_aload_n 88 (gd rfl) rfl rfl ?_
      refine g_getI 91 (gd rfl) rfl rfl rfl (fun z88 e88 => ?_)
      have q88 : u_109_96 = z88 := (sL_F (sI_F (sI_F (fr_F (e_109_96) hF1 rfl)))).trans e88.symm
      subst q88
      refine g_laload 92 (gd rfl) rfl (n := 12) rfl (in_ix ro_109_96 rfl) (fun z91 e91 => ?_)
      refine g_lor 93 (gd rfl) rfl (fun z92 e92 => ?_)
      refine g_lastore 94 (gd rfl) rfl (n := 12) rfl (in_ix ro_109_96 rfl) ?_
      have hI93 := inv_sL (q := 179) (j := u_109_96.toNatClampNeg) (x := z92) hI72 rfl (l_rng z92)
      exact g_return (gd rfl) rfl (hP _ _ ⟨(sL (sL (sI (sI s1 176 u_109_96.toNatClampNeg (vp_nar .boolean (Int32.ofInt 1))) 177 u_109_96.toNatClampNeg (vp_nar .boolean (Int32.ofInt 1))) 178 u_109_96.toNatClampNeg z71) 179 u_109_96.toNatClampNeg z92), hI93, (fr_sL rfl (fr_sL rfl (fr_sI rfl (fr_sI rfl (fr_tr rfl fr_rf hF1))))), rfl, rfl⟩)

def fm_390 : FM := ([132, 183], [], [], [])
/-- GraphHouseModel.goOn -/
theorem k_390 {Z : AmZ} {A : Nat → Nat} {s : GS} {ex : va_W} {d : Nat} {X : AmX} {x1 : Int32} {x2 : Int64} {x3 : Int32} {x4 : Int32} (hd : 1 ≤ d) (hI : Inv s) (h1 : In x1 0 319) (h3 : In x3 0 2000) (h4 : In x4 0 2000) (q_0 : QI s (x4).toInt) (q_1 : 0 ≤ (x3).toInt ∧ (x3).toInt ≤ (x4).toInt) : GC Z d 390 [.ref (A 109), .int x1, .long x2, .int x3, .int x4] (WW Z A s ++ ex) 0 0 (fun v u => ∃ t : GS, Inv t ∧ Fr fm_390 s t ∧ ∃ z : Int32, v = some (.int z) ∧ u = WW Z A t ++ ex ∧ In z 0 2000 ∧ (QI t (z).toInt) ∧ ((x4).toInt ≤ (z).toInt) ∧ (∀ i : Nat, (i : Int) < (x4).toInt → t.1 132 i = s.1 132 i)) X := by
  intro post xp hP hX
  obtain ⟨u_109_81, e_109_81⟩ : ∃ w, w = s.2.2.1 109 81 := ⟨_, rfl⟩
  have ro_109_81 := inv_F hI 0 60 rfl e_109_81
  have ct7 : ∀ (k7 : Nat) (sc7 : GS) (y7_6 : Int32) (y7_7 : Int32), Inv sc7 → Fr fm_390 s sc7 → (In y7_6 0 2000) → (In y7_7 0 60) → ((x4).toInt ≤ (y7_6).toInt) → (QI sc7 (y7_6).toInt) → (∀ i : Nat, (i : Int) < (x4).toInt → sc7.1 132 i = s.1 132 i) → 60 - (y7_7).toInt < (k7 : Int) → GG Z (d - 1) 390 post (gx xp) (1 + k7 * 900) 7 (fun j => xlook j [(0, .ref (A 109)), (1, .int x1), (2, .long x2), (4, .int x3), (5, .int x4), (6, .int y7_6), (7, .int y7_7)]) [] (WW Z A sc7 ++ ex) 0 0 := by
    intro k7
    induction k7 with
    | zero => intro sc7 y7_6 y7_7 hIc7 hFc7 j7_6 j7_7 n7_0 g7_0 g7_1 mm7; exact m_no mm7 j7_7 rfl
    | succ k7 ih7 =>
      intro sc7 y7_6 y7_7 hIc7 hFc7 j7_6 j7_7 n7_0 g7_0 g7_1 mm7
      refine gg_w (M := 1 + k7 * 900 + 900) gws ?_
      refine g_iload 9 (gd rfl) rfl rfl ?_
      refine g_aload_n 10 (gd rfl) rfl rfl ?_
      refine g_getI 13 (gd rfl) rfl rfl rfl (fun z10 e10 => ?_)
      have q10 : u_109_81 = z10 := (fr_F e_109_81 hFc7 rfl).trans e10.symm
      subst q10
      refine g_cmp_ge 16 120 (gd rfl) rfl rfl (fun c13 => ?_) (fun c13 => ?_)
      · skip
        refine g_iload 122 (gd rfl) rfl rfl ?_
        have n122 : QI sc7 (y7_6).toInt := by exact g7_0
        have n122a : (x4).toInt ≤ (y7_6).toInt := by first | exact n7_0 | ((first | have a0 := oa6 h4 h3 h1 ro_109_81 j7_7 j7_6 | ((first | have a0 := in_u h4 | (have a0 := h4; unfold In at a0)); (first | have a1 := in_u h3 | (have a1 := h3; unfold In at a1)); (first | have a2 := in_u h1 | (have a2 := h1; unfold In at a2)); (first | have a3 := in_u ro_109_81 | (have a3 := ro_109_81; unfold In at a3)); (first | have a4 := in_u j7_7 | (have a4 := j7_7; unfold In at a4)); (first | have a5 := in_u j7_6 | (have a5 := j7_6; unfold In at a5)))); omega)
        have n122b : ∀ i : Nat, (i : Int) < (x4).toInt → sc7.1 132 i = s.1 132 i := by exact g7_1
        exact g_ireturn (gd rfl) rfl rfl (hP _ _ ⟨sc7, hIc7, hFc7, y7_6, rfl, rfl, in_w 0 2000 j7_6 rfl, n122, n122a, n122b⟩)
      · skip
        have i13 := r_lt1 0 59 c13 j7_7 ro_109_81 rfl
        have i13a := r_lt2 1 60 c13 j7_7 ro_109_81 rfl
        refine g_lload_n 17 (gd rfl) rfl rfl ?_
        refine g_iload 19 (gd rfl) rfl rfl ?_
        refine g_lshr 20 (gd rfl) rfl (fun z19 e19 => ?_)
        refine g_lconst 1 21 (gd rfl) rfl rfl ?_
        refine g_land 22 (gd rfl) rfl (fun z21 e21 => ?_)
        have i21 := inl_and2 e21 (l_c 1 rfl) rfl
        refine g_lconst 1 23 (gd rfl) rfl rfl ?_
        refine g_lcmp 24 (gd rfl) rfl (fun z23 e23 => ?_)
        have i23 := lc_in e23
        refine g_if_ne 27 59 (gd rfl) rfl rfl (fun c24 => ?_) (fun c24 => ?_)
        · skip
          have c24a := lc_ne e23 c24
          have i24 := lr_ne1 0 0 c24a i21 (l_c 1 rfl) rfl
          refine g_iconst 0 60 (gd rfl) rfl rfl ?_
          refine g_istore 62 (gd rfl) rfl (Nat.le_of_ble_eq_true rfl) ?_
          refine g_bipush 61 64 (gd rfl) rfl rfl ?_
          refine g_aload_n 65 (gd rfl) rfl rfl ?_
          refine g_getA (q2 := 114) 68 (gd rfl) rfl rfl rfl rfl ?_
          refine g_iload_n 69 (gd rfl) rfl rfl ?_
          refine g_iaload 70 (gd rfl) rfl (n := 480) rfl (in_ix h1 rfl) (fun z69 e69 => ?_)
          have i69 := inv_I hIc7 (n := 480) (t := 0) 0 31 rfl (in_ix h1 rfl) rfl e69
          refine g_imul 71 (gd rfl) rfl (fun z70 e70 => ?_)
          have i70 := in_mulc 61 0 1891 (Or.inl e70) i69 rfl rfl
          refine g_iload 73 (gd rfl) rfl rfl ?_
          refine g_iadd 74 (gd rfl) rfl (fun z73 e73 => ?_)
          have i73 := in_add 0 1950 e73 i70 i13 rfl rfl
          refine g_iconst 1 75 (gd rfl) rfl rfl ?_
          refine g_iadd 76 (gd rfl) rfl (fun z75 e75 => ?_)
          have i75 := in_add 1 1951 e75 i73 (in_c 1 rfl) rfl rfl
          refine g_istore 78 (gd rfl) rfl (Nat.le_of_ble_eq_true rfl) ?_
          refine g_iload 80 (gd rfl) rfl rfl ?_
          refine g_if_eq 83 114 (gd rfl) rfl rfl (fun c80 => ?_) (fun c80 => ?_)
          · skip
            first | (have n7q : QI sc7 (y7_6).toInt := (by have hq := q_1; rw [show (y7_6).toInt = y7_6.toInt + 1 from (by (first | have a0 := oa7 h4 h3 h1 i13a i13 j7_6 i75 | ((first | have a0 := in_u h4 | (have a0 := h4; unfold In at a0)); (first | have a1 := in_u h3 | (have a1 := h3; unfold In at a1)); (first | have a2 := in_u h1 | (have a2 := h1; unfold In at a2)); (first | have a3 := in_u i13a | (have a3 := i13a; unfold In at a3)); (first | have a4 := in_u i13 | (have a4 := i13; unfold In at a4)); (first | have a5 := in_u j7_6 | (have a5 := j7_6; unfold In at a5)); (first | have a6 := in_u i75 | (have a6 := i75; unfold In at a6)))); have a7 := t_add e75 i73 (in_c 1 rfl) rfl; (first | have a8 := oa2 ((in_c 1 rfl)) i73 | ((first | have a8 := in_u ((in_c 1 rfl)) | (have a8 := (in_c 1 rfl); unfold In at a8)); (first | have a9 := in_u i73 | (have a9 := i73; unfold In at a9)))); have a10 := t_add e73 i70 i13 rfl; (first | have a11 := in_u i70 | (have a11 := i70; unfold In at a11)); have a12 := (t_mulc 61 (Or.inl e70) i69 rfl).1; (first | have a13 := oa2 i69 ((in_c 0 rfl)) | ((first | have a13 := in_u i69 | (have a13 := i69; unfold In at a13)); (first | have a14 := in_u ((in_c 0 rfl)) | (have a14 := (in_c 0 rfl); unfold In at a14)))); omega)]; exact qi_push (m := y7_6.toNatClampNeg) g7_0 (by show ((y7_6.toInt.toNat : Nat) : Int) = _; (first | have a0 := oa7 h4 h3 h1 i13a i13 j7_6 i75 | ((first | have a0 := in_u h4 | (have a0 := h4; unfold In at a0)); (first | have a1 := in_u h3 | (have a1 := h3; unfold In at a1)); (first | have a2 := in_u h1 | (have a2 := h1; unfold In at a2)); (first | have a3 := in_u i13a | (have a3 := i13a; unfold In at a3)); (first | have a4 := in_u i13 | (have a4 := i13; unfold In at a4)); (first | have a5 := in_u j7_6 | (have a5 := j7_6; unfold In at a5)); (first | have a6 := in_u i75 | (have a6 := i75; unfold In at a6)))); have a7 := t_add e75 i73 (in_c 1 rfl) rfl; (first | have a8 := oa2 ((in_c 1 rfl)) i73 | ((first | have a8 := in_u ((in_c 1 rfl)) | (have a8 := (in_c 1 rfl); unfold In at a8)); (first | have a9 := in_u i73 | (have a9 := i73; unfold In at a9)))); have a10 := t_add e73 i70 i13 rfl; (first | have a11 := in_u i70 | (have a11 := i70; unfold In at a11)); have a12 := (t_mulc 61 (Or.inl e70) i69 rfl).1; (first | have a13 := oa2 i69 ((in_c 0 rfl)) | ((first | have a13 := in_u i69 | (have a13 := i69; unfold In at a13)); (first | have a14 := in_u ((in_c 0 rfl)) | (have a14 := (in_c 0 rfl); unfold In at a14)))); omega) (by rw [sI_q, sI_p rfl]) (by rw [sI_p rfl, sI_q]) i75 rfl (by rw [← e89]; have hz := i90; unfold In at hz; omega) hq.1 (by (first | have a0 := oa7 h4 h3 h1 i13a i13 j7_6 i75 | ((first | have a0 := in_u h4 | (have a0 := h4; unfold In at a0)); (first | have a1 := in_u h3 | (have a1 := h3; unfold In at a1)); (first | have a2 := in_u h1 | (have a2 := h1; unfold In at a2)); (first | have a3 := in_u i13a | (have a3 := i13a; unfold In at a3)); (first | have a4 := in_u i13 | (have a4 := i13; unfold In at a4)); (first | have a5 := in_u j7_6 | (have a5 := j7_6; unfold In at a5)); (first | have a6 := in_u i75 | (have a6 := i75; unfold In at a6)))); have a7 := t_add e75 i73 (in_c 1 rfl) rfl; (first | have a8 := oa2 ((in_c 1 rfl)) i73 | ((first | have a8 := in_u ((in_c 1 rfl)) | (have a8 := (in_c 1 rfl); unfold In at a8)); (first | have a9 := in_u i73 | (have a9 := i73; unfold In at a9)))); have a10 := t_add e73 i70 i13 rfl; (first | have a11 := in_u i70 | (have a11 := i70; unfold In at a11)); have a12 := (t_mulc 61 (Or.inl e70) i69 rfl).1; (first | have a13 := oa2 i69 ((in_c 0 rfl)) | ((first | have a13 := in_u i69 | (have a13 := i69; unfold In at a13)); (first | have a14 := in_u ((in_c 0 rfl)) | (have a14 := (in_c 0 rfl); unfold In at a14)))); omega))) | skip
            refine g_iinc 117 (gd rfl) rfl rfl (Nat.le_of_ble_eq_true rfl) (fun z114 e114 => ?_)
            have i114 := in_add 1 60 e114 i13 (in_c 1 rfl) rfl rfl
            refine g_goto 7 (gd rfl) rfl ?_
            have n7 : (x4).toInt ≤ (y7_6).toInt := by first | exact n7_0 | ((first | have a0 := oa7 h4 h3 h1 i13a i13 j7_6 i75 | ((first | have a0 := in_u h4 | (have a0 := h4; unfold In at a0)); (first | have a1 := in_u h3 | (have a1 := h3; unfold In at a1)); (first | have a2 := in_u h1 | (have a2 := h1; unfold In at a2)); (first | have a3 := in_u i13a | (have a3 := i13a; unfold In at a3)); (first | have a4 := in_u i13 | (have a4 := i13; unfold In at a4)); (first | have a5 := in_u j7_6 | (have a5 := j7_6; unfold In at a5)); (first | have a6 := in_u i75 | (have a6 := i75; unfold In at a6)))); have a7 := t_add e75 i73 (in_c 1 rfl) rfl; (first | have a8 := oa2 ((in_c 1 rfl)) i73 | ((first | have a8 := in_u ((in_c 1 rfl)) | (have a8 := (in_c 1 rfl); unfold In at a8)); (first | have a9 := in_u i73 | (have a9 := i73; unfold In at a9)))); have a10 := t_add e73 i70 i13 rfl; (first | have a11 := in_u i70 | (have a11 := i70; unfold In at a11)); have a12 := (t_mulc 61 (Or.inl e70) i69 rfl).1; (first | have a13 := oa3 i69 ((in_c 0 rfl)) i114 | ((first | have a13 := in_u i69 | (have a13 := i69; unfold In at a13)); (first | have a14 := in_u ((in_c 0 rfl)) | (have a14 := (in_c 0 rfl); unfold In at a14)); (first | have a15 := in_u i114 | (have a15 := i114; unfold In at a15)))); have a16 := t_add e114 i13 (in_c 1 rfl) rfl; omega)
            have n7a : QI sc7 (y7_6).toInt := by first | exact q_0 | exact g7_0 | exact n7q
            have n7b : ∀ i : Nat, (i : Int) < (x4).toInt → sc7.1 132 i = s.1 132 i := by first | exact g7_1 | (first | exact fun i hi => rfl | exact g7_1 | (intro i hi; rw [sI_q, sI_p rfl]; unfold upd; have e6 : y7_6.toNatClampNeg = y7_6.toInt.toNat := rfl; rw [if_neg (by (first | have a0 := oa7 h4 h3 h1 i13a i13 j7_6 i75 | ((first | have a0 := in_u h4 | (have a0 := h4; unfold In at a0)); (first | have a1 := in_u h3 | (have a1 := h3; unfold In at a1)); (first | have a2 := in_u h1 | (have a2 := h1; unfold In at a2)); (first | have a3 := in_u i13a | (have a3 := i13a; unfold In at a3)); (first | have a4 := in_u i13 | (have a4 := i13; unfold In at a4)); (first | have a5 := in_u j7_6 | (have a5 := j7_6; unfold In at a5)); (first | have a6 := in_u i75 | (have a6 := i75; unfold In at a6)))); have a7 := t_add e75 i73 (in_c 1 rfl) rfl; (first | have a8 := oa2 ((in_c 1 rfl)) i73 | ((first | have a8 := in_u ((in_c 1 rfl)) | (have a8 := (in_c 1 rfl); unfold In at a8)); (first | have a9 := in_u i73 | (have a9 := i73; unfold In at a9)))); have a10 := t_add e73 i70 i13 rfl; (first | have a11 := in_u i70 | (have a11 := i70; unfold In at a11)); have a12 := (t_mulc 61 (Or.inl e70) i69 rfl).1; (first | have a13 := oa3 i69 ((in_c 0 rfl)) i114 | ((first | have a13 := in_u i69 | (have a13 := i69; unfold In at a13)); (first | have a14 := in_u ((in_c 0 rfl)) | (have a14 := (in_c 0 rfl); unfold In at a14)); (first | have a15 := in_u i114 | (have a15 := i114; unfold In at a15)))); have a16 := t_add e114 i13 (in_c 1 rfl) rfl; omega)]; exact g7_1 i hi))
            exact gg_w (by first | exact Nat.le_add_right _ _ | exact gw2 | exact gw3 | exact gwe rfl | exact gwf rfl | exact gwg rfl | exact gwh rfl | omega) (gg_f (gf_cons rfl (gf_cons rfl (gf_cons rfl (gf_cons rfl (gf_cons rfl (gf_cons rfl (gf_cons rfl gf_nil))))))) (ih7 sc7 y7_6 z114 hIc7 hFc7 (in_w 0 2000 j7_6 rfl) (in_w 0 60 i114 rfl) n7 n7a n7b (m_up mm7 (t_add e114 i13 (in_c 1 rfl) rfl) (in_w 1 1 (in_c 1 rfl) rfl))))
          · skip
            exact zn_ne c80 (in_c 0 rfl) rfl
        · skip
          have i24 := z_eq 0 0 c24 i23 rfl
          have c24a := lc_eq e23 c24
          have i24a := lr_eq1 1 1 c24a i21 (l_c 1 rfl) rfl
          refine g_aload_n 28 (gd rfl) rfl rfl ?_
          refine g_getA (q2 := 172) 31 (gd rfl) rfl rfl rfl rfl ?_
          refine g_iload 33 (gd rfl) rfl rfl ?_
          refine g_iaload 34 (gd rfl) rfl (n := 60) rfl (in_ix i13 rfl) (fun z33 e33 => ?_)
          have i33 := inv_I hIc7 (n := 60) (t := 0) 0 26 rfl (in_ix i13 rfl) rfl e33
          refine g_bipush 26 36 (gd rfl) rfl rfl ?_
          refine g_cmp_eq 39 55 (gd rfl) rfl rfl (fun c36 => ?_) (fun c36 => ?_)
          · skip
            have i36 := r_eq1 26 26 c36 i33 (in_c 26 rfl) rfl
            refine g_iconst 1 56 (gd rfl) rfl rfl ?_
            refine g_goto 60 (gd rfl) rfl ?_
            refine g_istore 62 (gd rfl) rfl (Nat.le_of_ble_eq_true rfl) ?_
            refine g_bipush 61 64 (gd rfl) rfl rfl ?_
            refine g_aload_n 65 (gd rfl) rfl rfl ?_
            refine g_getA (q2 := 114) 68 (gd rfl) rfl rfl rfl rfl ?_
            refine g_iload_n 69 (gd rfl) rfl rfl ?_
            refine g_iaload 70 (gd rfl) rfl (n := 480) rfl (in_ix h1 rfl) (fun z69 e69 => ?_)
            have i69 := inv_I hIc7 (n := 480) (t := 0) 0 31 rfl (in_ix h1 rfl) rfl e69
            refine g_imul 71 (gd rfl) rfl (fun z70 e70 => ?_)
            have i70 := in_mulc 61 0 1891 (Or.inl e70) i69 rfl rfl
            refine g_iload 73 (gd rfl) rfl rfl ?_
            refine g_iadd 74 (gd rfl) rfl (fun z73 e73 => ?_)
            have i73 := in_add 0 1950 e73 i70 i13 rfl rfl
            refine g_iconst 1 75 (gd rfl) rfl rfl ?_
            refine g_iadd 76 (gd rfl) rfl (fun z75 e75 => ?_)
            have i75 := in_add 1 1951 e75 i73 (in_c 1 rfl) rfl rfl
            refine g_istore 78 (gd rfl) rfl (Nat.le_of_ble_eq_true rfl) ?_
            refine g_iload 80 (gd rfl) rfl rfl ?_
            refine g_if_eq 83 114 (gd rfl) rfl rfl (fun c80 => ?_) (fun c80 => ?_)
            · skip
              exact zn_eq c80 (in_c 1 rfl) rfl
            · skip
              refine g_aload_n 84 (gd rfl) rfl rfl ?_
              refine g_getA (q2 := 183) 87 (gd rfl) rfl rfl rfl rfl ?_
              refine g_iload 89 (gd rfl) rfl rfl ?_
              refine g_iaload 90 (gd rfl) rfl (n := 2000) rfl (in_ix i75 rfl) (fun z89 e89 => ?_)
              refine g_if_ge 93 114 (gd rfl) rfl rfl (fun c90 => ?_) (fun c90 => ?_)
              · skip
                have i90 := z_ge 0 2147483647 c90 (i_rng z89) rfl
                first | (have n7q : QI sc7 (y7_6).toInt := (by have hq := q_1; rw [show (y7_6).toInt = y7_6.toInt + 1 from (by (first | have a0 := oa7 h4 h3 h1 i13a i13 j7_6 i75 | ((first | have a0 := in_u h4 | (have a0 := h4; unfold In at a0)); (first | have a1 := in_u h3 | (have a1 := h3; unfold In at a1)); (first | have a2 := in_u h1 | (have a2 := h1; unfold In at a2)); (first | have a3 := in_u i13a | (have a3 := i13a; unfold In at a3)); (first | have a4 := in_u i13 | (have a4 := i13; unfold In at a4)); (first | have a5 := in_u j7_6 | (have a5 := j7_6; unfold In at a5)); (first | have a6 := in_u i75 | (have a6 := i75; unfold In at a6)))); have a7 := t_add e75 i73 (in_c 1 rfl) rfl; (first | have a8 := oa2 ((in_c 1 rfl)) i73 | ((first | have a8 := in_u ((in_c 1 rfl)) | (have a8 := (in_c 1 rfl); unfold In at a8)); (first | have a9 := in_u i73 | (have a9 := i73; unfold In at a9)))); have a10 := t_add e73 i70 i13 rfl; (first | have a11 := in_u i70 | (have a11 := i70; unfold In at a11)); have a12 := (t_mulc 61 (Or.inl e70) i69 rfl).1; (first | have a13 := in_u i69 | (have a13 := i69; unfold In at a13)); omega)]; exact qi_push (m := y7_6.toNatClampNeg) g7_0 (by show ((y7_6.toInt.toNat : Nat) : Int) = _; (first | have a0 := oa7 h4 h3 h1 i13a i13 j7_6 i75 | ((first | have a0 := in_u h4 | (have a0 := h4; unfold In at a0)); (first | have a1 := in_u h3 | (have a1 := h3; unfold In at a1)); (first | have a2 := in_u h1 | (have a2 := h1; unfold In at a2)); (first | have a3 := in_u i13a | (have a3 := i13a; unfold In at a3)); (first | have a4 := in_u i13 | (have a4 := i13; unfold In at a4)); (first | have a5 := in_u j7_6 | (have a5 := j7_6; unfold In at a5)); (first | have a6 := in_u i75 | (have a6 := i75; unfold In at a6)))); have a7 := t_add e75 i73 (in_c 1 rfl) rfl; (first | have a8 := oa2 ((in_c 1 rfl)) i73 | ((first | have a8 := in_u ((in_c 1 rfl)) | (have a8 := (in_c 1 rfl); unfold In at a8)); (first | have a9 := in_u i73 | (have a9 := i73; unfold In at a9)))); have a10 := t_add e73 i70 i13 rfl; (first | have a11 := in_u i70 | (have a11 := i70; unfold In at a11)); have a12 := (t_mulc 61 (Or.inl e70) i69 rfl).1; (first | have a13 := in_u i69 | (have a13 := i69; unfold In at a13)); omega) (by rw [sI_q, sI_p rfl]) (by rw [sI_p rfl, sI_q]) i75 rfl (by rw [← e89]; have hz := i90; unfold In at hz; omega) hq.1 (by (first | have a0 := oa7 h4 h3 h1 i13a i13 j7_6 i75 | ((first | have a0 := in_u h4 | (have a0 := h4; unfold In at a0)); (first | have a1 := in_u h3 | (have a1 := h3; unfold In at a1)); (first | have a2 := in_u h1 | (have a2 := h1; unfold In at a2)); (first | have a3 := in_u i13a | (have a3 := i13a; unfold In at a3)); (first | have a4 := in_u i13 | (have a4 := i13; unfold In at a4)); (first | have a5 := in_u j7_6 | (have a5 := j7_6; unfold In at a5)); (first | have a6 := in_u i75 | (have a6 := i75; unfold In at a6)))); have a7 := t_add e75 i73 (in_c 1 rfl) rfl; (first | have a8 := oa2 ((in_c 1 rfl)) i73 | ((first | have a8 := in_u ((in_c 1 rfl)) | (have a8 := (in_c 1 rfl); unfold In at a8)); (first | have a9 := in_u i73 | (have a9 := i73; unfold In at a9)))); have a10 := t_add e73 i70 i13 rfl; (first | have a11 := in_u i70 | (have a11 := i70; unfold In at a11)); have a12 := (t_mulc 61 (Or.inl e70) i69 rfl).1; (first | have a13 := in_u i69 | (have a13 := i69; unfold In at a13)); omega))) | skip
                refine g_iinc 117 (gd rfl) rfl rfl (Nat.le_of_ble_eq_true rfl) (fun z114 e114 => ?_)
                have i114 := in_add 1 60 e114 i13 (in_c 1 rfl) rfl rfl
                refine g_goto 7 (gd rfl) rfl ?_
                have n7 : (x4).toInt ≤ (y7_6).toInt := by first | exact n7_0 | ((first | have a0 := oa7 h4 h3 h1 i13a i13 j7_6 i75 | ((first | have a0 := in_u h4 | (have a0 := h4; unfold In at a0)); (first | have a1 := in_u h3 | (have a1 := h3; unfold In at a1)); (first | have a2 := in_u h1 | (have a2 := h1; unfold In at a2)); (first | have a3 := in_u i13a | (have a3 := i13a; unfold In at a3)); (first | have a4 := in_u i13 | (have a4 := i13; unfold In at a4)); (first | have a5 := in_u j7_6 | (have a5 := j7_6; unfold In at a5)); (first | have a6 := in_u i75 | (have a6 := i75; unfold In at a6)))); have a7 := t_add e75 i73 (in_c 1 rfl) rfl; (first | have a8 := oa2 ((in_c 1 rfl)) i73 | ((first | have a8 := in_u ((in_c 1 rfl)) | (have a8 := (in_c 1 rfl); unfold In at a8)); (first | have a9 := in_u i73 | (have a9 := i73; unfold In at a9)))); have a10 := t_add e73 i70 i13 rfl; (first | have a11 := in_u i70 | (have a11 := i70; unfold In at a11)); have a12 := (t_mulc 61 (Or.inl e70) i69 rfl).1; (first | have a13 := oa2 i69 i114 | ((first | have a13 := in_u i69 | (have a13 := i69; unfold In at a13)); (first | have a14 := in_u i114 | (have a14 := i114; unfold In at a14)))); have a15 := t_add e114 i13 (in_c 1 rfl) rfl; omega)
                have n7a : QI sc7 (y7_6).toInt := by first | exact q_0 | exact g7_0 | exact n7q
                have n7b : ∀ i : Nat, (i : Int) < (x4).toInt → sc7.1 132 i = s.1 132 i := by first | exact g7_1 | (first | exact fun i hi => rfl | exact g7_1 | (intro i hi; rw [sI_q, sI_p rfl]; unfold upd; have e6 : y7_6.toNatClampNeg = y7_6.toInt.toNat := rfl; rw [if_neg (by (first | have a0 := oa7 h4 h3 h1 i13a i13 j7_6 i75 | ((first | have a0 := in_u h4 | (have a0 := h4; unfold In at a0)); (first | have a1 := in_u h3 | (have a1 := h3; unfold In at a1)); (first | have a2 := in_u h1 | (have a2 := h1; unfold In at a2)); (first | have a3 := in_u i13a | (have a3 := i13a; unfold In at a3)); (first | have a4 := in_u i13 | (have a4 := i13; unfold In at a4)); (first | have a5 := in_u j7_6 | (have a5 := j7_6; unfold In at a5)); (first | have a6 := in_u i75 | (have a6 := i75; unfold In at a6)))); have a7 := t_add e75 i73 (in_c 1 rfl) rfl; (first | have a8 := oa2 ((in_c 1 rfl)) i73 | ((first | have a8 := in_u ((in_c 1 rfl)) | (have a8 := (in_c 1 rfl); unfold In at a8)); (first | have a9 := in_u i73 | (have a9 := i73; unfold In at a9)))); have a10 := t_add e73 i70 i13 rfl; (first | have a11 := in_u i70 | (have a11 := i70; unfold In at a11)); have a12 := (t_mulc 61 (Or.inl e70) i69 rfl).1; (first | have a13 := oa2 i69 i114 | ((first | have a13 := in_u i69 | (have a13 := i69; unfold In at a13)); (first | have a14 := in_u i114 | (have a14 := i114; unfold In at a14)))); have a15 := t_add e114 i13 (in_c 1 rfl) rfl; omega)]; exact g7_1 i hi))
                exact gg_w (by first | exact Nat.le_add_right _ _ | exact gw2 | exact gw3 | exact gwe rfl | exact gwf rfl | exact gwg rfl | exact gwh rfl | omega) (gg_f (gf_cons rfl (gf_cons rfl (gf_cons rfl (gf_cons rfl (gf_cons rfl (gf_cons rfl (gf_cons rfl gf_nil))))))) (ih7 sc7 y7_6 z114 hIc7 hFc7 (in_w 0 2000 j7_6 rfl) (in_w 0 60 i114 rfl) n7 n7a n7b (m_up mm7 (t_add e114 i13 (in_c 1 rfl) rfl) (in_w 1 1 (in_c 1 rfl) rfl))))
              · skip
                have i90 := z_lt (-2147483648) (-1) c90 (i_rng z89) rfl
                refine g_aload_n 94 (gd rfl) rfl rfl ?_
                refine g_getA (q2 := 183) 97 (gd rfl) rfl rfl rfl rfl ?_
                refine g_iload 99 (gd rfl) rfl rfl ?_
                refine g_iload 101 (gd rfl) rfl rfl ?_
                refine g_iastore 102 (gd rfl) rfl (n := 2000) rfl (in_ix i75 rfl) ?_
                have hI101 := inv_sI (q := 183) (j := z75.toNatClampNeg) hIc7 rfl (in_w (-2147483648) 2147483647 h3 rfl)
                refine g_aload_n 103 (gd rfl) rfl rfl ?_
                refine g_getA (q2 := 132) 106 (gd rfl) rfl rfl rfl rfl ?_
                refine g_iload 108 (gd rfl) rfl rfl ?_
                refine g_iload 110 (gd rfl) rfl rfl ?_
                refine g_iastore 111 (gd rfl) rfl (n := 4000) rfl (in_ix j7_6 rfl) ?_
                have hI110 := inv_sI (q := 132) (j := y7_6.toNatClampNeg) hI101 rfl (in_w 0 1951 i75 rfl)
                refine g_iinc 114 (gd rfl) rfl rfl (Nat.le_of_ble_eq_true rfl) (fun z111 e111 => ?_)
                have i111 := in_add 1 2001 e111 j7_6 (in_c 1 rfl) rfl rfl
                first | (have n7q : QI (sI (sI sc7 183 z75.toNatClampNeg x3) 132 y7_6.toNatClampNeg z75) (z111).toInt := (by have hq := q_1; rw [show (z111).toInt = y7_6.toInt + 1 from (by (first | have a0 := oa7 h4 h3 h1 i13a i13 j7_6 i75 | ((first | have a0 := in_u h4 | (have a0 := h4; unfold In at a0)); (first | have a1 := in_u h3 | (have a1 := h3; unfold In at a1)); (first | have a2 := in_u h1 | (have a2 := h1; unfold In at a2)); (first | have a3 := in_u i13a | (have a3 := i13a; unfold In at a3)); (first | have a4 := in_u i13 | (have a4 := i13; unfold In at a4)); (first | have a5 := in_u j7_6 | (have a5 := j7_6; unfold In at a5)); (first | have a6 := in_u i75 | (have a6 := i75; unfold In at a6)))); have a7 := t_add e75 i73 (in_c 1 rfl) rfl; (first | have a8 := oa2 ((in_c 1 rfl)) i73 | ((first | have a8 := in_u ((in_c 1 rfl)) | (have a8 := (in_c 1 rfl); unfold In at a8)); (first | have a9 := in_u i73 | (have a9 := i73; unfold In at a9)))); have a10 := t_add e73 i70 i13 rfl; (first | have a11 := in_u i70 | (have a11 := i70; unfold In at a11)); have a12 := (t_mulc 61 (Or.inl e70) i69 rfl).1; (first | have a13 := oa2 i69 i111 | ((first | have a13 := in_u i69 | (have a13 := i69; unfold In at a13)); (first | have a14 := in_u i111 | (have a14 := i111; unfold In at a14)))); have a15 := t_add e111 j7_6 (in_c 1 rfl) rfl; omega)]; exact qi_push (m := y7_6.toNatClampNeg) g7_0 (by show ((y7_6.toInt.toNat : Nat) : Int) = _; (first | have a0 := oa7 h4 h3 h1 i13a i13 j7_6 i75 | ((first | have a0 := in_u h4 | (have a0 := h4; unfold In at a0)); (first | have a1 := in_u h3 | (have a1 := h3; unfold In at a1)); (first | have a2 := in_u h1 | (have a2 := h1; unfold In at a2)); (first | have a3 := in_u i13a | (have a3 := i13a; unfold In at a3)); (first | have a4 := in_u i13 | (have a4 := i13; unfold In at a4)); (first | have a5 := in_u j7_6 | (have a5 := j7_6; unfold In at a5)); (first | have a6 := in_u i75 | (have a6 := i75; unfold In at a6)))); have a7 := t_add e75 i73 (in_c 1 rfl) rfl; (first | have a8 := oa2 ((in_c 1 rfl)) i73 | ((first | have a8 := in_u ((in_c 1 rfl)) | (have a8 := (in_c 1 rfl); unfold In at a8)); (first | have a9 := in_u i73 | (have a9 := i73; unfold In at a9)))); have a10 := t_add e73 i70 i13 rfl; (first | have a11 := in_u i70 | (have a11 := i70; unfold In at a11)); have a12 := (t_mulc 61 (Or.inl e70) i69 rfl).1; (first | have a13 := oa2 i69 i111 | ((first | have a13 := in_u i69 | (have a13 := i69; unfold In at a13)); (first | have a14 := in_u i111 | (have a14 := i111; unfold In at a14)))); have a15 := t_add e111 j7_6 (in_c 1 rfl) rfl; omega) (by rw [sI_q, sI_p rfl]) (by rw [sI_p rfl, sI_q]) i75 rfl (by rw [← e89]; have hz := i90; unfold In at hz; omega) hq.1 (by (first | have a0 := oa7 h4 h3 h1 i13a i13 j7_6 i75 | ((first | have a0 := in_u h4 | (have a0 := h4; unfold In at a0)); (first | have a1 := in_u h3 | (have a1 := h3; unfold In at a1)); (first | have a2 := in_u h1 | (have a2 := h1; unfold In at a2)); (first | have a3 := in_u i13a | (have a3 := i13a; unfold In at a3)); (first | have a4 := in_u i13 | (have a4 := i13; unfold In at a4)); (first | have a5 := in_u j7_6 | (have a5 := j7_6; unfold In at a5)); (first | have a6 := in_u i75 | (have a6 := i75; unfold In at a6)))); have a7 := t_add e75 i73 (in_c 1 rfl) rfl; (first | have a8 := oa2 ((in_c 1 rfl)) i73 | ((first | have a8 := in_u ((in_c 1 rfl)) | (have a8 := (in_c 1 rfl); unfold In at a8)); (first | have a9 := in_u i73 | (have a9 := i73; unfold In at a9)))); have a10 := t_add e73 i70 i13 rfl; (first | have a11 := in_u i70 | (have a11 := i70; unfold In at a11)); have a12 := (t_mulc 61 (Or.inl e70) i69 rfl).1; (first | have a13 := oa2 i69 i111 | ((first | have a13 := in_u i69 | (have a13 := i69; unfold In at a13)); (first | have a14 := in_u i111 | (have a14 := i111; unfold In at a14)))); have a15 := t_add e111 j7_6 (in_c 1 rfl) rfl; omega))) | skip
                refine g_iinc 117 (gd rfl) rfl rfl (Nat.le_of_ble_eq_true rfl) (fun z114 e114 => ?_)
                have i114 := in_add 1 60 e114 i13 (in_c 1 rfl) rfl rfl
                refine g_goto 7 (gd rfl) rfl ?_
                have i7 : In z111 0 2000 := by first | (have hq := qi_le n7q; exact ⟨by (first | have a0 := oa7 h4 h3 h1 i13a i13 j7_6 i75 | ((first | have a0 := in_u h4 | (have a0 := h4; unfold In at a0)); (first | have a1 := in_u h3 | (have a1 := h3; unfold In at a1)); (first | have a2 := in_u h1 | (have a2 := h1; unfold In at a2)); (first | have a3 := in_u i13a | (have a3 := i13a; unfold In at a3)); (first | have a4 := in_u i13 | (have a4 := i13; unfold In at a4)); (first | have a5 := in_u j7_6 | (have a5 := j7_6; unfold In at a5)); (first | have a6 := in_u i75 | (have a6 := i75; unfold In at a6)))); have a7 := t_add e75 i73 (in_c 1 rfl) rfl; (first | have a8 := oa2 ((in_c 1 rfl)) i73 | ((first | have a8 := in_u ((in_c 1 rfl)) | (have a8 := (in_c 1 rfl); unfold In at a8)); (first | have a9 := in_u i73 | (have a9 := i73; unfold In at a9)))); have a10 := t_add e73 i70 i13 rfl; (first | have a11 := in_u i70 | (have a11 := i70; unfold In at a11)); have a12 := (t_mulc 61 (Or.inl e70) i69 rfl).1; (first | have a13 := oa2 i69 i114 | ((first | have a13 := in_u i69 | (have a13 := i69; unfold In at a13)); (first | have a14 := in_u i114 | (have a14 := i114; unfold In at a14)))); have a15 := t_add e114 i13 (in_c 1 rfl) rfl; (first | have a16 := in_u i111 | (have a16 := i111; unfold In at a16)); have a17 := t_add e111 j7_6 (in_c 1 rfl) rfl; omega, by (first | have a0 := oa7 h4 h3 h1 i13a i13 j7_6 i75 | ((first | have a0 := in_u h4 | (have a0 := h4; unfold In at a0)); (first | have a1 := in_u h3 | (have a1 := h3; unfold In at a1)); (first | have a2 := in_u h1 | (have a2 := h1; unfold In at a2)); (first | have a3 := in_u i13a | (have a3 := i13a; unfold In at a3)); (first | have a4 := in_u i13 | (have a4 := i13; unfold In at a4)); (first | have a5 := in_u j7_6 | (have a5 := j7_6; unfold In at a5)); (first | have a6 := in_u i75 | (have a6 := i75; unfold In at a6)))); have a7 := t_add e75 i73 (in_c 1 rfl) rfl; (first | have a8 := oa2 ((in_c 1 rfl)) i73 | ((first | have a8 := in_u ((in_c 1 rfl)) | (have a8 := (in_c 1 rfl); unfold In at a8)); (first | have a9 := in_u i73 | (have a9 := i73; unfold In at a9)))); have a10 := t_add e73 i70 i13 rfl; (first | have a11 := in_u i70 | (have a11 := i70; unfold In at a11)); have a12 := (t_mulc 61 (Or.inl e70) i69 rfl).1; (first | have a13 := oa2 i69 i114 | ((first | have a13 := in_u i69 | (have a13 := i69; unfold In at a13)); (first | have a14 := in_u i114 | (have a14 := i114; unfold In at a14)))); have a15 := t_add e114 i13 (in_c 1 rfl) rfl; (first | have a16 := in_u i111 | (have a16 := i111; unfold In at a16)); have a17 := t_add e111 j7_6 (in_c 1 rfl) rfl; omega⟩) | (have hq := qi_le q_0; exact ⟨by (first | have a0 := oa7 h4 h3 h1 i13a i13 j7_6 i75 | ((first | have a0 := in_u h4 | (have a0 := h4; unfold In at a0)); (first | have a1 := in_u h3 | (have a1 := h3; unfold In at a1)); (first | have a2 := in_u h1 | (have a2 := h1; unfold In at a2)); (first | have a3 := in_u i13a | (have a3 := i13a; unfold In at a3)); (first | have a4 := in_u i13 | (have a4 := i13; unfold In at a4)); (first | have a5 := in_u j7_6 | (have a5 := j7_6; unfold In at a5)); (first | have a6 := in_u i75 | (have a6 := i75; unfold In at a6)))); have a7 := t_add e75 i73 (in_c 1 rfl) rfl; (first | have a8 := oa2 ((in_c 1 rfl)) i73 | ((first | have a8 := in_u ((in_c 1 rfl)) | (have a8 := (in_c 1 rfl); unfold In at a8)); (first | have a9 := in_u i73 | (have a9 := i73; unfold In at a9)))); have a10 := t_add e73 i70 i13 rfl; (first | have a11 := in_u i70 | (have a11 := i70; unfold In at a11)); have a12 := (t_mulc 61 (Or.inl e70) i69 rfl).1; (first | have a13 := oa2 i69 i114 | ((first | have a13 := in_u i69 | (have a13 := i69; unfold In at a13)); (first | have a14 := in_u i114 | (have a14 := i114; unfold In at a14)))); have a15 := t_add e114 i13 (in_c 1 rfl) rfl; (first | have a16 := in_u i111 | (have a16 := i111; unfold In at a16)); have a17 := t_add e111 j7_6 (in_c 1 rfl) rfl; omega, by (first | have a0 := oa7 h4 h3 h1 i13a i13 j7_6 i75 | ((first | have a0 := in_u h4 | (have a0 := h4; unfold In at a0)); (first | have a1 := in_u h3 | (have a1 := h3; unfold In at a1)); (first | have a2 := in_u h1 | (have a2 := h1; unfold In at a2)); (first | have a3 := in_u i13a | (have a3 := i13a; unfold In at a3)); (first | have a4 := in_u i13 | (have a4 := i13; unfold In at a4)); (first | have a5 := in_u j7_6 | (have a5 := j7_6; unfold In at a5)); (first | have a6 := in_u i75 | (have a6 := i75; unfold In at a6)))); have a7 := t_add e75 i73 (in_c 1 rfl) rfl; (first | have a8 := oa2 ((in_c 1 rfl)) i73 | ((first | have a8 := in_u ((in_c 1 rfl)) | (have a8 := (in_c 1 rfl); unfold In at a8)); (first | have a9 := in_u i73 | (have a9 := i73; unfold In at a9)))); have a10 := t_add e73 i70 i13 rfl; (first | have a11 := in_u i70 | (have a11 := i70; unfold In at a11)); have a12 := (t_mulc 61 (Or.inl e70) i69 rfl).1; (first | have a13 := oa2 i69 i114 | ((first | have a13 := in_u i69 | (have a13 := i69; unfold In at a13)); (first | have a14 := in_u i114 | (have a14 := i114; unfold In at a14)))); have a15 := t_add e114 i13 (in_c 1 rfl) rfl; (first | have a16 := in_u i111 | (have a16 := i111; unfold In at a16)); have a17 := t_add e111 j7_6 (in_c 1 rfl) rfl; omega⟩)
                have n7 : (x4).toInt ≤ (z111).toInt := by (first | have a0 := oa7 h4 h3 h1 i13a i13 j7_6 i75 | ((first | have a0 := in_u h4 | (have a0 := h4; unfold In at a0)); (first | have a1 := in_u h3 | (have a1 := h3; unfold In at a1)); (first | have a2 := in_u h1 | (have a2 := h1; unfold In at a2)); (first | have a3 := in_u i13a | (have a3 := i13a; unfold In at a3)); (first | have a4 := in_u i13 | (have a4 := i13; unfold In at a4)); (first | have a5 := in_u j7_6 | (have a5 := j7_6; unfold In at a5)); (first | have a6 := in_u i75 | (have a6 := i75; unfold In at a6)))); have a7 := t_add e75 i73 (in_c 1 rfl) rfl; (first | have a8 := oa2 ((in_c 1 rfl)) i73 | ((first | have a8 := in_u ((in_c 1 rfl)) | (have a8 := (in_c 1 rfl); unfold In at a8)); (first | have a9 := in_u i73 | (have a9 := i73; unfold In at a9)))); have a10 := t_add e73 i70 i13 rfl; (first | have a11 := in_u i70 | (have a11 := i70; unfold In at a11)); have a12 := (t_mulc 61 (Or.inl e70) i69 rfl).1; (first | have a13 := oa2 i69 i114 | ((first | have a13 := in_u i69 | (have a13 := i69; unfold In at a13)); (first | have a14 := in_u i114 | (have a14 := i114; unfold In at a14)))); have a15 := t_add e114 i13 (in_c 1 rfl) rfl; (first | have a16 := in_u i7 | (have a16 := i7; unfold In at a16)); have a17 := t_add e111 j7_6 (in_c 1 rfl) rfl; omega
                have n7a : QI (sI (sI sc7 183 z75.toNatClampNeg x3) 132 y7_6.toNatClampNeg z75) (z111).toInt := by first | exact q_0 | exact g7_0 | exact n7q
                have n7b : ∀ i : Nat, (i : Int) < (x4).toInt → (sI (sI sc7 183 z75.toNatClampNeg x3) 132 y7_6.toNatClampNeg z75).1 132 i = s.1 132 i := by first | exact fun i hi => rfl | exact g7_1 | (intro i hi; rw [sI_q, sI_p rfl]; unfold upd; have e6 : y7_6.toNatClampNeg = y7_6.toInt.toNat := rfl; rw [if_neg (by (first | have a0 := oa7 h4 h3 h1 i13a i13 j7_6 i75 | ((first | have a0 := in_u h4 | (have a0 := h4; unfold In at a0)); (first | have a1 := in_u h3 | (have a1 := h3; unfold In at a1)); (first | have a2 := in_u h1 | (have a2 := h1; unfold In at a2)); (first | have a3 := in_u i13a | (have a3 := i13a; unfold In at a3)); (first | have a4 := in_u i13 | (have a4 := i13; unfold In at a4)); (first | have a5 := in_u j7_6 | (have a5 := j7_6; unfold In at a5)); (first | have a6 := in_u i75 | (have a6 := i75; unfold In at a6)))); have a7 := t_add e75 i73 (in_c 1 rfl) rfl; (first | have a8 := oa2 ((in_c 1 rfl)) i73 | ((first | have a8 := in_u ((in_c 1 rfl)) | (have a8 := (in_c 1 rfl); unfold In at a8)); (first | have a9 := in_u i73 | (have a9 := i73; unfold In at a9)))); have a10 := t_add e73 i70 i13 rfl; (first | have a11 := in_u i70 | (have a11 := i70; unfold In at a11)); have a12 := (t_mulc 61 (Or.inl e70) i69 rfl).1; (first | have a13 := oa2 i69 i114 | ((first | have a13 := in_u i69 | (have a13 := i69; unfold In at a13)); (first | have a14 := in_u i114 | (have a14 := i114; unfold In at a14)))); have a15 := t_add e114 i13 (in_c 1 rfl) rfl; (first | have a16 := in_u i7 | (have a16 := i7; unfold In at a16)); have a17 := t_add e111 j7_6 (in_c 1 rfl) rfl; omega)]; exact g7_1 i hi)
                exact gg_w (by first | exact Nat.le_add_right _ _ | exact gw2 | exact gw3 | exact gwe rfl | exact gwf rfl | exact gwg rfl | exact gwh rfl | omega) (gg_f (gf_cons rfl (gf_cons rfl (gf_cons rfl (gf_cons rfl (gf_cons rfl (gf_cons rfl (gf_cons rfl gf_nil))))))) (ih7 (sI (sI sc7 183 z75.toNatClampNeg x3) 132 y7_6.toNatClampNeg z75) z111 z114 hI110 (fr_sI rfl (fr_sI rfl hFc7)) i7 (in_w 0 60 i114 rfl) n7 n7a n7b (m_up mm7 (t_add e114 i13 (in_c 1 rfl) rfl) (in_w 1 1 (in_c 1 rfl) rfl))))
          · skip
            have i36 := r_ne1 0 25 c36 i33 (in_c 26 rfl) rfl
            refine g_aload_n 40 (gd rfl) rfl rfl ?_
            refine g_getA (q2 := 172) 43 (gd rfl) rfl rfl rfl rfl ?_
            refine g_iload 45 (gd rfl) rfl rfl ?_
            refine g_iaload 46 (gd rfl) rfl (n := 60) rfl (in_ix i13 rfl) (fun z45 e45 => ?_)
            have q45 : z33 = z45 := (e33).trans e45.symm
            subst q45
            refine g_aload_n 47 (gd rfl) rfl rfl ?_
            refine g_getA (q2 := 117) 50 (gd rfl) rfl rfl rfl rfl ?_
            refine g_iload_n 51 (gd rfl) rfl rfl ?_
            refine g_iaload 52 (gd rfl) rfl (n := 480) rfl (in_ix h1 rfl) (fun z51 e51 => ?_)
            have i51 := inv_I hIc7 (n := 480) (t := 0) 0 25 rfl (in_ix h1 rfl) rfl e51
            refine g_cmp_ne 55 59 (gd rfl) rfl rfl (fun c52 => ?_) (fun c52 => ?_)
            · skip
              refine g_iconst 0 60 (gd rfl) rfl rfl ?_
              refine g_istore 62 (gd rfl) rfl (Nat.le_of_ble_eq_true rfl) ?_
              refine g_bipush 61 64 (gd rfl) rfl rfl ?_
              refine g_aload_n 65 (gd rfl) rfl rfl ?_
              refine g_getA (q2 := 114) 68 (gd rfl) rfl rfl rfl rfl ?_
              refine g_iload_n 69 (gd rfl) rfl rfl ?_
              refine g_iaload 70 (gd rfl) rfl (n := 480) rfl (in_ix h1 rfl) (fun z69 e69 => ?_)
              have i69 := inv_I hIc7 (n := 480) (t := 0) 0 31 rfl (in_ix h1 rfl) rfl e69
              refine g_imul 71 (gd rfl) rfl (fun z70 e70 => ?_)
              have i70 := in_mulc 61 0 1891 (Or.inl e70) i69 rfl rfl
              refine g_iload 73 (gd rfl) rfl rfl ?_
              refine g_iadd 74 (gd rfl) rfl (fun z73 e73 => ?_)
              have i73 := in_add 0 1950 e73 i70 i13 rfl rfl
              refine g_iconst 1 75 (gd rfl) rfl rfl ?_
              refine g_iadd 76 (gd rfl) rfl (fun z75 e75 => ?_)
              have i75 := in_add 1 1951 e75 i73 (in_c 1 rfl) rfl rfl
              refine g_istore 78 (gd rfl) rfl (Nat.le_of_ble_eq_true rfl) ?_
              refine g_iload 80 (gd rfl) rfl rfl ?_
              refine g_if_eq 83 114 (gd rfl) rfl rfl (fun c80 => ?_) (fun c80 => ?_)
              · skip
                first | (have n7q : QI sc7 (y7_6).toInt := (by have hq := q_1; rw [show (y7_6).toInt = y7_6.toInt + 1 from (by (first | have a0 := oa7 h4 h3 h1 i13a i13 j7_6 i75 | ((first | have a0 := in_u h4 | (have a0 := h4; unfold In at a0)); (first | have a1 := in_u h3 | (have a1 := h3; unfold In at a1)); (first | have a2 := in_u h1 | (have a2 := h1; unfold In at a2)); (first | have a3 := in_u i13a | (have a3 := i13a; unfold In at a3)); (first | have a4 := in_u i13 | (have a4 := i13; unfold In at a4)); (first | have a5 := in_u j7_6 | (have a5 := j7_6; unfold In at a5)); (first | have a6 := in_u i75 | (have a6 := i75; unfold In at a6)))); have a7 := t_add e75 i73 (in_c 1 rfl) rfl; (first | have a8 := oa2 ((in_c 1 rfl)) i73 | ((first | have a8 := in_u ((in_c 1 rfl)) | (have a8 := (in_c 1 rfl); unfold In at a8)); (first | have a9 := in_u i73 | (have a9 := i73; unfold In at a9)))); have a10 := t_add e73 i70 i13 rfl; (first | have a11 := in_u i70 | (have a11 := i70; unfold In at a11)); have a12 := (t_mulc 61 (Or.inl e70) i69 rfl).1; (first | have a13 := oa2 i69 ((in_c 0 rfl)) | ((first | have a13 := in_u i69 | (have a13 := i69; unfold In at a13)); (first | have a14 := in_u ((in_c 0 rfl)) | (have a14 := (in_c 0 rfl); unfold In at a14)))); omega)]; exact qi_push (m := y7_6.toNatClampNeg) g7_0 (by show ((y7_6.toInt.toNat : Nat) : Int) = _; (first | have a0 := oa7 h4 h3 h1 i13a i13 j7_6 i75 | ((first | have a0 := in_u h4 | (have a0 := h4; unfold In at a0)); (first | have a1 := in_u h3 | (have a1 := h3; unfold In at a1)); (first | have a2 := in_u h1 | (have a2 := h1; unfold In at a2)); (first | have a3 := in_u i13a | (have a3 := i13a; unfold In at a3)); (first | have a4 := in_u i13 | (have a4 := i13; unfold In at a4)); (first | have a5 := in_u j7_6 | (have a5 := j7_6; unfold In at a5)); (first | have a6 := in_u i75 | (have a6 := i75; unfold In at a6)))); have a7 := t_add e75 i73 (in_c 1 rfl) rfl; (first | have a8 := oa2 ((in_c 1 rfl)) i73 | ((first | have a8 := in_u ((in_c 1 rfl)) | (have a8 := (in_c 1 rfl); unfold In at a8)); (first | have a9 := in_u i73 | (have a9 := i73; unfold In at a9)))); have a10 := t_add e73 i70 i13 rfl; (first | have a11 := in_u i70 | (have a11 := i70; unfold In at a11)); have a12 := (t_mulc 61 (Or.inl e70) i69 rfl).1; (first | have a13 := oa2 i69 ((in_c 0 rfl)) | ((first | have a13 := in_u i69 | (have a13 := i69; unfold In at a13)); (first | have a14 := in_u ((in_c 0 rfl)) | (have a14 := (in_c 0 rfl); unfold In at a14)))); omega) (by rw [sI_q, sI_p rfl]) (by rw [sI_p rfl, sI_q]) i75 rfl (by rw [← e89]; have hz := i90; unfold In at hz; omega) hq.1 (by (first | have a0 := oa7 h4 h3 h1 i13a i13 j7_6 i75 | ((first | have a0 := in_u h4 | (have a0 := h4; unfold In at a0)); (first | have a1 := in_u h3 | (have a1 := h3; unfold In at a1)); (first | have a2 := in_u h1 | (have a2 := h1; unfold In at a2)); (first | have a3 := in_u i13a | (have a3 := i13a; unfold In at a3)); (first | have a4 := in_u i13 | (have a4 := i13; unfold In at a4)); (first | have a5 := in_u j7_6 | (have a5 := j7_6; unfold In at a5)); (first | have a6 := in_u i75 | (have a6 := i75; unfold In at a6)))); have a7 := t_add e75 i73 (in_c 1 rfl) rfl; (first | have a8 := oa2 ((in_c 1 rfl)) i73 | ((first | have a8 := in_u ((in_c 1 rfl)) | (have a8 := (in_c 1 rfl); unfold In at a8)); (first | have a9 := in_u i73 | (have a9 := i73; unfold In at a9)))); have a10 := t_add e73 i70 i13 rfl; (first | have a11 := in_u i70 | (have a11 := i70; unfold In at a11)); have a12 := (t_mulc 61 (Or.inl e70) i69 rfl).1; (first | have a13 := oa2 i69 ((in_c 0 rfl)) | ((first | have a13 := in_u i69 | (have a13 := i69; unfold In at a13)); (first | have a14 := in_u ((in_c 0 rfl)) | (have a14 := (in_c 0 rfl); unfold In at a14)))); omega))) | skip
                refine g_iinc 117 (gd rfl) rfl rfl (Nat.le_of_ble_eq_true rfl) (fun z114 e114 => ?_)
                have i114 := in_add 1 60 e114 i13 (in_c 1 rfl) rfl rfl
                refine g_goto 7 (gd rfl) rfl ?_
                have n7 : (x4).toInt ≤ (y7_6).toInt := by first | exact n7_0 | ((first | have a0 := oa7 h4 h3 h1 i13a i13 j7_6 i75 | ((first | have a0 := in_u h4 | (have a0 := h4; unfold In at a0)); (first | have a1 := in_u h3 | (have a1 := h3; unfold In at a1)); (first | have a2 := in_u h1 | (have a2 := h1; unfold In at a2)); (first | have a3 := in_u i13a | (have a3 := i13a; unfold In at a3)); (first | have a4 := in_u i13 | (have a4 := i13; unfold In at a4)); (first | have a5 := in_u j7_6 | (have a5 := j7_6; unfold In at a5)); (first | have a6 := in_u i75 | (have a6 := i75; unfold In at a6)))); have a7 := t_add e75 i73 (in_c 1 rfl) rfl; (first | have a8 := oa2 ((in_c 1 rfl)) i73 | ((first | have a8 := in_u ((in_c 1 rfl)) | (have a8 := (in_c 1 rfl); unfold In at a8)); (first | have a9 := in_u i73 | (have a9 := i73; unfold In at a9)))); have a10 := t_add e73 i70 i13 rfl; (first | have a11 := in_u i70 | (have a11 := i70; unfold In at a11)); have a12 := (t_mulc 61 (Or.inl e70) i69 rfl).1; (first | have a13 := oa3 i69 ((in_c 0 rfl)) i114 | ((first | have a13 := in_u i69 | (have a13 := i69; unfold In at a13)); (first | have a14 := in_u ((in_c 0 rfl)) | (have a14 := (in_c 0 rfl); unfold In at a14)); (first | have a15 := in_u i114 | (have a15 := i114; unfold In at a15)))); have a16 := t_add e114 i13 (in_c 1 rfl) rfl; omega)
                have n7a : QI sc7 (y7_6).toInt := by first | exact q_0 | exact g7_0 | exact n7q
                have n7b : ∀ i : Nat, (i : Int) < (x4).toInt → sc7.1 132 i = s.1 132 i := by first | exact g7_1 | (first | exact fun i hi => rfl | exact g7_1 | (intro i hi; rw [sI_q, sI_p rfl]; unfold upd; have e6 : y7_6.toNatClampNeg = y7_6.toInt.toNat := rfl; rw [if_neg (by (first | have a0 := oa7 h4 h3 h1 i13a i13 j7_6 i75 | ((first | have a0 := in_u h4 | (have a0 := h4; unfold In at a0)); (first | have a1 := in_u h3 | (have a1 := h3; unfold In at a1)); (first | have a2 := in_u h1 | (have a2 := h1; unfold In at a2)); (first | have a3 := in_u i13a | (have a3 := i13a; unfold In at a3)); (first | have a4 := in_u i13 | (have a4 := i13; unfold In at a4)); (first | have a5 := in_u j7_6 | (have a5 := j7_6; unfold In at a5)); (first | have a6 := in_u i75 | (have a6 := i75; unfold In at a6)))); have a7 := t_add e75 i73 (in_c 1 rfl) rfl; (first | have a8 := oa2 ((in_c 1 rfl)) i73 | ((first | have a8 := in_u ((in_c 1 rfl)) | (have a8 := (in_c 1 rfl); unfold In at a8)); (first | have a9 := in_u i73 | (have a9 := i73; unfold In at a9)))); have a10 := t_add e73 i70 i13 rfl; (first | have a11 := in_u i70 | (have a11 := i70; unfold In at a11)); have a12 := (t_mulc 61 (Or.inl e70) i69 rfl).1; (first | have a13 := oa3 i69 ((in_c 0 rfl)) i114 | ((first | have a13 := in_u i69 | (have a13 := i69; unfold In at a13)); (first | have a14 := in_u ((in_c 0 rfl)) | (have a14 := (in_c 0 rfl); unfold In at a14)); (first | have a15 := in_u i114 | (have a15 := i114; unfold In at a15)))); have a16 := t_add e114 i13 (in_c 1 rfl) rfl; omega)]; exact g7_1 i hi))
                exact gg_w (by first | exact Nat.le_add_right _ _ | exact gw2 | exact gw3 | exact gwe rfl | exact gwf rfl | exact gwg rfl | exact gwh rfl | omega) (gg_f (gf_cons rfl (gf_cons rfl (gf_cons rfl (gf_cons rfl (gf_cons rfl (gf_cons rfl (gf_cons rfl gf_nil))))))) (ih7 sc7 y7_6 z114 hIc7 hFc7 (in_w 0 2000 j7_6 rfl) (in_w 0 60 i114 rfl) n7 n7a n7b (m_up mm7 (t_add e114 i13 (in_c 1 rfl) rfl) (in_w 1 1 (in_c 1 rfl) rfl))))
              · skip
                exact zn_ne c80 (in_c 0 rfl) rfl
            · skip
              refine g_iconst 1 56 (gd rfl) rfl rfl ?_
              refine g_goto 60 (gd rfl) rfl ?_
              refine g_istore 62 (gd rfl) rfl (Nat.le_of_ble_eq_true rfl) ?_
              refine g_bipush 61 64 (gd rfl) rfl rfl ?_
              refine g_aload_n 65 (gd rfl) rfl rfl ?_
              refine g_getA (q2 := 114) 68 (gd rfl) rfl rfl rfl rfl ?_
              refine g_iload_n 69 (gd rfl) rfl rfl ?_
              refine g_iaload 70 (gd rfl) rfl (n := 480) rfl (in_ix h1 rfl) (fun z69 e69 => ?_)
              have i69 := inv_I hIc7 (n := 480) (t := 0) 0 31 rfl (in_ix h1 rfl) rfl e69
              refine g_imul 71 (gd rfl) rfl (fun z70 e70 => ?_)
              have i70 := in_mulc 61 0 1891 (Or.inl e70) i69 rfl rfl
              refine g_iload 73 (gd rfl) rfl rfl ?_
              refine g_iadd 74 (gd rfl) rfl (fun z73 e73 => ?_)
              have i73 := in_add 0 1950 e73 i70 i13 rfl rfl
              refine g_iconst 1 75 (gd rfl) rfl rfl ?_
              refine g_iadd 76 (gd rfl) rfl (fun z75 e75 => ?_)
              have i75 := in_add 1 1951 e75 i73 (in_c 1 rfl) rfl rfl
              refine g_istore 78 (gd rfl) rfl (Nat.le_of_ble_eq_true rfl) ?_
              refine g_iload 80 (gd rfl) rfl rfl ?_
              refine g_if_eq 83 114 (gd rfl) rfl rfl (fun c80 => ?_) (fun c80 => ?_)
              · skip
                exact zn_eq c80 (in_c 1 rfl) rfl
              · skip
                refine g_aload_n 84 (gd rfl) rfl rfl ?_
                refine g_getA (q2 := 183) 87 (gd rfl) rfl rfl rfl rfl ?_
                refine g_iload 89 (gd rfl) rfl rfl ?_
                refine g_iaload 90 (gd rfl) rfl (n := 2000) rfl (in_ix i75 rfl) (fun z89 e89 => ?_)
                refine g_if_ge 93 114 (gd rfl) rfl rfl (fun c90 => ?_) (fun c90 => ?_)
                · skip
                  have i90 := z_ge 0 2147483647 c90 (i_rng z89) rfl
                  first | (have n7q : QI sc7 (y7_6).toInt := (by have hq := q_1; rw [show (y7_6).toInt = y7_6.toInt + 1 from (by (first | have a0 := oa7 h4 h3 h1 i13a i13 j7_6 i75 | ((first | have a0 := in_u h4 | (have a0 := h4; unfold In at a0)); (first | have a1 := in_u h3 | (have a1 := h3; unfold In at a1)); (first | have a2 := in_u h1 | (have a2 := h1; unfold In at a2)); (first | have a3 := in_u i13a | (have a3 := i13a; unfold In at a3)); (first | have a4 := in_u i13 | (have a4 := i13; unfold In at a4)); (first | have a5 := in_u j7_6 | (have a5 := j7_6; unfold In at a5)); (first | have a6 := in_u i75 | (have a6 := i75; unfold In at a6)))); have a7 := t_add e75 i73 (in_c 1 rfl) rfl; (first | have a8 := oa2 ((in_c 1 rfl)) i73 | ((first | have a8 := in_u ((in_c 1 rfl)) | (have a8 := (in_c 1 rfl); unfold In at a8)); (first | have a9 := in_u i73 | (have a9 := i73; unfold In at a9)))); have a10 := t_add e73 i70 i13 rfl; (first | have a11 := in_u i70 | (have a11 := i70; unfold In at a11)); have a12 := (t_mulc 61 (Or.inl e70) i69 rfl).1; (first | have a13 := in_u i69 | (have a13 := i69; unfold In at a13)); omega)]; exact qi_push (m := y7_6.toNatClampNeg) g7_0 (by show ((y7_6.toInt.toNat : Nat) : Int) = _; (first | have a0 := oa7 h4 h3 h1 i13a i13 j7_6 i75 | ((first | have a0 := in_u h4 | (have a0 := h4; unfold In at a0)); (first | have a1 := in_u h3 | (have a1 := h3; unfold In at a1)); (first | have a2 := in_u h1 | (have a2 := h1; unfold In at a2)); (first | have a3 := in_u i13a | (have a3 := i13a; unfold In at a3)); (first | have a4 := in_u i13 | (have a4 := i13; unfold In at a4)); (first | have a5 := in_u j7_6 | (have a5 := j7_6; unfold In at a5)); (first | have a6 := in_u i75 | (have a6 := i75; unfold In at a6)))); have a7 := t_add e75 i73 (in_c 1 rfl) rfl; (first | have a8 := oa2 ((in_c 1 rfl)) i73 | ((first | have a8 := in_u ((in_c 1 rfl)) | (have a8 := (in_c 1 rfl); unfold In at a8)); (first | have a9 := in_u i73 | (have a9 := i73; unfold In at a9)))); have a10 := t_add e73 i70 i13 rfl; (first | have a11 := in_u i70 | (have a11 := i70; unfold In at a11)); have a12 := (t_mulc 61 (Or.inl e70) i69 rfl).1; (first | have a13 := in_u i69 | (have a13 := i69; unfold In at a13)); omega) (by rw [sI_q, sI_p rfl]) (by rw [sI_p rfl, sI_q]) i75 rfl (by rw [← e89]; have hz := i90; unfold In at hz; omega) hq.1 (by (first | have a0 := oa7 h4 h3 h1 i13a i13 j7_6 i75 | ((first | have a0 := in_u h4 | (have a0 := h4; unfold In at a0)); (first | have a1 := in_u h3 | (have a1 := h3; unfold In at a1)); (first | have a2 := in_u h1 | (have a2 := h1; unfold In at a2)); (first | have a3 := in_u i13a | (have a3 := i13a; unfold In at a3)); (first | have a4 := in_u i13 | (have a4 := i13; unfold In at a4)); (first | have a5 := in_u j7_6 | (have a5 := j7_6; unfold In at a5)); (first | have a6 := in_u i75 | (have a6 := i75; unfold In at a6)))); have a7 := t_add e75 i73 (in_c 1 rfl) rfl; (first | have a8 := oa2 ((in_c 1 rfl)) i73 | ((first | have a8 := in_u ((in_c 1 rfl)) | (have a8 := (in_c 1 rfl); unfold In at a8)); (first | have a9 := in_u i73 | (have a9 := i73; unfold In at a9)))); have a10 := t_add e73 i70 i13 rfl; (first | have a11 := in_u i70 | (have a11 := i70; unfold In at a11)); have a12 := (t_mulc 61 (Or.inl e70) i69 rfl).1; (first | have a13 := in_u i69 | (have a13 := i69; unfold In at a13)); omega))) | skip
                  refine g_iinc 117 (gd rfl) rfl rfl (Nat.le_of_ble_eq_true rfl) (fun z114 e114 => ?_)
                  have i114 := in_add 1 60 e114 i13 (in_c 1 rfl) rfl rfl
                  refine g_goto 7 (gd rfl) rfl ?_
                  have n7 : (x4).toInt ≤ (y7_6).toInt := by first | exact n7_0 | ((first | have a0 := oa7 h4 h3 h1 i13a i13 j7_6 i75 | ((first | have a0 := in_u h4 | (have a0 := h4; unfold In at a0)); (first | have a1 := in_u h3 | (have a1 := h3; unfold In at a1)); (first | have a2 := in_u h1 | (have a2 := h1; unfold In at a2)); (first | have a3 := in_u i13a | (have a3 := i13a; unfold In at a3)); (first | have a4 := in_u i13 | (have a4 := i13; unfold In at a4)); (first | have a5 := in_u j7_6 | (have a5 := j7_6; unfold In at a5)); (first | have a6 := in_u i75 | (have a6 := i75; unfold In at a6)))); have a7 := t_add e75 i73 (in_c 1 rfl) rfl; (first | have a8 := oa2 ((in_c 1 rfl)) i73 | ((first | have a8 := in_u ((in_c 1 rfl)) | (have a8 := (in_c 1 rfl); unfold In at a8)); (first | have a9 := in_u i73 | (have a9 := i73; unfold In at a9)))); have a10 := t_add e73 i70 i13 rfl; (first | have a11 := in_u i70 | (have a11 := i70; unfold In at a11)); have a12 := (t_mulc 61 (Or.inl e70) i69 rfl).1; (first | have a13 := oa2 i69 i114 | ((first | have a13 := in_u i69 | (have a13 := i69; unfold In at a13)); (first | have a14 := in_u i114 | (have a14 := i114; unfold In at a14)))); have a15 := t_add e114 i13 (in_c 1 rfl) rfl; omega)
                  have n7a : QI sc7 (y7_6).toInt := by first | exact q_0 | exact g7_0 | exact n7q
                  have n7b : ∀ i : Nat, (i : Int) < (x4).toInt → sc7.1 132 i = s.1 132 i := by first | exact g7_1 | (first | exact fun i hi => rfl | exact g7_1 | (intro i hi; rw [sI_q, sI_p rfl]; unfold upd; have e6 : y7_6.toNatClampNeg = y7_6.toInt.toNat := rfl; rw [if_neg (by (first | have a0 := oa7 h4 h3 h1 i13a i13 j7_6 i75 | ((first | have a0 := in_u h4 | (have a0 := h4; unfold In at a0)); (first | have a1 := in_u h3 | (have a1 := h3; unfold In at a1)); (first | have a2 := in_u h1 | (have a2 := h1; unfold In at a2)); (first | have a3 := in_u i13a | (have a3 := i13a; unfold In at a3)); (first | have a4 := in_u i13 | (have a4 := i13; unfold In at a4)); (first | have a5 := in_u j7_6 | (have a5 := j7_6; unfold In at a5)); (first | have a6 := in_u i75 | (have a6 := i75; unfold In at a6)))); have a7 := t_add e75 i73 (in_c 1 rfl) rfl; (first | have a8 := oa2 ((in_c 1 rfl)) i73 | ((first | have a8 := in_u ((in_c 1 rfl)) | (have a8 := (in_c 1 rfl); unfold In at a8)); (first | have a9 := in_u i73 | (have a9 := i73; unfold In at a9)))); have a10 := t_add e73 i70 i13 rfl; (first | have a11 := in_u i70 | (have a11 := i70; unfold In at a11)); have a12 := (t_mulc 61 (Or.inl e70) i69 rfl).1; (first | have a13 := oa2 i69 i114 | ((first | have a13 := in_u i69 | (have a13 := i69; unfold In at a13)); (first | have a14 := in_u i114 | (have a14 := i114; unfold In at a14)))); have a15 := t_add e114 i13 (in_c 1 rfl) rfl; omega)]; exact g7_1 i hi))
                  exact gg_w (by first | exact Nat.le_add_right _ _ | exact gw2 | exact gw3 | exact gwe rfl | exact gwf rfl | exact gwg rfl | exact gwh rfl | omega) (gg_f (gf_cons rfl (gf_cons rfl (gf_cons rfl (gf_cons rfl (gf_cons rfl (gf_cons rfl (gf_cons rfl gf_nil))))))) (ih7 sc7 y7_6 z114 hIc7 hFc7 (in_w 0 2000 j7_6 rfl) (in_w 0 60 i114 rfl) n7 n7a n7b (m_up mm7 (t_add e114 i13 (in_c 1 rfl) rfl) (in_w 1 1 (in_c 1 rfl) rfl))))
                · skip
                  have i90 := z_lt (-2147483648) (-1) c90 (i_rng z89) rfl
                  refine g_aload_n 94 (gd rfl) rfl rfl ?_
                  refine g_getA (q2 := 183) 97 (gd rfl) rfl rfl rfl rfl ?_
                  refine g_iload 99 (gd rfl) rfl rfl ?_
                  refine g_iload 101 (gd rfl) rfl rfl ?_
                  refine g_iastore 102 (gd rfl) rfl (n := 2000) rfl (in_ix i75 rfl) ?_
                  have hI101 := inv_sI (q := 183) (j := z75.toNatClampNeg) hIc7 rfl (in_w (-2147483648) 2147483647 h3 rfl)
                  refine g_aload_n 103 (gd rfl) rfl rfl ?_
                  refine g_getA (q2 := 132) 106 (gd rfl) rfl rfl rfl rfl ?_
                  refine g_iload 108 (gd rfl) rfl rfl ?_
                  refine g_iload 110 (gd rfl) rfl rfl ?_
                  refine g_iastore 111 (gd rfl) rfl (n := 4000) rfl (in_ix j7_6 rfl) ?_
                  have hI110 := inv_sI (q := 132) (j := y7_6.toNatClampNeg) hI101 rfl (in_w 0 1951 i75 rfl)
                  refine g_iinc 114 (gd rfl) rfl rfl (Nat.le_of_ble_eq_true rfl) (fun z111 e111 => ?_)
                  have i111 := in_add 1 2001 e111 j7_6 (in_c 1 rfl) rfl rfl
                  first | (have n7q : QI (sI (sI sc7 183 z75.toNatClampNeg x3) 132 y7_6.toNatClampNeg z75) (z111).toInt := (by have hq := q_1; rw [show (z111).toInt = y7_6.toInt + 1 from (by (first | have a0 := oa7 h4 h3 h1 i13a i13 j7_6 i75 | ((first | have a0 := in_u h4 | (have a0 := h4; unfold In at a0)); (first | have a1 := in_u h3 | (have a1 := h3; unfold In at a1)); (first | have a2 := in_u h1 | (have a2 := h1; unfold In at a2)); (first | have a3 := in_u i13a | (have a3 := i13a; unfold In at a3)); (first | have a4 := in_u i13 | (have a4 := i13; unfold In at a4)); (first | have a5 := in_u j7_6 | (have a5 := j7_6; unfold In at a5)); (first | have a6 := in_u i75 | (have a6 := i75; unfold In at a6)))); have a7 := t_add e75 i73 (in_c 1 rfl) rfl; (first | have a8 := oa2 ((in_c 1 rfl)) i73 | ((first | have a8 := in_u ((in_c 1 rfl)) | (have a8 := (in_c 1 rfl); unfold In at a8)); (first | have a9 := in_u i73 | (have a9 := i73; unfold In at a9)))); have a10 := t_add e73 i70 i13 rfl; (first | have a11 := in_u i70 | (have a11 := i70; unfold In at a11)); have a12 := (t_mulc 61 (Or.inl e70) i69 rfl).1; (first | have a13 := oa2 i69 i111 | ((first | have a13 := in_u i69 | (have a13 := i69; unfold In at a13)); (first | have a14 := in_u i111 | (have a14 := i111; unfold In at a14)))); have a15 := t_add e111 j7_6 (in_c 1 rfl) rfl; omega)]; exact qi_push (m := y7_6.toNatClampNeg) g7_0 (by show ((y7_6.toInt.toNat : Nat) : Int) = _; (first | have a0 := oa7 h4 h3 h1 i13a i13 j7_6 i75 | ((first | have a0 := in_u h4 | (have a0 := h4; unfold In at a0)); (first | have a1 := in_u h3 | (have a1 := h3; unfold In at a1)); (first | have a2 := in_u h1 | (have a2 := h1; unfold In at a2)); (first | have a3 := in_u i13a | (have a3 := i13a; unfold In at a3)); (first | have a4 := in_u i13 | (have a4 := i13; unfold In at a4)); (first | have a5 := in_u j7_6 | (have a5 := j7_6; unfold In at a5)); (first | have a6 := in_u i75 | (have a6 := i75; unfold In at a6)))); have a7 := t_add e75 i73 (in_c 1 rfl) rfl; (first | have a8 := oa2 ((in_c 1 rfl)) i73 | ((first | have a8 := in_u ((in_c 1 rfl)) | (have a8 := (in_c 1 rfl); unfold In at a8)); (first | have a9 := in_u i73 | (have a9 := i73; unfold In at a9)))); have a10 := t_add e73 i70 i13 rfl; (first | have a11 := in_u i70 | (have a11 := i70; unfold In at a11)); have a12 := (t_mulc 61 (Or.inl e70) i69 rfl).1; (first | have a13 := oa2 i69 i111 | ((first | have a13 := in_u i69 | (have a13 := i69; unfold In at a13)); (first | have a14 := in_u i111 | (have a14 := i111; unfold In at a14)))); have a15 := t_add e111 j7_6 (in_c 1 rfl) rfl; omega) (by rw [sI_q, sI_p rfl]) (by rw [sI_p rfl, sI_q]) i75 rfl (by rw [← e89]; have hz := i90; unfold In at hz; omega) hq.1 (by (first | have a0 := oa7 h4 h3 h1 i13a i13 j7_6 i75 | ((first | have a0 := in_u h4 | (have a0 := h4; unfold In at a0)); (first | have a1 := in_u h3 | (have a1 := h3; unfold In at a1)); (first | have a2 := in_u h1 | (have a2 := h1; unfold In at a2)); (first | have a3 := in_u i13a | (have a3 := i13a; unfold In at a3)); (first | have a4 := in_u i13 | (have a4 := i13; unfold In at a4)); (first | have a5 := in_u j7_6 | (have a5 := j7_6; unfold In at a5)); (first | have a6 := in_u i75 | (have a6 := i75; unfold In at a6)))); have a7 := t_add e75 i73 (in_c 1 rfl) rfl; (first | have a8 := oa2 ((in_c 1 rfl)) i73 | ((first | have a8 := in_u ((in_c 1 rfl)) | (have a8 := (in_c 1 rfl); unfold In at a8)); (first | have a9 := in_u i73 | (have a9 := i73; unfold In at a9)))); have a10 := t_add e73 i70 i13 rfl; (first | have a11 := in_u i70 | (have a11 := i70; unfold In at a11)); have a12 := (t_mulc 61 (Or.inl e70) i69 rfl).1; (first | have a13 := oa2 i69 i111 | ((first | have a13 := in_u i69 | (have a13 := i69; unfold In at a13)); (first | have a14 := in_u i111 | (have a14 := i111; unfold In at a14)))); have a15 := t_add e111 j7_6 (in_c 1 rfl) rfl; omega))) | skip
                  refine g_iinc 117 (gd rfl) rfl rfl (Nat.le_of_ble_eq_true rfl) (fun z114 e114 => ?_)
                  have i114 := in_add 1 60 e114 i13 (in_c 1 rfl) rfl rfl
                  refine g_goto 7 (gd rfl) rfl ?_
                  have i7 : In z111 0 2000 := by first | (have hq := qi_le n7q; exact ⟨by (first | have a0 := oa7 h4 h3 h1 i13a i13 j7_6 i75 | ((first | have a0 := in_u h4 | (have a0 := h4; unfold In at a0)); (first | have a1 := in_u h3 | (have a1 := h3; unfold In at a1)); (first | have a2 := in_u h1 | (have a2 := h1; unfold In at a2)); (first | have a3 := in_u i13a | (have a3 := i13a; unfold In at a3)); (first | have a4 := in_u i13 | (have a4 := i13; unfold In at a4)); (first | have a5 := in_u j7_6 | (have a5 := j7_6; unfold In at a5)); (first | have a6 := in_u i75 | (have a6 := i75; unfold In at a6)))); have a7 := t_add e75 i73 (in_c 1 rfl) rfl; (first | have a8 := oa2 ((in_c 1 rfl)) i73 | ((first | have a8 := in_u ((in_c 1 rfl)) | (have a8 := (in_c 1 rfl); unfold In at a8)); (first | have a9 := in_u i73 | (have a9 := i73; unfold In at a9)))); have a10 := t_add e73 i70 i13 rfl; (first | have a11 := in_u i70 | (have a11 := i70; unfold In at a11)); have a12 := (t_mulc 61 (Or.inl e70) i69 rfl).1; (first | have a13 := oa2 i69 i114 | ((first | have a13 := in_u i69 | (have a13 := i69; unfold In at a13)); (first | have a14 := in_u i114 | (have a14 := i114; unfold In at a14)))); have a15 := t_add e114 i13 (in_c 1 rfl) rfl; (first | have a16 := in_u i111 | (have a16 := i111; unfold In at a16)); have a17 := t_add e111 j7_6 (in_c 1 rfl) rfl; omega, by (first | have a0 := oa7 h4 h3 h1 i13a i13 j7_6 i75 | ((first | have a0 := in_u h4 | (have a0 := h4; unfold In at a0)); (first | have a1 := in_u h3 | (have a1 := h3; unfold In at a1)); (first | have a2 := in_u h1 | (have a2 := h1; unfold In at a2)); (first | have a3 := in_u i13a | (have a3 := i13a; unfold In at a3)); (first | have a4 := in_u i13 | (have a4 := i13; unfold In at a4)); (first | have a5 := in_u j7_6 | (have a5 := j7_6; unfold In at a5)); (first | have a6 := in_u i75 | (have a6 := i75; unfold In at a6)))); have a7 := t_add e75 i73 (in_c 1 rfl) rfl; (first | have a8 := oa2 ((in_c 1 rfl)) i73 | ((first | have a8 := in_u ((in_c 1 rfl)) | (have a8 := (in_c 1 rfl); unfold In at a8)); (first | have a9 := in_u i73 | (have a9 := i73; unfold In at a9)))); have a10 := t_add e73 i70 i13 rfl; (first | have a11 := in_u i70 | (have a11 := i70; unfold In at a11)); have a12 := (t_mulc 61 (Or.inl e70) i69 rfl).1; (first | have a13 := oa2 i69 i114 | ((first | have a13 := in_u i69 | (have a13 := i69; unfold In at a13)); (first | have a14 := in_u i114 | (have a14 := i114; unfold In at a14)))); have a15 := t_add e114 i13 (in_c 1 rfl) rfl; (first | have a16 := in_u i111 | (have a16 := i111; unfold In at a16)); have a17 := t_add e111 j7_6 (in_c 1 rfl) rfl; omega⟩) | (have hq := qi_le q_0; exact ⟨by (first | have a0 := oa7 h4 h3 h1 i13a i13 j7_6 i75 | ((first | have a0 := in_u h4 | (have a0 := h4; unfold In at a0)); (first | have a1 := in_u h3 | (have a1 := h3; unfold In at a1)); (first | have a2 := in_u h1 | (have a2 := h1; unfold In at a2)); (first | have a3 := in_u i13a | (have a3 := i13a; unfold In at a3)); (first | have a4 := in_u i13 | (have a4 := i13; unfold In at a4)); (first | have a5 := in_u j7_6 | (have a5 := j7_6; unfold In at a5)); (first | have a6 := in_u i75 | (have a6 := i75; unfold In at a6)))); have a7 := t_add e75 i73 (in_c 1 rfl) rfl; (first | have a8 := oa2 ((in_c 1 rfl)) i73 | ((first | have a8 := in_u ((in_c 1 rfl)) | (have a8 := (in_c 1 rfl); unfold In at a8)); (first | have a9 := in_u i73 | (have a9 := i73; unfold In at a9)))); have a10 := t_add e73 i70 i13 rfl; (first | have a11 := in_u i70 | (have a11 := i70; unfold In at a11)); have a12 := (t_mulc 61 (Or.inl e70) i69 rfl).1; (first | have a13 := oa2 i69 i114 | ((first | have a13 := in_u i69 | (have a13 := i69; unfold In at a13)); (first | have a14 := in_u i114 | (have a14 := i114; unfold In at a14)))); have a15 := t_add e114 i13 (in_c 1 rfl) rfl; (first | have a16 := in_u i111 | (have a16 := i111; unfold In at a16)); have a17 := t_add e111 j7_6 (in_c 1 rfl) rfl; omega, by (first | have a0 := oa7 h4 h3 h1 i13a i13 j7_6 i75 | ((first | have a0 := in_u h4 | (have a0 := h4; unfold In at a0)); (first | have a1 := in_u h3 | (have a1 := h3; unfold In at a1)); (first | have a2 := in_u h1 | (have a2 := h1; unfold In at a2)); (first | have a3 := in_u i13a | (have a3 := i13a; unfold In at a3)); (first | have a4 := in_u i13 | (have a4 := i13; unfold In at a4)); (first | have a5 := in_u j7_6 | (have a5 := j7_6; unfold In at a5)); (first | have a6 := in_u i75 | (have a6 := i75; unfold In at a6)))); have a7 := t_add e75 i73 (in_c 1 rfl) rfl; (first | have a8 := oa2 ((in_c 1 rfl)) i73 | ((first | have a8 := in_u ((in_c 1 rfl)) | (have a8 := (in_c 1 rfl); unfold In at a8)); (first | have a9 := in_u i73 | (have a9 := i73; unfold In at a9)))); have a10 := t_add e73 i70 i13 rfl; (first | have a11 := in_u i70 | (have a11 := i70; unfold In at a11)); have a12 := (t_mulc 61 (Or.inl e70) i69 rfl).1; (first | have a13 := oa2 i69 i114 | ((first | have a13 := in_u i69 | (have a13 := i69; unfold In at a13)); (first | have a14 := in_u i114 | (have a14 := i114; unfold In at a14)))); have a15 := t_add e114 i13 (in_c 1 rfl) rfl; (first | have a16 := in_u i111 | (have a16 := i111; unfold In at a16)); have a17 := t_add e111 j7_6 (in_c 1 rfl) rfl; omega⟩)
                  have n7 : (x4).toInt ≤ (z111).toInt := by (first | have a0 := oa7 h4 h3 h1 i13a i13 j7_6 i75 | ((first | have a0 := in_u h4 | (have a0 := h4; unfold In at a0)); (first | have a1 := in_u h3 | (have a1 := h3; unfold In at a1)); (first | have a2 := in_u h1 | (have a2 := h1; unfold In at a2)); (first | have a3 := in_u i13a | (have a3 := i13a; unfold In at a3)); (first | have a4 := in_u i13 | (have a4 := i13; unfold In at a4)); (first | have a5 := in_u j7_6 | (have a5 := j7_6; unfold In at a5)); (first | have a6 := in_u i75 | (have a6 := i75; unfold In at a6)))); have a7 := t_add e75 i73 (in_c 1 rfl) rfl; (first | have a8 := oa2 ((in_c 1 rfl)) i73 | ((first | have a8 := in_u ((in_c 1 rfl)) | (have a8 := (in_c 1 rfl); unfold In at a8)); (first | have a9 := in_u i73 | (have a9 := i73; unfold In at a9)))); have a10 := t_add e73 i70 i13 rfl; (first | have a11 := in_u i70 | (have a11 := i70; unfold In at a11)); have a12 := (t_mulc 61 (Or.inl e70) i69 rfl).1; (first | have a13 := oa2 i69 i114 | ((first | have a13 := in_u i69 | (have a13 := i69; unfold In at a13)); (first | have a14 := in_u i114 | (have a14 := i114; unfold In at a14)))); have a15 := t_add e114 i13 (in_c 1 rfl) rfl; (first | have a16 := in_u i7 | (have a16 := i7; unfold In at a16)); have a17 := t_add e111 j7_6 (in_c 1 rfl) rfl; omega
                  have n7a : QI (sI (sI sc7 183 z75.toNatClampNeg x3) 132 y7_6.toNatClampNeg z75) (z111).toInt := by first | exact q_0 | exact g7_0 | exact n7q
                  have n7b : ∀ i : Nat, (i : Int) < (x4).toInt → (sI (sI sc7 183 z75.toNatClampNeg x3) 132 y7_6.toNatClampNeg z75).1 132 i = s.1 132 i := by first | exact fun i hi => rfl | exact g7_1 | (intro i hi; rw [sI_q, sI_p rfl]; unfold upd; have e6 : y7_6.toNatClampNeg = y7_6.toInt.toNat := rfl; rw [if_neg (by (first | have a0 := oa7 h4 h3 h1 i13a i13 j7_6 i75 | ((first | have a0 := in_u h4 | (have a0 := h4; unfold In at a0)); (first | have a1 := in_u h3 | (have a1 := h3; unfold In at a1)); (first | have a2 := in_u h1 | (have a2 := h1; unfold In at a2)); (first | have a3 := in_u i13a | (have a3 := i13a; unfold In at a3)); (first | have a4 := in_u i13 | (have a4 := i13; unfold In at a4)); (first | have a5 := in_u j7_6 | (have a5 := j7_6; unfold In at a5)); (first | have a6 := in_u i75 | (have a6 := i75; unfold In at a6)))); have a7 := t_add e75 i73 (in_c 1 rfl) rfl; (first | have a8 := oa2 ((in_c 1 rfl)) i73 | ((first | have a8 := in_u ((in_c 1 rfl)) | (have a8 := (in_c 1 rfl); unfold In at a8)); (first | have a9 := in_u i73 | (have a9 := i73; unfold In at a9)))); have a10 := t_add e73 i70 i13 rfl; (first | have a11 := in_u i70 | (have a11 := i70; unfold In at a11)); have a12 := (t_mulc 61 (Or.inl e70) i69 rfl).1; (first | have a13 := oa2 i69 i114 | ((first | have a13 := in_u i69 | (have a13 := i69; unfold In at a13)); (first | have a14 := in_u i114 | (have a14 := i114; unfold In at a14)))); have a15 := t_add e114 i13 (in_c 1 rfl) rfl; (first | have a16 := in_u i7 | (have a16 := i7; unfold In at a16)); have a17 := t_add e111 j7_6 (in_c 1 rfl) rfl; omega)]; exact g7_1 i hi)
                  exact gg_w (by first | exact Nat.le_add_right _ _ | exact gw2 | exact gw3 | exact gwe rfl | exact gwf rfl | exact gwg rfl | exact gwh rfl | omega) (gg_f (gf_cons rfl (gf_cons rfl (gf_cons rfl (gf_cons rfl (gf_cons rfl (gf_cons rfl (gf_cons rfl gf_nil))))))) (ih7 (sI (sI sc7 183 z75.toNatClampNeg x3) 132 y7_6.toNatClampNeg z75) z111 z114 hI110 (fr_sI rfl (fr_sI rfl hFc7)) i7 (in_w 0 60 i114 rfl) n7 n7a n7b (m_up mm7 (t_add e114 i13 (in_c 1 rfl) rfl) (in_w 1 1 (in_c 1 rfl) rfl))))
  refine g_enter2 (k := 390) (N := 55801) (by first | exact dq1 hd rfl | exact dq0 hd rfl | exact dq2 hd rfl | exact dq3 hd rfl | omega) rfl (Nat.le_of_ble_eq_true rfl) ?_
  refine g_iload 2 (gd rfl) rfl rfl ?_
  refine g_istore 4 (gd rfl) rfl (Nat.le_of_ble_eq_true rfl) ?_
  refine g_iconst 0 5 (gd rfl) rfl rfl ?_
  refine g_istore 7 (gd rfl) rfl (Nat.le_of_ble_eq_true rfl) ?_
  have n7 : (x4).toInt ≤ (x4).toInt := by exact Int.le_refl _
  have n7a : QI s (x4).toInt := by first | exact q_0 | exact g7_0 | exact n7q
  have n7b : ∀ i : Nat, (i : Int) < (x4).toInt → s.1 132 i = s.1 132 i := by first | exact fun i hi => rfl | exact g7_1 | (intro i hi; rw [sI_q, sI_p rfl]; unfold upd; have e6 : y7_6.toNatClampNeg = y7_6.toInt.toNat := rfl; rw [if_neg (by (first | have a0 := oa5 ro_109_81 h4 h3 h1 ((in_c 0 rfl)) | ((first | have a0 := in_u ro_109_81 | (have a0 := ro_109_81; unfold In at a0)); (first | have a1 := in_u h4 | (have a1 := h4; unfold In at a1)); (first | have a2 := in_u h3 | (have a2 := h3; unfold In at a2)); (first | have a3 := in_u h1 | (have a3 := h1; unfold In at a3)); (first | have a4 := in_u ((in_c 0 rfl)) | (have a4 := (in_c 0 rfl); unfold In at a4)))); omega)]; exact g7_1 i hi)
  exact gg_w (by first | exact Nat.le_of_ble_eq_true rfl | omega) (gg_f (gf_cons rfl (gf_cons rfl (gf_cons rfl (gf_cons rfl (gf_cons rfl (gf_cons rfl (gf_cons rfl gf_nil))))))) (ct7 61 s x4 (Int32.ofInt 0) hI fr_rf (in_w 0 2000 h4 rfl) (in_w 0 60 (in_c 0 rfl) rfl) n7 n7a n7b (m_in 61 (in_w 0 60 (in_c 0 rfl) rfl) rfl)))
end
section
/-! methods, by vc.py -/
def fm_407 : FM := ([], [194], [], [])
/-- GraphHouseModel.nameAll -/
theorem k_407 {Z : AmZ} {A : Nat → Nat} {s : GS} {ex : va_W} {d : Nat} {X : AmX} {x1 : Int32} {x2 : Int32} (hd : 3 ≤ d) (hI : Inv s) (h1 : In x1 0 31) (h2 : In x2 0 200) : GC Z d 407 [.ref (A 109), .int x1, .int x2] (WW Z A s ++ ex) 0 0 (fun v u => ∃ t : GS, Inv t ∧ Fr fm_407 s t ∧ v = none ∧ u = WW Z A t ++ ex) X := by
  intro post xp hP hX
  obtain ⟨u_109_18, e_109_18⟩ : ∃ w, w = s.2.2.1 109 18 := ⟨_, rfl⟩
  have ro_109_18 := inv_F hI 0 1 rfl e_109_18
  obtain ⟨u_109_19, e_109_19⟩ : ∃ w, w = s.2.2.1 109 19 := ⟨_, rfl⟩
  have ro_109_19 := inv_F hI 0 160 rfl e_109_19
  have ct96 : ∀ (k96 : Nat) (sc96 : GS) (y96_3 : Int32), Inv sc96 → Fr fm_407 s sc96 → (In y96_3 0 448) → 448 - (y96_3).toInt < (k96 : Int) → GG Z (d - 1) 407 post (gx xp) (1 + k96 * 2702) 96 (fun j => xlook j [(0, .ref (A 109)), (1, .int x1), (2, .int x2), (3, .int y96_3)]) [] (WW Z A sc96 ++ ex) 0 0 := by
    intro k96
    induction k96 with
    | zero => intro sc96 y96_3 hIc96 hFc96 j96_3 mm96; exact m_no mm96 j96_3 rfl
    | succ k96 ih96 =>
      intro sc96 y96_3 hIc96 hFc96 j96_3 mm96
      refine gg_w (M := 1 + k96 * 2702 + 2702) gws ?_
      have ct270 : ∀ (sc270 : GS) , Inv sc270 → Fr fm_407 s sc270 → (In y96_3 0 400) → GG Z (d - 1) 407 post (gx xp) (1 + k96 * 2702 + 901) 270 (fun j => xlook j [(0, .ref (A 109)), (1, .int x1), (2, .int x2), (3, .int y96_3)]) [] (WW Z A sc270 ++ ex) 0 0 := by
        intro sc270  hIc270 hFc270 j270_3
        refine g_iinc 273 (gd rfl) rfl rfl (Nat.le_of_ble_eq_true rfl) (fun z270 e270 => ?_)
        have i270 := in_add 1 401 e270 j270_3 (in_c 1 rfl) rfl rfl
        refine g_goto 96 (gd rfl) rfl ?_
        exact gg_w (by first | exact Nat.le_add_right _ _ | exact gw2 | exact gw3 | exact gwe rfl | exact gwf rfl | exact gwg rfl | exact gwh rfl | omega) (gg_f (gf_cons rfl (gf_cons rfl (gf_cons rfl (gf_cons rfl gf_nil)))) (ih96 sc270 z270 hIc270 hFc270 (in_w 0 448 i270 rfl) (m_up mm96 (t_add e270 j270_3 (in_c 1 rfl) rfl) (in_w 1 1 (in_c 1 rfl) rfl))))
      have ct137 : ∀ (sc137 : GS) , Inv sc137 → Fr fm_407 s sc137 → (In y96_3 0 400) → GG Z (d - 1) 407 post (gx xp) (1 + k96 * 2702 + 1802) 137 (fun j => xlook j [(0, .ref (A 109)), (1, .int x1), (2, .int x2), (3, .int y96_3)]) [] (WW Z A sc137 ++ ex) 0 0 := by
        intro sc137  hIc137 hFc137 j137_3
        refine g_aload_n 138 (gd rfl) rfl rfl ?_
        refine g_getA (q2 := 112) 141 (gd rfl) rfl rfl rfl rfl ?_
        refine g_iload_n 142 (gd rfl) rfl rfl ?_
        refine g_baload 143 (gd rfl) rfl (n := 480) rfl (in_ix j137_3 rfl) (fun z142 e142 => ?_)
        have i142 := inv_I hIc137 (n := 480) (t := 3) 0 1 rfl (in_ix j137_3 rfl) rfl e142
        refine g_if_eq 146 270 (gd rfl) rfl rfl (fun c143 => ?_) (fun c143 => ?_)
        · skip
          have i143 := z_eq 0 0 c143 i142 rfl
          exact gg_w (by first | exact Nat.le_add_right _ _ | exact gw2 | exact gw3 | exact gwe rfl | exact gwf rfl | exact gwg rfl | exact gwh rfl | omega) (gg_f (gf_cons rfl (gf_cons rfl (gf_cons rfl (gf_cons rfl gf_nil)))) (ct270 sc137  hIc137 hFc137 (in_w 0 400 j137_3 rfl)))
        · skip
          have i143 := z_ne 1 1 c143 i142 rfl
          refine g_aload_n 147 (gd rfl) rfl rfl ?_
          refine g_getA (q2 := 114) 150 (gd rfl) rfl rfl rfl rfl ?_
          refine g_iload_n 151 (gd rfl) rfl rfl ?_
          refine g_iaload 152 (gd rfl) rfl (n := 480) rfl (in_ix j137_3 rfl) (fun z151 e151 => ?_)
          have i151 := inv_I hIc137 (n := 480) (t := 0) 0 31 rfl (in_ix j137_3 rfl) rfl e151
          refine g_iload_n 153 (gd rfl) rfl rfl ?_
          refine g_cmp_ne 156 270 (gd rfl) rfl rfl (fun c153 => ?_) (fun c153 => ?_)
          · skip
            exact gg_w (by first | exact Nat.le_add_right _ _ | exact gw2 | exact gw3 | exact gwe rfl | exact gwf rfl | exact gwg rfl | exact gwh rfl | omega) (gg_f (gf_cons rfl (gf_cons rfl (gf_cons rfl (gf_cons rfl gf_nil)))) (ct270 sc137  hIc137 hFc137 (in_w 0 400 j137_3 rfl)))
          · skip
            refine g_aload_n 157 (gd rfl) rfl rfl ?_
            refine g_getA (q2 := 191) 160 (gd rfl) rfl rfl rfl rfl ?_
            refine g_aload_n 161 (gd rfl) rfl rfl ?_
            refine g_getA (q2 := 113) 164 (gd rfl) rfl rfl rfl rfl ?_
            refine g_iload_n 165 (gd rfl) rfl rfl ?_
            refine g_iaload 166 (gd rfl) rfl (n := 480) rfl (in_ix j137_3 rfl) (fun z165 e165 => ?_)
            have i165 := inv_I hIc137 (n := 480) (t := 0) 0 31 rfl (in_ix j137_3 rfl) rfl e165
            refine g_laload 167 (gd rfl) rfl (n := 32) rfl (in_ix i165 rfl) (fun z166 e166 => ?_)
            refine g_lstore 169 (gd rfl) rfl (Nat.le_of_ble_eq_true rfl) ?_
            refine g_lload 171 (gd rfl) rfl rfl ?_
            refine g_aload_n 172 (gd rfl) rfl rfl ?_
            refine g_getA (q2 := 115) 175 (gd rfl) rfl rfl rfl rfl ?_
            refine g_iload_n 176 (gd rfl) rfl rfl ?_
            refine g_iaload 177 (gd rfl) rfl (n := 480) rfl (in_ix j137_3 rfl) (fun z176 e176 => ?_)
            have i176 := inv_I hIc137 (n := 480) (t := 0) (-1000000) 1000000 rfl (in_ix j137_3 rfl) rfl e176
            refine g_i2l 178 (gd rfl) rfl (fun z177 e177 => ?_)
            have i177 := l_i e177 i176
            refine g_ladd 179 (gd rfl) rfl (fun z178 e178 => ?_)
            refine g_calls (As := [.long z178]) (r := []) 182 (gd rfl) rfl rfl rfl rfl rfl (Nat.le_of_ble_eq_true rfl) (mc := 0) (ms := 0) (Nat.zero_le _) (Nat.zero_le _) (P := fun v u => _) ?_ (fun v u h => h)
            intro po179 xx179 hp179 hx179
            refine g_enter2 (k := 405) (N := 300) (by first | exact dq1 hd rfl | exact dq0 hd rfl | exact dq2 hd rfl | exact dq3 hd rfl | omega) rfl (Nat.le_of_ble_eq_true rfl) ?_
            refine g_lload_n 1 (gd rfl) rfl rfl ?_
            refine g_ldc2_w 1000000000000 4 (gd rfl) rfl rfl ?_
            refine g_lcmp 5 (gd rfl) rfl (fun z179x4 e179x4 => ?_)
            have i179x4 := lc_in e179x4
            refine g_if_le 8 14 (gd rfl) rfl rfl (fun c179x5 => ?_) (fun c179x5 => ?_)
            · skip
              have i179x5 := z_le (-1) 0 c179x5 i179x4 rfl
              have c179x5a := lc_le e179x4 c179x5
              have i179x5a := lr_le1 (-9223372036854775808) 1000000000000 c179x5a (l_rng z178) (l_c 1000000000000 rfl) rfl
              refine g_lload_n 15 (gd rfl) rfl rfl ?_
              refine g_ldc2_w (-1000000000000) 18 (gd rfl) rfl rfl ?_
              refine g_lcmp 19 (gd rfl) rfl (fun z179x18 e179x18 => ?_)
              have i179x18 := lc_in e179x18
              refine g_if_ge 22 28 (gd rfl) rfl rfl (fun c179x19 => ?_) (fun c179x19 => ?_)
              · skip
                have i179x19 := z_ge 0 1 c179x19 i179x18 rfl
                have c179x19a := lc_ge e179x18 c179x19
                have i179x19a := lr_le2 (-1000000000000) 1000000000000 c179x19a (l_c (-1000000000000) rfl) i179x5a rfl
                refine g_lload_n 29 (gd rfl) rfl rfl ?_
                refine g_lreturn (gd rfl) rfl (hp179 _ _ ?_)
                show GG _ _ _ _ _ _ _ _ [.long z178] _ _ _
                refine g_lstore 184 (gd rfl) rfl (Nat.le_of_ble_eq_true rfl) ?_
                refine g_aload_n 185 (gd rfl) rfl rfl ?_
                refine g_getA (q2 := 194) 188 (gd rfl) rfl rfl rfl rfl ?_
                refine g_iconst 4 189 (gd rfl) rfl rfl ?_
                refine g_dup2 190 (gd rfl) rfl rfl rfl ?_
                refine g_laload 191 (gd rfl) rfl (n := 9) rfl (in_ix (in_c 4 rfl) rfl) (fun z190 e190 => ?_)
                refine g_lconst 1 192 (gd rfl) rfl rfl ?_
                refine g_ladd 193 (gd rfl) rfl (fun z192 e192 => ?_)
                refine g_lastore 194 (gd rfl) rfl (n := 9) rfl (in_ix (in_c 4 rfl) rfl) ?_
                have hI193 := inv_sL (q := 194) (j := (Int32.ofInt 4).toNatClampNeg) (x := z192) hIc137 rfl (l_rng z192)
                refine g_aload_n 195 (gd rfl) rfl rfl ?_
                refine g_getA (q2 := 194) 198 (gd rfl) rfl rfl rfl rfl ?_
                refine g_bipush 6 200 (gd rfl) rfl rfl ?_
                refine g_dup2 201 (gd rfl) rfl rfl rfl ?_
                refine g_laload 202 (gd rfl) rfl (n := 9) rfl (in_ix (in_c 6 rfl) rfl) (fun z201 e201 => ?_)
                refine g_lload 204 (gd rfl) rfl rfl ?_
                refine g_ladd 205 (gd rfl) rfl (fun z204 e204 => ?_)
                refine g_lastore 206 (gd rfl) rfl (n := 9) rfl (in_ix (in_c 6 rfl) rfl) ?_
                have hI205 := inv_sL (q := 194) (j := (Int32.ofInt 6).toNatClampNeg) (x := z204) hI193 rfl (l_rng z204)
                refine g_aload_n 207 (gd rfl) rfl rfl ?_
                refine g_getA (q2 := 194) 210 (gd rfl) rfl rfl rfl rfl ?_
                refine g_bipush 7 212 (gd rfl) rfl rfl ?_
                refine g_lload 214 (gd rfl) rfl rfl ?_
                refine g_aload_n 215 (gd rfl) rfl rfl ?_
                refine g_getA (q2 := 194) 218 (gd rfl) rfl rfl rfl rfl ?_
                refine g_bipush 7 220 (gd rfl) rfl rfl ?_
                refine g_laload 221 (gd rfl) rfl (n := 9) rfl (in_ix (in_c 7 rfl) rfl) (fun z220 e220 => ?_)
                refine g_lcmp 222 (gd rfl) rfl (fun z221 e221 => ?_)
                have i221 := lc_in e221
                refine g_if_ge 225 230 (gd rfl) rfl rfl (fun c222 => ?_) (fun c222 => ?_)
                · skip
                  have i222 := z_ge 0 1 c222 i221 rfl
                  have c222a := lc_ge e221 c222
                  have i222a := lr_le1 (-9223372036854775808) 1000000000000 c222a (l_rng z220) i179x19a rfl
                  refine g_aload_n 231 (gd rfl) rfl rfl ?_
                  refine g_getA (q2 := 194) 234 (gd rfl) rfl rfl rfl rfl ?_
                  refine g_bipush 7 236 (gd rfl) rfl rfl ?_
                  refine g_laload 237 (gd rfl) rfl (n := 9) rfl (in_ix (in_c 7 rfl) rfl) (fun z236 e236 => ?_)
                  refine g_lastore 238 (gd rfl) rfl (n := 9) rfl (in_ix (in_c 7 rfl) rfl) ?_
                  have hI237 := inv_sL (q := 194) (j := (Int32.ofInt 7).toNatClampNeg) (x := z236) hI205 rfl (l_rng z236)
                  refine g_aload_n 239 (gd rfl) rfl rfl ?_
                  refine g_getA (q2 := 194) 242 (gd rfl) rfl rfl rfl rfl ?_
                  refine g_bipush 8 244 (gd rfl) rfl rfl ?_
                  refine g_lload 246 (gd rfl) rfl rfl ?_
                  refine g_aload_n 247 (gd rfl) rfl rfl ?_
                  refine g_getA (q2 := 194) 250 (gd rfl) rfl rfl rfl rfl ?_
                  refine g_bipush 8 252 (gd rfl) rfl rfl ?_
                  refine g_laload 253 (gd rfl) rfl (n := 9) rfl (in_ix (in_c 8 rfl) rfl) (fun z252 e252 => ?_)
                  refine g_lcmp 254 (gd rfl) rfl (fun z253 e253 => ?_)
                  have i253 := lc_in e253
                  refine g_if_le 257 262 (gd rfl) rfl rfl (fun c254 => ?_) (fun c254 => ?_)
                  · skip
                    have i254 := z_le (-1) 0 c254 i253 rfl
                    have c254a := lc_le e253 c254
                    have i254a := lr_le2 (-1000000000000) 9223372036854775807 c254a i179x19a (l_rng z252) rfl
                    refine g_aload_n 263 (gd rfl) rfl rfl ?_
                    refine g_getA (q2 := 194) 266 (gd rfl) rfl rfl rfl rfl ?_
                    refine g_bipush 8 268 (gd rfl) rfl rfl ?_
                    refine g_laload 269 (gd rfl) rfl (n := 9) rfl (in_ix (in_c 8 rfl) rfl) (fun z268 e268 => ?_)
                    refine g_lastore 270 (gd rfl) rfl (n := 9) rfl (in_ix (in_c 8 rfl) rfl) ?_
                    have hI269 := inv_sL (q := 194) (j := (Int32.ofInt 8).toNatClampNeg) (x := z268) hI237 rfl (l_rng z268)
                    exact gg_w (by first | exact Nat.le_add_right _ _ | exact gw2 | exact gw3 | exact gwe rfl | exact gwf rfl | exact gwg rfl | exact gwh rfl | omega) (gg_f (gf_cons rfl (gf_cons rfl (gf_cons rfl (gf_cons rfl gf_nil)))) (ct270 (sL (sL (sL (sL sc137 194 (Int32.ofInt 4).toNatClampNeg z192) 194 (Int32.ofInt 6).toNatClampNeg z204) 194 (Int32.ofInt 7).toNatClampNeg z236) 194 (Int32.ofInt 8).toNatClampNeg z268)  hI269 (fr_sL rfl (fr_sL rfl (fr_sL rfl (fr_sL rfl hFc137)))) (in_w 0 400 j137_3 rfl)))
                  · skip
                    have i254 := z_gt 1 1 c254 i253 rfl
                    have c254a := lc_gt e253 c254
                    have i254a := lr_lt1 (-9223372036854775808) 999999999999 c254a (l_rng z252) i179x19a rfl
                    refine g_lload 259 (gd rfl) rfl rfl ?_
                    refine g_goto 269 (gd rfl) rfl ?_
                    refine g_lastore 270 (gd rfl) rfl (n := 9) rfl (in_ix (in_c 8 rfl) rfl) ?_
                    have hI269 := inv_sL (q := 194) (j := (Int32.ofInt 8).toNatClampNeg) (x := z178) hI237 rfl (l_rng z178)
                    exact gg_w (by first | exact Nat.le_add_right _ _ | exact gw2 | exact gw3 | exact gwe rfl | exact gwf rfl | exact gwg rfl | exact gwh rfl | omega) (gg_f (gf_cons rfl (gf_cons rfl (gf_cons rfl (gf_cons rfl gf_nil)))) (ct270 (sL (sL (sL (sL sc137 194 (Int32.ofInt 4).toNatClampNeg z192) 194 (Int32.ofInt 6).toNatClampNeg z204) 194 (Int32.ofInt 7).toNatClampNeg z236) 194 (Int32.ofInt 8).toNatClampNeg z178)  hI269 (fr_sL rfl (fr_sL rfl (fr_sL rfl (fr_sL rfl hFc137)))) (in_w 0 400 j137_3 rfl)))
                · skip
                  have i222 := z_lt (-1) (-1) c222 i221 rfl
                  have c222a := lc_lt e221 c222
                  have i222a := lr_lt2 (-999999999999) 9223372036854775807 c222a i179x19a (l_rng z220) rfl
                  refine g_lload 227 (gd rfl) rfl rfl ?_
                  refine g_goto 237 (gd rfl) rfl ?_
                  refine g_lastore 238 (gd rfl) rfl (n := 9) rfl (in_ix (in_c 7 rfl) rfl) ?_
                  have hI237 := inv_sL (q := 194) (j := (Int32.ofInt 7).toNatClampNeg) (x := z178) hI205 rfl (l_rng z178)
                  refine g_aload_n 239 (gd rfl) rfl rfl ?_
                  refine g_getA (q2 := 194) 242 (gd rfl) rfl rfl rfl rfl ?_
                  refine g_bipush 8 244 (gd rfl) rfl rfl ?_
                  refine g_lload 246 (gd rfl) rfl rfl ?_
                  refine g_aload_n 247 (gd rfl) rfl rfl ?_
                  refine g_getA (q2 := 194) 250 (gd rfl) rfl rfl rfl rfl ?_
                  refine g_bipush 8 252 (gd rfl) rfl rfl ?_
                  refine g_laload 253 (gd rfl) rfl (n := 9) rfl (in_ix (in_c 8 rfl) rfl) (fun z252 e252 => ?_)
                  refine g_lcmp 254 (gd rfl) rfl (fun z253 e253 => ?_)
                  have i253 := lc_in e253
                  refine g_if_le 257 262 (gd rfl) rfl rfl (fun c254 => ?_) (fun c254 => ?_)
                  · skip
                    have i254 := z_le (-1) 0 c254 i253 rfl
                    have c254a := lc_le e253 c254
                    have i254a := lr_le2 (-1000000000000) 9223372036854775807 c254a i179x19a (l_rng z252) rfl
                    refine g_aload_n 263 (gd rfl) rfl rfl ?_
                    refine g_getA (q2 := 194) 266 (gd rfl) rfl rfl rfl rfl ?_
                    refine g_bipush 8 268 (gd rfl) rfl rfl ?_
                    refine g_laload 269 (gd rfl) rfl (n := 9) rfl (in_ix (in_c 8 rfl) rfl) (fun z268 e268 => ?_)
                    refine g_lastore 270 (gd rfl) rfl (n := 9) rfl (in_ix (in_c 8 rfl) rfl) ?_
                    have hI269 := inv_sL (q := 194) (j := (Int32.ofInt 8).toNatClampNeg) (x := z268) hI237 rfl (l_rng z268)
                    exact gg_w (by first | exact Nat.le_add_right _ _ | exact gw2 | exact gw3 | exact gwe rfl | exact gwf rfl | exact gwg rfl | exact gwh rfl | omega) (gg_f (gf_cons rfl (gf_cons rfl (gf_cons rfl (gf_cons rfl gf_nil)))) (ct270 (sL (sL (sL (sL sc137 194 (Int32.ofInt 4).toNatClampNeg z192) 194 (Int32.ofInt 6).toNatClampNeg z204) 194 (Int32.ofInt 7).toNatClampNeg z178) 194 (Int32.ofInt 8).toNatClampNeg z268)  hI269 (fr_sL rfl (fr_sL rfl (fr_sL rfl (fr_sL rfl hFc137)))) (in_w 0 400 j137_3 rfl)))
                  · skip
                    have i254 := z_gt 1 1 c254 i253 rfl
                    have c254a := lc_gt e253 c254
                    have i254a := lr_lt1 (-9223372036854775808) 999999999999 c254a (l_rng z252) i179x19a rfl
                    refine g_lload 259 (gd rfl) rfl rfl ?_
                    refine g_goto 269 (gd rfl) rfl ?_
                    refine g_lastore 270 (gd rfl) rfl (n := 9) rfl (in_ix (in_c 8 rfl) rfl) ?_
                    have hI269 := inv_sL (q := 194) (j := (Int32.ofInt 8).toNatClampNeg) (x := z178) hI237 rfl (l_rng z178)
                    exact gg_w (by first | exact Nat.le_add_right _ _ | exact gw2 | exact gw3 | exact gwe rfl | exact gwf rfl | exact gwg rfl | exact gwh rfl | omega) (gg_f (gf_cons rfl (gf_cons rfl (gf_cons rfl (gf_cons rfl gf_nil)))) (ct270 (sL (sL (sL (sL sc137 194 (Int32.ofInt 4).toNatClampNeg z192) 194 (Int32.ofInt 6).toNatClampNeg z204) 194 (Int32.ofInt 7).toNatClampNeg z178) 194 (Int32.ofInt 8).toNatClampNeg z178)  hI269 (fr_sL rfl (fr_sL rfl (fr_sL rfl (fr_sL rfl hFc137)))) (in_w 0 400 j137_3 rfl)))
              · skip
                have i179x19 := z_lt (-1) (-1) c179x19 i179x18 rfl
                have c179x19a := lc_lt e179x18 c179x19
                have i179x19a := lr_lt1 (-9223372036854775808) (-1000000000001) c179x19a i179x5a (l_c (-1000000000000) rfl) rfl
                refine g_ldc2_w (-1000000000000) 25 (gd rfl) rfl rfl ?_
                refine g_goto 29 (gd rfl) rfl ?_
                refine g_lreturn (gd rfl) rfl (hp179 _ _ ?_)
                show GG _ _ _ _ _ _ _ _ [.long (Int64.ofInt (-1000000000000))] _ _ _
                refine g_lstore 184 (gd rfl) rfl (Nat.le_of_ble_eq_true rfl) ?_
                refine g_aload_n 185 (gd rfl) rfl rfl ?_
                refine g_getA (q2 := 194) 188 (gd rfl) rfl rfl rfl rfl ?_
                refine g_iconst 4 189 (gd rfl) rfl rfl ?_
                refine g_dup2 190 (gd rfl) rfl rfl rfl ?_
                refine g_laload 191 (gd rfl) rfl (n := 9) rfl (in_ix (in_c 4 rfl) rfl) (fun z190 e190 => ?_)
                refine g_lconst 1 192 (gd rfl) rfl rfl ?_
                refine g_ladd 193 (gd rfl) rfl (fun z192 e192 => ?_)
                refine g_lastore 194 (gd rfl) rfl (n := 9) rfl (in_ix (in_c 4 rfl) rfl) ?_
                have hI193 := inv_sL (q := 194) (j := (Int32.ofInt 4).toNatClampNeg) (x := z192) hIc137 rfl (l_rng z192)
                refine g_aload_n 195 (gd rfl) rfl rfl ?_
                refine g_getA (q2 := 194) 198 (gd rfl) rfl rfl rfl rfl ?_
                refine g_bipush 6 200 (gd rfl) rfl rfl ?_
                refine g_dup2 201 (gd rfl) rfl rfl rfl ?_
                refine g_laload 202 (gd rfl) rfl (n := 9) rfl (in_ix (in_c 6 rfl) rfl) (fun z201 e201 => ?_)
                refine g_lload 204 (gd rfl) rfl rfl ?_
                refine g_ladd 205 (gd rfl) rfl (fun z204 e204 => ?_)
                refine g_lastore 206 (gd rfl) rfl (n := 9) rfl (in_ix (in_c 6 rfl) rfl) ?_
                have hI205 := inv_sL (q := 194) (j := (Int32.ofInt 6).toNatClampNeg) (x := z204) hI193 rfl (l_rng z204)
                refine g_aload_n 207 (gd rfl) rfl rfl ?_
                refine g_getA (q2 := 194) 210 (gd rfl) rfl rfl rfl rfl ?_
                refine g_bipush 7 212 (gd rfl) rfl rfl ?_
                refine g_lload 214 (gd rfl) rfl rfl ?_
                refine g_aload_n 215 (gd rfl) rfl rfl ?_
                refine g_getA (q2 := 194) 218 (gd rfl) rfl rfl rfl rfl ?_
                refine g_bipush 7 220 (gd rfl) rfl rfl ?_
                refine g_laload 221 (gd rfl) rfl (n := 9) rfl (in_ix (in_c 7 rfl) rfl) (fun z220 e220 => ?_)
                refine g_lcmp 222 (gd rfl) rfl (fun z221 e221 => ?_)
                have i221 := lc_in e221
                refine g_if_ge 225 230 (gd rfl) rfl rfl (fun c222 => ?_) (fun c222 => ?_)
                · skip
                  have i222 := z_ge 0 1 c222 i221 rfl
                  have c222a := lc_ge e221 c222
                  have i222a := lr_le1 (-9223372036854775808) (-1000000000000) c222a (l_rng z220) (l_c (-1000000000000) rfl) rfl
                  refine g_aload_n 231 (gd rfl) rfl rfl ?_
                  refine g_getA (q2 := 194) 234 (gd rfl) rfl rfl rfl rfl ?_
                  refine g_bipush 7 236 (gd rfl) rfl rfl ?_
                  refine g_laload 237 (gd rfl) rfl (n := 9) rfl (in_ix (in_c 7 rfl) rfl) (fun z236 e236 => ?_)
                  refine g_lastore 238 (gd rfl) rfl (n := 9) rfl (in_ix (in_c 7 rfl) rfl) ?_
                  have hI237 := inv_sL (q := 194) (j := (Int32.ofInt 7).toNatClampNeg) (x := z236) hI205 rfl (l_rng z236)
                  refine g_aload_n 239 (gd rfl) rfl rfl ?_
                  refine g_getA (q2 := 194) 242 (gd rfl) rfl rfl rfl rfl ?_
                  refine g_bipush 8 244 (gd rfl) rfl rfl ?_
                  refine g_lload 246 (gd rfl) rfl rfl ?_
                  refine g_aload_n 247 (gd rfl) rfl rfl ?_
                  refine g_getA (q2 := 194) 250 (gd rfl) rfl rfl rfl rfl ?_
                  refine g_bipush 8 252 (gd rfl) rfl rfl ?_
                  refine g_laload 253 (gd rfl) rfl (n := 9) rfl (in_ix (in_c 8 rfl) rfl) (fun z252 e252 => ?_)
                  refine g_lcmp 254 (gd rfl) rfl (fun z253 e253 => ?_)
                  have i253 := lc_in e253
                  refine g_if_le 257 262 (gd rfl) rfl rfl (fun c254 => ?_) (fun c254 => ?_)
                  · skip
                    have i254 := z_le (-1) 0 c254 i253 rfl
                    have c254a := lc_le e253 c254
                    have i254a := lr_le2 (-1000000000000) 9223372036854775807 c254a (l_c (-1000000000000) rfl) (l_rng z252) rfl
                    refine g_aload_n 263 (gd rfl) rfl rfl ?_
                    refine g_getA (q2 := 194) 266 (gd rfl) rfl rfl rfl rfl ?_
                    refine g_bipush 8 268 (gd rfl) rfl rfl ?_
                    refine g_laload 269 (gd rfl) rfl (n := 9) rfl (in_ix (in_c 8 rfl) rfl) (fun z268 e268 => ?_)
                    refine g_lastore 270 (gd rfl) rfl (n := 9) rfl (in_ix (in_c 8 rfl) rfl) ?_
                    have hI269 := inv_sL (q := 194) (j := (Int32.ofInt 8).toNatClampNeg) (x := z268) hI237 rfl (l_rng z268)
                    exact gg_w (by first | exact Nat.le_add_right _ _ | exact gw2 | exact gw3 | exact gwe rfl | exact gwf rfl | exact gwg rfl | exact gwh rfl | omega) (gg_f (gf_cons rfl (gf_cons rfl (gf_cons rfl (gf_cons rfl gf_nil)))) (ct270 (sL (sL (sL (sL sc137 194 (Int32.ofInt 4).toNatClampNeg z192) 194 (Int32.ofInt 6).toNatClampNeg z204) 194 (Int32.ofInt 7).toNatClampNeg z236) 194 (Int32.ofInt 8).toNatClampNeg z268)  hI269 (fr_sL rfl (fr_sL rfl (fr_sL rfl (fr_sL rfl hFc137)))) (in_w 0 400 j137_3 rfl)))
                  · skip
                    have i254 := z_gt 1 1 c254 i253 rfl
                    have c254a := lc_gt e253 c254
                    have i254a := lr_lt1 (-9223372036854775808) (-1000000000001) c254a (l_rng z252) (l_c (-1000000000000) rfl) rfl
                    refine g_lload 259 (gd rfl) rfl rfl ?_
                    refine g_goto 269 (gd rfl) rfl ?_
                    refine g_lastore 270 (gd rfl) rfl (n := 9) rfl (in_ix (in_c 8 rfl) rfl) ?_
                    have hI269 := inv_sL (q := 194) (j := (Int32.ofInt 8).toNatClampNeg) (x := (Int64.ofInt (-1000000000000))) hI237 rfl (l_rng (Int64.ofInt (-1000000000000)))
                    exact gg_w (by first | exact Nat.le_add_right _ _ | exact gw2 | exact gw3 | exact gwe rfl | exact gwf rfl | exact gwg rfl | exact gwh rfl | omega) (gg_f (gf_cons rfl (gf_cons rfl (gf_cons rfl (gf_cons rfl gf_nil)))) (ct270 (sL (sL (sL (sL sc137 194 (Int32.ofInt 4).toNatClampNeg z192) 194 (Int32.ofInt 6).toNatClampNeg z204) 194 (Int32.ofInt 7).toNatClampNeg z236) 194 (Int32.ofInt 8).toNatClampNeg (Int64.ofInt (-1000000000000)))  hI269 (fr_sL rfl (fr_sL rfl (fr_sL rfl (fr_sL rfl hFc137)))) (in_w 0 400 j137_3 rfl)))
                · skip
                  have i222 := z_lt (-1) (-1) c222 i221 rfl
                  have c222a := lc_lt e221 c222
                  have i222a := lr_lt2 (-999999999999) 9223372036854775807 c222a (l_c (-1000000000000) rfl) (l_rng z220) rfl
                  refine g_lload 227 (gd rfl) rfl rfl ?_
                  refine g_goto 237 (gd rfl) rfl ?_
                  refine g_lastore 238 (gd rfl) rfl (n := 9) rfl (in_ix (in_c 7 rfl) rfl) ?_
                  have hI237 := inv_sL (q := 194) (j := (Int32.ofInt 7).toNatClampNeg) (x := (Int64.ofInt (-1000000000000))) hI205 rfl (l_rng (Int64.ofInt (-1000000000000)))
                  refine g_aload_n 239 (gd rfl) rfl rfl ?_
                  refine g_getA (q2 := 194) 242 (gd rfl) rfl rfl rfl rfl ?_
                  refine g_bipush 8 244 (gd rfl) rfl rfl ?_
                  refine g_lload 246 (gd rfl) rfl rfl ?_
                  refine g_aload_n 247 (gd rfl) rfl rfl ?_
                  refine g_getA (q2 := 194) 250 (gd rfl) rfl rfl rfl rfl ?_
                  refine g_bipush 8 252 (gd rfl) rfl rfl ?_
                  refine g_laload 253 (gd rfl) rfl (n := 9) rfl (in_ix (in_c 8 rfl) rfl) (fun z252 e252 => ?_)
                  refine g_lcmp 254 (gd rfl) rfl (fun z253 e253 => ?_)
                  have i253 := lc_in e253
                  refine g_if_le 257 262 (gd rfl) rfl rfl (fun c254 => ?_) (fun c254 => ?_)
                  · skip
                    have i254 := z_le (-1) 0 c254 i253 rfl
                    have c254a := lc_le e253 c254
                    have i254a := lr_le2 (-1000000000000) 9223372036854775807 c254a (l_c (-1000000000000) rfl) (l_rng z252) rfl
                    refine g_aload_n 263 (gd rfl) rfl rfl ?_
                    refine g_getA (q2 := 194) 266 (gd rfl) rfl rfl rfl rfl ?_
                    refine g_bipush 8 268 (gd rfl) rfl rfl ?_
                    refine g_laload 269 (gd rfl) rfl (n := 9) rfl (in_ix (in_c 8 rfl) rfl) (fun z268 e268 => ?_)
                    refine g_lastore 270 (gd rfl) rfl (n := 9) rfl (in_ix (in_c 8 rfl) rfl) ?_
                    have hI269 := inv_sL (q := 194) (j := (Int32.ofInt 8).toNatClampNeg) (x := z268) hI237 rfl (l_rng z268)
                    exact gg_w (by first | exact Nat.le_add_right _ _ | exact gw2 | exact gw3 | exact gwe rfl | exact gwf rfl | exact gwg rfl | exact gwh rfl | omega) (gg_f (gf_cons rfl (gf_cons rfl (gf_cons rfl (gf_cons rfl gf_nil)))) (ct270 (sL (sL (sL (sL sc137 194 (Int32.ofInt 4).toNatClampNeg z192) 194 (Int32.ofInt 6).toNatClampNeg z204) 194 (Int32.ofInt 7).toNatClampNeg (Int64.ofInt (-1000000000000))) 194 (Int32.ofInt 8).toNatClampNeg z268)  hI269 (fr_sL rfl (fr_sL rfl (fr_sL rfl (fr_sL rfl hFc137)))) (in_w 0 400 j137_3 rfl)))
                  · skip
                    have i254 := z_gt 1 1 c254 i253 rfl
                    have c254a := lc_gt e253 c254
                    have i254a := lr_lt1 (-9223372036854775808) (-1000000000001) c254a (l_rng z252) (l_c (-1000000000000) rfl) rfl
                    refine g_lload 259 (gd rfl) rfl rfl ?_
                    refine g_goto 269 (gd rfl) rfl ?_
                    refine g_lastore 270 (gd rfl) rfl (n := 9) rfl (in_ix (in_c 8 rfl) rfl) ?_
                    have hI269 := inv_sL (q := 194) (j := (Int32.ofInt 8).toNatClampNeg) (x := (Int64.ofInt (-1000000000000))) hI237 rfl (l_rng (Int64.ofInt (-1000000000000)))
                    exact gg_w (by first | exact Nat.le_add_right _ _ | exact gw2 | exact gw3 | exact gwe rfl | exact gwf rfl | exact gwg rfl | exact gwh rfl | omega) (gg_f (gf_cons rfl (gf_cons rfl (gf_cons rfl (gf_cons rfl gf_nil)))) (ct270 (sL (sL (sL (sL sc137 194 (Int32.ofInt 4).toNatClampNeg z192) 194 (Int32.ofInt 6).toNatClampNeg z204) 194 (Int32.ofInt 7).toNatClampNeg (Int64.ofInt (-1000000000000))) 194 (Int32.ofInt 8).toNatClampNeg (Int64.ofInt (-1000000000000)))  hI269 (fr_sL rfl (fr_sL rfl (fr_sL rfl (fr_sL rfl hFc137)))) (in_w 0 400 j137_3 rfl)))
            · skip
              have i179x5 := z_gt 1 1 c179x5 i179x4 rfl
              have c179x5a := lc_gt e179x4 c179x5
              have i179x5a := lr_lt2 1000000000001 9223372036854775807 c179x5a (l_c 1000000000000 rfl) (l_rng z178) rfl
              refine g_ldc2_w 1000000000000 11 (gd rfl) rfl rfl ?_
              refine g_goto 29 (gd rfl) rfl ?_
              refine g_lreturn (gd rfl) rfl (hp179 _ _ ?_)
              show GG _ _ _ _ _ _ _ _ [.long (Int64.ofInt 1000000000000)] _ _ _
              refine g_lstore 184 (gd rfl) rfl (Nat.le_of_ble_eq_true rfl) ?_
              refine g_aload_n 185 (gd rfl) rfl rfl ?_
              refine g_getA (q2 := 194) 188 (gd rfl) rfl rfl rfl rfl ?_
              refine g_iconst 4 189 (gd rfl) rfl rfl ?_
              refine g_dup2 190 (gd rfl) rfl rfl rfl ?_
              refine g_laload 191 (gd rfl) rfl (n := 9) rfl (in_ix (in_c 4 rfl) rfl) (fun z190 e190 => ?_)
              refine g_lconst 1 192 (gd rfl) rfl rfl ?_
              refine g_ladd 193 (gd rfl) rfl (fun z192 e192 => ?_)
              refine g_lastore 194 (gd rfl) rfl (n := 9) rfl (in_ix (in_c 4 rfl) rfl) ?_
              have hI193 := inv_sL (q := 194) (j := (Int32.ofInt 4).toNatClampNeg) (x := z192) hIc137 rfl (l_rng z192)
              refine g_aload_n 195 (gd rfl) rfl rfl ?_
              refine g_getA (q2 := 194) 198 (gd rfl) rfl rfl rfl rfl ?_
              refine g_bipush 6 200 (gd rfl) rfl rfl ?_
              refine g_dup2 201 (gd rfl) rfl rfl rfl ?_
              refine g_laload 202 (gd rfl) rfl (n := 9) rfl (in_ix (in_c 6 rfl) rfl) (fun z201 e201 => ?_)
              refine g_lload 204 (gd rfl) rfl rfl ?_
              refine g_ladd 205 (gd rfl) rfl (fun z204 e204 => ?_)
              refine g_lastore 206 (gd rfl) rfl (n := 9) rfl (in_ix (in_c 6 rfl) rfl) ?_
              have hI205 := inv_sL (q := 194) (j := (Int32.ofInt 6).toNatClampNeg) (x := z204) hI193 rfl (l_rng z204)
              refine g_aload_n 207 (gd rfl) rfl rfl ?_
              refine g_getA (q2 := 194) 210 (gd rfl) rfl rfl rfl rfl ?_
              refine g_bipush 7 212 (gd rfl) rfl rfl ?_
              refine g_lload 214 (gd rfl) rfl rfl ?_
              refine g_aload_n 215 (gd rfl) rfl rfl ?_
              refine g_getA (q2 := 194) 218 (gd rfl) rfl rfl rfl rfl ?_
              refine g_bipush 7 220 (gd rfl) rfl rfl ?_
              refine g_laload 221 (gd rfl) rfl (n := 9) rfl (in_ix (in_c 7 rfl) rfl) (fun z220 e220 => ?_)
              refine g_lcmp 222 (gd rfl) rfl (fun z221 e221 => ?_)
              have i221 := lc_in e221
              refine g_if_ge 225 230 (gd rfl) rfl rfl (fun c222 => ?_) (fun c222 => ?_)
              · skip
                have i222 := z_ge 0 1 c222 i221 rfl
                have c222a := lc_ge e221 c222
                have i222a := lr_le1 (-9223372036854775808) 1000000000000 c222a (l_rng z220) (l_c 1000000000000 rfl) rfl
                refine g_aload_n 231 (gd rfl) rfl rfl ?_
                refine g_getA (q2 := 194) 234 (gd rfl) rfl rfl rfl rfl ?_
                refine g_bipush 7 236 (gd rfl) rfl rfl ?_
                refine g_laload 237 (gd rfl) rfl (n := 9) rfl (in_ix (in_c 7 rfl) rfl) (fun z236 e236 => ?_)
                refine g_lastore 238 (gd rfl) rfl (n := 9) rfl (in_ix (in_c 7 rfl) rfl) ?_
                have hI237 := inv_sL (q := 194) (j := (Int32.ofInt 7).toNatClampNeg) (x := z236) hI205 rfl (l_rng z236)
                refine g_aload_n 239 (gd rfl) rfl rfl ?_
                refine g_getA (q2 := 194) 242 (gd rfl) rfl rfl rfl rfl ?_
                refine g_bipush 8 244 (gd rfl) rfl rfl ?_
                refine g_lload 246 (gd rfl) rfl rfl ?_
                refine g_aload_n 247 (gd rfl) rfl rfl ?_
                refine g_getA (q2 := 194) 250 (gd rfl) rfl rfl rfl rfl ?_
                refine g_bipush 8 252 (gd rfl) rfl rfl ?_
                refine g_laload 253 (gd rfl) rfl (n := 9) rfl (in_ix (in_c 8 rfl) rfl) (fun z252 e252 => ?_)
                refine g_lcmp 254 (gd rfl) rfl (fun z253 e253 => ?_)
                have i253 := lc_in e253
                refine g_if_le 257 262 (gd rfl) rfl rfl (fun c254 => ?_) (fun c254 => ?_)
                · skip
                  have i254 := z_le (-1) 0 c254 i253 rfl
                  have c254a := lc_le e253 c254
                  have i254a := lr_le2 1000000000000 9223372036854775807 c254a (l_c 1000000000000 rfl) (l_rng z252) rfl
                  refine g_aload_n 263 (gd rfl) rfl rfl ?_
                  refine g_getA (q2 := 194) 266 (gd rfl) rfl rfl rfl rfl ?_
                  refine g_bipush 8 268 (gd rfl) rfl rfl ?_
                  refine g_laload 269 (gd rfl) rfl (n := 9) rfl (in_ix (in_c 8 rfl) rfl) (fun z268 e268 => ?_)
                  refine g_lastore 270 (gd rfl) rfl (n := 9) rfl (in_ix (in_c 8 rfl) rfl) ?_
                  have hI269 := inv_sL (q := 194) (j := (Int32.ofInt 8).toNatClampNeg) (x := z268) hI237 rfl (l_rng z268)
                  exact gg_w (by first | exact Nat.le_add_right _ _ | exact gw2 | exact gw3 | exact gwe rfl | exact gwf rfl | exact gwg rfl | exact gwh rfl | omega) (gg_f (gf_cons rfl (gf_cons rfl (gf_cons rfl (gf_cons rfl gf_nil)))) (ct270 (sL (sL (sL (sL sc137 194 (Int32.ofInt 4).toNatClampNeg z192) 194 (Int32.ofInt 6).toNatClampNeg z204) 194 (Int32.ofInt 7).toNatClampNeg z236) 194 (Int32.ofInt 8).toNatClampNeg z268)  hI269 (fr_sL rfl (fr_sL rfl (fr_sL rfl (fr_sL rfl hFc137)))) (in_w 0 400 j137_3 rfl)))
                · skip
                  have i254 := z_gt 1 1 c254 i253 rfl
                  have c254a := lc_gt e253 c254
                  have i254a := lr_lt1 (-9223372036854775808) 999999999999 c254a (l_rng z252) (l_c 1000000000000 rfl) rfl
                  refine g_lload 259 (gd rfl) rfl rfl ?_
                  refine g_goto 269 (gd rfl) rfl ?_
                  refine g_lastore 270 (gd rfl) rfl (n := 9) rfl (in_ix (in_c 8 rfl) rfl) ?_
                  have hI269 := inv_sL (q := 194) (j := (Int32.ofInt 8).toNatClampNeg) (x := (Int64.ofInt 1000000000000)) hI237 rfl (l_rng (Int64.ofInt 1000000000000))
                  exact gg_w (by first | exact Nat.le_add_right _ _ | exact gw2 | exact gw3 | exact gwe rfl | exact gwf rfl | exact gwg rfl | exact gwh rfl | omega) (gg_f (gf_cons rfl (gf_cons rfl (gf_cons rfl (gf_cons rfl gf_nil)))) (ct270 (sL (sL (sL (sL sc137 194 (Int32.ofInt 4).toNatClampNeg z192) 194 (Int32.ofInt 6).toNatClampNeg z204) 194 (Int32.ofInt 7).toNatClampNeg z236) 194 (Int32.ofInt 8).toNatClampNeg (Int64.ofInt 1000000000000))  hI269 (fr_sL rfl (fr_sL rfl (fr_sL rfl (fr_sL rfl hFc137)))) (in_w 0 400 j137_3 rfl)))
              · skip
                have i222 := z_lt (-1) (-1) c222 i221 rfl
                have c222a := lc_lt e221 c222
                have i222a := lr_lt2 1000000000001 9223372036854775807 c222a (l_c 1000000000000 rfl) (l_rng z220) rfl
                refine g_lload 227 (gd rfl) rfl rfl ?_
                refine g_goto 237 (gd rfl) rfl ?_
                refine g_lastore 238 (gd rfl) rfl (n := 9) rfl (in_ix (in_c 7 rfl) rfl) ?_
                have hI237 := inv_sL (q := 194) (j := (Int32.ofInt 7).toNatClampNeg) (x := (Int64.ofInt 1000000000000)) hI205 rfl (l_rng (Int64.ofInt 1000000000000))
                refine g_aload_n 239 (gd rfl) rfl rfl ?_
                refine g_getA (q2 := 194) 242 (gd rfl) rfl rfl rfl rfl ?_
                refine g_bipush 8 244 (gd rfl) rfl rfl ?_
                refine g_lload 246 (gd rfl) rfl rfl ?_
                refine g_aload_n 247 (gd rfl) rfl rfl ?_
                refine g_getA (q2 := 194) 250 (gd rfl) rfl rfl rfl rfl ?_
                refine g_bipush 8 252 (gd rfl) rfl rfl ?_
                refine g_laload 253 (gd rfl) rfl (n := 9) rfl (in_ix (in_c 8 rfl) rfl) (fun z252 e252 => ?_)
                refine g_lcmp 254 (gd rfl) rfl (fun z253 e253 => ?_)
                have i253 := lc_in e253
                refine g_if_le 257 262 (gd rfl) rfl rfl (fun c254 => ?_) (fun c254 => ?_)
                · skip
                  have i254 := z_le (-1) 0 c254 i253 rfl
                  have c254a := lc_le e253 c254
                  have i254a := lr_le2 1000000000000 9223372036854775807 c254a (l_c 1000000000000 rfl) (l_rng z252) rfl
                  refine g_aload_n 263 (gd rfl) rfl rfl ?_
                  refine g_getA (q2 := 194) 266 (gd rfl) rfl rfl rfl rfl ?_
                  refine g_bipush 8 268 (gd rfl) rfl rfl ?_
                  refine g_laload 269 (gd rfl) rfl (n := 9) rfl (in_ix (in_c 8 rfl) rfl) (fun z268 e268 => ?_)
                  refine g_lastore 270 (gd rfl) rfl (n := 9) rfl (in_ix (in_c 8 rfl) rfl) ?_
                  have hI269 := inv_sL (q := 194) (j := (Int32.ofInt 8).toNatClampNeg) (x := z268) hI237 rfl (l_rng z268)
                  exact gg_w (by first | exact Nat.le_add_right _ _ | exact gw2 | exact gw3 | exact gwe rfl | exact gwf rfl | exact gwg rfl | exact gwh rfl | omega) (gg_f (gf_cons rfl (gf_cons rfl (gf_cons rfl (gf_cons rfl gf_nil)))) (ct270 (sL (sL (sL (sL sc137 194 (Int32.ofInt 4).toNatClampNeg z192) 194 (Int32.ofInt 6).toNatClampNeg z204) 194 (Int32.ofInt 7).toNatClampNeg (Int64.ofInt 1000000000000)) 194 (Int32.ofInt 8).toNatClampNeg z268)  hI269 (fr_sL rfl (fr_sL rfl (fr_sL rfl (fr_sL rfl hFc137)))) (in_w 0 400 j137_3 rfl)))
                · skip
                  have i254 := z_gt 1 1 c254 i253 rfl
                  have c254a := lc_gt e253 c254
                  have i254a := lr_lt1 (-9223372036854775808) 999999999999 c254a (l_rng z252) (l_c 1000000000000 rfl) rfl
                  refine g_lload 259 (gd rfl) rfl rfl ?_
                  refine g_goto 269 (gd rfl) rfl ?_
                  refine g_lastore 270 (gd rfl) rfl (n := 9) rfl (in_ix (in_c 8 rfl) rfl) ?_
                  have hI269 := inv_sL (q := 194) (j := (Int32.ofInt 8).toNatClampNeg) (x := (Int64.ofInt 1000000000000)) hI237 rfl (l_rng (Int64.ofInt 1000000000000))
                  exact gg_w (by first | exact Nat.le_add_right _ _ | exact gw2 | exact gw3 | exact gwe rfl | exact gwf rfl | exact gwg rfl | exact gwh rfl | omega) (gg_f (gf_cons rfl (gf_cons rfl (gf_cons rfl (gf_cons rfl gf_nil)))) (ct270 (sL (sL (sL (sL sc137 194 (Int32.ofInt 4).toNatClampNeg z192) 194 (Int32.ofInt 6).toNatClampNeg z204) 194 (Int32.ofInt 7).toNatClampNeg (Int64.ofInt 1000000000000)) 194 (Int32.ofInt 8).toNatClampNeg (Int64.ofInt 1000000000000))  hI269 (fr_sL rfl (fr_sL rfl (fr_sL rfl (fr_sL rfl hFc137)))) (in_w 0 400 j137_3 rfl)))
      refine g_iload_n 97 (gd rfl) rfl rfl ?_
      refine g_aload_n 98 (gd rfl) rfl rfl ?_
      refine g_getI 101 (gd rfl) rfl rfl rfl (fun z98 e98 => ?_)
      have q98 : u_109_19 = z98 := (fr_F e_109_19 hFc96 rfl).trans e98.symm
      subst q98
      refine g_sipush 160 104 (gd rfl) rfl rfl ?_
      refine g_iadd 105 (gd rfl) rfl (fun z104 e104 => ?_)
      have i104 := in_add 160 320 e104 ro_109_19 (in_c 160 rfl) rfl rfl
      refine g_cmp_ge 108 276 (gd rfl) rfl rfl (fun c105 => ?_) (fun c105 => ?_)
      · skip
        have i105 := r_le2 160 448 c105 i104 j96_3 rfl
        refine g_aload_n 277 (gd rfl) rfl rfl ?_
        refine g_getA (q2 := 194) 280 (gd rfl) rfl rfl rfl rfl ?_
        refine g_bipush 6 282 (gd rfl) rfl rfl ?_
        refine g_aload_n 283 (gd rfl) rfl rfl ?_
        refine g_getA (q2 := 194) 286 (gd rfl) rfl rfl rfl rfl ?_
        refine g_bipush 6 288 (gd rfl) rfl rfl ?_
        refine g_laload 289 (gd rfl) rfl (n := 9) rfl (in_ix (in_c 6 rfl) rfl) (fun z288 e288 => ?_)
        refine g_calls (As := [.long z288]) (r := [.int (Int32.ofInt 6), .ref (A 194)]) 292 (gd rfl) rfl rfl rfl rfl rfl (Nat.le_of_ble_eq_true rfl) (mc := 0) (ms := 0) (Nat.zero_le _) (Nat.zero_le _) (P := fun v u => _) ?_ (fun v u h => h)
        intro po289 xx289 hp289 hx289
        refine g_enter2 (k := 405) (N := 300) (by first | exact dq1 hd rfl | exact dq0 hd rfl | exact dq2 hd rfl | exact dq3 hd rfl | omega) rfl (Nat.le_of_ble_eq_true rfl) ?_
        refine g_lload_n 1 (gd rfl) rfl rfl ?_
        refine g_ldc2_w 1000000000000 4 (gd rfl) rfl rfl ?_
        refine g_lcmp 5 (gd rfl) rfl (fun z289x4 e289x4 => ?_)
        have i289x4 := lc_in e289x4
        refine g_if_le 8 14 (gd rfl) rfl rfl (fun c289x5 => ?_) (fun c289x5 => ?_)
        · skip
          have i289x5 := z_le (-1) 0 c289x5 i289x4 rfl
          have c289x5a := lc_le e289x4 c289x5
          have i289x5a := lr_le1 (-9223372036854775808) 1000000000000 c289x5a (l_rng z288) (l_c 1000000000000 rfl) rfl
          refine g_lload_n 15 (gd rfl) rfl rfl ?_
          refine g_ldc2_w (-1000000000000) 18 (gd rfl) rfl rfl ?_
          refine g_lcmp 19 (gd rfl) rfl (fun z289x18 e289x18 => ?_)
          have i289x18 := lc_in e289x18
          refine g_if_ge 22 28 (gd rfl) rfl rfl (fun c289x19 => ?_) (fun c289x19 => ?_)
          · skip
            have i289x19 := z_ge 0 1 c289x19 i289x18 rfl
            have c289x19a := lc_ge e289x18 c289x19
            have i289x19a := lr_le2 (-1000000000000) 1000000000000 c289x19a (l_c (-1000000000000) rfl) i289x5a rfl
            refine g_lload_n 29 (gd rfl) rfl rfl ?_
            refine g_lreturn (gd rfl) rfl (hp289 _ _ ?_)
            show GG _ _ _ _ _ _ _ _ [.long z288, .int (Int32.ofInt 6), .ref (A 194)] _ _ _
            refine g_lastore 293 (gd rfl) rfl (n := 9) rfl (in_ix (in_c 6 rfl) rfl) ?_
            have hI292 := inv_sL (q := 194) (j := (Int32.ofInt 6).toNatClampNeg) (x := z288) hIc96 rfl (l_rng z288)
            exact g_return (gd rfl) rfl (hP _ _ ⟨(sL sc96 194 (Int32.ofInt 6).toNatClampNeg z288), hI292, (fr_sL rfl hFc96), rfl, rfl⟩)
          · skip
            have i289x19 := z_lt (-1) (-1) c289x19 i289x18 rfl
            have c289x19a := lc_lt e289x18 c289x19
            have i289x19a := lr_lt1 (-9223372036854775808) (-1000000000001) c289x19a i289x5a (l_c (-1000000000000) rfl) rfl
            refine g_ldc2_w (-1000000000000) 25 (gd rfl) rfl rfl ?_
            refine g_goto 29 (gd rfl) rfl ?_
            refine g_lreturn (gd rfl) rfl (hp289 _ _ ?_)
            show GG _ _ _ _ _ _ _ _ [.long (Int64.ofInt (-1000000000000)), .int (Int32.ofInt 6), .ref (A 194)] _ _ _
            refine g_lastore 293 (gd rfl) rfl (n := 9) rfl (in_ix (in_c 6 rfl) rfl) ?_
            have hI292 := inv_sL (q := 194) (j := (Int32.ofInt 6).toNatClampNeg) (x := (Int64.ofInt (-1000000000000))) hIc96 rfl (l_rng (Int64.ofInt (-1000000000000)))
            exact g_return (gd rfl) rfl (hP _ _ ⟨(sL sc96 194 (Int32.ofInt 6).toNatClampNeg (Int64.ofInt (-1000000000000))), hI292, (fr_sL rfl hFc96), rfl, rfl⟩)
        · skip
          have i289x5 := z_gt 1 1 c289x5 i289x4 rfl
          have c289x5a := lc_gt e289x4 c289x5
          have i289x5a := lr_lt2 1000000000001 9223372036854775807 c289x5a (l_c 1000000000000 rfl) (l_rng z288) rfl
          refine g_ldc2_w 1000000000000 11 (gd rfl) rfl rfl ?_
          refine g_goto 29 (gd rfl) rfl ?_
          refine g_lreturn (gd rfl) rfl (hp289 _ _ ?_)
          show GG _ _ _ _ _ _ _ _ [.long (Int64.ofInt 1000000000000), .int (Int32.ofInt 6), .ref (A 194)] _ _ _
          refine g_lastore 293 (gd rfl) rfl (n := 9) rfl (in_ix (in_c 6 rfl) rfl) ?_
          have hI292 := inv_sL (q := 194) (j := (Int32.ofInt 6).toNatClampNeg) (x := (Int64.ofInt 1000000000000)) hIc96 rfl (l_rng (Int64.ofInt 1000000000000))
          exact g_return (gd rfl) rfl (hP _ _ ⟨(sL sc96 194 (Int32.ofInt 6).toNatClampNeg (Int64.ofInt 1000000000000)), hI292, (fr_sL rfl hFc96), rfl, rfl⟩)
      · skip
        have i105 := r_lt1 0 319 c105 j96_3 i104 rfl
        refine g_aload_n 109 (gd rfl) rfl rfl ?_
        refine g_getA (q2 := 112) 112 (gd rfl) rfl rfl rfl rfl ?_
        refine g_iload_n 113 (gd rfl) rfl rfl ?_
        refine g_baload 114 (gd rfl) rfl (n := 480) rfl (in_ix i105 rfl) (fun z113 e113 => ?_)
        have i113 := inv_I hIc96 (n := 480) (t := 3) 0 1 rfl (in_ix i105 rfl) rfl e113
        refine g_if_eq 117 137 (gd rfl) rfl rfl (fun c114 => ?_) (fun c114 => ?_)
        · skip
          have i114 := z_eq 0 0 c114 i113 rfl
          exact gg_w (by first | exact Nat.le_add_right _ _ | exact gw2 | exact gw3 | exact gwe rfl | exact gwf rfl | exact gwg rfl | exact gwh rfl | omega) (gg_f (gf_cons rfl (gf_cons rfl (gf_cons rfl (gf_cons rfl gf_nil)))) (ct137 sc96  hIc96 hFc96 (in_w 0 400 i105 rfl)))
        · skip
          have i114 := z_ne 1 1 c114 i113 rfl
          refine g_aload_n 118 (gd rfl) rfl rfl ?_
          refine g_getA (q2 := 113) 121 (gd rfl) rfl rfl rfl rfl ?_
          refine g_iload_n 122 (gd rfl) rfl rfl ?_
          refine g_iaload 123 (gd rfl) rfl (n := 480) rfl (in_ix i105 rfl) (fun z122 e122 => ?_)
          have i122 := inv_I hIc96 (n := 480) (t := 0) 0 31 rfl (in_ix i105 rfl) rfl e122
          refine g_iload_n 124 (gd rfl) rfl rfl ?_
          refine g_cmp_ne 127 137 (gd rfl) rfl rfl (fun c124 => ?_) (fun c124 => ?_)
          · skip
            exact gg_w (by first | exact Nat.le_add_right _ _ | exact gw2 | exact gw3 | exact gwe rfl | exact gwf rfl | exact gwg rfl | exact gwh rfl | omega) (gg_f (gf_cons rfl (gf_cons rfl (gf_cons rfl (gf_cons rfl gf_nil)))) (ct137 sc96  hIc96 hFc96 (in_w 0 400 i105 rfl)))
          · skip
            refine g_aload_n 128 (gd rfl) rfl rfl ?_
            refine g_getA (q2 := 194) 131 (gd rfl) rfl rfl rfl rfl ?_
            refine g_iconst 3 132 (gd rfl) rfl rfl ?_
            refine g_dup2 133 (gd rfl) rfl rfl rfl ?_
            refine g_laload 134 (gd rfl) rfl (n := 9) rfl (in_ix (in_c 3 rfl) rfl) (fun z133 e133 => ?_)
            refine g_lconst 1 135 (gd rfl) rfl rfl ?_
            refine g_ladd 136 (gd rfl) rfl (fun z135 e135 => ?_)
            refine g_lastore 137 (gd rfl) rfl (n := 9) rfl (in_ix (in_c 3 rfl) rfl) ?_
            have hI136 := inv_sL (q := 194) (j := (Int32.ofInt 3).toNatClampNeg) (x := z135) hIc96 rfl (l_rng z135)
            exact gg_w (by first | exact Nat.le_add_right _ _ | exact gw2 | exact gw3 | exact gwe rfl | exact gwf rfl | exact gwg rfl | exact gwh rfl | omega) (gg_f (gf_cons rfl (gf_cons rfl (gf_cons rfl (gf_cons rfl gf_nil)))) (ct137 (sL sc96 194 (Int32.ofInt 3).toNatClampNeg z135)  hI136 (fr_sL rfl hFc96) (in_w 0 400 i105 rfl)))
  refine g_enter2 (k := 407) (N := 1214099) (by first | exact dq1 hd rfl | exact dq0 hd rfl | exact dq2 hd rfl | exact dq3 hd rfl | omega) rfl (Nat.le_of_ble_eq_true rfl) ?_
  refine g_aload_n 1 (gd rfl) rfl rfl ?_
  refine g_getA (q2 := 194) 4 (gd rfl) rfl rfl rfl rfl ?_
  refine g_iconst 0 5 (gd rfl) rfl rfl ?_
  refine g_aload_n 6 (gd rfl) rfl rfl ?_
  refine g_getA (q2 := 191) 9 (gd rfl) rfl rfl rfl rfl ?_
  refine g_iload_n 10 (gd rfl) rfl rfl ?_
  refine g_laload 11 (gd rfl) rfl (n := 32) rfl (in_ix h1 rfl) (fun z10 e10 => ?_)
  refine g_lastore 12 (gd rfl) rfl (n := 9) rfl (in_ix (in_c 0 rfl) rfl) ?_
  have hI11 := inv_sL (q := 194) (j := (Int32.ofInt 0).toNatClampNeg) (x := z10) hI rfl (l_rng z10)
  refine g_aload_n 13 (gd rfl) rfl rfl ?_
  refine g_getA (q2 := 194) 16 (gd rfl) rfl rfl rfl rfl ?_
  refine g_iconst 1 17 (gd rfl) rfl rfl ?_
  refine g_iload_n 18 (gd rfl) rfl rfl ?_
  refine g_i2l 19 (gd rfl) rfl (fun z18 e18 => ?_)
  have i18 := l_i e18 h1
  refine g_lastore 20 (gd rfl) rfl (n := 9) rfl (in_ix (in_c 1 rfl) rfl) ?_
  have hI19 := inv_sL (q := 194) (j := (Int32.ofInt 1).toNatClampNeg) (x := z18) hI11 rfl (l_rng z18)
  refine g_aload_n 21 (gd rfl) rfl rfl ?_
  refine g_getA (q2 := 194) 24 (gd rfl) rfl rfl rfl rfl ?_
  refine g_iconst 2 25 (gd rfl) rfl rfl ?_
  refine g_aload_n 26 (gd rfl) rfl rfl ?_
  refine g_getA (q2 := 111) 29 (gd rfl) rfl rfl rfl rfl ?_
  refine g_bipush 32 31 (gd rfl) rfl rfl ?_
  refine g_aload_n 32 (gd rfl) rfl rfl ?_
  refine g_getI 35 (gd rfl) rfl rfl rfl (fun z32 e32 => ?_)
  have q32 : u_109_18 = z32 := (sL_F (sL_F (e_109_18))).trans e32.symm
  subst q32
  refine g_imul 36 (gd rfl) rfl (fun z35 e35 => ?_)
  have i35 := in_mulc 32 0 32 (Or.inl e35) ro_109_18 rfl rfl
  refine g_iload_n 37 (gd rfl) rfl rfl ?_
  refine g_iadd 38 (gd rfl) rfl (fun z37 e37 => ?_)
  have i37 := in_add 0 63 e37 i35 h1 rfl rfl
  refine g_iaload 39 (gd rfl) rfl (n := 96) rfl (in_ix i37 rfl) (fun z38 e38 => ?_)
  have i38 := inv_I hI19 (n := 96) (t := 0) 0 25 rfl (in_ix i37 rfl) rfl e38
  refine g_i2l 40 (gd rfl) rfl (fun z39 e39 => ?_)
  have i39 := l_i e39 i38
  refine g_lastore 41 (gd rfl) rfl (n := 9) rfl (in_ix (in_c 2 rfl) rfl) ?_
  have hI40 := inv_sL (q := 194) (j := (Int32.ofInt 2).toNatClampNeg) (x := z39) hI19 rfl (l_rng z39)
  refine g_aload_n 42 (gd rfl) rfl rfl ?_
  refine g_getA (q2 := 194) 45 (gd rfl) rfl rfl rfl rfl ?_
  refine g_iconst 3 46 (gd rfl) rfl rfl ?_
  refine g_lconst 0 47 (gd rfl) rfl rfl ?_
  refine g_lastore 48 (gd rfl) rfl (n := 9) rfl (in_ix (in_c 3 rfl) rfl) ?_
  have hI47 := inv_sL (q := 194) (j := (Int32.ofInt 3).toNatClampNeg) (x := (Int64.ofInt 0)) hI40 rfl (l_rng (Int64.ofInt 0))
  refine g_aload_n 49 (gd rfl) rfl rfl ?_
  refine g_getA (q2 := 194) 52 (gd rfl) rfl rfl rfl rfl ?_
  refine g_iconst 4 53 (gd rfl) rfl rfl ?_
  refine g_lconst 0 54 (gd rfl) rfl rfl ?_
  refine g_lastore 55 (gd rfl) rfl (n := 9) rfl (in_ix (in_c 4 rfl) rfl) ?_
  have hI54 := inv_sL (q := 194) (j := (Int32.ofInt 4).toNatClampNeg) (x := (Int64.ofInt 0)) hI47 rfl (l_rng (Int64.ofInt 0))
  refine g_aload_n 56 (gd rfl) rfl rfl ?_
  refine g_getA (q2 := 194) 59 (gd rfl) rfl rfl rfl rfl ?_
  refine g_iconst 5 60 (gd rfl) rfl rfl ?_
  refine g_iload_n 61 (gd rfl) rfl rfl ?_
  refine g_i2l 62 (gd rfl) rfl (fun z61 e61 => ?_)
  have i61 := l_i e61 h2
  refine g_lastore 63 (gd rfl) rfl (n := 9) rfl (in_ix (in_c 5 rfl) rfl) ?_
  have hI62 := inv_sL (q := 194) (j := (Int32.ofInt 5).toNatClampNeg) (x := z61) hI54 rfl (l_rng z61)
  refine g_aload_n 64 (gd rfl) rfl rfl ?_
  refine g_getA (q2 := 194) 67 (gd rfl) rfl rfl rfl rfl ?_
  refine g_bipush 6 69 (gd rfl) rfl rfl ?_
  refine g_lconst 0 70 (gd rfl) rfl rfl ?_
  refine g_lastore 71 (gd rfl) rfl (n := 9) rfl (in_ix (in_c 6 rfl) rfl) ?_
  have hI70 := inv_sL (q := 194) (j := (Int32.ofInt 6).toNatClampNeg) (x := (Int64.ofInt 0)) hI62 rfl (l_rng (Int64.ofInt 0))
  refine g_aload_n 72 (gd rfl) rfl rfl ?_
  refine g_getA (q2 := 194) 75 (gd rfl) rfl rfl rfl rfl ?_
  refine g_bipush 7 77 (gd rfl) rfl rfl ?_
  refine g_ldc2_w 1000000000000 80 (gd rfl) rfl rfl ?_
  refine g_lastore 81 (gd rfl) rfl (n := 9) rfl (in_ix (in_c 7 rfl) rfl) ?_
  have hI80 := inv_sL (q := 194) (j := (Int32.ofInt 7).toNatClampNeg) (x := (Int64.ofInt 1000000000000)) hI70 rfl (l_rng (Int64.ofInt 1000000000000))
  refine g_aload_n 82 (gd rfl) rfl rfl ?_
  refine g_getA (q2 := 194) 85 (gd rfl) rfl rfl rfl rfl ?_
  refine g_bipush 8 87 (gd rfl) rfl rfl ?_
  refine g_ldc2_w (-1000000000000) 90 (gd rfl) rfl rfl ?_
  refine g_lastore 91 (gd rfl) rfl (n := 9) rfl (in_ix (in_c 8 rfl) rfl) ?_
  have hI90 := inv_sL (q := 194) (j := (Int32.ofInt 8).toNatClampNeg) (x := (Int64.ofInt (-1000000000000))) hI80 rfl (l_rng (Int64.ofInt (-1000000000000)))
  refine g_aload_n 92 (gd rfl) rfl rfl ?_
  refine g_getI 95 (gd rfl) rfl rfl rfl (fun z92 e92 => ?_)
  have q92 : u_109_19 = z92 := (sL_F (sL_F (sL_F (sL_F (sL_F (sL_F (sL_F (sL_F (sL_F (e_109_19)))))))))).trans e92.symm
  subst q92
  refine g_istore_n 96 (gd rfl) rfl (Nat.le_of_ble_eq_true rfl) ?_
  exact gg_w (by first | exact Nat.le_of_ble_eq_true rfl | omega) (gg_f (gf_cons rfl (gf_cons rfl (gf_cons rfl (gf_cons rfl gf_nil)))) (ct96 449 (sL (sL (sL (sL (sL (sL (sL (sL (sL s 194 (Int32.ofInt 0).toNatClampNeg z10) 194 (Int32.ofInt 1).toNatClampNeg z18) 194 (Int32.ofInt 2).toNatClampNeg z39) 194 (Int32.ofInt 3).toNatClampNeg (Int64.ofInt 0)) 194 (Int32.ofInt 4).toNatClampNeg (Int64.ofInt 0)) 194 (Int32.ofInt 5).toNatClampNeg z61) 194 (Int32.ofInt 6).toNatClampNeg (Int64.ofInt 0)) 194 (Int32.ofInt 7).toNatClampNeg (Int64.ofInt 1000000000000)) 194 (Int32.ofInt 8).toNatClampNeg (Int64.ofInt (-1000000000000))) u_109_19 hI90 (fr_sL rfl (fr_sL rfl (fr_sL rfl (fr_sL rfl (fr_sL rfl (fr_sL rfl (fr_sL rfl (fr_sL rfl (fr_sL rfl fr_rf))))))))) (in_w 0 448 ro_109_19 rfl) (m_in 449 (in_w 0 448 ro_109_19 rfl) rfl)))

/-- GraphHouseModel.goesTo -/
theorem k_410 {Z : AmZ} {A : Nat → Nat} {s : GS} {ex : va_W} {d : Nat} {X : AmX} {x1 : Int32} {x2 : Int32} {x3 : Int32} (hd : 1 ≤ d) (hI : Inv s) (h1 : In x1 0 31) (h2 : In x2 0 3) (h3 : In x3 1 4) : GC Z d 410 [.ref (A 109), .int x1, .int x2, .int x3] (WW Z A s ++ ex) 0 0 (fun v u => ∃ z : Int32, v = some (.int z) ∧ u = WW Z A s ++ ex ∧ In z 0 1) X := by
  intro post xp hP hX
  obtain ⟨u_109_19, e_109_19⟩ : ∃ w, w = s.2.2.1 109 19 := ⟨_, rfl⟩
  have ro_109_19 := inv_F hI 0 160 rfl e_109_19
  have ct9 : ∀ (k9 : Nat) (y9_4 : Int32) (y9_5 : Int32), (In y9_4 0 1) → (In y9_5 0 400) → 400 - (y9_5).toInt < (k9 : Int) → GG Z (d - 1) 410 post (gx xp) (1 + k9 * 900) 9 (fun j => xlook j [(0, .ref (A 109)), (1, .int x1), (2, .int x2), (3, .int x3), (4, .int y9_4), (5, .int y9_5)]) [] (WW Z A s ++ ex) 0 0 := by
    intro k9
    induction k9 with
    | zero => intro y9_4 y9_5 j9_4 j9_5 mm9; exact m_no mm9 j9_5 rfl
    | succ k9 ih9 =>
      intro y9_4 y9_5 j9_4 j9_5 mm9
      refine gg_w (M := 1 + k9 * 900 + 900) gws ?_
      refine g_iload 11 (gd rfl) rfl rfl ?_
      refine g_aload_n 12 (gd rfl) rfl rfl ?_
      refine g_getI 15 (gd rfl) rfl rfl rfl (fun z12 e12 => ?_)
      have q12 : u_109_19 = z12 := (e_109_19).trans e12.symm
      subst q12
      refine g_sipush 160 18 (gd rfl) rfl rfl ?_
      refine g_iadd 19 (gd rfl) rfl (fun z18 e18 => ?_)
      have i18 := in_add 160 320 e18 ro_109_19 (in_c 160 rfl) rfl rfl
      refine g_cmp_ge 22 74 (gd rfl) rfl rfl (fun c19 => ?_) (fun c19 => ?_)
      · skip
        have i19 := r_le2 160 400 c19 i18 j9_5 rfl
        refine g_iload 76 (gd rfl) rfl rfl ?_
        refine g_if_eq 79 90 (gd rfl) rfl rfl (fun c76 => ?_) (fun c76 => ?_)
        · skip
          have i76 := z_eq 0 0 c76 j9_4 rfl
          refine g_iconst 0 91 (gd rfl) rfl rfl ?_
          exact g_ireturn (gd rfl) rfl (nb01 (in_w 0 1 (in_c 0 rfl) rfl)) (hP _ _ ⟨(Int32.ofInt 0), rfl, rfl, in_w 0 1 (in_c 0 rfl) rfl⟩)
        · skip
          have i76 := z_ne 1 1 c76 j9_4 rfl
          refine g_iload_n 80 (gd rfl) rfl rfl ?_
          refine g_iload_n 81 (gd rfl) rfl rfl ?_
          refine g_irem 82 (gd rfl) rfl (dv_nz h3 rfl) (fun z81 e81 => ?_)
          have i81 := in_remv 3 e81 h1 h3 rfl
          refine g_iload_n 83 (gd rfl) rfl rfl ?_
          refine g_cmp_eq 86 90 (gd rfl) rfl rfl (fun c83 => ?_) (fun c83 => ?_)
          · skip
            refine g_iconst 0 91 (gd rfl) rfl rfl ?_
            exact g_ireturn (gd rfl) rfl (nb01 (in_w 0 1 (in_c 0 rfl) rfl)) (hP _ _ ⟨(Int32.ofInt 0), rfl, rfl, in_w 0 1 (in_c 0 rfl) rfl⟩)
          · skip
            refine g_iconst 1 87 (gd rfl) rfl rfl ?_
            refine g_goto 91 (gd rfl) rfl ?_
            exact g_ireturn (gd rfl) rfl (nb01 (in_w 0 1 (in_c 1 rfl) rfl)) (hP _ _ ⟨(Int32.ofInt 1), rfl, rfl, in_w 0 1 (in_c 1 rfl) rfl⟩)
      · skip
        have i19 := r_lt1 0 319 c19 j9_5 i18 rfl
        refine g_iload 24 (gd rfl) rfl rfl ?_
        refine g_if_ne 27 61 (gd rfl) rfl rfl (fun c24 => ?_) (fun c24 => ?_)
        · skip
          have i24 := z_ne 1 1 c24 j9_4 rfl
          refine g_iconst 1 62 (gd rfl) rfl rfl ?_
          refine g_goto 66 (gd rfl) rfl ?_
          refine g_istore 68 (gd rfl) rfl (Nat.le_of_ble_eq_true rfl) ?_
          refine g_iinc 71 (gd rfl) rfl rfl (Nat.le_of_ble_eq_true rfl) (fun z68 e68 => ?_)
          have i68 := in_add 1 320 e68 i19 (in_c 1 rfl) rfl rfl
          refine g_goto 9 (gd rfl) rfl ?_
          exact gg_w (by first | exact Nat.le_add_right _ _ | exact gw2 | exact gw3 | exact gwe rfl | exact gwf rfl | exact gwg rfl | exact gwh rfl | omega) (gg_f (gf_cons rfl (gf_cons rfl (gf_cons rfl (gf_cons rfl (gf_cons rfl (gf_cons rfl gf_nil)))))) (ih9  (Int32.ofInt 1) z68  (in_w 0 1 (in_c 1 rfl) rfl) (in_w 0 400 i68 rfl) (m_up mm9 (t_add e68 i19 (in_c 1 rfl) rfl) (in_w 1 1 (in_c 1 rfl) rfl))))
        · skip
          have i24 := z_eq 0 0 c24 j9_4 rfl
          refine g_aload_n 28 (gd rfl) rfl rfl ?_
          refine g_getA (q2 := 112) 31 (gd rfl) rfl rfl rfl rfl ?_
          refine g_iload 33 (gd rfl) rfl rfl ?_
          refine g_baload 34 (gd rfl) rfl (n := 480) rfl (in_ix i19 rfl) (fun z33 e33 => ?_)
          have i33 := inv_I hI (n := 480) (t := 3) 0 1 rfl (in_ix i19 rfl) rfl e33
          refine g_if_eq 37 65 (gd rfl) rfl rfl (fun c34 => ?_) (fun c34 => ?_)
          · skip
            have i34 := z_eq 0 0 c34 i33 rfl
            refine g_iconst 0 66 (gd rfl) rfl rfl ?_
            refine g_istore 68 (gd rfl) rfl (Nat.le_of_ble_eq_true rfl) ?_
            refine g_iinc 71 (gd rfl) rfl rfl (Nat.le_of_ble_eq_true rfl) (fun z68 e68 => ?_)
            have i68 := in_add 1 320 e68 i19 (in_c 1 rfl) rfl rfl
            refine g_goto 9 (gd rfl) rfl ?_
            exact gg_w (by first | exact Nat.le_add_right _ _ | exact gw2 | exact gw3 | exact gwe rfl | exact gwf rfl | exact gwg rfl | exact gwh rfl | omega) (gg_f (gf_cons rfl (gf_cons rfl (gf_cons rfl (gf_cons rfl (gf_cons rfl (gf_cons rfl gf_nil)))))) (ih9  (Int32.ofInt 0) z68  (in_w 0 1 (in_c 0 rfl) rfl) (in_w 0 400 i68 rfl) (m_up mm9 (t_add e68 i19 (in_c 1 rfl) rfl) (in_w 1 1 (in_c 1 rfl) rfl))))
          · skip
            have i34 := z_ne 1 1 c34 i33 rfl
            refine g_aload_n 38 (gd rfl) rfl rfl ?_
            refine g_getA (q2 := 113) 41 (gd rfl) rfl rfl rfl rfl ?_
            refine g_iload 43 (gd rfl) rfl rfl ?_
            refine g_iaload 44 (gd rfl) rfl (n := 480) rfl (in_ix i19 rfl) (fun z43 e43 => ?_)
            have i43 := inv_I hI (n := 480) (t := 0) 0 31 rfl (in_ix i19 rfl) rfl e43
            refine g_iload_n 45 (gd rfl) rfl rfl ?_
            refine g_cmp_ne 48 65 (gd rfl) rfl rfl (fun c45 => ?_) (fun c45 => ?_)
            · skip
              refine g_iconst 0 66 (gd rfl) rfl rfl ?_
              refine g_istore 68 (gd rfl) rfl (Nat.le_of_ble_eq_true rfl) ?_
              refine g_iinc 71 (gd rfl) rfl rfl (Nat.le_of_ble_eq_true rfl) (fun z68 e68 => ?_)
              have i68 := in_add 1 320 e68 i19 (in_c 1 rfl) rfl rfl
              refine g_goto 9 (gd rfl) rfl ?_
              exact gg_w (by first | exact Nat.le_add_right _ _ | exact gw2 | exact gw3 | exact gwe rfl | exact gwf rfl | exact gwg rfl | exact gwh rfl | omega) (gg_f (gf_cons rfl (gf_cons rfl (gf_cons rfl (gf_cons rfl (gf_cons rfl (gf_cons rfl gf_nil)))))) (ih9  (Int32.ofInt 0) z68  (in_w 0 1 (in_c 0 rfl) rfl) (in_w 0 400 i68 rfl) (m_up mm9 (t_add e68 i19 (in_c 1 rfl) rfl) (in_w 1 1 (in_c 1 rfl) rfl))))
            · skip
              refine g_aload_n 49 (gd rfl) rfl rfl ?_
              refine g_getA (q2 := 114) 52 (gd rfl) rfl rfl rfl rfl ?_
              refine g_iload 54 (gd rfl) rfl rfl ?_
              refine g_iaload 55 (gd rfl) rfl (n := 480) rfl (in_ix i19 rfl) (fun z54 e54 => ?_)
              have i54 := inv_I hI (n := 480) (t := 0) 0 31 rfl (in_ix i19 rfl) rfl e54
              refine g_iload_n 56 (gd rfl) rfl rfl ?_
              refine g_irem 57 (gd rfl) rfl (dv_nz h3 rfl) (fun z56 e56 => ?_)
              have i56 := in_remv 3 e56 i54 h3 rfl
              refine g_iload_n 58 (gd rfl) rfl rfl ?_
              refine g_cmp_ne 61 65 (gd rfl) rfl rfl (fun c58 => ?_) (fun c58 => ?_)
              · skip
                refine g_iconst 0 66 (gd rfl) rfl rfl ?_
                refine g_istore 68 (gd rfl) rfl (Nat.le_of_ble_eq_true rfl) ?_
                refine g_iinc 71 (gd rfl) rfl rfl (Nat.le_of_ble_eq_true rfl) (fun z68 e68 => ?_)
                have i68 := in_add 1 320 e68 i19 (in_c 1 rfl) rfl rfl
                refine g_goto 9 (gd rfl) rfl ?_
                exact gg_w (by first | exact Nat.le_add_right _ _ | exact gw2 | exact gw3 | exact gwe rfl | exact gwf rfl | exact gwg rfl | exact gwh rfl | omega) (gg_f (gf_cons rfl (gf_cons rfl (gf_cons rfl (gf_cons rfl (gf_cons rfl (gf_cons rfl gf_nil)))))) (ih9  (Int32.ofInt 0) z68  (in_w 0 1 (in_c 0 rfl) rfl) (in_w 0 400 i68 rfl) (m_up mm9 (t_add e68 i19 (in_c 1 rfl) rfl) (in_w 1 1 (in_c 1 rfl) rfl))))
              · skip
                refine g_iconst 1 62 (gd rfl) rfl rfl ?_
                refine g_goto 66 (gd rfl) rfl ?_
                refine g_istore 68 (gd rfl) rfl (Nat.le_of_ble_eq_true rfl) ?_
                refine g_iinc 71 (gd rfl) rfl rfl (Nat.le_of_ble_eq_true rfl) (fun z68 e68 => ?_)
                have i68 := in_add 1 320 e68 i19 (in_c 1 rfl) rfl rfl
                refine g_goto 9 (gd rfl) rfl ?_
                exact gg_w (by first | exact Nat.le_add_right _ _ | exact gw2 | exact gw3 | exact gwe rfl | exact gwf rfl | exact gwg rfl | exact gwh rfl | omega) (gg_f (gf_cons rfl (gf_cons rfl (gf_cons rfl (gf_cons rfl (gf_cons rfl (gf_cons rfl gf_nil)))))) (ih9  (Int32.ofInt 1) z68  (in_w 0 1 (in_c 1 rfl) rfl) (in_w 0 400 i68 rfl) (m_up mm9 (t_add e68 i19 (in_c 1 rfl) rfl) (in_w 1 1 (in_c 1 rfl) rfl))))
  refine g_enter2 (k := 410) (N := 361801) (by first | exact dq1 hd rfl | exact dq0 hd rfl | exact dq2 hd rfl | exact dq3 hd rfl | omega) rfl (Nat.le_of_ble_eq_true rfl) ?_
  refine g_iconst 0 1 (gd rfl) rfl rfl ?_
  refine g_istore 3 (gd rfl) rfl (Nat.le_of_ble_eq_true rfl) ?_
  refine g_aload_n 4 (gd rfl) rfl rfl ?_
  refine g_getI 7 (gd rfl) rfl rfl rfl (fun z4 e4 => ?_)
  have q4 : u_109_19 = z4 := (e_109_19).trans e4.symm
  subst q4
  refine g_istore 9 (gd rfl) rfl (Nat.le_of_ble_eq_true rfl) ?_
  exact gg_w (by first | exact Nat.le_of_ble_eq_true rfl | omega) (gg_f (gf_cons rfl (gf_cons rfl (gf_cons rfl (gf_cons rfl (gf_cons rfl (gf_cons rfl gf_nil)))))) (ct9 401  (Int32.ofInt 0) u_109_19  (in_w 0 1 (in_c 0 rfl) rfl) (in_w 0 400 ro_109_19 rfl) (m_in 401 (in_w 0 400 ro_109_19 rfl) rfl)))

def fm_411 : FM := ([], [], [(109, 116), (109, 117), (109, 118)], [(109, 121)])
/-- GraphHouseModel.send -/
theorem k_411 {Z : AmZ} {A : Nat → Nat} {s : GS} {ex : va_W} {d : Nat} {X : AmX} {x1 : Int32} {x2 : Int32} {x3 : Int64} (hd : 2 ≤ d) (hI : Inv s) (h1 : In x1 1 4) (h2 : In x2 0 90) : GC Z d 411 [.ref (A 109), .int x1, .int x2, .long x3] (WW Z A s ++ ex) 0 0 (fun v u => ∃ t : GS, Inv t ∧ Fr fm_411 s t ∧ v = none ∧ u = WW Z A t ++ ex) X := by
  intro post xp hP hX
  obtain ⟨u_109_20, e_109_20⟩ : ∃ w, w = s.2.2.1 109 20 := ⟨_, rfl⟩
  have ro_109_20 := inv_F hI 0 32 rfl e_109_20
  have ct58 : ∀ (k58 : Nat) (sc58 : GS) (y58_5 : Int32) (y58_6 : Int32), Inv sc58 → Fr fm_411 s sc58 → (In y58_5 0 128) → (In y58_6 0 128) → (y58_5).toInt.toNat * 36893488147419103232 + dd x3 (sc58.2.2.2.1 109 121) < k58 → GG Z (d - 1) 411 post (gx xp) (1 + k58 * 118801) 58 (fun j => xlook j [(0, .ref (A 109)), (1, .int x1), (2, .int x2), (3, .long x3), (5, .int y58_5), (6, .int y58_6)]) [] (WW Z A sc58 ++ ex) 0 0 := by
    intro k58
    induction k58 with
    | zero => intro sc58 y58_5 y58_6 hIc58 hFc58 j58_5 j58_6 mm58; exact absurd mm58 (Nat.not_lt_zero _)
    | succ k58 ih58 =>
      intro sc58 y58_5 y58_6 hIc58 hFc58 j58_5 j58_6 mm58
      refine gg_w (M := 1 + k58 * 118801 + 118801) gws ?_
      have ct79 : ∀ (k79 : Nat) (sc79 : GS) (y79_6 : Int32) (y79_7 : Int32), Inv sc79 → Fr fm_411 s sc79 → (In y58_5 1 128) → (In y79_6 0 128) → (In y79_7 0 128) → ((y79_6).toInt ≤ (y79_7).toInt) → ((y79_7).toInt ≤ (y58_5).toInt) → (dd x3 (sc79.2.2.2.1 109 121) + (y79_7).toInt.toNat = dd x3 (sc58.2.2.2.1 109 121) ∨ (y79_6).toInt < (y79_7).toInt) → 128 - (y79_7).toInt < (k79 : Int) → GG Z (d - 1) 411 post (gx xp) (1 + k58 * 118801 + 1 + k79 * 900) 79 (fun j => xlook j [(0, .ref (A 109)), (1, .int x1), (2, .int x2), (3, .long x3), (5, .int y58_5), (6, .int y79_6), (7, .int y79_7)]) [] (WW Z A sc79 ++ ex) 0 0 := by
        intro k79
        induction k79 with
        | zero => intro sc79 y79_6 y79_7 hIc79 hFc79 j79_5 j79_6 j79_7 n79_0 n79_1 g79_0 mm79; exact m_no mm79 j79_7 rfl
        | succ k79 ih79 =>
          intro sc79 y79_6 y79_7 hIc79 hFc79 j79_5 j79_6 j79_7 n79_0 n79_1 g79_0 mm79
          refine gg_w (M := 1 + k58 * 118801 + 1 + k79 * 900 + 900) gws ?_
          refine g_iload 81 (gd rfl) rfl rfl ?_
          refine g_iload 83 (gd rfl) rfl rfl ?_
          refine g_cmp_ge 86 177 (gd rfl) rfl rfl (fun c83 => ?_) (fun c83 => ?_)
          · skip
            have i83 := r_le2 1 128 c83 j79_5 j79_7 rfl
            refine g_aload_n 178 (gd rfl) rfl rfl ?_
            refine g_dup 179 (gd rfl) rfl rfl ?_
            refine g_getI 182 (gd rfl) rfl rfl rfl (fun z179 e179 => ?_)
            refine g_iload 184 (gd rfl) rfl rfl ?_
            refine g_iadd 185 (gd rfl) rfl (fun z184 e184 => ?_)
            refine g_putI 188 (gd rfl) rfl rfl rfl rfl ?_
            have hI185 := inv_sF (q := 109) (j := 116) hIc79 rfl (in_w (-2147483648) 2147483647 (i_rng z184) rfl)
            refine g_aload_n 189 (gd rfl) rfl rfl ?_
            refine g_dup 190 (gd rfl) rfl rfl ?_
            refine g_getI 193 (gd rfl) rfl rfl rfl (fun z190 e190 => ?_)
            refine g_iload 195 (gd rfl) rfl rfl ?_
            refine g_iadd 196 (gd rfl) rfl (fun z195 e195 => ?_)
            refine g_putI 199 (gd rfl) rfl rfl rfl rfl ?_
            have hI196 := inv_sF (q := 109) (j := 117) hI185 rfl (in_w (-2147483648) 2147483647 (i_rng z195) rfl)
            refine g_iload 201 (gd rfl) rfl rfl ?_
            refine g_istore 203 (gd rfl) rfl (Nat.le_of_ble_eq_true rfl) ?_
            refine g_goto 58 (gd rfl) rfl ?_
            have m58 : (y79_6).toInt.toNat * 36893488147419103232 + dd x3 ((sF (sF sc79 109 116 z184) 109 117 z195).2.2.2.1 109 121) < k58 := by have hes : ((sF (sF sc79 109 116 z184) 109 117 z195)).2.2.2.1 109 121 = sc79.2.2.2.1 109 121 := rfl; rw [hes]; have h := dd_le x3 (sc79.2.2.2.1 109 121); rcases g79_0 with hg | hg; exact dm_1 mm58 (by (first | have a0 := oa6 j79_5 h2 h1 ro_109_20 i83 j79_6 | ((first | have a0 := in_u j79_5 | (have a0 := j79_5; unfold In at a0)); (first | have a1 := in_u h2 | (have a1 := h2; unfold In at a1)); (first | have a2 := in_u h1 | (have a2 := h1; unfold In at a2)); (first | have a3 := in_u ro_109_20 | (have a3 := ro_109_20; unfold In at a3)); (first | have a4 := in_u i83 | (have a4 := i83; unfold In at a4)); (first | have a5 := in_u j79_6 | (have a5 := j79_6; unfold In at a5)))); omega) (by (first | have a0 := oa6 j79_5 h2 h1 ro_109_20 i83 j79_6 | ((first | have a0 := in_u j79_5 | (have a0 := j79_5; unfold In at a0)); (first | have a1 := in_u h2 | (have a1 := h2; unfold In at a1)); (first | have a2 := in_u h1 | (have a2 := h1; unfold In at a2)); (first | have a3 := in_u ro_109_20 | (have a3 := ro_109_20; unfold In at a3)); (first | have a4 := in_u i83 | (have a4 := i83; unfold In at a4)); (first | have a5 := in_u j79_6 | (have a5 := j79_6; unfold In at a5)))); omega); exact dm_2 mm58 (Nat.lt_of_le_of_lt h (by decide)) (by (first | have a0 := oa6 j79_5 h2 h1 ro_109_20 i83 j79_6 | ((first | have a0 := in_u j79_5 | (have a0 := j79_5; unfold In at a0)); (first | have a1 := in_u h2 | (have a1 := h2; unfold In at a1)); (first | have a2 := in_u h1 | (have a2 := h1; unfold In at a2)); (first | have a3 := in_u ro_109_20 | (have a3 := ro_109_20; unfold In at a3)); (first | have a4 := in_u i83 | (have a4 := i83; unfold In at a4)); (first | have a5 := in_u j79_6 | (have a5 := j79_6; unfold In at a5)))); omega)
            exact gg_w (by first | exact Nat.le_add_right _ _ | exact gw2 | exact gw3 | exact gwe rfl | exact gwf rfl | exact gwg rfl | exact gwh rfl | omega) (gg_f (gf_cons rfl (gf_cons rfl (gf_cons rfl (gf_cons rfl (gf_cons rfl (gf_cons rfl gf_nil)))))) (ih58  (sF (sF sc79 109 116 z184) 109 117 z195) y79_6 y79_6 hI196 (fr_sF rfl (fr_sF rfl hFc79)) (in_w 0 128 j79_6 rfl) (in_w 0 128 j79_6 rfl) m58))
          · skip
            have i83 := r_lt1 0 127 c83 j79_7 j79_5 rfl
            refine g_aload_n 87 (gd rfl) rfl rfl ?_
            refine g_dup 88 (gd rfl) rfl rfl ?_
            refine g_getL 91 (gd rfl) rfl rfl rfl (fun z88 e88 => ?_)
            refine g_lconst 1 92 (gd rfl) rfl rfl ?_
            refine g_ladd 93 (gd rfl) rfl (fun z92 e92 => ?_)
            refine g_putL 96 (gd rfl) rfl rfl rfl rfl ?_
            have hI93 := inv_sG (q := 109) (j := 121) (x := z92) hIc79 rfl (l_rng z92)
            refine g_lload_n 97 (gd rfl) rfl rfl ?_
            refine g_ldc2_w (-7046029254386353131) 100 (gd rfl) rfl rfl ?_
            refine g_aload_n 101 (gd rfl) rfl rfl ?_
            refine g_getL 104 (gd rfl) rfl rfl rfl (fun z101 e101 => ?_)
            refine g_lmul 105 (gd rfl) rfl (fun z104 e104 => ?_)
            refine g_ladd 106 (gd rfl) rfl (fun z105 e105 => ?_)
            refine g_lstore 108 (gd rfl) rfl (Nat.le_of_ble_eq_true rfl) ?_
            refine g_lload 110 (gd rfl) rfl rfl ?_
            refine g_lload 112 (gd rfl) rfl rfl ?_
            refine g_bipush 30 114 (gd rfl) rfl rfl ?_
            refine g_lushr 115 (gd rfl) rfl (fun z114 e114 => ?_)
            refine g_lxor 116 (gd rfl) rfl (fun z115 e115 => ?_)
            refine g_ldc2_w (-4658895280553007687) 119 (gd rfl) rfl rfl ?_
            refine g_lmul 120 (gd rfl) rfl (fun z119 e119 => ?_)
            refine g_lstore 122 (gd rfl) rfl (Nat.le_of_ble_eq_true rfl) ?_
            refine g_lload 124 (gd rfl) rfl rfl ?_
            refine g_lload 126 (gd rfl) rfl rfl ?_
            refine g_bipush 27 128 (gd rfl) rfl rfl ?_
            refine g_lushr 129 (gd rfl) rfl (fun z128 e128 => ?_)
            refine g_lxor 130 (gd rfl) rfl (fun z129 e129 => ?_)
            refine g_ldc2_w (-7723592293110705685) 133 (gd rfl) rfl rfl ?_
            refine g_lmul 134 (gd rfl) rfl (fun z133 e133 => ?_)
            refine g_lstore 136 (gd rfl) rfl (Nat.le_of_ble_eq_true rfl) ?_
            refine g_lload 138 (gd rfl) rfl rfl ?_
            refine g_lload 140 (gd rfl) rfl rfl ?_
            refine g_bipush 31 142 (gd rfl) rfl rfl ?_
            refine g_lushr 143 (gd rfl) rfl (fun z142 e142 => ?_)
            refine g_lxor 144 (gd rfl) rfl (fun z143 e143 => ?_)
            refine g_lstore 146 (gd rfl) rfl (Nat.le_of_ble_eq_true rfl) ?_
            refine g_iload 148 (gd rfl) rfl rfl ?_
            refine g_lload 150 (gd rfl) rfl rfl ?_
            refine g_bipush 33 152 (gd rfl) rfl rfl ?_
            refine g_lushr 153 (gd rfl) rfl (fun z152 e152 => ?_)
            refine g_ldc2_w 100 156 (gd rfl) rfl rfl ?_
            refine g_lrem 157 (gd rfl) rfl (by decide) (fun z156 e156 => ?_)
            have i156 := l_rem (-99) 99 e156 rfl
            refine g_iload_n 158 (gd rfl) rfl rfl ?_
            refine g_i2l 159 (gd rfl) rfl (fun z158 e158 => ?_)
            have i158 := l_i e158 h2
            refine g_lcmp 160 (gd rfl) rfl (fun z159 e159 => ?_)
            have i159 := lc_in e159
            refine g_if_ge 163 167 (gd rfl) rfl rfl (fun c160 => ?_) (fun c160 => ?_)
            · skip
              have i160 := z_ge 0 1 c160 i159 rfl
              have c160a := lc_ge e159 c160
              have i160a := lr_le2 0 99 c160a i158 i156 rfl
              refine g_iconst 0 168 (gd rfl) rfl rfl ?_
              refine g_iadd 169 (gd rfl) rfl (fun z168 e168 => ?_)
              have i168 := in_add 0 128 e168 j79_6 (in_c 0 rfl) rfl rfl
              refine g_istore 171 (gd rfl) rfl (Nat.le_of_ble_eq_true rfl) ?_
              refine g_iinc 174 (gd rfl) rfl rfl (Nat.le_of_ble_eq_true rfl) (fun z171 e171 => ?_)
              have i171 := in_add 1 128 e171 i83 (in_c 1 rfl) rfl rfl
              refine g_goto 79 (gd rfl) rfl ?_
              have n79 : (z168).toInt ≤ (z171).toInt := by (first | have a0 := oa7 j79_5 h2 h1 ro_109_20 i83 j79_6 i171 | ((first | have a0 := in_u j79_5 | (have a0 := j79_5; unfold In at a0)); (first | have a1 := in_u h2 | (have a1 := h2; unfold In at a1)); (first | have a2 := in_u h1 | (have a2 := h1; unfold In at a2)); (first | have a3 := in_u ro_109_20 | (have a3 := ro_109_20; unfold In at a3)); (first | have a4 := in_u i83 | (have a4 := i83; unfold In at a4)); (first | have a5 := in_u j79_6 | (have a5 := j79_6; unfold In at a5)); (first | have a6 := in_u i171 | (have a6 := i171; unfold In at a6)))); have a7 := t_add e171 i83 (in_c 1 rfl) rfl; (first | have a8 := oa2 ((in_c 1 rfl)) i168 | ((first | have a8 := in_u ((in_c 1 rfl)) | (have a8 := (in_c 1 rfl); unfold In at a8)); (first | have a9 := in_u i168 | (have a9 := i168; unfold In at a9)))); have a10 := t_add e168 j79_6 (in_c 0 rfl) rfl; (first | have a11 := in_u ((in_c 0 rfl)) | (have a11 := (in_c 0 rfl); unfold In at a11)); have a12 := tx_i2l e158; omega
              have n79a : (z171).toInt ≤ (y58_5).toInt := by (first | have a0 := oa7 j79_5 h2 h1 ro_109_20 i83 j79_6 i171 | ((first | have a0 := in_u j79_5 | (have a0 := j79_5; unfold In at a0)); (first | have a1 := in_u h2 | (have a1 := h2; unfold In at a1)); (first | have a2 := in_u h1 | (have a2 := h1; unfold In at a2)); (first | have a3 := in_u ro_109_20 | (have a3 := ro_109_20; unfold In at a3)); (first | have a4 := in_u i83 | (have a4 := i83; unfold In at a4)); (first | have a5 := in_u j79_6 | (have a5 := j79_6; unfold In at a5)); (first | have a6 := in_u i171 | (have a6 := i171; unfold In at a6)))); have a7 := t_add e171 i83 (in_c 1 rfl) rfl; (first | have a8 := oa2 ((in_c 1 rfl)) i168 | ((first | have a8 := in_u ((in_c 1 rfl)) | (have a8 := (in_c 1 rfl); unfold In at a8)); (first | have a9 := in_u i168 | (have a9 := i168; unfold In at a9)))); have a10 := t_add e168 j79_6 (in_c 0 rfl) rfl; (first | have a11 := in_u ((in_c 0 rfl)) | (have a11 := (in_c 0 rfl); unfold In at a11)); have a12 := tx_i2l e158; omega
              have n79b : dd x3 ((sG sc79 109 121 z92).2.2.2.1 109 121) + (z171).toInt.toNat = dd x3 (sc58.2.2.2.1 109 121) ∨ (z168).toInt < (z171).toInt := by first | (right; (first | have a0 := oa7 j79_5 h2 h1 ro_109_20 i83 j79_6 i171 | ((first | have a0 := in_u j79_5 | (have a0 := j79_5; unfold In at a0)); (first | have a1 := in_u h2 | (have a1 := h2; unfold In at a1)); (first | have a2 := in_u h1 | (have a2 := h1; unfold In at a2)); (first | have a3 := in_u ro_109_20 | (have a3 := ro_109_20; unfold In at a3)); (first | have a4 := in_u i83 | (have a4 := i83; unfold In at a4)); (first | have a5 := in_u j79_6 | (have a5 := j79_6; unfold In at a5)); (first | have a6 := in_u i171 | (have a6 := i171; unfold In at a6)))); have a7 := t_add e171 i83 (in_c 1 rfl) rfl; (first | have a8 := oa2 ((in_c 1 rfl)) i168 | ((first | have a8 := in_u ((in_c 1 rfl)) | (have a8 := (in_c 1 rfl); unfold In at a8)); (first | have a9 := in_u i168 | (have a9 := i168; unfold In at a9)))); have a10 := t_add e168 j79_6 (in_c 0 rfl) rfl; (first | have a11 := in_u ((in_c 0 rfl)) | (have a11 := (in_c 0 rfl); unfold In at a11)); have a12 := tx_i2l e158; omega) | (rcases g79_0 with hg | hg; (by_cases h1 : dd x3 (sc79.2.2.2.1 109 121) = 1; (exfalso; have hj := dd_1 (e := z92) (by rw [e92, e88]) h1; have hb : z105 = Int64.ofInt (-5995951349977708269) := (by rw [e105, e104, show z101 = z92 from (by rw [e101]; exact sG_get.symm)]; exact x0_ok hj); have hl : z156.toInt = 99 := (by rw [e156, e152, e143, e142, e133, e129, e128, e119, e115, e114, hb]; decide); have h9 := i158; unfold InL at h9; omega); (left; have hs := dd_s (e := z92) (by rw [e92, e88]) h1; rw [show (sG sc79 109 121 z92).2.2.2.1 109 121 = z92 from sG_get.symm]; (first | have a0 := oa7 j79_5 h2 h1 ro_109_20 i83 j79_6 i171 | ((first | have a0 := in_u j79_5 | (have a0 := j79_5; unfold In at a0)); (first | have a1 := in_u h2 | (have a1 := h2; unfold In at a1)); (first | have a2 := in_u h1 | (have a2 := h1; unfold In at a2)); (first | have a3 := in_u ro_109_20 | (have a3 := ro_109_20; unfold In at a3)); (first | have a4 := in_u i83 | (have a4 := i83; unfold In at a4)); (first | have a5 := in_u j79_6 | (have a5 := j79_6; unfold In at a5)); (first | have a6 := in_u i171 | (have a6 := i171; unfold In at a6)))); have a7 := t_add e171 i83 (in_c 1 rfl) rfl; (first | have a8 := oa2 ((in_c 1 rfl)) i168 | ((first | have a8 := in_u ((in_c 1 rfl)) | (have a8 := (in_c 1 rfl); unfold In at a8)); (first | have a9 := in_u i168 | (have a9 := i168; unfold In at a9)))); have a10 := t_add e168 j79_6 (in_c 0 rfl) rfl; (first | have a11 := in_u ((in_c 0 rfl)) | (have a11 := (in_c 0 rfl); unfold In at a11)); have a12 := tx_i2l e158; omega)); (right; (first | have a0 := oa7 j79_5 h2 h1 ro_109_20 i83 j79_6 i171 | ((first | have a0 := in_u j79_5 | (have a0 := j79_5; unfold In at a0)); (first | have a1 := in_u h2 | (have a1 := h2; unfold In at a1)); (first | have a2 := in_u h1 | (have a2 := h1; unfold In at a2)); (first | have a3 := in_u ro_109_20 | (have a3 := ro_109_20; unfold In at a3)); (first | have a4 := in_u i83 | (have a4 := i83; unfold In at a4)); (first | have a5 := in_u j79_6 | (have a5 := j79_6; unfold In at a5)); (first | have a6 := in_u i171 | (have a6 := i171; unfold In at a6)))); have a7 := t_add e171 i83 (in_c 1 rfl) rfl; (first | have a8 := oa2 ((in_c 1 rfl)) i168 | ((first | have a8 := in_u ((in_c 1 rfl)) | (have a8 := (in_c 1 rfl); unfold In at a8)); (first | have a9 := in_u i168 | (have a9 := i168; unfold In at a9)))); have a10 := t_add e168 j79_6 (in_c 0 rfl) rfl; (first | have a11 := in_u ((in_c 0 rfl)) | (have a11 := (in_c 0 rfl); unfold In at a11)); have a12 := tx_i2l e158; omega)) | (have hes : ((sG sc79 109 121 z92)).2.2.2.1 109 121 = sc58.2.2.2.1 109 121 := rfl; rw [hes]; exact Or.inl (dd_0 _ _))
              exact gg_w (by first | exact Nat.le_add_right _ _ | exact gw2 | exact gw3 | exact gwe rfl | exact gwf rfl | exact gwg rfl | exact gwh rfl | omega) (gg_f (gf_cons rfl (gf_cons rfl (gf_cons rfl (gf_cons rfl (gf_cons rfl (gf_cons rfl (gf_cons rfl gf_nil))))))) (ih79 (sG sc79 109 121 z92) z168 z171 hI93 (fr_sG rfl hFc79) (in_w 1 128 j79_5 rfl) (in_w 0 128 i168 rfl) (in_w 0 128 i171 rfl) n79 n79a n79b (m_up mm79 (t_add e171 i83 (in_c 1 rfl) rfl) (in_w 1 1 (in_c 1 rfl) rfl))))
            · skip
              have i160 := z_lt (-1) (-1) c160 i159 rfl
              have c160a := lc_lt e159 c160
              have i160a := lr_lt1 (-99) 89 c160a i156 i158 rfl
              refine g_iconst 1 164 (gd rfl) rfl rfl ?_
              refine g_goto 168 (gd rfl) rfl ?_
              refine g_iadd 169 (gd rfl) rfl (fun z168 e168 => ?_)
              have i168 := in_add 1 129 e168 j79_6 (in_c 1 rfl) rfl rfl
              refine g_istore 171 (gd rfl) rfl (Nat.le_of_ble_eq_true rfl) ?_
              refine g_iinc 174 (gd rfl) rfl rfl (Nat.le_of_ble_eq_true rfl) (fun z171 e171 => ?_)
              have i171 := in_add 1 128 e171 i83 (in_c 1 rfl) rfl rfl
              refine g_goto 79 (gd rfl) rfl ?_
              have i79 : In z168 0 128 := by exact ⟨by (first | have a0 := oa7 j79_5 h2 h1 ro_109_20 i83 j79_6 i171 | ((first | have a0 := in_u j79_5 | (have a0 := j79_5; unfold In at a0)); (first | have a1 := in_u h2 | (have a1 := h2; unfold In at a1)); (first | have a2 := in_u h1 | (have a2 := h1; unfold In at a2)); (first | have a3 := in_u ro_109_20 | (have a3 := ro_109_20; unfold In at a3)); (first | have a4 := in_u i83 | (have a4 := i83; unfold In at a4)); (first | have a5 := in_u j79_6 | (have a5 := j79_6; unfold In at a5)); (first | have a6 := in_u i171 | (have a6 := i171; unfold In at a6)))); have a7 := t_add e171 i83 (in_c 1 rfl) rfl; (first | have a8 := oa2 ((in_c 1 rfl)) i168 | ((first | have a8 := in_u ((in_c 1 rfl)) | (have a8 := (in_c 1 rfl); unfold In at a8)); (first | have a9 := in_u i168 | (have a9 := i168; unfold In at a9)))); have a10 := t_add e168 j79_6 (in_c 1 rfl) rfl; have a11 := tx_i2l e158; omega, by (first | have a0 := oa7 j79_5 h2 h1 ro_109_20 i83 j79_6 i171 | ((first | have a0 := in_u j79_5 | (have a0 := j79_5; unfold In at a0)); (first | have a1 := in_u h2 | (have a1 := h2; unfold In at a1)); (first | have a2 := in_u h1 | (have a2 := h1; unfold In at a2)); (first | have a3 := in_u ro_109_20 | (have a3 := ro_109_20; unfold In at a3)); (first | have a4 := in_u i83 | (have a4 := i83; unfold In at a4)); (first | have a5 := in_u j79_6 | (have a5 := j79_6; unfold In at a5)); (first | have a6 := in_u i171 | (have a6 := i171; unfold In at a6)))); have a7 := t_add e171 i83 (in_c 1 rfl) rfl; (first | have a8 := oa2 ((in_c 1 rfl)) i168 | ((first | have a8 := in_u ((in_c 1 rfl)) | (have a8 := (in_c 1 rfl); unfold In at a8)); (first | have a9 := in_u i168 | (have a9 := i168; unfold In at a9)))); have a10 := t_add e168 j79_6 (in_c 1 rfl) rfl; have a11 := tx_i2l e158; omega⟩
              have n79 : (z168).toInt ≤ (z171).toInt := by (first | have a0 := oa7 j79_5 h2 h1 ro_109_20 i83 j79_6 i171 | ((first | have a0 := in_u j79_5 | (have a0 := j79_5; unfold In at a0)); (first | have a1 := in_u h2 | (have a1 := h2; unfold In at a1)); (first | have a2 := in_u h1 | (have a2 := h1; unfold In at a2)); (first | have a3 := in_u ro_109_20 | (have a3 := ro_109_20; unfold In at a3)); (first | have a4 := in_u i83 | (have a4 := i83; unfold In at a4)); (first | have a5 := in_u j79_6 | (have a5 := j79_6; unfold In at a5)); (first | have a6 := in_u i171 | (have a6 := i171; unfold In at a6)))); have a7 := t_add e171 i83 (in_c 1 rfl) rfl; (first | have a8 := oa2 ((in_c 1 rfl)) i79 | ((first | have a8 := in_u ((in_c 1 rfl)) | (have a8 := (in_c 1 rfl); unfold In at a8)); (first | have a9 := in_u i79 | (have a9 := i79; unfold In at a9)))); have a10 := t_add e168 j79_6 (in_c 1 rfl) rfl; have a11 := tx_i2l e158; omega
              have n79a : (z171).toInt ≤ (y58_5).toInt := by (first | have a0 := oa7 j79_5 h2 h1 ro_109_20 i83 j79_6 i171 | ((first | have a0 := in_u j79_5 | (have a0 := j79_5; unfold In at a0)); (first | have a1 := in_u h2 | (have a1 := h2; unfold In at a1)); (first | have a2 := in_u h1 | (have a2 := h1; unfold In at a2)); (first | have a3 := in_u ro_109_20 | (have a3 := ro_109_20; unfold In at a3)); (first | have a4 := in_u i83 | (have a4 := i83; unfold In at a4)); (first | have a5 := in_u j79_6 | (have a5 := j79_6; unfold In at a5)); (first | have a6 := in_u i171 | (have a6 := i171; unfold In at a6)))); have a7 := t_add e171 i83 (in_c 1 rfl) rfl; (first | have a8 := oa2 ((in_c 1 rfl)) i79 | ((first | have a8 := in_u ((in_c 1 rfl)) | (have a8 := (in_c 1 rfl); unfold In at a8)); (first | have a9 := in_u i79 | (have a9 := i79; unfold In at a9)))); have a10 := t_add e168 j79_6 (in_c 1 rfl) rfl; have a11 := tx_i2l e158; omega
              have n79b : dd x3 ((sG sc79 109 121 z92).2.2.2.1 109 121) + (z171).toInt.toNat = dd x3 (sc58.2.2.2.1 109 121) ∨ (z168).toInt < (z171).toInt := by first | (right; (first | have a0 := oa7 j79_5 h2 h1 ro_109_20 i83 j79_6 i171 | ((first | have a0 := in_u j79_5 | (have a0 := j79_5; unfold In at a0)); (first | have a1 := in_u h2 | (have a1 := h2; unfold In at a1)); (first | have a2 := in_u h1 | (have a2 := h1; unfold In at a2)); (first | have a3 := in_u ro_109_20 | (have a3 := ro_109_20; unfold In at a3)); (first | have a4 := in_u i83 | (have a4 := i83; unfold In at a4)); (first | have a5 := in_u j79_6 | (have a5 := j79_6; unfold In at a5)); (first | have a6 := in_u i171 | (have a6 := i171; unfold In at a6)))); have a7 := t_add e171 i83 (in_c 1 rfl) rfl; (first | have a8 := oa2 ((in_c 1 rfl)) i79 | ((first | have a8 := in_u ((in_c 1 rfl)) | (have a8 := (in_c 1 rfl); unfold In at a8)); (first | have a9 := in_u i79 | (have a9 := i79; unfold In at a9)))); have a10 := t_add e168 j79_6 (in_c 1 rfl) rfl; have a11 := tx_i2l e158; omega) | (rcases g79_0 with hg | hg; (by_cases h1 : dd x3 (sc79.2.2.2.1 109 121) = 1; (exfalso; have hj := dd_1 (e := z92) (by rw [e92, e88]) h1; have hb : z105 = Int64.ofInt (-5995951349977708269) := (by rw [e105, e104, show z101 = z92 from (by rw [e101]; exact sG_get.symm)]; exact x0_ok hj); have hl : z156.toInt = 99 := (by rw [e156, e152, e143, e142, e133, e129, e128, e119, e115, e114, hb]; decide); have h9 := i158; unfold InL at h9; omega); (left; have hs := dd_s (e := z92) (by rw [e92, e88]) h1; rw [show (sG sc79 109 121 z92).2.2.2.1 109 121 = z92 from sG_get.symm]; (first | have a0 := oa7 j79_5 h2 h1 ro_109_20 i83 j79_6 i171 | ((first | have a0 := in_u j79_5 | (have a0 := j79_5; unfold In at a0)); (first | have a1 := in_u h2 | (have a1 := h2; unfold In at a1)); (first | have a2 := in_u h1 | (have a2 := h1; unfold In at a2)); (first | have a3 := in_u ro_109_20 | (have a3 := ro_109_20; unfold In at a3)); (first | have a4 := in_u i83 | (have a4 := i83; unfold In at a4)); (first | have a5 := in_u j79_6 | (have a5 := j79_6; unfold In at a5)); (first | have a6 := in_u i171 | (have a6 := i171; unfold In at a6)))); have a7 := t_add e171 i83 (in_c 1 rfl) rfl; (first | have a8 := oa2 ((in_c 1 rfl)) i79 | ((first | have a8 := in_u ((in_c 1 rfl)) | (have a8 := (in_c 1 rfl); unfold In at a8)); (first | have a9 := in_u i79 | (have a9 := i79; unfold In at a9)))); have a10 := t_add e168 j79_6 (in_c 1 rfl) rfl; have a11 := tx_i2l e158; omega)); (right; (first | have a0 := oa7 j79_5 h2 h1 ro_109_20 i83 j79_6 i171 | ((first | have a0 := in_u j79_5 | (have a0 := j79_5; unfold In at a0)); (first | have a1 := in_u h2 | (have a1 := h2; unfold In at a1)); (first | have a2 := in_u h1 | (have a2 := h1; unfold In at a2)); (first | have a3 := in_u ro_109_20 | (have a3 := ro_109_20; unfold In at a3)); (first | have a4 := in_u i83 | (have a4 := i83; unfold In at a4)); (first | have a5 := in_u j79_6 | (have a5 := j79_6; unfold In at a5)); (first | have a6 := in_u i171 | (have a6 := i171; unfold In at a6)))); have a7 := t_add e171 i83 (in_c 1 rfl) rfl; (first | have a8 := oa2 ((in_c 1 rfl)) i79 | ((first | have a8 := in_u ((in_c 1 rfl)) | (have a8 := (in_c 1 rfl); unfold In at a8)); (first | have a9 := in_u i79 | (have a9 := i79; unfold In at a9)))); have a10 := t_add e168 j79_6 (in_c 1 rfl) rfl; have a11 := tx_i2l e158; omega)) | (have hes : ((sG sc79 109 121 z92)).2.2.2.1 109 121 = sc58.2.2.2.1 109 121 := rfl; rw [hes]; exact Or.inl (dd_0 _ _))
              exact gg_w (by first | exact Nat.le_add_right _ _ | exact gw2 | exact gw3 | exact gwe rfl | exact gwf rfl | exact gwg rfl | exact gwh rfl | omega) (gg_f (gf_cons rfl (gf_cons rfl (gf_cons rfl (gf_cons rfl (gf_cons rfl (gf_cons rfl (gf_cons rfl gf_nil))))))) (ih79 (sG sc79 109 121 z92) z168 z171 hI93 (fr_sG rfl hFc79) (in_w 1 128 j79_5 rfl) i79 (in_w 0 128 i171 rfl) n79 n79a n79b (m_up mm79 (t_add e171 i83 (in_c 1 rfl) rfl) (in_w 1 1 (in_c 1 rfl) rfl))))
      refine g_iload 60 (gd rfl) rfl rfl ?_
      refine g_if_le 63 206 (gd rfl) rfl rfl (fun c60 => ?_) (fun c60 => ?_)
      · skip
        have i60 := z_le 0 0 c60 j58_5 rfl
        exact g_return (gd rfl) rfl (hP _ _ ⟨sc58, hIc58, hFc58, rfl, rfl⟩)
      · skip
        have i60 := z_gt 1 128 c60 j58_5 rfl
        refine g_aload_n 64 (gd rfl) rfl rfl ?_
        refine g_dup 65 (gd rfl) rfl rfl ?_
        refine g_getI 68 (gd rfl) rfl rfl rfl (fun z65 e65 => ?_)
        refine g_iconst 1 69 (gd rfl) rfl rfl ?_
        refine g_iadd 70 (gd rfl) rfl (fun z69 e69 => ?_)
        refine g_putI 73 (gd rfl) rfl rfl rfl rfl ?_
        have hI70 := inv_sF (q := 109) (j := 118) hIc58 rfl (in_w (-2147483648) 2147483647 (i_rng z69) rfl)
        refine g_iconst 0 74 (gd rfl) rfl rfl ?_
        refine g_istore 76 (gd rfl) rfl (Nat.le_of_ble_eq_true rfl) ?_
        refine g_iconst 0 77 (gd rfl) rfl rfl ?_
        refine g_istore 79 (gd rfl) rfl (Nat.le_of_ble_eq_true rfl) ?_
        have n79 : ((Int32.ofInt 0)).toInt ≤ ((Int32.ofInt 0)).toInt := by exact Int.le_refl _
        have n79a : ((Int32.ofInt 0)).toInt ≤ (y58_5).toInt := by (first | have a0 := oa6 h2 h1 ro_109_20 j58_6 i60 ((in_c 0 rfl)) | ((first | have a0 := in_u h2 | (have a0 := h2; unfold In at a0)); (first | have a1 := in_u h1 | (have a1 := h1; unfold In at a1)); (first | have a2 := in_u ro_109_20 | (have a2 := ro_109_20; unfold In at a2)); (first | have a3 := in_u j58_6 | (have a3 := j58_6; unfold In at a3)); (first | have a4 := in_u i60 | (have a4 := i60; unfold In at a4)); (first | have a5 := in_u ((in_c 0 rfl)) | (have a5 := (in_c 0 rfl); unfold In at a5)))); omega
        have n79b : dd x3 ((sF sc58 109 118 z69).2.2.2.1 109 121) + ((Int32.ofInt 0)).toInt.toNat = dd x3 (sc58.2.2.2.1 109 121) ∨ ((Int32.ofInt 0)).toInt < ((Int32.ofInt 0)).toInt := by first | (right; (first | have a0 := oa6 h2 h1 ro_109_20 j58_6 i60 ((in_c 0 rfl)) | ((first | have a0 := in_u h2 | (have a0 := h2; unfold In at a0)); (first | have a1 := in_u h1 | (have a1 := h1; unfold In at a1)); (first | have a2 := in_u ro_109_20 | (have a2 := ro_109_20; unfold In at a2)); (first | have a3 := in_u j58_6 | (have a3 := j58_6; unfold In at a3)); (first | have a4 := in_u i60 | (have a4 := i60; unfold In at a4)); (first | have a5 := in_u ((in_c 0 rfl)) | (have a5 := (in_c 0 rfl); unfold In at a5)))); omega) | (rcases g79_0 with hg | hg; (by_cases h1 : dd x3 (sc79.2.2.2.1 109 121) = 1; (exfalso; have hj := dd_1 (e := z92) (by rw [e92, e88]) h1; have hb : z105 = Int64.ofInt (-5995951349977708269) := (by rw [e105, e104, show z101 = z92 from (by rw [e101]; exact sG_get.symm)]; exact x0_ok hj); have hl : z156.toInt = 99 := (by rw [e156, e152, e143, e142, e133, e129, e128, e119, e115, e114, hb]; decide); have h9 := i158; unfold InL at h9; omega); (left; have hs := dd_s (e := z92) (by rw [e92, e88]) h1; rw [show (sG sc79 109 121 z92).2.2.2.1 109 121 = z92 from sG_get.symm]; (first | have a0 := oa6 h2 h1 ro_109_20 j58_6 i60 ((in_c 0 rfl)) | ((first | have a0 := in_u h2 | (have a0 := h2; unfold In at a0)); (first | have a1 := in_u h1 | (have a1 := h1; unfold In at a1)); (first | have a2 := in_u ro_109_20 | (have a2 := ro_109_20; unfold In at a2)); (first | have a3 := in_u j58_6 | (have a3 := j58_6; unfold In at a3)); (first | have a4 := in_u i60 | (have a4 := i60; unfold In at a4)); (first | have a5 := in_u ((in_c 0 rfl)) | (have a5 := (in_c 0 rfl); unfold In at a5)))); omega)); (right; (first | have a0 := oa6 h2 h1 ro_109_20 j58_6 i60 ((in_c 0 rfl)) | ((first | have a0 := in_u h2 | (have a0 := h2; unfold In at a0)); (first | have a1 := in_u h1 | (have a1 := h1; unfold In at a1)); (first | have a2 := in_u ro_109_20 | (have a2 := ro_109_20; unfold In at a2)); (first | have a3 := in_u j58_6 | (have a3 := j58_6; unfold In at a3)); (first | have a4 := in_u i60 | (have a4 := i60; unfold In at a4)); (first | have a5 := in_u ((in_c 0 rfl)) | (have a5 := (in_c 0 rfl); unfold In at a5)))); omega)) | (have hes : ((sF sc58 109 118 z69)).2.2.2.1 109 121 = sc58.2.2.2.1 109 121 := rfl; rw [hes]; exact Or.inl (dd_0 _ _))
        exact gg_w (by first | exact Nat.le_add_right _ _ | exact gw2 | exact gw3 | exact gwe rfl | exact gwf rfl | exact gwg rfl | exact gwh rfl | omega) (gg_f (gf_cons rfl (gf_cons rfl (gf_cons rfl (gf_cons rfl (gf_cons rfl (gf_cons rfl (gf_cons rfl gf_nil))))))) (ct79 129 (sF sc58 109 118 z69) (Int32.ofInt 0) (Int32.ofInt 0) hI70 (fr_sF rfl hFc58) (in_w 1 128 i60 rfl) (in_w 0 128 (in_c 0 rfl) rfl) (in_w 0 128 (in_c 0 rfl) rfl) n79 n79a n79b (m_in 129 (in_w 0 128 (in_c 0 rfl) rfl) rfl)))
  have ct6 : ∀ (k6 : Nat) (sc6 : GS) (y6_5 : Int32) (y6_6 : Int32), Inv sc6 → Fr fm_411 s sc6 → (In y6_5 0 128) → (In y6_6 0 32) → ((y6_5).toInt ≤ 4 * (y6_6).toInt) → 32 - (y6_6).toInt < (k6 : Int) → GG Z (d - 1) 411 post (gx xp) (569787827102199794798428162 + k6 * 7201) 6 (fun j => xlook j [(0, .ref (A 109)), (1, .int x1), (2, .int x2), (3, .long x3), (5, .int y6_5), (6, .int y6_6)]) [] (WW Z A sc6 ++ ex) 0 0 := by
    intro k6
    induction k6 with
    | zero => intro sc6 y6_5 y6_6 hIc6 hFc6 j6_5 j6_6 n6_0 mm6; exact m_no mm6 j6_6 rfl
    | succ k6 ih6 =>
      intro sc6 y6_5 y6_6 hIc6 hFc6 j6_5 j6_6 n6_0 mm6
      refine gg_w (M := 569787827102199794798428162 + k6 * 7201 + 7201) gws ?_
      have ct18 : ∀ (k18 : Nat) (sc18 : GS) (y18_5 : Int32) (y18_7 : Int32), Inv sc18 → Fr fm_411 s sc18 → (In y18_5 0 128) → (In y6_6 0 31) → (In y18_7 0 4) → ((y18_5).toInt ≤ 4 * (y6_6).toInt + (y18_7).toInt) → ((y18_7).toInt ≤ (x1).toInt) → 4 - (y18_7).toInt < (k18 : Int) → GG Z (d - 1) 411 post (gx xp) (569787827102199794798428162 + k6 * 7201 + 1 + k18 * 900) 18 (fun j => xlook j [(0, .ref (A 109)), (1, .int x1), (2, .int x2), (3, .long x3), (5, .int y18_5), (6, .int y6_6), (7, .int y18_7)]) [] (WW Z A sc18 ++ ex) 0 0 := by
        intro k18
        induction k18 with
        | zero => intro sc18 y18_5 y18_7 hIc18 hFc18 j18_5 j18_6 j18_7 n18_0 n18_1 mm18; exact m_no mm18 j18_7 rfl
        | succ k18 ih18 =>
          intro sc18 y18_5 y18_7 hIc18 hFc18 j18_5 j18_6 j18_7 n18_0 n18_1 mm18
          refine gg_w (M := 569787827102199794798428162 + k6 * 7201 + 1 + k18 * 900 + 900) gws ?_
          refine g_iload 20 (gd rfl) rfl rfl ?_
          refine g_iload_n 21 (gd rfl) rfl rfl ?_
          refine g_cmp_ge 24 52 (gd rfl) rfl rfl (fun c21 => ?_) (fun c21 => ?_)
          · skip
            have i21 := r_le2 1 4 c21 h1 j18_7 rfl
            refine g_iinc 55 (gd rfl) rfl rfl (Nat.le_of_ble_eq_true rfl) (fun z52 e52 => ?_)
            have i52 := in_add 1 32 e52 j18_6 (in_c 1 rfl) rfl rfl
            refine g_goto 6 (gd rfl) rfl ?_
            have n6 : (y18_5).toInt ≤ 4 * (z52).toInt := by (first | have a0 := oa7 j18_6 h2 h1 ro_109_20 i21 j18_5 i52 | ((first | have a0 := in_u j18_6 | (have a0 := j18_6; unfold In at a0)); (first | have a1 := in_u h2 | (have a1 := h2; unfold In at a1)); (first | have a2 := in_u h1 | (have a2 := h1; unfold In at a2)); (first | have a3 := in_u ro_109_20 | (have a3 := ro_109_20; unfold In at a3)); (first | have a4 := in_u i21 | (have a4 := i21; unfold In at a4)); (first | have a5 := in_u j18_5 | (have a5 := j18_5; unfold In at a5)); (first | have a6 := in_u i52 | (have a6 := i52; unfold In at a6)))); have a7 := t_add e52 j18_6 (in_c 1 rfl) rfl; (first | have a8 := in_u ((in_c 1 rfl)) | (have a8 := (in_c 1 rfl); unfold In at a8)); omega
            exact gg_w (by first | exact Nat.le_add_right _ _ | exact gw2 | exact gw3 | exact gwe rfl | exact gwf rfl | exact gwg rfl | exact gwh rfl | omega) (gg_f (gf_cons rfl (gf_cons rfl (gf_cons rfl (gf_cons rfl (gf_cons rfl (gf_cons rfl gf_nil)))))) (ih6 sc18 y18_5 z52 hIc18 hFc18 (in_w 0 128 j18_5 rfl) (in_w 0 32 i52 rfl) n6 (m_up mm6 (t_add e52 j18_6 (in_c 1 rfl) rfl) (in_w 1 1 (in_c 1 rfl) rfl))))
          · skip
            have i21 := r_lt1 0 3 c21 j18_7 h1 rfl
            refine g_iload 26 (gd rfl) rfl rfl ?_
            refine g_aload_n 27 (gd rfl) rfl rfl ?_
            refine g_iload 29 (gd rfl) rfl rfl ?_
            refine g_iload 31 (gd rfl) rfl rfl ?_
            refine g_iload_n 32 (gd rfl) rfl rfl ?_
            refine g_callv (X := _) (As := [.int y6_6, .int y18_7, .int x1]) (r := [.int y18_5]) (b := A 109) (q := 109) 35 (gd rfl) rfl rfl rfl rfl rfl (ww_o rfl) (Nat.le_of_ble_eq_true rfl) (Nat.zero_le _) (Nat.zero_le _) (k_410 (by first | exact dq1 hd rfl | exact dq0 hd rfl | exact dq2 hd rfl | exact dq3 hd rfl | omega) hIc18 (in_w 0 31 j18_6 rfl) (in_w 0 3 i21 rfl) (in_w 1 4 h1 rfl)) (fun e u h => h) (fun v u h => ?_)
            obtain ⟨z32, rfl, rfl, i32⟩ := h
            show GG _ _ _ _ _ _ _ _ [.int z32, .int y18_5] _ _ _
            refine g_if_eq 38 42 (gd rfl) rfl rfl (fun c35 => ?_) (fun c35 => ?_)
            · skip
              have i35 := z_eq 0 0 c35 i32 rfl
              refine g_iconst 0 43 (gd rfl) rfl rfl ?_
              refine g_iadd 44 (gd rfl) rfl (fun z43 e43 => ?_)
              have i43 := in_add 0 128 e43 j18_5 (in_c 0 rfl) rfl rfl
              refine g_istore 46 (gd rfl) rfl (Nat.le_of_ble_eq_true rfl) ?_
              refine g_iinc 49 (gd rfl) rfl rfl (Nat.le_of_ble_eq_true rfl) (fun z46 e46 => ?_)
              have i46 := in_add 1 4 e46 i21 (in_c 1 rfl) rfl rfl
              refine g_goto 18 (gd rfl) rfl ?_
              have n18 : (z43).toInt ≤ 4 * (y6_6).toInt + (z46).toInt := by (first | have a0 := oa7 j18_6 h2 h1 ro_109_20 i21 j18_5 i46 | ((first | have a0 := in_u j18_6 | (have a0 := j18_6; unfold In at a0)); (first | have a1 := in_u h2 | (have a1 := h2; unfold In at a1)); (first | have a2 := in_u h1 | (have a2 := h1; unfold In at a2)); (first | have a3 := in_u ro_109_20 | (have a3 := ro_109_20; unfold In at a3)); (first | have a4 := in_u i21 | (have a4 := i21; unfold In at a4)); (first | have a5 := in_u j18_5 | (have a5 := j18_5; unfold In at a5)); (first | have a6 := in_u i46 | (have a6 := i46; unfold In at a6)))); have a7 := t_add e46 i21 (in_c 1 rfl) rfl; (first | have a8 := oa2 ((in_c 1 rfl)) i43 | ((first | have a8 := in_u ((in_c 1 rfl)) | (have a8 := (in_c 1 rfl); unfold In at a8)); (first | have a9 := in_u i43 | (have a9 := i43; unfold In at a9)))); have a10 := t_add e43 j18_5 (in_c 0 rfl) rfl; (first | have a11 := in_u ((in_c 0 rfl)) | (have a11 := (in_c 0 rfl); unfold In at a11)); omega
              have n18a : (z46).toInt ≤ (x1).toInt := by (first | have a0 := oa7 j18_6 h2 h1 ro_109_20 i21 j18_5 i46 | ((first | have a0 := in_u j18_6 | (have a0 := j18_6; unfold In at a0)); (first | have a1 := in_u h2 | (have a1 := h2; unfold In at a1)); (first | have a2 := in_u h1 | (have a2 := h1; unfold In at a2)); (first | have a3 := in_u ro_109_20 | (have a3 := ro_109_20; unfold In at a3)); (first | have a4 := in_u i21 | (have a4 := i21; unfold In at a4)); (first | have a5 := in_u j18_5 | (have a5 := j18_5; unfold In at a5)); (first | have a6 := in_u i46 | (have a6 := i46; unfold In at a6)))); have a7 := t_add e46 i21 (in_c 1 rfl) rfl; (first | have a8 := oa2 ((in_c 1 rfl)) i43 | ((first | have a8 := in_u ((in_c 1 rfl)) | (have a8 := (in_c 1 rfl); unfold In at a8)); (first | have a9 := in_u i43 | (have a9 := i43; unfold In at a9)))); have a10 := t_add e43 j18_5 (in_c 0 rfl) rfl; (first | have a11 := in_u ((in_c 0 rfl)) | (have a11 := (in_c 0 rfl); unfold In at a11)); omega
              exact gg_w (by first | exact Nat.le_add_right _ _ | exact gw2 | exact gw3 | exact gwe rfl | exact gwf rfl | exact gwg rfl | exact gwh rfl | omega) (gg_f (gf_cons rfl (gf_cons rfl (gf_cons rfl (gf_cons rfl (gf_cons rfl (gf_cons rfl (gf_cons rfl gf_nil))))))) (ih18 sc18 z43 z46 hIc18 hFc18 (in_w 0 128 i43 rfl) (in_w 0 31 j18_6 rfl) (in_w 0 4 i46 rfl) n18 n18a (m_up mm18 (t_add e46 i21 (in_c 1 rfl) rfl) (in_w 1 1 (in_c 1 rfl) rfl))))
            · skip
              have i35 := z_ne 1 1 c35 i32 rfl
              refine g_iconst 1 39 (gd rfl) rfl rfl ?_
              refine g_goto 43 (gd rfl) rfl ?_
              refine g_iadd 44 (gd rfl) rfl (fun z43 e43 => ?_)
              have i43 := in_add 1 129 e43 j18_5 (in_c 1 rfl) rfl rfl
              refine g_istore 46 (gd rfl) rfl (Nat.le_of_ble_eq_true rfl) ?_
              refine g_iinc 49 (gd rfl) rfl rfl (Nat.le_of_ble_eq_true rfl) (fun z46 e46 => ?_)
              have i46 := in_add 1 4 e46 i21 (in_c 1 rfl) rfl rfl
              refine g_goto 18 (gd rfl) rfl ?_
              have i18 : In z43 0 128 := by exact ⟨by (first | have a0 := oa7 j18_6 h2 h1 ro_109_20 i21 j18_5 i46 | ((first | have a0 := in_u j18_6 | (have a0 := j18_6; unfold In at a0)); (first | have a1 := in_u h2 | (have a1 := h2; unfold In at a1)); (first | have a2 := in_u h1 | (have a2 := h1; unfold In at a2)); (first | have a3 := in_u ro_109_20 | (have a3 := ro_109_20; unfold In at a3)); (first | have a4 := in_u i21 | (have a4 := i21; unfold In at a4)); (first | have a5 := in_u j18_5 | (have a5 := j18_5; unfold In at a5)); (first | have a6 := in_u i46 | (have a6 := i46; unfold In at a6)))); have a7 := t_add e46 i21 (in_c 1 rfl) rfl; (first | have a8 := oa2 ((in_c 1 rfl)) i43 | ((first | have a8 := in_u ((in_c 1 rfl)) | (have a8 := (in_c 1 rfl); unfold In at a8)); (first | have a9 := in_u i43 | (have a9 := i43; unfold In at a9)))); have a10 := t_add e43 j18_5 (in_c 1 rfl) rfl; omega, by (first | have a0 := oa7 j18_6 h2 h1 ro_109_20 i21 j18_5 i46 | ((first | have a0 := in_u j18_6 | (have a0 := j18_6; unfold In at a0)); (first | have a1 := in_u h2 | (have a1 := h2; unfold In at a1)); (first | have a2 := in_u h1 | (have a2 := h1; unfold In at a2)); (first | have a3 := in_u ro_109_20 | (have a3 := ro_109_20; unfold In at a3)); (first | have a4 := in_u i21 | (have a4 := i21; unfold In at a4)); (first | have a5 := in_u j18_5 | (have a5 := j18_5; unfold In at a5)); (first | have a6 := in_u i46 | (have a6 := i46; unfold In at a6)))); have a7 := t_add e46 i21 (in_c 1 rfl) rfl; (first | have a8 := oa2 ((in_c 1 rfl)) i43 | ((first | have a8 := in_u ((in_c 1 rfl)) | (have a8 := (in_c 1 rfl); unfold In at a8)); (first | have a9 := in_u i43 | (have a9 := i43; unfold In at a9)))); have a10 := t_add e43 j18_5 (in_c 1 rfl) rfl; omega⟩
              have n18 : (z43).toInt ≤ 4 * (y6_6).toInt + (z46).toInt := by (first | have a0 := oa7 j18_6 h2 h1 ro_109_20 i21 j18_5 i46 | ((first | have a0 := in_u j18_6 | (have a0 := j18_6; unfold In at a0)); (first | have a1 := in_u h2 | (have a1 := h2; unfold In at a1)); (first | have a2 := in_u h1 | (have a2 := h1; unfold In at a2)); (first | have a3 := in_u ro_109_20 | (have a3 := ro_109_20; unfold In at a3)); (first | have a4 := in_u i21 | (have a4 := i21; unfold In at a4)); (first | have a5 := in_u j18_5 | (have a5 := j18_5; unfold In at a5)); (first | have a6 := in_u i46 | (have a6 := i46; unfold In at a6)))); have a7 := t_add e46 i21 (in_c 1 rfl) rfl; (first | have a8 := oa2 ((in_c 1 rfl)) i18 | ((first | have a8 := in_u ((in_c 1 rfl)) | (have a8 := (in_c 1 rfl); unfold In at a8)); (first | have a9 := in_u i18 | (have a9 := i18; unfold In at a9)))); have a10 := t_add e43 j18_5 (in_c 1 rfl) rfl; omega
              have n18a : (z46).toInt ≤ (x1).toInt := by (first | have a0 := oa7 j18_6 h2 h1 ro_109_20 i21 j18_5 i46 | ((first | have a0 := in_u j18_6 | (have a0 := j18_6; unfold In at a0)); (first | have a1 := in_u h2 | (have a1 := h2; unfold In at a1)); (first | have a2 := in_u h1 | (have a2 := h1; unfold In at a2)); (first | have a3 := in_u ro_109_20 | (have a3 := ro_109_20; unfold In at a3)); (first | have a4 := in_u i21 | (have a4 := i21; unfold In at a4)); (first | have a5 := in_u j18_5 | (have a5 := j18_5; unfold In at a5)); (first | have a6 := in_u i46 | (have a6 := i46; unfold In at a6)))); have a7 := t_add e46 i21 (in_c 1 rfl) rfl; (first | have a8 := oa2 ((in_c 1 rfl)) i18 | ((first | have a8 := in_u ((in_c 1 rfl)) | (have a8 := (in_c 1 rfl); unfold In at a8)); (first | have a9 := in_u i18 | (have a9 := i18; unfold In at a9)))); have a10 := t_add e43 j18_5 (in_c 1 rfl) rfl; omega
              exact gg_w (by first | exact Nat.le_add_right _ _ | exact gw2 | exact gw3 | exact gwe rfl | exact gwf rfl | exact gwg rfl | exact gwh rfl | omega) (gg_f (gf_cons rfl (gf_cons rfl (gf_cons rfl (gf_cons rfl (gf_cons rfl (gf_cons rfl (gf_cons rfl gf_nil))))))) (ih18 sc18 z43 z46 hIc18 hFc18 i18 (in_w 0 31 j18_6 rfl) (in_w 0 4 i46 rfl) n18 n18a (m_up mm18 (t_add e46 i21 (in_c 1 rfl) rfl) (in_w 1 1 (in_c 1 rfl) rfl))))
      refine g_iload 8 (gd rfl) rfl rfl ?_
      refine g_aload_n 9 (gd rfl) rfl rfl ?_
      refine g_getI 12 (gd rfl) rfl rfl rfl (fun z9 e9 => ?_)
      have q9 : u_109_20 = z9 := (fr_F e_109_20 hFc6 rfl).trans e9.symm
      subst q9
      refine g_cmp_ge 15 58 (gd rfl) rfl rfl (fun c12 => ?_) (fun c12 => ?_)
      · skip
        have m58 : (y6_5).toInt.toNat * 36893488147419103232 + dd x3 (sc6.2.2.2.1 109 121) < 4796153459164483420160 := by have h := dd_le x3 (sc6.2.2.2.1 109 121); (first | have a0 := oa5 h2 h1 ro_109_20 j6_6 j6_5 | ((first | have a0 := in_u h2 | (have a0 := h2; unfold In at a0)); (first | have a1 := in_u h1 | (have a1 := h1; unfold In at a1)); (first | have a2 := in_u ro_109_20 | (have a2 := ro_109_20; unfold In at a2)); (first | have a3 := in_u j6_6 | (have a3 := j6_6; unfold In at a3)); (first | have a4 := in_u j6_5 | (have a4 := j6_5; unfold In at a4)))); omega
        exact gg_w (by first | exact Nat.le_add_right _ _ | exact gw2 | exact gw3 | exact gwe rfl | exact gwf rfl | exact gwg rfl | exact gwh rfl | omega) (gg_f (gf_cons rfl (gf_cons rfl (gf_cons rfl (gf_cons rfl (gf_cons rfl (gf_cons rfl gf_nil)))))) (ct58 (4796153459164483420160) sc6 y6_5 y6_6 hIc6 hFc6 (in_w 0 128 j6_5 rfl) (in_w 0 128 j6_6 rfl) m58))
      · skip
        have i12 := r_lt1 0 31 c12 j6_6 ro_109_20 rfl
        have i12a := r_lt2 1 32 c12 j6_6 ro_109_20 rfl
        refine g_iconst 0 16 (gd rfl) rfl rfl ?_
        refine g_istore 18 (gd rfl) rfl (Nat.le_of_ble_eq_true rfl) ?_
        have n18 : (y6_5).toInt ≤ 4 * (y6_6).toInt + ((Int32.ofInt 0)).toInt := by (first | have a0 := oa6 h2 h1 i12a i12 j6_5 ((in_c 0 rfl)) | ((first | have a0 := in_u h2 | (have a0 := h2; unfold In at a0)); (first | have a1 := in_u h1 | (have a1 := h1; unfold In at a1)); (first | have a2 := in_u i12a | (have a2 := i12a; unfold In at a2)); (first | have a3 := in_u i12 | (have a3 := i12; unfold In at a3)); (first | have a4 := in_u j6_5 | (have a4 := j6_5; unfold In at a4)); (first | have a5 := in_u ((in_c 0 rfl)) | (have a5 := (in_c 0 rfl); unfold In at a5)))); omega
        have n18a : ((Int32.ofInt 0)).toInt ≤ (x1).toInt := by (first | have a0 := oa6 h2 h1 i12a i12 j6_5 ((in_c 0 rfl)) | ((first | have a0 := in_u h2 | (have a0 := h2; unfold In at a0)); (first | have a1 := in_u h1 | (have a1 := h1; unfold In at a1)); (first | have a2 := in_u i12a | (have a2 := i12a; unfold In at a2)); (first | have a3 := in_u i12 | (have a3 := i12; unfold In at a3)); (first | have a4 := in_u j6_5 | (have a4 := j6_5; unfold In at a4)); (first | have a5 := in_u ((in_c 0 rfl)) | (have a5 := (in_c 0 rfl); unfold In at a5)))); omega
        exact gg_w (by first | exact Nat.le_add_right _ _ | exact gw2 | exact gw3 | exact gwe rfl | exact gwf rfl | exact gwg rfl | exact gwh rfl | omega) (gg_f (gf_cons rfl (gf_cons rfl (gf_cons rfl (gf_cons rfl (gf_cons rfl (gf_cons rfl (gf_cons rfl gf_nil))))))) (ct18 5 sc6 y6_5 (Int32.ofInt 0) hIc6 hFc6 (in_w 0 128 j6_5 rfl) (in_w 0 31 i12 rfl) (in_w 0 4 (in_c 0 rfl) rfl) n18 n18a (m_in 5 (in_w 0 4 (in_c 0 rfl) rfl) rfl)))
  refine g_enter2 (k := 411) (N := 569787827102199794798666695) (by first | exact dq1 hd rfl | exact dq0 hd rfl | exact dq2 hd rfl | exact dq3 hd rfl | omega) rfl (Nat.le_of_ble_eq_true rfl) ?_
  refine g_iconst 0 1 (gd rfl) rfl rfl ?_
  refine g_istore 3 (gd rfl) rfl (Nat.le_of_ble_eq_true rfl) ?_
  refine g_iconst 0 4 (gd rfl) rfl rfl ?_
  refine g_istore 6 (gd rfl) rfl (Nat.le_of_ble_eq_true rfl) ?_
  have n6 : ((Int32.ofInt 0)).toInt ≤ 4 * ((Int32.ofInt 0)).toInt := by (first | have a0 := oa4 ro_109_20 h2 h1 ((in_c 0 rfl)) | ((first | have a0 := in_u ro_109_20 | (have a0 := ro_109_20; unfold In at a0)); (first | have a1 := in_u h2 | (have a1 := h2; unfold In at a1)); (first | have a2 := in_u h1 | (have a2 := h1; unfold In at a2)); (first | have a3 := in_u ((in_c 0 rfl)) | (have a3 := (in_c 0 rfl); unfold In at a3)))); omega
  exact gg_w (by first | exact Nat.le_of_ble_eq_true rfl | omega) (gg_f (gf_cons rfl (gf_cons rfl (gf_cons rfl (gf_cons rfl (gf_cons rfl (gf_cons rfl gf_nil)))))) (ct6 33 s (Int32.ofInt 0) (Int32.ofInt 0) hI fr_rf (in_w 0 128 (in_c 0 rfl) rfl) (in_w 0 32 (in_c 0 rfl) rfl) n6 (m_in 33 (in_w 0 32 (in_c 0 rfl) rfl) rfl)))

def fm_412 : FM := ([], [], [(109, 0)], [])
/-- GraphHouseModel.state -/
theorem k_412 {Z : AmZ} {A : Nat → Nat} {s : GS} {ex : va_W} {d : Nat} {X : AmX} {x1 : Int32} (hd : 4 ≤ d) (hI : Inv s)  : GC Z d 412 [.ref (A 109), .int x1] (WW Z A s ++ ex) 0 0 (fun v u => ∃ t : GS, Inv t ∧ Fr fm_412 s t ∧ ∃ z : Int64, v = some (.long z) ∧ u = WW Z A t ++ ex) X := by
  intro post xp hP hX
  obtain ⟨u_109_113, e_109_113⟩ : ∃ w, w = s.2.2.1 109 113 := ⟨_, rfl⟩
  have ro_109_113 := inv_F hI 0 32 rfl e_109_113
  refine g_enter2 (k := 412) (N := 900) (by first | exact dq1 hd rfl | exact dq0 hd rfl | exact dq2 hd rfl | exact dq3 hd rfl | omega) rfl (Nat.le_of_ble_eq_true rfl) ?_
  refine g_aload_n 1 (gd rfl) rfl rfl ?_
  refine g_iload_n 2 (gd rfl) rfl rfl ?_
  refine g_if_lt 5 17 (gd rfl) rfl rfl (fun c2 => ?_) (fun c2 => ?_)
  · skip
    have i2 := z_lt (-2147483648) (-1) c2 (i_rng x1) rfl
    refine g_iconst 0 18 (gd rfl) rfl rfl ?_
    refine g_callv (X := _) (As := [.int (Int32.ofInt 0)]) (r := []) (b := A 109) (q := 109) 21 (gd rfl) rfl rfl rfl rfl rfl (ww_o rfl) (Nat.le_of_ble_eq_true rfl) (mc := 0) (ms := 0) (Nat.zero_le _) (Nat.zero_le _) (P := fun v u => _) ?_ (fun e u h => h) (fun v u h => h)
    intro po18 xx18 hp18 hx18
    refine g_enter2 (k := 271) (N := 300) (by first | exact dq1 hd rfl | exact dq0 hd rfl | exact dq2 hd rfl | exact dq3 hd rfl | omega) rfl (Nat.le_of_ble_eq_true rfl) ?_
    refine g_aload_n 1 (gd rfl) rfl rfl ?_
    refine g_iload_n 2 (gd rfl) rfl rfl ?_
    refine g_iconst 1 3 (gd rfl) rfl rfl ?_
    refine g_callv (X := _) (As := [.int (Int32.ofInt 0), .int (Int32.ofInt 1)]) (r := []) (b := A 109) (q := 109) 6 (gd rfl) rfl rfl rfl rfl rfl (ww_o rfl) (Nat.le_of_ble_eq_true rfl) (mc := 0) (ms := 0) (Nat.zero_le _) (Nat.zero_le _) (P := fun v u => _) ?_ (fun e u h => h) (fun v u h => h)
    intro po18x3 xx18x3 hp18x3 hx18x3
    refine g_enter2 (k := 270) (N := 300) (by first | exact dq1 hd rfl | exact dq0 hd rfl | exact dq2 hd rfl | exact dq3 hd rfl | omega) rfl (Nat.le_of_ble_eq_true rfl) ?_
    refine g_aload_n 1 (gd rfl) rfl rfl ?_
    refine g_iload_n 2 (gd rfl) rfl rfl ?_
    refine g_if_ne 5 9 (gd rfl) rfl rfl (fun c18x3x2 => ?_) (fun c18x3x2 => ?_)
    · skip
      exact zn_ne c18x3x2 (in_c 0 rfl) rfl
    · skip
      refine g_iconst 1 6 (gd rfl) rfl rfl ?_
      refine g_goto 18 (gd rfl) rfl ?_
      refine g_putI 21 (gd rfl) rfl rfl rfl rfl ?_
      have hI18x3x18 := inv_sF (q := 109) (j := 0) hI rfl (in_w 0 2 (in_c 1 rfl) rfl)
      refine g_aload_n 22 (gd rfl) rfl rfl ?_
      refine g_getI 25 (gd rfl) rfl rfl rfl (fun z18x3x22 e18x3x22 => ?_)
      have q18x3x22 : (Int32.ofInt 1) = z18x3x22 := (sF_get).trans e18x3x22.symm
      subst q18x3x22
      refine g_if_le 28 32 (gd rfl) rfl rfl (fun c18x3x25 => ?_) (fun c18x3x25 => ?_)
      · skip
        exact zn_le c18x3x25 (in_c 1 rfl) rfl
      · skip
        refine g_iconst 1 29 (gd rfl) rfl rfl ?_
        refine g_goto 33 (gd rfl) rfl ?_
        refine g_ireturn (gd rfl) rfl (nb01 (in_w 0 1 (in_c 1 rfl) rfl)) (hp18x3 _ _ ?_)
        show GG _ _ _ _ _ _ _ _ [.int (Int32.ofInt 1)] _ _ _
        refine g_ireturn (gd rfl) rfl (nb01 (in_w 0 1 (in_c 1 rfl) rfl)) (hp18 _ _ ?_)
        show GG _ _ _ _ _ _ _ _ [.int (Int32.ofInt 1)] _ _ _
        refine g_if_eq 24 28 (gd rfl) rfl rfl (fun c21 => ?_) (fun c21 => ?_)
        · skip
          exact zn_eq c21 (in_c 1 rfl) rfl
        · skip
          refine g_lconst 0 25 (gd rfl) rfl rfl ?_
          refine g_goto 34 (gd rfl) rfl ?_
          exact g_lreturn (gd rfl) rfl (hP _ _ ⟨(sF s 109 0 (Int32.ofInt 1)), hI18x3x18, (fr_sF rfl fr_rf), (Int64.ofInt 0), rfl, rfl⟩)
  · skip
    have i2 := z_ge 0 2147483647 c2 (i_rng x1) rfl
    refine g_iload_n 6 (gd rfl) rfl rfl ?_
    refine g_aload_n 7 (gd rfl) rfl rfl ?_
    refine g_getI 10 (gd rfl) rfl rfl rfl (fun z7 e7 => ?_)
    have q7 : u_109_113 = z7 := (e_109_113).trans e7.symm
    subst q7
    refine g_cmp_ge 13 17 (gd rfl) rfl rfl (fun c10 => ?_) (fun c10 => ?_)
    · skip
      refine g_iconst 0 18 (gd rfl) rfl rfl ?_
      refine g_callv (X := _) (As := [.int (Int32.ofInt 0)]) (r := []) (b := A 109) (q := 109) 21 (gd rfl) rfl rfl rfl rfl rfl (ww_o rfl) (Nat.le_of_ble_eq_true rfl) (mc := 0) (ms := 0) (Nat.zero_le _) (Nat.zero_le _) (P := fun v u => _) ?_ (fun e u h => h) (fun v u h => h)
      intro po18 xx18 hp18 hx18
      refine g_enter2 (k := 271) (N := 300) (by first | exact dq1 hd rfl | exact dq0 hd rfl | exact dq2 hd rfl | exact dq3 hd rfl | omega) rfl (Nat.le_of_ble_eq_true rfl) ?_
      refine g_aload_n 1 (gd rfl) rfl rfl ?_
      refine g_iload_n 2 (gd rfl) rfl rfl ?_
      refine g_iconst 1 3 (gd rfl) rfl rfl ?_
      refine g_callv (X := _) (As := [.int (Int32.ofInt 0), .int (Int32.ofInt 1)]) (r := []) (b := A 109) (q := 109) 6 (gd rfl) rfl rfl rfl rfl rfl (ww_o rfl) (Nat.le_of_ble_eq_true rfl) (mc := 0) (ms := 0) (Nat.zero_le _) (Nat.zero_le _) (P := fun v u => _) ?_ (fun e u h => h) (fun v u h => h)
      intro po18x3 xx18x3 hp18x3 hx18x3
      refine g_enter2 (k := 270) (N := 300) (by first | exact dq1 hd rfl | exact dq0 hd rfl | exact dq2 hd rfl | exact dq3 hd rfl | omega) rfl (Nat.le_of_ble_eq_true rfl) ?_
      refine g_aload_n 1 (gd rfl) rfl rfl ?_
      refine g_iload_n 2 (gd rfl) rfl rfl ?_
      refine g_if_ne 5 9 (gd rfl) rfl rfl (fun c18x3x2 => ?_) (fun c18x3x2 => ?_)
      · skip
        exact zn_ne c18x3x2 (in_c 0 rfl) rfl
      · skip
        refine g_iconst 1 6 (gd rfl) rfl rfl ?_
        refine g_goto 18 (gd rfl) rfl ?_
        refine g_putI 21 (gd rfl) rfl rfl rfl rfl ?_
        have hI18x3x18 := inv_sF (q := 109) (j := 0) hI rfl (in_w 0 2 (in_c 1 rfl) rfl)
        refine g_aload_n 22 (gd rfl) rfl rfl ?_
        refine g_getI 25 (gd rfl) rfl rfl rfl (fun z18x3x22 e18x3x22 => ?_)
        have q18x3x22 : (Int32.ofInt 1) = z18x3x22 := (sF_get).trans e18x3x22.symm
        subst q18x3x22
        refine g_if_le 28 32 (gd rfl) rfl rfl (fun c18x3x25 => ?_) (fun c18x3x25 => ?_)
        · skip
          exact zn_le c18x3x25 (in_c 1 rfl) rfl
        · skip
          refine g_iconst 1 29 (gd rfl) rfl rfl ?_
          refine g_goto 33 (gd rfl) rfl ?_
          refine g_ireturn (gd rfl) rfl (nb01 (in_w 0 1 (in_c 1 rfl) rfl)) (hp18x3 _ _ ?_)
          show GG _ _ _ _ _ _ _ _ [.int (Int32.ofInt 1)] _ _ _
          refine g_ireturn (gd rfl) rfl (nb01 (in_w 0 1 (in_c 1 rfl) rfl)) (hp18 _ _ ?_)
          show GG _ _ _ _ _ _ _ _ [.int (Int32.ofInt 1)] _ _ _
          refine g_if_eq 24 28 (gd rfl) rfl rfl (fun c21 => ?_) (fun c21 => ?_)
          · skip
            exact zn_eq c21 (in_c 1 rfl) rfl
          · skip
            refine g_lconst 0 25 (gd rfl) rfl rfl ?_
            refine g_goto 34 (gd rfl) rfl ?_
            exact g_lreturn (gd rfl) rfl (hP _ _ ⟨(sF s 109 0 (Int32.ofInt 1)), hI18x3x18, (fr_sF rfl fr_rf), (Int64.ofInt 0), rfl, rfl⟩)
    · skip
      have i10 := r_lt1 0 31 c10 i2 ro_109_113 rfl
      have i10a := r_lt2 1 32 c10 i2 ro_109_113 rfl
      refine g_iconst 1 14 (gd rfl) rfl rfl ?_
      refine g_goto 18 (gd rfl) rfl ?_
      refine g_callv (X := _) (As := [.int (Int32.ofInt 1)]) (r := []) (b := A 109) (q := 109) 21 (gd rfl) rfl rfl rfl rfl rfl (ww_o rfl) (Nat.le_of_ble_eq_true rfl) (mc := 0) (ms := 0) (Nat.zero_le _) (Nat.zero_le _) (P := fun v u => _) ?_ (fun e u h => h) (fun v u h => h)
      intro po18 xx18 hp18 hx18
      refine g_enter2 (k := 271) (N := 300) (by first | exact dq1 hd rfl | exact dq0 hd rfl | exact dq2 hd rfl | exact dq3 hd rfl | omega) rfl (Nat.le_of_ble_eq_true rfl) ?_
      refine g_aload_n 1 (gd rfl) rfl rfl ?_
      refine g_iload_n 2 (gd rfl) rfl rfl ?_
      refine g_iconst 1 3 (gd rfl) rfl rfl ?_
      refine g_callv (X := _) (As := [.int (Int32.ofInt 1), .int (Int32.ofInt 1)]) (r := []) (b := A 109) (q := 109) 6 (gd rfl) rfl rfl rfl rfl rfl (ww_o rfl) (Nat.le_of_ble_eq_true rfl) (mc := 0) (ms := 0) (Nat.zero_le _) (Nat.zero_le _) (P := fun v u => _) ?_ (fun e u h => h) (fun v u h => h)
      intro po18x3 xx18x3 hp18x3 hx18x3
      refine g_enter2 (k := 270) (N := 300) (by first | exact dq1 hd rfl | exact dq0 hd rfl | exact dq2 hd rfl | exact dq3 hd rfl | omega) rfl (Nat.le_of_ble_eq_true rfl) ?_
      refine g_aload_n 1 (gd rfl) rfl rfl ?_
      refine g_iload_n 2 (gd rfl) rfl rfl ?_
      refine g_if_ne 5 9 (gd rfl) rfl rfl (fun c18x3x2 => ?_) (fun c18x3x2 => ?_)
      · skip
        refine g_iload_n 10 (gd rfl) rfl rfl ?_
        refine g_if_ne 13 17 (gd rfl) rfl rfl (fun c18x3x10 => ?_) (fun c18x3x10 => ?_)
        · skip
          refine g_iconst 0 18 (gd rfl) rfl rfl ?_
          refine g_putI 21 (gd rfl) rfl rfl rfl rfl ?_
          have hI18x3x18 := inv_sF (q := 109) (j := 0) hI rfl (in_w 0 2 (in_c 0 rfl) rfl)
          refine g_aload_n 22 (gd rfl) rfl rfl ?_
          refine g_getI 25 (gd rfl) rfl rfl rfl (fun z18x3x22 e18x3x22 => ?_)
          have q18x3x22 : (Int32.ofInt 0) = z18x3x22 := (sF_get).trans e18x3x22.symm
          subst q18x3x22
          refine g_if_le 28 32 (gd rfl) rfl rfl (fun c18x3x25 => ?_) (fun c18x3x25 => ?_)
          · skip
            refine g_iconst 0 33 (gd rfl) rfl rfl ?_
            refine g_ireturn (gd rfl) rfl (nb01 (in_w 0 1 (in_c 0 rfl) rfl)) (hp18x3 _ _ ?_)
            show GG _ _ _ _ _ _ _ _ [.int (Int32.ofInt 0)] _ _ _
            refine g_ireturn (gd rfl) rfl (nb01 (in_w 0 1 (in_c 0 rfl) rfl)) (hp18 _ _ ?_)
            show GG _ _ _ _ _ _ _ _ [.int (Int32.ofInt 0)] _ _ _
            refine g_if_eq 24 28 (gd rfl) rfl rfl (fun c21 => ?_) (fun c21 => ?_)
            · skip
              refine g_aload_n 29 (gd rfl) rfl rfl ?_
              refine g_getA (q2 := 191) 32 (gd rfl) rfl rfl rfl rfl ?_
              refine g_iload_n 33 (gd rfl) rfl rfl ?_
              refine g_laload 34 (gd rfl) rfl (n := 32) rfl (in_ix i10 rfl) (fun z33 e33 => ?_)
              exact g_lreturn (gd rfl) rfl (hP _ _ ⟨(sF s 109 0 (Int32.ofInt 0)), hI18x3x18, (fr_sF rfl fr_rf), z33, rfl, rfl⟩)
            · skip
              exact zn_ne c21 (in_c 0 rfl) rfl
          · skip
            exact zn_gt c18x3x25 (in_c 0 rfl) rfl
        · skip
          exact zn_eq c18x3x10 (in_c 1 rfl) rfl
      · skip
        exact zn_eq c18x3x2 (in_c 1 rfl) rfl

def fm_413 : FM := ([], [], [(109, 0)], [])
/-- GraphHouseModel.letters -/
theorem k_413 {Z : AmZ} {A : Nat → Nat} {s : GS} {ex : va_W} {d : Nat} {X : AmX} {x1 : Int32} (hd : 4 ≤ d) (hI : Inv s)  : GC Z d 413 [.ref (A 109), .int x1] (WW Z A s ++ ex) 0 0 (fun v u => ∃ t : GS, Inv t ∧ Fr fm_413 s t ∧ ∃ z : Int32, v = some (.int z) ∧ u = WW Z A t ++ ex ∧ In z (-2147483648) 2147483647) X := by
  intro post xp hP hX
  obtain ⟨u_109_116, e_109_116⟩ : ∃ w, w = s.2.2.1 109 116 := ⟨_, rfl⟩
  obtain ⟨u_109_117, e_109_117⟩ : ∃ w, w = s.2.2.1 109 117 := ⟨_, rfl⟩
  obtain ⟨u_109_118, e_109_118⟩ : ∃ w, w = s.2.2.1 109 118 := ⟨_, rfl⟩
  refine g_enter2 (k := 413) (N := 900) (by first | exact dq1 hd rfl | exact dq0 hd rfl | exact dq2 hd rfl | exact dq3 hd rfl | omega) rfl (Nat.le_of_ble_eq_true rfl) ?_
  refine g_aload_n 1 (gd rfl) rfl rfl ?_
  refine g_iload_n 2 (gd rfl) rfl rfl ?_
  refine g_i2l 3 (gd rfl) rfl (fun z2 e2 => ?_)
  have i2 := l_i e2 (i_rng x1)
  refine g_lconst 0 4 (gd rfl) rfl rfl ?_
  refine g_ldc2_w 2 7 (gd rfl) rfl rfl ?_
  refine g_calls (As := [.long z2, .long (Int64.ofInt 0), .long (Int64.ofInt 2)]) (r := [.ref (A 109)]) 10 (gd rfl) rfl rfl rfl rfl rfl (Nat.le_of_ble_eq_true rfl) (mc := 0) (ms := 0) (Nat.zero_le _) (Nat.zero_le _) (P := fun v u => _) ?_ (fun v u h => h)
  intro po7 xx7 hp7 hx7
  refine g_enter2 (k := 269) (N := 300) (by first | exact dq1 hd rfl | exact dq0 hd rfl | exact dq2 hd rfl | exact dq3 hd rfl | omega) rfl (Nat.le_of_ble_eq_true rfl) ?_
  refine g_lload_n 1 (gd rfl) rfl rfl ?_
  refine g_lload_n 2 (gd rfl) rfl rfl ?_
  refine g_lcmp 3 (gd rfl) rfl (fun z7x2 e7x2 => ?_)
  have i7x2 := lc_in e7x2
  refine g_if_lt 6 17 (gd rfl) rfl rfl (fun c7x3 => ?_) (fun c7x3 => ?_)
  · skip
    have i7x3 := z_lt (-1) (-1) c7x3 i7x2 rfl
    have c7x3a := lc_lt e7x2 c7x3
    have i7x3a := lr_lt1 (-2147483648) (-1) c7x3a i2 (l_c 0 rfl) rfl
    have i7x3b := l_b e2 i7x3a
    refine g_iconst 0 18 (gd rfl) rfl rfl ?_
    refine g_ireturn (gd rfl) rfl (nb01 (in_w 0 1 (in_c 0 rfl) rfl)) (hp7 _ _ ?_)
    show GG _ _ _ _ _ _ _ _ [.int (Int32.ofInt 0), .ref (A 109)] _ _ _
    refine g_callv (X := _) (As := [.int (Int32.ofInt 0)]) (r := []) (b := A 109) (q := 109) 13 (gd rfl) rfl rfl rfl rfl rfl (ww_o rfl) (Nat.le_of_ble_eq_true rfl) (mc := 0) (ms := 0) (Nat.zero_le _) (Nat.zero_le _) (P := fun v u => _) ?_ (fun e u h => h) (fun v u h => h)
    intro po10 xx10 hp10 hx10
    refine g_enter2 (k := 271) (N := 300) (by first | exact dq1 hd rfl | exact dq0 hd rfl | exact dq2 hd rfl | exact dq3 hd rfl | omega) rfl (Nat.le_of_ble_eq_true rfl) ?_
    refine g_aload_n 1 (gd rfl) rfl rfl ?_
    refine g_iload_n 2 (gd rfl) rfl rfl ?_
    refine g_iconst 1 3 (gd rfl) rfl rfl ?_
    refine g_callv (X := _) (As := [.int (Int32.ofInt 0), .int (Int32.ofInt 1)]) (r := []) (b := A 109) (q := 109) 6 (gd rfl) rfl rfl rfl rfl rfl (ww_o rfl) (Nat.le_of_ble_eq_true rfl) (mc := 0) (ms := 0) (Nat.zero_le _) (Nat.zero_le _) (P := fun v u => _) ?_ (fun e u h => h) (fun v u h => h)
    intro po10x3 xx10x3 hp10x3 hx10x3
    refine g_enter2 (k := 270) (N := 300) (by first | exact dq1 hd rfl | exact dq0 hd rfl | exact dq2 hd rfl | exact dq3 hd rfl | omega) rfl (Nat.le_of_ble_eq_true rfl) ?_
    refine g_aload_n 1 (gd rfl) rfl rfl ?_
    refine g_iload_n 2 (gd rfl) rfl rfl ?_
    refine g_if_ne 5 9 (gd rfl) rfl rfl (fun c10x3x2 => ?_) (fun c10x3x2 => ?_)
    · skip
      exact zn_ne c10x3x2 (in_c 0 rfl) rfl
    · skip
      refine g_iconst 1 6 (gd rfl) rfl rfl ?_
      refine g_goto 18 (gd rfl) rfl ?_
      refine g_putI 21 (gd rfl) rfl rfl rfl rfl ?_
      have hI10x3x18 := inv_sF (q := 109) (j := 0) hI rfl (in_w 0 2 (in_c 1 rfl) rfl)
      refine g_aload_n 22 (gd rfl) rfl rfl ?_
      refine g_getI 25 (gd rfl) rfl rfl rfl (fun z10x3x22 e10x3x22 => ?_)
      have q10x3x22 : (Int32.ofInt 1) = z10x3x22 := (sF_get).trans e10x3x22.symm
      subst q10x3x22
      refine g_if_le 28 32 (gd rfl) rfl rfl (fun c10x3x25 => ?_) (fun c10x3x25 => ?_)
      · skip
        exact zn_le c10x3x25 (in_c 1 rfl) rfl
      · skip
        refine g_iconst 1 29 (gd rfl) rfl rfl ?_
        refine g_goto 33 (gd rfl) rfl ?_
        refine g_ireturn (gd rfl) rfl (nb01 (in_w 0 1 (in_c 1 rfl) rfl)) (hp10x3 _ _ ?_)
        show GG _ _ _ _ _ _ _ _ [.int (Int32.ofInt 1)] _ _ _
        refine g_ireturn (gd rfl) rfl (nb01 (in_w 0 1 (in_c 1 rfl) rfl)) (hp10 _ _ ?_)
        show GG _ _ _ _ _ _ _ _ [.int (Int32.ofInt 1)] _ _ _
        refine g_if_eq 16 18 (gd rfl) rfl rfl (fun c13 => ?_) (fun c13 => ?_)
        · skip
          exact zn_eq c13 (in_c 1 rfl) rfl
        · skip
          refine g_iconst 0 17 (gd rfl) rfl rfl ?_
          exact g_ireturn (gd rfl) rfl rfl (hP _ _ ⟨(sF s 109 0 (Int32.ofInt 1)), hI10x3x18, (fr_sF rfl fr_rf), (Int32.ofInt 0), rfl, rfl, in_w (-2147483648) 2147483647 (in_c 0 rfl) rfl⟩)
  · skip
    have i7x3 := z_ge 0 1 c7x3 i7x2 rfl
    have c7x3a := lc_ge e7x2 c7x3
    have i7x3a := lr_le2 0 2147483647 c7x3a (l_c 0 rfl) i2 rfl
    have i7x3b := l_b e2 i7x3a
    refine g_lload_n 7 (gd rfl) rfl rfl ?_
    refine g_lload 9 (gd rfl) rfl rfl ?_
    refine g_lcmp 10 (gd rfl) rfl (fun z7x9 e7x9 => ?_)
    have i7x9 := lc_in e7x9
    refine g_if_gt 13 17 (gd rfl) rfl rfl (fun c7x10 => ?_) (fun c7x10 => ?_)
    · skip
      have i7x10 := z_gt 1 1 c7x10 i7x9 rfl
      have c7x10a := lc_gt e7x9 c7x10
      have i7x10a := lr_lt2 3 2147483647 c7x10a (l_c 2 rfl) i7x3a rfl
      have i7x10b := l_b e2 i7x10a
      refine g_iconst 0 18 (gd rfl) rfl rfl ?_
      refine g_ireturn (gd rfl) rfl (nb01 (in_w 0 1 (in_c 0 rfl) rfl)) (hp7 _ _ ?_)
      show GG _ _ _ _ _ _ _ _ [.int (Int32.ofInt 0), .ref (A 109)] _ _ _
      refine g_callv (X := _) (As := [.int (Int32.ofInt 0)]) (r := []) (b := A 109) (q := 109) 13 (gd rfl) rfl rfl rfl rfl rfl (ww_o rfl) (Nat.le_of_ble_eq_true rfl) (mc := 0) (ms := 0) (Nat.zero_le _) (Nat.zero_le _) (P := fun v u => _) ?_ (fun e u h => h) (fun v u h => h)
      intro po10 xx10 hp10 hx10
      refine g_enter2 (k := 271) (N := 300) (by first | exact dq1 hd rfl | exact dq0 hd rfl | exact dq2 hd rfl | exact dq3 hd rfl | omega) rfl (Nat.le_of_ble_eq_true rfl) ?_
      refine g_aload_n 1 (gd rfl) rfl rfl ?_
      refine g_iload_n 2 (gd rfl) rfl rfl ?_
      refine g_iconst 1 3 (gd rfl) rfl rfl ?_
      refine g_callv (X := _) (As := [.int (Int32.ofInt 0), .int (Int32.ofInt 1)]) (r := []) (b := A 109) (q := 109) 6 (gd rfl) rfl rfl rfl rfl rfl (ww_o rfl) (Nat.le_of_ble_eq_true rfl) (mc := 0) (ms := 0) (Nat.zero_le _) (Nat.zero_le _) (P := fun v u => _) ?_ (fun e u h => h) (fun v u h => h)
      intro po10x3 xx10x3 hp10x3 hx10x3
      refine g_enter2 (k := 270) (N := 300) (by first | exact dq1 hd rfl | exact dq0 hd rfl | exact dq2 hd rfl | exact dq3 hd rfl | omega) rfl (Nat.le_of_ble_eq_true rfl) ?_
      refine g_aload_n 1 (gd rfl) rfl rfl ?_
      refine g_iload_n 2 (gd rfl) rfl rfl ?_
      refine g_if_ne 5 9 (gd rfl) rfl rfl (fun c10x3x2 => ?_) (fun c10x3x2 => ?_)
      · skip
        exact zn_ne c10x3x2 (in_c 0 rfl) rfl
      · skip
        refine g_iconst 1 6 (gd rfl) rfl rfl ?_
        refine g_goto 18 (gd rfl) rfl ?_
        refine g_putI 21 (gd rfl) rfl rfl rfl rfl ?_
        have hI10x3x18 := inv_sF (q := 109) (j := 0) hI rfl (in_w 0 2 (in_c 1 rfl) rfl)
        refine g_aload_n 22 (gd rfl) rfl rfl ?_
        refine g_getI 25 (gd rfl) rfl rfl rfl (fun z10x3x22 e10x3x22 => ?_)
        have q10x3x22 : (Int32.ofInt 1) = z10x3x22 := (sF_get).trans e10x3x22.symm
        subst q10x3x22
        refine g_if_le 28 32 (gd rfl) rfl rfl (fun c10x3x25 => ?_) (fun c10x3x25 => ?_)
        · skip
          exact zn_le c10x3x25 (in_c 1 rfl) rfl
        · skip
          refine g_iconst 1 29 (gd rfl) rfl rfl ?_
          refine g_goto 33 (gd rfl) rfl ?_
          refine g_ireturn (gd rfl) rfl (nb01 (in_w 0 1 (in_c 1 rfl) rfl)) (hp10x3 _ _ ?_)
          show GG _ _ _ _ _ _ _ _ [.int (Int32.ofInt 1)] _ _ _
          refine g_ireturn (gd rfl) rfl (nb01 (in_w 0 1 (in_c 1 rfl) rfl)) (hp10 _ _ ?_)
          show GG _ _ _ _ _ _ _ _ [.int (Int32.ofInt 1)] _ _ _
          refine g_if_eq 16 18 (gd rfl) rfl rfl (fun c13 => ?_) (fun c13 => ?_)
          · skip
            exact zn_eq c13 (in_c 1 rfl) rfl
          · skip
            refine g_iconst 0 17 (gd rfl) rfl rfl ?_
            exact g_ireturn (gd rfl) rfl rfl (hP _ _ ⟨(sF s 109 0 (Int32.ofInt 1)), hI10x3x18, (fr_sF rfl fr_rf), (Int32.ofInt 0), rfl, rfl, in_w (-2147483648) 2147483647 (in_c 0 rfl) rfl⟩)
    · skip
      have i7x10 := z_le (-1) 0 c7x10 i7x9 rfl
      have c7x10a := lc_le e7x9 c7x10
      have i7x10a := lr_le1 0 2 c7x10a i7x3a (l_c 2 rfl) rfl
      have i7x10b := l_b e2 i7x10a
      refine g_iconst 1 14 (gd rfl) rfl rfl ?_
      refine g_goto 18 (gd rfl) rfl ?_
      refine g_ireturn (gd rfl) rfl (nb01 (in_w 0 1 (in_c 1 rfl) rfl)) (hp7 _ _ ?_)
      show GG _ _ _ _ _ _ _ _ [.int (Int32.ofInt 1), .ref (A 109)] _ _ _
      refine g_callv (X := _) (As := [.int (Int32.ofInt 1)]) (r := []) (b := A 109) (q := 109) 13 (gd rfl) rfl rfl rfl rfl rfl (ww_o rfl) (Nat.le_of_ble_eq_true rfl) (mc := 0) (ms := 0) (Nat.zero_le _) (Nat.zero_le _) (P := fun v u => _) ?_ (fun e u h => h) (fun v u h => h)
      intro po10 xx10 hp10 hx10
      refine g_enter2 (k := 271) (N := 300) (by first | exact dq1 hd rfl | exact dq0 hd rfl | exact dq2 hd rfl | exact dq3 hd rfl | omega) rfl (Nat.le_of_ble_eq_true rfl) ?_
      refine g_aload_n 1 (gd rfl) rfl rfl ?_
      refine g_iload_n 2 (gd rfl) rfl rfl ?_
      refine g_iconst 1 3 (gd rfl) rfl rfl ?_
      refine g_callv (X := _) (As := [.int (Int32.ofInt 1), .int (Int32.ofInt 1)]) (r := []) (b := A 109) (q := 109) 6 (gd rfl) rfl rfl rfl rfl rfl (ww_o rfl) (Nat.le_of_ble_eq_true rfl) (mc := 0) (ms := 0) (Nat.zero_le _) (Nat.zero_le _) (P := fun v u => _) ?_ (fun e u h => h) (fun v u h => h)
      intro po10x3 xx10x3 hp10x3 hx10x3
      refine g_enter2 (k := 270) (N := 300) (by first | exact dq1 hd rfl | exact dq0 hd rfl | exact dq2 hd rfl | exact dq3 hd rfl | omega) rfl (Nat.le_of_ble_eq_true rfl) ?_
      refine g_aload_n 1 (gd rfl) rfl rfl ?_
      refine g_iload_n 2 (gd rfl) rfl rfl ?_
      refine g_if_ne 5 9 (gd rfl) rfl rfl (fun c10x3x2 => ?_) (fun c10x3x2 => ?_)
      · skip
        refine g_iload_n 10 (gd rfl) rfl rfl ?_
        refine g_if_ne 13 17 (gd rfl) rfl rfl (fun c10x3x10 => ?_) (fun c10x3x10 => ?_)
        · skip
          refine g_iconst 0 18 (gd rfl) rfl rfl ?_
          refine g_putI 21 (gd rfl) rfl rfl rfl rfl ?_
          have hI10x3x18 := inv_sF (q := 109) (j := 0) hI rfl (in_w 0 2 (in_c 0 rfl) rfl)
          refine g_aload_n 22 (gd rfl) rfl rfl ?_
          refine g_getI 25 (gd rfl) rfl rfl rfl (fun z10x3x22 e10x3x22 => ?_)
          have q10x3x22 : (Int32.ofInt 0) = z10x3x22 := (sF_get).trans e10x3x22.symm
          subst q10x3x22
          refine g_if_le 28 32 (gd rfl) rfl rfl (fun c10x3x25 => ?_) (fun c10x3x25 => ?_)
          · skip
            refine g_iconst 0 33 (gd rfl) rfl rfl ?_
            refine g_ireturn (gd rfl) rfl (nb01 (in_w 0 1 (in_c 0 rfl) rfl)) (hp10x3 _ _ ?_)
            show GG _ _ _ _ _ _ _ _ [.int (Int32.ofInt 0)] _ _ _
            refine g_ireturn (gd rfl) rfl (nb01 (in_w 0 1 (in_c 0 rfl) rfl)) (hp10 _ _ ?_)
            show GG _ _ _ _ _ _ _ _ [.int (Int32.ofInt 0)] _ _ _
            refine g_if_eq 16 18 (gd rfl) rfl rfl (fun c13 => ?_) (fun c13 => ?_)
            · skip
              refine g_iload_n 19 (gd rfl) rfl rfl ?_
              refine g_if_ne 22 29 (gd rfl) rfl rfl (fun c19 => ?_) (fun c19 => ?_)
              · skip
                have i19 := z_ne 1 2 c19 i7x10b rfl
                refine g_iload_n 30 (gd rfl) rfl rfl ?_
                refine g_iconst 1 31 (gd rfl) rfl rfl ?_
                refine g_cmp_ne 34 41 (gd rfl) rfl rfl (fun c31 => ?_) (fun c31 => ?_)
                · skip
                  have i31 := r_ne1 2 2 c31 i19 (in_c 1 rfl) rfl
                  refine g_aload_n 42 (gd rfl) rfl rfl ?_
                  refine g_getI 45 (gd rfl) rfl rfl rfl (fun z42 e42 => ?_)
                  have q42 : u_109_118 = z42 := (sF_ne rfl (e_109_118)).trans e42.symm
                  subst q42
                  exact g_ireturn (gd rfl) rfl rfl (hP _ _ ⟨(sF s 109 0 (Int32.ofInt 0)), hI10x3x18, (fr_sF rfl fr_rf), u_109_118, rfl, rfl, in_w (-2147483648) 2147483647 (i_rng u_109_118) rfl⟩)
                · skip
                  have i31 := r_eq1 1 1 c31 i19 (in_c 1 rfl) rfl
                  refine g_aload_n 35 (gd rfl) rfl rfl ?_
                  refine g_getI 38 (gd rfl) rfl rfl rfl (fun z35 e35 => ?_)
                  have q35 : u_109_117 = z35 := (sF_ne rfl (e_109_117)).trans e35.symm
                  subst q35
                  refine g_goto 45 (gd rfl) rfl ?_
                  exact g_ireturn (gd rfl) rfl rfl (hP _ _ ⟨(sF s 109 0 (Int32.ofInt 0)), hI10x3x18, (fr_sF rfl fr_rf), u_109_117, rfl, rfl, in_w (-2147483648) 2147483647 (i_rng u_109_117) rfl⟩)
              · skip
                have i19 := z_eq 0 0 c19 i7x10b rfl
                refine g_aload_n 23 (gd rfl) rfl rfl ?_
                refine g_getI 26 (gd rfl) rfl rfl rfl (fun z23 e23 => ?_)
                have q23 : u_109_116 = z23 := (sF_ne rfl (e_109_116)).trans e23.symm
                subst q23
                refine g_goto 45 (gd rfl) rfl ?_
                exact g_ireturn (gd rfl) rfl rfl (hP _ _ ⟨(sF s 109 0 (Int32.ofInt 0)), hI10x3x18, (fr_sF rfl fr_rf), u_109_116, rfl, rfl, in_w (-2147483648) 2147483647 (i_rng u_109_116) rfl⟩)
            · skip
              exact zn_ne c13 (in_c 0 rfl) rfl
          · skip
            exact zn_gt c10x3x25 (in_c 0 rfl) rfl
        · skip
          exact zn_eq c10x3x10 (in_c 1 rfl) rfl
      · skip
        exact zn_eq c10x3x2 (in_c 1 rfl) rfl

def fm_393 : FM := ([187, 188], [], [(109, 109)], [])
/-- GraphHouseModel.add -/
theorem k_393 {Z : AmZ} {A : Nat → Nat} {s : GS} {ex : va_W} {d : Nat} {X : AmX} {x1 : Int32} {x2 : Int32} {u_109_109 : Int32} (hd : 1 ≤ d) (hI : Inv s) (e_109_109 : u_109_109 = s.2.2.1 109 109) (p_0 : (u_109_109).toInt ≤ 399) : GC Z d 393 [.ref (A 109), .int x1, .int x2] (WW Z A s ++ ex) 0 0 (fun v u => ∃ t : GS, Inv t ∧ Fr fm_393 s t ∧ ((t.2.2.1 109 109).toInt = (s.2.2.1 109 109).toInt + 1) ∧ v = none ∧ u = WW Z A t ++ ex ∧ (t.1 187 = upd (s.1 187) (s.2.2.1 109 109).toNatClampNeg x1) ∧ (t.1 188 = upd (s.1 188) (s.2.2.1 109 109).toNatClampNeg x2)) X := by
  intro post xp hP hX
  refine g_enter2 (k := 393) (N := 900) (by first | exact dq1 hd rfl | exact dq0 hd rfl | exact dq2 hd rfl | exact dq3 hd rfl | omega) rfl (Nat.le_of_ble_eq_true rfl) ?_
  refine g_aload_n 1 (gd rfl) rfl rfl ?_
  refine g_getA (q2 := 187) 4 (gd rfl) rfl rfl rfl rfl ?_
  refine g_aload_n 5 (gd rfl) rfl rfl ?_
  refine g_getI 8 (gd rfl) rfl rfl rfl (fun z5 e5 => ?_)
  have q5 : u_109_109 = z5 := (e_109_109).trans e5.symm
  subst q5
  refine g_iload_n 9 (gd rfl) rfl rfl ?_
  have i9 : In u_109_109 0 399 := by (first | have a0 := in_u ((inv_F hI 0 400 rfl e_109_109)) | (have a0 := (inv_F hI 0 400 rfl e_109_109); unfold In at a0)); exact ⟨by omega, by omega⟩
  refine g_iastore 10 (gd rfl) rfl (n := 400) rfl (in_ix i9 rfl) ?_
  have hI9 := inv_sI (q := 187) (j := u_109_109.toNatClampNeg) hI rfl (in_w (-2147483648) 2147483647 (i_rng x1) rfl)
  refine g_aload_n 11 (gd rfl) rfl rfl ?_
  refine g_getA (q2 := 188) 14 (gd rfl) rfl rfl rfl rfl ?_
  refine g_aload_n 15 (gd rfl) rfl rfl ?_
  refine g_getI 18 (gd rfl) rfl rfl rfl (fun z15 e15 => ?_)
  have q15 : u_109_109 = z15 := (sI_F (e_109_109)).trans e15.symm
  subst q15
  refine g_iload_n 19 (gd rfl) rfl rfl ?_
  refine g_iastore 20 (gd rfl) rfl (n := 400) rfl (in_ix i9 rfl) ?_
  have hI19 := inv_sI (q := 188) (j := u_109_109.toNatClampNeg) hI9 rfl (in_w (-2147483648) 2147483647 (i_rng x2) rfl)
  refine g_aload_n 21 (gd rfl) rfl rfl ?_
  refine g_dup 22 (gd rfl) rfl rfl ?_
  refine g_getI 25 (gd rfl) rfl rfl rfl (fun z22 e22 => ?_)
  have q22 : u_109_109 = z22 := (sI_F (sI_F (e_109_109))).trans e22.symm
  subst q22
  refine g_iconst 1 26 (gd rfl) rfl rfl ?_
  refine g_iadd 27 (gd rfl) rfl (fun z26 e26 => ?_)
  have i26 := in_add 1 400 e26 i9 (in_c 1 rfl) rfl rfl
  refine g_putI 30 (gd rfl) rfl rfl rfl rfl ?_
  have hI27 := inv_sF (q := 109) (j := 109) hI19 rfl (in_w 0 400 i26 rfl)
  have n30 : (sF (sI (sI s 187 u_109_109.toNatClampNeg x1) 188 u_109_109.toNatClampNeg x2) 109 109 z26).1 187 = upd (s.1 187) (s.2.2.1 109 109).toNatClampNeg x1 := by rw [← e_109_109]; simp [sI, sF]
  have n30a : (sF (sI (sI s 187 u_109_109.toNatClampNeg x1) 188 u_109_109.toNatClampNeg x2) 109 109 z26).1 188 = upd (s.1 188) (s.2.2.1 109 109).toNatClampNeg x2 := by rw [← e_109_109]; simp [sI, sF]
  have n30b : (z26).toInt = (u_109_109).toInt + 1 := by (first | have a0 := oa2 i9 i26 | ((first | have a0 := in_u i9 | (have a0 := i9; unfold In at a0)); (first | have a1 := in_u i26 | (have a1 := i26; unfold In at a1)))); have a2 := t_add e26 i9 (in_c 1 rfl) rfl; (first | have a3 := in_u ((in_c 1 rfl)) | (have a3 := (in_c 1 rfl); unfold In at a3)); omega
  have n30c : ((sF (sI (sI s 187 u_109_109.toNatClampNeg x1) 188 u_109_109.toNatClampNeg x2) 109 109 z26).2.2.1 109 109).toInt = (s.2.2.1 109 109).toInt + 1 := by have b0 : z26 = (sF (sI (sI s 187 u_109_109.toNatClampNeg x1) 188 u_109_109.toNatClampNeg x2) 109 109 z26).2.2.1 109 109 := sF_get; first | (rw [← b0, ← e_109_109]; exact n30b) | (rw [← b0]; exact n30b)
  exact g_return (gd rfl) rfl (hP _ _ ⟨(sF (sI (sI s 187 u_109_109.toNatClampNeg x1) 188 u_109_109.toNatClampNeg x2) 109 109 z26), hI27, (fr_sF rfl (fr_sI rfl (fr_sI rfl fr_rf))), n30c, rfl, rfl, n30, n30a⟩)

def fm_396 : FM := ([190], [], [(109, 111), (109, 112)], [])
/-- GraphHouseModel.hold -/
theorem k_396 {Z : AmZ} {A : Nat → Nat} {s : GS} {ex : va_W} {d : Nat} {X : AmX} {x1 : Int32} {u_109_111 : Int32} (hd : 1 ≤ d) (hI : Inv s) (e_109_111 : u_109_111 = s.2.2.1 109 111) (p_0 : (u_109_111).toInt ≤ 199) : GC Z d 396 [.ref (A 109), .int x1] (WW Z A s ++ ex) 0 0 (fun v u => ∃ t : GS, Inv t ∧ Fr fm_396 s t ∧ ((t.2.2.1 109 111).toInt = (s.2.2.1 109 111).toInt + 1) ∧ v = none ∧ u = WW Z A t ++ ex ∧ (t.1 190 = upd (s.1 190) (s.2.2.1 109 111).toNatClampNeg x1)) X := by
  intro post xp hP hX
  refine g_enter2 (k := 396) (N := 900) (by first | exact dq1 hd rfl | exact dq0 hd rfl | exact dq2 hd rfl | exact dq3 hd rfl | omega) rfl (Nat.le_of_ble_eq_true rfl) ?_
  refine g_aload_n 1 (gd rfl) rfl rfl ?_
  refine g_getA (q2 := 190) 4 (gd rfl) rfl rfl rfl rfl ?_
  refine g_aload_n 5 (gd rfl) rfl rfl ?_
  refine g_getI 8 (gd rfl) rfl rfl rfl (fun z5 e5 => ?_)
  have q5 : u_109_111 = z5 := (e_109_111).trans e5.symm
  subst q5
  refine g_iload_n 9 (gd rfl) rfl rfl ?_
  have i9 : In u_109_111 0 199 := by (first | have a0 := in_u ((inv_F hI 0 200 rfl e_109_111)) | (have a0 := (inv_F hI 0 200 rfl e_109_111); unfold In at a0)); exact ⟨by omega, by omega⟩
  refine g_iastore 10 (gd rfl) rfl (n := 200) rfl (in_ix i9 rfl) ?_
  have hI9 := inv_sI (q := 190) (j := u_109_111.toNatClampNeg) hI rfl (in_w (-2147483648) 2147483647 (i_rng x1) rfl)
  refine g_aload_n 11 (gd rfl) rfl rfl ?_
  refine g_dup 12 (gd rfl) rfl rfl ?_
  refine g_getI 15 (gd rfl) rfl rfl rfl (fun z12 e12 => ?_)
  have q12 : u_109_111 = z12 := (sI_F (e_109_111)).trans e12.symm
  subst q12
  refine g_iconst 1 16 (gd rfl) rfl rfl ?_
  refine g_iadd 17 (gd rfl) rfl (fun z16 e16 => ?_)
  have i16 := in_add 1 200 e16 i9 (in_c 1 rfl) rfl rfl
  refine g_putI 20 (gd rfl) rfl rfl rfl rfl ?_
  have hI17 := inv_sF (q := 109) (j := 111) hI9 rfl (in_w 0 200 i16 rfl)
  refine g_aload_n 21 (gd rfl) rfl rfl ?_
  refine g_dup 22 (gd rfl) rfl rfl ?_
  refine g_getI 25 (gd rfl) rfl rfl rfl (fun z22 e22 => ?_)
  refine g_iload_n 26 (gd rfl) rfl rfl ?_
  refine g_iconst 2 27 (gd rfl) rfl rfl ?_
  refine g_cmp_eq 30 36 (gd rfl) rfl rfl (fun c27 => ?_) (fun c27 => ?_)
  · skip
    have i27 := r_eq1 2 2 c27 (i_rng x1) (in_c 2 rfl) rfl
    refine g_iconst 1 37 (gd rfl) rfl rfl ?_
    refine g_goto 41 (gd rfl) rfl ?_
    refine g_iadd 42 (gd rfl) rfl (fun z41 e41 => ?_)
    refine g_putI 45 (gd rfl) rfl rfl rfl rfl ?_
    have hI42 := inv_sF (q := 109) (j := 112) hI17 rfl (in_w (-2147483648) 2147483647 (i_rng z41) rfl)
    have n45 : (sF (sF (sI s 190 u_109_111.toNatClampNeg x1) 109 111 z16) 109 112 z41).1 190 = upd (s.1 190) (s.2.2.1 109 111).toNatClampNeg x1 := by rw [← e_109_111]; simp [sI, sF]
    have n45a : (z16).toInt = (u_109_111).toInt + 1 := by (first | have a0 := oa3 i27 i9 i16 | ((first | have a0 := in_u i27 | (have a0 := i27; unfold In at a0)); (first | have a1 := in_u i9 | (have a1 := i9; unfold In at a1)); (first | have a2 := in_u i16 | (have a2 := i16; unfold In at a2)))); have a3 := t_add e16 i9 (in_c 1 rfl) rfl; (first | have a4 := in_u ((in_c 1 rfl)) | (have a4 := (in_c 1 rfl); unfold In at a4)); omega
    have n45b : ((sF (sF (sI s 190 u_109_111.toNatClampNeg x1) 109 111 z16) 109 112 z41).2.2.1 109 111).toInt = (s.2.2.1 109 111).toInt + 1 := by have b0 : z16 = (sF (sF (sI s 190 u_109_111.toNatClampNeg x1) 109 111 z16) 109 112 z41).2.2.1 109 111 := sF_ne rfl (sF_get); first | (rw [← b0, ← e_109_111]; exact n45a) | (rw [← b0]; exact n45a)
    exact g_return (gd rfl) rfl (hP _ _ ⟨(sF (sF (sI s 190 u_109_111.toNatClampNeg x1) 109 111 z16) 109 112 z41), hI42, (fr_sF rfl (fr_sF rfl (fr_sI rfl fr_rf))), n45b, rfl, rfl, n45⟩)
  · skip
    refine g_iload_n 31 (gd rfl) rfl rfl ?_
    refine g_bipush 40 33 (gd rfl) rfl rfl ?_
    refine g_cmp_ne 36 40 (gd rfl) rfl rfl (fun c33 => ?_) (fun c33 => ?_)
    · skip
      refine g_iconst 0 41 (gd rfl) rfl rfl ?_
      refine g_iadd 42 (gd rfl) rfl (fun z41 e41 => ?_)
      have i41 := in_add (-2147483648) 2147483647 e41 (i_rng z22) (in_c 0 rfl) rfl rfl
      refine g_putI 45 (gd rfl) rfl rfl rfl rfl ?_
      have hI42 := inv_sF (q := 109) (j := 112) hI17 rfl (in_w (-2147483648) 2147483647 i41 rfl)
      have n45 : (sF (sF (sI s 190 u_109_111.toNatClampNeg x1) 109 111 z16) 109 112 z41).1 190 = upd (s.1 190) (s.2.2.1 109 111).toNatClampNeg x1 := by rw [← e_109_111]; simp [sI, sF]
      have n45a : (z16).toInt = (u_109_111).toInt + 1 := by (first | have a0 := in_u i9 | (have a0 := i9; unfold In at a0)); have a1 := t_add e41 (i_rng z22) (in_c 0 rfl) rfl; (first | have a2 := oa2 ((in_c 0 rfl)) i16 | ((first | have a2 := in_u ((in_c 0 rfl)) | (have a2 := (in_c 0 rfl); unfold In at a2)); (first | have a3 := in_u i16 | (have a3 := i16; unfold In at a3)))); have a4 := t_add e16 i9 (in_c 1 rfl) rfl; (first | have a5 := in_u ((in_c 1 rfl)) | (have a5 := (in_c 1 rfl); unfold In at a5)); omega
      have n45b : ((sF (sF (sI s 190 u_109_111.toNatClampNeg x1) 109 111 z16) 109 112 z41).2.2.1 109 111).toInt = (s.2.2.1 109 111).toInt + 1 := by have b0 : z16 = (sF (sF (sI s 190 u_109_111.toNatClampNeg x1) 109 111 z16) 109 112 z41).2.2.1 109 111 := sF_ne rfl (sF_get); first | (rw [← b0, ← e_109_111]; exact n45a) | (rw [← b0]; exact n45a)
      exact g_return (gd rfl) rfl (hP _ _ ⟨(sF (sF (sI s 190 u_109_111.toNatClampNeg x1) 109 111 z16) 109 112 z41), hI42, (fr_sF rfl (fr_sF rfl (fr_sI rfl fr_rf))), n45b, rfl, rfl, n45⟩)
    · skip
      have i33 := r_eq1 40 40 c33 (i_rng x1) (in_c 40 rfl) rfl
      refine g_iconst 1 37 (gd rfl) rfl rfl ?_
      refine g_goto 41 (gd rfl) rfl ?_
      refine g_iadd 42 (gd rfl) rfl (fun z41 e41 => ?_)
      refine g_putI 45 (gd rfl) rfl rfl rfl rfl ?_
      have hI42 := inv_sF (q := 109) (j := 112) hI17 rfl (in_w (-2147483648) 2147483647 (i_rng z41) rfl)
      have n45 : (sF (sF (sI s 190 u_109_111.toNatClampNeg x1) 109 111 z16) 109 112 z41).1 190 = upd (s.1 190) (s.2.2.1 109 111).toNatClampNeg x1 := by rw [← e_109_111]; simp [sI, sF]
      have n45a : (z16).toInt = (u_109_111).toInt + 1 := by (first | have a0 := oa3 i33 i9 i16 | ((first | have a0 := in_u i33 | (have a0 := i33; unfold In at a0)); (first | have a1 := in_u i9 | (have a1 := i9; unfold In at a1)); (first | have a2 := in_u i16 | (have a2 := i16; unfold In at a2)))); have a3 := t_add e16 i9 (in_c 1 rfl) rfl; (first | have a4 := in_u ((in_c 1 rfl)) | (have a4 := (in_c 1 rfl); unfold In at a4)); omega
      have n45b : ((sF (sF (sI s 190 u_109_111.toNatClampNeg x1) 109 111 z16) 109 112 z41).2.2.1 109 111).toInt = (s.2.2.1 109 111).toInt + 1 := by have b0 : z16 = (sF (sF (sI s 190 u_109_111.toNatClampNeg x1) 109 111 z16) 109 112 z41).2.2.1 109 111 := sF_ne rfl (sF_get); first | (rw [← b0, ← e_109_111]; exact n45a) | (rw [← b0]; exact n45a)
      exact g_return (gd rfl) rfl (hP _ _ ⟨(sF (sF (sI s 190 u_109_111.toNatClampNeg x1) 109 111 z16) 109 112 z41), hI42, (fr_sF rfl (fr_sF rfl (fr_sI rfl fr_rf))), n45b, rfl, rfl, n45⟩)

def fm_397 : FM := ([], [], [(109, 111), (109, 112)], [])
/-- GraphHouseModel.drop -/
theorem k_397 {Z : AmZ} {A : Nat → Nat} {s : GS} {ex : va_W} {d : Nat} {X : AmX} {u_109_111 : Int32} (hd : 1 ≤ d) (hI : Inv s) (e_109_111 : u_109_111 = s.2.2.1 109 111) (p_0 : 1 ≤ (u_109_111).toInt) : GC Z d 397 [.ref (A 109)] (WW Z A s ++ ex) 0 0 (fun v u => ∃ t : GS, Inv t ∧ Fr fm_397 s t ∧ ((t.2.2.1 109 111).toInt = (s.2.2.1 109 111).toInt - 1) ∧ v = none ∧ u = WW Z A t ++ ex) X := by
  intro post xp hP hX
  refine g_enter2 (k := 397) (N := 900) (by first | exact dq1 hd rfl | exact dq0 hd rfl | exact dq2 hd rfl | exact dq3 hd rfl | omega) rfl (Nat.le_of_ble_eq_true rfl) ?_
  refine g_aload_n 1 (gd rfl) rfl rfl ?_
  refine g_dup 2 (gd rfl) rfl rfl ?_
  refine g_getI 5 (gd rfl) rfl rfl rfl (fun z2 e2 => ?_)
  have q2 : u_109_111 = z2 := (e_109_111).trans e2.symm
  subst q2
  refine g_iconst 1 6 (gd rfl) rfl rfl ?_
  refine g_isub 7 (gd rfl) rfl (fun z6 e6 => ?_)
  have i6 := in_sub (-1) 199 e6 (inv_F hI 0 200 rfl e_109_111) (in_c 1 rfl) rfl rfl
  have i7 : In z6 0 200 := by (first | have a0 := oa2 ((inv_F hI 0 200 rfl e_109_111)) i6 | ((first | have a0 := in_u ((inv_F hI 0 200 rfl e_109_111)) | (have a0 := (inv_F hI 0 200 rfl e_109_111); unfold In at a0)); (first | have a1 := in_u i6 | (have a1 := i6; unfold In at a1)))); have a2 := t_sub e6 (inv_F hI 0 200 rfl e_109_111) (in_c 1 rfl) rfl; (first | have a3 := in_u ((in_c 1 rfl)) | (have a3 := (in_c 1 rfl); unfold In at a3)); exact ⟨by omega, by omega⟩
  refine g_putI 10 (gd rfl) rfl rfl rfl rfl ?_
  have hI7 := inv_sF (q := 109) (j := 111) hI rfl (in_w 0 200 i7 rfl)
  refine g_aload_n 11 (gd rfl) rfl rfl ?_
  refine g_dup 12 (gd rfl) rfl rfl ?_
  refine g_getI 15 (gd rfl) rfl rfl rfl (fun z12 e12 => ?_)
  refine g_aload_n 16 (gd rfl) rfl rfl ?_
  refine g_getA (q2 := 190) 19 (gd rfl) rfl rfl rfl rfl ?_
  refine g_aload_n 20 (gd rfl) rfl rfl ?_
  refine g_getI 23 (gd rfl) rfl rfl rfl (fun z20 e20 => ?_)
  have q20 : z6 = z20 := (sF_get).trans e20.symm
  subst q20
  have i23 : In z6 0 199 := by (first | have a0 := oa2 ((inv_F hI 0 200 rfl e_109_111)) i7 | ((first | have a0 := in_u ((inv_F hI 0 200 rfl e_109_111)) | (have a0 := (inv_F hI 0 200 rfl e_109_111); unfold In at a0)); (first | have a1 := in_u i7 | (have a1 := i7; unfold In at a1)))); have a2 := t_sub e6 (inv_F hI 0 200 rfl e_109_111) (in_c 1 rfl) rfl; (first | have a3 := in_u ((in_c 1 rfl)) | (have a3 := (in_c 1 rfl); unfold In at a3)); exact ⟨by omega, by omega⟩
  refine g_iaload 24 (gd rfl) rfl (n := 200) rfl (in_ix i23 rfl) (fun z23 e23 => ?_)
  refine g_iconst 2 25 (gd rfl) rfl rfl ?_
  refine g_cmp_eq 28 42 (gd rfl) rfl rfl (fun c25 => ?_) (fun c25 => ?_)
  · skip
    have i25 := r_eq1 2 2 c25 (i_rng z23) (in_c 2 rfl) rfl
    refine g_iconst 1 43 (gd rfl) rfl rfl ?_
    refine g_goto 47 (gd rfl) rfl ?_
    refine g_isub 48 (gd rfl) rfl (fun z47 e47 => ?_)
    refine g_putI 51 (gd rfl) rfl rfl rfl rfl ?_
    have hI48 := inv_sF (q := 109) (j := 112) hI7 rfl (in_w (-2147483648) 2147483647 (i_rng z47) rfl)
    have n51 : (z6).toInt = (u_109_111).toInt - 1 := by (first | have a0 := oa2 ((inv_F hI 0 200 rfl e_109_111)) i23 | ((first | have a0 := in_u ((inv_F hI 0 200 rfl e_109_111)) | (have a0 := (inv_F hI 0 200 rfl e_109_111); unfold In at a0)); (first | have a1 := in_u i23 | (have a1 := i23; unfold In at a1)))); have a2 := t_sub e6 (inv_F hI 0 200 rfl e_109_111) (in_c 1 rfl) rfl; (first | have a3 := in_u ((in_c 1 rfl)) | (have a3 := (in_c 1 rfl); unfold In at a3)); omega
    have n51a : ((sF (sF s 109 111 z6) 109 112 z47).2.2.1 109 111).toInt = (s.2.2.1 109 111).toInt - 1 := by have b0 : z6 = (sF (sF s 109 111 z6) 109 112 z47).2.2.1 109 111 := sF_ne rfl (sF_get); first | (rw [← b0, ← e_109_111]; exact n51) | (rw [← b0]; exact n51)
    exact g_return (gd rfl) rfl (hP _ _ ⟨(sF (sF s 109 111 z6) 109 112 z47), hI48, (fr_sF rfl (fr_sF rfl fr_rf)), n51a, rfl, rfl⟩)
  · skip
    refine g_aload_n 29 (gd rfl) rfl rfl ?_
    refine g_getA (q2 := 190) 32 (gd rfl) rfl rfl rfl rfl ?_
    refine g_aload_n 33 (gd rfl) rfl rfl ?_
    refine g_getI 36 (gd rfl) rfl rfl rfl (fun z33 e33 => ?_)
    have q33 : z6 = z33 := (sF_get).trans e33.symm
    subst q33
    refine g_iaload 37 (gd rfl) rfl (n := 200) rfl (in_ix i23 rfl) (fun z36 e36 => ?_)
    have q36 : z23 = z36 := (e23).trans e36.symm
    subst q36
    refine g_bipush 40 39 (gd rfl) rfl rfl ?_
    refine g_cmp_ne 42 46 (gd rfl) rfl rfl (fun c39 => ?_) (fun c39 => ?_)
    · skip
      refine g_iconst 0 47 (gd rfl) rfl rfl ?_
      refine g_isub 48 (gd rfl) rfl (fun z47 e47 => ?_)
      have i47 := in_sub (-2147483648) 2147483647 e47 (i_rng z12) (in_c 0 rfl) rfl rfl
      refine g_putI 51 (gd rfl) rfl rfl rfl rfl ?_
      have hI48 := inv_sF (q := 109) (j := 112) hI7 rfl (in_w (-2147483648) 2147483647 i47 rfl)
      have n51 : (z6).toInt = (u_109_111).toInt - 1 := by (first | have a0 := in_u ((inv_F hI 0 200 rfl e_109_111)) | (have a0 := (inv_F hI 0 200 rfl e_109_111); unfold In at a0)); have a1 := t_sub e47 (i_rng z12) (in_c 0 rfl) rfl; (first | have a2 := oa2 ((in_c 0 rfl)) i23 | ((first | have a2 := in_u ((in_c 0 rfl)) | (have a2 := (in_c 0 rfl); unfold In at a2)); (first | have a3 := in_u i23 | (have a3 := i23; unfold In at a3)))); have a4 := t_sub e6 (inv_F hI 0 200 rfl e_109_111) (in_c 1 rfl) rfl; (first | have a5 := in_u ((in_c 1 rfl)) | (have a5 := (in_c 1 rfl); unfold In at a5)); omega
      have n51a : ((sF (sF s 109 111 z6) 109 112 z47).2.2.1 109 111).toInt = (s.2.2.1 109 111).toInt - 1 := by have b0 : z6 = (sF (sF s 109 111 z6) 109 112 z47).2.2.1 109 111 := sF_ne rfl (sF_get); first | (rw [← b0, ← e_109_111]; exact n51) | (rw [← b0]; exact n51)
      exact g_return (gd rfl) rfl (hP _ _ ⟨(sF (sF s 109 111 z6) 109 112 z47), hI48, (fr_sF rfl (fr_sF rfl fr_rf)), n51a, rfl, rfl⟩)
    · skip
      have i39 := r_eq1 40 40 c39 (i_rng z23) (in_c 40 rfl) rfl
      refine g_iconst 1 43 (gd rfl) rfl rfl ?_
      refine g_goto 47 (gd rfl) rfl ?_
      refine g_isub 48 (gd rfl) rfl (fun z47 e47 => ?_)
      refine g_putI 51 (gd rfl) rfl rfl rfl rfl ?_
      have hI48 := inv_sF (q := 109) (j := 112) hI7 rfl (in_w (-2147483648) 2147483647 (i_rng z47) rfl)
      have n51 : (z6).toInt = (u_109_111).toInt - 1 := by (first | have a0 := oa2 ((inv_F hI 0 200 rfl e_109_111)) i23 | ((first | have a0 := in_u ((inv_F hI 0 200 rfl e_109_111)) | (have a0 := (inv_F hI 0 200 rfl e_109_111); unfold In at a0)); (first | have a1 := in_u i23 | (have a1 := i23; unfold In at a1)))); have a2 := t_sub e6 (inv_F hI 0 200 rfl e_109_111) (in_c 1 rfl) rfl; (first | have a3 := in_u ((in_c 1 rfl)) | (have a3 := (in_c 1 rfl); unfold In at a3)); omega
      have n51a : ((sF (sF s 109 111 z6) 109 112 z47).2.2.1 109 111).toInt = (s.2.2.1 109 111).toInt - 1 := by have b0 : z6 = (sF (sF s 109 111 z6) 109 112 z47).2.2.1 109 111 := sF_ne rfl (sF_get); first | (rw [← b0, ← e_109_111]; exact n51) | (rw [← b0]; exact n51)
      exact g_return (gd rfl) rfl (hP _ _ ⟨(sF (sF s 109 111 z6) 109 112 z47), hI48, (fr_sF rfl (fr_sF rfl fr_rf)), n51a, rfl, rfl⟩)

def fm_400 : FM := ([187, 188], [], [(109, 109), (109, 111), (109, 112)], [])
/-- GraphHouseModel.turn -/
theorem k_400 {Z : AmZ} {A : Nat → Nat} {s : GS} {ex : va_W} {d : Nat} {X : AmX} {u_109_109 : Int32} {u_109_111 : Int32} (hd : 3 ≤ d) (hI : Inv s) (e_109_109 : u_109_109 = s.2.2.1 109 109) (e_109_111 : u_109_111 = s.2.2.1 109 111) (p_0 : (u_109_109).toInt + (u_109_111).toInt ≤ 120) : GC Z d 400 [.ref (A 109)] (WW Z A s ++ ex) 0 0 (fun v u => ∃ t : GS, Inv t ∧ Fr fm_400 s t ∧ ((t.2.2.1 109 109).toInt + (t.2.2.1 109 111).toInt = (s.2.2.1 109 109).toInt + (s.2.2.1 109 111).toInt) ∧ v = none ∧ u = WW Z A t ++ ex ∧ (PR s t 1 1)) X := by
  intro post xp hP hX
  have ct0 : ∀ (k0 : Nat) (sc0 : GS) (w0_109_109 : Int32) (w0_109_111 : Int32), Inv sc0 → Fr fm_400 s sc0 → (w0_109_109 = sc0.2.2.1 109 109) → (w0_109_111 = sc0.2.2.1 109 111) → ((w0_109_109).toInt + (w0_109_111).toInt = (u_109_109).toInt + (u_109_111).toInt) → (PR s sc0 1 1) → (w0_109_111).toInt < (k0 : Int) → GG Z (d - 1) 400 post (gx xp) (1 + k0 * 900) 0 (fun j => xlook j [(0, .ref (A 109))]) [] (WW Z A sc0 ++ ex) 0 0 := by
    intro k0
    induction k0 with
    | zero => intro sc0 w0_109_109 w0_109_111 hIc0 hFc0 v0_109_109 v0_109_111 n0_0 g0_0 mm0; exfalso; (first | have a0 := oa2 ((inv_F hIc0 0 200 rfl v0_109_111)) ((inv_F hIc0 0 400 rfl v0_109_109)) | ((first | have a0 := in_u ((inv_F hIc0 0 200 rfl v0_109_111)) | (have a0 := (inv_F hIc0 0 200 rfl v0_109_111); unfold In at a0)); (first | have a1 := in_u ((inv_F hIc0 0 400 rfl v0_109_109)) | (have a1 := (inv_F hIc0 0 400 rfl v0_109_109); unfold In at a1)))); omega
    | succ k0 ih0 =>
      intro sc0 w0_109_109 w0_109_111 hIc0 hFc0 v0_109_109 v0_109_111 n0_0 g0_0 mm0
      refine gg_w (M := 1 + k0 * 900 + 900) gws ?_
      refine g_aload_n 1 (gd rfl) rfl rfl ?_
      refine g_callv (X := _) (As := []) (r := []) (b := A 109) (q := 109) 4 (gd rfl) rfl rfl rfl rfl rfl (ww_o rfl) (Nat.le_of_ble_eq_true rfl) (mc := 0) (ms := 0) (Nat.zero_le _) (Nat.zero_le _) (P := fun v u => _) ?_ (fun e u h => h) (fun v u h => h)
      intro po1 xx1 hp1 hx1
      refine g_enter2 (k := 395) (N := 300) (by first | exact dq1 hd rfl | exact dq0 hd rfl | exact dq2 hd rfl | exact dq3 hd rfl | omega) rfl (Nat.le_of_ble_eq_true rfl) ?_
      refine g_aload_n 1 (gd rfl) rfl rfl ?_
      refine g_getI 4 (gd rfl) rfl rfl rfl (fun z1x1 e1x1 => ?_)
      have q1x1 : w0_109_111 = z1x1 := (v0_109_111).trans e1x1.symm
      subst q1x1
      refine g_if_ne 7 11 (gd rfl) rfl rfl (fun c1x4 => ?_) (fun c1x4 => ?_)
      · skip
        have i1x4 := z_ne 1 200 c1x4 (inv_F hIc0 0 200 rfl v0_109_111) rfl
        refine g_aload_n 12 (gd rfl) rfl rfl ?_
        refine g_getA (q2 := 190) 15 (gd rfl) rfl rfl rfl rfl ?_
        refine g_aload_n 16 (gd rfl) rfl rfl ?_
        refine g_getI 19 (gd rfl) rfl rfl rfl (fun z1x16 e1x16 => ?_)
        have q1x16 : w0_109_111 = z1x16 := (v0_109_111).trans e1x16.symm
        subst q1x16
        refine g_iconst 1 20 (gd rfl) rfl rfl ?_
        refine g_isub 21 (gd rfl) rfl (fun z1x20 e1x20 => ?_)
        have i1x20 := in_sub 0 199 e1x20 i1x4 (in_c 1 rfl) rfl rfl
        refine g_iaload 22 (gd rfl) rfl (n := 200) rfl (in_ix i1x20 rfl) (fun z1x21 e1x21 => ?_)
        refine g_ireturn (gd rfl) rfl rfl (hp1 _ _ ?_)
        show GG _ _ _ _ _ _ _ _ [.int z1x21] _ _ _
        refine g_iconst 2 5 (gd rfl) rfl rfl ?_
        refine g_cmp_ne 8 21 (gd rfl) rfl rfl (fun c5 => ?_) (fun c5 => ?_)
        · skip
          have n21 : PR s sc0 1 1 := by exact g0_0
          have n21a : (w0_109_109).toInt + (w0_109_111).toInt = (u_109_109).toInt + (u_109_111).toInt := by first | exact n0_0 | ((first | have a0 := oa3 i1x4 ((inv_F hIc0 0 400 rfl v0_109_109)) i1x20 | ((first | have a0 := in_u i1x4 | (have a0 := i1x4; unfold In at a0)); (first | have a1 := in_u ((inv_F hIc0 0 400 rfl v0_109_109)) | (have a1 := (inv_F hIc0 0 400 rfl v0_109_109); unfold In at a1)); (first | have a2 := in_u i1x20 | (have a2 := i1x20; unfold In at a2)))); have a3 := t_sub e1x20 i1x4 (in_c 1 rfl) rfl; (first | have a4 := in_u ((in_c 1 rfl)) | (have a4 := (in_c 1 rfl); unfold In at a4)); omega)
          have n21b : (sc0.2.2.1 109 109).toInt + (sc0.2.2.1 109 111).toInt = (s.2.2.1 109 109).toInt + (s.2.2.1 109 111).toInt := by have b0 : w0_109_109 = sc0.2.2.1 109 109 := v0_109_109; have b1 : w0_109_111 = sc0.2.2.1 109 111 := v0_109_111; first | (rw [← b0, ← b1, ← e_109_109, ← e_109_111]; exact n21a) | (rw [← b0, ← b1]; exact n21a)
          exact g_return (gd rfl) rfl (hP _ _ ⟨sc0, hIc0, hFc0, n21b, rfl, rfl, n21⟩)
        · skip
          have i5 := r_eq1 2 2 c5 (i_rng z1x21) (in_c 2 rfl) rfl
          refine g_aload_n 9 (gd rfl) rfl rfl ?_
          refine g_iconst 2 10 (gd rfl) rfl rfl ?_
          refine g_iconst 0 11 (gd rfl) rfl rfl ?_
          have n11 : (w0_109_109).toInt ≤ 399 := by (first | have a0 := oa3 i1x4 ((inv_F hIc0 0 400 rfl v0_109_109)) i1x20 | ((first | have a0 := in_u i1x4 | (have a0 := i1x4; unfold In at a0)); (first | have a1 := in_u ((inv_F hIc0 0 400 rfl v0_109_109)) | (have a1 := (inv_F hIc0 0 400 rfl v0_109_109); unfold In at a1)); (first | have a2 := in_u i1x20 | (have a2 := i1x20; unfold In at a2)))); have a3 := t_sub e1x20 i1x4 (in_c 1 rfl) rfl; (first | have a4 := in_u ((in_c 1 rfl)) | (have a4 := (in_c 1 rfl); unfold In at a4)); omega
          refine g_callv (X := _) (As := [.int (Int32.ofInt 2), .int (Int32.ofInt 0)]) (r := []) (b := A 109) (q := 109) 14 (gd rfl) rfl rfl rfl rfl rfl (ww_o rfl) (Nat.le_of_ble_eq_true rfl) (Nat.zero_le _) (Nat.zero_le _) (k_393 (by first | exact dq1 hd rfl | exact dq0 hd rfl | exact dq2 hd rfl | exact dq3 hd rfl | omega) hIc0 v0_109_109 n11) (fun e u h => h) (fun v u h => ?_)
          obtain ⟨s11, hI11, hF11, n11a, rfl, rfl, p11, p11a⟩ := h
          obtain ⟨z11a, e11⟩ : ∃ w, w = s11.2.2.1 109 109 := ⟨_, rfl⟩
          have i11a := inv_F hI11 0 400 rfl e11
          rw [← (show w0_109_109 = sc0.2.2.1 109 109 from v0_109_109)] at n11a
          rw [← (show z11a = s11.2.2.1 109 109 from e11)] at n11a
          show GG _ _ _ _ _ _ _ _ [] _ _ _
          refine g_aload_n 15 (gd rfl) rfl rfl ?_
          have v15 : w0_109_111 = s11.2.2.1 109 111 := fr_F (v0_109_111) hF11 rfl
          have n15 : 1 ≤ (w0_109_111).toInt := by (first | have a0 := oa4 i1x4 ((inv_F hIc0 0 400 rfl v0_109_109)) i11a i1x20 | ((first | have a0 := in_u i1x4 | (have a0 := i1x4; unfold In at a0)); (first | have a1 := in_u ((inv_F hIc0 0 400 rfl v0_109_109)) | (have a1 := (inv_F hIc0 0 400 rfl v0_109_109); unfold In at a1)); (first | have a2 := in_u i11a | (have a2 := i11a; unfold In at a2)); (first | have a3 := in_u i1x20 | (have a3 := i1x20; unfold In at a3)))); have a4 := t_sub e1x20 i1x4 (in_c 1 rfl) rfl; (first | have a5 := in_u ((in_c 1 rfl)) | (have a5 := (in_c 1 rfl); unfold In at a5)); omega
          refine g_callv (X := _) (As := []) (r := []) (b := A 109) (q := 109) 18 (gd rfl) rfl rfl rfl rfl rfl (ww_o rfl) (Nat.le_of_ble_eq_true rfl) (Nat.zero_le _) (Nat.zero_le _) (k_397 (by first | exact dq1 hd rfl | exact dq0 hd rfl | exact dq2 hd rfl | exact dq3 hd rfl | omega) hI11 v15 n15) (fun e u h => h) (fun v u h => ?_)
          obtain ⟨s15, hI15, hF15, n15a, rfl, rfl⟩ := h
          obtain ⟨z15a, e15⟩ : ∃ w, w = s15.2.2.1 109 111 := ⟨_, rfl⟩
          have i15a := inv_F hI15 0 200 rfl e15
          rw [← (show w0_109_111 = s11.2.2.1 109 111 from fr_F (v0_109_111) hF11 rfl)] at n15a
          rw [← (show z15a = s15.2.2.1 109 111 from e15)] at n15a
          show GG _ _ _ _ _ _ _ _ [] _ _ _
          refine g_goto 0 (gd rfl) rfl ?_
          have v0 : z11a = s15.2.2.1 109 109 := fr_F (e11) hF15 rfl
          have n0 : (z11a).toInt + (z15a).toInt = (u_109_109).toInt + (u_109_111).toInt := by (first | have a0 := oa5 i1x4 ((inv_F hIc0 0 400 rfl v0_109_109)) i15a i11a i1x20 | ((first | have a0 := in_u i1x4 | (have a0 := i1x4; unfold In at a0)); (first | have a1 := in_u ((inv_F hIc0 0 400 rfl v0_109_109)) | (have a1 := (inv_F hIc0 0 400 rfl v0_109_109); unfold In at a1)); (first | have a2 := in_u i15a | (have a2 := i15a; unfold In at a2)); (first | have a3 := in_u i11a | (have a3 := i11a; unfold In at a3)); (first | have a4 := in_u i1x20 | (have a4 := i1x20; unfold In at a4)))); have a5 := t_sub e1x20 i1x4 (in_c 1 rfl) rfl; (first | have a6 := in_u ((in_c 1 rfl)) | (have a6 := (in_c 1 rfl); unfold In at a6)); omega
          have n0a : PR s s15 1 1 := by first | exact pr_rf | (exact pr_tr g0_0 (pr_set (n := (sc0.2.2.1 109 109).toNatClampNeg) (x := Int32.ofInt 2) (v := Int32.ofInt 0) (b := z1x20) ((hF15.1 187 rfl).trans p11) ((hF15.1 188 rfl).trans p11a) rfl (inv_F hIc0 0 400 rfl rfl).1 (by rw [hF15.2.2.1 109 109 rfl, ← e11, ← v0_109_109]; exact n11a) ((hF15.2.2.1 109 23 rfl).trans (hF11.2.2.1 109 23 rfl)) ((hF15.1 190 rfl).trans (hF11.1 190 rfl)) (by rw [← e15]; (first | have a0 := oa5 i1x4 ((inv_F hIc0 0 400 rfl v0_109_109)) i15a i11a i1x20 | ((first | have a0 := in_u i1x4 | (have a0 := i1x4; unfold In at a0)); (first | have a1 := in_u ((inv_F hIc0 0 400 rfl v0_109_109)) | (have a1 := (inv_F hIc0 0 400 rfl v0_109_109); unfold In at a1)); (first | have a2 := in_u i15a | (have a2 := i15a; unfold In at a2)); (first | have a3 := in_u i11a | (have a3 := i11a; unfold In at a3)); (first | have a4 := in_u i1x20 | (have a4 := i1x20; unfold In at a4)))); have a5 := t_sub e1x20 i1x4 (in_c 1 rfl) rfl; (first | have a6 := in_u ((in_c 1 rfl)) | (have a6 := (in_c 1 rfl); unfold In at a6)); omega) (by rw [← v0_109_111]; (first | have a0 := oa5 i1x4 ((inv_F hIc0 0 400 rfl v0_109_109)) i15a i11a i1x20 | ((first | have a0 := in_u i1x4 | (have a0 := i1x4; unfold In at a0)); (first | have a1 := in_u ((inv_F hIc0 0 400 rfl v0_109_109)) | (have a1 := (inv_F hIc0 0 400 rfl v0_109_109); unfold In at a1)); (first | have a2 := in_u i15a | (have a2 := i15a; unfold In at a2)); (first | have a3 := in_u i11a | (have a3 := i11a; unfold In at a3)); (first | have a4 := in_u i1x20 | (have a4 := i1x20; unfold In at a4)))); have a5 := t_sub e1x20 i1x4 (in_c 1 rfl) rfl; (first | have a6 := in_u ((in_c 1 rfl)) | (have a6 := (in_c 1 rfl); unfold In at a6)); omega) i1x20.1 ((Int32.toInt_inj.mp c5).symm.trans e1x21) (Or.inr ⟨rfl, trivial⟩)))
          have m0 : (z15a).toInt < ((k0 : Nat) : Int) := by (first | have a0 := oa5 i1x4 ((inv_F hIc0 0 400 rfl v0_109_109)) i15a i11a i1x20 | ((first | have a0 := in_u i1x4 | (have a0 := i1x4; unfold In at a0)); (first | have a1 := in_u ((inv_F hIc0 0 400 rfl v0_109_109)) | (have a1 := (inv_F hIc0 0 400 rfl v0_109_109); unfold In at a1)); (first | have a2 := in_u i15a | (have a2 := i15a; unfold In at a2)); (first | have a3 := in_u i11a | (have a3 := i11a; unfold In at a3)); (first | have a4 := in_u i1x20 | (have a4 := i1x20; unfold In at a4)))); have a5 := t_sub e1x20 i1x4 (in_c 1 rfl) rfl; (first | have a6 := in_u ((in_c 1 rfl)) | (have a6 := (in_c 1 rfl); unfold In at a6)); omega
          exact gg_w (by first | exact Nat.le_add_right _ _ | exact gw2 | exact gw3 | exact gwe rfl | exact gwf rfl | exact gwg rfl | exact gwh rfl | omega) (gg_f (gf_cons rfl gf_nil) (ih0  s15 z11a z15a hI15 (fr_tr rfl (fr_tr rfl hFc0 hF11) hF15) v0 e15 n0 n0a m0))
      · skip
        have i1x4 := z_eq 0 0 c1x4 (inv_F hIc0 0 200 rfl v0_109_111) rfl
        refine g_iconst 0 8 (gd rfl) rfl rfl ?_
        refine g_goto 22 (gd rfl) rfl ?_
        refine g_ireturn (gd rfl) rfl rfl (hp1 _ _ ?_)
        show GG _ _ _ _ _ _ _ _ [.int (Int32.ofInt 0)] _ _ _
        refine g_iconst 2 5 (gd rfl) rfl rfl ?_
        refine g_cmp_ne 8 21 (gd rfl) rfl rfl (fun c5 => ?_) (fun c5 => ?_)
        · skip
          have n21 : PR s sc0 1 1 := by exact g0_0
          have n21a : (w0_109_109).toInt + (w0_109_111).toInt = (u_109_109).toInt + (u_109_111).toInt := by first | exact n0_0 | ((first | have a0 := oa2 i1x4 ((inv_F hIc0 0 400 rfl v0_109_109)) | ((first | have a0 := in_u i1x4 | (have a0 := i1x4; unfold In at a0)); (first | have a1 := in_u ((inv_F hIc0 0 400 rfl v0_109_109)) | (have a1 := (inv_F hIc0 0 400 rfl v0_109_109); unfold In at a1)))); omega)
          have n21b : (sc0.2.2.1 109 109).toInt + (sc0.2.2.1 109 111).toInt = (s.2.2.1 109 109).toInt + (s.2.2.1 109 111).toInt := by have b0 : w0_109_109 = sc0.2.2.1 109 109 := v0_109_109; have b1 : w0_109_111 = sc0.2.2.1 109 111 := v0_109_111; first | (rw [← b0, ← b1, ← e_109_109, ← e_109_111]; exact n21a) | (rw [← b0, ← b1]; exact n21a)
          exact g_return (gd rfl) rfl (hP _ _ ⟨sc0, hIc0, hFc0, n21b, rfl, rfl, n21⟩)
        · skip
          exact n_eq c5 (in_c 0 rfl) (in_c 2 rfl) rfl
  refine g_enter2 (k := 400) (N := 181801) (by first | exact dq1 hd rfl | exact dq0 hd rfl | exact dq2 hd rfl | exact dq3 hd rfl | omega) rfl (Nat.le_of_ble_eq_true rfl) ?_
  have n0 : (u_109_109).toInt + (u_109_111).toInt = (u_109_109).toInt + (u_109_111).toInt := by (first | have a0 := oa2 ((inv_F hI 0 200 rfl e_109_111)) ((inv_F hI 0 400 rfl e_109_109)) | ((first | have a0 := in_u ((inv_F hI 0 200 rfl e_109_111)) | (have a0 := (inv_F hI 0 200 rfl e_109_111); unfold In at a0)); (first | have a1 := in_u ((inv_F hI 0 400 rfl e_109_109)) | (have a1 := (inv_F hI 0 400 rfl e_109_109); unfold In at a1)))); omega
  have n0a : PR s s 1 1 := by first | exact pr_rf | (exact pr_tr g0_0 (pr_set (n := (sc0.2.2.1 109 109).toNatClampNeg) (x := Int32.ofInt 2) (v := Int32.ofInt 0) (b := z1x20) ((hF15.1 187 rfl).trans p11) ((hF15.1 188 rfl).trans p11a) rfl (inv_F hIc0 0 400 rfl rfl).1 (by rw [hF15.2.2.1 109 109 rfl, ← e11, ← v0_109_109]; exact n11a) ((hF15.2.2.1 109 23 rfl).trans (hF11.2.2.1 109 23 rfl)) ((hF15.1 190 rfl).trans (hF11.1 190 rfl)) (by rw [← e15]; (first | have a0 := oa2 ((inv_F hI 0 200 rfl e_109_111)) ((inv_F hI 0 400 rfl e_109_109)) | ((first | have a0 := in_u ((inv_F hI 0 200 rfl e_109_111)) | (have a0 := (inv_F hI 0 200 rfl e_109_111); unfold In at a0)); (first | have a1 := in_u ((inv_F hI 0 400 rfl e_109_109)) | (have a1 := (inv_F hI 0 400 rfl e_109_109); unfold In at a1)))); omega) (by rw [← v0_109_111]; (first | have a0 := oa2 ((inv_F hI 0 200 rfl e_109_111)) ((inv_F hI 0 400 rfl e_109_109)) | ((first | have a0 := in_u ((inv_F hI 0 200 rfl e_109_111)) | (have a0 := (inv_F hI 0 200 rfl e_109_111); unfold In at a0)); (first | have a1 := in_u ((inv_F hI 0 400 rfl e_109_109)) | (have a1 := (inv_F hI 0 400 rfl e_109_109); unfold In at a1)))); omega) i1x20.1 ((Int32.toInt_inj.mp c5).symm.trans e1x21) (Or.inr ⟨rfl, trivial⟩)))
  have m0 : (u_109_111).toInt < ((201 : Nat) : Int) := by (first | have a0 := oa2 ((inv_F hI 0 200 rfl e_109_111)) ((inv_F hI 0 400 rfl e_109_109)) | ((first | have a0 := in_u ((inv_F hI 0 200 rfl e_109_111)) | (have a0 := (inv_F hI 0 200 rfl e_109_111); unfold In at a0)); (first | have a1 := in_u ((inv_F hI 0 400 rfl e_109_109)) | (have a1 := (inv_F hI 0 400 rfl e_109_109); unfold In at a1)))); omega
  exact gg_w (by first | exact Nat.le_of_ble_eq_true rfl | omega) (gg_f (gf_cons rfl gf_nil) (ct0 201 s u_109_109 u_109_111 hI fr_rf e_109_109 e_109_111 n0 n0a m0))

def fm_298 : FM := ([], [], [(109, 23), (109, 24)], [])
/-- GraphHouseModel.blame -/
theorem k_298 {Z : AmZ} {A : Nat → Nat} {s : GS} {ex : va_W} {d : Nat} {X : AmX} {x1 : Int32} {x2 : Int32} (hd : 1 ≤ d) (hI : Inv s) (h1 : In x1 1 5) : GC Z d 298 [.ref (A 109), .int x1, .int x2] (WW Z A s ++ ex) 0 0 (fun v u => ∃ t : GS, Inv t ∧ Fr fm_298 s t ∧ (1 ≤ (t.2.2.1 109 23).toInt) ∧ v = none ∧ u = WW Z A t ++ ex) X := by
  intro post xp hP hX
  refine g_enter2 (k := 298) (N := 900) (by first | exact dq1 hd rfl | exact dq0 hd rfl | exact dq2 hd rfl | exact dq3 hd rfl | omega) rfl (Nat.le_of_ble_eq_true rfl) ?_
  refine g_aload_n 1 (gd rfl) rfl rfl ?_
  refine g_getI 4 (gd rfl) rfl rfl rfl (fun z1 e1 => ?_)
  have i1 := inv_F hI 0 9 rfl e1
  refine g_if_ne 7 17 (gd rfl) rfl rfl (fun c4 => ?_) (fun c4 => ?_)
  · skip
    have i4 := z_ne 1 9 c4 i1 rfl
    have n17 : 1 ≤ (z1).toInt := by (first | have a0 := oa2 h1 i4 | ((first | have a0 := in_u h1 | (have a0 := h1; unfold In at a0)); (first | have a1 := in_u i4 | (have a1 := i4; unfold In at a1)))); omega
    have n17a : 1 ≤ (s.2.2.1 109 23).toInt := by have b0 : z1 = s.2.2.1 109 23 := e1; rw [← b0]; exact n17
    exact g_return (gd rfl) rfl (hP _ _ ⟨s, hI, fr_rf, n17a, rfl, rfl⟩)
  · skip
    have i4 := z_eq 0 0 c4 i1 rfl
    refine g_aload_n 8 (gd rfl) rfl rfl ?_
    refine g_iload_n 9 (gd rfl) rfl rfl ?_
    refine g_putI 12 (gd rfl) rfl rfl rfl rfl ?_
    have hI9 := inv_sF (q := 109) (j := 23) hI rfl (in_w 0 9 h1 rfl)
    refine g_aload_n 13 (gd rfl) rfl rfl ?_
    refine g_iload_n 14 (gd rfl) rfl rfl ?_
    refine g_putI 17 (gd rfl) rfl rfl rfl rfl ?_
    have hI14 := inv_sF (q := 109) (j := 24) hI9 rfl (in_w (-2147483648) 2147483647 (i_rng x2) rfl)
    have n17 : 1 ≤ (x1).toInt := by (first | have a0 := in_u h1 | (have a0 := h1; unfold In at a0)); omega
    have n17a : 1 ≤ ((sF (sF s 109 23 x1) 109 24 x2).2.2.1 109 23).toInt := by have b0 : x1 = (sF (sF s 109 23 x1) 109 24 x2).2.2.1 109 23 := sF_ne rfl (sF_get); rw [← b0]; exact n17
    exact g_return (gd rfl) rfl (hP _ _ ⟨(sF (sF s 109 23 x1) 109 24 x2), hI14, (fr_sF rfl (fr_sF rfl fr_rf)), n17a, rfl, rfl⟩)

/-- GraphHouseModel.product -/
theorem k_406 {Z : AmZ} {A : Nat → Nat} {s : GS} {ex : va_W} {d : Nat} {X : AmX} {x0 : Int64} {x1 : Int64} (hd : 1 ≤ d) (hI : Inv s)  : GC Z d 406 [.long x0, .long x1] (WW Z A s ++ ex) 0 0 (fun v u => ∃ z : Int64, v = some (.long z) ∧ u = WW Z A s ++ ex) X := by
  intro post xp hP hX
  refine g_enter2 (k := 406) (N := 900) (by first | exact dq1 hd rfl | exact dq0 hd rfl | exact dq2 hd rfl | exact dq3 hd rfl | omega) rfl (Nat.le_of_ble_eq_true rfl) ?_
  refine g_lload_n 1 (gd rfl) rfl rfl ?_
  refine g_lconst 0 2 (gd rfl) rfl rfl ?_
  refine g_lcmp 3 (gd rfl) rfl (fun z2 e2 => ?_)
  have i2 := lc_in e2
  refine g_if_eq 6 12 (gd rfl) rfl rfl (fun c3 => ?_) (fun c3 => ?_)
  · skip
    have i3 := z_eq 0 0 c3 i2 rfl
    have c3a := lc_eq e2 c3
    have i3a := lr_eq1 0 0 c3a (l_rng x0) (l_c 0 rfl) rfl
    refine g_lconst 0 13 (gd rfl) rfl rfl ?_
    exact g_lreturn (gd rfl) rfl (hP _ _ ⟨(Int64.ofInt 0), rfl, rfl⟩)
  · skip
    have c3a := lc_ne e2 c3
    refine g_lload_n 7 (gd rfl) rfl rfl ?_
    refine g_lconst 0 8 (gd rfl) rfl rfl ?_
    refine g_lcmp 9 (gd rfl) rfl (fun z8 e8 => ?_)
    have i8 := lc_in e8
    refine g_if_ne 12 14 (gd rfl) rfl rfl (fun c9 => ?_) (fun c9 => ?_)
    · skip
      have c9a := lc_ne e8 c9
      refine g_lload_n 15 (gd rfl) rfl rfl ?_
      refine g_lconst 0 16 (gd rfl) rfl rfl ?_
      refine g_lcmp 17 (gd rfl) rfl (fun z16 e16 => ?_)
      have i16 := lc_in e16
      refine g_if_ge 20 25 (gd rfl) rfl rfl (fun c17 => ?_) (fun c17 => ?_)
      · skip
        have i17 := z_ge 0 1 c17 i16 rfl
        have c17a := lc_ge e16 c17
        have i17a := lr_le2 0 9223372036854775807 c17a (l_c 0 rfl) (l_rng x0) rfl
        refine g_lload_n 26 (gd rfl) rfl rfl ?_
        refine g_lstore 28 (gd rfl) rfl (Nat.le_of_ble_eq_true rfl) ?_
        refine g_lload_n 29 (gd rfl) rfl rfl ?_
        refine g_lconst 0 30 (gd rfl) rfl rfl ?_
        refine g_lcmp 31 (gd rfl) rfl (fun z30 e30 => ?_)
        have i30 := lc_in e30
        refine g_if_ge 34 39 (gd rfl) rfl rfl (fun c31 => ?_) (fun c31 => ?_)
        · skip
          have i31 := z_ge 0 1 c31 i30 rfl
          have c31a := lc_ge e30 c31
          have i31a := lr_le2 0 9223372036854775807 c31a (l_c 0 rfl) (l_rng x1) rfl
          refine g_lload_n 40 (gd rfl) rfl rfl ?_
          refine g_lstore 42 (gd rfl) rfl (Nat.le_of_ble_eq_true rfl) ?_
          refine g_lload 44 (gd rfl) rfl rfl ?_
          refine g_ldc2_w 1000000000000 47 (gd rfl) rfl rfl ?_
          refine g_lload 49 (gd rfl) rfl rfl ?_
          refine g_ldiv 50 (gd rfl) rfl (lnz (nz_l c9a)) (fun z49 e49 => ?_)
          refine g_lcmp 51 (gd rfl) rfl (fun z50 e50 => ?_)
          have i50 := lc_in e50
          refine g_if_le 54 60 (gd rfl) rfl rfl (fun c51 => ?_) (fun c51 => ?_)
          · skip
            have i51 := z_le (-1) 0 c51 i50 rfl
            have c51a := lc_le e50 c51
            have i51a := lr_le2 0 9223372036854775807 c51a i17a (l_rng z49) rfl
            refine g_lload 62 (gd rfl) rfl rfl ?_
            refine g_lload 64 (gd rfl) rfl rfl ?_
            refine g_lmul 65 (gd rfl) rfl (fun z64 e64 => ?_)
            refine g_lstore 67 (gd rfl) rfl (Nat.le_of_ble_eq_true rfl) ?_
            refine g_lload_n 68 (gd rfl) rfl rfl ?_
            refine g_lconst 0 69 (gd rfl) rfl rfl ?_
            refine g_lcmp 70 (gd rfl) rfl (fun z69 e69 => ?_)
            have i69 := lc_in e69
            refine g_if_ge 73 77 (gd rfl) rfl rfl (fun c70 => ?_) (fun c70 => ?_)
            · skip
              have i70 := z_ge 0 1 c70 i69 rfl
              have c70a := lc_ge e69 c70
              refine g_iconst 0 78 (gd rfl) rfl rfl ?_
              refine g_lload_n 79 (gd rfl) rfl rfl ?_
              refine g_lconst 0 80 (gd rfl) rfl rfl ?_
              refine g_lcmp 81 (gd rfl) rfl (fun z80 e80 => ?_)
              have i80 := lc_in e80
              refine g_if_ge 84 88 (gd rfl) rfl rfl (fun c81 => ?_) (fun c81 => ?_)
              · skip
                have i81 := z_ge 0 1 c81 i80 rfl
                have c81a := lc_ge e80 c81
                refine g_iconst 0 89 (gd rfl) rfl rfl ?_
                refine g_cmp_ne 92 97 (gd rfl) rfl rfl (fun c89 => ?_) (fun c89 => ?_)
                · skip
                  exact n_ne c89 (in_c 0 rfl) (in_c 0 rfl) rfl
                · skip
                  refine g_lload 94 (gd rfl) rfl rfl ?_
                  refine g_goto 100 (gd rfl) rfl ?_
                  exact g_lreturn (gd rfl) rfl (hP _ _ ⟨z64, rfl, rfl⟩)
              · skip
                have i81 := z_lt (-1) (-1) c81 i80 rfl
                have c81a := lc_lt e80 c81
                exact ln_lt c81a i31a (l_c 0 rfl) rfl
            · skip
              have i70 := z_lt (-1) (-1) c70 i69 rfl
              have c70a := lc_lt e69 c70
              exact ln_lt c70a i17a (l_c 0 rfl) rfl
          · skip
            have i51 := z_gt 1 1 c51 i50 rfl
            have c51a := lc_gt e50 c51
            have i51a := lr_lt1 (-9223372036854775808) 9223372036854775806 c51a (l_rng z49) i17a rfl
            refine g_ldc2_w 1000000000000 57 (gd rfl) rfl rfl ?_
            refine g_goto 65 (gd rfl) rfl ?_
            refine g_lstore 67 (gd rfl) rfl (Nat.le_of_ble_eq_true rfl) ?_
            refine g_lload_n 68 (gd rfl) rfl rfl ?_
            refine g_lconst 0 69 (gd rfl) rfl rfl ?_
            refine g_lcmp 70 (gd rfl) rfl (fun z69 e69 => ?_)
            have i69 := lc_in e69
            refine g_if_ge 73 77 (gd rfl) rfl rfl (fun c70 => ?_) (fun c70 => ?_)
            · skip
              have i70 := z_ge 0 1 c70 i69 rfl
              have c70a := lc_ge e69 c70
              refine g_iconst 0 78 (gd rfl) rfl rfl ?_
              refine g_lload_n 79 (gd rfl) rfl rfl ?_
              refine g_lconst 0 80 (gd rfl) rfl rfl ?_
              refine g_lcmp 81 (gd rfl) rfl (fun z80 e80 => ?_)
              have i80 := lc_in e80
              refine g_if_ge 84 88 (gd rfl) rfl rfl (fun c81 => ?_) (fun c81 => ?_)
              · skip
                have i81 := z_ge 0 1 c81 i80 rfl
                have c81a := lc_ge e80 c81
                refine g_iconst 0 89 (gd rfl) rfl rfl ?_
                refine g_cmp_ne 92 97 (gd rfl) rfl rfl (fun c89 => ?_) (fun c89 => ?_)
                · skip
                  exact n_ne c89 (in_c 0 rfl) (in_c 0 rfl) rfl
                · skip
                  refine g_lload 94 (gd rfl) rfl rfl ?_
                  refine g_goto 100 (gd rfl) rfl ?_
                  exact g_lreturn (gd rfl) rfl (hP _ _ ⟨(Int64.ofInt 1000000000000), rfl, rfl⟩)
              · skip
                have i81 := z_lt (-1) (-1) c81 i80 rfl
                have c81a := lc_lt e80 c81
                exact ln_lt c81a i31a (l_c 0 rfl) rfl
            · skip
              have i70 := z_lt (-1) (-1) c70 i69 rfl
              have c70a := lc_lt e69 c70
              exact ln_lt c70a i17a (l_c 0 rfl) rfl
        · skip
          have i31 := z_lt (-1) (-1) c31 i30 rfl
          have c31a := lc_lt e30 c31
          have i31a := lr_lt1 (-9223372036854775808) (-1) c31a (l_rng x1) (l_c 0 rfl) rfl
          refine g_lload_n 35 (gd rfl) rfl rfl ?_
          refine g_lneg 36 (gd rfl) rfl (fun z35 e35 => ?_)
          refine g_goto 40 (gd rfl) rfl ?_
          refine g_lstore 42 (gd rfl) rfl (Nat.le_of_ble_eq_true rfl) ?_
          refine g_lload 44 (gd rfl) rfl rfl ?_
          refine g_ldc2_w 1000000000000 47 (gd rfl) rfl rfl ?_
          refine g_lload 49 (gd rfl) rfl rfl ?_
          refine g_ldiv 50 (gd rfl) rfl (lnz (lneg_nz e35 (nz_l c9a))) (fun z49 e49 => ?_)
          refine g_lcmp 51 (gd rfl) rfl (fun z50 e50 => ?_)
          have i50 := lc_in e50
          refine g_if_le 54 60 (gd rfl) rfl rfl (fun c51 => ?_) (fun c51 => ?_)
          · skip
            have i51 := z_le (-1) 0 c51 i50 rfl
            have c51a := lc_le e50 c51
            have i51a := lr_le2 0 9223372036854775807 c51a i17a (l_rng z49) rfl
            refine g_lload 62 (gd rfl) rfl rfl ?_
            refine g_lload 64 (gd rfl) rfl rfl ?_
            refine g_lmul 65 (gd rfl) rfl (fun z64 e64 => ?_)
            refine g_lstore 67 (gd rfl) rfl (Nat.le_of_ble_eq_true rfl) ?_
            refine g_lload_n 68 (gd rfl) rfl rfl ?_
            refine g_lconst 0 69 (gd rfl) rfl rfl ?_
            refine g_lcmp 70 (gd rfl) rfl (fun z69 e69 => ?_)
            have i69 := lc_in e69
            refine g_if_ge 73 77 (gd rfl) rfl rfl (fun c70 => ?_) (fun c70 => ?_)
            · skip
              have i70 := z_ge 0 1 c70 i69 rfl
              have c70a := lc_ge e69 c70
              refine g_iconst 0 78 (gd rfl) rfl rfl ?_
              refine g_lload_n 79 (gd rfl) rfl rfl ?_
              refine g_lconst 0 80 (gd rfl) rfl rfl ?_
              refine g_lcmp 81 (gd rfl) rfl (fun z80 e80 => ?_)
              have i80 := lc_in e80
              refine g_if_ge 84 88 (gd rfl) rfl rfl (fun c81 => ?_) (fun c81 => ?_)
              · skip
                have i81 := z_ge 0 1 c81 i80 rfl
                have c81a := lc_ge e80 c81
                exact ln_le c81a (l_c 0 rfl) i31a rfl
              · skip
                have i81 := z_lt (-1) (-1) c81 i80 rfl
                have c81a := lc_lt e80 c81
                refine g_iconst 1 85 (gd rfl) rfl rfl ?_
                refine g_goto 89 (gd rfl) rfl ?_
                refine g_cmp_ne 92 97 (gd rfl) rfl rfl (fun c89 => ?_) (fun c89 => ?_)
                · skip
                  refine g_lload 99 (gd rfl) rfl rfl ?_
                  refine g_lneg 100 (gd rfl) rfl (fun z99 e99 => ?_)
                  exact g_lreturn (gd rfl) rfl (hP _ _ ⟨z99, rfl, rfl⟩)
                · skip
                  exact n_eq c89 (in_c 0 rfl) (in_c 1 rfl) rfl
            · skip
              have i70 := z_lt (-1) (-1) c70 i69 rfl
              have c70a := lc_lt e69 c70
              exact ln_lt c70a i17a (l_c 0 rfl) rfl
          · skip
            have i51 := z_gt 1 1 c51 i50 rfl
            have c51a := lc_gt e50 c51
            have i51a := lr_lt1 (-9223372036854775808) 9223372036854775806 c51a (l_rng z49) i17a rfl
            refine g_ldc2_w 1000000000000 57 (gd rfl) rfl rfl ?_
            refine g_goto 65 (gd rfl) rfl ?_
            refine g_lstore 67 (gd rfl) rfl (Nat.le_of_ble_eq_true rfl) ?_
            refine g_lload_n 68 (gd rfl) rfl rfl ?_
            refine g_lconst 0 69 (gd rfl) rfl rfl ?_
            refine g_lcmp 70 (gd rfl) rfl (fun z69 e69 => ?_)
            have i69 := lc_in e69
            refine g_if_ge 73 77 (gd rfl) rfl rfl (fun c70 => ?_) (fun c70 => ?_)
            · skip
              have i70 := z_ge 0 1 c70 i69 rfl
              have c70a := lc_ge e69 c70
              refine g_iconst 0 78 (gd rfl) rfl rfl ?_
              refine g_lload_n 79 (gd rfl) rfl rfl ?_
              refine g_lconst 0 80 (gd rfl) rfl rfl ?_
              refine g_lcmp 81 (gd rfl) rfl (fun z80 e80 => ?_)
              have i80 := lc_in e80
              refine g_if_ge 84 88 (gd rfl) rfl rfl (fun c81 => ?_) (fun c81 => ?_)
              · skip
                have i81 := z_ge 0 1 c81 i80 rfl
                have c81a := lc_ge e80 c81
                exact ln_le c81a (l_c 0 rfl) i31a rfl
              · skip
                have i81 := z_lt (-1) (-1) c81 i80 rfl
                have c81a := lc_lt e80 c81
                refine g_iconst 1 85 (gd rfl) rfl rfl ?_
                refine g_goto 89 (gd rfl) rfl ?_
                refine g_cmp_ne 92 97 (gd rfl) rfl rfl (fun c89 => ?_) (fun c89 => ?_)
                · skip
                  refine g_lload 99 (gd rfl) rfl rfl ?_
                  refine g_lneg 100 (gd rfl) rfl (fun z99 e99 => ?_)
                  exact g_lreturn (gd rfl) rfl (hP _ _ ⟨z99, rfl, rfl⟩)
                · skip
                  exact n_eq c89 (in_c 0 rfl) (in_c 1 rfl) rfl
            · skip
              have i70 := z_lt (-1) (-1) c70 i69 rfl
              have c70a := lc_lt e69 c70
              exact ln_lt c70a i17a (l_c 0 rfl) rfl
      · skip
        have i17 := z_lt (-1) (-1) c17 i16 rfl
        have c17a := lc_lt e16 c17
        have i17a := lr_lt1 (-9223372036854775808) (-1) c17a (l_rng x0) (l_c 0 rfl) rfl
        refine g_lload_n 21 (gd rfl) rfl rfl ?_
        refine g_lneg 22 (gd rfl) rfl (fun z21 e21 => ?_)
        refine g_goto 26 (gd rfl) rfl ?_
        refine g_lstore 28 (gd rfl) rfl (Nat.le_of_ble_eq_true rfl) ?_
        refine g_lload_n 29 (gd rfl) rfl rfl ?_
        refine g_lconst 0 30 (gd rfl) rfl rfl ?_
        refine g_lcmp 31 (gd rfl) rfl (fun z30 e30 => ?_)
        have i30 := lc_in e30
        refine g_if_ge 34 39 (gd rfl) rfl rfl (fun c31 => ?_) (fun c31 => ?_)
        · skip
          have i31 := z_ge 0 1 c31 i30 rfl
          have c31a := lc_ge e30 c31
          have i31a := lr_le2 0 9223372036854775807 c31a (l_c 0 rfl) (l_rng x1) rfl
          refine g_lload_n 40 (gd rfl) rfl rfl ?_
          refine g_lstore 42 (gd rfl) rfl (Nat.le_of_ble_eq_true rfl) ?_
          refine g_lload 44 (gd rfl) rfl rfl ?_
          refine g_ldc2_w 1000000000000 47 (gd rfl) rfl rfl ?_
          refine g_lload 49 (gd rfl) rfl rfl ?_
          refine g_ldiv 50 (gd rfl) rfl (lnz (nz_l c9a)) (fun z49 e49 => ?_)
          refine g_lcmp 51 (gd rfl) rfl (fun z50 e50 => ?_)
          have i50 := lc_in e50
          refine g_if_le 54 60 (gd rfl) rfl rfl (fun c51 => ?_) (fun c51 => ?_)
          · skip
            have i51 := z_le (-1) 0 c51 i50 rfl
            have c51a := lc_le e50 c51
            refine g_lload 62 (gd rfl) rfl rfl ?_
            refine g_lload 64 (gd rfl) rfl rfl ?_
            refine g_lmul 65 (gd rfl) rfl (fun z64 e64 => ?_)
            refine g_lstore 67 (gd rfl) rfl (Nat.le_of_ble_eq_true rfl) ?_
            refine g_lload_n 68 (gd rfl) rfl rfl ?_
            refine g_lconst 0 69 (gd rfl) rfl rfl ?_
            refine g_lcmp 70 (gd rfl) rfl (fun z69 e69 => ?_)
            have i69 := lc_in e69
            refine g_if_ge 73 77 (gd rfl) rfl rfl (fun c70 => ?_) (fun c70 => ?_)
            · skip
              have i70 := z_ge 0 1 c70 i69 rfl
              have c70a := lc_ge e69 c70
              exact ln_le c70a (l_c 0 rfl) i17a rfl
            · skip
              have i70 := z_lt (-1) (-1) c70 i69 rfl
              have c70a := lc_lt e69 c70
              refine g_iconst 1 74 (gd rfl) rfl rfl ?_
              refine g_goto 78 (gd rfl) rfl ?_
              refine g_lload_n 79 (gd rfl) rfl rfl ?_
              refine g_lconst 0 80 (gd rfl) rfl rfl ?_
              refine g_lcmp 81 (gd rfl) rfl (fun z80 e80 => ?_)
              have i80 := lc_in e80
              refine g_if_ge 84 88 (gd rfl) rfl rfl (fun c81 => ?_) (fun c81 => ?_)
              · skip
                have i81 := z_ge 0 1 c81 i80 rfl
                have c81a := lc_ge e80 c81
                refine g_iconst 0 89 (gd rfl) rfl rfl ?_
                refine g_cmp_ne 92 97 (gd rfl) rfl rfl (fun c89 => ?_) (fun c89 => ?_)
                · skip
                  refine g_lload 99 (gd rfl) rfl rfl ?_
                  refine g_lneg 100 (gd rfl) rfl (fun z99 e99 => ?_)
                  exact g_lreturn (gd rfl) rfl (hP _ _ ⟨z99, rfl, rfl⟩)
                · skip
                  exact n_eq c89 (in_c 1 rfl) (in_c 0 rfl) rfl
              · skip
                have i81 := z_lt (-1) (-1) c81 i80 rfl
                have c81a := lc_lt e80 c81
                exact ln_lt c81a i31a (l_c 0 rfl) rfl
          · skip
            have i51 := z_gt 1 1 c51 i50 rfl
            have c51a := lc_gt e50 c51
            have i51a := lr_lt1 (-9223372036854775808) 9223372036854775806 c51a (l_rng z49) (l_rng z21) rfl
            have i51b := lr_lt2 (-9223372036854775807) 9223372036854775807 c51a (l_rng z49) (l_rng z21) rfl
            refine g_ldc2_w 1000000000000 57 (gd rfl) rfl rfl ?_
            refine g_goto 65 (gd rfl) rfl ?_
            refine g_lstore 67 (gd rfl) rfl (Nat.le_of_ble_eq_true rfl) ?_
            refine g_lload_n 68 (gd rfl) rfl rfl ?_
            refine g_lconst 0 69 (gd rfl) rfl rfl ?_
            refine g_lcmp 70 (gd rfl) rfl (fun z69 e69 => ?_)
            have i69 := lc_in e69
            refine g_if_ge 73 77 (gd rfl) rfl rfl (fun c70 => ?_) (fun c70 => ?_)
            · skip
              have i70 := z_ge 0 1 c70 i69 rfl
              have c70a := lc_ge e69 c70
              exact ln_le c70a (l_c 0 rfl) i17a rfl
            · skip
              have i70 := z_lt (-1) (-1) c70 i69 rfl
              have c70a := lc_lt e69 c70
              refine g_iconst 1 74 (gd rfl) rfl rfl ?_
              refine g_goto 78 (gd rfl) rfl ?_
              refine g_lload_n 79 (gd rfl) rfl rfl ?_
              refine g_lconst 0 80 (gd rfl) rfl rfl ?_
              refine g_lcmp 81 (gd rfl) rfl (fun z80 e80 => ?_)
              have i80 := lc_in e80
              refine g_if_ge 84 88 (gd rfl) rfl rfl (fun c81 => ?_) (fun c81 => ?_)
              · skip
                have i81 := z_ge 0 1 c81 i80 rfl
                have c81a := lc_ge e80 c81
                refine g_iconst 0 89 (gd rfl) rfl rfl ?_
                refine g_cmp_ne 92 97 (gd rfl) rfl rfl (fun c89 => ?_) (fun c89 => ?_)
                · skip
                  refine g_lload 99 (gd rfl) rfl rfl ?_
                  refine g_lneg 100 (gd rfl) rfl (fun z99 e99 => ?_)
                  exact g_lreturn (gd rfl) rfl (hP _ _ ⟨z99, rfl, rfl⟩)
                · skip
                  exact n_eq c89 (in_c 1 rfl) (in_c 0 rfl) rfl
              · skip
                have i81 := z_lt (-1) (-1) c81 i80 rfl
                have c81a := lc_lt e80 c81
                exact ln_lt c81a i31a (l_c 0 rfl) rfl
        · skip
          have i31 := z_lt (-1) (-1) c31 i30 rfl
          have c31a := lc_lt e30 c31
          have i31a := lr_lt1 (-9223372036854775808) (-1) c31a (l_rng x1) (l_c 0 rfl) rfl
          refine g_lload_n 35 (gd rfl) rfl rfl ?_
          refine g_lneg 36 (gd rfl) rfl (fun z35 e35 => ?_)
          refine g_goto 40 (gd rfl) rfl ?_
          refine g_lstore 42 (gd rfl) rfl (Nat.le_of_ble_eq_true rfl) ?_
          refine g_lload 44 (gd rfl) rfl rfl ?_
          refine g_ldc2_w 1000000000000 47 (gd rfl) rfl rfl ?_
          refine g_lload 49 (gd rfl) rfl rfl ?_
          refine g_ldiv 50 (gd rfl) rfl (lnz (lneg_nz e35 (nz_l c9a))) (fun z49 e49 => ?_)
          refine g_lcmp 51 (gd rfl) rfl (fun z50 e50 => ?_)
          have i50 := lc_in e50
          refine g_if_le 54 60 (gd rfl) rfl rfl (fun c51 => ?_) (fun c51 => ?_)
          · skip
            have i51 := z_le (-1) 0 c51 i50 rfl
            have c51a := lc_le e50 c51
            refine g_lload 62 (gd rfl) rfl rfl ?_
            refine g_lload 64 (gd rfl) rfl rfl ?_
            refine g_lmul 65 (gd rfl) rfl (fun z64 e64 => ?_)
            refine g_lstore 67 (gd rfl) rfl (Nat.le_of_ble_eq_true rfl) ?_
            refine g_lload_n 68 (gd rfl) rfl rfl ?_
            refine g_lconst 0 69 (gd rfl) rfl rfl ?_
            refine g_lcmp 70 (gd rfl) rfl (fun z69 e69 => ?_)
            have i69 := lc_in e69
            refine g_if_ge 73 77 (gd rfl) rfl rfl (fun c70 => ?_) (fun c70 => ?_)
            · skip
              have i70 := z_ge 0 1 c70 i69 rfl
              have c70a := lc_ge e69 c70
              exact ln_le c70a (l_c 0 rfl) i17a rfl
            · skip
              have i70 := z_lt (-1) (-1) c70 i69 rfl
              have c70a := lc_lt e69 c70
              refine g_iconst 1 74 (gd rfl) rfl rfl ?_
              refine g_goto 78 (gd rfl) rfl ?_
              refine g_lload_n 79 (gd rfl) rfl rfl ?_
              refine g_lconst 0 80 (gd rfl) rfl rfl ?_
              refine g_lcmp 81 (gd rfl) rfl (fun z80 e80 => ?_)
              have i80 := lc_in e80
              refine g_if_ge 84 88 (gd rfl) rfl rfl (fun c81 => ?_) (fun c81 => ?_)
              · skip
                have i81 := z_ge 0 1 c81 i80 rfl
                have c81a := lc_ge e80 c81
                exact ln_le c81a (l_c 0 rfl) i31a rfl
              · skip
                have i81 := z_lt (-1) (-1) c81 i80 rfl
                have c81a := lc_lt e80 c81
                refine g_iconst 1 85 (gd rfl) rfl rfl ?_
                refine g_goto 89 (gd rfl) rfl ?_
                refine g_cmp_ne 92 97 (gd rfl) rfl rfl (fun c89 => ?_) (fun c89 => ?_)
                · skip
                  exact n_ne c89 (in_c 1 rfl) (in_c 1 rfl) rfl
                · skip
                  refine g_lload 94 (gd rfl) rfl rfl ?_
                  refine g_goto 100 (gd rfl) rfl ?_
                  exact g_lreturn (gd rfl) rfl (hP _ _ ⟨z64, rfl, rfl⟩)
          · skip
            have i51 := z_gt 1 1 c51 i50 rfl
            have c51a := lc_gt e50 c51
            have i51a := lr_lt1 (-9223372036854775808) 9223372036854775806 c51a (l_rng z49) (l_rng z21) rfl
            have i51b := lr_lt2 (-9223372036854775807) 9223372036854775807 c51a (l_rng z49) (l_rng z21) rfl
            refine g_ldc2_w 1000000000000 57 (gd rfl) rfl rfl ?_
            refine g_goto 65 (gd rfl) rfl ?_
            refine g_lstore 67 (gd rfl) rfl (Nat.le_of_ble_eq_true rfl) ?_
            refine g_lload_n 68 (gd rfl) rfl rfl ?_
            refine g_lconst 0 69 (gd rfl) rfl rfl ?_
            refine g_lcmp 70 (gd rfl) rfl (fun z69 e69 => ?_)
            have i69 := lc_in e69
            refine g_if_ge 73 77 (gd rfl) rfl rfl (fun c70 => ?_) (fun c70 => ?_)
            · skip
              have i70 := z_ge 0 1 c70 i69 rfl
              have c70a := lc_ge e69 c70
              exact ln_le c70a (l_c 0 rfl) i17a rfl
            · skip
              have i70 := z_lt (-1) (-1) c70 i69 rfl
              have c70a := lc_lt e69 c70
              refine g_iconst 1 74 (gd rfl) rfl rfl ?_
              refine g_goto 78 (gd rfl) rfl ?_
              refine g_lload_n 79 (gd rfl) rfl rfl ?_
              refine g_lconst 0 80 (gd rfl) rfl rfl ?_
              refine g_lcmp 81 (gd rfl) rfl (fun z80 e80 => ?_)
              have i80 := lc_in e80
              refine g_if_ge 84 88 (gd rfl) rfl rfl (fun c81 => ?_) (fun c81 => ?_)
              · skip
                have i81 := z_ge 0 1 c81 i80 rfl
                have c81a := lc_ge e80 c81
                exact ln_le c81a (l_c 0 rfl) i31a rfl
              · skip
                have i81 := z_lt (-1) (-1) c81 i80 rfl
                have c81a := lc_lt e80 c81
                refine g_iconst 1 85 (gd rfl) rfl rfl ?_
                refine g_goto 89 (gd rfl) rfl ?_
                refine g_cmp_ne 92 97 (gd rfl) rfl rfl (fun c89 => ?_) (fun c89 => ?_)
                · skip
                  exact n_ne c89 (in_c 1 rfl) (in_c 1 rfl) rfl
                · skip
                  refine g_lload 94 (gd rfl) rfl rfl ?_
                  refine g_goto 100 (gd rfl) rfl ?_
                  exact g_lreturn (gd rfl) rfl (hP _ _ ⟨(Int64.ofInt 1000000000000), rfl, rfl⟩)
    · skip
      have i9 := z_eq 0 0 c9 i8 rfl
      have c9a := lc_eq e8 c9
      have i9a := lr_eq1 0 0 c9a (l_rng x1) (l_c 0 rfl) rfl
      refine g_lconst 0 13 (gd rfl) rfl rfl ?_
      exact g_lreturn (gd rfl) rfl (hP _ _ ⟨(Int64.ofInt 0), rfl, rfl⟩)

/-- GraphHouseModel.before -/
theorem k_349 {Z : AmZ} {A : Nat → Nat} {s : GS} {ex : va_W} {d : Nat} {X : AmX} {x1 : Int32} (hd : 1 ≤ d) (hI : Inv s) (h1 : In x1 0 31) (q_0 : BE s (x1).toNatClampNeg) : GC Z d 349 [.ref (A 109), .int x1] (WW Z A s ++ ex) 0 0 (fun v u => ∃ z : Int32, v = some (.int z) ∧ u = WW Z A s ++ ex ∧ In z 0 31 ∧ ((z).toNatClampNeg = bf s (x1).toNatClampNeg)) X := by
  intro post xp hP hX
  obtain ⟨u_109_19, e_109_19⟩ : ∃ w, w = s.2.2.1 109 19 := ⟨_, rfl⟩
  have ro_109_19 := inv_F hI 0 160 rfl e_109_19
  refine g_enter2 (k := 349) (N := 900) (by first | exact dq1 hd rfl | exact dq0 hd rfl | exact dq2 hd rfl | exact dq3 hd rfl | omega) rfl (Nat.le_of_ble_eq_true rfl) ?_
  refine g_aload_n 1 (gd rfl) rfl rfl ?_
  refine g_getA (q2 := 148) 4 (gd rfl) rfl rfl rfl rfl ?_
  refine g_iload_n 5 (gd rfl) rfl rfl ?_
  refine g_iaload 6 (gd rfl) rfl (n := 34) rfl (in_ix h1 rfl) (fun z5 e5 => ?_)
  have i5 := inv_I hI (n := 34) (t := 0) (-1) 1000 rfl (in_ix h1 rfl) rfl e5
  refine g_istore_n 7 (gd rfl) rfl (Nat.le_of_ble_eq_true rfl) ?_
  refine g_iload_n 8 (gd rfl) rfl rfl ?_
  refine g_sipush 200 11 (gd rfl) rfl rfl ?_
  refine g_cmp_lt 14 32 (gd rfl) rfl rfl (fun c11 => ?_) (fun c11 => ?_)
  · skip
    have i11 := r_lt1 (-1) 199 c11 i5 (in_c 200 rfl) rfl
    have i32 : In z5 0 159 := by have h := q_0; unfold BE at h; rw [← e5] at h; exact ⟨by (first | have a0 := oa3 ro_109_19 h1 i11 | ((first | have a0 := in_u ro_109_19 | (have a0 := ro_109_19; unfold In at a0)); (first | have a1 := in_u h1 | (have a1 := h1; unfold In at a1)); (first | have a2 := in_u i11 | (have a2 := i11; unfold In at a2)))); omega, by (first | have a0 := oa3 ro_109_19 h1 i11 | ((first | have a0 := in_u ro_109_19 | (have a0 := ro_109_19; unfold In at a0)); (first | have a1 := in_u h1 | (have a1 := h1; unfold In at a1)); (first | have a2 := in_u i11 | (have a2 := i11; unfold In at a2)))); omega⟩
    refine g_aload_n 33 (gd rfl) rfl rfl ?_
    refine g_getA (q2 := 113) 36 (gd rfl) rfl rfl rfl rfl ?_
    refine g_aload_n 37 (gd rfl) rfl rfl ?_
    refine g_getI 40 (gd rfl) rfl rfl rfl (fun z37 e37 => ?_)
    have q37 : u_109_19 = z37 := (e_109_19).trans e37.symm
    subst q37
    refine g_iload_n 41 (gd rfl) rfl rfl ?_
    refine g_iadd 42 (gd rfl) rfl (fun z41 e41 => ?_)
    have i41 := in_add 0 319 e41 ro_109_19 i32 rfl rfl
    refine g_iaload 43 (gd rfl) rfl (n := 480) rfl (in_ix i41 rfl) (fun z42 e42 => ?_)
    have i42 := inv_I hI (n := 480) (t := 0) 0 31 rfl (in_ix i41 rfl) rfl e42
    have n43 : (z42).toNatClampNeg = bf s (x1).toNatClampNeg := by first | exact bf_1 e5 (show u_109_19 = s.2.2.1 109 19 from e_109_19) (by (first | have a0 := oa4 ro_109_19 h1 i32 i41 | ((first | have a0 := in_u ro_109_19 | (have a0 := ro_109_19; unfold In at a0)); (first | have a1 := in_u h1 | (have a1 := h1; unfold In at a1)); (first | have a2 := in_u i32 | (have a2 := i32; unfold In at a2)); (first | have a3 := in_u i41 | (have a3 := i41; unfold In at a3)))); have a4 := t_add e41 ro_109_19 i32 rfl; omega) (by (first | have a0 := oa4 ro_109_19 h1 i32 i41 | ((first | have a0 := in_u ro_109_19 | (have a0 := ro_109_19; unfold In at a0)); (first | have a1 := in_u h1 | (have a1 := h1; unfold In at a1)); (first | have a2 := in_u i32 | (have a2 := i32; unfold In at a2)); (first | have a3 := in_u i41 | (have a3 := i41; unfold In at a3)))); have a4 := t_add e41 ro_109_19 i32 rfl; omega) (by (first | have a0 := oa4 ro_109_19 h1 i32 i41 | ((first | have a0 := in_u ro_109_19 | (have a0 := ro_109_19; unfold In at a0)); (first | have a1 := in_u h1 | (have a1 := h1; unfold In at a1)); (first | have a2 := in_u i32 | (have a2 := i32; unfold In at a2)); (first | have a3 := in_u i41 | (have a3 := i41; unfold In at a3)))); have a4 := t_add e41 ro_109_19 i32 rfl; omega) e28 | exact bf_2 e5 (show u_109_19 = s.2.2.1 109 19 from e_109_19) (by (first | have a0 := oa4 ro_109_19 h1 i32 i41 | ((first | have a0 := in_u ro_109_19 | (have a0 := ro_109_19; unfold In at a0)); (first | have a1 := in_u h1 | (have a1 := h1; unfold In at a1)); (first | have a2 := in_u i32 | (have a2 := i32; unfold In at a2)); (first | have a3 := in_u i41 | (have a3 := i41; unfold In at a3)))); have a4 := t_add e41 ro_109_19 i32 rfl; omega) (by (first | have a0 := oa4 ro_109_19 h1 i32 i41 | ((first | have a0 := in_u ro_109_19 | (have a0 := ro_109_19; unfold In at a0)); (first | have a1 := in_u h1 | (have a1 := h1; unfold In at a1)); (first | have a2 := in_u i32 | (have a2 := i32; unfold In at a2)); (first | have a3 := in_u i41 | (have a3 := i41; unfold In at a3)))); have a4 := t_add e41 ro_109_19 i32 rfl; omega) (by (first | have a0 := oa4 ro_109_19 h1 i32 i41 | ((first | have a0 := in_u ro_109_19 | (have a0 := ro_109_19; unfold In at a0)); (first | have a1 := in_u h1 | (have a1 := h1; unfold In at a1)); (first | have a2 := in_u i32 | (have a2 := i32; unfold In at a2)); (first | have a3 := in_u i41 | (have a3 := i41; unfold In at a3)))); have a4 := t_add e41 ro_109_19 i32 rfl; omega) (by (first | have a0 := oa4 ro_109_19 h1 i32 i41 | ((first | have a0 := in_u ro_109_19 | (have a0 := ro_109_19; unfold In at a0)); (first | have a1 := in_u h1 | (have a1 := h1; unfold In at a1)); (first | have a2 := in_u i32 | (have a2 := i32; unfold In at a2)); (first | have a3 := in_u i41 | (have a3 := i41; unfold In at a3)))); have a4 := t_add e41 ro_109_19 i32 rfl; omega) e42
    exact g_ireturn (gd rfl) rfl rfl (hP _ _ ⟨z42, rfl, rfl, in_w 0 31 i42 rfl, n43⟩)
  · skip
    have i11 := r_le2 200 1000 c11 (in_c 200 rfl) i5 rfl
    have i14 : In z5 200 359 := by have h := q_0; unfold BE at h; rw [← e5] at h; exact ⟨by (first | have a0 := oa3 ro_109_19 h1 i11 | ((first | have a0 := in_u ro_109_19 | (have a0 := ro_109_19; unfold In at a0)); (first | have a1 := in_u h1 | (have a1 := h1; unfold In at a1)); (first | have a2 := in_u i11 | (have a2 := i11; unfold In at a2)))); omega, by (first | have a0 := oa3 ro_109_19 h1 i11 | ((first | have a0 := in_u ro_109_19 | (have a0 := ro_109_19; unfold In at a0)); (first | have a1 := in_u h1 | (have a1 := h1; unfold In at a1)); (first | have a2 := in_u i11 | (have a2 := i11; unfold In at a2)))); omega⟩
    refine g_aload_n 15 (gd rfl) rfl rfl ?_
    refine g_getA (q2 := 114) 18 (gd rfl) rfl rfl rfl rfl ?_
    refine g_aload_n 19 (gd rfl) rfl rfl ?_
    refine g_getI 22 (gd rfl) rfl rfl rfl (fun z19 e19 => ?_)
    have q19 : u_109_19 = z19 := (e_109_19).trans e19.symm
    subst q19
    refine g_iload_n 23 (gd rfl) rfl rfl ?_
    refine g_iadd 24 (gd rfl) rfl (fun z23 e23 => ?_)
    have i23 := in_add 200 519 e23 ro_109_19 i14 rfl rfl
    refine g_sipush 200 27 (gd rfl) rfl rfl ?_
    refine g_isub 28 (gd rfl) rfl (fun z27 e27 => ?_)
    have i27 := in_sub 0 319 e27 i23 (in_c 200 rfl) rfl rfl
    refine g_iaload 29 (gd rfl) rfl (n := 480) rfl (in_ix i27 rfl) (fun z28 e28 => ?_)
    have i28 := inv_I hI (n := 480) (t := 0) 0 31 rfl (in_ix i27 rfl) rfl e28
    refine g_goto 43 (gd rfl) rfl ?_
    have n43 : (z28).toNatClampNeg = bf s (x1).toNatClampNeg := by first | exact bf_1 e5 (show u_109_19 = s.2.2.1 109 19 from e_109_19) (by (first | have a0 := oa4 ro_109_19 h1 i14 i27 | ((first | have a0 := in_u ro_109_19 | (have a0 := ro_109_19; unfold In at a0)); (first | have a1 := in_u h1 | (have a1 := h1; unfold In at a1)); (first | have a2 := in_u i14 | (have a2 := i14; unfold In at a2)); (first | have a3 := in_u i27 | (have a3 := i27; unfold In at a3)))); have a4 := t_sub e27 i23 (in_c 200 rfl) rfl; (first | have a5 := oa2 ((in_c 200 rfl)) i23 | ((first | have a5 := in_u ((in_c 200 rfl)) | (have a5 := (in_c 200 rfl); unfold In at a5)); (first | have a6 := in_u i23 | (have a6 := i23; unfold In at a6)))); have a7 := t_add e23 ro_109_19 i14 rfl; omega) (by (first | have a0 := oa4 ro_109_19 h1 i14 i27 | ((first | have a0 := in_u ro_109_19 | (have a0 := ro_109_19; unfold In at a0)); (first | have a1 := in_u h1 | (have a1 := h1; unfold In at a1)); (first | have a2 := in_u i14 | (have a2 := i14; unfold In at a2)); (first | have a3 := in_u i27 | (have a3 := i27; unfold In at a3)))); have a4 := t_sub e27 i23 (in_c 200 rfl) rfl; (first | have a5 := oa2 ((in_c 200 rfl)) i23 | ((first | have a5 := in_u ((in_c 200 rfl)) | (have a5 := (in_c 200 rfl); unfold In at a5)); (first | have a6 := in_u i23 | (have a6 := i23; unfold In at a6)))); have a7 := t_add e23 ro_109_19 i14 rfl; omega) (by (first | have a0 := oa4 ro_109_19 h1 i14 i27 | ((first | have a0 := in_u ro_109_19 | (have a0 := ro_109_19; unfold In at a0)); (first | have a1 := in_u h1 | (have a1 := h1; unfold In at a1)); (first | have a2 := in_u i14 | (have a2 := i14; unfold In at a2)); (first | have a3 := in_u i27 | (have a3 := i27; unfold In at a3)))); have a4 := t_sub e27 i23 (in_c 200 rfl) rfl; (first | have a5 := oa2 ((in_c 200 rfl)) i23 | ((first | have a5 := in_u ((in_c 200 rfl)) | (have a5 := (in_c 200 rfl); unfold In at a5)); (first | have a6 := in_u i23 | (have a6 := i23; unfold In at a6)))); have a7 := t_add e23 ro_109_19 i14 rfl; omega) e28 | exact bf_2 e5 (show u_109_19 = s.2.2.1 109 19 from e_109_19) (by (first | have a0 := oa4 ro_109_19 h1 i14 i27 | ((first | have a0 := in_u ro_109_19 | (have a0 := ro_109_19; unfold In at a0)); (first | have a1 := in_u h1 | (have a1 := h1; unfold In at a1)); (first | have a2 := in_u i14 | (have a2 := i14; unfold In at a2)); (first | have a3 := in_u i27 | (have a3 := i27; unfold In at a3)))); have a4 := t_sub e27 i23 (in_c 200 rfl) rfl; (first | have a5 := oa2 ((in_c 200 rfl)) i23 | ((first | have a5 := in_u ((in_c 200 rfl)) | (have a5 := (in_c 200 rfl); unfold In at a5)); (first | have a6 := in_u i23 | (have a6 := i23; unfold In at a6)))); have a7 := t_add e23 ro_109_19 i14 rfl; omega) (by (first | have a0 := oa4 ro_109_19 h1 i14 i27 | ((first | have a0 := in_u ro_109_19 | (have a0 := ro_109_19; unfold In at a0)); (first | have a1 := in_u h1 | (have a1 := h1; unfold In at a1)); (first | have a2 := in_u i14 | (have a2 := i14; unfold In at a2)); (first | have a3 := in_u i27 | (have a3 := i27; unfold In at a3)))); have a4 := t_sub e27 i23 (in_c 200 rfl) rfl; (first | have a5 := oa2 ((in_c 200 rfl)) i23 | ((first | have a5 := in_u ((in_c 200 rfl)) | (have a5 := (in_c 200 rfl); unfold In at a5)); (first | have a6 := in_u i23 | (have a6 := i23; unfold In at a6)))); have a7 := t_add e23 ro_109_19 i14 rfl; omega) (by (first | have a0 := oa4 ro_109_19 h1 i14 i27 | ((first | have a0 := in_u ro_109_19 | (have a0 := ro_109_19; unfold In at a0)); (first | have a1 := in_u h1 | (have a1 := h1; unfold In at a1)); (first | have a2 := in_u i14 | (have a2 := i14; unfold In at a2)); (first | have a3 := in_u i27 | (have a3 := i27; unfold In at a3)))); have a4 := t_sub e27 i23 (in_c 200 rfl) rfl; (first | have a5 := oa2 ((in_c 200 rfl)) i23 | ((first | have a5 := in_u ((in_c 200 rfl)) | (have a5 := (in_c 200 rfl); unfold In at a5)); (first | have a6 := in_u i23 | (have a6 := i23; unfold In at a6)))); have a7 := t_add e23 ro_109_19 i14 rfl; omega) (by (first | have a0 := oa4 ro_109_19 h1 i14 i27 | ((first | have a0 := in_u ro_109_19 | (have a0 := ro_109_19; unfold In at a0)); (first | have a1 := in_u h1 | (have a1 := h1; unfold In at a1)); (first | have a2 := in_u i14 | (have a2 := i14; unfold In at a2)); (first | have a3 := in_u i27 | (have a3 := i27; unfold In at a3)))); have a4 := t_sub e27 i23 (in_c 200 rfl) rfl; (first | have a5 := oa2 ((in_c 200 rfl)) i23 | ((first | have a5 := in_u ((in_c 200 rfl)) | (have a5 := (in_c 200 rfl); unfold In at a5)); (first | have a6 := in_u i23 | (have a6 := i23; unfold In at a6)))); have a7 := t_add e23 ro_109_19 i14 rfl; omega) e42
    exact g_ireturn (gd rfl) rfl rfl (hP _ _ ⟨z28, rfl, rfl, in_w 0 31 i28 rfl, n43⟩)

/-- GraphHouseModel.roomOn -/
theorem k_350 {Z : AmZ} {A : Nat → Nat} {s : GS} {ex : va_W} {d : Nat} {X : AmX} {x1 : Int32} (hd : 1 ≤ d) (hI : Inv s) (h1 : In x1 0 31) (q_0 : BE s (x1).toNatClampNeg) : GC Z d 350 [.ref (A 109), .int x1] (WW Z A s ++ ex) 0 0 (fun v u => ∃ z : Int64, v = some (.long z) ∧ u = WW Z A s ++ ex ∧ (FO s (x1).toNatClampNeg → (z).toInt = rm s (x1).toNatClampNeg)) X := by
  intro post xp hP hX
  obtain ⟨u_109_19, e_109_19⟩ : ∃ w, w = s.2.2.1 109 19 := ⟨_, rfl⟩
  have ro_109_19 := inv_F hI 0 160 rfl e_109_19
  refine g_enter2 (k := 350) (N := 900) (by first | exact dq1 hd rfl | exact dq0 hd rfl | exact dq2 hd rfl | exact dq3 hd rfl | omega) rfl (Nat.le_of_ble_eq_true rfl) ?_
  refine g_aload_n 1 (gd rfl) rfl rfl ?_
  refine g_getA (q2 := 148) 4 (gd rfl) rfl rfl rfl rfl ?_
  refine g_iload_n 5 (gd rfl) rfl rfl ?_
  refine g_iaload 6 (gd rfl) rfl (n := 34) rfl (in_ix h1 rfl) (fun z5 e5 => ?_)
  have i5 := inv_I hI (n := 34) (t := 0) (-1) 1000 rfl (in_ix h1 rfl) rfl e5
  refine g_istore_n 7 (gd rfl) rfl (Nat.le_of_ble_eq_true rfl) ?_
  refine g_iload_n 8 (gd rfl) rfl rfl ?_
  refine g_sipush 200 11 (gd rfl) rfl rfl ?_
  refine g_cmp_lt 14 27 (gd rfl) rfl rfl (fun c11 => ?_) (fun c11 => ?_)
  · skip
    have i11 := r_lt1 (-1) 199 c11 i5 (in_c 200 rfl) rfl
    have i27 : In z5 0 159 := by have h := q_0; unfold BE at h; rw [← e5] at h; exact ⟨by (first | have a0 := oa3 ro_109_19 h1 i11 | ((first | have a0 := in_u ro_109_19 | (have a0 := ro_109_19; unfold In at a0)); (first | have a1 := in_u h1 | (have a1 := h1; unfold In at a1)); (first | have a2 := in_u i11 | (have a2 := i11; unfold In at a2)))); omega, by (first | have a0 := oa3 ro_109_19 h1 i11 | ((first | have a0 := in_u ro_109_19 | (have a0 := ro_109_19; unfold In at a0)); (first | have a1 := in_u h1 | (have a1 := h1; unfold In at a1)); (first | have a2 := in_u i11 | (have a2 := i11; unfold In at a2)))); omega⟩
    refine g_aload_n 28 (gd rfl) rfl rfl ?_
    refine g_getA (q2 := 116) 31 (gd rfl) rfl rfl rfl rfl ?_
    refine g_aload_n 32 (gd rfl) rfl rfl ?_
    refine g_getI 35 (gd rfl) rfl rfl rfl (fun z32 e32 => ?_)
    have q32 : u_109_19 = z32 := (e_109_19).trans e32.symm
    subst q32
    refine g_iload_n 36 (gd rfl) rfl rfl ?_
    refine g_iadd 37 (gd rfl) rfl (fun z36 e36 => ?_)
    have i36 := in_add 0 319 e36 ro_109_19 i27 rfl rfl
    refine g_iaload 38 (gd rfl) rfl (n := 480) rfl (in_ix i36 rfl) (fun z37 e37 => ?_)
    have i37 := inv_I hI (n := 480) (t := 0) 0 1000000 rfl (in_ix i36 rfl) rfl e37
    refine g_i2l 39 (gd rfl) rfl (fun z38 e38 => ?_)
    have i38 := l_i e38 i37
    refine g_aload_n 40 (gd rfl) rfl rfl ?_
    refine g_getA (q2 := 147) 43 (gd rfl) rfl rfl rfl rfl ?_
    refine g_iload_n 44 (gd rfl) rfl rfl ?_
    refine g_laload 45 (gd rfl) rfl (n := 160) rfl (in_ix i27 rfl) (fun z44 e44 => ?_)
    refine g_lsub 46 (gd rfl) rfl (fun z45 e45 => ?_)
    have n46 : FO s (x1).toNatClampNeg → (z45).toInt = rm s (x1).toNatClampNeg := by intro hfo; first | exact rm_1 e5 (by (first | have a0 := oa3 ro_109_19 h1 i27 | ((first | have a0 := in_u ro_109_19 | (have a0 := ro_109_19; unfold In at a0)); (first | have a1 := in_u h1 | (have a1 := h1; unfold In at a1)); (first | have a2 := in_u i27 | (have a2 := i27; unfold In at a2)))); have a3 := tx_i2l e38; (first | have a4 := oa2 i37 i36 | ((first | have a4 := in_u i37 | (have a4 := i37; unfold In at a4)); (first | have a5 := in_u i36 | (have a5 := i36; unfold In at a5)))); have a6 := t_add e36 ro_109_19 i27 rfl; omega) (by (first | have a0 := oa3 ro_109_19 h1 i27 | ((first | have a0 := in_u ro_109_19 | (have a0 := ro_109_19; unfold In at a0)); (first | have a1 := in_u h1 | (have a1 := h1; unfold In at a1)); (first | have a2 := in_u i27 | (have a2 := i27; unfold In at a2)))); have a3 := tx_i2l e38; (first | have a4 := oa2 i37 i36 | ((first | have a4 := in_u i37 | (have a4 := i37; unfold In at a4)); (first | have a5 := in_u i36 | (have a5 := i36; unfold In at a5)))); have a6 := t_add e36 ro_109_19 i27 rfl; omega) e23 | exact rm_2 e5 (by (first | have a0 := oa3 ro_109_19 h1 i27 | ((first | have a0 := in_u ro_109_19 | (have a0 := ro_109_19; unfold In at a0)); (first | have a1 := in_u h1 | (have a1 := h1; unfold In at a1)); (first | have a2 := in_u i27 | (have a2 := i27; unfold In at a2)))); have a3 := tx_i2l e38; (first | have a4 := oa2 i37 i36 | ((first | have a4 := in_u i37 | (have a4 := i37; unfold In at a4)); (first | have a5 := in_u i36 | (have a5 := i36; unfold In at a5)))); have a6 := t_add e36 ro_109_19 i27 rfl; omega) (by (first | have a0 := oa3 ro_109_19 h1 i27 | ((first | have a0 := in_u ro_109_19 | (have a0 := ro_109_19; unfold In at a0)); (first | have a1 := in_u h1 | (have a1 := h1; unfold In at a1)); (first | have a2 := in_u i27 | (have a2 := i27; unfold In at a2)))); have a3 := tx_i2l e38; (first | have a4 := oa2 i37 i36 | ((first | have a4 := in_u i37 | (have a4 := i37; unfold In at a4)); (first | have a5 := in_u i36 | (have a5 := i36; unfold In at a5)))); have a6 := t_add e36 ro_109_19 i27 rfl; omega) (show u_109_19 = s.2.2.1 109 19 from e_109_19) (by (first | have a0 := oa3 ro_109_19 h1 i27 | ((first | have a0 := in_u ro_109_19 | (have a0 := ro_109_19; unfold In at a0)); (first | have a1 := in_u h1 | (have a1 := h1; unfold In at a1)); (first | have a2 := in_u i27 | (have a2 := i27; unfold In at a2)))); have a3 := tx_i2l e38; (first | have a4 := oa2 i37 i36 | ((first | have a4 := in_u i37 | (have a4 := i37; unfold In at a4)); (first | have a5 := in_u i36 | (have a5 := i36; unfold In at a5)))); have a6 := t_add e36 ro_109_19 i27 rfl; omega) (by (first | have a0 := oa3 ro_109_19 h1 i27 | ((first | have a0 := in_u ro_109_19 | (have a0 := ro_109_19; unfold In at a0)); (first | have a1 := in_u h1 | (have a1 := h1; unfold In at a1)); (first | have a2 := in_u i27 | (have a2 := i27; unfold In at a2)))); have a3 := tx_i2l e38; (first | have a4 := oa2 i37 i36 | ((first | have a4 := in_u i37 | (have a4 := i37; unfold In at a4)); (first | have a5 := in_u i36 | (have a5 := i36; unfold In at a5)))); have a6 := t_add e36 ro_109_19 i27 rfl; omega) e37 e44 (tx_i2l e38) i37 e45 hfo
    exact g_lreturn (gd rfl) rfl (hP _ _ ⟨z45, rfl, rfl, n46⟩)
  · skip
    have i11 := r_le2 200 1000 c11 (in_c 200 rfl) i5 rfl
    have i14 : In z5 200 359 := by have h := q_0; unfold BE at h; rw [← e5] at h; exact ⟨by (first | have a0 := oa3 ro_109_19 h1 i11 | ((first | have a0 := in_u ro_109_19 | (have a0 := ro_109_19; unfold In at a0)); (first | have a1 := in_u h1 | (have a1 := h1; unfold In at a1)); (first | have a2 := in_u i11 | (have a2 := i11; unfold In at a2)))); omega, by (first | have a0 := oa3 ro_109_19 h1 i11 | ((first | have a0 := in_u ro_109_19 | (have a0 := ro_109_19; unfold In at a0)); (first | have a1 := in_u h1 | (have a1 := h1; unfold In at a1)); (first | have a2 := in_u i11 | (have a2 := i11; unfold In at a2)))); omega⟩
    refine g_aload_n 15 (gd rfl) rfl rfl ?_
    refine g_getA (q2 := 147) 18 (gd rfl) rfl rfl rfl rfl ?_
    refine g_iload_n 19 (gd rfl) rfl rfl ?_
    refine g_sipush 200 22 (gd rfl) rfl rfl ?_
    refine g_isub 23 (gd rfl) rfl (fun z22 e22 => ?_)
    have i22 := in_sub 0 159 e22 i14 (in_c 200 rfl) rfl rfl
    refine g_laload 24 (gd rfl) rfl (n := 160) rfl (in_ix i22 rfl) (fun z23 e23 => ?_)
    refine g_goto 46 (gd rfl) rfl ?_
    have n46 : FO s (x1).toNatClampNeg → (z23).toInt = rm s (x1).toNatClampNeg := by intro hfo; first | exact rm_1 e5 (by (first | have a0 := oa4 ro_109_19 h1 i14 i22 | ((first | have a0 := in_u ro_109_19 | (have a0 := ro_109_19; unfold In at a0)); (first | have a1 := in_u h1 | (have a1 := h1; unfold In at a1)); (first | have a2 := in_u i14 | (have a2 := i14; unfold In at a2)); (first | have a3 := in_u i22 | (have a3 := i22; unfold In at a3)))); have a4 := t_sub e22 i14 (in_c 200 rfl) rfl; (first | have a5 := in_u ((in_c 200 rfl)) | (have a5 := (in_c 200 rfl); unfold In at a5)); omega) (by (first | have a0 := oa4 ro_109_19 h1 i14 i22 | ((first | have a0 := in_u ro_109_19 | (have a0 := ro_109_19; unfold In at a0)); (first | have a1 := in_u h1 | (have a1 := h1; unfold In at a1)); (first | have a2 := in_u i14 | (have a2 := i14; unfold In at a2)); (first | have a3 := in_u i22 | (have a3 := i22; unfold In at a3)))); have a4 := t_sub e22 i14 (in_c 200 rfl) rfl; (first | have a5 := in_u ((in_c 200 rfl)) | (have a5 := (in_c 200 rfl); unfold In at a5)); omega) e23 | exact rm_2 e5 (by (first | have a0 := oa4 ro_109_19 h1 i14 i22 | ((first | have a0 := in_u ro_109_19 | (have a0 := ro_109_19; unfold In at a0)); (first | have a1 := in_u h1 | (have a1 := h1; unfold In at a1)); (first | have a2 := in_u i14 | (have a2 := i14; unfold In at a2)); (first | have a3 := in_u i22 | (have a3 := i22; unfold In at a3)))); have a4 := t_sub e22 i14 (in_c 200 rfl) rfl; (first | have a5 := in_u ((in_c 200 rfl)) | (have a5 := (in_c 200 rfl); unfold In at a5)); omega) (by (first | have a0 := oa4 ro_109_19 h1 i14 i22 | ((first | have a0 := in_u ro_109_19 | (have a0 := ro_109_19; unfold In at a0)); (first | have a1 := in_u h1 | (have a1 := h1; unfold In at a1)); (first | have a2 := in_u i14 | (have a2 := i14; unfold In at a2)); (first | have a3 := in_u i22 | (have a3 := i22; unfold In at a3)))); have a4 := t_sub e22 i14 (in_c 200 rfl) rfl; (first | have a5 := in_u ((in_c 200 rfl)) | (have a5 := (in_c 200 rfl); unfold In at a5)); omega) (show u_109_19 = s.2.2.1 109 19 from e_109_19) (by (first | have a0 := oa4 ro_109_19 h1 i14 i22 | ((first | have a0 := in_u ro_109_19 | (have a0 := ro_109_19; unfold In at a0)); (first | have a1 := in_u h1 | (have a1 := h1; unfold In at a1)); (first | have a2 := in_u i14 | (have a2 := i14; unfold In at a2)); (first | have a3 := in_u i22 | (have a3 := i22; unfold In at a3)))); have a4 := t_sub e22 i14 (in_c 200 rfl) rfl; (first | have a5 := in_u ((in_c 200 rfl)) | (have a5 := (in_c 200 rfl); unfold In at a5)); omega) (by (first | have a0 := oa4 ro_109_19 h1 i14 i22 | ((first | have a0 := in_u ro_109_19 | (have a0 := ro_109_19; unfold In at a0)); (first | have a1 := in_u h1 | (have a1 := h1; unfold In at a1)); (first | have a2 := in_u i14 | (have a2 := i14; unfold In at a2)); (first | have a3 := in_u i22 | (have a3 := i22; unfold In at a3)))); have a4 := t_sub e22 i14 (in_c 200 rfl) rfl; (first | have a5 := in_u ((in_c 200 rfl)) | (have a5 := (in_c 200 rfl); unfold In at a5)); omega) e37 e44 (tx_i2l e38) i37 e45 hfo
    exact g_lreturn (gd rfl) rfl (hP _ _ ⟨z23, rfl, rfl, n46⟩)

def fm_351 : FM := ([], [147], [], [])
/-- GraphHouseModel.push -/
theorem k_351 {Z : AmZ} {A : Nat → Nat} {s : GS} {ex : va_W} {d : Nat} {X : AmX} {x1 : Int32} {x2 : Int64} (hd : 1 ≤ d) (hI : Inv s) (h1 : In x1 0 31) (q_0 : BE s (x1).toNatClampNeg) : GC Z d 351 [.ref (A 109), .int x1, .long x2] (WW Z A s ++ ex) 0 0 (fun v u => ∃ t : GS, Inv t ∧ Fr fm_351 s t ∧ v = none ∧ u = WW Z A t ++ ex ∧ (PU s t (x1).toNatClampNeg (x2).toInt)) X := by
  intro post xp hP hX
  refine g_enter2 (k := 351) (N := 900) (by first | exact dq1 hd rfl | exact dq0 hd rfl | exact dq2 hd rfl | exact dq3 hd rfl | omega) rfl (Nat.le_of_ble_eq_true rfl) ?_
  refine g_aload_n 1 (gd rfl) rfl rfl ?_
  refine g_getA (q2 := 148) 4 (gd rfl) rfl rfl rfl rfl ?_
  refine g_iload_n 5 (gd rfl) rfl rfl ?_
  refine g_iaload 6 (gd rfl) rfl (n := 34) rfl (in_ix h1 rfl) (fun z5 e5 => ?_)
  have i5 := inv_I hI (n := 34) (t := 0) (-1) 1000 rfl (in_ix h1 rfl) rfl e5
  refine g_istore 8 (gd rfl) rfl (Nat.le_of_ble_eq_true rfl) ?_
  refine g_iload 10 (gd rfl) rfl rfl ?_
  refine g_sipush 200 13 (gd rfl) rfl rfl ?_
  refine g_cmp_lt 16 34 (gd rfl) rfl rfl (fun c13 => ?_) (fun c13 => ?_)
  · skip
    have i13 := r_lt1 (-1) 199 c13 i5 (in_c 200 rfl) rfl
    have i34 : In z5 0 159 := by have h := q_0; unfold BE at h; rw [← e5] at h; exact ⟨by (first | have a0 := oa2 h1 i13 | ((first | have a0 := in_u h1 | (have a0 := h1; unfold In at a0)); (first | have a1 := in_u i13 | (have a1 := i13; unfold In at a1)))); omega, by (first | have a0 := oa2 h1 i13 | ((first | have a0 := in_u h1 | (have a0 := h1; unfold In at a0)); (first | have a1 := in_u i13 | (have a1 := i13; unfold In at a1)))); omega⟩
    refine g_aload_n 35 (gd rfl) rfl rfl ?_
    refine g_getA (q2 := 147) 38 (gd rfl) rfl rfl rfl rfl ?_
    refine g_iload 40 (gd rfl) rfl rfl ?_
    refine g_dup2 41 (gd rfl) rfl rfl rfl ?_
    refine g_laload 42 (gd rfl) rfl (n := 160) rfl (in_ix i34 rfl) (fun z41 e41 => ?_)
    refine g_lload_n 43 (gd rfl) rfl rfl ?_
    refine g_ladd 44 (gd rfl) rfl (fun z43 e43 => ?_)
    refine g_lastore 45 (gd rfl) rfl (n := 160) rfl (in_ix i34 rfl) ?_
    have hI44 := inv_sL (q := 147) (j := z5.toNatClampNeg) (x := z43) hI rfl (l_rng z43)
    have n45 : PU s (sL s 147 z5.toNatClampNeg z43) (x1).toNatClampNeg (x2).toInt := by first | exact pu_1 e5 (by (first | have a0 := oa2 h1 i34 | ((first | have a0 := in_u h1 | (have a0 := h1; unfold In at a0)); (first | have a1 := in_u i34 | (have a1 := i34; unfold In at a1)))); omega) (by (first | have a0 := oa2 h1 i34 | ((first | have a0 := in_u h1 | (have a0 := h1; unfold In at a0)); (first | have a1 := in_u i34 | (have a1 := i34; unfold In at a1)))); omega) e27 e29 (by simp [sL]) | exact pu_2 e5 (by (first | have a0 := oa2 h1 i34 | ((first | have a0 := in_u h1 | (have a0 := h1; unfold In at a0)); (first | have a1 := in_u i34 | (have a1 := i34; unfold In at a1)))); omega) e41 e43 (by simp [sL])
    exact g_return (gd rfl) rfl (hP _ _ ⟨(sL s 147 z5.toNatClampNeg z43), hI44, (fr_sL rfl fr_rf), rfl, rfl, n45⟩)
  · skip
    have i13 := r_le2 200 1000 c13 (in_c 200 rfl) i5 rfl
    have i16 : In z5 200 359 := by have h := q_0; unfold BE at h; rw [← e5] at h; exact ⟨by (first | have a0 := oa2 h1 i13 | ((first | have a0 := in_u h1 | (have a0 := h1; unfold In at a0)); (first | have a1 := in_u i13 | (have a1 := i13; unfold In at a1)))); omega, by (first | have a0 := oa2 h1 i13 | ((first | have a0 := in_u h1 | (have a0 := h1; unfold In at a0)); (first | have a1 := in_u i13 | (have a1 := i13; unfold In at a1)))); omega⟩
    refine g_aload_n 17 (gd rfl) rfl rfl ?_
    refine g_getA (q2 := 147) 20 (gd rfl) rfl rfl rfl rfl ?_
    refine g_iload 22 (gd rfl) rfl rfl ?_
    refine g_sipush 200 25 (gd rfl) rfl rfl ?_
    refine g_isub 26 (gd rfl) rfl (fun z25 e25 => ?_)
    have i25 := in_sub 0 159 e25 i16 (in_c 200 rfl) rfl rfl
    refine g_dup2 27 (gd rfl) rfl rfl rfl ?_
    refine g_laload 28 (gd rfl) rfl (n := 160) rfl (in_ix i25 rfl) (fun z27 e27 => ?_)
    refine g_lload_n 29 (gd rfl) rfl rfl ?_
    refine g_lsub 30 (gd rfl) rfl (fun z29 e29 => ?_)
    refine g_lastore 31 (gd rfl) rfl (n := 160) rfl (in_ix i25 rfl) ?_
    have hI30 := inv_sL (q := 147) (j := z25.toNatClampNeg) (x := z29) hI rfl (l_rng z29)
    refine g_goto 45 (gd rfl) rfl ?_
    have n45 : PU s (sL s 147 z25.toNatClampNeg z29) (x1).toNatClampNeg (x2).toInt := by first | exact pu_1 e5 (by (first | have a0 := oa3 h1 i16 i25 | ((first | have a0 := in_u h1 | (have a0 := h1; unfold In at a0)); (first | have a1 := in_u i16 | (have a1 := i16; unfold In at a1)); (first | have a2 := in_u i25 | (have a2 := i25; unfold In at a2)))); have a3 := t_sub e25 i16 (in_c 200 rfl) rfl; (first | have a4 := in_u ((in_c 200 rfl)) | (have a4 := (in_c 200 rfl); unfold In at a4)); omega) (by (first | have a0 := oa3 h1 i16 i25 | ((first | have a0 := in_u h1 | (have a0 := h1; unfold In at a0)); (first | have a1 := in_u i16 | (have a1 := i16; unfold In at a1)); (first | have a2 := in_u i25 | (have a2 := i25; unfold In at a2)))); have a3 := t_sub e25 i16 (in_c 200 rfl) rfl; (first | have a4 := in_u ((in_c 200 rfl)) | (have a4 := (in_c 200 rfl); unfold In at a4)); omega) e27 e29 (by simp [sL]) | exact pu_2 e5 (by (first | have a0 := oa3 h1 i16 i25 | ((first | have a0 := in_u h1 | (have a0 := h1; unfold In at a0)); (first | have a1 := in_u i16 | (have a1 := i16; unfold In at a1)); (first | have a2 := in_u i25 | (have a2 := i25; unfold In at a2)))); have a3 := t_sub e25 i16 (in_c 200 rfl) rfl; (first | have a4 := in_u ((in_c 200 rfl)) | (have a4 := (in_c 200 rfl); unfold In at a4)); omega) e41 e43 (by simp [sL])
    exact g_return (gd rfl) rfl (hP _ _ ⟨(sL s 147 z25.toNatClampNeg z29), hI30, (fr_sL rfl fr_rf), rfl, rfl, n45⟩)
end
section
/-! methods, by vc.py -/
def fm_364 : FM := ([158, 159], [], [], [])
/-- GraphHouseModel.rings -/
theorem k_364 {Z : AmZ} {A : Nat → Nat} {s : GS} {ex : va_W} {d : Nat} {X : AmX} {x1 : Int32} {x2 : Int32} (hd : 1 ≤ d) (hI : Inv s) (h1 : In x1 1 32) (h2 : In x2 0 31) (q_0 : TP s (x1).toInt (x2).toInt) : GC Z d 364 [.ref (A 109), .int x1, .int x2] (WW Z A s ++ ex) 0 0 (fun v u => ∃ t : GS, Inv t ∧ Fr fm_364 s t ∧ ∃ z : Int32, v = some (.int z) ∧ u = WW Z A t ++ ex ∧ In z 0 32 ∧ ((z).toInt ≤ (x1).toInt) ∧ (∀ k : Nat, (k : Int) < (x1).toInt → 0 ≤ (t.1 158 k).toInt ∧ (t.1 158 k).toInt < (z).toInt)) X := by
  intro post xp hP hX
  have ct173 : ∀ (k173 : Nat) (sc173 : GS) (y173_3 : Int32) (y173_4 : Int32), Inv sc173 → Fr fm_364 s sc173 → (In y173_3 0 32) → (In y173_4 0 32) → (0 ≤ (y173_3).toInt) → ((y173_3).toInt + (cM (sc173.1 158) (x1).toNatClampNeg : Int) ≤ (x1).toInt) → (∀ k : Nat, (k : Int) < (x1).toInt → (sc173.1 158 k).toInt < (y173_3).toInt) → (∀ k : Nat, (k : Int) < (y173_4).toInt → 0 ≤ (sc173.1 158 k).toInt) → 32 - (y173_4).toInt < (k173 : Int) → GG Z (d - 1) 364 post (gx xp) (1 + k173 * 900) 173 (fun j => xlook j [(0, .ref (A 109)), (1, .int x1), (2, .int x2), (3, .int y173_3), (4, .int y173_4)]) [] (WW Z A sc173 ++ ex) 0 0 := by
    intro k173
    induction k173 with
    | zero => intro sc173 y173_3 y173_4 hIc173 hFc173 j173_3 j173_4 n173_0 g173_0 g173_1 g173_2 mm173; exact m_no mm173 j173_4 rfl
    | succ k173 ih173 =>
      intro sc173 y173_3 y173_4 hIc173 hFc173 j173_3 j173_4 n173_0 g173_0 g173_1 g173_2 mm173
      refine gg_w (M := 1 + k173 * 900 + 900) gws ?_
      refine g_iload 175 (gd rfl) rfl rfl ?_
      refine g_iload_n 176 (gd rfl) rfl rfl ?_
      refine g_cmp_ge 179 206 (gd rfl) rfl rfl (fun c176 => ?_) (fun c176 => ?_)
      · skip
        have i176 := r_le2 1 32 c176 h1 j173_4 rfl
        refine g_iload_n 207 (gd rfl) rfl rfl ?_
        have n207 : (y173_3).toInt ≤ (x1).toInt := by have hc := g173_0; (first | have a0 := oa4 h2 h1 i176 j173_3 | ((first | have a0 := in_u h2 | (have a0 := h2; unfold In at a0)); (first | have a1 := in_u h1 | (have a1 := h1; unfold In at a1)); (first | have a2 := in_u i176 | (have a2 := i176; unfold In at a2)); (first | have a3 := in_u j173_3 | (have a3 := j173_3; unfold In at a3)))); omega
        have n207a : ∀ k : Nat, (k : Int) < (x1).toInt → 0 ≤ (sc173.1 158 k).toInt ∧ (sc173.1 158 k).toInt < (y173_3).toInt := by exact fun k hk => ⟨g173_2 k (by (first | have a0 := oa4 h2 h1 i176 j173_3 | ((first | have a0 := in_u h2 | (have a0 := h2; unfold In at a0)); (first | have a1 := in_u h1 | (have a1 := h1; unfold In at a1)); (first | have a2 := in_u i176 | (have a2 := i176; unfold In at a2)); (first | have a3 := in_u j173_3 | (have a3 := j173_3; unfold In at a3)))); omega), g173_1 k hk⟩
        exact g_ireturn (gd rfl) rfl rfl (hP _ _ ⟨sc173, hIc173, hFc173, y173_3, rfl, rfl, in_w 0 32 j173_3 rfl, n207, n207a⟩)
      · skip
        have i176 := r_lt1 0 31 c176 j173_4 h1 rfl
        refine g_aload_n 180 (gd rfl) rfl rfl ?_
        refine g_getA (q2 := 158) 183 (gd rfl) rfl rfl rfl rfl ?_
        refine g_iload 185 (gd rfl) rfl rfl ?_
        refine g_iaload 186 (gd rfl) rfl (n := 32) rfl (in_ix i176 rfl) (fun z185 e185 => ?_)
        refine g_if_ge 189 200 (gd rfl) rfl rfl (fun c186 => ?_) (fun c186 => ?_)
        · skip
          have i186 := z_ge 0 2147483647 c186 (i_rng z185) rfl
          first | (have n173q : (y173_3).toInt + (cM (sc173.1 158) (x1).toNatClampNeg : Int) ≤ (x1).toInt := (by rw [sI_q]; have hu := up_cm (f := sc173.1 158) (y := y173_4) (b := y173_3) (n := x1.toNatClampNeg) (by rw [← e185]; exact c186) (by (first | have a0 := oa4 h2 h1 i176 j173_3 | ((first | have a0 := in_u h2 | (have a0 := h2; unfold In at a0)); (first | have a1 := in_u h1 | (have a1 := h1; unfold In at a1)); (first | have a2 := in_u i176 | (have a2 := i176; unfold In at a2)); (first | have a3 := in_u j173_3 | (have a3 := j173_3; unfold In at a3)))); omega) (by show y173_4.toInt.toNat < x1.toInt.toNat; (first | have a0 := oa4 h2 h1 i176 j173_3 | ((first | have a0 := in_u h2 | (have a0 := h2; unfold In at a0)); (first | have a1 := in_u h1 | (have a1 := h1; unfold In at a1)); (first | have a2 := in_u i176 | (have a2 := i176; unfold In at a2)); (first | have a3 := in_u j173_3 | (have a3 := j173_3; unfold In at a3)))); (first | exact zt_t (by omega) (by omega) | omega)); have hc := g173_0; (first | have a0 := oa4 h2 h1 i176 j173_3 | ((first | have a0 := in_u h2 | (have a0 := h2; unfold In at a0)); (first | have a1 := in_u h1 | (have a1 := h1; unfold In at a1)); (first | have a2 := in_u i176 | (have a2 := i176; unfold In at a2)); (first | have a3 := in_u j173_3 | (have a3 := j173_3; unfold In at a3)))); omega)) | skip
          refine g_iinc 203 (gd rfl) rfl rfl (Nat.le_of_ble_eq_true rfl) (fun z200 e200 => ?_)
          have i200 := in_add 1 32 e200 i176 (in_c 1 rfl) rfl rfl
          refine g_goto 173 (gd rfl) rfl ?_
          have n173 : 0 ≤ (y173_3).toInt := by first | exact n173_0 | ((first | have a0 := oa5 h2 h1 i176 j173_3 i200 | ((first | have a0 := in_u h2 | (have a0 := h2; unfold In at a0)); (first | have a1 := in_u h1 | (have a1 := h1; unfold In at a1)); (first | have a2 := in_u i176 | (have a2 := i176; unfold In at a2)); (first | have a3 := in_u j173_3 | (have a3 := j173_3; unfold In at a3)); (first | have a4 := in_u i200 | (have a4 := i200; unfold In at a4)))); have a5 := t_add e200 i176 (in_c 1 rfl) rfl; (first | have a6 := in_u ((in_c 1 rfl)) | (have a6 := (in_c 1 rfl); unfold In at a6)); omega)
          have n173a : (y173_3).toInt + (cM (sc173.1 158) (x1).toNatClampNeg : Int) ≤ (x1).toInt := by first | exact n173q | exact g173_0 | exact g32_0
          have n173b : ∀ k : Nat, (k : Int) < (x1).toInt → (sc173.1 158 k).toInt < (y173_3).toInt := by first | exact g173_1 | (first | exact g173_1 | exact g32_1 | (intro k hk; rw [sI_q]; exact up_lt (fun c => by have h := g173_1 k hk; (first | have a0 := oa5 h2 h1 i176 j173_3 i200 | ((first | have a0 := in_u h2 | (have a0 := h2; unfold In at a0)); (first | have a1 := in_u h1 | (have a1 := h1; unfold In at a1)); (first | have a2 := in_u i176 | (have a2 := i176; unfold In at a2)); (first | have a3 := in_u j173_3 | (have a3 := j173_3; unfold In at a3)); (first | have a4 := in_u i200 | (have a4 := i200; unfold In at a4)))); have a5 := t_add e200 i176 (in_c 1 rfl) rfl; (first | have a6 := in_u ((in_c 1 rfl)) | (have a6 := (in_c 1 rfl); unfold In at a6)); omega) (by (first | have a0 := oa5 h2 h1 i176 j173_3 i200 | ((first | have a0 := in_u h2 | (have a0 := h2; unfold In at a0)); (first | have a1 := in_u h1 | (have a1 := h1; unfold In at a1)); (first | have a2 := in_u i176 | (have a2 := i176; unfold In at a2)); (first | have a3 := in_u j173_3 | (have a3 := j173_3; unfold In at a3)); (first | have a4 := in_u i200 | (have a4 := i200; unfold In at a4)))); have a5 := t_add e200 i176 (in_c 1 rfl) rfl; (first | have a6 := in_u ((in_c 1 rfl)) | (have a6 := (in_c 1 rfl); unfold In at a6)); omega)))
          have n173c : ∀ k : Nat, (k : Int) < (z200).toInt → 0 ≤ (sc173.1 158 k).toInt := by first | (intro k hk; exfalso; have h0 : (Int32.ofInt 0).toInt = 0 := rfl; omega) | (intro k hk; have e4 : y173_4.toNatClampNeg = y173_4.toInt.toNat := rfl; first | (by_cases c : (k : Int) < y173_4.toInt; exact g173_2 k c; (rw [show k = y173_4.toNatClampNeg from (by (first | have a0 := oa5 h2 h1 i176 j173_3 i200 | ((first | have a0 := in_u h2 | (have a0 := h2; unfold In at a0)); (first | have a1 := in_u h1 | (have a1 := h1; unfold In at a1)); (first | have a2 := in_u i176 | (have a2 := i176; unfold In at a2)); (first | have a3 := in_u j173_3 | (have a3 := j173_3; unfold In at a3)); (first | have a4 := in_u i200 | (have a4 := i200; unfold In at a4)))); have a5 := t_add e200 i176 (in_c 1 rfl) rfl; (first | have a6 := in_u ((in_c 1 rfl)) | (have a6 := (in_c 1 rfl); unfold In at a6)); omega), ← e185]; exact c186)) | (rw [sI_q]; unfold upd; by_cases c : k = y173_4.toNatClampNeg; (rw [if_pos c]; (first | have a0 := oa5 h2 h1 i176 j173_3 i200 | ((first | have a0 := in_u h2 | (have a0 := h2; unfold In at a0)); (first | have a1 := in_u h1 | (have a1 := h1; unfold In at a1)); (first | have a2 := in_u i176 | (have a2 := i176; unfold In at a2)); (first | have a3 := in_u j173_3 | (have a3 := j173_3; unfold In at a3)); (first | have a4 := in_u i200 | (have a4 := i200; unfold In at a4)))); have a5 := t_add e200 i176 (in_c 1 rfl) rfl; (first | have a6 := in_u ((in_c 1 rfl)) | (have a6 := (in_c 1 rfl); unfold In at a6)); omega); (rw [if_neg c]; exact g173_2 k (by (first | have a0 := oa5 h2 h1 i176 j173_3 i200 | ((first | have a0 := in_u h2 | (have a0 := h2; unfold In at a0)); (first | have a1 := in_u h1 | (have a1 := h1; unfold In at a1)); (first | have a2 := in_u i176 | (have a2 := i176; unfold In at a2)); (first | have a3 := in_u j173_3 | (have a3 := j173_3; unfold In at a3)); (first | have a4 := in_u i200 | (have a4 := i200; unfold In at a4)))); have a5 := t_add e200 i176 (in_c 1 rfl) rfl; (first | have a6 := in_u ((in_c 1 rfl)) | (have a6 := (in_c 1 rfl); unfold In at a6)); omega))))
          exact gg_w (by first | exact Nat.le_add_right _ _ | exact gw2 | exact gw3 | exact gwe rfl | exact gwf rfl | exact gwg rfl | exact gwh rfl | omega) (gg_f (gf_cons rfl (gf_cons rfl (gf_cons rfl (gf_cons rfl (gf_cons rfl gf_nil))))) (ih173 sc173 y173_3 z200 hIc173 hFc173 (in_w 0 32 j173_3 rfl) (in_w 0 32 i200 rfl) n173 n173a n173b n173c (m_up mm173 (t_add e200 i176 (in_c 1 rfl) rfl) (in_w 1 1 (in_c 1 rfl) rfl))))
        · skip
          have i186 := z_lt (-2147483648) (-1) c186 (i_rng z185) rfl
          refine g_aload_n 190 (gd rfl) rfl rfl ?_
          refine g_getA (q2 := 158) 193 (gd rfl) rfl rfl rfl rfl ?_
          refine g_iload 195 (gd rfl) rfl rfl ?_
          refine g_iload_n 196 (gd rfl) rfl rfl ?_
          refine g_iastore 197 (gd rfl) rfl (n := 32) rfl (in_ix i176 rfl) ?_
          have hI196 := inv_sI (q := 158) (j := y173_4.toNatClampNeg) hIc173 rfl (in_w (-2147483648) 2147483647 j173_3 rfl)
          refine g_iinc 200 (gd rfl) rfl rfl (Nat.le_of_ble_eq_true rfl) (fun z197 e197 => ?_)
          have i197 := in_add 1 33 e197 j173_3 (in_c 1 rfl) rfl rfl
          first | (have n173q : (z197).toInt + (cM ((sI sc173 158 y173_4.toNatClampNeg y173_3).1 158) (x1).toNatClampNeg : Int) ≤ (x1).toInt := (by rw [sI_q]; have hu := up_cm (f := sc173.1 158) (y := y173_4) (b := y173_3) (n := x1.toNatClampNeg) (by rw [← e185]; exact c186) (by (first | have a0 := oa5 h2 h1 i176 j173_3 i197 | ((first | have a0 := in_u h2 | (have a0 := h2; unfold In at a0)); (first | have a1 := in_u h1 | (have a1 := h1; unfold In at a1)); (first | have a2 := in_u i176 | (have a2 := i176; unfold In at a2)); (first | have a3 := in_u j173_3 | (have a3 := j173_3; unfold In at a3)); (first | have a4 := in_u i197 | (have a4 := i197; unfold In at a4)))); have a5 := t_add e197 j173_3 (in_c 1 rfl) rfl; (first | have a6 := in_u ((in_c 1 rfl)) | (have a6 := (in_c 1 rfl); unfold In at a6)); omega) (by show y173_4.toInt.toNat < x1.toInt.toNat; (first | have a0 := oa5 h2 h1 i176 j173_3 i197 | ((first | have a0 := in_u h2 | (have a0 := h2; unfold In at a0)); (first | have a1 := in_u h1 | (have a1 := h1; unfold In at a1)); (first | have a2 := in_u i176 | (have a2 := i176; unfold In at a2)); (first | have a3 := in_u j173_3 | (have a3 := j173_3; unfold In at a3)); (first | have a4 := in_u i197 | (have a4 := i197; unfold In at a4)))); have a5 := t_add e197 j173_3 (in_c 1 rfl) rfl; (first | have a6 := in_u ((in_c 1 rfl)) | (have a6 := (in_c 1 rfl); unfold In at a6)); (first | exact zt_t (by omega) (by omega) | omega)); have hc := g173_0; (first | have a0 := oa5 h2 h1 i176 j173_3 i197 | ((first | have a0 := in_u h2 | (have a0 := h2; unfold In at a0)); (first | have a1 := in_u h1 | (have a1 := h1; unfold In at a1)); (first | have a2 := in_u i176 | (have a2 := i176; unfold In at a2)); (first | have a3 := in_u j173_3 | (have a3 := j173_3; unfold In at a3)); (first | have a4 := in_u i197 | (have a4 := i197; unfold In at a4)))); have a5 := t_add e197 j173_3 (in_c 1 rfl) rfl; (first | have a6 := in_u ((in_c 1 rfl)) | (have a6 := (in_c 1 rfl); unfold In at a6)); omega)) | skip
          refine g_iinc 203 (gd rfl) rfl rfl (Nat.le_of_ble_eq_true rfl) (fun z200 e200 => ?_)
          have i200 := in_add 1 32 e200 i176 (in_c 1 rfl) rfl rfl
          refine g_goto 173 (gd rfl) rfl ?_
          have i173 : In z197 0 32 := by first | (exact ⟨by (first | have a0 := oa5 h2 h1 i176 j173_3 i200 | ((first | have a0 := in_u h2 | (have a0 := h2; unfold In at a0)); (first | have a1 := in_u h1 | (have a1 := h1; unfold In at a1)); (first | have a2 := in_u i176 | (have a2 := i176; unfold In at a2)); (first | have a3 := in_u j173_3 | (have a3 := j173_3; unfold In at a3)); (first | have a4 := in_u i200 | (have a4 := i200; unfold In at a4)))); have a5 := t_add e200 i176 (in_c 1 rfl) rfl; (first | have a6 := oa2 ((in_c 1 rfl)) i197 | ((first | have a6 := in_u ((in_c 1 rfl)) | (have a6 := (in_c 1 rfl); unfold In at a6)); (first | have a7 := in_u i197 | (have a7 := i197; unfold In at a7)))); have a8 := t_add e197 j173_3 (in_c 1 rfl) rfl; omega, by (first | have a0 := oa5 h2 h1 i176 j173_3 i200 | ((first | have a0 := in_u h2 | (have a0 := h2; unfold In at a0)); (first | have a1 := in_u h1 | (have a1 := h1; unfold In at a1)); (first | have a2 := in_u i176 | (have a2 := i176; unfold In at a2)); (first | have a3 := in_u j173_3 | (have a3 := j173_3; unfold In at a3)); (first | have a4 := in_u i200 | (have a4 := i200; unfold In at a4)))); have a5 := t_add e200 i176 (in_c 1 rfl) rfl; (first | have a6 := oa2 ((in_c 1 rfl)) i197 | ((first | have a6 := in_u ((in_c 1 rfl)) | (have a6 := (in_c 1 rfl); unfold In at a6)); (first | have a7 := in_u i197 | (have a7 := i197; unfold In at a7)))); have a8 := t_add e197 j173_3 (in_c 1 rfl) rfl; omega⟩) | (have hc := n173q; exact ⟨by (first | have a0 := oa5 h2 h1 i176 j173_3 i200 | ((first | have a0 := in_u h2 | (have a0 := h2; unfold In at a0)); (first | have a1 := in_u h1 | (have a1 := h1; unfold In at a1)); (first | have a2 := in_u i176 | (have a2 := i176; unfold In at a2)); (first | have a3 := in_u j173_3 | (have a3 := j173_3; unfold In at a3)); (first | have a4 := in_u i200 | (have a4 := i200; unfold In at a4)))); have a5 := t_add e200 i176 (in_c 1 rfl) rfl; (first | have a6 := oa2 ((in_c 1 rfl)) i197 | ((first | have a6 := in_u ((in_c 1 rfl)) | (have a6 := (in_c 1 rfl); unfold In at a6)); (first | have a7 := in_u i197 | (have a7 := i197; unfold In at a7)))); have a8 := t_add e197 j173_3 (in_c 1 rfl) rfl; omega, by (first | have a0 := oa5 h2 h1 i176 j173_3 i200 | ((first | have a0 := in_u h2 | (have a0 := h2; unfold In at a0)); (first | have a1 := in_u h1 | (have a1 := h1; unfold In at a1)); (first | have a2 := in_u i176 | (have a2 := i176; unfold In at a2)); (first | have a3 := in_u j173_3 | (have a3 := j173_3; unfold In at a3)); (first | have a4 := in_u i200 | (have a4 := i200; unfold In at a4)))); have a5 := t_add e200 i176 (in_c 1 rfl) rfl; (first | have a6 := oa2 ((in_c 1 rfl)) i197 | ((first | have a6 := in_u ((in_c 1 rfl)) | (have a6 := (in_c 1 rfl); unfold In at a6)); (first | have a7 := in_u i197 | (have a7 := i197; unfold In at a7)))); have a8 := t_add e197 j173_3 (in_c 1 rfl) rfl; omega⟩)
          have n173 : 0 ≤ (z197).toInt := by (first | have a0 := oa5 h2 h1 i176 j173_3 i200 | ((first | have a0 := in_u h2 | (have a0 := h2; unfold In at a0)); (first | have a1 := in_u h1 | (have a1 := h1; unfold In at a1)); (first | have a2 := in_u i176 | (have a2 := i176; unfold In at a2)); (first | have a3 := in_u j173_3 | (have a3 := j173_3; unfold In at a3)); (first | have a4 := in_u i200 | (have a4 := i200; unfold In at a4)))); have a5 := t_add e200 i176 (in_c 1 rfl) rfl; (first | have a6 := oa2 ((in_c 1 rfl)) i173 | ((first | have a6 := in_u ((in_c 1 rfl)) | (have a6 := (in_c 1 rfl); unfold In at a6)); (first | have a7 := in_u i173 | (have a7 := i173; unfold In at a7)))); have a8 := t_add e197 j173_3 (in_c 1 rfl) rfl; omega
          have n173a : (z197).toInt + (cM ((sI sc173 158 y173_4.toNatClampNeg y173_3).1 158) (x1).toNatClampNeg : Int) ≤ (x1).toInt := by first | exact n173q | exact g173_0 | exact g32_0
          have n173b : ∀ k : Nat, (k : Int) < (x1).toInt → ((sI sc173 158 y173_4.toNatClampNeg y173_3).1 158 k).toInt < (z197).toInt := by first | exact g173_1 | exact g32_1 | (intro k hk; rw [sI_q]; exact up_lt (fun c => by have h := g173_1 k hk; (first | have a0 := oa5 h2 h1 i176 j173_3 i200 | ((first | have a0 := in_u h2 | (have a0 := h2; unfold In at a0)); (first | have a1 := in_u h1 | (have a1 := h1; unfold In at a1)); (first | have a2 := in_u i176 | (have a2 := i176; unfold In at a2)); (first | have a3 := in_u j173_3 | (have a3 := j173_3; unfold In at a3)); (first | have a4 := in_u i200 | (have a4 := i200; unfold In at a4)))); have a5 := t_add e200 i176 (in_c 1 rfl) rfl; (first | have a6 := oa2 ((in_c 1 rfl)) i173 | ((first | have a6 := in_u ((in_c 1 rfl)) | (have a6 := (in_c 1 rfl); unfold In at a6)); (first | have a7 := in_u i173 | (have a7 := i173; unfold In at a7)))); have a8 := t_add e197 j173_3 (in_c 1 rfl) rfl; omega) (by (first | have a0 := oa5 h2 h1 i176 j173_3 i200 | ((first | have a0 := in_u h2 | (have a0 := h2; unfold In at a0)); (first | have a1 := in_u h1 | (have a1 := h1; unfold In at a1)); (first | have a2 := in_u i176 | (have a2 := i176; unfold In at a2)); (first | have a3 := in_u j173_3 | (have a3 := j173_3; unfold In at a3)); (first | have a4 := in_u i200 | (have a4 := i200; unfold In at a4)))); have a5 := t_add e200 i176 (in_c 1 rfl) rfl; (first | have a6 := oa2 ((in_c 1 rfl)) i173 | ((first | have a6 := in_u ((in_c 1 rfl)) | (have a6 := (in_c 1 rfl); unfold In at a6)); (first | have a7 := in_u i173 | (have a7 := i173; unfold In at a7)))); have a8 := t_add e197 j173_3 (in_c 1 rfl) rfl; omega))
          have n173c : ∀ k : Nat, (k : Int) < (z200).toInt → 0 ≤ ((sI sc173 158 y173_4.toNatClampNeg y173_3).1 158 k).toInt := by first | (intro k hk; exfalso; have h0 : (Int32.ofInt 0).toInt = 0 := rfl; omega) | (intro k hk; have e4 : y173_4.toNatClampNeg = y173_4.toInt.toNat := rfl; first | (by_cases c : (k : Int) < y173_4.toInt; exact g173_2 k c; (rw [show k = y173_4.toNatClampNeg from (by (first | have a0 := oa5 h2 h1 i176 j173_3 i200 | ((first | have a0 := in_u h2 | (have a0 := h2; unfold In at a0)); (first | have a1 := in_u h1 | (have a1 := h1; unfold In at a1)); (first | have a2 := in_u i176 | (have a2 := i176; unfold In at a2)); (first | have a3 := in_u j173_3 | (have a3 := j173_3; unfold In at a3)); (first | have a4 := in_u i200 | (have a4 := i200; unfold In at a4)))); have a5 := t_add e200 i176 (in_c 1 rfl) rfl; (first | have a6 := oa2 ((in_c 1 rfl)) i173 | ((first | have a6 := in_u ((in_c 1 rfl)) | (have a6 := (in_c 1 rfl); unfold In at a6)); (first | have a7 := in_u i173 | (have a7 := i173; unfold In at a7)))); have a8 := t_add e197 j173_3 (in_c 1 rfl) rfl; omega), ← e185]; exact c186)) | (rw [sI_q]; unfold upd; by_cases c : k = y173_4.toNatClampNeg; (rw [if_pos c]; (first | have a0 := oa5 h2 h1 i176 j173_3 i200 | ((first | have a0 := in_u h2 | (have a0 := h2; unfold In at a0)); (first | have a1 := in_u h1 | (have a1 := h1; unfold In at a1)); (first | have a2 := in_u i176 | (have a2 := i176; unfold In at a2)); (first | have a3 := in_u j173_3 | (have a3 := j173_3; unfold In at a3)); (first | have a4 := in_u i200 | (have a4 := i200; unfold In at a4)))); have a5 := t_add e200 i176 (in_c 1 rfl) rfl; (first | have a6 := oa2 ((in_c 1 rfl)) i173 | ((first | have a6 := in_u ((in_c 1 rfl)) | (have a6 := (in_c 1 rfl); unfold In at a6)); (first | have a7 := in_u i173 | (have a7 := i173; unfold In at a7)))); have a8 := t_add e197 j173_3 (in_c 1 rfl) rfl; omega); (rw [if_neg c]; exact g173_2 k (by (first | have a0 := oa5 h2 h1 i176 j173_3 i200 | ((first | have a0 := in_u h2 | (have a0 := h2; unfold In at a0)); (first | have a1 := in_u h1 | (have a1 := h1; unfold In at a1)); (first | have a2 := in_u i176 | (have a2 := i176; unfold In at a2)); (first | have a3 := in_u j173_3 | (have a3 := j173_3; unfold In at a3)); (first | have a4 := in_u i200 | (have a4 := i200; unfold In at a4)))); have a5 := t_add e200 i176 (in_c 1 rfl) rfl; (first | have a6 := oa2 ((in_c 1 rfl)) i173 | ((first | have a6 := in_u ((in_c 1 rfl)) | (have a6 := (in_c 1 rfl); unfold In at a6)); (first | have a7 := in_u i173 | (have a7 := i173; unfold In at a7)))); have a8 := t_add e197 j173_3 (in_c 1 rfl) rfl; omega))))
          exact gg_w (by first | exact Nat.le_add_right _ _ | exact gw2 | exact gw3 | exact gwe rfl | exact gwf rfl | exact gwg rfl | exact gwh rfl | omega) (gg_f (gf_cons rfl (gf_cons rfl (gf_cons rfl (gf_cons rfl (gf_cons rfl gf_nil))))) (ih173 (sI sc173 158 y173_4.toNatClampNeg y173_3) z197 z200 hI196 (fr_sI rfl hFc173) i173 (in_w 0 32 i200 rfl) n173 n173a n173b n173c (m_up mm173 (t_add e200 i176 (in_c 1 rfl) rfl) (in_w 1 1 (in_c 1 rfl) rfl))))
  have ct32 : ∀ (k32 : Nat) (sc32 : GS) (y32_3 : Int32) (y32_4 : Int32), Inv sc32 → Fr fm_364 s sc32 → (In y32_3 0 32) → (In y32_4 0 32) → (0 ≤ (y32_3).toInt) → ((y32_3).toInt + (cM (sc32.1 158) (x1).toNatClampNeg : Int) ≤ (x1).toInt) → (∀ k : Nat, (k : Int) < (x1).toInt → (sc32.1 158 k).toInt < (y32_3).toInt) → (∀ k : Nat, (k : Int) < (x1).toInt → (sc32.1 159 k).toInt < (y32_4).toInt) → 32 - (y32_4).toInt < (k32 : Int) → GG Z (d - 1) 364 post (gx xp) (29702 + k32 * 63902) 32 (fun j => xlook j [(0, .ref (A 109)), (1, .int x1), (2, .int x2), (3, .int y32_3), (4, .int y32_4)]) [] (WW Z A sc32 ++ ex) 0 0 := by
    intro k32
    induction k32 with
    | zero => intro sc32 y32_3 y32_4 hIc32 hFc32 j32_3 j32_4 n32_0 g32_0 g32_1 g32_2 mm32; exact m_no mm32 j32_4 rfl
    | succ k32 ih32 =>
      intro sc32 y32_3 y32_4 hIc32 hFc32 j32_3 j32_4 n32_0 g32_0 g32_1 g32_2 mm32
      refine gg_w (M := 29702 + k32 * 63902 + 63902) gws ?_
      have ct126 : ∀ (k126 : Nat) (sc126 : GS) (y126_5 : Int32) (y126_6 : Int32), Inv sc126 → Fr fm_364 s sc126 → (In y32_4 0 31) → (In y126_5 0 31) → (In y126_6 0 31) → ((y126_6).toInt < (x1).toInt) → (0 ≤ (y126_6).toInt) → (((y32_3).toInt + (cM (sc126.1 158) (x1).toNatClampNeg : Int) ≤ (x1).toInt ∧ (sc126.1 158 (y126_6).toNatClampNeg).toInt < 0) ∨ (y32_3).toInt + 1 + (cM (sc126.1 158) (x1).toNatClampNeg : Int) ≤ (x1).toInt) → (∀ k : Nat, (k : Int) < (x1).toInt → (sc126.1 158 k).toInt < (y32_3).toInt + 1) → (∀ k : Nat, (k : Int) < (x1).toInt → (sc126.1 159 k).toInt < (y32_4).toInt + 1) → (VD s (sc126.1 159) (x1).toInt (x2).toInt (y32_4).toInt) → ((sc126.1 159 (y126_6).toNatClampNeg).toInt = (y32_4).toInt) → cM (sc126.1 158) (x1).toNatClampNeg < k126 → GG Z (d - 1) 364 post (gx xp) (29702 + k32 * 63902 + 1 + k126 * 900) 126 (fun j => xlook j [(0, .ref (A 109)), (1, .int x1), (2, .int x2), (3, .int y32_3), (4, .int y32_4), (5, .int y126_5), (6, .int y126_6)]) [] (WW Z A sc126 ++ ex) 0 0 := by
        intro k126
        induction k126 with
        | zero => intro sc126 y126_5 y126_6 hIc126 hFc126 j126_4 j126_5 j126_6 n126_0 n126_1 g126_0 g126_1 g126_2 g126_3 g126_4 mm126; exact absurd mm126 (Nat.not_lt_zero _)
        | succ k126 ih126 =>
          intro sc126 y126_5 y126_6 hIc126 hFc126 j126_4 j126_5 j126_6 n126_0 n126_1 g126_0 g126_1 g126_2 g126_3 g126_4 mm126
          refine gg_w (M := 29702 + k32 * 63902 + 1 + k126 * 900 + 900) gws ?_
          refine g_aload_n 127 (gd rfl) rfl rfl ?_
          refine g_getA (q2 := 158) 130 (gd rfl) rfl rfl rfl rfl ?_
          refine g_iload 132 (gd rfl) rfl rfl ?_
          refine g_iaload 133 (gd rfl) rfl (n := 32) rfl (in_ix j126_6 rfl) (fun z132 e132 => ?_)
          refine g_if_ge 136 161 (gd rfl) rfl rfl (fun c133 => ?_) (fun c133 => ?_)
          · skip
            have i133 := z_ge 0 2147483647 c133 (i_rng z132) rfl
            have n126q : (y32_3).toInt + 1 + (cM (sc126.1 158) (x1).toNatClampNeg : Int) ≤ (x1).toInt := (by rcases g126_0 with hg | hg; (exfalso; rw [← e132] at hg; have hz := c133; omega); exact hg)
            refine g_iinc 164 (gd rfl) rfl rfl (Nat.le_of_ble_eq_true rfl) (fun z161 e161 => ?_)
            have i161 := in_add 1 33 e161 j32_3 (in_c 1 rfl) rfl rfl
            refine g_iinc 167 (gd rfl) rfl rfl (Nat.le_of_ble_eq_true rfl) (fun z164 e164 => ?_)
            have i164 := in_add 1 32 e164 j126_4 (in_c 1 rfl) rfl rfl
            refine g_goto 32 (gd rfl) rfl ?_
            have i32 : In z161 0 32 := by first | (exact ⟨by (first | have a0 := oa7 j126_4 j32_3 h2 h1 j126_6 j126_5 i164 | ((first | have a0 := in_u j126_4 | (have a0 := j126_4; unfold In at a0)); (first | have a1 := in_u j32_3 | (have a1 := j32_3; unfold In at a1)); (first | have a2 := in_u h2 | (have a2 := h2; unfold In at a2)); (first | have a3 := in_u h1 | (have a3 := h1; unfold In at a3)); (first | have a4 := in_u j126_6 | (have a4 := j126_6; unfold In at a4)); (first | have a5 := in_u j126_5 | (have a5 := j126_5; unfold In at a5)); (first | have a6 := in_u i164 | (have a6 := i164; unfold In at a6)))); have a7 := t_add e164 j126_4 (in_c 1 rfl) rfl; (first | have a8 := oa2 ((in_c 1 rfl)) i161 | ((first | have a8 := in_u ((in_c 1 rfl)) | (have a8 := (in_c 1 rfl); unfold In at a8)); (first | have a9 := in_u i161 | (have a9 := i161; unfold In at a9)))); have a10 := t_add e161 j32_3 (in_c 1 rfl) rfl; omega, by (first | have a0 := oa7 j126_4 j32_3 h2 h1 j126_6 j126_5 i164 | ((first | have a0 := in_u j126_4 | (have a0 := j126_4; unfold In at a0)); (first | have a1 := in_u j32_3 | (have a1 := j32_3; unfold In at a1)); (first | have a2 := in_u h2 | (have a2 := h2; unfold In at a2)); (first | have a3 := in_u h1 | (have a3 := h1; unfold In at a3)); (first | have a4 := in_u j126_6 | (have a4 := j126_6; unfold In at a4)); (first | have a5 := in_u j126_5 | (have a5 := j126_5; unfold In at a5)); (first | have a6 := in_u i164 | (have a6 := i164; unfold In at a6)))); have a7 := t_add e164 j126_4 (in_c 1 rfl) rfl; (first | have a8 := oa2 ((in_c 1 rfl)) i161 | ((first | have a8 := in_u ((in_c 1 rfl)) | (have a8 := (in_c 1 rfl); unfold In at a8)); (first | have a9 := in_u i161 | (have a9 := i161; unfold In at a9)))); have a10 := t_add e161 j32_3 (in_c 1 rfl) rfl; omega⟩) | (have hc := n126q; exact ⟨by (first | have a0 := oa7 j126_4 j32_3 h2 h1 j126_6 j126_5 i164 | ((first | have a0 := in_u j126_4 | (have a0 := j126_4; unfold In at a0)); (first | have a1 := in_u j32_3 | (have a1 := j32_3; unfold In at a1)); (first | have a2 := in_u h2 | (have a2 := h2; unfold In at a2)); (first | have a3 := in_u h1 | (have a3 := h1; unfold In at a3)); (first | have a4 := in_u j126_6 | (have a4 := j126_6; unfold In at a4)); (first | have a5 := in_u j126_5 | (have a5 := j126_5; unfold In at a5)); (first | have a6 := in_u i164 | (have a6 := i164; unfold In at a6)))); have a7 := t_add e164 j126_4 (in_c 1 rfl) rfl; (first | have a8 := oa2 ((in_c 1 rfl)) i161 | ((first | have a8 := in_u ((in_c 1 rfl)) | (have a8 := (in_c 1 rfl); unfold In at a8)); (first | have a9 := in_u i161 | (have a9 := i161; unfold In at a9)))); have a10 := t_add e161 j32_3 (in_c 1 rfl) rfl; omega, by (first | have a0 := oa7 j126_4 j32_3 h2 h1 j126_6 j126_5 i164 | ((first | have a0 := in_u j126_4 | (have a0 := j126_4; unfold In at a0)); (first | have a1 := in_u j32_3 | (have a1 := j32_3; unfold In at a1)); (first | have a2 := in_u h2 | (have a2 := h2; unfold In at a2)); (first | have a3 := in_u h1 | (have a3 := h1; unfold In at a3)); (first | have a4 := in_u j126_6 | (have a4 := j126_6; unfold In at a4)); (first | have a5 := in_u j126_5 | (have a5 := j126_5; unfold In at a5)); (first | have a6 := in_u i164 | (have a6 := i164; unfold In at a6)))); have a7 := t_add e164 j126_4 (in_c 1 rfl) rfl; (first | have a8 := oa2 ((in_c 1 rfl)) i161 | ((first | have a8 := in_u ((in_c 1 rfl)) | (have a8 := (in_c 1 rfl); unfold In at a8)); (first | have a9 := in_u i161 | (have a9 := i161; unfold In at a9)))); have a10 := t_add e161 j32_3 (in_c 1 rfl) rfl; omega⟩)
            have n32 : 0 ≤ (z161).toInt := by (first | have a0 := oa7 j126_4 j32_3 h2 h1 j126_6 j126_5 i164 | ((first | have a0 := in_u j126_4 | (have a0 := j126_4; unfold In at a0)); (first | have a1 := in_u j32_3 | (have a1 := j32_3; unfold In at a1)); (first | have a2 := in_u h2 | (have a2 := h2; unfold In at a2)); (first | have a3 := in_u h1 | (have a3 := h1; unfold In at a3)); (first | have a4 := in_u j126_6 | (have a4 := j126_6; unfold In at a4)); (first | have a5 := in_u j126_5 | (have a5 := j126_5; unfold In at a5)); (first | have a6 := in_u i164 | (have a6 := i164; unfold In at a6)))); have a7 := t_add e164 j126_4 (in_c 1 rfl) rfl; (first | have a8 := oa2 ((in_c 1 rfl)) i32 | ((first | have a8 := in_u ((in_c 1 rfl)) | (have a8 := (in_c 1 rfl); unfold In at a8)); (first | have a9 := in_u i32 | (have a9 := i32; unfold In at a9)))); have a10 := t_add e161 j32_3 (in_c 1 rfl) rfl; omega
            have n32a : (z161).toInt + (cM (sc126.1 158) (x1).toNatClampNeg : Int) ≤ (x1).toInt := by first | exact g42_0 | (rcases g126_0 with hg | hg; (exfalso; rw [← e132] at hg; have hz := c133; omega); (first | have a0 := oa7 j126_4 j32_3 h2 h1 j126_6 j126_5 i164 | ((first | have a0 := in_u j126_4 | (have a0 := j126_4; unfold In at a0)); (first | have a1 := in_u j32_3 | (have a1 := j32_3; unfold In at a1)); (first | have a2 := in_u h2 | (have a2 := h2; unfold In at a2)); (first | have a3 := in_u h1 | (have a3 := h1; unfold In at a3)); (first | have a4 := in_u j126_6 | (have a4 := j126_6; unfold In at a4)); (first | have a5 := in_u j126_5 | (have a5 := j126_5; unfold In at a5)); (first | have a6 := in_u i164 | (have a6 := i164; unfold In at a6)))); have a7 := t_add e164 j126_4 (in_c 1 rfl) rfl; (first | have a8 := oa2 ((in_c 1 rfl)) i32 | ((first | have a8 := in_u ((in_c 1 rfl)) | (have a8 := (in_c 1 rfl); unfold In at a8)); (first | have a9 := in_u i32 | (have a9 := i32; unfold In at a9)))); have a10 := t_add e161 j32_3 (in_c 1 rfl) rfl; omega) | (have hc := cM_le (sc126.1 158) (x1).toNatClampNeg; have h0 : (Int32.ofInt 0).toInt = 0 := rfl; have hmn : ((x1).toNatClampNeg : Int) = (x1).toInt := (by show (((x1).toInt.toNat : Nat) : Int) = _; (first | have a0 := oa7 j126_4 j32_3 h2 h1 j126_6 j126_5 i164 | ((first | have a0 := in_u j126_4 | (have a0 := j126_4; unfold In at a0)); (first | have a1 := in_u j32_3 | (have a1 := j32_3; unfold In at a1)); (first | have a2 := in_u h2 | (have a2 := h2; unfold In at a2)); (first | have a3 := in_u h1 | (have a3 := h1; unfold In at a3)); (first | have a4 := in_u j126_6 | (have a4 := j126_6; unfold In at a4)); (first | have a5 := in_u j126_5 | (have a5 := j126_5; unfold In at a5)); (first | have a6 := in_u i164 | (have a6 := i164; unfold In at a6)))); have a7 := t_add e164 j126_4 (in_c 1 rfl) rfl; (first | have a8 := oa2 ((in_c 1 rfl)) i32 | ((first | have a8 := in_u ((in_c 1 rfl)) | (have a8 := (in_c 1 rfl); unfold In at a8)); (first | have a9 := in_u i32 | (have a9 := i32; unfold In at a9)))); have a10 := t_add e161 j32_3 (in_c 1 rfl) rfl; omega); omega)
            have n32b : ∀ k : Nat, (k : Int) < (x1).toInt → (sc126.1 158 k).toInt < (z161).toInt := by first | exact g42_1 | (intro k hk; have h := g126_1 k hk; (first | have a0 := oa7 j126_4 j32_3 h2 h1 j126_6 j126_5 i164 | ((first | have a0 := in_u j126_4 | (have a0 := j126_4; unfold In at a0)); (first | have a1 := in_u j32_3 | (have a1 := j32_3; unfold In at a1)); (first | have a2 := in_u h2 | (have a2 := h2; unfold In at a2)); (first | have a3 := in_u h1 | (have a3 := h1; unfold In at a3)); (first | have a4 := in_u j126_6 | (have a4 := j126_6; unfold In at a4)); (first | have a5 := in_u j126_5 | (have a5 := j126_5; unfold In at a5)); (first | have a6 := in_u i164 | (have a6 := i164; unfold In at a6)))); have a7 := t_add e164 j126_4 (in_c 1 rfl) rfl; (first | have a8 := oa2 ((in_c 1 rfl)) i32 | ((first | have a8 := in_u ((in_c 1 rfl)) | (have a8 := (in_c 1 rfl); unfold In at a8)); (first | have a9 := in_u i32 | (have a9 := i32; unfold In at a9)))); have a10 := t_add e161 j32_3 (in_c 1 rfl) rfl; omega) | exact fun k hk => (g2_0 k (by (first | have a0 := oa7 j126_4 j32_3 h2 h1 j126_6 j126_5 i164 | ((first | have a0 := in_u j126_4 | (have a0 := j126_4; unfold In at a0)); (first | have a1 := in_u j32_3 | (have a1 := j32_3; unfold In at a1)); (first | have a2 := in_u h2 | (have a2 := h2; unfold In at a2)); (first | have a3 := in_u h1 | (have a3 := h1; unfold In at a3)); (first | have a4 := in_u j126_6 | (have a4 := j126_6; unfold In at a4)); (first | have a5 := in_u j126_5 | (have a5 := j126_5; unfold In at a5)); (first | have a6 := in_u i164 | (have a6 := i164; unfold In at a6)))); have a7 := t_add e164 j126_4 (in_c 1 rfl) rfl; (first | have a8 := oa2 ((in_c 1 rfl)) i32 | ((first | have a8 := in_u ((in_c 1 rfl)) | (have a8 := (in_c 1 rfl); unfold In at a8)); (first | have a9 := in_u i32 | (have a9 := i32; unfold In at a9)))); have a10 := t_add e161 j32_3 (in_c 1 rfl) rfl; omega)).1
            have n32c : ∀ k : Nat, (k : Int) < (x1).toInt → (sc126.1 159 k).toInt < (z164).toInt := by first | (intro k hk; have h := g42_2 k hk; (first | have a0 := oa7 j126_4 j32_3 h2 h1 j126_6 j126_5 i164 | ((first | have a0 := in_u j126_4 | (have a0 := j126_4; unfold In at a0)); (first | have a1 := in_u j32_3 | (have a1 := j32_3; unfold In at a1)); (first | have a2 := in_u h2 | (have a2 := h2; unfold In at a2)); (first | have a3 := in_u h1 | (have a3 := h1; unfold In at a3)); (first | have a4 := in_u j126_6 | (have a4 := j126_6; unfold In at a4)); (first | have a5 := in_u j126_5 | (have a5 := j126_5; unfold In at a5)); (first | have a6 := in_u i164 | (have a6 := i164; unfold In at a6)))); have a7 := t_add e164 j126_4 (in_c 1 rfl) rfl; (first | have a8 := oa2 ((in_c 1 rfl)) i32 | ((first | have a8 := in_u ((in_c 1 rfl)) | (have a8 := (in_c 1 rfl); unfold In at a8)); (first | have a9 := in_u i32 | (have a9 := i32; unfold In at a9)))); have a10 := t_add e161 j32_3 (in_c 1 rfl) rfl; omega) | (intro k hk; have h := g126_2 k hk; (first | have a0 := oa7 j126_4 j32_3 h2 h1 j126_6 j126_5 i164 | ((first | have a0 := in_u j126_4 | (have a0 := j126_4; unfold In at a0)); (first | have a1 := in_u j32_3 | (have a1 := j32_3; unfold In at a1)); (first | have a2 := in_u h2 | (have a2 := h2; unfold In at a2)); (first | have a3 := in_u h1 | (have a3 := h1; unfold In at a3)); (first | have a4 := in_u j126_6 | (have a4 := j126_6; unfold In at a4)); (first | have a5 := in_u j126_5 | (have a5 := j126_5; unfold In at a5)); (first | have a6 := in_u i164 | (have a6 := i164; unfold In at a6)))); have a7 := t_add e164 j126_4 (in_c 1 rfl) rfl; (first | have a8 := oa2 ((in_c 1 rfl)) i32 | ((first | have a8 := in_u ((in_c 1 rfl)) | (have a8 := (in_c 1 rfl); unfold In at a8)); (first | have a9 := in_u i32 | (have a9 := i32; unfold In at a9)))); have a10 := t_add e161 j32_3 (in_c 1 rfl) rfl; omega) | exact fun k hk => (g2_0 k (by (first | have a0 := oa7 j126_4 j32_3 h2 h1 j126_6 j126_5 i164 | ((first | have a0 := in_u j126_4 | (have a0 := j126_4; unfold In at a0)); (first | have a1 := in_u j32_3 | (have a1 := j32_3; unfold In at a1)); (first | have a2 := in_u h2 | (have a2 := h2; unfold In at a2)); (first | have a3 := in_u h1 | (have a3 := h1; unfold In at a3)); (first | have a4 := in_u j126_6 | (have a4 := j126_6; unfold In at a4)); (first | have a5 := in_u j126_5 | (have a5 := j126_5; unfold In at a5)); (first | have a6 := in_u i164 | (have a6 := i164; unfold In at a6)))); have a7 := t_add e164 j126_4 (in_c 1 rfl) rfl; (first | have a8 := oa2 ((in_c 1 rfl)) i32 | ((first | have a8 := in_u ((in_c 1 rfl)) | (have a8 := (in_c 1 rfl); unfold In at a8)); (first | have a9 := in_u i32 | (have a9 := i32; unfold In at a9)))); have a10 := t_add e161 j32_3 (in_c 1 rfl) rfl; omega)).2
            exact gg_w (by first | exact Nat.le_add_right _ _ | exact gw2 | exact gw3 | exact gwe rfl | exact gwf rfl | exact gwg rfl | exact gwh rfl | omega) (gg_f (gf_cons rfl (gf_cons rfl (gf_cons rfl (gf_cons rfl (gf_cons rfl gf_nil))))) (ih32 sc126 z161 z164 hIc126 hFc126 i32 (in_w 0 32 i164 rfl) n32 n32a n32b n32c (m_up mm32 (t_add e164 j126_4 (in_c 1 rfl) rfl) (in_w 1 1 (in_c 1 rfl) rfl))))
          · skip
            have i133 := z_lt (-2147483648) (-1) c133 (i_rng z132) rfl
            refine g_aload_n 137 (gd rfl) rfl rfl ?_
            refine g_getA (q2 := 158) 140 (gd rfl) rfl rfl rfl rfl ?_
            refine g_iload 142 (gd rfl) rfl rfl ?_
            refine g_iload_n 143 (gd rfl) rfl rfl ?_
            refine g_iastore 144 (gd rfl) rfl (n := 32) rfl (in_ix j126_6 rfl) ?_
            have hI143 := inv_sI (q := 158) (j := y126_6.toNatClampNeg) hIc126 rfl (in_w (-2147483648) 2147483647 j32_3 rfl)
            refine g_aload_n 145 (gd rfl) rfl rfl ?_
            refine g_getA (q2 := 153) 148 (gd rfl) rfl rfl rfl rfl ?_
            refine g_aload_n 149 (gd rfl) rfl rfl ?_
            refine g_getA (q2 := 157) 152 (gd rfl) rfl rfl rfl rfl ?_
            refine g_iload 154 (gd rfl) rfl rfl ?_
            refine g_iaload 155 (gd rfl) rfl (n := 32) rfl (in_ix j126_6 rfl) (fun z154 e154 => ?_)
            have i154 := inv_I hI143 (n := 32) (t := 0) (-1) 159 rfl (in_ix j126_6 rfl) rfl e154
            have i155 : In z154 0 159 := by have hq := (g126_3 y126_6.toNatClampNeg (by show ((y126_6.toInt.toNat : Nat) : Int) < _; (first | have a0 := oa6 j126_4 j32_3 h2 h1 j126_6 j126_5 | ((first | have a0 := in_u j126_4 | (have a0 := j126_4; unfold In at a0)); (first | have a1 := in_u j32_3 | (have a1 := j32_3; unfold In at a1)); (first | have a2 := in_u h2 | (have a2 := h2; unfold In at a2)); (first | have a3 := in_u h1 | (have a3 := h1; unfold In at a3)); (first | have a4 := in_u j126_6 | (have a4 := j126_6; unfold In at a4)); (first | have a5 := in_u j126_5 | (have a5 := j126_5; unfold In at a5)))); omega) g126_4).1; have hne : y126_6.toInt ≠ x2.toInt := (by have e6 : y126_6.toNatClampNeg = y126_6.toInt.toNat := rfl; (first | have a0 := oa6 j126_4 j32_3 h2 h1 j126_6 j126_5 | ((first | have a0 := in_u j126_4 | (have a0 := j126_4; unfold In at a0)); (first | have a1 := in_u j32_3 | (have a1 := j32_3; unfold In at a1)); (first | have a2 := in_u h2 | (have a2 := h2; unfold In at a2)); (first | have a3 := in_u h1 | (have a3 := h1; unfold In at a3)); (first | have a4 := in_u j126_6 | (have a4 := j126_6; unfold In at a4)); (first | have a5 := in_u j126_5 | (have a5 := j126_5; unfold In at a5)))); omega); have h := (tp_u (t := (sI sc126 158 y126_6.toNatClampNeg y32_3)) (y := y126_6) (b := z154) (f := y126_6) q_0 (by (first | have a0 := oa6 j126_4 j32_3 h2 h1 j126_6 j126_5 | ((first | have a0 := in_u j126_4 | (have a0 := j126_4; unfold In at a0)); (first | have a1 := in_u j32_3 | (have a1 := j32_3; unfold In at a1)); (first | have a2 := in_u h2 | (have a2 := h2; unfold In at a2)); (first | have a3 := in_u h1 | (have a3 := h1; unfold In at a3)); (first | have a4 := in_u j126_6 | (have a4 := j126_6; unfold In at a4)); (first | have a5 := in_u j126_5 | (have a5 := j126_5; unfold In at a5)))); omega) (by (first | have a0 := oa6 j126_4 j32_3 h2 h1 j126_6 j126_5 | ((first | have a0 := in_u j126_4 | (have a0 := j126_4; unfold In at a0)); (first | have a1 := in_u j32_3 | (have a1 := j32_3; unfold In at a1)); (first | have a2 := in_u h2 | (have a2 := h2; unfold In at a2)); (first | have a3 := in_u h1 | (have a3 := h1; unfold In at a3)); (first | have a4 := in_u j126_6 | (have a4 := j126_6; unfold In at a4)); (first | have a5 := in_u j126_5 | (have a5 := j126_5; unfold In at a5)))); omega) (by (first | have a0 := oa6 j126_4 j32_3 h2 h1 j126_6 j126_5 | ((first | have a0 := in_u j126_4 | (have a0 := j126_4; unfold In at a0)); (first | have a1 := in_u j32_3 | (have a1 := j32_3; unfold In at a1)); (first | have a2 := in_u h2 | (have a2 := h2; unfold In at a2)); (first | have a3 := in_u h1 | (have a3 := h1; unfold In at a3)); (first | have a4 := in_u j126_6 | (have a4 := j126_6; unfold In at a4)); (first | have a5 := in_u j126_5 | (have a5 := j126_5; unfold In at a5)))); omega) e154 ((sI_p rfl).trans (hFc126.1 157 rfl))); exact ⟨h.1, i154.2⟩
            refine g_iaload 156 (gd rfl) rfl (n := 160) rfl (in_ix i155 rfl) (fun z155 e155 => ?_)
            have i155a := inv_I hI143 (n := 160) (t := 0) 0 31 rfl (in_ix i155 rfl) rfl e155
            have hq := g126_3 y126_6.toNatClampNeg (by show ((y126_6.toInt.toNat : Nat) : Int) < _; (first | have a0 := oa6 j126_4 j32_3 h2 h1 j126_6 j126_5 | ((first | have a0 := in_u j126_4 | (have a0 := j126_4; unfold In at a0)); (first | have a1 := in_u j32_3 | (have a1 := j32_3; unfold In at a1)); (first | have a2 := in_u h2 | (have a2 := h2; unfold In at a2)); (first | have a3 := in_u h1 | (have a3 := h1; unfold In at a3)); (first | have a4 := in_u j126_6 | (have a4 := j126_6; unfold In at a4)); (first | have a5 := in_u j126_5 | (have a5 := j126_5; unfold In at a5)))); omega) g126_4; have hne : y126_6.toInt ≠ x2.toInt := (by have e6 : y126_6.toNatClampNeg = y126_6.toInt.toNat := rfl; (first | have a0 := oa6 j126_4 j32_3 h2 h1 j126_6 j126_5 | ((first | have a0 := in_u j126_4 | (have a0 := j126_4; unfold In at a0)); (first | have a1 := in_u j32_3 | (have a1 := j32_3; unfold In at a1)); (first | have a2 := in_u h2 | (have a2 := h2; unfold In at a2)); (first | have a3 := in_u h1 | (have a3 := h1; unfold In at a3)); (first | have a4 := in_u j126_6 | (have a4 := j126_6; unfold In at a4)); (first | have a5 := in_u j126_5 | (have a5 := j126_5; unfold In at a5)))); omega); have hz88 := ((tp_u (t := (sI sc126 158 y126_6.toNatClampNeg y32_3)) (y := y126_6) (b := z154) (f := z155) q_0 (by (first | have a0 := oa6 j126_4 j32_3 h2 h1 j126_6 j126_5 | ((first | have a0 := in_u j126_4 | (have a0 := j126_4; unfold In at a0)); (first | have a1 := in_u j32_3 | (have a1 := j32_3; unfold In at a1)); (first | have a2 := in_u h2 | (have a2 := h2; unfold In at a2)); (first | have a3 := in_u h1 | (have a3 := h1; unfold In at a3)); (first | have a4 := in_u j126_6 | (have a4 := j126_6; unfold In at a4)); (first | have a5 := in_u j126_5 | (have a5 := j126_5; unfold In at a5)))); omega) (by (first | have a0 := oa6 j126_4 j32_3 h2 h1 j126_6 j126_5 | ((first | have a0 := in_u j126_4 | (have a0 := j126_4; unfold In at a0)); (first | have a1 := in_u j32_3 | (have a1 := j32_3; unfold In at a1)); (first | have a2 := in_u h2 | (have a2 := h2; unfold In at a2)); (first | have a3 := in_u h1 | (have a3 := h1; unfold In at a3)); (first | have a4 := in_u j126_6 | (have a4 := j126_6; unfold In at a4)); (first | have a5 := in_u j126_5 | (have a5 := j126_5; unfold In at a5)))); omega) (by (first | have a0 := oa6 j126_4 j32_3 h2 h1 j126_6 j126_5 | ((first | have a0 := in_u j126_4 | (have a0 := j126_4; unfold In at a0)); (first | have a1 := in_u j32_3 | (have a1 := j32_3; unfold In at a1)); (first | have a2 := in_u h2 | (have a2 := h2; unfold In at a2)); (first | have a3 := in_u h1 | (have a3 := h1; unfold In at a3)); (first | have a4 := in_u j126_6 | (have a4 := j126_6; unfold In at a4)); (first | have a5 := in_u j126_5 | (have a5 := j126_5; unfold In at a5)))); omega) e154 ((sI_p rfl).trans (hFc126.1 157 rfl)))).2 e155 ((sI_p rfl).trans (hFc126.1 153 rfl)); have hz89 : (z155).toInt = (nx s y126_6.toNatClampNeg : Int) := hz88.2 i155a.1; have hy89 := hz88.1; have hx156 := hq.2; have hy156 : z155.toNatClampNeg = nx s y126_6.toNatClampNeg := (by have e6 : z155.toNatClampNeg = z155.toInt.toNat := rfl; omega)
            refine g_istore 158 (gd rfl) rfl (Nat.le_of_ble_eq_true rfl) ?_
            refine g_goto 126 (gd rfl) rfl ?_
            have n126 : (z155).toInt < (x1).toInt := by (first | have a0 := oa7 j126_4 j32_3 h2 h1 j126_6 j126_5 i155a | ((first | have a0 := in_u j126_4 | (have a0 := j126_4; unfold In at a0)); (first | have a1 := in_u j32_3 | (have a1 := j32_3; unfold In at a1)); (first | have a2 := in_u h2 | (have a2 := h2; unfold In at a2)); (first | have a3 := in_u h1 | (have a3 := h1; unfold In at a3)); (first | have a4 := in_u j126_6 | (have a4 := j126_6; unfold In at a4)); (first | have a5 := in_u j126_5 | (have a5 := j126_5; unfold In at a5)); (first | have a6 := in_u i155a | (have a6 := i155a; unfold In at a6)))); omega
            have n126a : 0 ≤ (z155).toInt := by (first | have a0 := oa7 j126_4 j32_3 h2 h1 j126_6 j126_5 i155a | ((first | have a0 := in_u j126_4 | (have a0 := j126_4; unfold In at a0)); (first | have a1 := in_u j32_3 | (have a1 := j32_3; unfold In at a1)); (first | have a2 := in_u h2 | (have a2 := h2; unfold In at a2)); (first | have a3 := in_u h1 | (have a3 := h1; unfold In at a3)); (first | have a4 := in_u j126_6 | (have a4 := j126_6; unfold In at a4)); (first | have a5 := in_u j126_5 | (have a5 := j126_5; unfold In at a5)); (first | have a6 := in_u i155a | (have a6 := i155a; unfold In at a6)))); omega
            have n126b : ((y32_3).toInt + (cM ((sI sc126 158 y126_6.toNatClampNeg y32_3).1 158) (x1).toNatClampNeg : Int) ≤ (x1).toInt ∧ ((sI sc126 158 y126_6.toNatClampNeg y32_3).1 158 (z155).toNatClampNeg).toInt < 0) ∨ (y32_3).toInt + 1 + (cM ((sI sc126 158 y126_6.toNatClampNeg y32_3).1 158) (x1).toNatClampNeg : Int) ≤ (x1).toInt := by first | (right; rw [sI_q]; have hu := up_cm (f := sc126.1 158) (y := y126_6) (b := y32_3) (n := x1.toNatClampNeg) (by rw [← e132]; exact c133) (by (first | have a0 := oa7 j126_4 j32_3 h2 h1 j126_6 j126_5 i155a | ((first | have a0 := in_u j126_4 | (have a0 := j126_4; unfold In at a0)); (first | have a1 := in_u j32_3 | (have a1 := j32_3; unfold In at a1)); (first | have a2 := in_u h2 | (have a2 := h2; unfold In at a2)); (first | have a3 := in_u h1 | (have a3 := h1; unfold In at a3)); (first | have a4 := in_u j126_6 | (have a4 := j126_6; unfold In at a4)); (first | have a5 := in_u j126_5 | (have a5 := j126_5; unfold In at a5)); (first | have a6 := in_u i155a | (have a6 := i155a; unfold In at a6)))); omega) (by show y126_6.toInt.toNat < x1.toInt.toNat; (first | have a0 := oa7 j126_4 j32_3 h2 h1 j126_6 j126_5 i155a | ((first | have a0 := in_u j126_4 | (have a0 := j126_4; unfold In at a0)); (first | have a1 := in_u j32_3 | (have a1 := j32_3; unfold In at a1)); (first | have a2 := in_u h2 | (have a2 := h2; unfold In at a2)); (first | have a3 := in_u h1 | (have a3 := h1; unfold In at a3)); (first | have a4 := in_u j126_6 | (have a4 := j126_6; unfold In at a4)); (first | have a5 := in_u j126_5 | (have a5 := j126_5; unfold In at a5)); (first | have a6 := in_u i155a | (have a6 := i155a; unfold In at a6)))); (first | exact zt_t (by omega) (by omega) | omega)); rcases g126_0 with hg | hg; ((first | have a0 := oa7 j126_4 j32_3 h2 h1 j126_6 j126_5 i155a | ((first | have a0 := in_u j126_4 | (have a0 := j126_4; unfold In at a0)); (first | have a1 := in_u j32_3 | (have a1 := j32_3; unfold In at a1)); (first | have a2 := in_u h2 | (have a2 := h2; unfold In at a2)); (first | have a3 := in_u h1 | (have a3 := h1; unfold In at a3)); (first | have a4 := in_u j126_6 | (have a4 := j126_6; unfold In at a4)); (first | have a5 := in_u j126_5 | (have a5 := j126_5; unfold In at a5)); (first | have a6 := in_u i155a | (have a6 := i155a; unfold In at a6)))); omega); ((first | have a0 := oa7 j126_4 j32_3 h2 h1 j126_6 j126_5 i155a | ((first | have a0 := in_u j126_4 | (have a0 := j126_4; unfold In at a0)); (first | have a1 := in_u j32_3 | (have a1 := j32_3; unfold In at a1)); (first | have a2 := in_u h2 | (have a2 := h2; unfold In at a2)); (first | have a3 := in_u h1 | (have a3 := h1; unfold In at a3)); (first | have a4 := in_u j126_6 | (have a4 := j126_6; unfold In at a4)); (first | have a5 := in_u j126_5 | (have a5 := j126_5; unfold In at a5)); (first | have a6 := in_u i155a | (have a6 := i155a; unfold In at a6)))); omega)) | exact Or.inl ⟨g42_0, by rw [← e106]; exact c107⟩
            have n126c : ∀ k : Nat, (k : Int) < (x1).toInt → ((sI sc126 158 y126_6.toNatClampNeg y32_3).1 158 k).toInt < (y32_3).toInt + 1 := by first | (intro k hk; rw [sI_q]; exact up_lt (fun c => g126_1 k hk) (by (first | have a0 := oa7 j126_4 j32_3 h2 h1 j126_6 j126_5 i155a | ((first | have a0 := in_u j126_4 | (have a0 := j126_4; unfold In at a0)); (first | have a1 := in_u j32_3 | (have a1 := j32_3; unfold In at a1)); (first | have a2 := in_u h2 | (have a2 := h2; unfold In at a2)); (first | have a3 := in_u h1 | (have a3 := h1; unfold In at a3)); (first | have a4 := in_u j126_6 | (have a4 := j126_6; unfold In at a4)); (first | have a5 := in_u j126_5 | (have a5 := j126_5; unfold In at a5)); (first | have a6 := in_u i155a | (have a6 := i155a; unfold In at a6)))); omega)) | (intro k hk; have h := g42_1 k hk; (first | have a0 := oa7 j126_4 j32_3 h2 h1 j126_6 j126_5 i155a | ((first | have a0 := in_u j126_4 | (have a0 := j126_4; unfold In at a0)); (first | have a1 := in_u j32_3 | (have a1 := j32_3; unfold In at a1)); (first | have a2 := in_u h2 | (have a2 := h2; unfold In at a2)); (first | have a3 := in_u h1 | (have a3 := h1; unfold In at a3)); (first | have a4 := in_u j126_6 | (have a4 := j126_6; unfold In at a4)); (first | have a5 := in_u j126_5 | (have a5 := j126_5; unfold In at a5)); (first | have a6 := in_u i155a | (have a6 := i155a; unfold In at a6)))); omega)
            have n126d : ∀ k : Nat, (k : Int) < (x1).toInt → ((sI sc126 158 y126_6.toNatClampNeg y32_3).1 159 k).toInt < (y32_4).toInt + 1 := by first | (rw [sI_p rfl]; exact g126_2) | exact g42_2
            have n126e : VD s ((sI sc126 158 y126_6.toNatClampNeg y32_3).1 159) (x1).toInt (x2).toInt (y32_4).toInt := by first | (rw [sI_p rfl]; exact g126_3) | exact vc_e g42_3 (by (first | have a0 := oa7 j126_4 j32_3 h2 h1 j126_6 j126_5 i155a | ((first | have a0 := in_u j126_4 | (have a0 := j126_4; unfold In at a0)); (first | have a1 := in_u j32_3 | (have a1 := j32_3; unfold In at a1)); (first | have a2 := in_u h2 | (have a2 := h2; unfold In at a2)); (first | have a3 := in_u h1 | (have a3 := h1; unfold In at a3)); (first | have a4 := in_u j126_6 | (have a4 := j126_6; unfold In at a4)); (first | have a5 := in_u j126_5 | (have a5 := j126_5; unfold In at a5)); (first | have a6 := in_u i155a | (have a6 := i155a; unfold In at a6)))); omega) (by rw [← e116]; exact c119)
            have n126f : ((sI sc126 158 y126_6.toNatClampNeg y32_3).1 159 (z155).toNatClampNeg).toInt = (y32_4).toInt := by first | (rw [sI_p rfl, hy156]; exact hx156) | (rw [← e116]; exact c119)
            have m126 : cM ((sI sc126 158 y126_6.toNatClampNeg y32_3).1 158) (x1).toNatClampNeg < k126 := by rw [sI_q]; have hu := up_cm (f := sc126.1 158) (y := y126_6) (b := y32_3) (n := x1.toNatClampNeg) (by rw [← e132]; exact c133) (by (first | have a0 := oa7 j126_4 j32_3 h2 h1 j126_6 j126_5 i155a | ((first | have a0 := in_u j126_4 | (have a0 := j126_4; unfold In at a0)); (first | have a1 := in_u j32_3 | (have a1 := j32_3; unfold In at a1)); (first | have a2 := in_u h2 | (have a2 := h2; unfold In at a2)); (first | have a3 := in_u h1 | (have a3 := h1; unfold In at a3)); (first | have a4 := in_u j126_6 | (have a4 := j126_6; unfold In at a4)); (first | have a5 := in_u j126_5 | (have a5 := j126_5; unfold In at a5)); (first | have a6 := in_u i155a | (have a6 := i155a; unfold In at a6)))); omega) (by show y126_6.toInt.toNat < x1.toInt.toNat; (first | have a0 := oa7 j126_4 j32_3 h2 h1 j126_6 j126_5 i155a | ((first | have a0 := in_u j126_4 | (have a0 := j126_4; unfold In at a0)); (first | have a1 := in_u j32_3 | (have a1 := j32_3; unfold In at a1)); (first | have a2 := in_u h2 | (have a2 := h2; unfold In at a2)); (first | have a3 := in_u h1 | (have a3 := h1; unfold In at a3)); (first | have a4 := in_u j126_6 | (have a4 := j126_6; unfold In at a4)); (first | have a5 := in_u j126_5 | (have a5 := j126_5; unfold In at a5)); (first | have a6 := in_u i155a | (have a6 := i155a; unfold In at a6)))); (first | exact zt_t (by omega) (by omega) | omega)); have hm := mm126; omega
            exact gg_w (by first | exact Nat.le_add_right _ _ | exact gw2 | exact gw3 | exact gwe rfl | exact gwf rfl | exact gwg rfl | exact gwh rfl | omega) (gg_f (gf_cons rfl (gf_cons rfl (gf_cons rfl (gf_cons rfl (gf_cons rfl (gf_cons rfl (gf_cons rfl gf_nil))))))) (ih126  (sI sc126 158 y126_6.toNatClampNeg y32_3) y126_5 z155 hI143 (fr_sI rfl hFc126) (in_w 0 31 j126_4 rfl) (in_w 0 31 j126_5 rfl) (in_w 0 31 i155a rfl) n126 n126a n126b n126c n126d n126e n126f m126))
      have ct42 : ∀ (k42 : Nat) (sc42 : GS) (y42_5 : Int32), Inv sc42 → Fr fm_364 s sc42 → (In y32_4 0 31) → (In y42_5 0 31) → ((y42_5).toInt < (x1).toInt) → (0 ≤ (y42_5).toInt) → ((y32_3).toInt + (cM (sc42.1 158) (x1).toNatClampNeg : Int) ≤ (x1).toInt) → (∀ k : Nat, (k : Int) < (x1).toInt → (sc42.1 158 k).toInt < (y32_3).toInt) → (∀ k : Nat, (k : Int) < (x1).toInt → (sc42.1 159 k).toInt < (y32_4).toInt + 1) → (VC s (sc42.1 159) (x1).toInt (x2).toInt (y32_4).toInt (y42_5).toInt) → cM (sc42.1 159) (x1).toNatClampNeg < k42 → GG Z (d - 1) 364 post (gx xp) (29702 + k32 * 63902 + 29702 + k42 * 900) 42 (fun j => xlook j [(0, .ref (A 109)), (1, .int x1), (2, .int x2), (3, .int y32_3), (4, .int y32_4), (5, .int y42_5)]) [] (WW Z A sc42 ++ ex) 0 0 := by
        intro k42
        induction k42 with
        | zero => intro sc42 y42_5 hIc42 hFc42 j42_4 j42_5 n42_0 n42_1 g42_0 g42_1 g42_2 g42_3 mm42; exact absurd mm42 (Nat.not_lt_zero _)
        | succ k42 ih42 =>
          intro sc42 y42_5 hIc42 hFc42 j42_4 j42_5 n42_0 n42_1 g42_0 g42_1 g42_2 g42_3 mm42
          refine gg_w (M := 29702 + k32 * 63902 + 29702 + k42 * 900 + 900) gws ?_
          refine g_iload 44 (gd rfl) rfl rfl ?_
          refine g_iload_n 45 (gd rfl) rfl rfl ?_
          refine g_cmp_eq 48 94 (gd rfl) rfl rfl (fun c45 => ?_) (fun c45 => ?_)
          · skip
            refine g_iload 96 (gd rfl) rfl rfl ?_
            refine g_iload_n 97 (gd rfl) rfl rfl ?_
            refine g_cmp_eq 100 164 (gd rfl) rfl rfl (fun c97 => ?_) (fun c97 => ?_)
            · skip
              refine g_iinc 167 (gd rfl) rfl rfl (Nat.le_of_ble_eq_true rfl) (fun z164 e164 => ?_)
              have i164 := in_add 1 32 e164 j42_4 (in_c 1 rfl) rfl rfl
              refine g_goto 32 (gd rfl) rfl ?_
              have n32 : 0 ≤ (y32_3).toInt := by first | exact n32_0 | ((first | have a0 := oa6 j42_4 j32_3 h2 h1 j42_5 i164 | ((first | have a0 := in_u j42_4 | (have a0 := j42_4; unfold In at a0)); (first | have a1 := in_u j32_3 | (have a1 := j32_3; unfold In at a1)); (first | have a2 := in_u h2 | (have a2 := h2; unfold In at a2)); (first | have a3 := in_u h1 | (have a3 := h1; unfold In at a3)); (first | have a4 := in_u j42_5 | (have a4 := j42_5; unfold In at a4)); (first | have a5 := in_u i164 | (have a5 := i164; unfold In at a5)))); have a6 := t_add e164 j42_4 (in_c 1 rfl) rfl; (first | have a7 := in_u ((in_c 1 rfl)) | (have a7 := (in_c 1 rfl); unfold In at a7)); omega)
              have n32a : (y32_3).toInt + (cM (sc42.1 158) (x1).toNatClampNeg : Int) ≤ (x1).toInt := by first | exact g42_0 | (first | exact g42_0 | (rcases g126_0 with hg | hg; (exfalso; rw [← e132] at hg; have hz := c133; omega); (first | have a0 := oa6 j42_4 j32_3 h2 h1 j42_5 i164 | ((first | have a0 := in_u j42_4 | (have a0 := j42_4; unfold In at a0)); (first | have a1 := in_u j32_3 | (have a1 := j32_3; unfold In at a1)); (first | have a2 := in_u h2 | (have a2 := h2; unfold In at a2)); (first | have a3 := in_u h1 | (have a3 := h1; unfold In at a3)); (first | have a4 := in_u j42_5 | (have a4 := j42_5; unfold In at a4)); (first | have a5 := in_u i164 | (have a5 := i164; unfold In at a5)))); have a6 := t_add e164 j42_4 (in_c 1 rfl) rfl; (first | have a7 := in_u ((in_c 1 rfl)) | (have a7 := (in_c 1 rfl); unfold In at a7)); omega) | (have hc := cM_le (sc42.1 158) (x1).toNatClampNeg; have h0 : (Int32.ofInt 0).toInt = 0 := rfl; have hmn : ((x1).toNatClampNeg : Int) = (x1).toInt := (by show (((x1).toInt.toNat : Nat) : Int) = _; (first | have a0 := oa6 j42_4 j32_3 h2 h1 j42_5 i164 | ((first | have a0 := in_u j42_4 | (have a0 := j42_4; unfold In at a0)); (first | have a1 := in_u j32_3 | (have a1 := j32_3; unfold In at a1)); (first | have a2 := in_u h2 | (have a2 := h2; unfold In at a2)); (first | have a3 := in_u h1 | (have a3 := h1; unfold In at a3)); (first | have a4 := in_u j42_5 | (have a4 := j42_5; unfold In at a4)); (first | have a5 := in_u i164 | (have a5 := i164; unfold In at a5)))); have a6 := t_add e164 j42_4 (in_c 1 rfl) rfl; (first | have a7 := in_u ((in_c 1 rfl)) | (have a7 := (in_c 1 rfl); unfold In at a7)); omega); omega))
              have n32b : ∀ k : Nat, (k : Int) < (x1).toInt → (sc42.1 158 k).toInt < (y32_3).toInt := by first | exact g42_1 | (first | exact g42_1 | (intro k hk; have h := g126_1 k hk; (first | have a0 := oa6 j42_4 j32_3 h2 h1 j42_5 i164 | ((first | have a0 := in_u j42_4 | (have a0 := j42_4; unfold In at a0)); (first | have a1 := in_u j32_3 | (have a1 := j32_3; unfold In at a1)); (first | have a2 := in_u h2 | (have a2 := h2; unfold In at a2)); (first | have a3 := in_u h1 | (have a3 := h1; unfold In at a3)); (first | have a4 := in_u j42_5 | (have a4 := j42_5; unfold In at a4)); (first | have a5 := in_u i164 | (have a5 := i164; unfold In at a5)))); have a6 := t_add e164 j42_4 (in_c 1 rfl) rfl; (first | have a7 := in_u ((in_c 1 rfl)) | (have a7 := (in_c 1 rfl); unfold In at a7)); omega) | exact fun k hk => (g2_0 k (by (first | have a0 := oa6 j42_4 j32_3 h2 h1 j42_5 i164 | ((first | have a0 := in_u j42_4 | (have a0 := j42_4; unfold In at a0)); (first | have a1 := in_u j32_3 | (have a1 := j32_3; unfold In at a1)); (first | have a2 := in_u h2 | (have a2 := h2; unfold In at a2)); (first | have a3 := in_u h1 | (have a3 := h1; unfold In at a3)); (first | have a4 := in_u j42_5 | (have a4 := j42_5; unfold In at a4)); (first | have a5 := in_u i164 | (have a5 := i164; unfold In at a5)))); have a6 := t_add e164 j42_4 (in_c 1 rfl) rfl; (first | have a7 := in_u ((in_c 1 rfl)) | (have a7 := (in_c 1 rfl); unfold In at a7)); omega)).1)
              have n32c : ∀ k : Nat, (k : Int) < (x1).toInt → (sc42.1 159 k).toInt < (z164).toInt := by first | (intro k hk; have h := g42_2 k hk; (first | have a0 := oa6 j42_4 j32_3 h2 h1 j42_5 i164 | ((first | have a0 := in_u j42_4 | (have a0 := j42_4; unfold In at a0)); (first | have a1 := in_u j32_3 | (have a1 := j32_3; unfold In at a1)); (first | have a2 := in_u h2 | (have a2 := h2; unfold In at a2)); (first | have a3 := in_u h1 | (have a3 := h1; unfold In at a3)); (first | have a4 := in_u j42_5 | (have a4 := j42_5; unfold In at a4)); (first | have a5 := in_u i164 | (have a5 := i164; unfold In at a5)))); have a6 := t_add e164 j42_4 (in_c 1 rfl) rfl; (first | have a7 := in_u ((in_c 1 rfl)) | (have a7 := (in_c 1 rfl); unfold In at a7)); omega) | (intro k hk; have h := g126_2 k hk; (first | have a0 := oa6 j42_4 j32_3 h2 h1 j42_5 i164 | ((first | have a0 := in_u j42_4 | (have a0 := j42_4; unfold In at a0)); (first | have a1 := in_u j32_3 | (have a1 := j32_3; unfold In at a1)); (first | have a2 := in_u h2 | (have a2 := h2; unfold In at a2)); (first | have a3 := in_u h1 | (have a3 := h1; unfold In at a3)); (first | have a4 := in_u j42_5 | (have a4 := j42_5; unfold In at a4)); (first | have a5 := in_u i164 | (have a5 := i164; unfold In at a5)))); have a6 := t_add e164 j42_4 (in_c 1 rfl) rfl; (first | have a7 := in_u ((in_c 1 rfl)) | (have a7 := (in_c 1 rfl); unfold In at a7)); omega) | exact fun k hk => (g2_0 k (by (first | have a0 := oa6 j42_4 j32_3 h2 h1 j42_5 i164 | ((first | have a0 := in_u j42_4 | (have a0 := j42_4; unfold In at a0)); (first | have a1 := in_u j32_3 | (have a1 := j32_3; unfold In at a1)); (first | have a2 := in_u h2 | (have a2 := h2; unfold In at a2)); (first | have a3 := in_u h1 | (have a3 := h1; unfold In at a3)); (first | have a4 := in_u j42_5 | (have a4 := j42_5; unfold In at a4)); (first | have a5 := in_u i164 | (have a5 := i164; unfold In at a5)))); have a6 := t_add e164 j42_4 (in_c 1 rfl) rfl; (first | have a7 := in_u ((in_c 1 rfl)) | (have a7 := (in_c 1 rfl); unfold In at a7)); omega)).2
              exact gg_w (by first | exact Nat.le_add_right _ _ | exact gw2 | exact gw3 | exact gwe rfl | exact gwf rfl | exact gwg rfl | exact gwh rfl | omega) (gg_f (gf_cons rfl (gf_cons rfl (gf_cons rfl (gf_cons rfl (gf_cons rfl gf_nil))))) (ih32 sc42 y32_3 z164 hIc42 hFc42 (in_w 0 32 j32_3 rfl) (in_w 0 32 i164 rfl) n32 n32a n32b n32c (m_up mm32 (t_add e164 j42_4 (in_c 1 rfl) rfl) (in_w 1 1 (in_c 1 rfl) rfl))))
            · skip
              refine g_aload_n 101 (gd rfl) rfl rfl ?_
              refine g_getA (q2 := 158) 104 (gd rfl) rfl rfl rfl rfl ?_
              refine g_iload 106 (gd rfl) rfl rfl ?_
              refine g_iaload 107 (gd rfl) rfl (n := 32) rfl (in_ix j42_5 rfl) (fun z106 e106 => ?_)
              refine g_if_ge 110 164 (gd rfl) rfl rfl (fun c107 => ?_) (fun c107 => ?_)
              · skip
                have i107 := z_ge 0 2147483647 c107 (i_rng z106) rfl
                refine g_iinc 167 (gd rfl) rfl rfl (Nat.le_of_ble_eq_true rfl) (fun z164 e164 => ?_)
                have i164 := in_add 1 32 e164 j42_4 (in_c 1 rfl) rfl rfl
                refine g_goto 32 (gd rfl) rfl ?_
                have n32 : 0 ≤ (y32_3).toInt := by first | exact n32_0 | ((first | have a0 := oa6 j42_4 j32_3 h2 h1 j42_5 i164 | ((first | have a0 := in_u j42_4 | (have a0 := j42_4; unfold In at a0)); (first | have a1 := in_u j32_3 | (have a1 := j32_3; unfold In at a1)); (first | have a2 := in_u h2 | (have a2 := h2; unfold In at a2)); (first | have a3 := in_u h1 | (have a3 := h1; unfold In at a3)); (first | have a4 := in_u j42_5 | (have a4 := j42_5; unfold In at a4)); (first | have a5 := in_u i164 | (have a5 := i164; unfold In at a5)))); have a6 := t_add e164 j42_4 (in_c 1 rfl) rfl; (first | have a7 := in_u ((in_c 1 rfl)) | (have a7 := (in_c 1 rfl); unfold In at a7)); omega)
                have n32a : (y32_3).toInt + (cM (sc42.1 158) (x1).toNatClampNeg : Int) ≤ (x1).toInt := by first | exact g42_0 | (first | exact g42_0 | (rcases g126_0 with hg | hg; (exfalso; rw [← e132] at hg; have hz := c133; omega); (first | have a0 := oa6 j42_4 j32_3 h2 h1 j42_5 i164 | ((first | have a0 := in_u j42_4 | (have a0 := j42_4; unfold In at a0)); (first | have a1 := in_u j32_3 | (have a1 := j32_3; unfold In at a1)); (first | have a2 := in_u h2 | (have a2 := h2; unfold In at a2)); (first | have a3 := in_u h1 | (have a3 := h1; unfold In at a3)); (first | have a4 := in_u j42_5 | (have a4 := j42_5; unfold In at a4)); (first | have a5 := in_u i164 | (have a5 := i164; unfold In at a5)))); have a6 := t_add e164 j42_4 (in_c 1 rfl) rfl; (first | have a7 := in_u ((in_c 1 rfl)) | (have a7 := (in_c 1 rfl); unfold In at a7)); omega) | (have hc := cM_le (sc42.1 158) (x1).toNatClampNeg; have h0 : (Int32.ofInt 0).toInt = 0 := rfl; have hmn : ((x1).toNatClampNeg : Int) = (x1).toInt := (by show (((x1).toInt.toNat : Nat) : Int) = _; (first | have a0 := oa6 j42_4 j32_3 h2 h1 j42_5 i164 | ((first | have a0 := in_u j42_4 | (have a0 := j42_4; unfold In at a0)); (first | have a1 := in_u j32_3 | (have a1 := j32_3; unfold In at a1)); (first | have a2 := in_u h2 | (have a2 := h2; unfold In at a2)); (first | have a3 := in_u h1 | (have a3 := h1; unfold In at a3)); (first | have a4 := in_u j42_5 | (have a4 := j42_5; unfold In at a4)); (first | have a5 := in_u i164 | (have a5 := i164; unfold In at a5)))); have a6 := t_add e164 j42_4 (in_c 1 rfl) rfl; (first | have a7 := in_u ((in_c 1 rfl)) | (have a7 := (in_c 1 rfl); unfold In at a7)); omega); omega))
                have n32b : ∀ k : Nat, (k : Int) < (x1).toInt → (sc42.1 158 k).toInt < (y32_3).toInt := by first | exact g42_1 | (first | exact g42_1 | (intro k hk; have h := g126_1 k hk; (first | have a0 := oa6 j42_4 j32_3 h2 h1 j42_5 i164 | ((first | have a0 := in_u j42_4 | (have a0 := j42_4; unfold In at a0)); (first | have a1 := in_u j32_3 | (have a1 := j32_3; unfold In at a1)); (first | have a2 := in_u h2 | (have a2 := h2; unfold In at a2)); (first | have a3 := in_u h1 | (have a3 := h1; unfold In at a3)); (first | have a4 := in_u j42_5 | (have a4 := j42_5; unfold In at a4)); (first | have a5 := in_u i164 | (have a5 := i164; unfold In at a5)))); have a6 := t_add e164 j42_4 (in_c 1 rfl) rfl; (first | have a7 := in_u ((in_c 1 rfl)) | (have a7 := (in_c 1 rfl); unfold In at a7)); omega) | exact fun k hk => (g2_0 k (by (first | have a0 := oa6 j42_4 j32_3 h2 h1 j42_5 i164 | ((first | have a0 := in_u j42_4 | (have a0 := j42_4; unfold In at a0)); (first | have a1 := in_u j32_3 | (have a1 := j32_3; unfold In at a1)); (first | have a2 := in_u h2 | (have a2 := h2; unfold In at a2)); (first | have a3 := in_u h1 | (have a3 := h1; unfold In at a3)); (first | have a4 := in_u j42_5 | (have a4 := j42_5; unfold In at a4)); (first | have a5 := in_u i164 | (have a5 := i164; unfold In at a5)))); have a6 := t_add e164 j42_4 (in_c 1 rfl) rfl; (first | have a7 := in_u ((in_c 1 rfl)) | (have a7 := (in_c 1 rfl); unfold In at a7)); omega)).1)
                have n32c : ∀ k : Nat, (k : Int) < (x1).toInt → (sc42.1 159 k).toInt < (z164).toInt := by first | (intro k hk; have h := g42_2 k hk; (first | have a0 := oa6 j42_4 j32_3 h2 h1 j42_5 i164 | ((first | have a0 := in_u j42_4 | (have a0 := j42_4; unfold In at a0)); (first | have a1 := in_u j32_3 | (have a1 := j32_3; unfold In at a1)); (first | have a2 := in_u h2 | (have a2 := h2; unfold In at a2)); (first | have a3 := in_u h1 | (have a3 := h1; unfold In at a3)); (first | have a4 := in_u j42_5 | (have a4 := j42_5; unfold In at a4)); (first | have a5 := in_u i164 | (have a5 := i164; unfold In at a5)))); have a6 := t_add e164 j42_4 (in_c 1 rfl) rfl; (first | have a7 := in_u ((in_c 1 rfl)) | (have a7 := (in_c 1 rfl); unfold In at a7)); omega) | (intro k hk; have h := g126_2 k hk; (first | have a0 := oa6 j42_4 j32_3 h2 h1 j42_5 i164 | ((first | have a0 := in_u j42_4 | (have a0 := j42_4; unfold In at a0)); (first | have a1 := in_u j32_3 | (have a1 := j32_3; unfold In at a1)); (first | have a2 := in_u h2 | (have a2 := h2; unfold In at a2)); (first | have a3 := in_u h1 | (have a3 := h1; unfold In at a3)); (first | have a4 := in_u j42_5 | (have a4 := j42_5; unfold In at a4)); (first | have a5 := in_u i164 | (have a5 := i164; unfold In at a5)))); have a6 := t_add e164 j42_4 (in_c 1 rfl) rfl; (first | have a7 := in_u ((in_c 1 rfl)) | (have a7 := (in_c 1 rfl); unfold In at a7)); omega) | exact fun k hk => (g2_0 k (by (first | have a0 := oa6 j42_4 j32_3 h2 h1 j42_5 i164 | ((first | have a0 := in_u j42_4 | (have a0 := j42_4; unfold In at a0)); (first | have a1 := in_u j32_3 | (have a1 := j32_3; unfold In at a1)); (first | have a2 := in_u h2 | (have a2 := h2; unfold In at a2)); (first | have a3 := in_u h1 | (have a3 := h1; unfold In at a3)); (first | have a4 := in_u j42_5 | (have a4 := j42_5; unfold In at a4)); (first | have a5 := in_u i164 | (have a5 := i164; unfold In at a5)))); have a6 := t_add e164 j42_4 (in_c 1 rfl) rfl; (first | have a7 := in_u ((in_c 1 rfl)) | (have a7 := (in_c 1 rfl); unfold In at a7)); omega)).2
                exact gg_w (by first | exact Nat.le_add_right _ _ | exact gw2 | exact gw3 | exact gwe rfl | exact gwf rfl | exact gwg rfl | exact gwh rfl | omega) (gg_f (gf_cons rfl (gf_cons rfl (gf_cons rfl (gf_cons rfl (gf_cons rfl gf_nil))))) (ih32 sc42 y32_3 z164 hIc42 hFc42 (in_w 0 32 j32_3 rfl) (in_w 0 32 i164 rfl) n32 n32a n32b n32c (m_up mm32 (t_add e164 j42_4 (in_c 1 rfl) rfl) (in_w 1 1 (in_c 1 rfl) rfl))))
              · skip
                have i107 := z_lt (-2147483648) (-1) c107 (i_rng z106) rfl
                refine g_aload_n 111 (gd rfl) rfl rfl ?_
                refine g_getA (q2 := 159) 114 (gd rfl) rfl rfl rfl rfl ?_
                refine g_iload 116 (gd rfl) rfl rfl ?_
                refine g_iaload 117 (gd rfl) rfl (n := 32) rfl (in_ix j42_5 rfl) (fun z116 e116 => ?_)
                refine g_iload 119 (gd rfl) rfl rfl ?_
                refine g_cmp_ne 122 164 (gd rfl) rfl rfl (fun c119 => ?_) (fun c119 => ?_)
                · skip
                  refine g_iinc 167 (gd rfl) rfl rfl (Nat.le_of_ble_eq_true rfl) (fun z164 e164 => ?_)
                  have i164 := in_add 1 32 e164 j42_4 (in_c 1 rfl) rfl rfl
                  refine g_goto 32 (gd rfl) rfl ?_
                  have n32 : 0 ≤ (y32_3).toInt := by first | exact n32_0 | ((first | have a0 := oa6 j42_4 j32_3 h2 h1 j42_5 i164 | ((first | have a0 := in_u j42_4 | (have a0 := j42_4; unfold In at a0)); (first | have a1 := in_u j32_3 | (have a1 := j32_3; unfold In at a1)); (first | have a2 := in_u h2 | (have a2 := h2; unfold In at a2)); (first | have a3 := in_u h1 | (have a3 := h1; unfold In at a3)); (first | have a4 := in_u j42_5 | (have a4 := j42_5; unfold In at a4)); (first | have a5 := in_u i164 | (have a5 := i164; unfold In at a5)))); have a6 := t_add e164 j42_4 (in_c 1 rfl) rfl; (first | have a7 := in_u ((in_c 1 rfl)) | (have a7 := (in_c 1 rfl); unfold In at a7)); omega)
                  have n32a : (y32_3).toInt + (cM (sc42.1 158) (x1).toNatClampNeg : Int) ≤ (x1).toInt := by first | exact g42_0 | (first | exact g42_0 | (rcases g126_0 with hg | hg; (exfalso; rw [← e132] at hg; have hz := c133; omega); (first | have a0 := oa6 j42_4 j32_3 h2 h1 j42_5 i164 | ((first | have a0 := in_u j42_4 | (have a0 := j42_4; unfold In at a0)); (first | have a1 := in_u j32_3 | (have a1 := j32_3; unfold In at a1)); (first | have a2 := in_u h2 | (have a2 := h2; unfold In at a2)); (first | have a3 := in_u h1 | (have a3 := h1; unfold In at a3)); (first | have a4 := in_u j42_5 | (have a4 := j42_5; unfold In at a4)); (first | have a5 := in_u i164 | (have a5 := i164; unfold In at a5)))); have a6 := t_add e164 j42_4 (in_c 1 rfl) rfl; (first | have a7 := in_u ((in_c 1 rfl)) | (have a7 := (in_c 1 rfl); unfold In at a7)); omega) | (have hc := cM_le (sc42.1 158) (x1).toNatClampNeg; have h0 : (Int32.ofInt 0).toInt = 0 := rfl; have hmn : ((x1).toNatClampNeg : Int) = (x1).toInt := (by show (((x1).toInt.toNat : Nat) : Int) = _; (first | have a0 := oa6 j42_4 j32_3 h2 h1 j42_5 i164 | ((first | have a0 := in_u j42_4 | (have a0 := j42_4; unfold In at a0)); (first | have a1 := in_u j32_3 | (have a1 := j32_3; unfold In at a1)); (first | have a2 := in_u h2 | (have a2 := h2; unfold In at a2)); (first | have a3 := in_u h1 | (have a3 := h1; unfold In at a3)); (first | have a4 := in_u j42_5 | (have a4 := j42_5; unfold In at a4)); (first | have a5 := in_u i164 | (have a5 := i164; unfold In at a5)))); have a6 := t_add e164 j42_4 (in_c 1 rfl) rfl; (first | have a7 := in_u ((in_c 1 rfl)) | (have a7 := (in_c 1 rfl); unfold In at a7)); omega); omega))
                  have n32b : ∀ k : Nat, (k : Int) < (x1).toInt → (sc42.1 158 k).toInt < (y32_3).toInt := by first | exact g42_1 | (first | exact g42_1 | (intro k hk; have h := g126_1 k hk; (first | have a0 := oa6 j42_4 j32_3 h2 h1 j42_5 i164 | ((first | have a0 := in_u j42_4 | (have a0 := j42_4; unfold In at a0)); (first | have a1 := in_u j32_3 | (have a1 := j32_3; unfold In at a1)); (first | have a2 := in_u h2 | (have a2 := h2; unfold In at a2)); (first | have a3 := in_u h1 | (have a3 := h1; unfold In at a3)); (first | have a4 := in_u j42_5 | (have a4 := j42_5; unfold In at a4)); (first | have a5 := in_u i164 | (have a5 := i164; unfold In at a5)))); have a6 := t_add e164 j42_4 (in_c 1 rfl) rfl; (first | have a7 := in_u ((in_c 1 rfl)) | (have a7 := (in_c 1 rfl); unfold In at a7)); omega) | exact fun k hk => (g2_0 k (by (first | have a0 := oa6 j42_4 j32_3 h2 h1 j42_5 i164 | ((first | have a0 := in_u j42_4 | (have a0 := j42_4; unfold In at a0)); (first | have a1 := in_u j32_3 | (have a1 := j32_3; unfold In at a1)); (first | have a2 := in_u h2 | (have a2 := h2; unfold In at a2)); (first | have a3 := in_u h1 | (have a3 := h1; unfold In at a3)); (first | have a4 := in_u j42_5 | (have a4 := j42_5; unfold In at a4)); (first | have a5 := in_u i164 | (have a5 := i164; unfold In at a5)))); have a6 := t_add e164 j42_4 (in_c 1 rfl) rfl; (first | have a7 := in_u ((in_c 1 rfl)) | (have a7 := (in_c 1 rfl); unfold In at a7)); omega)).1)
                  have n32c : ∀ k : Nat, (k : Int) < (x1).toInt → (sc42.1 159 k).toInt < (z164).toInt := by first | (intro k hk; have h := g42_2 k hk; (first | have a0 := oa6 j42_4 j32_3 h2 h1 j42_5 i164 | ((first | have a0 := in_u j42_4 | (have a0 := j42_4; unfold In at a0)); (first | have a1 := in_u j32_3 | (have a1 := j32_3; unfold In at a1)); (first | have a2 := in_u h2 | (have a2 := h2; unfold In at a2)); (first | have a3 := in_u h1 | (have a3 := h1; unfold In at a3)); (first | have a4 := in_u j42_5 | (have a4 := j42_5; unfold In at a4)); (first | have a5 := in_u i164 | (have a5 := i164; unfold In at a5)))); have a6 := t_add e164 j42_4 (in_c 1 rfl) rfl; (first | have a7 := in_u ((in_c 1 rfl)) | (have a7 := (in_c 1 rfl); unfold In at a7)); omega) | (intro k hk; have h := g126_2 k hk; (first | have a0 := oa6 j42_4 j32_3 h2 h1 j42_5 i164 | ((first | have a0 := in_u j42_4 | (have a0 := j42_4; unfold In at a0)); (first | have a1 := in_u j32_3 | (have a1 := j32_3; unfold In at a1)); (first | have a2 := in_u h2 | (have a2 := h2; unfold In at a2)); (first | have a3 := in_u h1 | (have a3 := h1; unfold In at a3)); (first | have a4 := in_u j42_5 | (have a4 := j42_5; unfold In at a4)); (first | have a5 := in_u i164 | (have a5 := i164; unfold In at a5)))); have a6 := t_add e164 j42_4 (in_c 1 rfl) rfl; (first | have a7 := in_u ((in_c 1 rfl)) | (have a7 := (in_c 1 rfl); unfold In at a7)); omega) | exact fun k hk => (g2_0 k (by (first | have a0 := oa6 j42_4 j32_3 h2 h1 j42_5 i164 | ((first | have a0 := in_u j42_4 | (have a0 := j42_4; unfold In at a0)); (first | have a1 := in_u j32_3 | (have a1 := j32_3; unfold In at a1)); (first | have a2 := in_u h2 | (have a2 := h2; unfold In at a2)); (first | have a3 := in_u h1 | (have a3 := h1; unfold In at a3)); (first | have a4 := in_u j42_5 | (have a4 := j42_5; unfold In at a4)); (first | have a5 := in_u i164 | (have a5 := i164; unfold In at a5)))); have a6 := t_add e164 j42_4 (in_c 1 rfl) rfl; (first | have a7 := in_u ((in_c 1 rfl)) | (have a7 := (in_c 1 rfl); unfold In at a7)); omega)).2
                  exact gg_w (by first | exact Nat.le_add_right _ _ | exact gw2 | exact gw3 | exact gwe rfl | exact gwf rfl | exact gwg rfl | exact gwh rfl | omega) (gg_f (gf_cons rfl (gf_cons rfl (gf_cons rfl (gf_cons rfl (gf_cons rfl gf_nil))))) (ih32 sc42 y32_3 z164 hIc42 hFc42 (in_w 0 32 j32_3 rfl) (in_w 0 32 i164 rfl) n32 n32a n32b n32c (m_up mm32 (t_add e164 j42_4 (in_c 1 rfl) rfl) (in_w 1 1 (in_c 1 rfl) rfl))))
                · skip
                  have i119 := r_eq1 0 31 c119 (i_rng z116) j42_4 rfl
                  refine g_iload 124 (gd rfl) rfl rfl ?_
                  refine g_istore 126 (gd rfl) rfl (Nat.le_of_ble_eq_true rfl) ?_
                  have n126 : (y42_5).toInt < (x1).toInt := by first | exact n42_0 | ((first | have a0 := oa5 j42_4 j32_3 h2 h1 j42_5 | ((first | have a0 := in_u j42_4 | (have a0 := j42_4; unfold In at a0)); (first | have a1 := in_u j32_3 | (have a1 := j32_3; unfold In at a1)); (first | have a2 := in_u h2 | (have a2 := h2; unfold In at a2)); (first | have a3 := in_u h1 | (have a3 := h1; unfold In at a3)); (first | have a4 := in_u j42_5 | (have a4 := j42_5; unfold In at a4)))); omega)
                  have n126a : 0 ≤ (y42_5).toInt := by first | exact n42_1 | ((first | have a0 := oa5 j42_4 j32_3 h2 h1 j42_5 | ((first | have a0 := in_u j42_4 | (have a0 := j42_4; unfold In at a0)); (first | have a1 := in_u j32_3 | (have a1 := j32_3; unfold In at a1)); (first | have a2 := in_u h2 | (have a2 := h2; unfold In at a2)); (first | have a3 := in_u h1 | (have a3 := h1; unfold In at a3)); (first | have a4 := in_u j42_5 | (have a4 := j42_5; unfold In at a4)))); omega)
                  have n126b : ((y32_3).toInt + (cM (sc42.1 158) (x1).toNatClampNeg : Int) ≤ (x1).toInt ∧ (sc42.1 158 (y42_5).toNatClampNeg).toInt < 0) ∨ (y32_3).toInt + 1 + (cM (sc42.1 158) (x1).toNatClampNeg : Int) ≤ (x1).toInt := by first | (right; rw [sI_q]; have hu := up_cm (f := sc126.1 158) (y := y126_6) (b := y32_3) (n := x1.toNatClampNeg) (by rw [← e132]; exact c133) (by (first | have a0 := oa5 j42_4 j32_3 h2 h1 j42_5 | ((first | have a0 := in_u j42_4 | (have a0 := j42_4; unfold In at a0)); (first | have a1 := in_u j32_3 | (have a1 := j32_3; unfold In at a1)); (first | have a2 := in_u h2 | (have a2 := h2; unfold In at a2)); (first | have a3 := in_u h1 | (have a3 := h1; unfold In at a3)); (first | have a4 := in_u j42_5 | (have a4 := j42_5; unfold In at a4)))); omega) (by show y126_6.toInt.toNat < x1.toInt.toNat; (first | have a0 := oa5 j42_4 j32_3 h2 h1 j42_5 | ((first | have a0 := in_u j42_4 | (have a0 := j42_4; unfold In at a0)); (first | have a1 := in_u j32_3 | (have a1 := j32_3; unfold In at a1)); (first | have a2 := in_u h2 | (have a2 := h2; unfold In at a2)); (first | have a3 := in_u h1 | (have a3 := h1; unfold In at a3)); (first | have a4 := in_u j42_5 | (have a4 := j42_5; unfold In at a4)))); (first | exact zt_t (by omega) (by omega) | omega)); rcases g126_0 with hg | hg; ((first | have a0 := oa5 j42_4 j32_3 h2 h1 j42_5 | ((first | have a0 := in_u j42_4 | (have a0 := j42_4; unfold In at a0)); (first | have a1 := in_u j32_3 | (have a1 := j32_3; unfold In at a1)); (first | have a2 := in_u h2 | (have a2 := h2; unfold In at a2)); (first | have a3 := in_u h1 | (have a3 := h1; unfold In at a3)); (first | have a4 := in_u j42_5 | (have a4 := j42_5; unfold In at a4)))); omega); ((first | have a0 := oa5 j42_4 j32_3 h2 h1 j42_5 | ((first | have a0 := in_u j42_4 | (have a0 := j42_4; unfold In at a0)); (first | have a1 := in_u j32_3 | (have a1 := j32_3; unfold In at a1)); (first | have a2 := in_u h2 | (have a2 := h2; unfold In at a2)); (first | have a3 := in_u h1 | (have a3 := h1; unfold In at a3)); (first | have a4 := in_u j42_5 | (have a4 := j42_5; unfold In at a4)))); omega)) | exact Or.inl ⟨g42_0, by rw [← e106]; exact c107⟩
                  have n126c : ∀ k : Nat, (k : Int) < (x1).toInt → (sc42.1 158 k).toInt < (y32_3).toInt + 1 := by first | (intro k hk; rw [sI_q]; exact up_lt (fun c => g126_1 k hk) (by (first | have a0 := oa5 j42_4 j32_3 h2 h1 j42_5 | ((first | have a0 := in_u j42_4 | (have a0 := j42_4; unfold In at a0)); (first | have a1 := in_u j32_3 | (have a1 := j32_3; unfold In at a1)); (first | have a2 := in_u h2 | (have a2 := h2; unfold In at a2)); (first | have a3 := in_u h1 | (have a3 := h1; unfold In at a3)); (first | have a4 := in_u j42_5 | (have a4 := j42_5; unfold In at a4)))); omega)) | (intro k hk; have h := g42_1 k hk; (first | have a0 := oa5 j42_4 j32_3 h2 h1 j42_5 | ((first | have a0 := in_u j42_4 | (have a0 := j42_4; unfold In at a0)); (first | have a1 := in_u j32_3 | (have a1 := j32_3; unfold In at a1)); (first | have a2 := in_u h2 | (have a2 := h2; unfold In at a2)); (first | have a3 := in_u h1 | (have a3 := h1; unfold In at a3)); (first | have a4 := in_u j42_5 | (have a4 := j42_5; unfold In at a4)))); omega)
                  have n126d : ∀ k : Nat, (k : Int) < (x1).toInt → (sc42.1 159 k).toInt < (y32_4).toInt + 1 := by first | (rw [sI_p rfl]; exact g126_2) | exact g42_2
                  have n126e : VD s (sc42.1 159) (x1).toInt (x2).toInt (y32_4).toInt := by first | (rw [sI_p rfl]; exact g126_3) | exact vc_e g42_3 (by (first | have a0 := oa5 j42_4 j32_3 h2 h1 j42_5 | ((first | have a0 := in_u j42_4 | (have a0 := j42_4; unfold In at a0)); (first | have a1 := in_u j32_3 | (have a1 := j32_3; unfold In at a1)); (first | have a2 := in_u h2 | (have a2 := h2; unfold In at a2)); (first | have a3 := in_u h1 | (have a3 := h1; unfold In at a3)); (first | have a4 := in_u j42_5 | (have a4 := j42_5; unfold In at a4)))); omega) (by rw [← e116]; exact c119)
                  have n126f : (sc42.1 159 (y42_5).toNatClampNeg).toInt = (y32_4).toInt := by first | (rw [sI_p rfl, hy156]; exact hx156) | (rw [← e116]; exact c119)
                  have m126 : cM (sc42.1 158) (x1).toNatClampNeg < 33 := by have hc := cM_le (sc42.1 158) (x1).toNatClampNeg; have hmn : x1.toNatClampNeg = x1.toInt.toNat := rfl; (first | have a0 := oa5 j42_4 j32_3 h2 h1 j42_5 | ((first | have a0 := in_u j42_4 | (have a0 := j42_4; unfold In at a0)); (first | have a1 := in_u j32_3 | (have a1 := j32_3; unfold In at a1)); (first | have a2 := in_u h2 | (have a2 := h2; unfold In at a2)); (first | have a3 := in_u h1 | (have a3 := h1; unfold In at a3)); (first | have a4 := in_u j42_5 | (have a4 := j42_5; unfold In at a4)))); omega
                  exact gg_w (by first | exact Nat.le_add_right _ _ | exact gw2 | exact gw3 | exact gwe rfl | exact gwf rfl | exact gwg rfl | exact gwh rfl | omega) (gg_f (gf_cons rfl (gf_cons rfl (gf_cons rfl (gf_cons rfl (gf_cons rfl (gf_cons rfl (gf_cons rfl gf_nil))))))) (ct126 (33) sc42 y42_5 y42_5 hIc42 hFc42 (in_w 0 31 j42_4 rfl) (in_w 0 31 j42_5 rfl) (in_w 0 31 j42_5 rfl) n126 n126a n126b n126c n126d n126e n126f m126))
          · skip
            refine g_aload_n 49 (gd rfl) rfl rfl ?_
            refine g_getA (q2 := 159) 52 (gd rfl) rfl rfl rfl rfl ?_
            refine g_iload 54 (gd rfl) rfl rfl ?_
            refine g_iaload 55 (gd rfl) rfl (n := 32) rfl (in_ix j42_5 rfl) (fun z54 e54 => ?_)
            refine g_if_ge 58 94 (gd rfl) rfl rfl (fun c55 => ?_) (fun c55 => ?_)
            · skip
              have i55 := z_ge 0 2147483647 c55 (i_rng z54) rfl
              refine g_iload 96 (gd rfl) rfl rfl ?_
              refine g_iload_n 97 (gd rfl) rfl rfl ?_
              refine g_cmp_eq 100 164 (gd rfl) rfl rfl (fun c97 => ?_) (fun c97 => ?_)
              · skip
                refine g_iinc 167 (gd rfl) rfl rfl (Nat.le_of_ble_eq_true rfl) (fun z164 e164 => ?_)
                have i164 := in_add 1 32 e164 j42_4 (in_c 1 rfl) rfl rfl
                refine g_goto 32 (gd rfl) rfl ?_
                have n32 : 0 ≤ (y32_3).toInt := by first | exact n32_0 | ((first | have a0 := oa6 j42_4 j32_3 h2 h1 j42_5 i164 | ((first | have a0 := in_u j42_4 | (have a0 := j42_4; unfold In at a0)); (first | have a1 := in_u j32_3 | (have a1 := j32_3; unfold In at a1)); (first | have a2 := in_u h2 | (have a2 := h2; unfold In at a2)); (first | have a3 := in_u h1 | (have a3 := h1; unfold In at a3)); (first | have a4 := in_u j42_5 | (have a4 := j42_5; unfold In at a4)); (first | have a5 := in_u i164 | (have a5 := i164; unfold In at a5)))); have a6 := t_add e164 j42_4 (in_c 1 rfl) rfl; (first | have a7 := in_u ((in_c 1 rfl)) | (have a7 := (in_c 1 rfl); unfold In at a7)); omega)
                have n32a : (y32_3).toInt + (cM (sc42.1 158) (x1).toNatClampNeg : Int) ≤ (x1).toInt := by first | exact g42_0 | (first | exact g42_0 | (rcases g126_0 with hg | hg; (exfalso; rw [← e132] at hg; have hz := c133; omega); (first | have a0 := oa6 j42_4 j32_3 h2 h1 j42_5 i164 | ((first | have a0 := in_u j42_4 | (have a0 := j42_4; unfold In at a0)); (first | have a1 := in_u j32_3 | (have a1 := j32_3; unfold In at a1)); (first | have a2 := in_u h2 | (have a2 := h2; unfold In at a2)); (first | have a3 := in_u h1 | (have a3 := h1; unfold In at a3)); (first | have a4 := in_u j42_5 | (have a4 := j42_5; unfold In at a4)); (first | have a5 := in_u i164 | (have a5 := i164; unfold In at a5)))); have a6 := t_add e164 j42_4 (in_c 1 rfl) rfl; (first | have a7 := in_u ((in_c 1 rfl)) | (have a7 := (in_c 1 rfl); unfold In at a7)); omega) | (have hc := cM_le (sc42.1 158) (x1).toNatClampNeg; have h0 : (Int32.ofInt 0).toInt = 0 := rfl; have hmn : ((x1).toNatClampNeg : Int) = (x1).toInt := (by show (((x1).toInt.toNat : Nat) : Int) = _; (first | have a0 := oa6 j42_4 j32_3 h2 h1 j42_5 i164 | ((first | have a0 := in_u j42_4 | (have a0 := j42_4; unfold In at a0)); (first | have a1 := in_u j32_3 | (have a1 := j32_3; unfold In at a1)); (first | have a2 := in_u h2 | (have a2 := h2; unfold In at a2)); (first | have a3 := in_u h1 | (have a3 := h1; unfold In at a3)); (first | have a4 := in_u j42_5 | (have a4 := j42_5; unfold In at a4)); (first | have a5 := in_u i164 | (have a5 := i164; unfold In at a5)))); have a6 := t_add e164 j42_4 (in_c 1 rfl) rfl; (first | have a7 := in_u ((in_c 1 rfl)) | (have a7 := (in_c 1 rfl); unfold In at a7)); omega); omega))
                have n32b : ∀ k : Nat, (k : Int) < (x1).toInt → (sc42.1 158 k).toInt < (y32_3).toInt := by first | exact g42_1 | (first | exact g42_1 | (intro k hk; have h := g126_1 k hk; (first | have a0 := oa6 j42_4 j32_3 h2 h1 j42_5 i164 | ((first | have a0 := in_u j42_4 | (have a0 := j42_4; unfold In at a0)); (first | have a1 := in_u j32_3 | (have a1 := j32_3; unfold In at a1)); (first | have a2 := in_u h2 | (have a2 := h2; unfold In at a2)); (first | have a3 := in_u h1 | (have a3 := h1; unfold In at a3)); (first | have a4 := in_u j42_5 | (have a4 := j42_5; unfold In at a4)); (first | have a5 := in_u i164 | (have a5 := i164; unfold In at a5)))); have a6 := t_add e164 j42_4 (in_c 1 rfl) rfl; (first | have a7 := in_u ((in_c 1 rfl)) | (have a7 := (in_c 1 rfl); unfold In at a7)); omega) | exact fun k hk => (g2_0 k (by (first | have a0 := oa6 j42_4 j32_3 h2 h1 j42_5 i164 | ((first | have a0 := in_u j42_4 | (have a0 := j42_4; unfold In at a0)); (first | have a1 := in_u j32_3 | (have a1 := j32_3; unfold In at a1)); (first | have a2 := in_u h2 | (have a2 := h2; unfold In at a2)); (first | have a3 := in_u h1 | (have a3 := h1; unfold In at a3)); (first | have a4 := in_u j42_5 | (have a4 := j42_5; unfold In at a4)); (first | have a5 := in_u i164 | (have a5 := i164; unfold In at a5)))); have a6 := t_add e164 j42_4 (in_c 1 rfl) rfl; (first | have a7 := in_u ((in_c 1 rfl)) | (have a7 := (in_c 1 rfl); unfold In at a7)); omega)).1)
                have n32c : ∀ k : Nat, (k : Int) < (x1).toInt → (sc42.1 159 k).toInt < (z164).toInt := by first | (intro k hk; have h := g42_2 k hk; (first | have a0 := oa6 j42_4 j32_3 h2 h1 j42_5 i164 | ((first | have a0 := in_u j42_4 | (have a0 := j42_4; unfold In at a0)); (first | have a1 := in_u j32_3 | (have a1 := j32_3; unfold In at a1)); (first | have a2 := in_u h2 | (have a2 := h2; unfold In at a2)); (first | have a3 := in_u h1 | (have a3 := h1; unfold In at a3)); (first | have a4 := in_u j42_5 | (have a4 := j42_5; unfold In at a4)); (first | have a5 := in_u i164 | (have a5 := i164; unfold In at a5)))); have a6 := t_add e164 j42_4 (in_c 1 rfl) rfl; (first | have a7 := in_u ((in_c 1 rfl)) | (have a7 := (in_c 1 rfl); unfold In at a7)); omega) | (intro k hk; have h := g126_2 k hk; (first | have a0 := oa6 j42_4 j32_3 h2 h1 j42_5 i164 | ((first | have a0 := in_u j42_4 | (have a0 := j42_4; unfold In at a0)); (first | have a1 := in_u j32_3 | (have a1 := j32_3; unfold In at a1)); (first | have a2 := in_u h2 | (have a2 := h2; unfold In at a2)); (first | have a3 := in_u h1 | (have a3 := h1; unfold In at a3)); (first | have a4 := in_u j42_5 | (have a4 := j42_5; unfold In at a4)); (first | have a5 := in_u i164 | (have a5 := i164; unfold In at a5)))); have a6 := t_add e164 j42_4 (in_c 1 rfl) rfl; (first | have a7 := in_u ((in_c 1 rfl)) | (have a7 := (in_c 1 rfl); unfold In at a7)); omega) | exact fun k hk => (g2_0 k (by (first | have a0 := oa6 j42_4 j32_3 h2 h1 j42_5 i164 | ((first | have a0 := in_u j42_4 | (have a0 := j42_4; unfold In at a0)); (first | have a1 := in_u j32_3 | (have a1 := j32_3; unfold In at a1)); (first | have a2 := in_u h2 | (have a2 := h2; unfold In at a2)); (first | have a3 := in_u h1 | (have a3 := h1; unfold In at a3)); (first | have a4 := in_u j42_5 | (have a4 := j42_5; unfold In at a4)); (first | have a5 := in_u i164 | (have a5 := i164; unfold In at a5)))); have a6 := t_add e164 j42_4 (in_c 1 rfl) rfl; (first | have a7 := in_u ((in_c 1 rfl)) | (have a7 := (in_c 1 rfl); unfold In at a7)); omega)).2
                exact gg_w (by first | exact Nat.le_add_right _ _ | exact gw2 | exact gw3 | exact gwe rfl | exact gwf rfl | exact gwg rfl | exact gwh rfl | omega) (gg_f (gf_cons rfl (gf_cons rfl (gf_cons rfl (gf_cons rfl (gf_cons rfl gf_nil))))) (ih32 sc42 y32_3 z164 hIc42 hFc42 (in_w 0 32 j32_3 rfl) (in_w 0 32 i164 rfl) n32 n32a n32b n32c (m_up mm32 (t_add e164 j42_4 (in_c 1 rfl) rfl) (in_w 1 1 (in_c 1 rfl) rfl))))
              · skip
                refine g_aload_n 101 (gd rfl) rfl rfl ?_
                refine g_getA (q2 := 158) 104 (gd rfl) rfl rfl rfl rfl ?_
                refine g_iload 106 (gd rfl) rfl rfl ?_
                refine g_iaload 107 (gd rfl) rfl (n := 32) rfl (in_ix j42_5 rfl) (fun z106 e106 => ?_)
                refine g_if_ge 110 164 (gd rfl) rfl rfl (fun c107 => ?_) (fun c107 => ?_)
                · skip
                  have i107 := z_ge 0 2147483647 c107 (i_rng z106) rfl
                  refine g_iinc 167 (gd rfl) rfl rfl (Nat.le_of_ble_eq_true rfl) (fun z164 e164 => ?_)
                  have i164 := in_add 1 32 e164 j42_4 (in_c 1 rfl) rfl rfl
                  refine g_goto 32 (gd rfl) rfl ?_
                  have n32 : 0 ≤ (y32_3).toInt := by first | exact n32_0 | ((first | have a0 := oa6 j42_4 j32_3 h2 h1 j42_5 i164 | ((first | have a0 := in_u j42_4 | (have a0 := j42_4; unfold In at a0)); (first | have a1 := in_u j32_3 | (have a1 := j32_3; unfold In at a1)); (first | have a2 := in_u h2 | (have a2 := h2; unfold In at a2)); (first | have a3 := in_u h1 | (have a3 := h1; unfold In at a3)); (first | have a4 := in_u j42_5 | (have a4 := j42_5; unfold In at a4)); (first | have a5 := in_u i164 | (have a5 := i164; unfold In at a5)))); have a6 := t_add e164 j42_4 (in_c 1 rfl) rfl; (first | have a7 := in_u ((in_c 1 rfl)) | (have a7 := (in_c 1 rfl); unfold In at a7)); omega)
                  have n32a : (y32_3).toInt + (cM (sc42.1 158) (x1).toNatClampNeg : Int) ≤ (x1).toInt := by first | exact g42_0 | (first | exact g42_0 | (rcases g126_0 with hg | hg; (exfalso; rw [← e132] at hg; have hz := c133; omega); (first | have a0 := oa6 j42_4 j32_3 h2 h1 j42_5 i164 | ((first | have a0 := in_u j42_4 | (have a0 := j42_4; unfold In at a0)); (first | have a1 := in_u j32_3 | (have a1 := j32_3; unfold In at a1)); (first | have a2 := in_u h2 | (have a2 := h2; unfold In at a2)); (first | have a3 := in_u h1 | (have a3 := h1; unfold In at a3)); (first | have a4 := in_u j42_5 | (have a4 := j42_5; unfold In at a4)); (first | have a5 := in_u i164 | (have a5 := i164; unfold In at a5)))); have a6 := t_add e164 j42_4 (in_c 1 rfl) rfl; (first | have a7 := in_u ((in_c 1 rfl)) | (have a7 := (in_c 1 rfl); unfold In at a7)); omega) | (have hc := cM_le (sc42.1 158) (x1).toNatClampNeg; have h0 : (Int32.ofInt 0).toInt = 0 := rfl; have hmn : ((x1).toNatClampNeg : Int) = (x1).toInt := (by show (((x1).toInt.toNat : Nat) : Int) = _; (first | have a0 := oa6 j42_4 j32_3 h2 h1 j42_5 i164 | ((first | have a0 := in_u j42_4 | (have a0 := j42_4; unfold In at a0)); (first | have a1 := in_u j32_3 | (have a1 := j32_3; unfold In at a1)); (first | have a2 := in_u h2 | (have a2 := h2; unfold In at a2)); (first | have a3 := in_u h1 | (have a3 := h1; unfold In at a3)); (first | have a4 := in_u j42_5 | (have a4 := j42_5; unfold In at a4)); (first | have a5 := in_u i164 | (have a5 := i164; unfold In at a5)))); have a6 := t_add e164 j42_4 (in_c 1 rfl) rfl; (first | have a7 := in_u ((in_c 1 rfl)) | (have a7 := (in_c 1 rfl); unfold In at a7)); omega); omega))
                  have n32b : ∀ k : Nat, (k : Int) < (x1).toInt → (sc42.1 158 k).toInt < (y32_3).toInt := by first | exact g42_1 | (first | exact g42_1 | (intro k hk; have h := g126_1 k hk; (first | have a0 := oa6 j42_4 j32_3 h2 h1 j42_5 i164 | ((first | have a0 := in_u j42_4 | (have a0 := j42_4; unfold In at a0)); (first | have a1 := in_u j32_3 | (have a1 := j32_3; unfold In at a1)); (first | have a2 := in_u h2 | (have a2 := h2; unfold In at a2)); (first | have a3 := in_u h1 | (have a3 := h1; unfold In at a3)); (first | have a4 := in_u j42_5 | (have a4 := j42_5; unfold In at a4)); (first | have a5 := in_u i164 | (have a5 := i164; unfold In at a5)))); have a6 := t_add e164 j42_4 (in_c 1 rfl) rfl; (first | have a7 := in_u ((in_c 1 rfl)) | (have a7 := (in_c 1 rfl); unfold In at a7)); omega) | exact fun k hk => (g2_0 k (by (first | have a0 := oa6 j42_4 j32_3 h2 h1 j42_5 i164 | ((first | have a0 := in_u j42_4 | (have a0 := j42_4; unfold In at a0)); (first | have a1 := in_u j32_3 | (have a1 := j32_3; unfold In at a1)); (first | have a2 := in_u h2 | (have a2 := h2; unfold In at a2)); (first | have a3 := in_u h1 | (have a3 := h1; unfold In at a3)); (first | have a4 := in_u j42_5 | (have a4 := j42_5; unfold In at a4)); (first | have a5 := in_u i164 | (have a5 := i164; unfold In at a5)))); have a6 := t_add e164 j42_4 (in_c 1 rfl) rfl; (first | have a7 := in_u ((in_c 1 rfl)) | (have a7 := (in_c 1 rfl); unfold In at a7)); omega)).1)
                  have n32c : ∀ k : Nat, (k : Int) < (x1).toInt → (sc42.1 159 k).toInt < (z164).toInt := by first | (intro k hk; have h := g42_2 k hk; (first | have a0 := oa6 j42_4 j32_3 h2 h1 j42_5 i164 | ((first | have a0 := in_u j42_4 | (have a0 := j42_4; unfold In at a0)); (first | have a1 := in_u j32_3 | (have a1 := j32_3; unfold In at a1)); (first | have a2 := in_u h2 | (have a2 := h2; unfold In at a2)); (first | have a3 := in_u h1 | (have a3 := h1; unfold In at a3)); (first | have a4 := in_u j42_5 | (have a4 := j42_5; unfold In at a4)); (first | have a5 := in_u i164 | (have a5 := i164; unfold In at a5)))); have a6 := t_add e164 j42_4 (in_c 1 rfl) rfl; (first | have a7 := in_u ((in_c 1 rfl)) | (have a7 := (in_c 1 rfl); unfold In at a7)); omega) | (intro k hk; have h := g126_2 k hk; (first | have a0 := oa6 j42_4 j32_3 h2 h1 j42_5 i164 | ((first | have a0 := in_u j42_4 | (have a0 := j42_4; unfold In at a0)); (first | have a1 := in_u j32_3 | (have a1 := j32_3; unfold In at a1)); (first | have a2 := in_u h2 | (have a2 := h2; unfold In at a2)); (first | have a3 := in_u h1 | (have a3 := h1; unfold In at a3)); (first | have a4 := in_u j42_5 | (have a4 := j42_5; unfold In at a4)); (first | have a5 := in_u i164 | (have a5 := i164; unfold In at a5)))); have a6 := t_add e164 j42_4 (in_c 1 rfl) rfl; (first | have a7 := in_u ((in_c 1 rfl)) | (have a7 := (in_c 1 rfl); unfold In at a7)); omega) | exact fun k hk => (g2_0 k (by (first | have a0 := oa6 j42_4 j32_3 h2 h1 j42_5 i164 | ((first | have a0 := in_u j42_4 | (have a0 := j42_4; unfold In at a0)); (first | have a1 := in_u j32_3 | (have a1 := j32_3; unfold In at a1)); (first | have a2 := in_u h2 | (have a2 := h2; unfold In at a2)); (first | have a3 := in_u h1 | (have a3 := h1; unfold In at a3)); (first | have a4 := in_u j42_5 | (have a4 := j42_5; unfold In at a4)); (first | have a5 := in_u i164 | (have a5 := i164; unfold In at a5)))); have a6 := t_add e164 j42_4 (in_c 1 rfl) rfl; (first | have a7 := in_u ((in_c 1 rfl)) | (have a7 := (in_c 1 rfl); unfold In at a7)); omega)).2
                  exact gg_w (by first | exact Nat.le_add_right _ _ | exact gw2 | exact gw3 | exact gwe rfl | exact gwf rfl | exact gwg rfl | exact gwh rfl | omega) (gg_f (gf_cons rfl (gf_cons rfl (gf_cons rfl (gf_cons rfl (gf_cons rfl gf_nil))))) (ih32 sc42 y32_3 z164 hIc42 hFc42 (in_w 0 32 j32_3 rfl) (in_w 0 32 i164 rfl) n32 n32a n32b n32c (m_up mm32 (t_add e164 j42_4 (in_c 1 rfl) rfl) (in_w 1 1 (in_c 1 rfl) rfl))))
                · skip
                  have i107 := z_lt (-2147483648) (-1) c107 (i_rng z106) rfl
                  refine g_aload_n 111 (gd rfl) rfl rfl ?_
                  refine g_getA (q2 := 159) 114 (gd rfl) rfl rfl rfl rfl ?_
                  refine g_iload 116 (gd rfl) rfl rfl ?_
                  refine g_iaload 117 (gd rfl) rfl (n := 32) rfl (in_ix j42_5 rfl) (fun z116 e116 => ?_)
                  have q116 : z54 = z116 := (e54).trans e116.symm
                  subst q116
                  refine g_iload 119 (gd rfl) rfl rfl ?_
                  refine g_cmp_ne 122 164 (gd rfl) rfl rfl (fun c119 => ?_) (fun c119 => ?_)
                  · skip
                    refine g_iinc 167 (gd rfl) rfl rfl (Nat.le_of_ble_eq_true rfl) (fun z164 e164 => ?_)
                    have i164 := in_add 1 32 e164 j42_4 (in_c 1 rfl) rfl rfl
                    refine g_goto 32 (gd rfl) rfl ?_
                    have n32 : 0 ≤ (y32_3).toInt := by first | exact n32_0 | ((first | have a0 := oa6 j42_4 j32_3 h2 h1 j42_5 i164 | ((first | have a0 := in_u j42_4 | (have a0 := j42_4; unfold In at a0)); (first | have a1 := in_u j32_3 | (have a1 := j32_3; unfold In at a1)); (first | have a2 := in_u h2 | (have a2 := h2; unfold In at a2)); (first | have a3 := in_u h1 | (have a3 := h1; unfold In at a3)); (first | have a4 := in_u j42_5 | (have a4 := j42_5; unfold In at a4)); (first | have a5 := in_u i164 | (have a5 := i164; unfold In at a5)))); have a6 := t_add e164 j42_4 (in_c 1 rfl) rfl; (first | have a7 := in_u ((in_c 1 rfl)) | (have a7 := (in_c 1 rfl); unfold In at a7)); omega)
                    have n32a : (y32_3).toInt + (cM (sc42.1 158) (x1).toNatClampNeg : Int) ≤ (x1).toInt := by first | exact g42_0 | (first | exact g42_0 | (rcases g126_0 with hg | hg; (exfalso; rw [← e132] at hg; have hz := c133; omega); (first | have a0 := oa6 j42_4 j32_3 h2 h1 j42_5 i164 | ((first | have a0 := in_u j42_4 | (have a0 := j42_4; unfold In at a0)); (first | have a1 := in_u j32_3 | (have a1 := j32_3; unfold In at a1)); (first | have a2 := in_u h2 | (have a2 := h2; unfold In at a2)); (first | have a3 := in_u h1 | (have a3 := h1; unfold In at a3)); (first | have a4 := in_u j42_5 | (have a4 := j42_5; unfold In at a4)); (first | have a5 := in_u i164 | (have a5 := i164; unfold In at a5)))); have a6 := t_add e164 j42_4 (in_c 1 rfl) rfl; (first | have a7 := in_u ((in_c 1 rfl)) | (have a7 := (in_c 1 rfl); unfold In at a7)); omega) | (have hc := cM_le (sc42.1 158) (x1).toNatClampNeg; have h0 : (Int32.ofInt 0).toInt = 0 := rfl; have hmn : ((x1).toNatClampNeg : Int) = (x1).toInt := (by show (((x1).toInt.toNat : Nat) : Int) = _; (first | have a0 := oa6 j42_4 j32_3 h2 h1 j42_5 i164 | ((first | have a0 := in_u j42_4 | (have a0 := j42_4; unfold In at a0)); (first | have a1 := in_u j32_3 | (have a1 := j32_3; unfold In at a1)); (first | have a2 := in_u h2 | (have a2 := h2; unfold In at a2)); (first | have a3 := in_u h1 | (have a3 := h1; unfold In at a3)); (first | have a4 := in_u j42_5 | (have a4 := j42_5; unfold In at a4)); (first | have a5 := in_u i164 | (have a5 := i164; unfold In at a5)))); have a6 := t_add e164 j42_4 (in_c 1 rfl) rfl; (first | have a7 := in_u ((in_c 1 rfl)) | (have a7 := (in_c 1 rfl); unfold In at a7)); omega); omega))
                    have n32b : ∀ k : Nat, (k : Int) < (x1).toInt → (sc42.1 158 k).toInt < (y32_3).toInt := by first | exact g42_1 | (first | exact g42_1 | (intro k hk; have h := g126_1 k hk; (first | have a0 := oa6 j42_4 j32_3 h2 h1 j42_5 i164 | ((first | have a0 := in_u j42_4 | (have a0 := j42_4; unfold In at a0)); (first | have a1 := in_u j32_3 | (have a1 := j32_3; unfold In at a1)); (first | have a2 := in_u h2 | (have a2 := h2; unfold In at a2)); (first | have a3 := in_u h1 | (have a3 := h1; unfold In at a3)); (first | have a4 := in_u j42_5 | (have a4 := j42_5; unfold In at a4)); (first | have a5 := in_u i164 | (have a5 := i164; unfold In at a5)))); have a6 := t_add e164 j42_4 (in_c 1 rfl) rfl; (first | have a7 := in_u ((in_c 1 rfl)) | (have a7 := (in_c 1 rfl); unfold In at a7)); omega) | exact fun k hk => (g2_0 k (by (first | have a0 := oa6 j42_4 j32_3 h2 h1 j42_5 i164 | ((first | have a0 := in_u j42_4 | (have a0 := j42_4; unfold In at a0)); (first | have a1 := in_u j32_3 | (have a1 := j32_3; unfold In at a1)); (first | have a2 := in_u h2 | (have a2 := h2; unfold In at a2)); (first | have a3 := in_u h1 | (have a3 := h1; unfold In at a3)); (first | have a4 := in_u j42_5 | (have a4 := j42_5; unfold In at a4)); (first | have a5 := in_u i164 | (have a5 := i164; unfold In at a5)))); have a6 := t_add e164 j42_4 (in_c 1 rfl) rfl; (first | have a7 := in_u ((in_c 1 rfl)) | (have a7 := (in_c 1 rfl); unfold In at a7)); omega)).1)
                    have n32c : ∀ k : Nat, (k : Int) < (x1).toInt → (sc42.1 159 k).toInt < (z164).toInt := by first | (intro k hk; have h := g42_2 k hk; (first | have a0 := oa6 j42_4 j32_3 h2 h1 j42_5 i164 | ((first | have a0 := in_u j42_4 | (have a0 := j42_4; unfold In at a0)); (first | have a1 := in_u j32_3 | (have a1 := j32_3; unfold In at a1)); (first | have a2 := in_u h2 | (have a2 := h2; unfold In at a2)); (first | have a3 := in_u h1 | (have a3 := h1; unfold In at a3)); (first | have a4 := in_u j42_5 | (have a4 := j42_5; unfold In at a4)); (first | have a5 := in_u i164 | (have a5 := i164; unfold In at a5)))); have a6 := t_add e164 j42_4 (in_c 1 rfl) rfl; (first | have a7 := in_u ((in_c 1 rfl)) | (have a7 := (in_c 1 rfl); unfold In at a7)); omega) | (intro k hk; have h := g126_2 k hk; (first | have a0 := oa6 j42_4 j32_3 h2 h1 j42_5 i164 | ((first | have a0 := in_u j42_4 | (have a0 := j42_4; unfold In at a0)); (first | have a1 := in_u j32_3 | (have a1 := j32_3; unfold In at a1)); (first | have a2 := in_u h2 | (have a2 := h2; unfold In at a2)); (first | have a3 := in_u h1 | (have a3 := h1; unfold In at a3)); (first | have a4 := in_u j42_5 | (have a4 := j42_5; unfold In at a4)); (first | have a5 := in_u i164 | (have a5 := i164; unfold In at a5)))); have a6 := t_add e164 j42_4 (in_c 1 rfl) rfl; (first | have a7 := in_u ((in_c 1 rfl)) | (have a7 := (in_c 1 rfl); unfold In at a7)); omega) | exact fun k hk => (g2_0 k (by (first | have a0 := oa6 j42_4 j32_3 h2 h1 j42_5 i164 | ((first | have a0 := in_u j42_4 | (have a0 := j42_4; unfold In at a0)); (first | have a1 := in_u j32_3 | (have a1 := j32_3; unfold In at a1)); (first | have a2 := in_u h2 | (have a2 := h2; unfold In at a2)); (first | have a3 := in_u h1 | (have a3 := h1; unfold In at a3)); (first | have a4 := in_u j42_5 | (have a4 := j42_5; unfold In at a4)); (first | have a5 := in_u i164 | (have a5 := i164; unfold In at a5)))); have a6 := t_add e164 j42_4 (in_c 1 rfl) rfl; (first | have a7 := in_u ((in_c 1 rfl)) | (have a7 := (in_c 1 rfl); unfold In at a7)); omega)).2
                    exact gg_w (by first | exact Nat.le_add_right _ _ | exact gw2 | exact gw3 | exact gwe rfl | exact gwf rfl | exact gwg rfl | exact gwh rfl | omega) (gg_f (gf_cons rfl (gf_cons rfl (gf_cons rfl (gf_cons rfl (gf_cons rfl gf_nil))))) (ih32 sc42 y32_3 z164 hIc42 hFc42 (in_w 0 32 j32_3 rfl) (in_w 0 32 i164 rfl) n32 n32a n32b n32c (m_up mm32 (t_add e164 j42_4 (in_c 1 rfl) rfl) (in_w 1 1 (in_c 1 rfl) rfl))))
                  · skip
                    have i119 := r_eq1 0 31 c119 i55 j42_4 rfl
                    refine g_iload 124 (gd rfl) rfl rfl ?_
                    refine g_istore 126 (gd rfl) rfl (Nat.le_of_ble_eq_true rfl) ?_
                    have n126 : (y42_5).toInt < (x1).toInt := by first | exact n42_0 | ((first | have a0 := oa5 j42_4 j32_3 h2 h1 j42_5 | ((first | have a0 := in_u j42_4 | (have a0 := j42_4; unfold In at a0)); (first | have a1 := in_u j32_3 | (have a1 := j32_3; unfold In at a1)); (first | have a2 := in_u h2 | (have a2 := h2; unfold In at a2)); (first | have a3 := in_u h1 | (have a3 := h1; unfold In at a3)); (first | have a4 := in_u j42_5 | (have a4 := j42_5; unfold In at a4)))); omega)
                    have n126a : 0 ≤ (y42_5).toInt := by first | exact n42_1 | ((first | have a0 := oa5 j42_4 j32_3 h2 h1 j42_5 | ((first | have a0 := in_u j42_4 | (have a0 := j42_4; unfold In at a0)); (first | have a1 := in_u j32_3 | (have a1 := j32_3; unfold In at a1)); (first | have a2 := in_u h2 | (have a2 := h2; unfold In at a2)); (first | have a3 := in_u h1 | (have a3 := h1; unfold In at a3)); (first | have a4 := in_u j42_5 | (have a4 := j42_5; unfold In at a4)))); omega)
                    have n126b : ((y32_3).toInt + (cM (sc42.1 158) (x1).toNatClampNeg : Int) ≤ (x1).toInt ∧ (sc42.1 158 (y42_5).toNatClampNeg).toInt < 0) ∨ (y32_3).toInt + 1 + (cM (sc42.1 158) (x1).toNatClampNeg : Int) ≤ (x1).toInt := by first | (right; rw [sI_q]; have hu := up_cm (f := sc126.1 158) (y := y126_6) (b := y32_3) (n := x1.toNatClampNeg) (by rw [← e132]; exact c133) (by (first | have a0 := oa5 j42_4 j32_3 h2 h1 j42_5 | ((first | have a0 := in_u j42_4 | (have a0 := j42_4; unfold In at a0)); (first | have a1 := in_u j32_3 | (have a1 := j32_3; unfold In at a1)); (first | have a2 := in_u h2 | (have a2 := h2; unfold In at a2)); (first | have a3 := in_u h1 | (have a3 := h1; unfold In at a3)); (first | have a4 := in_u j42_5 | (have a4 := j42_5; unfold In at a4)))); omega) (by show y126_6.toInt.toNat < x1.toInt.toNat; (first | have a0 := oa5 j42_4 j32_3 h2 h1 j42_5 | ((first | have a0 := in_u j42_4 | (have a0 := j42_4; unfold In at a0)); (first | have a1 := in_u j32_3 | (have a1 := j32_3; unfold In at a1)); (first | have a2 := in_u h2 | (have a2 := h2; unfold In at a2)); (first | have a3 := in_u h1 | (have a3 := h1; unfold In at a3)); (first | have a4 := in_u j42_5 | (have a4 := j42_5; unfold In at a4)))); (first | exact zt_t (by omega) (by omega) | omega)); rcases g126_0 with hg | hg; ((first | have a0 := oa5 j42_4 j32_3 h2 h1 j42_5 | ((first | have a0 := in_u j42_4 | (have a0 := j42_4; unfold In at a0)); (first | have a1 := in_u j32_3 | (have a1 := j32_3; unfold In at a1)); (first | have a2 := in_u h2 | (have a2 := h2; unfold In at a2)); (first | have a3 := in_u h1 | (have a3 := h1; unfold In at a3)); (first | have a4 := in_u j42_5 | (have a4 := j42_5; unfold In at a4)))); omega); ((first | have a0 := oa5 j42_4 j32_3 h2 h1 j42_5 | ((first | have a0 := in_u j42_4 | (have a0 := j42_4; unfold In at a0)); (first | have a1 := in_u j32_3 | (have a1 := j32_3; unfold In at a1)); (first | have a2 := in_u h2 | (have a2 := h2; unfold In at a2)); (first | have a3 := in_u h1 | (have a3 := h1; unfold In at a3)); (first | have a4 := in_u j42_5 | (have a4 := j42_5; unfold In at a4)))); omega)) | exact Or.inl ⟨g42_0, by rw [← e106]; exact c107⟩
                    have n126c : ∀ k : Nat, (k : Int) < (x1).toInt → (sc42.1 158 k).toInt < (y32_3).toInt + 1 := by first | (intro k hk; rw [sI_q]; exact up_lt (fun c => g126_1 k hk) (by (first | have a0 := oa5 j42_4 j32_3 h2 h1 j42_5 | ((first | have a0 := in_u j42_4 | (have a0 := j42_4; unfold In at a0)); (first | have a1 := in_u j32_3 | (have a1 := j32_3; unfold In at a1)); (first | have a2 := in_u h2 | (have a2 := h2; unfold In at a2)); (first | have a3 := in_u h1 | (have a3 := h1; unfold In at a3)); (first | have a4 := in_u j42_5 | (have a4 := j42_5; unfold In at a4)))); omega)) | (intro k hk; have h := g42_1 k hk; (first | have a0 := oa5 j42_4 j32_3 h2 h1 j42_5 | ((first | have a0 := in_u j42_4 | (have a0 := j42_4; unfold In at a0)); (first | have a1 := in_u j32_3 | (have a1 := j32_3; unfold In at a1)); (first | have a2 := in_u h2 | (have a2 := h2; unfold In at a2)); (first | have a3 := in_u h1 | (have a3 := h1; unfold In at a3)); (first | have a4 := in_u j42_5 | (have a4 := j42_5; unfold In at a4)))); omega)
                    have n126d : ∀ k : Nat, (k : Int) < (x1).toInt → (sc42.1 159 k).toInt < (y32_4).toInt + 1 := by first | (rw [sI_p rfl]; exact g126_2) | exact g42_2
                    have n126e : VD s (sc42.1 159) (x1).toInt (x2).toInt (y32_4).toInt := by first | (rw [sI_p rfl]; exact g126_3) | exact vc_e g42_3 (by (first | have a0 := oa5 j42_4 j32_3 h2 h1 j42_5 | ((first | have a0 := in_u j42_4 | (have a0 := j42_4; unfold In at a0)); (first | have a1 := in_u j32_3 | (have a1 := j32_3; unfold In at a1)); (first | have a2 := in_u h2 | (have a2 := h2; unfold In at a2)); (first | have a3 := in_u h1 | (have a3 := h1; unfold In at a3)); (first | have a4 := in_u j42_5 | (have a4 := j42_5; unfold In at a4)))); omega) (by rw [← e116]; exact c119)
                    have n126f : (sc42.1 159 (y42_5).toNatClampNeg).toInt = (y32_4).toInt := by first | (rw [sI_p rfl, hy156]; exact hx156) | (rw [← e116]; exact c119)
                    have m126 : cM (sc42.1 158) (x1).toNatClampNeg < 33 := by have hc := cM_le (sc42.1 158) (x1).toNatClampNeg; have hmn : x1.toNatClampNeg = x1.toInt.toNat := rfl; (first | have a0 := oa5 j42_4 j32_3 h2 h1 j42_5 | ((first | have a0 := in_u j42_4 | (have a0 := j42_4; unfold In at a0)); (first | have a1 := in_u j32_3 | (have a1 := j32_3; unfold In at a1)); (first | have a2 := in_u h2 | (have a2 := h2; unfold In at a2)); (first | have a3 := in_u h1 | (have a3 := h1; unfold In at a3)); (first | have a4 := in_u j42_5 | (have a4 := j42_5; unfold In at a4)))); omega
                    exact gg_w (by first | exact Nat.le_add_right _ _ | exact gw2 | exact gw3 | exact gwe rfl | exact gwf rfl | exact gwg rfl | exact gwh rfl | omega) (gg_f (gf_cons rfl (gf_cons rfl (gf_cons rfl (gf_cons rfl (gf_cons rfl (gf_cons rfl (gf_cons rfl gf_nil))))))) (ct126 (33) sc42 y42_5 y42_5 hIc42 hFc42 (in_w 0 31 j42_4 rfl) (in_w 0 31 j42_5 rfl) (in_w 0 31 j42_5 rfl) n126 n126a n126b n126c n126d n126e n126f m126))
            · skip
              have i55 := z_lt (-2147483648) (-1) c55 (i_rng z54) rfl
              refine g_aload_n 59 (gd rfl) rfl rfl ?_
              refine g_getA (q2 := 158) 62 (gd rfl) rfl rfl rfl rfl ?_
              refine g_iload 64 (gd rfl) rfl rfl ?_
              refine g_iaload 65 (gd rfl) rfl (n := 32) rfl (in_ix j42_5 rfl) (fun z64 e64 => ?_)
              refine g_if_ge 68 94 (gd rfl) rfl rfl (fun c65 => ?_) (fun c65 => ?_)
              · skip
                have i65 := z_ge 0 2147483647 c65 (i_rng z64) rfl
                refine g_iload 96 (gd rfl) rfl rfl ?_
                refine g_iload_n 97 (gd rfl) rfl rfl ?_
                refine g_cmp_eq 100 164 (gd rfl) rfl rfl (fun c97 => ?_) (fun c97 => ?_)
                · skip
                  refine g_iinc 167 (gd rfl) rfl rfl (Nat.le_of_ble_eq_true rfl) (fun z164 e164 => ?_)
                  have i164 := in_add 1 32 e164 j42_4 (in_c 1 rfl) rfl rfl
                  refine g_goto 32 (gd rfl) rfl ?_
                  have n32 : 0 ≤ (y32_3).toInt := by first | exact n32_0 | ((first | have a0 := oa6 j42_4 j32_3 h2 h1 j42_5 i164 | ((first | have a0 := in_u j42_4 | (have a0 := j42_4; unfold In at a0)); (first | have a1 := in_u j32_3 | (have a1 := j32_3; unfold In at a1)); (first | have a2 := in_u h2 | (have a2 := h2; unfold In at a2)); (first | have a3 := in_u h1 | (have a3 := h1; unfold In at a3)); (first | have a4 := in_u j42_5 | (have a4 := j42_5; unfold In at a4)); (first | have a5 := in_u i164 | (have a5 := i164; unfold In at a5)))); have a6 := t_add e164 j42_4 (in_c 1 rfl) rfl; (first | have a7 := in_u ((in_c 1 rfl)) | (have a7 := (in_c 1 rfl); unfold In at a7)); omega)
                  have n32a : (y32_3).toInt + (cM (sc42.1 158) (x1).toNatClampNeg : Int) ≤ (x1).toInt := by first | exact g42_0 | (first | exact g42_0 | (rcases g126_0 with hg | hg; (exfalso; rw [← e132] at hg; have hz := c133; omega); (first | have a0 := oa6 j42_4 j32_3 h2 h1 j42_5 i164 | ((first | have a0 := in_u j42_4 | (have a0 := j42_4; unfold In at a0)); (first | have a1 := in_u j32_3 | (have a1 := j32_3; unfold In at a1)); (first | have a2 := in_u h2 | (have a2 := h2; unfold In at a2)); (first | have a3 := in_u h1 | (have a3 := h1; unfold In at a3)); (first | have a4 := in_u j42_5 | (have a4 := j42_5; unfold In at a4)); (first | have a5 := in_u i164 | (have a5 := i164; unfold In at a5)))); have a6 := t_add e164 j42_4 (in_c 1 rfl) rfl; (first | have a7 := in_u ((in_c 1 rfl)) | (have a7 := (in_c 1 rfl); unfold In at a7)); omega) | (have hc := cM_le (sc42.1 158) (x1).toNatClampNeg; have h0 : (Int32.ofInt 0).toInt = 0 := rfl; have hmn : ((x1).toNatClampNeg : Int) = (x1).toInt := (by show (((x1).toInt.toNat : Nat) : Int) = _; (first | have a0 := oa6 j42_4 j32_3 h2 h1 j42_5 i164 | ((first | have a0 := in_u j42_4 | (have a0 := j42_4; unfold In at a0)); (first | have a1 := in_u j32_3 | (have a1 := j32_3; unfold In at a1)); (first | have a2 := in_u h2 | (have a2 := h2; unfold In at a2)); (first | have a3 := in_u h1 | (have a3 := h1; unfold In at a3)); (first | have a4 := in_u j42_5 | (have a4 := j42_5; unfold In at a4)); (first | have a5 := in_u i164 | (have a5 := i164; unfold In at a5)))); have a6 := t_add e164 j42_4 (in_c 1 rfl) rfl; (first | have a7 := in_u ((in_c 1 rfl)) | (have a7 := (in_c 1 rfl); unfold In at a7)); omega); omega))
                  have n32b : ∀ k : Nat, (k : Int) < (x1).toInt → (sc42.1 158 k).toInt < (y32_3).toInt := by first | exact g42_1 | (first | exact g42_1 | (intro k hk; have h := g126_1 k hk; (first | have a0 := oa6 j42_4 j32_3 h2 h1 j42_5 i164 | ((first | have a0 := in_u j42_4 | (have a0 := j42_4; unfold In at a0)); (first | have a1 := in_u j32_3 | (have a1 := j32_3; unfold In at a1)); (first | have a2 := in_u h2 | (have a2 := h2; unfold In at a2)); (first | have a3 := in_u h1 | (have a3 := h1; unfold In at a3)); (first | have a4 := in_u j42_5 | (have a4 := j42_5; unfold In at a4)); (first | have a5 := in_u i164 | (have a5 := i164; unfold In at a5)))); have a6 := t_add e164 j42_4 (in_c 1 rfl) rfl; (first | have a7 := in_u ((in_c 1 rfl)) | (have a7 := (in_c 1 rfl); unfold In at a7)); omega) | exact fun k hk => (g2_0 k (by (first | have a0 := oa6 j42_4 j32_3 h2 h1 j42_5 i164 | ((first | have a0 := in_u j42_4 | (have a0 := j42_4; unfold In at a0)); (first | have a1 := in_u j32_3 | (have a1 := j32_3; unfold In at a1)); (first | have a2 := in_u h2 | (have a2 := h2; unfold In at a2)); (first | have a3 := in_u h1 | (have a3 := h1; unfold In at a3)); (first | have a4 := in_u j42_5 | (have a4 := j42_5; unfold In at a4)); (first | have a5 := in_u i164 | (have a5 := i164; unfold In at a5)))); have a6 := t_add e164 j42_4 (in_c 1 rfl) rfl; (first | have a7 := in_u ((in_c 1 rfl)) | (have a7 := (in_c 1 rfl); unfold In at a7)); omega)).1)
                  have n32c : ∀ k : Nat, (k : Int) < (x1).toInt → (sc42.1 159 k).toInt < (z164).toInt := by first | (intro k hk; have h := g42_2 k hk; (first | have a0 := oa6 j42_4 j32_3 h2 h1 j42_5 i164 | ((first | have a0 := in_u j42_4 | (have a0 := j42_4; unfold In at a0)); (first | have a1 := in_u j32_3 | (have a1 := j32_3; unfold In at a1)); (first | have a2 := in_u h2 | (have a2 := h2; unfold In at a2)); (first | have a3 := in_u h1 | (have a3 := h1; unfold In at a3)); (first | have a4 := in_u j42_5 | (have a4 := j42_5; unfold In at a4)); (first | have a5 := in_u i164 | (have a5 := i164; unfold In at a5)))); have a6 := t_add e164 j42_4 (in_c 1 rfl) rfl; (first | have a7 := in_u ((in_c 1 rfl)) | (have a7 := (in_c 1 rfl); unfold In at a7)); omega) | (intro k hk; have h := g126_2 k hk; (first | have a0 := oa6 j42_4 j32_3 h2 h1 j42_5 i164 | ((first | have a0 := in_u j42_4 | (have a0 := j42_4; unfold In at a0)); (first | have a1 := in_u j32_3 | (have a1 := j32_3; unfold In at a1)); (first | have a2 := in_u h2 | (have a2 := h2; unfold In at a2)); (first | have a3 := in_u h1 | (have a3 := h1; unfold In at a3)); (first | have a4 := in_u j42_5 | (have a4 := j42_5; unfold In at a4)); (first | have a5 := in_u i164 | (have a5 := i164; unfold In at a5)))); have a6 := t_add e164 j42_4 (in_c 1 rfl) rfl; (first | have a7 := in_u ((in_c 1 rfl)) | (have a7 := (in_c 1 rfl); unfold In at a7)); omega) | exact fun k hk => (g2_0 k (by (first | have a0 := oa6 j42_4 j32_3 h2 h1 j42_5 i164 | ((first | have a0 := in_u j42_4 | (have a0 := j42_4; unfold In at a0)); (first | have a1 := in_u j32_3 | (have a1 := j32_3; unfold In at a1)); (first | have a2 := in_u h2 | (have a2 := h2; unfold In at a2)); (first | have a3 := in_u h1 | (have a3 := h1; unfold In at a3)); (first | have a4 := in_u j42_5 | (have a4 := j42_5; unfold In at a4)); (first | have a5 := in_u i164 | (have a5 := i164; unfold In at a5)))); have a6 := t_add e164 j42_4 (in_c 1 rfl) rfl; (first | have a7 := in_u ((in_c 1 rfl)) | (have a7 := (in_c 1 rfl); unfold In at a7)); omega)).2
                  exact gg_w (by first | exact Nat.le_add_right _ _ | exact gw2 | exact gw3 | exact gwe rfl | exact gwf rfl | exact gwg rfl | exact gwh rfl | omega) (gg_f (gf_cons rfl (gf_cons rfl (gf_cons rfl (gf_cons rfl (gf_cons rfl gf_nil))))) (ih32 sc42 y32_3 z164 hIc42 hFc42 (in_w 0 32 j32_3 rfl) (in_w 0 32 i164 rfl) n32 n32a n32b n32c (m_up mm32 (t_add e164 j42_4 (in_c 1 rfl) rfl) (in_w 1 1 (in_c 1 rfl) rfl))))
                · skip
                  refine g_aload_n 101 (gd rfl) rfl rfl ?_
                  refine g_getA (q2 := 158) 104 (gd rfl) rfl rfl rfl rfl ?_
                  refine g_iload 106 (gd rfl) rfl rfl ?_
                  refine g_iaload 107 (gd rfl) rfl (n := 32) rfl (in_ix j42_5 rfl) (fun z106 e106 => ?_)
                  have q106 : z64 = z106 := (e64).trans e106.symm
                  subst q106
                  refine g_if_ge 110 164 (gd rfl) rfl rfl (fun c107 => ?_) (fun c107 => ?_)
                  · skip
                    refine g_iinc 167 (gd rfl) rfl rfl (Nat.le_of_ble_eq_true rfl) (fun z164 e164 => ?_)
                    have i164 := in_add 1 32 e164 j42_4 (in_c 1 rfl) rfl rfl
                    refine g_goto 32 (gd rfl) rfl ?_
                    have n32 : 0 ≤ (y32_3).toInt := by first | exact n32_0 | ((first | have a0 := oa6 j42_4 j32_3 h2 h1 j42_5 i164 | ((first | have a0 := in_u j42_4 | (have a0 := j42_4; unfold In at a0)); (first | have a1 := in_u j32_3 | (have a1 := j32_3; unfold In at a1)); (first | have a2 := in_u h2 | (have a2 := h2; unfold In at a2)); (first | have a3 := in_u h1 | (have a3 := h1; unfold In at a3)); (first | have a4 := in_u j42_5 | (have a4 := j42_5; unfold In at a4)); (first | have a5 := in_u i164 | (have a5 := i164; unfold In at a5)))); have a6 := t_add e164 j42_4 (in_c 1 rfl) rfl; (first | have a7 := in_u ((in_c 1 rfl)) | (have a7 := (in_c 1 rfl); unfold In at a7)); omega)
                    have n32a : (y32_3).toInt + (cM (sc42.1 158) (x1).toNatClampNeg : Int) ≤ (x1).toInt := by first | exact g42_0 | (first | exact g42_0 | (rcases g126_0 with hg | hg; (exfalso; rw [← e132] at hg; have hz := c133; omega); (first | have a0 := oa6 j42_4 j32_3 h2 h1 j42_5 i164 | ((first | have a0 := in_u j42_4 | (have a0 := j42_4; unfold In at a0)); (first | have a1 := in_u j32_3 | (have a1 := j32_3; unfold In at a1)); (first | have a2 := in_u h2 | (have a2 := h2; unfold In at a2)); (first | have a3 := in_u h1 | (have a3 := h1; unfold In at a3)); (first | have a4 := in_u j42_5 | (have a4 := j42_5; unfold In at a4)); (first | have a5 := in_u i164 | (have a5 := i164; unfold In at a5)))); have a6 := t_add e164 j42_4 (in_c 1 rfl) rfl; (first | have a7 := in_u ((in_c 1 rfl)) | (have a7 := (in_c 1 rfl); unfold In at a7)); omega) | (have hc := cM_le (sc42.1 158) (x1).toNatClampNeg; have h0 : (Int32.ofInt 0).toInt = 0 := rfl; have hmn : ((x1).toNatClampNeg : Int) = (x1).toInt := (by show (((x1).toInt.toNat : Nat) : Int) = _; (first | have a0 := oa6 j42_4 j32_3 h2 h1 j42_5 i164 | ((first | have a0 := in_u j42_4 | (have a0 := j42_4; unfold In at a0)); (first | have a1 := in_u j32_3 | (have a1 := j32_3; unfold In at a1)); (first | have a2 := in_u h2 | (have a2 := h2; unfold In at a2)); (first | have a3 := in_u h1 | (have a3 := h1; unfold In at a3)); (first | have a4 := in_u j42_5 | (have a4 := j42_5; unfold In at a4)); (first | have a5 := in_u i164 | (have a5 := i164; unfold In at a5)))); have a6 := t_add e164 j42_4 (in_c 1 rfl) rfl; (first | have a7 := in_u ((in_c 1 rfl)) | (have a7 := (in_c 1 rfl); unfold In at a7)); omega); omega))
                    have n32b : ∀ k : Nat, (k : Int) < (x1).toInt → (sc42.1 158 k).toInt < (y32_3).toInt := by first | exact g42_1 | (first | exact g42_1 | (intro k hk; have h := g126_1 k hk; (first | have a0 := oa6 j42_4 j32_3 h2 h1 j42_5 i164 | ((first | have a0 := in_u j42_4 | (have a0 := j42_4; unfold In at a0)); (first | have a1 := in_u j32_3 | (have a1 := j32_3; unfold In at a1)); (first | have a2 := in_u h2 | (have a2 := h2; unfold In at a2)); (first | have a3 := in_u h1 | (have a3 := h1; unfold In at a3)); (first | have a4 := in_u j42_5 | (have a4 := j42_5; unfold In at a4)); (first | have a5 := in_u i164 | (have a5 := i164; unfold In at a5)))); have a6 := t_add e164 j42_4 (in_c 1 rfl) rfl; (first | have a7 := in_u ((in_c 1 rfl)) | (have a7 := (in_c 1 rfl); unfold In at a7)); omega) | exact fun k hk => (g2_0 k (by (first | have a0 := oa6 j42_4 j32_3 h2 h1 j42_5 i164 | ((first | have a0 := in_u j42_4 | (have a0 := j42_4; unfold In at a0)); (first | have a1 := in_u j32_3 | (have a1 := j32_3; unfold In at a1)); (first | have a2 := in_u h2 | (have a2 := h2; unfold In at a2)); (first | have a3 := in_u h1 | (have a3 := h1; unfold In at a3)); (first | have a4 := in_u j42_5 | (have a4 := j42_5; unfold In at a4)); (first | have a5 := in_u i164 | (have a5 := i164; unfold In at a5)))); have a6 := t_add e164 j42_4 (in_c 1 rfl) rfl; (first | have a7 := in_u ((in_c 1 rfl)) | (have a7 := (in_c 1 rfl); unfold In at a7)); omega)).1)
                    have n32c : ∀ k : Nat, (k : Int) < (x1).toInt → (sc42.1 159 k).toInt < (z164).toInt := by first | (intro k hk; have h := g42_2 k hk; (first | have a0 := oa6 j42_4 j32_3 h2 h1 j42_5 i164 | ((first | have a0 := in_u j42_4 | (have a0 := j42_4; unfold In at a0)); (first | have a1 := in_u j32_3 | (have a1 := j32_3; unfold In at a1)); (first | have a2 := in_u h2 | (have a2 := h2; unfold In at a2)); (first | have a3 := in_u h1 | (have a3 := h1; unfold In at a3)); (first | have a4 := in_u j42_5 | (have a4 := j42_5; unfold In at a4)); (first | have a5 := in_u i164 | (have a5 := i164; unfold In at a5)))); have a6 := t_add e164 j42_4 (in_c 1 rfl) rfl; (first | have a7 := in_u ((in_c 1 rfl)) | (have a7 := (in_c 1 rfl); unfold In at a7)); omega) | (intro k hk; have h := g126_2 k hk; (first | have a0 := oa6 j42_4 j32_3 h2 h1 j42_5 i164 | ((first | have a0 := in_u j42_4 | (have a0 := j42_4; unfold In at a0)); (first | have a1 := in_u j32_3 | (have a1 := j32_3; unfold In at a1)); (first | have a2 := in_u h2 | (have a2 := h2; unfold In at a2)); (first | have a3 := in_u h1 | (have a3 := h1; unfold In at a3)); (first | have a4 := in_u j42_5 | (have a4 := j42_5; unfold In at a4)); (first | have a5 := in_u i164 | (have a5 := i164; unfold In at a5)))); have a6 := t_add e164 j42_4 (in_c 1 rfl) rfl; (first | have a7 := in_u ((in_c 1 rfl)) | (have a7 := (in_c 1 rfl); unfold In at a7)); omega) | exact fun k hk => (g2_0 k (by (first | have a0 := oa6 j42_4 j32_3 h2 h1 j42_5 i164 | ((first | have a0 := in_u j42_4 | (have a0 := j42_4; unfold In at a0)); (first | have a1 := in_u j32_3 | (have a1 := j32_3; unfold In at a1)); (first | have a2 := in_u h2 | (have a2 := h2; unfold In at a2)); (first | have a3 := in_u h1 | (have a3 := h1; unfold In at a3)); (first | have a4 := in_u j42_5 | (have a4 := j42_5; unfold In at a4)); (first | have a5 := in_u i164 | (have a5 := i164; unfold In at a5)))); have a6 := t_add e164 j42_4 (in_c 1 rfl) rfl; (first | have a7 := in_u ((in_c 1 rfl)) | (have a7 := (in_c 1 rfl); unfold In at a7)); omega)).2
                    exact gg_w (by first | exact Nat.le_add_right _ _ | exact gw2 | exact gw3 | exact gwe rfl | exact gwf rfl | exact gwg rfl | exact gwh rfl | omega) (gg_f (gf_cons rfl (gf_cons rfl (gf_cons rfl (gf_cons rfl (gf_cons rfl gf_nil))))) (ih32 sc42 y32_3 z164 hIc42 hFc42 (in_w 0 32 j32_3 rfl) (in_w 0 32 i164 rfl) n32 n32a n32b n32c (m_up mm32 (t_add e164 j42_4 (in_c 1 rfl) rfl) (in_w 1 1 (in_c 1 rfl) rfl))))
                  · skip
                    exact zn_lt c107 i65 rfl
              · skip
                have i65 := z_lt (-2147483648) (-1) c65 (i_rng z64) rfl
                refine g_aload_n 69 (gd rfl) rfl rfl ?_
                refine g_getA (q2 := 159) 72 (gd rfl) rfl rfl rfl rfl ?_
                refine g_iload 74 (gd rfl) rfl rfl ?_
                refine g_iload 76 (gd rfl) rfl rfl ?_
                refine g_iastore 77 (gd rfl) rfl (n := 32) rfl (in_ix j42_5 rfl) ?_
                have hI76 := inv_sI (q := 159) (j := y42_5.toNatClampNeg) hIc42 rfl (in_w (-2147483648) 2147483647 j42_4 rfl)
                refine g_aload_n 78 (gd rfl) rfl rfl ?_
                refine g_getA (q2 := 153) 81 (gd rfl) rfl rfl rfl rfl ?_
                refine g_aload_n 82 (gd rfl) rfl rfl ?_
                refine g_getA (q2 := 157) 85 (gd rfl) rfl rfl rfl rfl ?_
                refine g_iload 87 (gd rfl) rfl rfl ?_
                refine g_iaload 88 (gd rfl) rfl (n := 32) rfl (in_ix j42_5 rfl) (fun z87 e87 => ?_)
                have i87 := inv_I hI76 (n := 32) (t := 0) (-1) 159 rfl (in_ix j42_5 rfl) rfl e87
                have i88 : In z87 0 159 := by have h := (tp_u (t := (sI sc42 159 y42_5.toNatClampNeg y32_4)) (y := y42_5) (b := z87) (f := y42_5) q_0 (by (first | have a0 := oa5 j42_4 j32_3 h2 h1 j42_5 | ((first | have a0 := in_u j42_4 | (have a0 := j42_4; unfold In at a0)); (first | have a1 := in_u j32_3 | (have a1 := j32_3; unfold In at a1)); (first | have a2 := in_u h2 | (have a2 := h2; unfold In at a2)); (first | have a3 := in_u h1 | (have a3 := h1; unfold In at a3)); (first | have a4 := in_u j42_5 | (have a4 := j42_5; unfold In at a4)))); omega) (by (first | have a0 := oa5 j42_4 j32_3 h2 h1 j42_5 | ((first | have a0 := in_u j42_4 | (have a0 := j42_4; unfold In at a0)); (first | have a1 := in_u j32_3 | (have a1 := j32_3; unfold In at a1)); (first | have a2 := in_u h2 | (have a2 := h2; unfold In at a2)); (first | have a3 := in_u h1 | (have a3 := h1; unfold In at a3)); (first | have a4 := in_u j42_5 | (have a4 := j42_5; unfold In at a4)))); omega) (by (first | have a0 := oa5 j42_4 j32_3 h2 h1 j42_5 | ((first | have a0 := in_u j42_4 | (have a0 := j42_4; unfold In at a0)); (first | have a1 := in_u j32_3 | (have a1 := j32_3; unfold In at a1)); (first | have a2 := in_u h2 | (have a2 := h2; unfold In at a2)); (first | have a3 := in_u h1 | (have a3 := h1; unfold In at a3)); (first | have a4 := in_u j42_5 | (have a4 := j42_5; unfold In at a4)))); omega) e87 ((sI_p rfl).trans (hFc42.1 157 rfl))); exact ⟨h.1, i87.2⟩
                refine g_iaload 89 (gd rfl) rfl (n := 160) rfl (in_ix i88 rfl) (fun z88 e88 => ?_)
                have i88a := inv_I hI76 (n := 160) (t := 0) 0 31 rfl (in_ix i88 rfl) rfl e88
                have hx88 := ((tp_u (t := (sI sc42 159 y42_5.toNatClampNeg y32_4)) (y := y42_5) (b := z87) (f := z88) q_0 (by (first | have a0 := oa5 j42_4 j32_3 h2 h1 j42_5 | ((first | have a0 := in_u j42_4 | (have a0 := j42_4; unfold In at a0)); (first | have a1 := in_u j32_3 | (have a1 := j32_3; unfold In at a1)); (first | have a2 := in_u h2 | (have a2 := h2; unfold In at a2)); (first | have a3 := in_u h1 | (have a3 := h1; unfold In at a3)); (first | have a4 := in_u j42_5 | (have a4 := j42_5; unfold In at a4)))); omega) (by (first | have a0 := oa5 j42_4 j32_3 h2 h1 j42_5 | ((first | have a0 := in_u j42_4 | (have a0 := j42_4; unfold In at a0)); (first | have a1 := in_u j32_3 | (have a1 := j32_3; unfold In at a1)); (first | have a2 := in_u h2 | (have a2 := h2; unfold In at a2)); (first | have a3 := in_u h1 | (have a3 := h1; unfold In at a3)); (first | have a4 := in_u j42_5 | (have a4 := j42_5; unfold In at a4)))); omega) (by (first | have a0 := oa5 j42_4 j32_3 h2 h1 j42_5 | ((first | have a0 := in_u j42_4 | (have a0 := j42_4; unfold In at a0)); (first | have a1 := in_u j32_3 | (have a1 := j32_3; unfold In at a1)); (first | have a2 := in_u h2 | (have a2 := h2; unfold In at a2)); (first | have a3 := in_u h1 | (have a3 := h1; unfold In at a3)); (first | have a4 := in_u j42_5 | (have a4 := j42_5; unfold In at a4)))); omega) e87 ((sI_p rfl).trans (hFc42.1 157 rfl)))).2 e88 ((sI_p rfl).trans (hFc42.1 153 rfl)); have hx89 : (z88).toInt = (nx s y42_5.toNatClampNeg : Int) := hx88.2 i88a.1; have hy89 := hx88.1
                refine g_istore 91 (gd rfl) rfl (Nat.le_of_ble_eq_true rfl) ?_
                refine g_goto 42 (gd rfl) rfl ?_
                have n42 : (z88).toInt < (x1).toInt := by (first | have a0 := oa6 j42_4 j32_3 h2 h1 j42_5 i88a | ((first | have a0 := in_u j42_4 | (have a0 := j42_4; unfold In at a0)); (first | have a1 := in_u j32_3 | (have a1 := j32_3; unfold In at a1)); (first | have a2 := in_u h2 | (have a2 := h2; unfold In at a2)); (first | have a3 := in_u h1 | (have a3 := h1; unfold In at a3)); (first | have a4 := in_u j42_5 | (have a4 := j42_5; unfold In at a4)); (first | have a5 := in_u i88a | (have a5 := i88a; unfold In at a5)))); omega
                have n42a : 0 ≤ (z88).toInt := by (first | have a0 := oa6 j42_4 j32_3 h2 h1 j42_5 i88a | ((first | have a0 := in_u j42_4 | (have a0 := j42_4; unfold In at a0)); (first | have a1 := in_u j32_3 | (have a1 := j32_3; unfold In at a1)); (first | have a2 := in_u h2 | (have a2 := h2; unfold In at a2)); (first | have a3 := in_u h1 | (have a3 := h1; unfold In at a3)); (first | have a4 := in_u j42_5 | (have a4 := j42_5; unfold In at a4)); (first | have a5 := in_u i88a | (have a5 := i88a; unfold In at a5)))); omega
                have n42b : (y32_3).toInt + (cM ((sI sc42 159 y42_5.toNatClampNeg y32_4).1 158) (x1).toNatClampNeg : Int) ≤ (x1).toInt := by first | exact g42_0 | exact g32_0
                have n42c : ∀ k : Nat, (k : Int) < (x1).toInt → ((sI sc42 159 y42_5.toNatClampNeg y32_4).1 158 k).toInt < (y32_3).toInt := by first | exact g42_1 | exact g32_1
                have n42d : ∀ k : Nat, (k : Int) < (x1).toInt → ((sI sc42 159 y42_5.toNatClampNeg y32_4).1 159 k).toInt < (y32_4).toInt + 1 := by first | (intro k hk; rw [sI_q]; exact up_lt (fun c => g42_2 k hk) (by (first | have a0 := oa6 j42_4 j32_3 h2 h1 j42_5 i88a | ((first | have a0 := in_u j42_4 | (have a0 := j42_4; unfold In at a0)); (first | have a1 := in_u j32_3 | (have a1 := j32_3; unfold In at a1)); (first | have a2 := in_u h2 | (have a2 := h2; unfold In at a2)); (first | have a3 := in_u h1 | (have a3 := h1; unfold In at a3)); (first | have a4 := in_u j42_5 | (have a4 := j42_5; unfold In at a4)); (first | have a5 := in_u i88a | (have a5 := i88a; unfold In at a5)))); omega)) | (intro k hk; have h := g32_2 k hk; (first | have a0 := oa6 j42_4 j32_3 h2 h1 j42_5 i88a | ((first | have a0 := in_u j42_4 | (have a0 := j42_4; unfold In at a0)); (first | have a1 := in_u j32_3 | (have a1 := j32_3; unfold In at a1)); (first | have a2 := in_u h2 | (have a2 := h2; unfold In at a2)); (first | have a3 := in_u h1 | (have a3 := h1; unfold In at a3)); (first | have a4 := in_u j42_5 | (have a4 := j42_5; unfold In at a4)); (first | have a5 := in_u i88a | (have a5 := i88a; unfold In at a5)))); omega)
                have n42e : VC s ((sI sc42 159 y42_5.toNatClampNeg y32_4).1 159) (x1).toInt (x2).toInt (y32_4).toInt (z88).toInt := by first | (rw [sI_q]; exact vc_s g42_3 (by (first | have a0 := oa6 j42_4 j32_3 h2 h1 j42_5 i88a | ((first | have a0 := in_u j42_4 | (have a0 := j42_4; unfold In at a0)); (first | have a1 := in_u j32_3 | (have a1 := j32_3; unfold In at a1)); (first | have a2 := in_u h2 | (have a2 := h2; unfold In at a2)); (first | have a3 := in_u h1 | (have a3 := h1; unfold In at a3)); (first | have a4 := in_u j42_5 | (have a4 := j42_5; unfold In at a4)); (first | have a5 := in_u i88a | (have a5 := i88a; unfold In at a5)))); omega) (by (first | have a0 := oa6 j42_4 j32_3 h2 h1 j42_5 i88a | ((first | have a0 := in_u j42_4 | (have a0 := j42_4; unfold In at a0)); (first | have a1 := in_u j32_3 | (have a1 := j32_3; unfold In at a1)); (first | have a2 := in_u h2 | (have a2 := h2; unfold In at a2)); (first | have a3 := in_u h1 | (have a3 := h1; unfold In at a3)); (first | have a4 := in_u j42_5 | (have a4 := j42_5; unfold In at a4)); (first | have a5 := in_u i88a | (have a5 := i88a; unfold In at a5)))); omega) rfl hx89) | exact vc_0 g32_2
                have m42 : cM ((sI sc42 159 y42_5.toNatClampNeg y32_4).1 159) (x1).toNatClampNeg < k42 := by rw [sI_q]; have hu := up_cm (f := sc42.1 159) (y := y42_5) (b := y32_4) (n := x1.toNatClampNeg) (by rw [← e54]; exact c55) (by (first | have a0 := oa6 j42_4 j32_3 h2 h1 j42_5 i88a | ((first | have a0 := in_u j42_4 | (have a0 := j42_4; unfold In at a0)); (first | have a1 := in_u j32_3 | (have a1 := j32_3; unfold In at a1)); (first | have a2 := in_u h2 | (have a2 := h2; unfold In at a2)); (first | have a3 := in_u h1 | (have a3 := h1; unfold In at a3)); (first | have a4 := in_u j42_5 | (have a4 := j42_5; unfold In at a4)); (first | have a5 := in_u i88a | (have a5 := i88a; unfold In at a5)))); omega) (by show y42_5.toInt.toNat < x1.toInt.toNat; (first | have a0 := oa6 j42_4 j32_3 h2 h1 j42_5 i88a | ((first | have a0 := in_u j42_4 | (have a0 := j42_4; unfold In at a0)); (first | have a1 := in_u j32_3 | (have a1 := j32_3; unfold In at a1)); (first | have a2 := in_u h2 | (have a2 := h2; unfold In at a2)); (first | have a3 := in_u h1 | (have a3 := h1; unfold In at a3)); (first | have a4 := in_u j42_5 | (have a4 := j42_5; unfold In at a4)); (first | have a5 := in_u i88a | (have a5 := i88a; unfold In at a5)))); (first | exact zt_t (by omega) (by omega) | omega)); have hm := mm42; omega
                exact gg_w (by first | exact Nat.le_add_right _ _ | exact gw2 | exact gw3 | exact gwe rfl | exact gwf rfl | exact gwg rfl | exact gwh rfl | omega) (gg_f (gf_cons rfl (gf_cons rfl (gf_cons rfl (gf_cons rfl (gf_cons rfl (gf_cons rfl gf_nil)))))) (ih42  (sI sc42 159 y42_5.toNatClampNeg y32_4) z88 hI76 (fr_sI rfl hFc42) (in_w 0 31 j42_4 rfl) (in_w 0 31 i88a rfl) n42 n42a n42b n42c n42d n42e m42))
      refine g_iload 34 (gd rfl) rfl rfl ?_
      refine g_iload_n 35 (gd rfl) rfl rfl ?_
      refine g_cmp_ge 38 170 (gd rfl) rfl rfl (fun c35 => ?_) (fun c35 => ?_)
      · skip
        have i35 := r_le2 1 32 c35 h1 j32_4 rfl
        refine g_iconst 0 171 (gd rfl) rfl rfl ?_
        refine g_istore 173 (gd rfl) rfl (Nat.le_of_ble_eq_true rfl) ?_
        have n173 : 0 ≤ (y32_3).toInt := by first | exact n32_0 | ((first | have a0 := oa5 h2 h1 i35 j32_3 ((in_c 0 rfl)) | ((first | have a0 := in_u h2 | (have a0 := h2; unfold In at a0)); (first | have a1 := in_u h1 | (have a1 := h1; unfold In at a1)); (first | have a2 := in_u i35 | (have a2 := i35; unfold In at a2)); (first | have a3 := in_u j32_3 | (have a3 := j32_3; unfold In at a3)); (first | have a4 := in_u ((in_c 0 rfl)) | (have a4 := (in_c 0 rfl); unfold In at a4)))); omega)
        have n173a : (y32_3).toInt + (cM (sc32.1 158) (x1).toNatClampNeg : Int) ≤ (x1).toInt := by first | exact n173q | exact g173_0 | exact g32_0
        have n173b : ∀ k : Nat, (k : Int) < (x1).toInt → (sc32.1 158 k).toInt < (y32_3).toInt := by first | exact g32_1 | (first | exact g173_1 | exact g32_1 | (intro k hk; rw [sI_q]; exact up_lt (fun c => by have h := g173_1 k hk; (first | have a0 := oa5 h2 h1 i35 j32_3 ((in_c 0 rfl)) | ((first | have a0 := in_u h2 | (have a0 := h2; unfold In at a0)); (first | have a1 := in_u h1 | (have a1 := h1; unfold In at a1)); (first | have a2 := in_u i35 | (have a2 := i35; unfold In at a2)); (first | have a3 := in_u j32_3 | (have a3 := j32_3; unfold In at a3)); (first | have a4 := in_u ((in_c 0 rfl)) | (have a4 := (in_c 0 rfl); unfold In at a4)))); omega) (by (first | have a0 := oa5 h2 h1 i35 j32_3 ((in_c 0 rfl)) | ((first | have a0 := in_u h2 | (have a0 := h2; unfold In at a0)); (first | have a1 := in_u h1 | (have a1 := h1; unfold In at a1)); (first | have a2 := in_u i35 | (have a2 := i35; unfold In at a2)); (first | have a3 := in_u j32_3 | (have a3 := j32_3; unfold In at a3)); (first | have a4 := in_u ((in_c 0 rfl)) | (have a4 := (in_c 0 rfl); unfold In at a4)))); omega)))
        have n173c : ∀ k : Nat, (k : Int) < ((Int32.ofInt 0)).toInt → 0 ≤ (sc32.1 158 k).toInt := by first | (intro k hk; exfalso; have h0 : (Int32.ofInt 0).toInt = 0 := rfl; omega) | (intro k hk; have e4 : y173_4.toNatClampNeg = y173_4.toInt.toNat := rfl; first | (by_cases c : (k : Int) < y173_4.toInt; exact g173_2 k c; (rw [show k = y173_4.toNatClampNeg from (by (first | have a0 := oa5 h2 h1 i35 j32_3 ((in_c 0 rfl)) | ((first | have a0 := in_u h2 | (have a0 := h2; unfold In at a0)); (first | have a1 := in_u h1 | (have a1 := h1; unfold In at a1)); (first | have a2 := in_u i35 | (have a2 := i35; unfold In at a2)); (first | have a3 := in_u j32_3 | (have a3 := j32_3; unfold In at a3)); (first | have a4 := in_u ((in_c 0 rfl)) | (have a4 := (in_c 0 rfl); unfold In at a4)))); omega), ← e185]; exact c186)) | (rw [sI_q]; unfold upd; by_cases c : k = y173_4.toNatClampNeg; (rw [if_pos c]; (first | have a0 := oa5 h2 h1 i35 j32_3 ((in_c 0 rfl)) | ((first | have a0 := in_u h2 | (have a0 := h2; unfold In at a0)); (first | have a1 := in_u h1 | (have a1 := h1; unfold In at a1)); (first | have a2 := in_u i35 | (have a2 := i35; unfold In at a2)); (first | have a3 := in_u j32_3 | (have a3 := j32_3; unfold In at a3)); (first | have a4 := in_u ((in_c 0 rfl)) | (have a4 := (in_c 0 rfl); unfold In at a4)))); omega); (rw [if_neg c]; exact g173_2 k (by (first | have a0 := oa5 h2 h1 i35 j32_3 ((in_c 0 rfl)) | ((first | have a0 := in_u h2 | (have a0 := h2; unfold In at a0)); (first | have a1 := in_u h1 | (have a1 := h1; unfold In at a1)); (first | have a2 := in_u i35 | (have a2 := i35; unfold In at a2)); (first | have a3 := in_u j32_3 | (have a3 := j32_3; unfold In at a3)); (first | have a4 := in_u ((in_c 0 rfl)) | (have a4 := (in_c 0 rfl); unfold In at a4)))); omega))))
        exact gg_w (by first | exact Nat.le_add_right _ _ | exact gw2 | exact gw3 | exact gwe rfl | exact gwf rfl | exact gwg rfl | exact gwh rfl | omega) (gg_f (gf_cons rfl (gf_cons rfl (gf_cons rfl (gf_cons rfl (gf_cons rfl gf_nil))))) (ct173 33 sc32 y32_3 (Int32.ofInt 0) hIc32 hFc32 (in_w 0 32 j32_3 rfl) (in_w 0 32 (in_c 0 rfl) rfl) n173 n173a n173b n173c (m_in 33 (in_w 0 32 (in_c 0 rfl) rfl) rfl)))
      · skip
        have i35 := r_lt1 0 31 c35 j32_4 h1 rfl
        refine g_iload 40 (gd rfl) rfl rfl ?_
        refine g_istore 42 (gd rfl) rfl (Nat.le_of_ble_eq_true rfl) ?_
        have n42 : (y32_4).toInt < (x1).toInt := by (first | have a0 := oa4 h2 h1 i35 j32_3 | ((first | have a0 := in_u h2 | (have a0 := h2; unfold In at a0)); (first | have a1 := in_u h1 | (have a1 := h1; unfold In at a1)); (first | have a2 := in_u i35 | (have a2 := i35; unfold In at a2)); (first | have a3 := in_u j32_3 | (have a3 := j32_3; unfold In at a3)))); omega
        have n42a : 0 ≤ (y32_4).toInt := by (first | have a0 := oa4 h2 h1 i35 j32_3 | ((first | have a0 := in_u h2 | (have a0 := h2; unfold In at a0)); (first | have a1 := in_u h1 | (have a1 := h1; unfold In at a1)); (first | have a2 := in_u i35 | (have a2 := i35; unfold In at a2)); (first | have a3 := in_u j32_3 | (have a3 := j32_3; unfold In at a3)))); omega
        have n42b : (y32_3).toInt + (cM (sc32.1 158) (x1).toNatClampNeg : Int) ≤ (x1).toInt := by first | exact g42_0 | exact g32_0
        have n42c : ∀ k : Nat, (k : Int) < (x1).toInt → (sc32.1 158 k).toInt < (y32_3).toInt := by first | exact g42_1 | exact g32_1
        have n42d : ∀ k : Nat, (k : Int) < (x1).toInt → (sc32.1 159 k).toInt < (y32_4).toInt + 1 := by first | (intro k hk; rw [sI_q]; exact up_lt (fun c => g42_2 k hk) (by (first | have a0 := oa4 h2 h1 i35 j32_3 | ((first | have a0 := in_u h2 | (have a0 := h2; unfold In at a0)); (first | have a1 := in_u h1 | (have a1 := h1; unfold In at a1)); (first | have a2 := in_u i35 | (have a2 := i35; unfold In at a2)); (first | have a3 := in_u j32_3 | (have a3 := j32_3; unfold In at a3)))); omega)) | (intro k hk; have h := g32_2 k hk; (first | have a0 := oa4 h2 h1 i35 j32_3 | ((first | have a0 := in_u h2 | (have a0 := h2; unfold In at a0)); (first | have a1 := in_u h1 | (have a1 := h1; unfold In at a1)); (first | have a2 := in_u i35 | (have a2 := i35; unfold In at a2)); (first | have a3 := in_u j32_3 | (have a3 := j32_3; unfold In at a3)))); omega)
        have n42e : VC s (sc32.1 159) (x1).toInt (x2).toInt (y32_4).toInt (y32_4).toInt := by first | (rw [sI_q]; exact vc_s g42_3 (by (first | have a0 := oa4 h2 h1 i35 j32_3 | ((first | have a0 := in_u h2 | (have a0 := h2; unfold In at a0)); (first | have a1 := in_u h1 | (have a1 := h1; unfold In at a1)); (first | have a2 := in_u i35 | (have a2 := i35; unfold In at a2)); (first | have a3 := in_u j32_3 | (have a3 := j32_3; unfold In at a3)))); omega) (by (first | have a0 := oa4 h2 h1 i35 j32_3 | ((first | have a0 := in_u h2 | (have a0 := h2; unfold In at a0)); (first | have a1 := in_u h1 | (have a1 := h1; unfold In at a1)); (first | have a2 := in_u i35 | (have a2 := i35; unfold In at a2)); (first | have a3 := in_u j32_3 | (have a3 := j32_3; unfold In at a3)))); omega) rfl hx89) | exact vc_0 g32_2
        have m42 : cM (sc32.1 159) (x1).toNatClampNeg < 33 := by have hc := cM_le (sc32.1 159) (x1).toNatClampNeg; have hmn : x1.toNatClampNeg = x1.toInt.toNat := rfl; (first | have a0 := oa4 h2 h1 i35 j32_3 | ((first | have a0 := in_u h2 | (have a0 := h2; unfold In at a0)); (first | have a1 := in_u h1 | (have a1 := h1; unfold In at a1)); (first | have a2 := in_u i35 | (have a2 := i35; unfold In at a2)); (first | have a3 := in_u j32_3 | (have a3 := j32_3; unfold In at a3)))); omega
        exact gg_w (by first | exact Nat.le_add_right _ _ | exact gw2 | exact gw3 | exact gwe rfl | exact gwf rfl | exact gwg rfl | exact gwh rfl | omega) (gg_f (gf_cons rfl (gf_cons rfl (gf_cons rfl (gf_cons rfl (gf_cons rfl (gf_cons rfl gf_nil)))))) (ct42 (33) sc32 y32_4 hIc32 hFc32 (in_w 0 31 i35 rfl) (in_w 0 31 i35 rfl) n42 n42a n42b n42c n42d n42e m42))
  have ct2 : ∀ (k2 : Nat) (sc2 : GS) (y2_3 : Int32), Inv sc2 → Fr fm_364 s sc2 → (In y2_3 0 32) → (∀ k : Nat, (k : Int) < (y2_3).toInt → (sc2.1 158 k).toInt < 0 ∧ (sc2.1 159 k).toInt < 0) → 32 - (y2_3).toInt < (k2 : Int) → GG Z (d - 1) 364 post (gx xp) (2138469 + k2 * 900) 2 (fun j => xlook j [(0, .ref (A 109)), (1, .int x1), (2, .int x2), (3, .int y2_3)]) [] (WW Z A sc2 ++ ex) 0 0 := by
    intro k2
    induction k2 with
    | zero => intro sc2 y2_3 hIc2 hFc2 j2_3 g2_0 mm2; exact m_no mm2 j2_3 rfl
    | succ k2 ih2 =>
      intro sc2 y2_3 hIc2 hFc2 j2_3 g2_0 mm2
      refine gg_w (M := 2138469 + k2 * 900 + 900) gws ?_
      refine g_iload_n 3 (gd rfl) rfl rfl ?_
      refine g_iload_n 4 (gd rfl) rfl rfl ?_
      refine g_cmp_ge 7 27 (gd rfl) rfl rfl (fun c4 => ?_) (fun c4 => ?_)
      · skip
        have i4 := r_le2 1 32 c4 h1 j2_3 rfl
        refine g_iconst 0 28 (gd rfl) rfl rfl ?_
        refine g_istore_n 29 (gd rfl) rfl (Nat.le_of_ble_eq_true rfl) ?_
        refine g_iconst 0 30 (gd rfl) rfl rfl ?_
        refine g_istore 32 (gd rfl) rfl (Nat.le_of_ble_eq_true rfl) ?_
        have n32 : 0 ≤ ((Int32.ofInt 0)).toInt := by (first | have a0 := oa4 h2 h1 i4 ((in_c 0 rfl)) | ((first | have a0 := in_u h2 | (have a0 := h2; unfold In at a0)); (first | have a1 := in_u h1 | (have a1 := h1; unfold In at a1)); (first | have a2 := in_u i4 | (have a2 := i4; unfold In at a2)); (first | have a3 := in_u ((in_c 0 rfl)) | (have a3 := (in_c 0 rfl); unfold In at a3)))); omega
        have n32a : ((Int32.ofInt 0)).toInt + (cM (sc2.1 158) (x1).toNatClampNeg : Int) ≤ (x1).toInt := by first | exact g42_0 | (rcases g126_0 with hg | hg; (exfalso; rw [← e132] at hg; have hz := c133; omega); (first | have a0 := oa4 h2 h1 i4 ((in_c 0 rfl)) | ((first | have a0 := in_u h2 | (have a0 := h2; unfold In at a0)); (first | have a1 := in_u h1 | (have a1 := h1; unfold In at a1)); (first | have a2 := in_u i4 | (have a2 := i4; unfold In at a2)); (first | have a3 := in_u ((in_c 0 rfl)) | (have a3 := (in_c 0 rfl); unfold In at a3)))); omega) | (have hc := cM_le (sc2.1 158) (x1).toNatClampNeg; have h0 : (Int32.ofInt 0).toInt = 0 := rfl; have hmn : ((x1).toNatClampNeg : Int) = (x1).toInt := (by show (((x1).toInt.toNat : Nat) : Int) = _; (first | have a0 := oa4 h2 h1 i4 ((in_c 0 rfl)) | ((first | have a0 := in_u h2 | (have a0 := h2; unfold In at a0)); (first | have a1 := in_u h1 | (have a1 := h1; unfold In at a1)); (first | have a2 := in_u i4 | (have a2 := i4; unfold In at a2)); (first | have a3 := in_u ((in_c 0 rfl)) | (have a3 := (in_c 0 rfl); unfold In at a3)))); omega); omega)
        have n32b : ∀ k : Nat, (k : Int) < (x1).toInt → (sc2.1 158 k).toInt < ((Int32.ofInt 0)).toInt := by first | exact g42_1 | (intro k hk; have h := g126_1 k hk; (first | have a0 := oa4 h2 h1 i4 ((in_c 0 rfl)) | ((first | have a0 := in_u h2 | (have a0 := h2; unfold In at a0)); (first | have a1 := in_u h1 | (have a1 := h1; unfold In at a1)); (first | have a2 := in_u i4 | (have a2 := i4; unfold In at a2)); (first | have a3 := in_u ((in_c 0 rfl)) | (have a3 := (in_c 0 rfl); unfold In at a3)))); omega) | exact fun k hk => (g2_0 k (by (first | have a0 := oa4 h2 h1 i4 ((in_c 0 rfl)) | ((first | have a0 := in_u h2 | (have a0 := h2; unfold In at a0)); (first | have a1 := in_u h1 | (have a1 := h1; unfold In at a1)); (first | have a2 := in_u i4 | (have a2 := i4; unfold In at a2)); (first | have a3 := in_u ((in_c 0 rfl)) | (have a3 := (in_c 0 rfl); unfold In at a3)))); omega)).1
        have n32c : ∀ k : Nat, (k : Int) < (x1).toInt → (sc2.1 159 k).toInt < ((Int32.ofInt 0)).toInt := by first | (intro k hk; have h := g42_2 k hk; (first | have a0 := oa4 h2 h1 i4 ((in_c 0 rfl)) | ((first | have a0 := in_u h2 | (have a0 := h2; unfold In at a0)); (first | have a1 := in_u h1 | (have a1 := h1; unfold In at a1)); (first | have a2 := in_u i4 | (have a2 := i4; unfold In at a2)); (first | have a3 := in_u ((in_c 0 rfl)) | (have a3 := (in_c 0 rfl); unfold In at a3)))); omega) | (intro k hk; have h := g126_2 k hk; (first | have a0 := oa4 h2 h1 i4 ((in_c 0 rfl)) | ((first | have a0 := in_u h2 | (have a0 := h2; unfold In at a0)); (first | have a1 := in_u h1 | (have a1 := h1; unfold In at a1)); (first | have a2 := in_u i4 | (have a2 := i4; unfold In at a2)); (first | have a3 := in_u ((in_c 0 rfl)) | (have a3 := (in_c 0 rfl); unfold In at a3)))); omega) | exact fun k hk => (g2_0 k (by (first | have a0 := oa4 h2 h1 i4 ((in_c 0 rfl)) | ((first | have a0 := in_u h2 | (have a0 := h2; unfold In at a0)); (first | have a1 := in_u h1 | (have a1 := h1; unfold In at a1)); (first | have a2 := in_u i4 | (have a2 := i4; unfold In at a2)); (first | have a3 := in_u ((in_c 0 rfl)) | (have a3 := (in_c 0 rfl); unfold In at a3)))); omega)).2
        exact gg_w (by first | exact Nat.le_add_right _ _ | exact gw2 | exact gw3 | exact gwe rfl | exact gwf rfl | exact gwg rfl | exact gwh rfl | omega) (gg_f (gf_cons rfl (gf_cons rfl (gf_cons rfl (gf_cons rfl (gf_cons rfl gf_nil))))) (ct32 33 sc2 (Int32.ofInt 0) (Int32.ofInt 0) hIc2 hFc2 (in_w 0 32 (in_c 0 rfl) rfl) (in_w 0 32 (in_c 0 rfl) rfl) n32 n32a n32b n32c (m_in 33 (in_w 0 32 (in_c 0 rfl) rfl) rfl)))
      · skip
        have i4 := r_lt1 0 31 c4 j2_3 h1 rfl
        refine g_aload_n 8 (gd rfl) rfl rfl ?_
        refine g_getA (q2 := 158) 11 (gd rfl) rfl rfl rfl rfl ?_
        refine g_iload_n 12 (gd rfl) rfl rfl ?_
        refine g_iconst (-1) 13 (gd rfl) rfl rfl ?_
        refine g_iastore 14 (gd rfl) rfl (n := 32) rfl (in_ix i4 rfl) ?_
        have hI13 := inv_sI (q := 158) (j := y2_3.toNatClampNeg) hIc2 rfl (in_w (-2147483648) 2147483647 (in_c (-1) rfl) rfl)
        refine g_aload_n 15 (gd rfl) rfl rfl ?_
        refine g_getA (q2 := 159) 18 (gd rfl) rfl rfl rfl rfl ?_
        refine g_iload_n 19 (gd rfl) rfl rfl ?_
        refine g_iconst (-1) 20 (gd rfl) rfl rfl ?_
        refine g_iastore 21 (gd rfl) rfl (n := 32) rfl (in_ix i4 rfl) ?_
        have hI20 := inv_sI (q := 159) (j := y2_3.toNatClampNeg) hI13 rfl (in_w (-2147483648) 2147483647 (in_c (-1) rfl) rfl)
        refine g_iinc 24 (gd rfl) rfl rfl (Nat.le_of_ble_eq_true rfl) (fun z21 e21 => ?_)
        have i21 := in_add 1 32 e21 i4 (in_c 1 rfl) rfl rfl
        refine g_goto 2 (gd rfl) rfl ?_
        have n2 : ∀ k : Nat, (k : Int) < (z21).toInt → ((sI (sI sc2 158 y2_3.toNatClampNeg (Int32.ofInt (-1))) 159 y2_3.toNatClampNeg (Int32.ofInt (-1))).1 158 k).toInt < 0 ∧ ((sI (sI sc2 158 y2_3.toNatClampNeg (Int32.ofInt (-1))) 159 y2_3.toNatClampNeg (Int32.ofInt (-1))).1 159 k).toInt < 0 := by first | (intro k hk; exfalso; have h0 : (Int32.ofInt 0).toInt = 0 := rfl; omega) | (intro k hk; rw [sI_q, sI_p rfl, sI_q]; have e3 : y2_3.toNatClampNeg = y2_3.toInt.toNat := rfl; exact ⟨up_lt (fun c => (g2_0 k (by (first | have a0 := oa4 h2 h1 i4 i21 | ((first | have a0 := in_u h2 | (have a0 := h2; unfold In at a0)); (first | have a1 := in_u h1 | (have a1 := h1; unfold In at a1)); (first | have a2 := in_u i4 | (have a2 := i4; unfold In at a2)); (first | have a3 := in_u i21 | (have a3 := i21; unfold In at a3)))); have a4 := t_add e21 i4 (in_c 1 rfl) rfl; (first | have a5 := in_u ((in_c 1 rfl)) | (have a5 := (in_c 1 rfl); unfold In at a5)); omega)).1) (by decide), up_lt (fun c => (g2_0 k (by (first | have a0 := oa4 h2 h1 i4 i21 | ((first | have a0 := in_u h2 | (have a0 := h2; unfold In at a0)); (first | have a1 := in_u h1 | (have a1 := h1; unfold In at a1)); (first | have a2 := in_u i4 | (have a2 := i4; unfold In at a2)); (first | have a3 := in_u i21 | (have a3 := i21; unfold In at a3)))); have a4 := t_add e21 i4 (in_c 1 rfl) rfl; (first | have a5 := in_u ((in_c 1 rfl)) | (have a5 := (in_c 1 rfl); unfold In at a5)); omega)).2) (by decide)⟩)
        exact gg_w (by first | exact Nat.le_add_right _ _ | exact gw2 | exact gw3 | exact gwe rfl | exact gwf rfl | exact gwg rfl | exact gwh rfl | omega) (gg_f (gf_cons rfl (gf_cons rfl (gf_cons rfl (gf_cons rfl gf_nil)))) (ih2 (sI (sI sc2 158 y2_3.toNatClampNeg (Int32.ofInt (-1))) 159 y2_3.toNatClampNeg (Int32.ofInt (-1))) z21 hI20 (fr_sI rfl (fr_sI rfl hFc2)) (in_w 0 32 i21 rfl) n2 (m_up mm2 (t_add e21 i4 (in_c 1 rfl) rfl) (in_w 1 1 (in_c 1 rfl) rfl))))
  refine g_enter2 (k := 364) (N := 2169069) (by first | exact dq1 hd rfl | exact dq0 hd rfl | exact dq2 hd rfl | exact dq3 hd rfl | omega) rfl (Nat.le_of_ble_eq_true rfl) ?_
  refine g_iconst 0 1 (gd rfl) rfl rfl ?_
  refine g_istore_n 2 (gd rfl) rfl (Nat.le_of_ble_eq_true rfl) ?_
  have n2 : ∀ k : Nat, (k : Int) < ((Int32.ofInt 0)).toInt → (s.1 158 k).toInt < 0 ∧ (s.1 159 k).toInt < 0 := by first | (intro k hk; exfalso; have h0 : (Int32.ofInt 0).toInt = 0 := rfl; omega) | (intro k hk; rw [sI_q, sI_p rfl, sI_q]; have e3 : y2_3.toNatClampNeg = y2_3.toInt.toNat := rfl; exact ⟨up_lt (fun c => (g2_0 k (by (first | have a0 := oa3 h2 h1 ((in_c 0 rfl)) | ((first | have a0 := in_u h2 | (have a0 := h2; unfold In at a0)); (first | have a1 := in_u h1 | (have a1 := h1; unfold In at a1)); (first | have a2 := in_u ((in_c 0 rfl)) | (have a2 := (in_c 0 rfl); unfold In at a2)))); omega)).1) (by decide), up_lt (fun c => (g2_0 k (by (first | have a0 := oa3 h2 h1 ((in_c 0 rfl)) | ((first | have a0 := in_u h2 | (have a0 := h2; unfold In at a0)); (first | have a1 := in_u h1 | (have a1 := h1; unfold In at a1)); (first | have a2 := in_u ((in_c 0 rfl)) | (have a2 := (in_c 0 rfl); unfold In at a2)))); omega)).2) (by decide)⟩)
  exact gg_w (by first | exact Nat.le_of_ble_eq_true rfl | omega) (gg_f (gf_cons rfl (gf_cons rfl (gf_cons rfl (gf_cons rfl gf_nil)))) (ct2 33 s (Int32.ofInt 0) hI fr_rf (in_w 0 32 (in_c 0 rfl) rfl) n2 (m_in 33 (in_w 0 32 (in_c 0 rfl) rfl) rfl)))

def fm_305 : FM := ([110, 112], [], [], [])
/-- GraphHouseModel.isFirstSort -/
theorem k_359 {Z : AmZ} {A : Nat → Nat} {s : GS} {ex : va_W} {d : Nat} {X : AmX} {x1 : Int32} (hd : 1 ≤ d) (hI : Inv s) (h1 : In x1 0 31) : GC Z d 359 [.ref (A 109), .int x1] (WW Z A s ++ ex) 0 0 (fun v u => ∃ z : Int32, v = some (.int z) ∧ u = WW Z A s ++ ex ∧ In z 0 1 ∧ (((z).toInt ≠ 0 ↔ FSQ s (x1).toNatClampNeg))) X := by
  intro post xp hP hX
  obtain ⟨u_109_18, e_109_18⟩ : ∃ w, w = s.2.2.1 109 18 := ⟨_, rfl⟩
  have ro_109_18 := inv_F hI 0 1 rfl e_109_18
  refine g_enter2 (k := 359) (N := 900) (by first | exact dq1 hd rfl | exact dq0 hd rfl | exact dq2 hd rfl | exact dq3 hd rfl | omega) rfl (Nat.le_of_ble_eq_true rfl) ?_
  refine g_aload_n 1 (gd rfl) rfl rfl ?_
  refine g_getA (q2 := 111) 4 (gd rfl) rfl rfl rfl rfl ?_
  refine g_bipush 32 6 (gd rfl) rfl rfl ?_
  refine g_aload_n 7 (gd rfl) rfl rfl ?_
  refine g_getI 10 (gd rfl) rfl rfl rfl (fun z7 e7 => ?_)
  have q7 : u_109_18 = z7 := (e_109_18).trans e7.symm
  subst q7
  refine g_imul 11 (gd rfl) rfl (fun z10 e10 => ?_)
  have i10 := in_mulc 32 0 32 (Or.inl e10) ro_109_18 rfl rfl
  refine g_iload_n 12 (gd rfl) rfl rfl ?_
  refine g_iadd 13 (gd rfl) rfl (fun z12 e12 => ?_)
  have i12 := in_add 0 63 e12 i10 h1 rfl rfl
  refine g_iaload 14 (gd rfl) rfl (n := 96) rfl (in_ix i12 rfl) (fun z13 e13 => ?_)
  have i13 := inv_I hI (n := 96) (t := 0) 0 25 rfl (in_ix i12 rfl) rfl e13
  refine g_bipush 13 16 (gd rfl) rfl rfl ?_
  refine g_cmp_ge 19 23 (gd rfl) rfl rfl (fun c16 => ?_) (fun c16 => ?_)
  · skip
    have i16 := r_le2 13 25 c16 (in_c 13 rfl) i13 rfl
    refine g_iconst 0 24 (gd rfl) rfl rfl ?_
    have n24 : (((Int32.ofInt 0)).toInt ≠ 0 ↔ FSQ s (x1).toNatClampNeg) := by have hx : 32 * (s.2.2.1 109 18).toNatClampNeg + x1.toNatClampNeg = z12.toNatClampNeg := (by rw [← (show u_109_18 = s.2.2.1 109 18 from e_109_18)]; show 32 * u_109_18.toInt.toNat + x1.toInt.toNat = z12.toInt.toNat; (first | have a0 := oa3 ro_109_18 h1 i12 | ((first | have a0 := in_u ro_109_18 | (have a0 := ro_109_18; unfold In at a0)); (first | have a1 := in_u h1 | (have a1 := h1; unfold In at a1)); (first | have a2 := in_u i12 | (have a2 := i12; unfold In at a2)))); have a3 := t_add e12 i10 h1 rfl; (first | have a4 := in_u i10 | (have a4 := i10; unfold In at a4)); have a5 := (t_mulc 32 (Or.inl e10) ro_109_18 rfl).1; omega); unfold FSQ; rw [hx, ← e13]; have h13 : (Int32.ofInt 13).toInt = 13 := rfl; have h := c16; first | exact ⟨fun _ => by omega, fun _ => by decide⟩ | exact ⟨fun q => absurd (by decide) q, fun q => by omega⟩
    exact g_ireturn (gd rfl) rfl (nb01 (in_w 0 1 (in_c 0 rfl) rfl)) (hP _ _ ⟨(Int32.ofInt 0), rfl, rfl, in_w 0 1 (in_c 0 rfl) rfl, n24⟩)
  · skip
    have i16 := r_lt1 0 12 c16 i13 (in_c 13 rfl) rfl
    refine g_iconst 1 20 (gd rfl) rfl rfl ?_
    refine g_goto 24 (gd rfl) rfl ?_
    have n24 : (((Int32.ofInt 1)).toInt ≠ 0 ↔ FSQ s (x1).toNatClampNeg) := by have hx : 32 * (s.2.2.1 109 18).toNatClampNeg + x1.toNatClampNeg = z12.toNatClampNeg := (by rw [← (show u_109_18 = s.2.2.1 109 18 from e_109_18)]; show 32 * u_109_18.toInt.toNat + x1.toInt.toNat = z12.toInt.toNat; (first | have a0 := oa3 ro_109_18 h1 i12 | ((first | have a0 := in_u ro_109_18 | (have a0 := ro_109_18; unfold In at a0)); (first | have a1 := in_u h1 | (have a1 := h1; unfold In at a1)); (first | have a2 := in_u i12 | (have a2 := i12; unfold In at a2)))); have a3 := t_add e12 i10 h1 rfl; (first | have a4 := in_u i10 | (have a4 := i10; unfold In at a4)); have a5 := (t_mulc 32 (Or.inl e10) ro_109_18 rfl).1; omega); unfold FSQ; rw [hx, ← e13]; have h13 : (Int32.ofInt 13).toInt = 13 := rfl; have h := c16; first | exact ⟨fun _ => by omega, fun _ => by decide⟩ | exact ⟨fun q => absurd (by decide) q, fun q => by omega⟩
    exact g_ireturn (gd rfl) rfl (nb01 (in_w 0 1 (in_c 1 rfl) rfl)) (hP _ _ ⟨(Int32.ofInt 1), rfl, rfl, in_w 0 1 (in_c 1 rfl) rfl, n24⟩)
end
