/-! methods, by vc.py -/
def fm_356 : FM := ([148], [149], [], [])
/-- GraphHouseModel.cheapest -/
theorem k_356 {Z : AmZ} {A : Nat → Nat} {s : GS} {ex : va_W} {d : Nat} {X : AmX} {x1 : Int32} (hd : 1 ≤ d) (hI : Inv s) (h1 : In x1 0 31) (q_0 : CP s) (q_1 : (x1).toInt < (s.2.2.1 109 20).toInt) : GC Z d 356 [.ref (A 109), .int x1] (WW Z A s ++ ex) 0 0 (fun v u => ∃ t : GS, Inv t ∧ Fr fm_356 s t ∧ v = none ∧ u = WW Z A t ++ ex ∧ (CHE t (x1).toInt)) X := by
  intro post xp hP hX
  obtain ⟨u_109_19, e_109_19⟩ : ∃ w, w = s.2.2.1 109 19 := ⟨_, rfl⟩
  have ro_109_19 := inv_F hI 0 160 rfl e_109_19
  obtain ⟨u_109_20, e_109_20⟩ : ∃ w, w = s.2.2.1 109 20 := ⟨_, rfl⟩
  have ro_109_20 := inv_F hI 0 32 rfl e_109_20
  have ct50 : ∀ (k50 : Nat) (sc50 : GS) (y50_2 : Int32), Inv sc50 → Fr fm_356 s sc50 → (In y50_2 0 1) → (CI s (x1).toInt sc50) → ((y50_2).toInt = 0 → CLQ s sc50 160) → 2 * mq s (x1).toInt sc50 + (y50_2).toInt.toNat < k50 → GG Z (d - 1) 356 post (gx xp) (1 + k50 * 439525) 50 (fun j => xlook j [(0, .ref (A 109)), (1, .int x1), (2, .int y50_2)]) [] (WW Z A sc50 ++ ex) 0 0 := by
    intro k50
    induction k50 with
    | zero => intro sc50 y50_2 hIc50 hFc50 j50_2 g50_0 g50_1 mm50; exact absurd mm50 (Nat.not_lt_zero _)
    | succ k50 ih50 =>
      intro sc50 y50_2 hIc50 hFc50 j50_2 g50_0 g50_1 mm50
      refine gg_w (M := 1 + k50 * 439525 + 439525) (by omega) ?_
      have ct58 : ∀ (k58 : Nat) (sc58 : GS) (y58_2 : Int32) (y58_3 : Int32), Inv sc58 → Fr fm_356 s sc58 → (In y58_2 0 1) → (In y58_3 0 160) → (WK s (x1).toInt (mq s (x1).toInt sc50) sc58 (y58_2).toInt (y58_3).toNatClampNeg) → (y50_2.toInt = 1) → 160 - (y58_3).toInt < (k58 : Int) → GG Z (d - 1) 356 post (gx xp) (1 + k50 * 439525 + 1 + k58 * 2702) 58 (fun j => xlook j [(0, .ref (A 109)), (1, .int x1), (2, .int y58_2), (3, .int y58_3)]) [] (WW Z A sc58 ++ ex) 0 0 := by
        intro k58
        induction k58 with
        | zero => intro sc58 y58_2 y58_3 hIc58 hFc58 j58_2 j58_3 g58_0 g58_1 mm58; exact m_no mm58 j58_3 rfl
        | succ k58 ih58 =>
          intro sc58 y58_2 y58_3 hIc58 hFc58 j58_2 j58_3 g58_0 g58_1 mm58
          refine gg_w (M := 1 + k50 * 439525 + 1 + k58 * 2702 + 2702) (by omega) ?_
          have ct324 : ∀ (sc324 : GS) (y324_2 : Int32) (y324_4 : Int32), Inv sc324 → Fr fm_356 s sc324 → (In y324_2 0 1) → (In y58_3 0 159) → (In y324_4 0 400) → (WK s (x1).toInt (mq s (x1).toInt sc50) sc324 (y324_2).toInt ((y58_3).toNatClampNeg + 1)) → GG Z (d - 1) 356 post (gx xp) (1 + k50 * 439525 + 1 + k58 * 2702 + 901) 324 (fun j => xlook j [(0, .ref (A 109)), (1, .int x1), (2, .int y324_2), (3, .int y58_3), (4, .int y324_4)]) [] (WW Z A sc324 ++ ex) 0 0 := by
            intro sc324 y324_2 y324_4 hIc324 hFc324 j324_2 j324_3 j324_4 g324_0
            refine g_iinc 327 (gd rfl) rfl rfl (Nat.le_of_ble_eq_true rfl) (fun z324 e324 => ?_)
            have i324 := in_add 1 160 e324 j324_3 (in_c 1 rfl) rfl rfl
            refine g_goto 58 (gd rfl) rfl ?_
            have n58 : WK s (x1).toInt (mq s (x1).toInt sc50) sc324 (y324_2).toInt (z324).toNatClampNeg := by first | exact wk_0 g50_0 | (rw [show (z324).toNatClampNeg = y58_3.toNatClampNeg + 1 from (by show z324.toInt.toNat = y58_3.toInt.toNat + 1; have a0 := j324_3; unfold In at a0; have a1 := h1; unfold In at a1; have a2 := ro_109_20; unfold In at a2; have a3 := ro_109_19; unfold In at a3; have a4 := j324_4; unfold In at a4; have a5 := j324_2; unfold In at a5; have a6 := i324; unfold In at a6; have a7 := t_add e324 j324_3 (in_c 1 rfl) rfl; have a8 := (in_c 1 rfl); unfold In at a8; omega)]; exact g324_0)
            have n58a : y50_2.toInt = 1 := by first | exact g58_1 | (have hj := j50_2; unfold In at hj; have hc := c51; omega)
            exact gg_w (by omega) (gg_f (gf_cons rfl (gf_cons rfl (gf_cons rfl (gf_cons rfl gf_nil)))) (ih58 sc324 y324_2 z324 hIc324 hFc324 (in_w 0 1 j324_2 rfl) (in_w 0 160 i324 rfl) n58 n58a (m_up mm58 (t_add e324 j324_3 (in_c 1 rfl) rfl) (in_w 1 1 (in_c 1 rfl) rfl))))
          have ct205 : ∀ (sc205 : GS) (y205_2 : Int32) (y205_4 : Int32), Inv sc205 → Fr fm_356 s sc205 → (In y205_2 0 1) → (In y58_3 0 159) → (In y205_4 0 400) → ((y205_4).toInt = (u_109_19).toInt + (y58_3).toInt) → (WK s (x1).toInt (mq s (x1).toInt sc50) sc205 (y205_2).toInt (y58_3).toNatClampNeg) → ((s.1 112 (y205_4).toNatClampNeg).toInt ≠ 0) → ((y205_2).toInt = 0 → FWQ s sc205 (y58_3).toNatClampNeg) → GG Z (d - 1) 356 post (gx xp) (1 + k50 * 439525 + 1 + k58 * 2702 + 1802) 205 (fun j => xlook j [(0, .ref (A 109)), (1, .int x1), (2, .int y205_2), (3, .int y58_3), (4, .int y205_4)]) [] (WW Z A sc205 ++ ex) 0 0 := by
            intro sc205 y205_2 y205_4 hIc205 hFc205 j205_2 j205_3 j205_4 n205_0 g205_0 g205_1 g205_2
            refine g_aload_n 206 (gd rfl) rfl rfl ?_
            refine g_getA (q2 := 147) 209 (gd rfl) rfl rfl rfl rfl ?_
            refine g_iload_n 210 (gd rfl) rfl rfl ?_
            refine g_laload 211 (gd rfl) rfl (n := 160) rfl (in_ix j205_3 rfl) (fun z210 e210 => ?_)
            refine g_lconst 0 212 (gd rfl) rfl rfl ?_
            refine g_lcmp 213 (gd rfl) rfl (fun z212 e212 => ?_)
            have i212 := lc_in e212
            refine g_if_le 216 324 (gd rfl) rfl rfl (fun c213 => ?_) (fun c213 => ?_)
            · skip
              have i213 := z_le (-1) 0 c213 i212 rfl
              have c213a := lc_le e212 c213
              have i213a := lr_le1 (-9223372036854775808) 0 c213a (l_rng z210) (l_c 0 rfl) rfl
              have n324 : WK s (x1).toInt (mq s (x1).toInt sc50) sc205 (y205_2).toInt ((y58_3).toNatClampNeg + 1) := by exact wk_bw g205_0 g205_2 (fun h0 _ => by exfalso; rw [← hFc205.2.1 147 rfl, ← e210] at h0; have hc := i213a.2; omega)
              exact gg_w (by omega) (gg_f (gf_cons rfl (gf_cons rfl (gf_cons rfl (gf_cons rfl (gf_cons rfl gf_nil))))) (ct324 sc205 y205_2 y205_4 hIc205 hFc205 (in_w 0 1 j205_2 rfl) (in_w 0 159 j205_3 rfl) (in_w 0 400 j205_4 rfl) n324))
            · skip
              have i213 := z_gt 1 1 c213 i212 rfl
              have c213a := lc_gt e212 c213
              have i213a := lr_lt2 1 9223372036854775807 c213a (l_c 0 rfl) (l_rng z210) rfl
              refine g_aload_n 217 (gd rfl) rfl rfl ?_
              refine g_getA (q2 := 149) 220 (gd rfl) rfl rfl rfl rfl ?_
              refine g_aload_n 221 (gd rfl) rfl rfl ?_
              refine g_getA (q2 := 114) 224 (gd rfl) rfl rfl rfl rfl ?_
              refine g_iload 226 (gd rfl) rfl rfl ?_
              refine g_iaload 227 (gd rfl) rfl (n := 480) rfl (in_ix j205_4 rfl) (fun z226 e226 => ?_)
              have i226 := inv_I hIc205 (n := 480) (t := 0) 0 31 rfl (in_ix j205_4 rfl) rfl e226
              refine g_laload 228 (gd rfl) rfl (n := 34) rfl (in_ix i226 rfl) (fun z227 e227 => ?_)
              refine g_ldc2_w 9000000000000000 231 (gd rfl) rfl rfl ?_
              refine g_lcmp 232 (gd rfl) rfl (fun z231 e231 => ?_)
              have i231 := lc_in e231
              refine g_if_ge 235 324 (gd rfl) rfl rfl (fun c232 => ?_) (fun c232 => ?_)
              · skip
                have i232 := z_ge 0 1 c232 i231 rfl
                have c232a := lc_ge e231 c232
                have i232a := lr_le2 9000000000000000 9223372036854775807 c232a (l_c 9000000000000000 rfl) (l_rng z227) rfl
                have n324 : WK s (x1).toInt (mq s (x1).toInt sc50) sc205 (y205_2).toInt ((y58_3).toNatClampNeg + 1) := by exact wk_bw g205_0 g205_2 (fun _ h9 => by exfalso; rw [← hFc205.1 114 rfl, (bs_x (x := y205_4) (a := y58_3) e_109_19 (by have a0 := j205_3; unfold In at a0; have a1 := h1; unfold In at a1; have a2 := ro_109_20; unfold In at a2; have a3 := ro_109_19; unfold In at a3; have a4 := j205_4; unfold In at a4; have a5 := j205_2; unfold In at a5; omega) (by have a0 := j205_3; unfold In at a0; have a1 := h1; unfold In at a1; have a2 := ro_109_20; unfold In at a2; have a3 := ro_109_19; unfold In at a3; have a4 := j205_4; unfold In at a4; have a5 := j205_2; unfold In at a5; omega) (by have a0 := j205_3; unfold In at a0; have a1 := h1; unfold In at a1; have a2 := ro_109_20; unfold In at a2; have a3 := ro_109_19; unfold In at a3; have a4 := j205_4; unfold In at a4; have a5 := j205_2; unfold In at a5; omega)), ← e226, ← e227] at h9; have hc := i232a.1; omega)
                exact gg_w (by omega) (gg_f (gf_cons rfl (gf_cons rfl (gf_cons rfl (gf_cons rfl (gf_cons rfl gf_nil))))) (ct324 sc205 y205_2 y205_4 hIc205 hFc205 (in_w 0 1 j205_2 rfl) (in_w 0 159 j205_3 rfl) (in_w 0 400 j205_4 rfl) n324))
              · skip
                have i232 := z_lt (-1) (-1) c232 i231 rfl
                have c232a := lc_lt e231 c232
                have i232a := lr_lt1 (-9223372036854775808) 8999999999999999 c232a (l_rng z227) (l_c 9000000000000000 rfl) rfl
                refine g_aload_n 236 (gd rfl) rfl rfl ?_
                refine g_getA (q2 := 149) 239 (gd rfl) rfl rfl rfl rfl ?_
                refine g_aload_n 240 (gd rfl) rfl rfl ?_
                refine g_getA (q2 := 114) 243 (gd rfl) rfl rfl rfl rfl ?_
                refine g_iload 245 (gd rfl) rfl rfl ?_
                refine g_iaload 246 (gd rfl) rfl (n := 480) rfl (in_ix j205_4 rfl) (fun z245 e245 => ?_)
                have q245 : z226 = z245 := (e226).trans e245.symm
                subst q245
                refine g_laload 247 (gd rfl) rfl (n := 34) rfl (in_ix i226 rfl) (fun z246 e246 => ?_)
                refine g_aload_n 248 (gd rfl) rfl rfl ?_
                refine g_getA (q2 := 115) 251 (gd rfl) rfl rfl rfl rfl ?_
                refine g_iload 253 (gd rfl) rfl rfl ?_
                refine g_iaload 254 (gd rfl) rfl (n := 480) rfl (in_ix j205_4 rfl) (fun z253 e253 => ?_)
                have i253 := inv_I hIc205 (n := 480) (t := 0) (-1000000) 1000000 rfl (in_ix j205_4 rfl) rfl e253
                refine g_i2l 255 (gd rfl) rfl (fun z254 e254 => ?_)
                have i254 := l_i e254 i253
                refine g_lsub 256 (gd rfl) rfl (fun z255 e255 => ?_)
                refine g_aload_n 257 (gd rfl) rfl rfl ?_
                refine g_getA (q2 := 149) 260 (gd rfl) rfl rfl rfl rfl ?_
                refine g_aload_n 261 (gd rfl) rfl rfl ?_
                refine g_getA (q2 := 113) 264 (gd rfl) rfl rfl rfl rfl ?_
                refine g_iload 266 (gd rfl) rfl rfl ?_
                refine g_iaload 267 (gd rfl) rfl (n := 480) rfl (in_ix j205_4 rfl) (fun z266 e266 => ?_)
                have i266 := inv_I hIc205 (n := 480) (t := 0) 0 31 rfl (in_ix j205_4 rfl) rfl e266
                refine g_laload 268 (gd rfl) rfl (n := 34) rfl (in_ix i266 rfl) (fun z267 e267 => ?_)
                refine g_lcmp 269 (gd rfl) rfl (fun z268 e268 => ?_)
                have i268 := lc_in e268
                refine g_if_ge 272 324 (gd rfl) rfl rfl (fun c269 => ?_) (fun c269 => ?_)
                · skip
                  have i269 := z_ge 0 1 c269 i268 rfl
                  have c269a := lc_ge e268 c269
                  have n324 : WK s (x1).toInt (mq s (x1).toInt sc50) sc205 (y205_2).toInt ((y58_3).toNatClampNeg + 1) := by exact wk_bw g205_0 g205_2 (bwq_i hI q_0 (by have a0 := j205_3; unfold In at a0; have a1 := h1; unfold In at a1; have a2 := ro_109_20; unfold In at a2; have a3 := ro_109_19; unfold In at a3; have a4 := j205_4; unfold In at a4; have a5 := j205_2; unfold In at a5; have a6 := tx_i2l e254; have a7 := i253; unfold In at a7; omega) ⟨hFc205.1 112 rfl, hFc205.1 113 rfl, hFc205.1 114 rfl, hFc205.1 115 rfl, hFc205.1 116 rfl, hFc205.2.1 147 rfl, hFc205.2.2.1 109 19 rfl, hFc205.2.2.1 109 20 rfl⟩ g205_0.1 j205_3 (bs_x e_109_19 (by have a0 := j205_3; unfold In at a0; have a1 := h1; unfold In at a1; have a2 := ro_109_20; unfold In at a2; have a3 := ro_109_19; unfold In at a3; have a4 := j205_4; unfold In at a4; have a5 := j205_2; unfold In at a5; have a6 := tx_i2l e254; have a7 := i253; unfold In at a7; omega) (by have a0 := j205_3; unfold In at a0; have a1 := h1; unfold In at a1; have a2 := ro_109_20; unfold In at a2; have a3 := ro_109_19; unfold In at a3; have a4 := j205_4; unfold In at a4; have a5 := j205_2; unfold In at a5; have a6 := tx_i2l e254; have a7 := i253; unfold In at a7; omega) (by have a0 := j205_3; unfold In at a0; have a1 := h1; unfold In at a1; have a2 := ro_109_20; unfold In at a2; have a3 := ro_109_19; unfold In at a3; have a4 := j205_4; unfold In at a4; have a5 := j205_2; unfold In at a5; have a6 := tx_i2l e254; have a7 := i253; unfold In at a7; omega)).symm g205_1 e226 e266 e253 e246 (by rw [e246, ← e227]; have h := i232a.2; omega) e255 (tx_i2l e254) e267 c269a)
                  exact gg_w (by omega) (gg_f (gf_cons rfl (gf_cons rfl (gf_cons rfl (gf_cons rfl (gf_cons rfl gf_nil))))) (ct324 sc205 y205_2 y205_4 hIc205 hFc205 (in_w 0 1 j205_2 rfl) (in_w 0 159 j205_3 rfl) (in_w 0 400 j205_4 rfl) n324))
                · skip
                  have i269 := z_lt (-1) (-1) c269 i268 rfl
                  have c269a := lc_lt e268 c269
                  have i269a := lr_lt1 (-9223372036854775808) 9223372036854775806 c269a (l_rng z255) (l_rng z267) rfl
                  have i269b := lr_lt2 (-9223372036854775807) 9223372036854775807 c269a (l_rng z255) (l_rng z267) rfl
                  refine g_aload_n 273 (gd rfl) rfl rfl ?_
                  refine g_getA (q2 := 149) 276 (gd rfl) rfl rfl rfl rfl ?_
                  refine g_aload_n 277 (gd rfl) rfl rfl ?_
                  refine g_getA (q2 := 113) 280 (gd rfl) rfl rfl rfl rfl ?_
                  refine g_iload 282 (gd rfl) rfl rfl ?_
                  refine g_iaload 283 (gd rfl) rfl (n := 480) rfl (in_ix j205_4 rfl) (fun z282 e282 => ?_)
                  have q282 : z266 = z282 := (e266).trans e282.symm
                  subst q282
                  refine g_aload_n 284 (gd rfl) rfl rfl ?_
                  refine g_getA (q2 := 149) 287 (gd rfl) rfl rfl rfl rfl ?_
                  refine g_aload_n 288 (gd rfl) rfl rfl ?_
                  refine g_getA (q2 := 114) 291 (gd rfl) rfl rfl rfl rfl ?_
                  refine g_iload 293 (gd rfl) rfl rfl ?_
                  refine g_iaload 294 (gd rfl) rfl (n := 480) rfl (in_ix j205_4 rfl) (fun z293 e293 => ?_)
                  have q293 : z226 = z293 := (e226).trans e293.symm
                  subst q293
                  refine g_laload 295 (gd rfl) rfl (n := 34) rfl (in_ix i226 rfl) (fun z294 e294 => ?_)
                  refine g_aload_n 296 (gd rfl) rfl rfl ?_
                  refine g_getA (q2 := 115) 299 (gd rfl) rfl rfl rfl rfl ?_
                  refine g_iload 301 (gd rfl) rfl rfl ?_
                  refine g_iaload 302 (gd rfl) rfl (n := 480) rfl (in_ix j205_4 rfl) (fun z301 e301 => ?_)
                  have q301 : z253 = z301 := (e253).trans e301.symm
                  subst q301
                  refine g_i2l 303 (gd rfl) rfl (fun z302 e302 => ?_)
                  have i302 := l_i e302 i253
                  refine g_lsub 304 (gd rfl) rfl (fun z303 e303 => ?_)
                  refine g_lastore 305 (gd rfl) rfl (n := 34) rfl (in_ix i266 rfl) ?_
                  have hI304 := inv_sL (q := 149) (j := z266.toNatClampNeg) (x := z303) hIc205 rfl (l_rng z303)
                  refine g_aload_n 306 (gd rfl) rfl rfl ?_
                  refine g_getA (q2 := 148) 309 (gd rfl) rfl rfl rfl rfl ?_
                  refine g_aload_n 310 (gd rfl) rfl rfl ?_
                  refine g_getA (q2 := 113) 313 (gd rfl) rfl rfl rfl rfl ?_
                  refine g_iload 315 (gd rfl) rfl rfl ?_
                  refine g_iaload 316 (gd rfl) rfl (n := 480) rfl (in_ix j205_4 rfl) (fun z315 e315 => ?_)
                  have q315 : z266 = z315 := (sL_I (e266)).trans e315.symm
                  subst q315
                  refine g_sipush 200 319 (gd rfl) rfl rfl ?_
                  refine g_iload_n 320 (gd rfl) rfl rfl ?_
                  refine g_iadd 321 (gd rfl) rfl (fun z320 e320 => ?_)
                  have i320 := in_add 200 359 e320 (in_c 200 rfl) j205_3 rfl rfl
                  refine g_iastore 322 (gd rfl) rfl (n := 34) rfl (in_ix i266 rfl) ?_
                  have hI321 := inv_sI (q := 148) (j := z266.toNatClampNeg) hI304 rfl (in_w (-1) 1000 i320 rfl)
                  refine g_iconst 1 323 (gd rfl) rfl rfl ?_
                  refine g_istore_n 324 (gd rfl) rfl (Nat.le_of_ble_eq_true rfl) ?_
                  have n324 : WK s (x1).toInt (mq s (x1).toInt sc50) (sI (sL sc205 149 z266.toNatClampNeg z303) 148 z266.toNatClampNeg z320) ((Int32.ofInt 1)).toInt ((y58_3).toNatClampNeg + 1) := by exact (wk_ch g205_0 (ci_bw hI q_0 (by have a0 := j205_3; unfold In at a0; have a1 := h1; unfold In at a1; have a2 := ro_109_20; unfold In at a2; have a3 := ro_109_19; unfold In at a3; have a4 := j205_4; unfold In at a4; have a5 := j205_2; unfold In at a5; have a6 := (in_c 1 rfl); unfold In at a6; have a7 := i320; unfold In at a7; have a8 := t_add e320 (in_c 200 rfl) j205_3 rfl; have a9 := (in_c 200 rfl); unfold In at a9; have a10 := tx_i2l e302; have a11 := i253; unfold In at a11; have a12 := tx_i2l e254; omega) (by have a0 := j205_3; unfold In at a0; have a1 := h1; unfold In at a1; have a2 := ro_109_20; unfold In at a2; have a3 := ro_109_19; unfold In at a3; have a4 := j205_4; unfold In at a4; have a5 := j205_2; unfold In at a5; have a6 := (in_c 1 rfl); unfold In at a6; have a7 := i320; unfold In at a7; have a8 := t_add e320 (in_c 200 rfl) j205_3 rfl; have a9 := (in_c 200 rfl); unfold In at a9; have a10 := tx_i2l e302; have a11 := i253; unfold In at a11; have a12 := tx_i2l e254; omega) ⟨hFc205.1 112 rfl, hFc205.1 113 rfl, hFc205.1 114 rfl, hFc205.1 115 rfl, hFc205.1 116 rfl, hFc205.2.1 147 rfl, hFc205.2.2.1 109 19 rfl, hFc205.2.2.1 109 20 rfl⟩ g205_0.1 j205_3 (by have a0 := j205_3; unfold In at a0; have a1 := h1; unfold In at a1; have a2 := ro_109_20; unfold In at a2; have a3 := ro_109_19; unfold In at a3; have a4 := j205_4; unfold In at a4; have a5 := j205_2; unfold In at a5; have a6 := (in_c 1 rfl); unfold In at a6; have a7 := i320; unfold In at a7; have a8 := t_add e320 (in_c 200 rfl) j205_3 rfl; have a9 := (in_c 200 rfl); unfold In at a9; have a10 := tx_i2l e302; have a11 := i253; unfold In at a11; have a12 := tx_i2l e254; omega) (bs_x e_109_19 (by have a0 := j205_3; unfold In at a0; have a1 := h1; unfold In at a1; have a2 := ro_109_20; unfold In at a2; have a3 := ro_109_19; unfold In at a3; have a4 := j205_4; unfold In at a4; have a5 := j205_2; unfold In at a5; have a6 := (in_c 1 rfl); unfold In at a6; have a7 := i320; unfold In at a7; have a8 := t_add e320 (in_c 200 rfl) j205_3 rfl; have a9 := (in_c 200 rfl); unfold In at a9; have a10 := tx_i2l e302; have a11 := i253; unfold In at a11; have a12 := tx_i2l e254; omega) (by have a0 := j205_3; unfold In at a0; have a1 := h1; unfold In at a1; have a2 := ro_109_20; unfold In at a2; have a3 := ro_109_19; unfold In at a3; have a4 := j205_4; unfold In at a4; have a5 := j205_2; unfold In at a5; have a6 := (in_c 1 rfl); unfold In at a6; have a7 := i320; unfold In at a7; have a8 := t_add e320 (in_c 200 rfl) j205_3 rfl; have a9 := (in_c 200 rfl); unfold In at a9; have a10 := tx_i2l e302; have a11 := i253; unfold In at a11; have a12 := tx_i2l e254; omega) (by have a0 := j205_3; unfold In at a0; have a1 := h1; unfold In at a1; have a2 := ro_109_20; unfold In at a2; have a3 := ro_109_19; unfold In at a3; have a4 := j205_4; unfold In at a4; have a5 := j205_2; unfold In at a5; have a6 := (in_c 1 rfl); unfold In at a6; have a7 := i320; unfold In at a7; have a8 := t_add e320 (in_c 200 rfl) j205_3 rfl; have a9 := (in_c 200 rfl); unfold In at a9; have a10 := tx_i2l e302; have a11 := i253; unfold In at a11; have a12 := tx_i2l e254; omega)).symm g205_1 (by rw [← e210]; have h := i213a.1; omega) e226 e266 e253 e294 (by rw [e294, ← e227]; have h := i232a.2; omega) e303 (tx_i2l e302) (by rw [show z303 = z255 from (by rw [e303, e255, e294, e246, e302, e254]), ← e267]; exact c269a)) _)
                  exact gg_w (by omega) (gg_f (gf_cons rfl (gf_cons rfl (gf_cons rfl (gf_cons rfl (gf_cons rfl gf_nil))))) (ct324 (sI (sL sc205 149 z266.toNatClampNeg z303) 148 z266.toNatClampNeg z320) (Int32.ofInt 1) y205_4 hI321 (fr_sI rfl (fr_sL rfl hFc205)) (in_w 0 1 (in_c 1 rfl) rfl) (in_w 0 159 j205_3 rfl) (in_w 0 400 j205_4 rfl) n324))
          refine g_iload_n 59 (gd rfl) rfl rfl ?_
          refine g_sipush 160 62 (gd rfl) rfl rfl ?_
          refine g_cmp_ge 65 330 (gd rfl) rfl rfl (fun c62 => ?_) (fun c62 => ?_)
          · skip
            have i62 := r_le2 160 160 c62 (in_c 160 rfl) j58_3 rfl
            refine g_goto 50 (gd rfl) rfl ?_
            have n50 : CI s (x1).toInt sc58 := by first | exact g58_0.1 | exact ci_0 hI q_0 h1 q_1 ⟨hFc2.1 112 rfl, hFc2.1 113 rfl, hFc2.1 114 rfl, hFc2.1 115 rfl, hFc2.1 116 rfl, hFc2.2.1 147 rfl, hFc2.2.2.1 109 19 rfl, hFc2.2.2.1 109 20 rfl⟩ (fun k hk => g2_0 k (by rw [← e_109_20] at hk; have a0 := h1; unfold In at a0; have a1 := ro_109_20; unfold In at a1; have a2 := ro_109_19; unfold In at a2; have a3 := i62; unfold In at a3; have a4 := j58_2; unfold In at a4; omega))
            have n50a : (y58_2).toInt = 0 → CLQ s sc58 160 := by first | (intro hz; exfalso; have h0 : (Int32.ofInt 1).toInt = 1 := rfl; omega) | (intro hz; have hc := g58_0.2.2.2 hz; rw [show y58_3.toNatClampNeg = 160 from (by show y58_3.toInt.toNat = 160; have a0 := h1; unfold In at a0; have a1 := ro_109_20; unfold In at a1; have a2 := ro_109_19; unfold In at a2; have a3 := i62; unfold In at a3; have a4 := j58_2; unfold In at a4; omega)] at hc; exact hc)
            have m50 : 2 * mq s (x1).toInt sc58 + (y58_2).toInt.toNat < k50 := by have hm := mm50; have hj := g58_1; have hm1 := g58_0.2.1; have hm2 := g58_0.2.2.1; by_cases hz : y58_2.toInt = 0; (have a0 := h1; unfold In at a0; have a1 := ro_109_20; unfold In at a1; have a2 := ro_109_19; unfold In at a2; have a3 := i62; unfold In at a3; have a4 := j58_2; unfold In at a4; omega); (have hm3 := hm2 hz; have hjj := j58_2; unfold In at hjj; have a0 := h1; unfold In at a0; have a1 := ro_109_20; unfold In at a1; have a2 := ro_109_19; unfold In at a2; have a3 := i62; unfold In at a3; have a4 := j58_2; unfold In at a4; omega)
            exact gg_w (by omega) (gg_f (gf_cons rfl (gf_cons rfl (gf_cons rfl gf_nil))) (ih50  sc58 y58_2 hIc58 hFc58 (in_w 0 1 j58_2 rfl) n50 n50a m50))
          · skip
            have i62 := r_lt1 0 159 c62 j58_3 (in_c 160 rfl) rfl
            refine g_aload_n 66 (gd rfl) rfl rfl ?_
            refine g_getI 69 (gd rfl) rfl rfl rfl (fun z66 e66 => ?_)
            have q66 : u_109_19 = z66 := (fr_F e_109_19 hFc58 rfl).trans e66.symm
            subst q66
            refine g_iload_n 70 (gd rfl) rfl rfl ?_
            refine g_iadd 71 (gd rfl) rfl (fun z70 e70 => ?_)
            have i70 := in_add 0 319 e70 ro_109_19 i62 rfl rfl
            refine g_istore 73 (gd rfl) rfl (Nat.le_of_ble_eq_true rfl) ?_
            refine g_aload_n 74 (gd rfl) rfl rfl ?_
            refine g_getA (q2 := 112) 77 (gd rfl) rfl rfl rfl rfl ?_
            refine g_iload 79 (gd rfl) rfl rfl ?_
            refine g_baload 80 (gd rfl) rfl (n := 480) rfl (in_ix i70 rfl) (fun z79 e79 => ?_)
            have i79 := inv_I hIc58 (n := 480) (t := 3) 0 1 rfl (in_ix i70 rfl) rfl e79
            refine g_if_eq 83 324 (gd rfl) rfl rfl (fun c80 => ?_) (fun c80 => ?_)
            · skip
              have i80 := z_eq 0 0 c80 i79 rfl
              have n324 : WK s (x1).toInt (mq s (x1).toInt sc50) sc58 (y58_2).toInt ((y58_3).toNatClampNeg + 1) := by exact wk_no g58_0 (by rw [(bs_x (x := z70) (a := y58_3) e_109_19 (by have a0 := h1; unfold In at a0; have a1 := ro_109_20; unfold In at a1; have a2 := ro_109_19; unfold In at a2; have a3 := i62; unfold In at a3; have a4 := j58_2; unfold In at a4; have a5 := i70; unfold In at a5; have a6 := t_add e70 ro_109_19 i62 rfl; omega) (by have a0 := h1; unfold In at a0; have a1 := ro_109_20; unfold In at a1; have a2 := ro_109_19; unfold In at a2; have a3 := i62; unfold In at a3; have a4 := j58_2; unfold In at a4; have a5 := i70; unfold In at a5; have a6 := t_add e70 ro_109_19 i62 rfl; omega) (by have a0 := h1; unfold In at a0; have a1 := ro_109_20; unfold In at a1; have a2 := ro_109_19; unfold In at a2; have a3 := i62; unfold In at a3; have a4 := j58_2; unfold In at a4; have a5 := i70; unfold In at a5; have a6 := t_add e70 ro_109_19 i62 rfl; omega)), ← hFc58.1 112 rfl, ← e79]; exact c80)
              exact gg_w (by omega) (gg_f (gf_cons rfl (gf_cons rfl (gf_cons rfl (gf_cons rfl (gf_cons rfl gf_nil))))) (ct324 sc58 y58_2 z70 hIc58 hFc58 (in_w 0 1 j58_2 rfl) (in_w 0 159 i62 rfl) (in_w 0 400 i70 rfl) n324))
            · skip
              have i80 := z_ne 1 1 c80 i79 rfl
              refine g_aload_n 84 (gd rfl) rfl rfl ?_
              refine g_getA (q2 := 147) 87 (gd rfl) rfl rfl rfl rfl ?_
              refine g_iload_n 88 (gd rfl) rfl rfl ?_
              refine g_laload 89 (gd rfl) rfl (n := 160) rfl (in_ix i62 rfl) (fun z88 e88 => ?_)
              refine g_aload_n 90 (gd rfl) rfl rfl ?_
              refine g_getA (q2 := 116) 93 (gd rfl) rfl rfl rfl rfl ?_
              refine g_iload 95 (gd rfl) rfl rfl ?_
              refine g_iaload 96 (gd rfl) rfl (n := 480) rfl (in_ix i70 rfl) (fun z95 e95 => ?_)
              have i95 := inv_I hIc58 (n := 480) (t := 0) 0 1000000 rfl (in_ix i70 rfl) rfl e95
              refine g_i2l 97 (gd rfl) rfl (fun z96 e96 => ?_)
              have i96 := l_i e96 i95
              refine g_lcmp 98 (gd rfl) rfl (fun z97 e97 => ?_)
              have i97 := lc_in e97
              refine g_if_ge 101 205 (gd rfl) rfl rfl (fun c98 => ?_) (fun c98 => ?_)
              · skip
                have i98 := z_ge 0 1 c98 i97 rfl
                have c98a := lc_ge e97 c98
                have i98a := lr_le2 0 9223372036854775807 c98a i96 (l_rng z88) rfl
                have n205 : (z70).toInt = (u_109_19).toInt + (y58_3).toInt := by have a0 := h1; unfold In at a0; have a1 := ro_109_20; unfold In at a1; have a2 := ro_109_19; unfold In at a2; have a3 := i62; unfold In at a3; have a4 := j58_2; unfold In at a4; have a5 := i70; unfold In at a5; have a6 := t_add e70 ro_109_19 i62 rfl; have a7 := tx_i2l e96; have a8 := i95; unfold In at a8; omega
                have n205a : WK s (x1).toInt (mq s (x1).toInt sc50) sc58 (y58_2).toInt (y58_3).toNatClampNeg := by exact g58_0
                have n205b : (s.1 112 (z70).toNatClampNeg).toInt ≠ 0 := by rw [← hFc58.1 112 rfl, ← e79]; exact c80
                have n205c : (y58_2).toInt = 0 → FWQ s sc58 (y58_3).toNatClampNeg := by (intro _ h0 _; exfalso; rw [← hFc58.2.1 147 rfl, ← hFc58.1 116 rfl, (bs_x (x := z70) (a := y58_3) e_109_19 (by have a0 := h1; unfold In at a0; have a1 := ro_109_20; unfold In at a1; have a2 := ro_109_19; unfold In at a2; have a3 := i62; unfold In at a3; have a4 := j58_2; unfold In at a4; have a5 := i70; unfold In at a5; have a6 := t_add e70 ro_109_19 i62 rfl; have a7 := tx_i2l e96; have a8 := i95; unfold In at a8; omega) (by have a0 := h1; unfold In at a0; have a1 := ro_109_20; unfold In at a1; have a2 := ro_109_19; unfold In at a2; have a3 := i62; unfold In at a3; have a4 := j58_2; unfold In at a4; have a5 := i70; unfold In at a5; have a6 := t_add e70 ro_109_19 i62 rfl; have a7 := tx_i2l e96; have a8 := i95; unfold In at a8; omega) (by have a0 := h1; unfold In at a0; have a1 := ro_109_20; unfold In at a1; have a2 := ro_109_19; unfold In at a2; have a3 := i62; unfold In at a3; have a4 := j58_2; unfold In at a4; have a5 := i70; unfold In at a5; have a6 := t_add e70 ro_109_19 i62 rfl; have a7 := tx_i2l e96; have a8 := i95; unfold In at a8; omega)), ← e88, ← e95] at h0; have h1 := tx_i2l e96; have h2 := c98a; omega)
                exact gg_w (by omega) (gg_f (gf_cons rfl (gf_cons rfl (gf_cons rfl (gf_cons rfl (gf_cons rfl gf_nil))))) (ct205 sc58 y58_2 z70 hIc58 hFc58 (in_w 0 1 j58_2 rfl) (in_w 0 159 i62 rfl) (in_w 0 400 i70 rfl) n205 n205a n205b n205c))
              · skip
                have i98 := z_lt (-1) (-1) c98 i97 rfl
                have c98a := lc_lt e97 c98
                have i98a := lr_lt1 (-9223372036854775808) 999999 c98a (l_rng z88) i96 rfl
                refine g_aload_n 102 (gd rfl) rfl rfl ?_
                refine g_getA (q2 := 149) 105 (gd rfl) rfl rfl rfl rfl ?_
                refine g_aload_n 106 (gd rfl) rfl rfl ?_
                refine g_getA (q2 := 113) 109 (gd rfl) rfl rfl rfl rfl ?_
                refine g_iload 111 (gd rfl) rfl rfl ?_
                refine g_iaload 112 (gd rfl) rfl (n := 480) rfl (in_ix i70 rfl) (fun z111 e111 => ?_)
                have i111 := inv_I hIc58 (n := 480) (t := 0) 0 31 rfl (in_ix i70 rfl) rfl e111
                refine g_laload 113 (gd rfl) rfl (n := 34) rfl (in_ix i111 rfl) (fun z112 e112 => ?_)
                refine g_ldc2_w 9000000000000000 116 (gd rfl) rfl rfl ?_
                refine g_lcmp 117 (gd rfl) rfl (fun z116 e116 => ?_)
                have i116 := lc_in e116
                refine g_if_ge 120 205 (gd rfl) rfl rfl (fun c117 => ?_) (fun c117 => ?_)
                · skip
                  have i117 := z_ge 0 1 c117 i116 rfl
                  have c117a := lc_ge e116 c117
                  have i117a := lr_le2 9000000000000000 9223372036854775807 c117a (l_c 9000000000000000 rfl) (l_rng z112) rfl
                  have n205 : (z70).toInt = (u_109_19).toInt + (y58_3).toInt := by have a0 := h1; unfold In at a0; have a1 := ro_109_20; unfold In at a1; have a2 := ro_109_19; unfold In at a2; have a3 := i62; unfold In at a3; have a4 := j58_2; unfold In at a4; have a5 := i70; unfold In at a5; have a6 := t_add e70 ro_109_19 i62 rfl; have a7 := tx_i2l e96; have a8 := i95; unfold In at a8; omega
                  have n205a : WK s (x1).toInt (mq s (x1).toInt sc50) sc58 (y58_2).toInt (y58_3).toNatClampNeg := by exact g58_0
                  have n205b : (s.1 112 (z70).toNatClampNeg).toInt ≠ 0 := by rw [← hFc58.1 112 rfl, ← e79]; exact c80
                  have n205c : (y58_2).toInt = 0 → FWQ s sc58 (y58_3).toNatClampNeg := by (intro _ _ h9; exfalso; rw [← hFc58.1 113 rfl, (bs_x (x := z70) (a := y58_3) e_109_19 (by have a0 := h1; unfold In at a0; have a1 := ro_109_20; unfold In at a1; have a2 := ro_109_19; unfold In at a2; have a3 := i62; unfold In at a3; have a4 := j58_2; unfold In at a4; have a5 := i70; unfold In at a5; have a6 := t_add e70 ro_109_19 i62 rfl; have a7 := tx_i2l e96; have a8 := i95; unfold In at a8; omega) (by have a0 := h1; unfold In at a0; have a1 := ro_109_20; unfold In at a1; have a2 := ro_109_19; unfold In at a2; have a3 := i62; unfold In at a3; have a4 := j58_2; unfold In at a4; have a5 := i70; unfold In at a5; have a6 := t_add e70 ro_109_19 i62 rfl; have a7 := tx_i2l e96; have a8 := i95; unfold In at a8; omega) (by have a0 := h1; unfold In at a0; have a1 := ro_109_20; unfold In at a1; have a2 := ro_109_19; unfold In at a2; have a3 := i62; unfold In at a3; have a4 := j58_2; unfold In at a4; have a5 := i70; unfold In at a5; have a6 := t_add e70 ro_109_19 i62 rfl; have a7 := tx_i2l e96; have a8 := i95; unfold In at a8; omega)), ← e111, ← e112] at h9; have h2 := i117a.1; omega)
                  exact gg_w (by omega) (gg_f (gf_cons rfl (gf_cons rfl (gf_cons rfl (gf_cons rfl (gf_cons rfl gf_nil))))) (ct205 sc58 y58_2 z70 hIc58 hFc58 (in_w 0 1 j58_2 rfl) (in_w 0 159 i62 rfl) (in_w 0 400 i70 rfl) n205 n205a n205b n205c))
                · skip
                  have i117 := z_lt (-1) (-1) c117 i116 rfl
                  have c117a := lc_lt e116 c117
                  have i117a := lr_lt1 (-9223372036854775808) 8999999999999999 c117a (l_rng z112) (l_c 9000000000000000 rfl) rfl
                  refine g_aload_n 121 (gd rfl) rfl rfl ?_
                  refine g_getA (q2 := 149) 124 (gd rfl) rfl rfl rfl rfl ?_
                  refine g_aload_n 125 (gd rfl) rfl rfl ?_
                  refine g_getA (q2 := 113) 128 (gd rfl) rfl rfl rfl rfl ?_
                  refine g_iload 130 (gd rfl) rfl rfl ?_
                  refine g_iaload 131 (gd rfl) rfl (n := 480) rfl (in_ix i70 rfl) (fun z130 e130 => ?_)
                  have q130 : z111 = z130 := (e111).trans e130.symm
                  subst q130
                  refine g_laload 132 (gd rfl) rfl (n := 34) rfl (in_ix i111 rfl) (fun z131 e131 => ?_)
                  refine g_aload_n 133 (gd rfl) rfl rfl ?_
                  refine g_getA (q2 := 115) 136 (gd rfl) rfl rfl rfl rfl ?_
                  refine g_iload 138 (gd rfl) rfl rfl ?_
                  refine g_iaload 139 (gd rfl) rfl (n := 480) rfl (in_ix i70 rfl) (fun z138 e138 => ?_)
                  have i138 := inv_I hIc58 (n := 480) (t := 0) (-1000000) 1000000 rfl (in_ix i70 rfl) rfl e138
                  refine g_i2l 140 (gd rfl) rfl (fun z139 e139 => ?_)
                  have i139 := l_i e139 i138
                  refine g_ladd 141 (gd rfl) rfl (fun z140 e140 => ?_)
                  refine g_aload_n 142 (gd rfl) rfl rfl ?_
                  refine g_getA (q2 := 149) 145 (gd rfl) rfl rfl rfl rfl ?_
                  refine g_aload_n 146 (gd rfl) rfl rfl ?_
                  refine g_getA (q2 := 114) 149 (gd rfl) rfl rfl rfl rfl ?_
                  refine g_iload 151 (gd rfl) rfl rfl ?_
                  refine g_iaload 152 (gd rfl) rfl (n := 480) rfl (in_ix i70 rfl) (fun z151 e151 => ?_)
                  have i151 := inv_I hIc58 (n := 480) (t := 0) 0 31 rfl (in_ix i70 rfl) rfl e151
                  refine g_laload 153 (gd rfl) rfl (n := 34) rfl (in_ix i151 rfl) (fun z152 e152 => ?_)
                  refine g_lcmp 154 (gd rfl) rfl (fun z153 e153 => ?_)
                  have i153 := lc_in e153
                  refine g_if_ge 157 205 (gd rfl) rfl rfl (fun c154 => ?_) (fun c154 => ?_)
                  · skip
                    have i154 := z_ge 0 1 c154 i153 rfl
                    have c154a := lc_ge e153 c154
                    have n205 : (z70).toInt = (u_109_19).toInt + (y58_3).toInt := by have a0 := h1; unfold In at a0; have a1 := ro_109_20; unfold In at a1; have a2 := ro_109_19; unfold In at a2; have a3 := i62; unfold In at a3; have a4 := j58_2; unfold In at a4; have a5 := i70; unfold In at a5; have a6 := t_add e70 ro_109_19 i62 rfl; have a7 := tx_i2l e139; have a8 := i138; unfold In at a8; have a9 := tx_i2l e96; have a10 := i95; unfold In at a10; omega
                    have n205a : WK s (x1).toInt (mq s (x1).toInt sc50) sc58 (y58_2).toInt (y58_3).toNatClampNeg := by exact g58_0
                    have n205b : (s.1 112 (z70).toNatClampNeg).toInt ≠ 0 := by rw [← hFc58.1 112 rfl, ← e79]; exact c80
                    have n205c : (y58_2).toInt = 0 → FWQ s sc58 (y58_3).toNatClampNeg := by exact fun _ => fwq_i hI q_0 (by have a0 := h1; unfold In at a0; have a1 := ro_109_20; unfold In at a1; have a2 := ro_109_19; unfold In at a2; have a3 := i62; unfold In at a3; have a4 := j58_2; unfold In at a4; have a5 := i70; unfold In at a5; have a6 := t_add e70 ro_109_19 i62 rfl; have a7 := tx_i2l e139; have a8 := i138; unfold In at a8; have a9 := tx_i2l e96; have a10 := i95; unfold In at a10; omega) ⟨hFc58.1 112 rfl, hFc58.1 113 rfl, hFc58.1 114 rfl, hFc58.1 115 rfl, hFc58.1 116 rfl, hFc58.2.1 147 rfl, hFc58.2.2.1 109 19 rfl, hFc58.2.2.1 109 20 rfl⟩ g58_0.1 i62 (bs_x e_109_19 (by have a0 := h1; unfold In at a0; have a1 := ro_109_20; unfold In at a1; have a2 := ro_109_19; unfold In at a2; have a3 := i62; unfold In at a3; have a4 := j58_2; unfold In at a4; have a5 := i70; unfold In at a5; have a6 := t_add e70 ro_109_19 i62 rfl; have a7 := tx_i2l e139; have a8 := i138; unfold In at a8; have a9 := tx_i2l e96; have a10 := i95; unfold In at a10; omega) (by have a0 := h1; unfold In at a0; have a1 := ro_109_20; unfold In at a1; have a2 := ro_109_19; unfold In at a2; have a3 := i62; unfold In at a3; have a4 := j58_2; unfold In at a4; have a5 := i70; unfold In at a5; have a6 := t_add e70 ro_109_19 i62 rfl; have a7 := tx_i2l e139; have a8 := i138; unfold In at a8; have a9 := tx_i2l e96; have a10 := i95; unfold In at a10; omega) (by have a0 := h1; unfold In at a0; have a1 := ro_109_20; unfold In at a1; have a2 := ro_109_19; unfold In at a2; have a3 := i62; unfold In at a3; have a4 := j58_2; unfold In at a4; have a5 := i70; unfold In at a5; have a6 := t_add e70 ro_109_19 i62 rfl; have a7 := tx_i2l e139; have a8 := i138; unfold In at a8; have a9 := tx_i2l e96; have a10 := i95; unfold In at a10; omega)).symm (by rw [← hFc58.1 112 rfl, ← e79]; exact c80) e111 e151 e138 e131 (by rw [e131, ← e112]; have h := i117a.2; omega) e140 (tx_i2l e139) e152 c154a
                    exact gg_w (by omega) (gg_f (gf_cons rfl (gf_cons rfl (gf_cons rfl (gf_cons rfl (gf_cons rfl gf_nil))))) (ct205 sc58 y58_2 z70 hIc58 hFc58 (in_w 0 1 j58_2 rfl) (in_w 0 159 i62 rfl) (in_w 0 400 i70 rfl) n205 n205a n205b n205c))
                  · skip
                    have i154 := z_lt (-1) (-1) c154 i153 rfl
                    have c154a := lc_lt e153 c154
                    have i154a := lr_lt1 (-9223372036854775808) 9223372036854775806 c154a (l_rng z140) (l_rng z152) rfl
                    have i154b := lr_lt2 (-9223372036854775807) 9223372036854775807 c154a (l_rng z140) (l_rng z152) rfl
                    refine g_aload_n 158 (gd rfl) rfl rfl ?_
                    refine g_getA (q2 := 149) 161 (gd rfl) rfl rfl rfl rfl ?_
                    refine g_aload_n 162 (gd rfl) rfl rfl ?_
                    refine g_getA (q2 := 114) 165 (gd rfl) rfl rfl rfl rfl ?_
                    refine g_iload 167 (gd rfl) rfl rfl ?_
                    refine g_iaload 168 (gd rfl) rfl (n := 480) rfl (in_ix i70 rfl) (fun z167 e167 => ?_)
                    have q167 : z151 = z167 := (e151).trans e167.symm
                    subst q167
                    refine g_aload_n 169 (gd rfl) rfl rfl ?_
                    refine g_getA (q2 := 149) 172 (gd rfl) rfl rfl rfl rfl ?_
                    refine g_aload_n 173 (gd rfl) rfl rfl ?_
                    refine g_getA (q2 := 113) 176 (gd rfl) rfl rfl rfl rfl ?_
                    refine g_iload 178 (gd rfl) rfl rfl ?_
                    refine g_iaload 179 (gd rfl) rfl (n := 480) rfl (in_ix i70 rfl) (fun z178 e178 => ?_)
                    have q178 : z111 = z178 := (e111).trans e178.symm
                    subst q178
                    refine g_laload 180 (gd rfl) rfl (n := 34) rfl (in_ix i111 rfl) (fun z179 e179 => ?_)
                    refine g_aload_n 181 (gd rfl) rfl rfl ?_
                    refine g_getA (q2 := 115) 184 (gd rfl) rfl rfl rfl rfl ?_
                    refine g_iload 186 (gd rfl) rfl rfl ?_
                    refine g_iaload 187 (gd rfl) rfl (n := 480) rfl (in_ix i70 rfl) (fun z186 e186 => ?_)
                    have q186 : z138 = z186 := (e138).trans e186.symm
                    subst q186
                    refine g_i2l 188 (gd rfl) rfl (fun z187 e187 => ?_)
                    have i187 := l_i e187 i138
                    refine g_ladd 189 (gd rfl) rfl (fun z188 e188 => ?_)
                    refine g_lastore 190 (gd rfl) rfl (n := 34) rfl (in_ix i151 rfl) ?_
                    have hI189 := inv_sL (q := 149) (j := z151.toNatClampNeg) (x := z188) hIc58 rfl (l_rng z188)
                    refine g_aload_n 191 (gd rfl) rfl rfl ?_
                    refine g_getA (q2 := 148) 194 (gd rfl) rfl rfl rfl rfl ?_
                    refine g_aload_n 195 (gd rfl) rfl rfl ?_
                    refine g_getA (q2 := 114) 198 (gd rfl) rfl rfl rfl rfl ?_
                    refine g_iload 200 (gd rfl) rfl rfl ?_
                    refine g_iaload 201 (gd rfl) rfl (n := 480) rfl (in_ix i70 rfl) (fun z200 e200 => ?_)
                    have q200 : z151 = z200 := (sL_I (e151)).trans e200.symm
                    subst q200
                    refine g_iload_n 202 (gd rfl) rfl rfl ?_
                    refine g_iastore 203 (gd rfl) rfl (n := 34) rfl (in_ix i151 rfl) ?_
                    have hI202 := inv_sI (q := 148) (j := z151.toNatClampNeg) hI189 rfl (in_w (-1) 1000 i62 rfl)
                    refine g_iconst 1 204 (gd rfl) rfl rfl ?_
                    refine g_istore_n 205 (gd rfl) rfl (Nat.le_of_ble_eq_true rfl) ?_
                    have n205 : (z70).toInt = (u_109_19).toInt + (y58_3).toInt := by have a0 := h1; unfold In at a0; have a1 := ro_109_20; unfold In at a1; have a2 := ro_109_19; unfold In at a2; have a3 := i62; unfold In at a3; have a4 := j58_2; unfold In at a4; have a5 := i70; unfold In at a5; have a6 := t_add e70 ro_109_19 i62 rfl; have a7 := (in_c 1 rfl); unfold In at a7; have a8 := tx_i2l e187; have a9 := i138; unfold In at a9; have a10 := tx_i2l e139; have a11 := tx_i2l e96; have a12 := i95; unfold In at a12; omega
                    have n205a : WK s (x1).toInt (mq s (x1).toInt sc50) (sI (sL sc58 149 z151.toNatClampNeg z188) 148 z151.toNatClampNeg y58_3) ((Int32.ofInt 1)).toInt (y58_3).toNatClampNeg := by exact (wk_ch g58_0 (ci_fw hI q_0 (by have a0 := h1; unfold In at a0; have a1 := ro_109_20; unfold In at a1; have a2 := ro_109_19; unfold In at a2; have a3 := i62; unfold In at a3; have a4 := j58_2; unfold In at a4; have a5 := i70; unfold In at a5; have a6 := t_add e70 ro_109_19 i62 rfl; have a7 := (in_c 1 rfl); unfold In at a7; have a8 := tx_i2l e187; have a9 := i138; unfold In at a9; have a10 := tx_i2l e139; have a11 := tx_i2l e96; have a12 := i95; unfold In at a12; omega) (by have a0 := h1; unfold In at a0; have a1 := ro_109_20; unfold In at a1; have a2 := ro_109_19; unfold In at a2; have a3 := i62; unfold In at a3; have a4 := j58_2; unfold In at a4; have a5 := i70; unfold In at a5; have a6 := t_add e70 ro_109_19 i62 rfl; have a7 := (in_c 1 rfl); unfold In at a7; have a8 := tx_i2l e187; have a9 := i138; unfold In at a9; have a10 := tx_i2l e139; have a11 := tx_i2l e96; have a12 := i95; unfold In at a12; omega) ⟨hFc58.1 112 rfl, hFc58.1 113 rfl, hFc58.1 114 rfl, hFc58.1 115 rfl, hFc58.1 116 rfl, hFc58.2.1 147 rfl, hFc58.2.2.1 109 19 rfl, hFc58.2.2.1 109 20 rfl⟩ g58_0.1 i62 (bs_x e_109_19 (by have a0 := h1; unfold In at a0; have a1 := ro_109_20; unfold In at a1; have a2 := ro_109_19; unfold In at a2; have a3 := i62; unfold In at a3; have a4 := j58_2; unfold In at a4; have a5 := i70; unfold In at a5; have a6 := t_add e70 ro_109_19 i62 rfl; have a7 := (in_c 1 rfl); unfold In at a7; have a8 := tx_i2l e187; have a9 := i138; unfold In at a9; have a10 := tx_i2l e139; have a11 := tx_i2l e96; have a12 := i95; unfold In at a12; omega) (by have a0 := h1; unfold In at a0; have a1 := ro_109_20; unfold In at a1; have a2 := ro_109_19; unfold In at a2; have a3 := i62; unfold In at a3; have a4 := j58_2; unfold In at a4; have a5 := i70; unfold In at a5; have a6 := t_add e70 ro_109_19 i62 rfl; have a7 := (in_c 1 rfl); unfold In at a7; have a8 := tx_i2l e187; have a9 := i138; unfold In at a9; have a10 := tx_i2l e139; have a11 := tx_i2l e96; have a12 := i95; unfold In at a12; omega) (by have a0 := h1; unfold In at a0; have a1 := ro_109_20; unfold In at a1; have a2 := ro_109_19; unfold In at a2; have a3 := i62; unfold In at a3; have a4 := j58_2; unfold In at a4; have a5 := i70; unfold In at a5; have a6 := t_add e70 ro_109_19 i62 rfl; have a7 := (in_c 1 rfl); unfold In at a7; have a8 := tx_i2l e187; have a9 := i138; unfold In at a9; have a10 := tx_i2l e139; have a11 := tx_i2l e96; have a12 := i95; unfold In at a12; omega)).symm (by rw [← hFc58.1 112 rfl, ← e79]; exact c80) (by rw [← e88, ← e95]; have h1 := tx_i2l e96; have h2 := c98a; omega) e111 e151 e138 e179 (by rw [e179, ← e112]; have h := i117a.2; omega) e188 (tx_i2l e187) (by rw [show z188 = z140 from (by rw [e188, e140, e179, e131, e187, e139]), ← e152]; exact c154a)) _)
                    have n205b : (s.1 112 (z70).toNatClampNeg).toInt ≠ 0 := by rw [← hFc58.1 112 rfl, ← e79]; exact c80
                    have n205c : ((Int32.ofInt 1)).toInt = 0 → FWQ s (sI (sL sc58 149 z151.toNatClampNeg z188) 148 z151.toNatClampNeg y58_3) (y58_3).toNatClampNeg := by (intro hz; exfalso; have h1 : (Int32.ofInt 1).toInt = 1 := rfl; omega)
                    exact gg_w (by omega) (gg_f (gf_cons rfl (gf_cons rfl (gf_cons rfl (gf_cons rfl (gf_cons rfl gf_nil))))) (ct205 (sI (sL sc58 149 z151.toNatClampNeg z188) 148 z151.toNatClampNeg y58_3) (Int32.ofInt 1) z70 hI202 (fr_sI rfl (fr_sL rfl hFc58)) (in_w 0 1 (in_c 1 rfl) rfl) (in_w 0 159 i62 rfl) (in_w 0 400 i70 rfl) n205 n205a n205b n205c))
      refine g_iload_n 51 (gd rfl) rfl rfl ?_
      refine g_if_eq 54 333 (gd rfl) rfl rfl (fun c51 => ?_) (fun c51 => ?_)
      · skip
        have i51 := z_eq 0 0 c51 j50_2 rfl
        have n333 : CHE sc50 (x1).toInt := by exact che_e hI q_0 (by have a0 := h1; unfold In at a0; have a1 := ro_109_20; unfold In at a1; have a2 := ro_109_19; unfold In at a2; have a3 := i51; unfold In at a3; omega) (by have a0 := h1; unfold In at a0; have a1 := ro_109_20; unfold In at a1; have a2 := ro_109_19; unfold In at a2; have a3 := i51; unfold In at a3; omega) ⟨hFc50.1 112 rfl, hFc50.1 113 rfl, hFc50.1 114 rfl, hFc50.1 115 rfl, hFc50.1 116 rfl, hFc50.2.1 147 rfl, hFc50.2.2.1 109 19 rfl, hFc50.2.2.1 109 20 rfl⟩ ⟨g50_0, Nat.le_refl _, fun z => absurd rfl z, fun _ => g50_1 c51⟩
        exact g_return (gd rfl) rfl (hP _ _ ⟨sc50, hIc50, hFc50, rfl, rfl, n333⟩)
      · skip
        have i51 := z_ne 1 1 c51 j50_2 rfl
        refine g_iconst 0 55 (gd rfl) rfl rfl ?_
        refine g_istore_n 56 (gd rfl) rfl (Nat.le_of_ble_eq_true rfl) ?_
        refine g_iconst 0 57 (gd rfl) rfl rfl ?_
        refine g_istore_n 58 (gd rfl) rfl (Nat.le_of_ble_eq_true rfl) ?_
        have n58 : WK s (x1).toInt (mq s (x1).toInt sc50) sc50 ((Int32.ofInt 0)).toInt ((Int32.ofInt 0)).toNatClampNeg := by first | exact wk_0 g50_0 | (rw [show (z324).toNatClampNeg = y58_3.toNatClampNeg + 1 from (by show z324.toInt.toNat = y58_3.toInt.toNat + 1; have a0 := h1; unfold In at a0; have a1 := ro_109_20; unfold In at a1; have a2 := ro_109_19; unfold In at a2; have a3 := i51; unfold In at a3; have a4 := (in_c 0 rfl); unfold In at a4; omega)]; exact g324_0)
        have n58a : y50_2.toInt = 1 := by first | exact g58_1 | (have hj := j50_2; unfold In at hj; have hc := c51; omega)
        exact gg_w (by omega) (gg_f (gf_cons rfl (gf_cons rfl (gf_cons rfl (gf_cons rfl gf_nil)))) (ct58 161 sc50 (Int32.ofInt 0) (Int32.ofInt 0) hIc50 hFc50 (in_w 0 1 (in_c 0 rfl) rfl) (in_w 0 160 (in_c 0 rfl) rfl) n58 n58a (m_in 161 (in_w 0 160 (in_c 0 rfl) rfl) rfl)))
  have ct2 : ∀ (k2 : Nat) (sc2 : GS) (y2_2 : Int32), Inv sc2 → Fr fm_356 s sc2 → (In y2_2 0 32) → (∀ k : Nat, (k : Int) < (y2_2).toInt → (sc2.1 148 k).toInt < 0 ∧ (sc2.2.1 149 k).toInt = 9000000000000000) → 32 - (y2_2).toInt < (k2 : Int) → GG Z (d - 1) 356 post (gx xp) (2812960000879052 + k2 * 900) 2 (fun j => xlook j [(0, .ref (A 109)), (1, .int x1), (2, .int y2_2)]) [] (WW Z A sc2 ++ ex) 0 0 := by
    intro k2
    induction k2 with
    | zero => intro sc2 y2_2 hIc2 hFc2 j2_2 g2_0 mm2; exact m_no mm2 j2_2 rfl
    | succ k2 ih2 =>
      intro sc2 y2_2 hIc2 hFc2 j2_2 g2_0 mm2
      refine gg_w (M := 2812960000879052 + k2 * 900 + 900) (by omega) ?_
      refine g_iload_n 3 (gd rfl) rfl rfl ?_
      refine g_aload_n 4 (gd rfl) rfl rfl ?_
      refine g_getI 7 (gd rfl) rfl rfl rfl (fun z4 e4 => ?_)
      have q4 : u_109_20 = z4 := (fr_F e_109_20 hFc2 rfl).trans e4.symm
      subst q4
      refine g_cmp_ge 10 32 (gd rfl) rfl rfl (fun c7 => ?_) (fun c7 => ?_)
      · skip
        refine g_aload_n 33 (gd rfl) rfl rfl ?_
        refine g_getA (q2 := 149) 36 (gd rfl) rfl rfl rfl rfl ?_
        refine g_iload_n 37 (gd rfl) rfl rfl ?_
        refine g_lconst 0 38 (gd rfl) rfl rfl ?_
        refine g_lastore 39 (gd rfl) rfl (n := 34) rfl (in_ix h1 rfl) ?_
        have hI38 := inv_sL (q := 149) (j := x1.toNatClampNeg) (x := (Int64.ofInt 0)) hIc2 rfl (l_rng (Int64.ofInt 0))
        refine g_aload_n 40 (gd rfl) rfl rfl ?_
        refine g_getA (q2 := 148) 43 (gd rfl) rfl rfl rfl rfl ?_
        refine g_iload_n 44 (gd rfl) rfl rfl ?_
        refine g_sipush 1000 47 (gd rfl) rfl rfl ?_
        refine g_iastore 48 (gd rfl) rfl (n := 34) rfl (in_ix h1 rfl) ?_
        have hI47 := inv_sI (q := 148) (j := x1.toNatClampNeg) hI38 rfl (in_w (-1) 1000 (in_c 1000 rfl) rfl)
        refine g_iconst 1 49 (gd rfl) rfl rfl ?_
        refine g_istore_n 50 (gd rfl) rfl (Nat.le_of_ble_eq_true rfl) ?_
        have n50 : CI s (x1).toInt (sI (sL sc2 149 x1.toNatClampNeg (Int64.ofInt 0)) 148 x1.toNatClampNeg (Int32.ofInt 1000)) := by first | exact g58_0.1 | exact ci_0 hI q_0 h1 q_1 ⟨hFc2.1 112 rfl, hFc2.1 113 rfl, hFc2.1 114 rfl, hFc2.1 115 rfl, hFc2.1 116 rfl, hFc2.2.1 147 rfl, hFc2.2.2.1 109 19 rfl, hFc2.2.2.1 109 20 rfl⟩ (fun k hk => g2_0 k (by rw [← e_109_20] at hk; have a0 := h1; unfold In at a0; have a1 := ro_109_20; unfold In at a1; have a2 := ro_109_19; unfold In at a2; have a3 := j2_2; unfold In at a3; have a4 := (in_c 1 rfl); unfold In at a4; omega))
        have n50a : ((Int32.ofInt 1)).toInt = 0 → CLQ s (sI (sL sc2 149 x1.toNatClampNeg (Int64.ofInt 0)) 148 x1.toNatClampNeg (Int32.ofInt 1000)) 160 := by first | (intro hz; exfalso; have h0 : (Int32.ofInt 1).toInt = 1 := rfl; omega) | (intro hz; have hc := g58_0.2.2.2 hz; rw [show y58_3.toNatClampNeg = 160 from (by show y58_3.toInt.toNat = 160; have a0 := h1; unfold In at a0; have a1 := ro_109_20; unfold In at a1; have a2 := ro_109_19; unfold In at a2; have a3 := j2_2; unfold In at a3; have a4 := (in_c 1 rfl); unfold In at a4; omega)] at hc; exact hc)
        have m50 : 2 * mq s (x1).toInt (sI (sL sc2 149 x1.toNatClampNeg (Int64.ofInt 0)) 148 x1.toNatClampNeg (Int32.ofInt 1000)) + ((Int32.ofInt 1)).toInt.toNat < 6400000002 := by have hm := ci_m n50; have h1 : (Int32.ofInt 1).toInt.toNat = 1 := rfl; omega
        exact gg_w (by omega) (gg_f (gf_cons rfl (gf_cons rfl (gf_cons rfl gf_nil))) (ct50 (6400000002) (sI (sL sc2 149 x1.toNatClampNeg (Int64.ofInt 0)) 148 x1.toNatClampNeg (Int32.ofInt 1000)) (Int32.ofInt 1) hI47 (fr_sI rfl (fr_sL rfl hFc2)) (in_w 0 1 (in_c 1 rfl) rfl) n50 n50a m50))
      · skip
        have i7 := r_lt1 0 31 c7 j2_2 ro_109_20 rfl
        have i7a := r_lt2 1 32 c7 j2_2 ro_109_20 rfl
        refine g_aload_n 11 (gd rfl) rfl rfl ?_
        refine g_getA (q2 := 149) 14 (gd rfl) rfl rfl rfl rfl ?_
        refine g_iload_n 15 (gd rfl) rfl rfl ?_
        refine g_ldc2_w 9000000000000000 18 (gd rfl) rfl rfl ?_
        refine g_lastore 19 (gd rfl) rfl (n := 34) rfl (in_ix i7 rfl) ?_
        have hI18 := inv_sL (q := 149) (j := y2_2.toNatClampNeg) (x := (Int64.ofInt 9000000000000000)) hIc2 rfl (l_rng (Int64.ofInt 9000000000000000))
        refine g_aload_n 20 (gd rfl) rfl rfl ?_
        refine g_getA (q2 := 148) 23 (gd rfl) rfl rfl rfl rfl ?_
        refine g_iload_n 24 (gd rfl) rfl rfl ?_
        refine g_iconst (-1) 25 (gd rfl) rfl rfl ?_
        refine g_iastore 26 (gd rfl) rfl (n := 34) rfl (in_ix i7 rfl) ?_
        have hI25 := inv_sI (q := 148) (j := y2_2.toNatClampNeg) hI18 rfl (in_w (-1) 1000 (in_c (-1) rfl) rfl)
        refine g_iinc 29 (gd rfl) rfl rfl (Nat.le_of_ble_eq_true rfl) (fun z26 e26 => ?_)
        have i26 := in_add 1 32 e26 i7 (in_c 1 rfl) rfl rfl
        refine g_goto 2 (gd rfl) rfl ?_
        have n2 : ∀ k : Nat, (k : Int) < (z26).toInt → ((sI (sL sc2 149 y2_2.toNatClampNeg (Int64.ofInt 9000000000000000)) 148 y2_2.toNatClampNeg (Int32.ofInt (-1))).1 148 k).toInt < 0 ∧ ((sI (sL sc2 149 y2_2.toNatClampNeg (Int64.ofInt 9000000000000000)) 148 y2_2.toNatClampNeg (Int32.ofInt (-1))).2.1 149 k).toInt = 9000000000000000 := by first | (intro k hk; exfalso; have h0 : (Int32.ofInt 0).toInt = 0 := rfl; omega) | (intro k hk; have e2 : y2_2.toNatClampNeg = y2_2.toInt.toNat := rfl; rw [sI_q, show ((sI (sL sc2 149 y2_2.toNatClampNeg (Int64.ofInt 9000000000000000)) 148 y2_2.toNatClampNeg (Int32.ofInt (-1)))).2.1 149 = vp_updL (sc2.2.1 149) y2_2.toNatClampNeg (Int64.ofInt 9000000000000000) from (by simp [sI, sL])]; by_cases c : k = y2_2.toNatClampNeg; (rw [c, ul_eq]; unfold upd; rw [if_pos rfl]; exact ⟨by decide, by have hl : InL (Int64.ofInt 9000000000000000) 9000000000000000 9000000000000000 := l_c 9000000000000000 rfl; exact Int.le_antisymm hl.2 hl.1⟩); (rw [ul_ne c]; unfold upd; rw [if_neg c]; exact g2_0 k (by have a0 := h1; unfold In at a0; have a1 := i7a; unfold In at a1; have a2 := ro_109_19; unfold In at a2; have a3 := i7; unfold In at a3; have a4 := i26; unfold In at a4; have a5 := t_add e26 i7 (in_c 1 rfl) rfl; have a6 := (in_c 1 rfl); unfold In at a6; omega)))
        exact gg_w (by omega) (gg_f (gf_cons rfl (gf_cons rfl (gf_cons rfl gf_nil))) (ih2 (sI (sL sc2 149 y2_2.toNatClampNeg (Int64.ofInt 9000000000000000)) 148 y2_2.toNatClampNeg (Int32.ofInt (-1))) z26 hI25 (fr_sI rfl (fr_sL rfl hFc2)) (in_w 0 32 i26 rfl) n2 (m_up mm2 (t_add e26 i7 (in_c 1 rfl) rfl) (in_w 1 1 (in_c 1 rfl) rfl))))
  refine g_enter2 (k := 356) (N := 2812960000909652) (by omega) rfl (Nat.le_of_ble_eq_true rfl) ?_
  refine g_iconst 0 1 (gd rfl) rfl rfl ?_
  refine g_istore_n 2 (gd rfl) rfl (Nat.le_of_ble_eq_true rfl) ?_
  have n2 : ∀ k : Nat, (k : Int) < ((Int32.ofInt 0)).toInt → (s.1 148 k).toInt < 0 ∧ (s.2.1 149 k).toInt = 9000000000000000 := by first | (intro k hk; exfalso; have h0 : (Int32.ofInt 0).toInt = 0 := rfl; omega) | (intro k hk; have e2 : y2_2.toNatClampNeg = y2_2.toInt.toNat := rfl; rw [sI_q, show (s).2.1 149 = vp_updL (sc2.2.1 149) y2_2.toNatClampNeg (Int64.ofInt 9000000000000000) from (by simp [sI, sL])]; by_cases c : k = y2_2.toNatClampNeg; (rw [c, ul_eq]; unfold upd; rw [if_pos rfl]; exact ⟨by decide, by have hl : InL (Int64.ofInt 9000000000000000) 9000000000000000 9000000000000000 := l_c 9000000000000000 rfl; exact Int.le_antisymm hl.2 hl.1⟩); (rw [ul_ne c]; unfold upd; rw [if_neg c]; exact g2_0 k (by have a0 := ro_109_20; unfold In at a0; have a1 := ro_109_19; unfold In at a1; have a2 := h1; unfold In at a2; have a3 := (in_c 0 rfl); unfold In at a3; omega)))
  exact gg_w (by omega) (gg_f (gf_cons rfl (gf_cons rfl (gf_cons rfl gf_nil))) (ct2 33 s (Int32.ofInt 0) hI fr_rf (in_w 0 32 (in_c 0 rfl) rfl) n2 (m_in 33 (in_w 0 32 (in_c 0 rfl) rfl) rfl)))

/-- GraphHouseModel.isFirstSort -/
theorem k_359 {Z : AmZ} {A : Nat → Nat} {s : GS} {ex : va_W} {d : Nat} {X : AmX} {x1 : Int32} (hd : 1 ≤ d) (hI : Inv s) (h1 : In x1 0 31) : GC Z d 359 [.ref (A 109), .int x1] (WW Z A s ++ ex) 0 0 (fun v u => ∃ z : Int32, v = some (.int z) ∧ u = WW Z A s ++ ex ∧ In z 0 1 ∧ (((z).toInt ≠ 0 ↔ FSQ s (x1).toNatClampNeg))) X := by
  intro post xp hP hX
  obtain ⟨u_109_18, e_109_18⟩ : ∃ w, w = s.2.2.1 109 18 := ⟨_, rfl⟩
  have ro_109_18 := inv_F hI 0 1 rfl e_109_18
  refine g_enter2 (k := 359) (N := 900) (by omega) rfl (Nat.le_of_ble_eq_true rfl) ?_
  refine g_aload_n 1 (gd rfl) rfl rfl ?_
  refine g_getA (q2 := 111) 4 (gd rfl) rfl rfl rfl rfl ?_
  refine g_bipush 32 6 (gd rfl) rfl rfl ?_
  refine g_aload_n 7 (gd rfl) rfl rfl ?_
  refine g_getI 10 (gd rfl) rfl rfl rfl (fun z7 e7 => ?_)
  have q7 : u_109_18 = z7 := (e_109_18).trans e7.symm
  subst q7
  refine g_imul 11 (gd rfl) rfl (fun z10 e10 => ?_)
  have i10 := in_mulc 32 0 32 (Or.inl e10) ro_109_18 rfl rfl
  refine g_iload_n 12 (gd rfl) rfl rfl ?_
  refine g_iadd 13 (gd rfl) rfl (fun z12 e12 => ?_)
  have i12 := in_add 0 63 e12 i10 h1 rfl rfl
  refine g_iaload 14 (gd rfl) rfl (n := 96) rfl (in_ix i12 rfl) (fun z13 e13 => ?_)
  have i13 := inv_I hI (n := 96) (t := 0) 0 25 rfl (in_ix i12 rfl) rfl e13
  refine g_bipush 13 16 (gd rfl) rfl rfl ?_
  refine g_cmp_ge 19 23 (gd rfl) rfl rfl (fun c16 => ?_) (fun c16 => ?_)
  · skip
    have i16 := r_le2 13 25 c16 (in_c 13 rfl) i13 rfl
    refine g_iconst 0 24 (gd rfl) rfl rfl ?_
    have n24 : (((Int32.ofInt 0)).toInt ≠ 0 ↔ FSQ s (x1).toNatClampNeg) := by have hx : 32 * (s.2.2.1 109 18).toNatClampNeg + x1.toNatClampNeg = z12.toNatClampNeg := (by rw [← (show u_109_18 = s.2.2.1 109 18 from e_109_18)]; show 32 * u_109_18.toInt.toNat + x1.toInt.toNat = z12.toInt.toNat; have a0 := ro_109_18; unfold In at a0; have a1 := h1; unfold In at a1; have a2 := i12; unfold In at a2; have a3 := t_add e12 i10 h1 rfl; have a4 := i10; unfold In at a4; have a5 := (t_mulc 32 (Or.inl e10) ro_109_18 rfl).1; omega); unfold FSQ; rw [hx, ← e13]; have h13 : (Int32.ofInt 13).toInt = 13 := rfl; have h := c16; first | exact ⟨fun _ => by omega, fun _ => by decide⟩ | exact ⟨fun q => absurd (by decide) q, fun q => by omega⟩
    exact g_ireturn (gd rfl) rfl (nb01 (in_w 0 1 (in_c 0 rfl) rfl)) (hP _ _ ⟨(Int32.ofInt 0), rfl, rfl, in_w 0 1 (in_c 0 rfl) rfl, n24⟩)
  · skip
    have i16 := r_lt1 0 12 c16 i13 (in_c 13 rfl) rfl
    refine g_iconst 1 20 (gd rfl) rfl rfl ?_
    refine g_goto 24 (gd rfl) rfl ?_
    have n24 : (((Int32.ofInt 1)).toInt ≠ 0 ↔ FSQ s (x1).toNatClampNeg) := by have hx : 32 * (s.2.2.1 109 18).toNatClampNeg + x1.toNatClampNeg = z12.toNatClampNeg := (by rw [← (show u_109_18 = s.2.2.1 109 18 from e_109_18)]; show 32 * u_109_18.toInt.toNat + x1.toInt.toNat = z12.toInt.toNat; have a0 := ro_109_18; unfold In at a0; have a1 := h1; unfold In at a1; have a2 := i12; unfold In at a2; have a3 := t_add e12 i10 h1 rfl; have a4 := i10; unfold In at a4; have a5 := (t_mulc 32 (Or.inl e10) ro_109_18 rfl).1; omega); unfold FSQ; rw [hx, ← e13]; have h13 : (Int32.ofInt 13).toInt = 13 := rfl; have h := c16; first | exact ⟨fun _ => by omega, fun _ => by decide⟩ | exact ⟨fun q => absurd (by decide) q, fun q => by omega⟩
    exact g_ireturn (gd rfl) rfl (nb01 (in_w 0 1 (in_c 1 rfl) rfl)) (hP _ _ ⟨(Int32.ofInt 1), rfl, rfl, in_w 0 1 (in_c 1 rfl) rfl, n24⟩)

/-- GraphHouseModel.shape -/
theorem k_301 {Z : AmZ} {A : Nat → Nat} {s : GS} {ex : va_W} {d : Nat} {X : AmX} {x1 : Int32} {x2 : Int32} (hd : 1 ≤ d) (hI : Inv s) (h1 : In x1 97 119) (h2 : In x2 0 5) : GC Z d 301 [.ref (A 109), .int x1, .int x2] (WW Z A s ++ ex) 0 0 (fun v u => ∃ z : Int32, v = some (.int z) ∧ u = WW Z A s ++ ex ∧ In z 1 3 ∧ (SHP (x1).toInt (x2).toInt (z).toInt)) X := by
  intro post xp hP hX
  refine g_enter2 (k := 301) (N := 900) (by omega) rfl (Nat.le_of_ble_eq_true rfl) ?_
  refine g_iload_n 1 (gd rfl) rfl rfl ?_
  refine g_lsw [(97, 46), (110, 36), (116, 66)] 77 (gd rfl) rfl rfl rfl ⟨fun c1 => ?_, fun c1_0 => ⟨fun c1 => ?_, fun c1_1 => ⟨fun c1 => ?_, fun c1_2 => ?_⟩⟩⟩
  · skip
    have i1 := sw_eq c1
    refine g_iload_n 47 (gd rfl) rfl rfl ?_
    refine g_iconst 4 48 (gd rfl) rfl rfl ?_
    refine g_cmp_ge 51 55 (gd rfl) rfl rfl (fun c48 => ?_) (fun c48 => ?_)
    · skip
      have i48 := r_le2 4 5 c48 (in_c 4 rfl) h2 rfl
      refine g_iload_n 56 (gd rfl) rfl rfl ?_
      refine g_iconst 4 57 (gd rfl) rfl rfl ?_
      refine g_cmp_ne 60 64 (gd rfl) rfl rfl (fun c57 => ?_) (fun c57 => ?_)
      · skip
        have i57 := r_ne1 5 5 c57 i48 (in_c 4 rfl) rfl
        refine g_iconst 3 65 (gd rfl) rfl rfl ?_
        have n65 : SHP (x1).toInt (x2).toInt ((Int32.ofInt 3)).toInt := by unfold SHP; refine ⟨fun h => ⟨fun h2 => ?_, fun h2 => ?_⟩, fun h => ⟨fun h2 => ?_, fun h2 => ?_, fun h2 => ?_⟩, fun h h2 => ⟨?_, fun h3 => ?_, fun h3 => ?_⟩⟩ <;> first | decide | (exfalso; have a0 := i57; unfold In at a0; have a1 := i1; unfold In at a1; omega) | (have a0 := i57; unfold In at a0; have a1 := i1; unfold In at a1; omega)
        exact g_ireturn (gd rfl) rfl rfl (hP _ _ ⟨(Int32.ofInt 3), rfl, rfl, in_w 1 3 (in_c 3 rfl) rfl, n65⟩)
      · skip
        have i57 := r_eq1 4 4 c57 i48 (in_c 4 rfl) rfl
        refine g_iconst 1 61 (gd rfl) rfl rfl ?_
        refine g_goto 65 (gd rfl) rfl ?_
        have n65 : SHP (x1).toInt (x2).toInt ((Int32.ofInt 1)).toInt := by unfold SHP; refine ⟨fun h => ⟨fun h2 => ?_, fun h2 => ?_⟩, fun h => ⟨fun h2 => ?_, fun h2 => ?_, fun h2 => ?_⟩, fun h h2 => ⟨?_, fun h3 => ?_, fun h3 => ?_⟩⟩ <;> first | decide | (exfalso; have a0 := i57; unfold In at a0; have a1 := i1; unfold In at a1; omega) | (have a0 := i57; unfold In at a0; have a1 := i1; unfold In at a1; omega)
        exact g_ireturn (gd rfl) rfl rfl (hP _ _ ⟨(Int32.ofInt 1), rfl, rfl, in_w 1 3 (in_c 1 rfl) rfl, n65⟩)
    · skip
      have i48 := r_lt1 0 3 c48 h2 (in_c 4 rfl) rfl
      refine g_iconst 2 52 (gd rfl) rfl rfl ?_
      refine g_goto 65 (gd rfl) rfl ?_
      have n65 : SHP (x1).toInt (x2).toInt ((Int32.ofInt 2)).toInt := by unfold SHP; refine ⟨fun h => ⟨fun h2 => ?_, fun h2 => ?_⟩, fun h => ⟨fun h2 => ?_, fun h2 => ?_, fun h2 => ?_⟩, fun h h2 => ⟨?_, fun h3 => ?_, fun h3 => ?_⟩⟩ <;> first | decide | (exfalso; have a0 := i48; unfold In at a0; have a1 := i1; unfold In at a1; omega) | (have a0 := i48; unfold In at a0; have a1 := i1; unfold In at a1; omega)
      exact g_ireturn (gd rfl) rfl rfl (hP _ _ ⟨(Int32.ofInt 2), rfl, rfl, in_w 1 3 (in_c 2 rfl) rfl, n65⟩)
  · skip
    have i1 := sw_eq c1
    refine g_iload_n 37 (gd rfl) rfl rfl ?_
    refine g_if_ne 40 44 (gd rfl) rfl rfl (fun c37 => ?_) (fun c37 => ?_)
    · skip
      have i37 := z_ne 1 5 c37 h2 rfl
      refine g_iconst 3 45 (gd rfl) rfl rfl ?_
      have n45 : SHP (x1).toInt (x2).toInt ((Int32.ofInt 3)).toInt := by unfold SHP; refine ⟨fun h => ⟨fun h2 => ?_, fun h2 => ?_⟩, fun h => ⟨fun h2 => ?_, fun h2 => ?_, fun h2 => ?_⟩, fun h h2 => ⟨?_, fun h3 => ?_, fun h3 => ?_⟩⟩ <;> first | decide | (exfalso; have a0 := i37; unfold In at a0; have a1 := i1; unfold In at a1; omega) | (have a0 := i37; unfold In at a0; have a1 := i1; unfold In at a1; omega)
      exact g_ireturn (gd rfl) rfl rfl (hP _ _ ⟨(Int32.ofInt 3), rfl, rfl, in_w 1 3 (in_c 3 rfl) rfl, n45⟩)
    · skip
      have i37 := z_eq 0 0 c37 h2 rfl
      refine g_iconst 1 41 (gd rfl) rfl rfl ?_
      refine g_goto 45 (gd rfl) rfl ?_
      have n45 : SHP (x1).toInt (x2).toInt ((Int32.ofInt 1)).toInt := by unfold SHP; refine ⟨fun h => ⟨fun h2 => ?_, fun h2 => ?_⟩, fun h => ⟨fun h2 => ?_, fun h2 => ?_, fun h2 => ?_⟩, fun h h2 => ⟨?_, fun h3 => ?_, fun h3 => ?_⟩⟩ <;> first | decide | (exfalso; have a0 := i37; unfold In at a0; have a1 := i1; unfold In at a1; omega) | (have a0 := i37; unfold In at a0; have a1 := i1; unfold In at a1; omega)
      exact g_ireturn (gd rfl) rfl rfl (hP _ _ ⟨(Int32.ofInt 1), rfl, rfl, in_w 1 3 (in_c 1 rfl) rfl, n45⟩)
  · skip
    have i1 := sw_eq c1
    refine g_iload_n 67 (gd rfl) rfl rfl ?_
    refine g_iconst 1 68 (gd rfl) rfl rfl ?_
    refine g_cmp_ge 71 75 (gd rfl) rfl rfl (fun c68 => ?_) (fun c68 => ?_)
    · skip
      have i68 := r_le2 1 5 c68 (in_c 1 rfl) h2 rfl
      refine g_iconst 3 76 (gd rfl) rfl rfl ?_
      have n76 : SHP (x1).toInt (x2).toInt ((Int32.ofInt 3)).toInt := by unfold SHP; refine ⟨fun h => ⟨fun h2 => ?_, fun h2 => ?_⟩, fun h => ⟨fun h2 => ?_, fun h2 => ?_, fun h2 => ?_⟩, fun h h2 => ⟨?_, fun h3 => ?_, fun h3 => ?_⟩⟩ <;> first | decide | (exfalso; have a0 := i68; unfold In at a0; have a1 := i1; unfold In at a1; omega) | (have a0 := i68; unfold In at a0; have a1 := i1; unfold In at a1; omega)
      exact g_ireturn (gd rfl) rfl rfl (hP _ _ ⟨(Int32.ofInt 3), rfl, rfl, in_w 1 3 (in_c 3 rfl) rfl, n76⟩)
    · skip
      have i68 := r_lt1 0 0 c68 h2 (in_c 1 rfl) rfl
      refine g_iconst 2 72 (gd rfl) rfl rfl ?_
      refine g_goto 76 (gd rfl) rfl ?_
      have n76 : SHP (x1).toInt (x2).toInt ((Int32.ofInt 2)).toInt := by unfold SHP; refine ⟨fun h => ⟨fun h2 => ?_, fun h2 => ?_⟩, fun h => ⟨fun h2 => ?_, fun h2 => ?_, fun h2 => ?_⟩, fun h h2 => ⟨?_, fun h3 => ?_, fun h3 => ?_⟩⟩ <;> first | decide | (exfalso; have a0 := i68; unfold In at a0; have a1 := i1; unfold In at a1; omega) | (have a0 := i68; unfold In at a0; have a1 := i1; unfold In at a1; omega)
      exact g_ireturn (gd rfl) rfl rfl (hP _ _ ⟨(Int32.ofInt 2), rfl, rfl, in_w 1 3 (in_c 2 rfl) rfl, n76⟩)
  · skip
    refine g_iload_n 78 (gd rfl) rfl rfl ?_
    refine g_iconst 2 79 (gd rfl) rfl rfl ?_
    refine g_cmp_ge 82 86 (gd rfl) rfl rfl (fun c79 => ?_) (fun c79 => ?_)
    · skip
      have i79 := r_le2 2 5 c79 (in_c 2 rfl) h2 rfl
      refine g_iconst 3 87 (gd rfl) rfl rfl ?_
      have n87 : SHP (x1).toInt (x2).toInt ((Int32.ofInt 3)).toInt := by unfold SHP; refine ⟨fun h => ⟨fun h2 => ?_, fun h2 => ?_⟩, fun h => ⟨fun h2 => ?_, fun h2 => ?_, fun h2 => ?_⟩, fun h h2 => ⟨?_, fun h3 => ?_, fun h3 => ?_⟩⟩ <;> first | decide | (exfalso; have a0 := i79; unfold In at a0; have a1 := h1; unfold In at a1; omega) | (have a0 := i79; unfold In at a0; have a1 := h1; unfold In at a1; omega)
      exact g_ireturn (gd rfl) rfl rfl (hP _ _ ⟨(Int32.ofInt 3), rfl, rfl, in_w 1 3 (in_c 3 rfl) rfl, n87⟩)
    · skip
      have i79 := r_lt1 0 1 c79 h2 (in_c 2 rfl) rfl
      refine g_iconst 2 83 (gd rfl) rfl rfl ?_
      refine g_goto 87 (gd rfl) rfl ?_
      have n87 : SHP (x1).toInt (x2).toInt ((Int32.ofInt 2)).toInt := by unfold SHP; refine ⟨fun h => ⟨fun h2 => ?_, fun h2 => ?_⟩, fun h => ⟨fun h2 => ?_, fun h2 => ?_, fun h2 => ?_⟩, fun h h2 => ⟨?_, fun h3 => ?_, fun h3 => ?_⟩⟩ <;> first | decide | (exfalso; have a0 := i79; unfold In at a0; have a1 := h1; unfold In at a1; omega) | (have a0 := i79; unfold In at a0; have a1 := h1; unfold In at a1; omega)
      exact g_ireturn (gd rfl) rfl rfl (hP _ _ ⟨(Int32.ofInt 2), rfl, rfl, in_w 1 3 (in_c 2 rfl) rfl, n87⟩)

def fm_316 : FM := ([129, 131], [130], [(109, 0)], [])
/-- GraphHouseModel.way -/
theorem k_316 {Z : AmZ} {A : Nat → Nat} {s : GS} {ex : va_W} {d : Nat} {X : AmX} {x1 : Int32} {x2 : Int32} {x3 : Int32} (hd : 5 ≤ d) (hI : Inv s)  : GC Z d 316 [.ref (A 109), .int x1, .int x2, .int x3] (WW Z A s ++ ex) 0 0 (fun v u => ∃ t : GS, Inv t ∧ Fr fm_316 s t ∧ ∃ z : Int32, v = some (.int z) ∧ u = WW Z A t ++ ex ∧ In z (-1) 159) X := by
  intro post xp hP hX
  obtain ⟨u_109_19, e_109_19⟩ : ∃ w, w = s.2.2.1 109 19 := ⟨_, rfl⟩
  have ro_109_19 := inv_F hI 0 160 rfl e_109_19
  obtain ⟨u_109_20, e_109_20⟩ : ∃ w, w = s.2.2.1 109 20 := ⟨_, rfl⟩
  have ro_109_20 := inv_F hI 0 32 rfl e_109_20
  have ct78 : ∀ (k78 : Nat) (sc78 : GS) (y78_4 : Int32) (y78_5 : Int32) (y78_6 : Int32) (y78_7 : Int32), Inv sc78 → Fr fm_316 s sc78 → (In x1 0 31) → (In x2 0 31) → (In x3 0 2147483646) → (In y78_5 0 31) → (In y78_6 (-1) 159) → (In y78_7 0 1000) → ((y78_4).toInt ≠ 0) → (0 ≤ (y78_7).toInt) → (WFN sc78 (x2).toNatClampNeg (y78_4)) → (bt (y78_4) (y78_5).toNatClampNeg = true) → ((sc78.1 131 (y78_5).toNatClampNeg).toInt + (y78_7).toInt = (sc78.1 131 (x1).toNatClampNeg).toInt) → ((x3).toInt < (sc78.1 131 (x1).toNatClampNeg).toInt ∧ (sc78.1 131 (x1).toNatClampNeg).toInt ≤ 1000) → 1000 - (y78_7).toInt < (k78 : Int) → GG Z (d - 1) 316 post (gx xp) (1 + k78 * 147601) 78 (fun j => xlook j [(0, .ref (A 109)), (1, .int x1), (2, .int x2), (3, .int x3), (4, .int y78_4), (5, .int y78_5), (6, .int y78_6), (7, .int y78_7)]) [] (WW Z A sc78 ++ ex) 0 0 := by
    intro k78
    induction k78 with
    | zero => intro sc78 y78_4 y78_5 y78_6 y78_7 hIc78 hFc78 j78_1 j78_2 j78_3 j78_5 j78_6 j78_7 nz78_4 n78_0 g78_0 g78_1 g78_2 g78_3 mm78; exact m_no mm78 j78_7 rfl
    | succ k78 ih78 =>
      intro sc78 y78_4 y78_5 y78_6 y78_7 hIc78 hFc78 j78_1 j78_2 j78_3 j78_5 j78_6 j78_7 nz78_4 n78_0 g78_0 g78_1 g78_2 g78_3 mm78
      refine gg_w (M := 1 + k78 * 147601 + 147601) (by omega) ?_
      have ct92 : ∀ (k92 : Nat) (sc92 : GS) (y92_6 : Int32) (y92_8 : Int32), Inv sc92 → Fr fm_316 s sc92 → (In y92_6 (-1) 159) → (In y92_8 (-1) 159) → ((y78_4).toInt ≠ 0) → ((y78_7).toInt ≤ (x3).toInt) → (0 ≤ (y78_7).toInt) → (WFN sc92 (x2).toNatClampNeg (y78_4)) → (bt (y78_4) (y78_5).toNatClampNeg = true) → ((sc92.1 131 (y78_5).toNatClampNeg).toInt + (y78_7).toInt = (sc92.1 131 (x1).toNatClampNeg).toInt) → ((x3).toInt < (sc92.1 131 (x1).toNatClampNeg).toInt ∧ (sc92.1 131 (x1).toNatClampNeg).toInt ≤ 1000) → ((∀ a : Nat, (y92_8).toInt < (a : Int) → a < 160 → WOK sc92 (y78_4) (y78_5).toNatClampNeg a → 0 ≤ (y92_6).toInt) ∧ (0 ≤ (y92_6).toInt → WOK sc92 (y78_4) (y78_5).toNatClampNeg (y92_6).toNatClampNeg)) → (y92_8).toInt - (-1) < (k92 : Int) → GG Z (d - 1) 316 post (gx xp) (1 + k78 * 147601 + 1 + k92 * 900) 92 (fun j => xlook j [(0, .ref (A 109)), (1, .int x1), (2, .int x2), (3, .int x3), (4, .int y78_4), (5, .int y78_5), (6, .int y92_6), (7, .int y78_7), (8, .int y92_8)]) [] (WW Z A sc92 ++ ex) 0 0 := by
        intro k92
        induction k92 with
        | zero => intro sc92 y92_6 y92_8 hIc92 hFc92 j92_6 j92_8 nz92_4 n92_0 n92_1 g92_0 g92_1 g92_2 g92_3 g92_4 mm92; exact m_nod mm92 j92_8 rfl
        | succ k92 ih92 =>
          intro sc92 y92_6 y92_8 hIc92 hFc92 j92_6 j92_8 nz92_4 n92_0 n92_1 g92_0 g92_1 g92_2 g92_3 g92_4 mm92
          refine gg_w (M := 1 + k78 * 147601 + 1 + k92 * 900 + 900) (by omega) ?_
          refine g_iload 94 (gd rfl) rfl rfl ?_
          refine g_if_lt 97 245 (gd rfl) rfl rfl (fun c94 => ?_) (fun c94 => ?_)
          · skip
            have i94 := z_lt (-1) (-1) c94 j92_8 rfl
            have i245 : In y92_6 0 159 := by obtain ⟨wa, wa1, wa2⟩ := (g92_0 y78_5.toNatClampNeg g92_1).2.2.2 (by have h1 := g92_2; have h2 := g92_3; have a0 := j78_7; unfold In at a0; have a1 := j78_5; unfold In at a1; have a2 := j78_2; unfold In at a2; have a3 := j78_1; unfold In at a3; have a4 := ro_109_20; unfold In at a4; have a5 := ro_109_19; unfold In at a5; have a6 := i94; unfold In at a6; have a7 := j92_6; unfold In at a7; have a8 := j78_3; unfold In at a8; omega); have hge := g92_4.1 wa (by have a0 := j78_7; unfold In at a0; have a1 := j78_5; unfold In at a1; have a2 := j78_2; unfold In at a2; have a3 := j78_1; unfold In at a3; have a4 := ro_109_20; unfold In at a4; have a5 := ro_109_19; unfold In at a5; have a6 := i94; unfold In at a6; have a7 := j92_6; unfold In at a7; have a8 := j78_3; unfold In at a8; omega) wa1 wa2; have h6 := j92_6; unfold In at h6; exact ⟨hge, by omega⟩
            refine g_aload_n 246 (gd rfl) rfl rfl ?_
            refine g_getA (q2 := 114) 249 (gd rfl) rfl rfl rfl rfl ?_
            refine g_aload_n 250 (gd rfl) rfl rfl ?_
            refine g_getI 253 (gd rfl) rfl rfl rfl (fun z250 e250 => ?_)
            have q250 : u_109_19 = z250 := (fr_F e_109_19 hFc92 rfl).trans e250.symm
            subst q250
            refine g_iload 255 (gd rfl) rfl rfl ?_
            refine g_iadd 256 (gd rfl) rfl (fun z255 e255 => ?_)
            have i255 := in_add 0 319 e255 ro_109_19 i245 rfl rfl
            refine g_iaload 257 (gd rfl) rfl (n := 480) rfl (in_ix i255 rfl) (fun z256 e256 => ?_)
            have i256 := inv_I hIc92 (n := 480) (t := 0) 0 31 rfl (in_ix i255 rfl) rfl e256
            have hw := g92_4.2 (by have h := i245; unfold In at h; omega); have hb6 : bs sc92 + y92_6.toNatClampNeg = z255.toNatClampNeg := bs_x (show u_109_19 = sc92.2.2.1 109 19 from fr_F e_109_19 hFc92 rfl) (by have a0 := j78_7; unfold In at a0; have a1 := j78_5; unfold In at a1; have a2 := j78_2; unfold In at a2; have a3 := j78_1; unfold In at a3; have a4 := ro_109_20; unfold In at a4; have a5 := ro_109_19; unfold In at a5; have a6 := i94; unfold In at a6; have a7 := i245; unfold In at a7; have a8 := j78_3; unfold In at a8; have a9 := i255; unfold In at a9; have a10 := t_add e255 ro_109_19 i245 rfl; omega) (by have a0 := j78_7; unfold In at a0; have a1 := j78_5; unfold In at a1; have a2 := j78_2; unfold In at a2; have a3 := j78_1; unfold In at a3; have a4 := ro_109_20; unfold In at a4; have a5 := ro_109_19; unfold In at a5; have a6 := i94; unfold In at a6; have a7 := i245; unfold In at a7; have a8 := j78_3; unfold In at a8; have a9 := i255; unfold In at a9; have a10 := t_add e255 ro_109_19 i245 rfl; omega) (by have a0 := j78_7; unfold In at a0; have a1 := j78_5; unfold In at a1; have a2 := j78_2; unfold In at a2; have a3 := j78_1; unfold In at a3; have a4 := ro_109_20; unfold In at a4; have a5 := ro_109_19; unfold In at a5; have a6 := i94; unfold In at a6; have a7 := i245; unfold In at a7; have a8 := j78_3; unfold In at a8; have a9 := i255; unfold In at a9; have a10 := t_add e255 ro_109_19 i245 rfl; omega); unfold WOK at hw; rw [hb6, ← e256] at hw
            refine g_istore 259 (gd rfl) rfl (Nat.le_of_ble_eq_true rfl) ?_
            refine g_iinc 262 (gd rfl) rfl rfl (Nat.le_of_ble_eq_true rfl) (fun z259 e259 => ?_)
            have i259 := in_add 1 1001 e259 j78_7 (in_c 1 rfl) rfl rfl
            refine g_goto 78 (gd rfl) rfl ?_
            have i78 : In z259 0 1000 := by have h3 := g92_3; exact ⟨by have a0 := j78_7; unfold In at a0; have a1 := j78_5; unfold In at a1; have a2 := j78_2; unfold In at a2; have a3 := j78_1; unfold In at a3; have a4 := ro_109_20; unfold In at a4; have a5 := ro_109_19; unfold In at a5; have a6 := i94; unfold In at a6; have a7 := i245; unfold In at a7; have a8 := i259; unfold In at a8; have a9 := t_add e259 j78_7 (in_c 1 rfl) rfl; have a10 := (in_c 1 rfl); unfold In at a10; have a11 := i256; unfold In at a11; have a12 := j78_3; unfold In at a12; have a13 := i255; unfold In at a13; have a14 := t_add e255 ro_109_19 i245 rfl; omega, by have a0 := j78_7; unfold In at a0; have a1 := j78_5; unfold In at a1; have a2 := j78_2; unfold In at a2; have a3 := j78_1; unfold In at a3; have a4 := ro_109_20; unfold In at a4; have a5 := ro_109_19; unfold In at a5; have a6 := i94; unfold In at a6; have a7 := i245; unfold In at a7; have a8 := i259; unfold In at a8; have a9 := t_add e259 j78_7 (in_c 1 rfl) rfl; have a10 := (in_c 1 rfl); unfold In at a10; have a11 := i256; unfold In at a11; have a12 := j78_3; unfold In at a12; have a13 := i255; unfold In at a13; have a14 := t_add e255 ro_109_19 i245 rfl; omega⟩
            have n78 : 0 ≤ (z259).toInt := by have a0 := j78_7; unfold In at a0; have a1 := j78_5; unfold In at a1; have a2 := j78_2; unfold In at a2; have a3 := j78_1; unfold In at a3; have a4 := ro_109_20; unfold In at a4; have a5 := ro_109_19; unfold In at a5; have a6 := i94; unfold In at a6; have a7 := i245; unfold In at a7; have a8 := i78; unfold In at a8; have a9 := t_add e259 j78_7 (in_c 1 rfl) rfl; have a10 := (in_c 1 rfl); unfold In at a10; have a11 := i256; unfold In at a11; have a12 := j78_3; unfold In at a12; have a13 := i255; unfold In at a13; have a14 := t_add e255 ro_109_19 i245 rfl; omega
            have n78a : WFN sc92 (x2).toNatClampNeg (y78_4) := by exact g92_0
            have n78b : bt (y78_4) (z256).toNatClampNeg = true := by exact hw.2.2.1
            have n78c : (sc92.1 131 (z256).toNatClampNeg).toInt + (z259).toInt = (sc92.1 131 (x1).toNatClampNeg).toInt := by have h1 := hw.2.2.2.2.2; have h2 := g92_2; have a0 := j78_7; unfold In at a0; have a1 := j78_5; unfold In at a1; have a2 := j78_2; unfold In at a2; have a3 := j78_1; unfold In at a3; have a4 := ro_109_20; unfold In at a4; have a5 := ro_109_19; unfold In at a5; have a6 := i94; unfold In at a6; have a7 := i245; unfold In at a7; have a8 := i78; unfold In at a8; have a9 := t_add e259 j78_7 (in_c 1 rfl) rfl; have a10 := (in_c 1 rfl); unfold In at a10; have a11 := i256; unfold In at a11; have a12 := j78_3; unfold In at a12; have a13 := i255; unfold In at a13; have a14 := t_add e255 ro_109_19 i245 rfl; omega
            have n78d : (x3).toInt < (sc92.1 131 (x1).toNatClampNeg).toInt ∧ (sc92.1 131 (x1).toNatClampNeg).toInt ≤ 1000 := by exact g92_3
            exact gg_w (by omega) (gg_f (gf_cons rfl (gf_cons rfl (gf_cons rfl (gf_cons rfl (gf_cons rfl (gf_cons rfl (gf_cons rfl (gf_cons rfl gf_nil)))))))) (ih78 sc92 y78_4 z256 y92_6 z259 hIc92 hFc92 (in_w 0 31 j78_1 rfl) (in_w 0 31 j78_2 rfl) (in_w 0 2147483646 j78_3 rfl) (in_w 0 31 i256 rfl) (in_w (-1) 159 i245 rfl) i78 nz92_4 n78 n78a n78b n78c n78d (m_up mm78 (t_add e259 j78_7 (in_c 1 rfl) rfl) (in_w 1 1 (in_c 1 rfl) rfl))))
          · skip
            have i94 := z_ge 0 159 c94 j92_8 rfl
            refine g_aload_n 98 (gd rfl) rfl rfl ?_
            refine g_getI 101 (gd rfl) rfl rfl rfl (fun z98 e98 => ?_)
            have q98 : u_109_19 = z98 := (fr_F e_109_19 hFc92 rfl).trans e98.symm
            subst q98
            refine g_iload 103 (gd rfl) rfl rfl ?_
            refine g_iadd 104 (gd rfl) rfl (fun z103 e103 => ?_)
            have i103 := in_add 0 319 e103 ro_109_19 i94 rfl rfl
            refine g_istore 106 (gd rfl) rfl (Nat.le_of_ble_eq_true rfl) ?_
            refine g_aload_n 107 (gd rfl) rfl rfl ?_
            refine g_getA (q2 := 112) 110 (gd rfl) rfl rfl rfl rfl ?_
            refine g_iload 112 (gd rfl) rfl rfl ?_
            refine g_baload 113 (gd rfl) rfl (n := 480) rfl (in_ix i103 rfl) (fun z112 e112 => ?_)
            have i112 := inv_I hIc92 (n := 480) (t := 3) 0 1 rfl (in_ix i103 rfl) rfl e112
            refine g_if_eq 116 166 (gd rfl) rfl rfl (fun c113 => ?_) (fun c113 => ?_)
            · skip
              have i113 := z_eq 0 0 c113 i112 rfl
              refine g_iconst 0 167 (gd rfl) rfl rfl ?_
              refine g_istore 169 (gd rfl) rfl (Nat.le_of_ble_eq_true rfl) ?_
              refine g_iload 171 (gd rfl) rfl rfl ?_
              refine g_if_eq 174 235 (gd rfl) rfl rfl (fun c171 => ?_) (fun c171 => ?_)
              · skip
                refine g_iload 237 (gd rfl) rfl rfl ?_
                refine g_istore 239 (gd rfl) rfl (Nat.le_of_ble_eq_true rfl) ?_
                refine g_iinc 242 (gd rfl) rfl rfl (Nat.le_of_ble_eq_true rfl) (fun z239 e239 => ?_)
                have i239 := in_add (-1) 158 e239 i94 (in_c (-1) rfl) rfl rfl
                refine g_goto 92 (gd rfl) rfl ?_
                have n92 : (y78_7).toInt ≤ (x3).toInt := by have a0 := j78_7; unfold In at a0; have a1 := j78_5; unfold In at a1; have a2 := j78_2; unfold In at a2; have a3 := j78_1; unfold In at a3; have a4 := ro_109_20; unfold In at a4; have a5 := ro_109_19; unfold In at a5; have a6 := i94; unfold In at a6; have a7 := j92_6; unfold In at a7; have a8 := (in_c 0 rfl); unfold In at a8; have a9 := i103; unfold In at a9; have a10 := t_add e103 ro_109_19 i94 rfl; have a11 := i239; unfold In at a11; have a12 := t_add e239 i94 (in_c (-1) rfl) rfl; have a13 := (in_c (-1) rfl); unfold In at a13; have a14 := j78_3; unfold In at a14; omega
                have n92a : 0 ≤ (y78_7).toInt := by have a0 := j78_7; unfold In at a0; have a1 := j78_5; unfold In at a1; have a2 := j78_2; unfold In at a2; have a3 := j78_1; unfold In at a3; have a4 := ro_109_20; unfold In at a4; have a5 := ro_109_19; unfold In at a5; have a6 := i94; unfold In at a6; have a7 := j92_6; unfold In at a7; have a8 := (in_c 0 rfl); unfold In at a8; have a9 := i103; unfold In at a9; have a10 := t_add e103 ro_109_19 i94 rfl; have a11 := i239; unfold In at a11; have a12 := t_add e239 i94 (in_c (-1) rfl) rfl; have a13 := (in_c (-1) rfl); unfold In at a13; have a14 := j78_3; unfold In at a14; omega
                have n92b : WFN sc92 (x2).toNatClampNeg (y78_4) := by exact g92_0
                have n92c : bt (y78_4) (y78_5).toNatClampNeg = true := by exact g92_1
                have n92d : (sc92.1 131 (y78_5).toNatClampNeg).toInt + (y78_7).toInt = (sc92.1 131 (x1).toNatClampNeg).toInt := by exact g92_2
                have n92e : (x3).toInt < (sc92.1 131 (x1).toNatClampNeg).toInt ∧ (sc92.1 131 (x1).toNatClampNeg).toInt ≤ 1000 := by exact g92_3
                have n92f : (∀ a : Nat, (z239).toInt < (a : Int) → a < 160 → WOK sc92 (y78_4) (y78_5).toNatClampNeg a → 0 ≤ (y92_6).toInt) ∧ (0 ≤ (y92_6).toInt → WOK sc92 (y78_4) (y78_5).toNatClampNeg (y92_6).toNatClampNeg) := by exact wa_no g92_4 (by have a0 := j78_7; unfold In at a0; have a1 := j78_5; unfold In at a1; have a2 := j78_2; unfold In at a2; have a3 := j78_1; unfold In at a3; have a4 := ro_109_20; unfold In at a4; have a5 := ro_109_19; unfold In at a5; have a6 := i94; unfold In at a6; have a7 := j92_6; unfold In at a7; have a8 := (in_c 0 rfl); unfold In at a8; have a9 := i103; unfold In at a9; have a10 := t_add e103 ro_109_19 i94 rfl; have a11 := i239; unfold In at a11; have a12 := t_add e239 i94 (in_c (-1) rfl) rfl; have a13 := (in_c (-1) rfl); unfold In at a13; have a14 := j78_3; unfold In at a14; omega) (by have a0 := j78_7; unfold In at a0; have a1 := j78_5; unfold In at a1; have a2 := j78_2; unfold In at a2; have a3 := j78_1; unfold In at a3; have a4 := ro_109_20; unfold In at a4; have a5 := ro_109_19; unfold In at a5; have a6 := i94; unfold In at a6; have a7 := j92_6; unfold In at a7; have a8 := (in_c 0 rfl); unfold In at a8; have a9 := i103; unfold In at a9; have a10 := t_add e103 ro_109_19 i94 rfl; have a11 := i239; unfold In at a11; have a12 := t_add e239 i94 (in_c (-1) rfl) rfl; have a13 := (in_c (-1) rfl); unfold In at a13; have a14 := j78_3; unfold In at a14; omega) (fun hw => by have h1 := hw.1; rw [(bs_x (x := z103) (a := y92_8) (show u_109_19 = sc92.2.2.1 109 19 from fr_F e_109_19 hFc92 rfl) (by have a0 := j78_7; unfold In at a0; have a1 := j78_5; unfold In at a1; have a2 := j78_2; unfold In at a2; have a3 := j78_1; unfold In at a3; have a4 := ro_109_20; unfold In at a4; have a5 := ro_109_19; unfold In at a5; have a6 := i94; unfold In at a6; have a7 := j92_6; unfold In at a7; have a8 := (in_c 0 rfl); unfold In at a8; have a9 := i103; unfold In at a9; have a10 := t_add e103 ro_109_19 i94 rfl; have a11 := i239; unfold In at a11; have a12 := t_add e239 i94 (in_c (-1) rfl) rfl; have a13 := (in_c (-1) rfl); unfold In at a13; have a14 := j78_3; unfold In at a14; omega) (by have a0 := j78_7; unfold In at a0; have a1 := j78_5; unfold In at a1; have a2 := j78_2; unfold In at a2; have a3 := j78_1; unfold In at a3; have a4 := ro_109_20; unfold In at a4; have a5 := ro_109_19; unfold In at a5; have a6 := i94; unfold In at a6; have a7 := j92_6; unfold In at a7; have a8 := (in_c 0 rfl); unfold In at a8; have a9 := i103; unfold In at a9; have a10 := t_add e103 ro_109_19 i94 rfl; have a11 := i239; unfold In at a11; have a12 := t_add e239 i94 (in_c (-1) rfl) rfl; have a13 := (in_c (-1) rfl); unfold In at a13; have a14 := j78_3; unfold In at a14; omega) (by have a0 := j78_7; unfold In at a0; have a1 := j78_5; unfold In at a1; have a2 := j78_2; unfold In at a2; have a3 := j78_1; unfold In at a3; have a4 := ro_109_20; unfold In at a4; have a5 := ro_109_19; unfold In at a5; have a6 := i94; unfold In at a6; have a7 := j92_6; unfold In at a7; have a8 := (in_c 0 rfl); unfold In at a8; have a9 := i103; unfold In at a9; have a10 := t_add e103 ro_109_19 i94 rfl; have a11 := i239; unfold In at a11; have a12 := t_add e239 i94 (in_c (-1) rfl) rfl; have a13 := (in_c (-1) rfl); unfold In at a13; have a14 := j78_3; unfold In at a14; omega)), ← e112] at h1; exact h1 c113)
                exact gg_w (by omega) (gg_f (gf_cons rfl (gf_cons rfl (gf_cons rfl (gf_cons rfl (gf_cons rfl (gf_cons rfl (gf_cons rfl (gf_cons rfl (gf_cons rfl gf_nil))))))))) (ih92 sc92 y92_6 z239 hIc92 hFc92 (in_w (-1) 159 j92_6 rfl) (in_w (-1) 159 i239 rfl) nz92_4 n92 n92a n92b n92c n92d n92e n92f (m_dn mm92 (t_add e239 i94 (in_c (-1) rfl) rfl) (in_w (-1) (-1) (in_c (-1) rfl) rfl))))
              · skip
                exact zn_ne c171 (in_c 0 rfl) rfl
            · skip
              have i113 := z_ne 1 1 c113 i112 rfl
              refine g_aload_n 117 (gd rfl) rfl rfl ?_
              refine g_getA (q2 := 113) 120 (gd rfl) rfl rfl rfl rfl ?_
              refine g_iload 122 (gd rfl) rfl rfl ?_
              refine g_iaload 123 (gd rfl) rfl (n := 480) rfl (in_ix i103 rfl) (fun z122 e122 => ?_)
              have i122 := inv_I hIc92 (n := 480) (t := 0) 0 31 rfl (in_ix i103 rfl) rfl e122
              refine g_iload 125 (gd rfl) rfl rfl ?_
              refine g_cmp_ne 128 166 (gd rfl) rfl rfl (fun c125 => ?_) (fun c125 => ?_)
              · skip
                refine g_iconst 0 167 (gd rfl) rfl rfl ?_
                refine g_istore 169 (gd rfl) rfl (Nat.le_of_ble_eq_true rfl) ?_
                refine g_iload 171 (gd rfl) rfl rfl ?_
                refine g_if_eq 174 235 (gd rfl) rfl rfl (fun c171 => ?_) (fun c171 => ?_)
                · skip
                  refine g_iload 237 (gd rfl) rfl rfl ?_
                  refine g_istore 239 (gd rfl) rfl (Nat.le_of_ble_eq_true rfl) ?_
                  refine g_iinc 242 (gd rfl) rfl rfl (Nat.le_of_ble_eq_true rfl) (fun z239 e239 => ?_)
                  have i239 := in_add (-1) 158 e239 i94 (in_c (-1) rfl) rfl rfl
                  refine g_goto 92 (gd rfl) rfl ?_
                  have n92 : (y78_7).toInt ≤ (x3).toInt := by have a0 := j78_7; unfold In at a0; have a1 := j78_5; unfold In at a1; have a2 := j78_2; unfold In at a2; have a3 := j78_1; unfold In at a3; have a4 := ro_109_20; unfold In at a4; have a5 := ro_109_19; unfold In at a5; have a6 := i94; unfold In at a6; have a7 := j92_6; unfold In at a7; have a8 := (in_c 0 rfl); unfold In at a8; have a9 := i103; unfold In at a9; have a10 := t_add e103 ro_109_19 i94 rfl; have a11 := i239; unfold In at a11; have a12 := t_add e239 i94 (in_c (-1) rfl) rfl; have a13 := (in_c (-1) rfl); unfold In at a13; have a14 := j78_3; unfold In at a14; omega
                  have n92a : 0 ≤ (y78_7).toInt := by have a0 := j78_7; unfold In at a0; have a1 := j78_5; unfold In at a1; have a2 := j78_2; unfold In at a2; have a3 := j78_1; unfold In at a3; have a4 := ro_109_20; unfold In at a4; have a5 := ro_109_19; unfold In at a5; have a6 := i94; unfold In at a6; have a7 := j92_6; unfold In at a7; have a8 := (in_c 0 rfl); unfold In at a8; have a9 := i103; unfold In at a9; have a10 := t_add e103 ro_109_19 i94 rfl; have a11 := i239; unfold In at a11; have a12 := t_add e239 i94 (in_c (-1) rfl) rfl; have a13 := (in_c (-1) rfl); unfold In at a13; have a14 := j78_3; unfold In at a14; omega
                  have n92b : WFN sc92 (x2).toNatClampNeg (y78_4) := by exact g92_0
                  have n92c : bt (y78_4) (y78_5).toNatClampNeg = true := by exact g92_1
                  have n92d : (sc92.1 131 (y78_5).toNatClampNeg).toInt + (y78_7).toInt = (sc92.1 131 (x1).toNatClampNeg).toInt := by exact g92_2
                  have n92e : (x3).toInt < (sc92.1 131 (x1).toNatClampNeg).toInt ∧ (sc92.1 131 (x1).toNatClampNeg).toInt ≤ 1000 := by exact g92_3
                  have n92f : (∀ a : Nat, (z239).toInt < (a : Int) → a < 160 → WOK sc92 (y78_4) (y78_5).toNatClampNeg a → 0 ≤ (y92_6).toInt) ∧ (0 ≤ (y92_6).toInt → WOK sc92 (y78_4) (y78_5).toNatClampNeg (y92_6).toNatClampNeg) := by exact wa_no g92_4 (by have a0 := j78_7; unfold In at a0; have a1 := j78_5; unfold In at a1; have a2 := j78_2; unfold In at a2; have a3 := j78_1; unfold In at a3; have a4 := ro_109_20; unfold In at a4; have a5 := ro_109_19; unfold In at a5; have a6 := i94; unfold In at a6; have a7 := j92_6; unfold In at a7; have a8 := (in_c 0 rfl); unfold In at a8; have a9 := i103; unfold In at a9; have a10 := t_add e103 ro_109_19 i94 rfl; have a11 := i239; unfold In at a11; have a12 := t_add e239 i94 (in_c (-1) rfl) rfl; have a13 := (in_c (-1) rfl); unfold In at a13; have a14 := j78_3; unfold In at a14; omega) (by have a0 := j78_7; unfold In at a0; have a1 := j78_5; unfold In at a1; have a2 := j78_2; unfold In at a2; have a3 := j78_1; unfold In at a3; have a4 := ro_109_20; unfold In at a4; have a5 := ro_109_19; unfold In at a5; have a6 := i94; unfold In at a6; have a7 := j92_6; unfold In at a7; have a8 := (in_c 0 rfl); unfold In at a8; have a9 := i103; unfold In at a9; have a10 := t_add e103 ro_109_19 i94 rfl; have a11 := i239; unfold In at a11; have a12 := t_add e239 i94 (in_c (-1) rfl) rfl; have a13 := (in_c (-1) rfl); unfold In at a13; have a14 := j78_3; unfold In at a14; omega) (fun hw => by have h1 := hw.2.1; rw [(bs_x (x := z103) (a := y92_8) (show u_109_19 = sc92.2.2.1 109 19 from fr_F e_109_19 hFc92 rfl) (by have a0 := j78_7; unfold In at a0; have a1 := j78_5; unfold In at a1; have a2 := j78_2; unfold In at a2; have a3 := j78_1; unfold In at a3; have a4 := ro_109_20; unfold In at a4; have a5 := ro_109_19; unfold In at a5; have a6 := i94; unfold In at a6; have a7 := j92_6; unfold In at a7; have a8 := (in_c 0 rfl); unfold In at a8; have a9 := i103; unfold In at a9; have a10 := t_add e103 ro_109_19 i94 rfl; have a11 := i239; unfold In at a11; have a12 := t_add e239 i94 (in_c (-1) rfl) rfl; have a13 := (in_c (-1) rfl); unfold In at a13; have a14 := j78_3; unfold In at a14; omega) (by have a0 := j78_7; unfold In at a0; have a1 := j78_5; unfold In at a1; have a2 := j78_2; unfold In at a2; have a3 := j78_1; unfold In at a3; have a4 := ro_109_20; unfold In at a4; have a5 := ro_109_19; unfold In at a5; have a6 := i94; unfold In at a6; have a7 := j92_6; unfold In at a7; have a8 := (in_c 0 rfl); unfold In at a8; have a9 := i103; unfold In at a9; have a10 := t_add e103 ro_109_19 i94 rfl; have a11 := i239; unfold In at a11; have a12 := t_add e239 i94 (in_c (-1) rfl) rfl; have a13 := (in_c (-1) rfl); unfold In at a13; have a14 := j78_3; unfold In at a14; omega) (by have a0 := j78_7; unfold In at a0; have a1 := j78_5; unfold In at a1; have a2 := j78_2; unfold In at a2; have a3 := j78_1; unfold In at a3; have a4 := ro_109_20; unfold In at a4; have a5 := ro_109_19; unfold In at a5; have a6 := i94; unfold In at a6; have a7 := j92_6; unfold In at a7; have a8 := (in_c 0 rfl); unfold In at a8; have a9 := i103; unfold In at a9; have a10 := t_add e103 ro_109_19 i94 rfl; have a11 := i239; unfold In at a11; have a12 := t_add e239 i94 (in_c (-1) rfl) rfl; have a13 := (in_c (-1) rfl); unfold In at a13; have a14 := j78_3; unfold In at a14; omega)), ← e122] at h1; have r1 := i122; have r2 := j78_5; unfold In at r1 r2; have e5 : y78_5.toNatClampNeg = y78_5.toInt.toNat := rfl; have e6 : z122.toNatClampNeg = z122.toInt.toNat := rfl; have hc := c125; omega)
                  exact gg_w (by omega) (gg_f (gf_cons rfl (gf_cons rfl (gf_cons rfl (gf_cons rfl (gf_cons rfl (gf_cons rfl (gf_cons rfl (gf_cons rfl (gf_cons rfl gf_nil))))))))) (ih92 sc92 y92_6 z239 hIc92 hFc92 (in_w (-1) 159 j92_6 rfl) (in_w (-1) 159 i239 rfl) nz92_4 n92 n92a n92b n92c n92d n92e n92f (m_dn mm92 (t_add e239 i94 (in_c (-1) rfl) rfl) (in_w (-1) (-1) (in_c (-1) rfl) rfl))))
                · skip
                  exact zn_ne c171 (in_c 0 rfl) rfl
              · skip
                refine g_iload 130 (gd rfl) rfl rfl ?_
                refine g_aload_n 131 (gd rfl) rfl rfl ?_
                refine g_getA (q2 := 114) 134 (gd rfl) rfl rfl rfl rfl ?_
                refine g_iload 136 (gd rfl) rfl rfl ?_
                refine g_iaload 137 (gd rfl) rfl (n := 480) rfl (in_ix i103 rfl) (fun z136 e136 => ?_)
                have i136 := inv_I hIc92 (n := 480) (t := 0) 0 31 rfl (in_ix i103 rfl) rfl e136
                refine g_calls (As := [.int y78_4, .int z136]) (r := []) 140 (gd rfl) rfl rfl rfl rfl rfl (Nat.le_of_ble_eq_true rfl) (mc := 0) (ms := 0) (Nat.zero_le _) (Nat.zero_le _) (P := fun v u => _) ?_ (fun v u h => h)
                intro po137 xx137 hp137 hx137
                refine g_enter2 (k := 311) (N := 300) (by omega) rfl (Nat.le_of_ble_eq_true rfl) ?_
                refine g_iload_n 1 (gd rfl) rfl rfl ?_
                refine g_iload_n 2 (gd rfl) rfl rfl ?_
                refine g_ishr 3 (gd rfl) rfl (fun z137x2 e137x2 => ?_)
                refine g_iconst 1 4 (gd rfl) rfl rfl ?_
                refine g_iand 5 (gd rfl) rfl (fun z137x4 e137x4 => ?_)
                have i137x4 := in_and2 e137x4 (in_c 1 rfl) rfl
                refine g_iconst 1 6 (gd rfl) rfl rfl ?_
                refine g_cmp_ne 9 13 (gd rfl) rfl rfl (fun c137x6 => ?_) (fun c137x6 => ?_)
                · skip
                  have i137x6 := r_ne1 0 0 c137x6 i137x4 (in_c 1 rfl) rfl
                  refine g_iconst 0 14 (gd rfl) rfl rfl ?_
                  refine g_ireturn (gd rfl) rfl (nb01 (in_w 0 1 (in_c 0 rfl) rfl)) (hp137 _ _ ?_)
                  show GG _ _ _ _ _ _ _ _ [.int (Int32.ofInt 0)] _ _ _
                  refine g_if_eq 143 166 (gd rfl) rfl rfl (fun c140 => ?_) (fun c140 => ?_)
                  · skip
                    refine g_iconst 0 167 (gd rfl) rfl rfl ?_
                    refine g_istore 169 (gd rfl) rfl (Nat.le_of_ble_eq_true rfl) ?_
                    refine g_iload 171 (gd rfl) rfl rfl ?_
                    refine g_if_eq 174 235 (gd rfl) rfl rfl (fun c171 => ?_) (fun c171 => ?_)
                    · skip
                      refine g_iload 237 (gd rfl) rfl rfl ?_
                      refine g_istore 239 (gd rfl) rfl (Nat.le_of_ble_eq_true rfl) ?_
                      refine g_iinc 242 (gd rfl) rfl rfl (Nat.le_of_ble_eq_true rfl) (fun z239 e239 => ?_)
                      have i239 := in_add (-1) 158 e239 i94 (in_c (-1) rfl) rfl rfl
                      refine g_goto 92 (gd rfl) rfl ?_
                      have n92 : (y78_7).toInt ≤ (x3).toInt := by have a0 := j78_7; unfold In at a0; have a1 := j78_5; unfold In at a1; have a2 := j78_2; unfold In at a2; have a3 := j78_1; unfold In at a3; have a4 := ro_109_20; unfold In at a4; have a5 := ro_109_19; unfold In at a5; have a6 := i94; unfold In at a6; have a7 := j92_6; unfold In at a7; have a8 := (in_c 0 rfl); unfold In at a8; have a9 := i103; unfold In at a9; have a10 := t_add e103 ro_109_19 i94 rfl; have a11 := i239; unfold In at a11; have a12 := t_add e239 i94 (in_c (-1) rfl) rfl; have a13 := (in_c (-1) rfl); unfold In at a13; have a14 := j78_3; unfold In at a14; omega
                      have n92a : 0 ≤ (y78_7).toInt := by have a0 := j78_7; unfold In at a0; have a1 := j78_5; unfold In at a1; have a2 := j78_2; unfold In at a2; have a3 := j78_1; unfold In at a3; have a4 := ro_109_20; unfold In at a4; have a5 := ro_109_19; unfold In at a5; have a6 := i94; unfold In at a6; have a7 := j92_6; unfold In at a7; have a8 := (in_c 0 rfl); unfold In at a8; have a9 := i103; unfold In at a9; have a10 := t_add e103 ro_109_19 i94 rfl; have a11 := i239; unfold In at a11; have a12 := t_add e239 i94 (in_c (-1) rfl) rfl; have a13 := (in_c (-1) rfl); unfold In at a13; have a14 := j78_3; unfold In at a14; omega
                      have n92b : WFN sc92 (x2).toNatClampNeg (y78_4) := by exact g92_0
                      have n92c : bt (y78_4) (y78_5).toNatClampNeg = true := by exact g92_1
                      have n92d : (sc92.1 131 (y78_5).toNatClampNeg).toInt + (y78_7).toInt = (sc92.1 131 (x1).toNatClampNeg).toInt := by exact g92_2
                      have n92e : (x3).toInt < (sc92.1 131 (x1).toNatClampNeg).toInt ∧ (sc92.1 131 (x1).toNatClampNeg).toInt ≤ 1000 := by exact g92_3
                      have n92f : (∀ a : Nat, (z239).toInt < (a : Int) → a < 160 → WOK sc92 (y78_4) (y78_5).toNatClampNeg a → 0 ≤ (y92_6).toInt) ∧ (0 ≤ (y92_6).toInt → WOK sc92 (y78_4) (y78_5).toNatClampNeg (y92_6).toNatClampNeg) := by exact wa_no g92_4 (by have a0 := j78_7; unfold In at a0; have a1 := j78_5; unfold In at a1; have a2 := j78_2; unfold In at a2; have a3 := j78_1; unfold In at a3; have a4 := ro_109_20; unfold In at a4; have a5 := ro_109_19; unfold In at a5; have a6 := i94; unfold In at a6; have a7 := j92_6; unfold In at a7; have a8 := (in_c 0 rfl); unfold In at a8; have a9 := i103; unfold In at a9; have a10 := t_add e103 ro_109_19 i94 rfl; have a11 := i239; unfold In at a11; have a12 := t_add e239 i94 (in_c (-1) rfl) rfl; have a13 := (in_c (-1) rfl); unfold In at a13; have a14 := j78_3; unfold In at a14; omega) (by have a0 := j78_7; unfold In at a0; have a1 := j78_5; unfold In at a1; have a2 := j78_2; unfold In at a2; have a3 := j78_1; unfold In at a3; have a4 := ro_109_20; unfold In at a4; have a5 := ro_109_19; unfold In at a5; have a6 := i94; unfold In at a6; have a7 := j92_6; unfold In at a7; have a8 := (in_c 0 rfl); unfold In at a8; have a9 := i103; unfold In at a9; have a10 := t_add e103 ro_109_19 i94 rfl; have a11 := i239; unfold In at a11; have a12 := t_add e239 i94 (in_c (-1) rfl) rfl; have a13 := (in_c (-1) rfl); unfold In at a13; have a14 := j78_3; unfold In at a14; omega) (fun hw => by have h1 := hw.2.2.1; have hb := bt_no e137x2 e137x4 i136 c137x6; rw [(bs_x (x := z103) (a := y92_8) (show u_109_19 = sc92.2.2.1 109 19 from fr_F e_109_19 hFc92 rfl) (by have a0 := j78_7; unfold In at a0; have a1 := j78_5; unfold In at a1; have a2 := j78_2; unfold In at a2; have a3 := j78_1; unfold In at a3; have a4 := ro_109_20; unfold In at a4; have a5 := ro_109_19; unfold In at a5; have a6 := i94; unfold In at a6; have a7 := j92_6; unfold In at a7; have a8 := (in_c 0 rfl); unfold In at a8; have a9 := i103; unfold In at a9; have a10 := t_add e103 ro_109_19 i94 rfl; have a11 := i239; unfold In at a11; have a12 := t_add e239 i94 (in_c (-1) rfl) rfl; have a13 := (in_c (-1) rfl); unfold In at a13; have a14 := j78_3; unfold In at a14; omega) (by have a0 := j78_7; unfold In at a0; have a1 := j78_5; unfold In at a1; have a2 := j78_2; unfold In at a2; have a3 := j78_1; unfold In at a3; have a4 := ro_109_20; unfold In at a4; have a5 := ro_109_19; unfold In at a5; have a6 := i94; unfold In at a6; have a7 := j92_6; unfold In at a7; have a8 := (in_c 0 rfl); unfold In at a8; have a9 := i103; unfold In at a9; have a10 := t_add e103 ro_109_19 i94 rfl; have a11 := i239; unfold In at a11; have a12 := t_add e239 i94 (in_c (-1) rfl) rfl; have a13 := (in_c (-1) rfl); unfold In at a13; have a14 := j78_3; unfold In at a14; omega) (by have a0 := j78_7; unfold In at a0; have a1 := j78_5; unfold In at a1; have a2 := j78_2; unfold In at a2; have a3 := j78_1; unfold In at a3; have a4 := ro_109_20; unfold In at a4; have a5 := ro_109_19; unfold In at a5; have a6 := i94; unfold In at a6; have a7 := j92_6; unfold In at a7; have a8 := (in_c 0 rfl); unfold In at a8; have a9 := i103; unfold In at a9; have a10 := t_add e103 ro_109_19 i94 rfl; have a11 := i239; unfold In at a11; have a12 := t_add e239 i94 (in_c (-1) rfl) rfl; have a13 := (in_c (-1) rfl); unfold In at a13; have a14 := j78_3; unfold In at a14; omega)), ← e136, hb] at h1; cases h1)
                      exact gg_w (by omega) (gg_f (gf_cons rfl (gf_cons rfl (gf_cons rfl (gf_cons rfl (gf_cons rfl (gf_cons rfl (gf_cons rfl (gf_cons rfl (gf_cons rfl gf_nil))))))))) (ih92 sc92 y92_6 z239 hIc92 hFc92 (in_w (-1) 159 j92_6 rfl) (in_w (-1) 159 i239 rfl) nz92_4 n92 n92a n92b n92c n92d n92e n92f (m_dn mm92 (t_add e239 i94 (in_c (-1) rfl) rfl) (in_w (-1) (-1) (in_c (-1) rfl) rfl))))
                    · skip
                      exact zn_ne c171 (in_c 0 rfl) rfl
                  · skip
                    exact zn_ne c140 (in_c 0 rfl) rfl
                · skip
                  have i137x6 := r_eq1 1 1 c137x6 i137x4 (in_c 1 rfl) rfl
                  refine g_iconst 1 10 (gd rfl) rfl rfl ?_
                  refine g_goto 14 (gd rfl) rfl ?_
                  refine g_ireturn (gd rfl) rfl (nb01 (in_w 0 1 (in_c 1 rfl) rfl)) (hp137 _ _ ?_)
                  show GG _ _ _ _ _ _ _ _ [.int (Int32.ofInt 1)] _ _ _
                  refine g_if_eq 143 166 (gd rfl) rfl rfl (fun c140 => ?_) (fun c140 => ?_)
                  · skip
                    exact zn_eq c140 (in_c 1 rfl) rfl
                  · skip
                    refine g_aload_n 144 (gd rfl) rfl rfl ?_
                    refine g_getA (q2 := 130) 147 (gd rfl) rfl rfl rfl rfl ?_
                    refine g_aload_n 148 (gd rfl) rfl rfl ?_
                    refine g_getA (q2 := 114) 151 (gd rfl) rfl rfl rfl rfl ?_
                    refine g_iload 153 (gd rfl) rfl rfl ?_
                    refine g_iaload 154 (gd rfl) rfl (n := 480) rfl (in_ix i103 rfl) (fun z153 e153 => ?_)
                    have q153 : z136 = z153 := (e136).trans e153.symm
                    subst q153
                    refine g_laload 155 (gd rfl) rfl (n := 32) rfl (in_ix i136 rfl) (fun z154 e154 => ?_)
                    refine g_ldc2_w 9000000000000000 158 (gd rfl) rfl rfl ?_
                    refine g_lcmp 159 (gd rfl) rfl (fun z158 e158 => ?_)
                    have i158 := lc_in e158
                    refine g_if_ge 162 166 (gd rfl) rfl rfl (fun c159 => ?_) (fun c159 => ?_)
                    · skip
                      have i159 := z_ge 0 1 c159 i158 rfl
                      have c159a := lc_ge e158 c159
                      have i159a := lr_le2 9000000000000000 9223372036854775807 c159a (l_c 9000000000000000 rfl) (l_rng z154) rfl
                      refine g_iconst 0 167 (gd rfl) rfl rfl ?_
                      refine g_istore 169 (gd rfl) rfl (Nat.le_of_ble_eq_true rfl) ?_
                      refine g_iload 171 (gd rfl) rfl rfl ?_
                      refine g_if_eq 174 235 (gd rfl) rfl rfl (fun c171 => ?_) (fun c171 => ?_)
                      · skip
                        refine g_iload 237 (gd rfl) rfl rfl ?_
                        refine g_istore 239 (gd rfl) rfl (Nat.le_of_ble_eq_true rfl) ?_
                        refine g_iinc 242 (gd rfl) rfl rfl (Nat.le_of_ble_eq_true rfl) (fun z239 e239 => ?_)
                        have i239 := in_add (-1) 158 e239 i94 (in_c (-1) rfl) rfl rfl
                        refine g_goto 92 (gd rfl) rfl ?_
                        have n92 : (y78_7).toInt ≤ (x3).toInt := by have a0 := j78_7; unfold In at a0; have a1 := j78_5; unfold In at a1; have a2 := j78_2; unfold In at a2; have a3 := j78_1; unfold In at a3; have a4 := ro_109_20; unfold In at a4; have a5 := ro_109_19; unfold In at a5; have a6 := i94; unfold In at a6; have a7 := j92_6; unfold In at a7; have a8 := (in_c 0 rfl); unfold In at a8; have a9 := i103; unfold In at a9; have a10 := t_add e103 ro_109_19 i94 rfl; have a11 := i239; unfold In at a11; have a12 := t_add e239 i94 (in_c (-1) rfl) rfl; have a13 := (in_c (-1) rfl); unfold In at a13; have a14 := j78_3; unfold In at a14; omega
                        have n92a : 0 ≤ (y78_7).toInt := by have a0 := j78_7; unfold In at a0; have a1 := j78_5; unfold In at a1; have a2 := j78_2; unfold In at a2; have a3 := j78_1; unfold In at a3; have a4 := ro_109_20; unfold In at a4; have a5 := ro_109_19; unfold In at a5; have a6 := i94; unfold In at a6; have a7 := j92_6; unfold In at a7; have a8 := (in_c 0 rfl); unfold In at a8; have a9 := i103; unfold In at a9; have a10 := t_add e103 ro_109_19 i94 rfl; have a11 := i239; unfold In at a11; have a12 := t_add e239 i94 (in_c (-1) rfl) rfl; have a13 := (in_c (-1) rfl); unfold In at a13; have a14 := j78_3; unfold In at a14; omega
                        have n92b : WFN sc92 (x2).toNatClampNeg (y78_4) := by exact g92_0
                        have n92c : bt (y78_4) (y78_5).toNatClampNeg = true := by exact g92_1
                        have n92d : (sc92.1 131 (y78_5).toNatClampNeg).toInt + (y78_7).toInt = (sc92.1 131 (x1).toNatClampNeg).toInt := by exact g92_2
                        have n92e : (x3).toInt < (sc92.1 131 (x1).toNatClampNeg).toInt ∧ (sc92.1 131 (x1).toNatClampNeg).toInt ≤ 1000 := by exact g92_3
                        have n92f : (∀ a : Nat, (z239).toInt < (a : Int) → a < 160 → WOK sc92 (y78_4) (y78_5).toNatClampNeg a → 0 ≤ (y92_6).toInt) ∧ (0 ≤ (y92_6).toInt → WOK sc92 (y78_4) (y78_5).toNatClampNeg (y92_6).toNatClampNeg) := by exact wa_no g92_4 (by have a0 := j78_7; unfold In at a0; have a1 := j78_5; unfold In at a1; have a2 := j78_2; unfold In at a2; have a3 := j78_1; unfold In at a3; have a4 := ro_109_20; unfold In at a4; have a5 := ro_109_19; unfold In at a5; have a6 := i94; unfold In at a6; have a7 := j92_6; unfold In at a7; have a8 := (in_c 0 rfl); unfold In at a8; have a9 := i103; unfold In at a9; have a10 := t_add e103 ro_109_19 i94 rfl; have a11 := i239; unfold In at a11; have a12 := t_add e239 i94 (in_c (-1) rfl) rfl; have a13 := (in_c (-1) rfl); unfold In at a13; have a14 := j78_3; unfold In at a14; omega) (by have a0 := j78_7; unfold In at a0; have a1 := j78_5; unfold In at a1; have a2 := j78_2; unfold In at a2; have a3 := j78_1; unfold In at a3; have a4 := ro_109_20; unfold In at a4; have a5 := ro_109_19; unfold In at a5; have a6 := i94; unfold In at a6; have a7 := j92_6; unfold In at a7; have a8 := (in_c 0 rfl); unfold In at a8; have a9 := i103; unfold In at a9; have a10 := t_add e103 ro_109_19 i94 rfl; have a11 := i239; unfold In at a11; have a12 := t_add e239 i94 (in_c (-1) rfl) rfl; have a13 := (in_c (-1) rfl); unfold In at a13; have a14 := j78_3; unfold In at a14; omega) (fun hw => by have h1 := hw.2.2.2.1; rw [(bs_x (x := z103) (a := y92_8) (show u_109_19 = sc92.2.2.1 109 19 from fr_F e_109_19 hFc92 rfl) (by have a0 := j78_7; unfold In at a0; have a1 := j78_5; unfold In at a1; have a2 := j78_2; unfold In at a2; have a3 := j78_1; unfold In at a3; have a4 := ro_109_20; unfold In at a4; have a5 := ro_109_19; unfold In at a5; have a6 := i94; unfold In at a6; have a7 := j92_6; unfold In at a7; have a8 := (in_c 0 rfl); unfold In at a8; have a9 := i103; unfold In at a9; have a10 := t_add e103 ro_109_19 i94 rfl; have a11 := i239; unfold In at a11; have a12 := t_add e239 i94 (in_c (-1) rfl) rfl; have a13 := (in_c (-1) rfl); unfold In at a13; have a14 := j78_3; unfold In at a14; omega) (by have a0 := j78_7; unfold In at a0; have a1 := j78_5; unfold In at a1; have a2 := j78_2; unfold In at a2; have a3 := j78_1; unfold In at a3; have a4 := ro_109_20; unfold In at a4; have a5 := ro_109_19; unfold In at a5; have a6 := i94; unfold In at a6; have a7 := j92_6; unfold In at a7; have a8 := (in_c 0 rfl); unfold In at a8; have a9 := i103; unfold In at a9; have a10 := t_add e103 ro_109_19 i94 rfl; have a11 := i239; unfold In at a11; have a12 := t_add e239 i94 (in_c (-1) rfl) rfl; have a13 := (in_c (-1) rfl); unfold In at a13; have a14 := j78_3; unfold In at a14; omega) (by have a0 := j78_7; unfold In at a0; have a1 := j78_5; unfold In at a1; have a2 := j78_2; unfold In at a2; have a3 := j78_1; unfold In at a3; have a4 := ro_109_20; unfold In at a4; have a5 := ro_109_19; unfold In at a5; have a6 := i94; unfold In at a6; have a7 := j92_6; unfold In at a7; have a8 := (in_c 0 rfl); unfold In at a8; have a9 := i103; unfold In at a9; have a10 := t_add e103 ro_109_19 i94 rfl; have a11 := i239; unfold In at a11; have a12 := t_add e239 i94 (in_c (-1) rfl) rfl; have a13 := (in_c (-1) rfl); unfold In at a13; have a14 := j78_3; unfold In at a14; omega)), ← e136, ← e154] at h1; have h := i159a.1; omega)
                        exact gg_w (by omega) (gg_f (gf_cons rfl (gf_cons rfl (gf_cons rfl (gf_cons rfl (gf_cons rfl (gf_cons rfl (gf_cons rfl (gf_cons rfl (gf_cons rfl gf_nil))))))))) (ih92 sc92 y92_6 z239 hIc92 hFc92 (in_w (-1) 159 j92_6 rfl) (in_w (-1) 159 i239 rfl) nz92_4 n92 n92a n92b n92c n92d n92e n92f (m_dn mm92 (t_add e239 i94 (in_c (-1) rfl) rfl) (in_w (-1) (-1) (in_c (-1) rfl) rfl))))
                      · skip
                        exact zn_ne c171 (in_c 0 rfl) rfl
                    · skip
                      have i159 := z_lt (-1) (-1) c159 i158 rfl
                      have c159a := lc_lt e158 c159
                      have i159a := lr_lt1 (-9223372036854775808) 8999999999999999 c159a (l_rng z154) (l_c 9000000000000000 rfl) rfl
                      refine g_iconst 1 163 (gd rfl) rfl rfl ?_
                      refine g_goto 167 (gd rfl) rfl ?_
                      refine g_istore 169 (gd rfl) rfl (Nat.le_of_ble_eq_true rfl) ?_
                      refine g_iload 171 (gd rfl) rfl rfl ?_
                      refine g_if_eq 174 235 (gd rfl) rfl rfl (fun c171 => ?_) (fun c171 => ?_)
                      · skip
                        exact zn_eq c171 (in_c 1 rfl) rfl
                      · skip
                        refine g_aload_n 175 (gd rfl) rfl rfl ?_
                        refine g_getA (q2 := 130) 178 (gd rfl) rfl rfl rfl rfl ?_
                        refine g_iload 180 (gd rfl) rfl rfl ?_
                        refine g_laload 181 (gd rfl) rfl (n := 32) rfl (in_ix j78_5 rfl) (fun z180 e180 => ?_)
                        refine g_aload_n 182 (gd rfl) rfl rfl ?_
                        refine g_getA (q2 := 130) 185 (gd rfl) rfl rfl rfl rfl ?_
                        refine g_aload_n 186 (gd rfl) rfl rfl ?_
                        refine g_getA (q2 := 114) 189 (gd rfl) rfl rfl rfl rfl ?_
                        refine g_iload 191 (gd rfl) rfl rfl ?_
                        refine g_iaload 192 (gd rfl) rfl (n := 480) rfl (in_ix i103 rfl) (fun z191 e191 => ?_)
                        have q191 : z136 = z191 := (e136).trans e191.symm
                        subst q191
                        refine g_laload 193 (gd rfl) rfl (n := 32) rfl (in_ix i136 rfl) (fun z192 e192 => ?_)
                        refine g_aload_n 194 (gd rfl) rfl rfl ?_
                        refine g_getA (q2 := 115) 197 (gd rfl) rfl rfl rfl rfl ?_
                        refine g_iload 199 (gd rfl) rfl rfl ?_
                        refine g_iaload 200 (gd rfl) rfl (n := 480) rfl (in_ix i103 rfl) (fun z199 e199 => ?_)
                        have i199 := inv_I hIc92 (n := 480) (t := 0) (-1000000) 1000000 rfl (in_ix i103 rfl) rfl e199
                        refine g_i2l 201 (gd rfl) rfl (fun z200 e200 => ?_)
                        have i200 := l_i e200 i199
                        refine g_ladd 202 (gd rfl) rfl (fun z201 e201 => ?_)
                        refine g_lcmp 203 (gd rfl) rfl (fun z202 e202 => ?_)
                        have i202 := lc_in e202
                        refine g_if_ne 206 235 (gd rfl) rfl rfl (fun c203 => ?_) (fun c203 => ?_)
                        · skip
                          have c203a := lc_ne e202 c203
                          refine g_iload 237 (gd rfl) rfl rfl ?_
                          refine g_istore 239 (gd rfl) rfl (Nat.le_of_ble_eq_true rfl) ?_
                          refine g_iinc 242 (gd rfl) rfl rfl (Nat.le_of_ble_eq_true rfl) (fun z239 e239 => ?_)
                          have i239 := in_add (-1) 158 e239 i94 (in_c (-1) rfl) rfl rfl
                          refine g_goto 92 (gd rfl) rfl ?_
                          have n92 : (y78_7).toInt ≤ (x3).toInt := by have a0 := j78_7; unfold In at a0; have a1 := j78_5; unfold In at a1; have a2 := j78_2; unfold In at a2; have a3 := j78_1; unfold In at a3; have a4 := ro_109_20; unfold In at a4; have a5 := ro_109_19; unfold In at a5; have a6 := i94; unfold In at a6; have a7 := j92_6; unfold In at a7; have a8 := (in_c 1 rfl); unfold In at a8; have a9 := i103; unfold In at a9; have a10 := t_add e103 ro_109_19 i94 rfl; have a11 := i239; unfold In at a11; have a12 := t_add e239 i94 (in_c (-1) rfl) rfl; have a13 := (in_c (-1) rfl); unfold In at a13; have a14 := j78_3; unfold In at a14; have a15 := tx_i2l e200; have a16 := i199; unfold In at a16; omega
                          have n92a : 0 ≤ (y78_7).toInt := by have a0 := j78_7; unfold In at a0; have a1 := j78_5; unfold In at a1; have a2 := j78_2; unfold In at a2; have a3 := j78_1; unfold In at a3; have a4 := ro_109_20; unfold In at a4; have a5 := ro_109_19; unfold In at a5; have a6 := i94; unfold In at a6; have a7 := j92_6; unfold In at a7; have a8 := (in_c 1 rfl); unfold In at a8; have a9 := i103; unfold In at a9; have a10 := t_add e103 ro_109_19 i94 rfl; have a11 := i239; unfold In at a11; have a12 := t_add e239 i94 (in_c (-1) rfl) rfl; have a13 := (in_c (-1) rfl); unfold In at a13; have a14 := j78_3; unfold In at a14; have a15 := tx_i2l e200; have a16 := i199; unfold In at a16; omega
                          have n92b : WFN sc92 (x2).toNatClampNeg (y78_4) := by exact g92_0
                          have n92c : bt (y78_4) (y78_5).toNatClampNeg = true := by exact g92_1
                          have n92d : (sc92.1 131 (y78_5).toNatClampNeg).toInt + (y78_7).toInt = (sc92.1 131 (x1).toNatClampNeg).toInt := by exact g92_2
                          have n92e : (x3).toInt < (sc92.1 131 (x1).toNatClampNeg).toInt ∧ (sc92.1 131 (x1).toNatClampNeg).toInt ≤ 1000 := by exact g92_3
                          have n92f : (∀ a : Nat, (z239).toInt < (a : Int) → a < 160 → WOK sc92 (y78_4) (y78_5).toNatClampNeg a → 0 ≤ (y92_6).toInt) ∧ (0 ≤ (y92_6).toInt → WOK sc92 (y78_4) (y78_5).toNatClampNeg (y92_6).toNatClampNeg) := by exact wa_no g92_4 (by have a0 := j78_7; unfold In at a0; have a1 := j78_5; unfold In at a1; have a2 := j78_2; unfold In at a2; have a3 := j78_1; unfold In at a3; have a4 := ro_109_20; unfold In at a4; have a5 := ro_109_19; unfold In at a5; have a6 := i94; unfold In at a6; have a7 := j92_6; unfold In at a7; have a8 := (in_c 1 rfl); unfold In at a8; have a9 := i103; unfold In at a9; have a10 := t_add e103 ro_109_19 i94 rfl; have a11 := i239; unfold In at a11; have a12 := t_add e239 i94 (in_c (-1) rfl) rfl; have a13 := (in_c (-1) rfl); unfold In at a13; have a14 := j78_3; unfold In at a14; have a15 := tx_i2l e200; have a16 := i199; unfold In at a16; omega) (by have a0 := j78_7; unfold In at a0; have a1 := j78_5; unfold In at a1; have a2 := j78_2; unfold In at a2; have a3 := j78_1; unfold In at a3; have a4 := ro_109_20; unfold In at a4; have a5 := ro_109_19; unfold In at a5; have a6 := i94; unfold In at a6; have a7 := j92_6; unfold In at a7; have a8 := (in_c 1 rfl); unfold In at a8; have a9 := i103; unfold In at a9; have a10 := t_add e103 ro_109_19 i94 rfl; have a11 := i239; unfold In at a11; have a12 := t_add e239 i94 (in_c (-1) rfl) rfl; have a13 := (in_c (-1) rfl); unfold In at a13; have a14 := j78_3; unfold In at a14; have a15 := tx_i2l e200; have a16 := i199; unfold In at a16; omega) (fun hw => by have hto := g92_0 z136.toNatClampNeg (bt_yes e137x2 e137x4 i136 c137x6); have hbd := hto.2.1; rw [← e192] at hbd; have hz201 : z201.toInt = z192.toInt + z199.toInt := (by have hw9 := i199; unfold In at hw9; rw [ladd_t e201 (by rw [tx_i2l e200]; omega) (by rw [tx_i2l e200]; omega), tx_i2l e200]); have h1 := hw.2.2.2.2.1; rw [(bs_x (x := z103) (a := y92_8) (show u_109_19 = sc92.2.2.1 109 19 from fr_F e_109_19 hFc92 rfl) (by have a0 := j78_7; unfold In at a0; have a1 := j78_5; unfold In at a1; have a2 := j78_2; unfold In at a2; have a3 := j78_1; unfold In at a3; have a4 := ro_109_20; unfold In at a4; have a5 := ro_109_19; unfold In at a5; have a6 := i94; unfold In at a6; have a7 := j92_6; unfold In at a7; have a8 := (in_c 1 rfl); unfold In at a8; have a9 := i103; unfold In at a9; have a10 := t_add e103 ro_109_19 i94 rfl; have a11 := i239; unfold In at a11; have a12 := t_add e239 i94 (in_c (-1) rfl) rfl; have a13 := (in_c (-1) rfl); unfold In at a13; have a14 := j78_3; unfold In at a14; have a15 := tx_i2l e200; have a16 := i199; unfold In at a16; omega) (by have a0 := j78_7; unfold In at a0; have a1 := j78_5; unfold In at a1; have a2 := j78_2; unfold In at a2; have a3 := j78_1; unfold In at a3; have a4 := ro_109_20; unfold In at a4; have a5 := ro_109_19; unfold In at a5; have a6 := i94; unfold In at a6; have a7 := j92_6; unfold In at a7; have a8 := (in_c 1 rfl); unfold In at a8; have a9 := i103; unfold In at a9; have a10 := t_add e103 ro_109_19 i94 rfl; have a11 := i239; unfold In at a11; have a12 := t_add e239 i94 (in_c (-1) rfl) rfl; have a13 := (in_c (-1) rfl); unfold In at a13; have a14 := j78_3; unfold In at a14; have a15 := tx_i2l e200; have a16 := i199; unfold In at a16; omega) (by have a0 := j78_7; unfold In at a0; have a1 := j78_5; unfold In at a1; have a2 := j78_2; unfold In at a2; have a3 := j78_1; unfold In at a3; have a4 := ro_109_20; unfold In at a4; have a5 := ro_109_19; unfold In at a5; have a6 := i94; unfold In at a6; have a7 := j92_6; unfold In at a7; have a8 := (in_c 1 rfl); unfold In at a8; have a9 := i103; unfold In at a9; have a10 := t_add e103 ro_109_19 i94 rfl; have a11 := i239; unfold In at a11; have a12 := t_add e239 i94 (in_c (-1) rfl) rfl; have a13 := (in_c (-1) rfl); unfold In at a13; have a14 := j78_3; unfold In at a14; have a15 := tx_i2l e200; have a16 := i199; unfold In at a16; omega)), ← e136, ← e199, ← e180, ← e192] at h1; have h := c203a; omega)
                          exact gg_w (by omega) (gg_f (gf_cons rfl (gf_cons rfl (gf_cons rfl (gf_cons rfl (gf_cons rfl (gf_cons rfl (gf_cons rfl (gf_cons rfl (gf_cons rfl gf_nil))))))))) (ih92 sc92 y92_6 z239 hIc92 hFc92 (in_w (-1) 159 j92_6 rfl) (in_w (-1) 159 i239 rfl) nz92_4 n92 n92a n92b n92c n92d n92e n92f (m_dn mm92 (t_add e239 i94 (in_c (-1) rfl) rfl) (in_w (-1) (-1) (in_c (-1) rfl) rfl))))
                        · skip
                          have i203 := z_eq 0 0 c203 i202 rfl
                          have c203a := lc_eq e202 c203
                          refine g_aload_n 207 (gd rfl) rfl rfl ?_
                          refine g_getA (q2 := 131) 210 (gd rfl) rfl rfl rfl rfl ?_
                          refine g_iload 212 (gd rfl) rfl rfl ?_
                          refine g_iaload 213 (gd rfl) rfl (n := 32) rfl (in_ix j78_5 rfl) (fun z212 e212 => ?_)
                          refine g_aload_n 214 (gd rfl) rfl rfl ?_
                          refine g_getA (q2 := 131) 217 (gd rfl) rfl rfl rfl rfl ?_
                          refine g_aload_n 218 (gd rfl) rfl rfl ?_
                          refine g_getA (q2 := 114) 221 (gd rfl) rfl rfl rfl rfl ?_
                          refine g_iload 223 (gd rfl) rfl rfl ?_
                          refine g_iaload 224 (gd rfl) rfl (n := 480) rfl (in_ix i103 rfl) (fun z223 e223 => ?_)
                          have q223 : z136 = z223 := (e136).trans e223.symm
                          subst q223
                          refine g_iaload 225 (gd rfl) rfl (n := 32) rfl (in_ix i136 rfl) (fun z224 e224 => ?_)
                          refine g_iconst 1 226 (gd rfl) rfl rfl ?_
                          refine g_iadd 227 (gd rfl) rfl (fun z226 e226 => ?_)
                          refine g_cmp_ne 230 235 (gd rfl) rfl rfl (fun c227 => ?_) (fun c227 => ?_)
                          · skip
                            refine g_iload 237 (gd rfl) rfl rfl ?_
                            refine g_istore 239 (gd rfl) rfl (Nat.le_of_ble_eq_true rfl) ?_
                            refine g_iinc 242 (gd rfl) rfl rfl (Nat.le_of_ble_eq_true rfl) (fun z239 e239 => ?_)
                            have i239 := in_add (-1) 158 e239 i94 (in_c (-1) rfl) rfl rfl
                            refine g_goto 92 (gd rfl) rfl ?_
                            have n92 : (y78_7).toInt ≤ (x3).toInt := by have a0 := j78_7; unfold In at a0; have a1 := j78_5; unfold In at a1; have a2 := j78_2; unfold In at a2; have a3 := j78_1; unfold In at a3; have a4 := ro_109_20; unfold In at a4; have a5 := ro_109_19; unfold In at a5; have a6 := i94; unfold In at a6; have a7 := j92_6; unfold In at a7; have a8 := (in_c 1 rfl); unfold In at a8; have a9 := i103; unfold In at a9; have a10 := t_add e103 ro_109_19 i94 rfl; have a11 := i239; unfold In at a11; have a12 := t_add e239 i94 (in_c (-1) rfl) rfl; have a13 := (in_c (-1) rfl); unfold In at a13; have a14 := j78_3; unfold In at a14; have a15 := tx_i2l e200; have a16 := i199; unfold In at a16; omega
                            have n92a : 0 ≤ (y78_7).toInt := by have a0 := j78_7; unfold In at a0; have a1 := j78_5; unfold In at a1; have a2 := j78_2; unfold In at a2; have a3 := j78_1; unfold In at a3; have a4 := ro_109_20; unfold In at a4; have a5 := ro_109_19; unfold In at a5; have a6 := i94; unfold In at a6; have a7 := j92_6; unfold In at a7; have a8 := (in_c 1 rfl); unfold In at a8; have a9 := i103; unfold In at a9; have a10 := t_add e103 ro_109_19 i94 rfl; have a11 := i239; unfold In at a11; have a12 := t_add e239 i94 (in_c (-1) rfl) rfl; have a13 := (in_c (-1) rfl); unfold In at a13; have a14 := j78_3; unfold In at a14; have a15 := tx_i2l e200; have a16 := i199; unfold In at a16; omega
                            have n92b : WFN sc92 (x2).toNatClampNeg (y78_4) := by exact g92_0
                            have n92c : bt (y78_4) (y78_5).toNatClampNeg = true := by exact g92_1
                            have n92d : (sc92.1 131 (y78_5).toNatClampNeg).toInt + (y78_7).toInt = (sc92.1 131 (x1).toNatClampNeg).toInt := by exact g92_2
                            have n92e : (x3).toInt < (sc92.1 131 (x1).toNatClampNeg).toInt ∧ (sc92.1 131 (x1).toNatClampNeg).toInt ≤ 1000 := by exact g92_3
                            have n92f : (∀ a : Nat, (z239).toInt < (a : Int) → a < 160 → WOK sc92 (y78_4) (y78_5).toNatClampNeg a → 0 ≤ (y92_6).toInt) ∧ (0 ≤ (y92_6).toInt → WOK sc92 (y78_4) (y78_5).toNatClampNeg (y92_6).toNatClampNeg) := by first | exact wa_yes (by have a0 := j78_7; unfold In at a0; have a1 := j78_5; unfold In at a1; have a2 := j78_2; unfold In at a2; have a3 := j78_1; unfold In at a3; have a4 := ro_109_20; unfold In at a4; have a5 := ro_109_19; unfold In at a5; have a6 := i94; unfold In at a6; have a7 := j92_6; unfold In at a7; have a8 := (in_c 1 rfl); unfold In at a8; have a9 := i103; unfold In at a9; have a10 := t_add e103 ro_109_19 i94 rfl; have a11 := i239; unfold In at a11; have a12 := t_add e239 i94 (in_c (-1) rfl) rfl; have a13 := (in_c (-1) rfl); unfold In at a13; have a14 := j78_3; unfold In at a14; have a15 := tx_i2l e200; have a16 := i199; unfold In at a16; omega) (by have hto := g92_0 z136.toNatClampNeg (bt_yes e137x2 e137x4 i136 c137x6); have hbd := hto.2.1; rw [← e192] at hbd; have hz201 : z201.toInt = z192.toInt + z199.toInt := (by have hw9 := i199; unfold In at hw9; rw [ladd_t e201 (by rw [tx_i2l e200]; omega) (by rw [tx_i2l e200]; omega), tx_i2l e200]); have hst := hto.2.2.1; rw [← e224] at hst; have hz226 : z226.toInt = z224.toInt + 1 := t_add (a := 0) (b := 1000) e226 ⟨hst.1, hst.2⟩ (in_c 1 rfl) rfl; unfold WOK; rw [(bs_x (x := z103) (a := y92_8) (show u_109_19 = sc92.2.2.1 109 19 from fr_F e_109_19 hFc92 rfl) (by have a0 := j78_7; unfold In at a0; have a1 := j78_5; unfold In at a1; have a2 := j78_2; unfold In at a2; have a3 := j78_1; unfold In at a3; have a4 := ro_109_20; unfold In at a4; have a5 := ro_109_19; unfold In at a5; have a6 := i94; unfold In at a6; have a7 := j92_6; unfold In at a7; have a8 := (in_c 1 rfl); unfold In at a8; have a9 := i103; unfold In at a9; have a10 := t_add e103 ro_109_19 i94 rfl; have a11 := i239; unfold In at a11; have a12 := t_add e239 i94 (in_c (-1) rfl) rfl; have a13 := (in_c (-1) rfl); unfold In at a13; have a14 := j78_3; unfold In at a14; have a15 := tx_i2l e200; have a16 := i199; unfold In at a16; omega) (by have a0 := j78_7; unfold In at a0; have a1 := j78_5; unfold In at a1; have a2 := j78_2; unfold In at a2; have a3 := j78_1; unfold In at a3; have a4 := ro_109_20; unfold In at a4; have a5 := ro_109_19; unfold In at a5; have a6 := i94; unfold In at a6; have a7 := j92_6; unfold In at a7; have a8 := (in_c 1 rfl); unfold In at a8; have a9 := i103; unfold In at a9; have a10 := t_add e103 ro_109_19 i94 rfl; have a11 := i239; unfold In at a11; have a12 := t_add e239 i94 (in_c (-1) rfl) rfl; have a13 := (in_c (-1) rfl); unfold In at a13; have a14 := j78_3; unfold In at a14; have a15 := tx_i2l e200; have a16 := i199; unfold In at a16; omega) (by have a0 := j78_7; unfold In at a0; have a1 := j78_5; unfold In at a1; have a2 := j78_2; unfold In at a2; have a3 := j78_1; unfold In at a3; have a4 := ro_109_20; unfold In at a4; have a5 := ro_109_19; unfold In at a5; have a6 := i94; unfold In at a6; have a7 := j92_6; unfold In at a7; have a8 := (in_c 1 rfl); unfold In at a8; have a9 := i103; unfold In at a9; have a10 := t_add e103 ro_109_19 i94 rfl; have a11 := i239; unfold In at a11; have a12 := t_add e239 i94 (in_c (-1) rfl) rfl; have a13 := (in_c (-1) rfl); unfold In at a13; have a14 := j78_3; unfold In at a14; have a15 := tx_i2l e200; have a16 := i199; unfold In at a16; omega)), ← e136, ← e112, ← e122, ← e199, ← e154, ← e180, ← e212, ← e224]; exact ⟨c113, by rw [Int32.toInt_inj.mp c125], bt_yes e137x2 e137x4 i136 c137x6, by have h := i159a.2; omega, by rw [show z154 = z192 from (e154.trans e192.symm)]; have h := c203a; omega, by have h := c227; omega⟩) | exact wa_no g92_4 (by have a0 := j78_7; unfold In at a0; have a1 := j78_5; unfold In at a1; have a2 := j78_2; unfold In at a2; have a3 := j78_1; unfold In at a3; have a4 := ro_109_20; unfold In at a4; have a5 := ro_109_19; unfold In at a5; have a6 := i94; unfold In at a6; have a7 := j92_6; unfold In at a7; have a8 := (in_c 1 rfl); unfold In at a8; have a9 := i103; unfold In at a9; have a10 := t_add e103 ro_109_19 i94 rfl; have a11 := i239; unfold In at a11; have a12 := t_add e239 i94 (in_c (-1) rfl) rfl; have a13 := (in_c (-1) rfl); unfold In at a13; have a14 := j78_3; unfold In at a14; have a15 := tx_i2l e200; have a16 := i199; unfold In at a16; omega) (by have a0 := j78_7; unfold In at a0; have a1 := j78_5; unfold In at a1; have a2 := j78_2; unfold In at a2; have a3 := j78_1; unfold In at a3; have a4 := ro_109_20; unfold In at a4; have a5 := ro_109_19; unfold In at a5; have a6 := i94; unfold In at a6; have a7 := j92_6; unfold In at a7; have a8 := (in_c 1 rfl); unfold In at a8; have a9 := i103; unfold In at a9; have a10 := t_add e103 ro_109_19 i94 rfl; have a11 := i239; unfold In at a11; have a12 := t_add e239 i94 (in_c (-1) rfl) rfl; have a13 := (in_c (-1) rfl); unfold In at a13; have a14 := j78_3; unfold In at a14; have a15 := tx_i2l e200; have a16 := i199; unfold In at a16; omega) (fun hw => by have hto := g92_0 z136.toNatClampNeg (bt_yes e137x2 e137x4 i136 c137x6); have hbd := hto.2.1; rw [← e192] at hbd; have hz201 : z201.toInt = z192.toInt + z199.toInt := (by have hw9 := i199; unfold In at hw9; rw [ladd_t e201 (by rw [tx_i2l e200]; omega) (by rw [tx_i2l e200]; omega), tx_i2l e200]); have hst := hto.2.2.1; rw [← e224] at hst; have hz226 : z226.toInt = z224.toInt + 1 := t_add (a := 0) (b := 1000) e226 ⟨hst.1, hst.2⟩ (in_c 1 rfl) rfl; have h1 := hw.2.2.2.2.2; rw [(bs_x (x := z103) (a := y92_8) (show u_109_19 = sc92.2.2.1 109 19 from fr_F e_109_19 hFc92 rfl) (by have a0 := j78_7; unfold In at a0; have a1 := j78_5; unfold In at a1; have a2 := j78_2; unfold In at a2; have a3 := j78_1; unfold In at a3; have a4 := ro_109_20; unfold In at a4; have a5 := ro_109_19; unfold In at a5; have a6 := i94; unfold In at a6; have a7 := j92_6; unfold In at a7; have a8 := (in_c 1 rfl); unfold In at a8; have a9 := i103; unfold In at a9; have a10 := t_add e103 ro_109_19 i94 rfl; have a11 := i239; unfold In at a11; have a12 := t_add e239 i94 (in_c (-1) rfl) rfl; have a13 := (in_c (-1) rfl); unfold In at a13; have a14 := j78_3; unfold In at a14; have a15 := tx_i2l e200; have a16 := i199; unfold In at a16; omega) (by have a0 := j78_7; unfold In at a0; have a1 := j78_5; unfold In at a1; have a2 := j78_2; unfold In at a2; have a3 := j78_1; unfold In at a3; have a4 := ro_109_20; unfold In at a4; have a5 := ro_109_19; unfold In at a5; have a6 := i94; unfold In at a6; have a7 := j92_6; unfold In at a7; have a8 := (in_c 1 rfl); unfold In at a8; have a9 := i103; unfold In at a9; have a10 := t_add e103 ro_109_19 i94 rfl; have a11 := i239; unfold In at a11; have a12 := t_add e239 i94 (in_c (-1) rfl) rfl; have a13 := (in_c (-1) rfl); unfold In at a13; have a14 := j78_3; unfold In at a14; have a15 := tx_i2l e200; have a16 := i199; unfold In at a16; omega) (by have a0 := j78_7; unfold In at a0; have a1 := j78_5; unfold In at a1; have a2 := j78_2; unfold In at a2; have a3 := j78_1; unfold In at a3; have a4 := ro_109_20; unfold In at a4; have a5 := ro_109_19; unfold In at a5; have a6 := i94; unfold In at a6; have a7 := j92_6; unfold In at a7; have a8 := (in_c 1 rfl); unfold In at a8; have a9 := i103; unfold In at a9; have a10 := t_add e103 ro_109_19 i94 rfl; have a11 := i239; unfold In at a11; have a12 := t_add e239 i94 (in_c (-1) rfl) rfl; have a13 := (in_c (-1) rfl); unfold In at a13; have a14 := j78_3; unfold In at a14; have a15 := tx_i2l e200; have a16 := i199; unfold In at a16; omega)), ← e136, ← e212, ← e224] at h1; have h := c227; omega)
                            exact gg_w (by omega) (gg_f (gf_cons rfl (gf_cons rfl (gf_cons rfl (gf_cons rfl (gf_cons rfl (gf_cons rfl (gf_cons rfl (gf_cons rfl (gf_cons rfl gf_nil))))))))) (ih92 sc92 y92_6 z239 hIc92 hFc92 (in_w (-1) 159 j92_6 rfl) (in_w (-1) 159 i239 rfl) nz92_4 n92 n92a n92b n92c n92d n92e n92f (m_dn mm92 (t_add e239 i94 (in_c (-1) rfl) rfl) (in_w (-1) (-1) (in_c (-1) rfl) rfl))))
                          · skip
                            refine g_iload 232 (gd rfl) rfl rfl ?_
                            refine g_goto 237 (gd rfl) rfl ?_
                            refine g_istore 239 (gd rfl) rfl (Nat.le_of_ble_eq_true rfl) ?_
                            refine g_iinc 242 (gd rfl) rfl rfl (Nat.le_of_ble_eq_true rfl) (fun z239 e239 => ?_)
                            have i239 := in_add (-1) 158 e239 i94 (in_c (-1) rfl) rfl rfl
                            refine g_goto 92 (gd rfl) rfl ?_
                            have n92 : (y78_7).toInt ≤ (x3).toInt := by have a0 := j78_7; unfold In at a0; have a1 := j78_5; unfold In at a1; have a2 := j78_2; unfold In at a2; have a3 := j78_1; unfold In at a3; have a4 := ro_109_20; unfold In at a4; have a5 := ro_109_19; unfold In at a5; have a6 := i94; unfold In at a6; have a7 := j92_6; unfold In at a7; have a8 := (in_c 1 rfl); unfold In at a8; have a9 := i103; unfold In at a9; have a10 := t_add e103 ro_109_19 i94 rfl; have a11 := i239; unfold In at a11; have a12 := t_add e239 i94 (in_c (-1) rfl) rfl; have a13 := (in_c (-1) rfl); unfold In at a13; have a14 := j78_3; unfold In at a14; have a15 := tx_i2l e200; have a16 := i199; unfold In at a16; omega
                            have n92a : 0 ≤ (y78_7).toInt := by have a0 := j78_7; unfold In at a0; have a1 := j78_5; unfold In at a1; have a2 := j78_2; unfold In at a2; have a3 := j78_1; unfold In at a3; have a4 := ro_109_20; unfold In at a4; have a5 := ro_109_19; unfold In at a5; have a6 := i94; unfold In at a6; have a7 := j92_6; unfold In at a7; have a8 := (in_c 1 rfl); unfold In at a8; have a9 := i103; unfold In at a9; have a10 := t_add e103 ro_109_19 i94 rfl; have a11 := i239; unfold In at a11; have a12 := t_add e239 i94 (in_c (-1) rfl) rfl; have a13 := (in_c (-1) rfl); unfold In at a13; have a14 := j78_3; unfold In at a14; have a15 := tx_i2l e200; have a16 := i199; unfold In at a16; omega
                            have n92b : WFN sc92 (x2).toNatClampNeg (y78_4) := by exact g92_0
                            have n92c : bt (y78_4) (y78_5).toNatClampNeg = true := by exact g92_1
                            have n92d : (sc92.1 131 (y78_5).toNatClampNeg).toInt + (y78_7).toInt = (sc92.1 131 (x1).toNatClampNeg).toInt := by exact g92_2
                            have n92e : (x3).toInt < (sc92.1 131 (x1).toNatClampNeg).toInt ∧ (sc92.1 131 (x1).toNatClampNeg).toInt ≤ 1000 := by exact g92_3
                            have n92f : (∀ a : Nat, (z239).toInt < (a : Int) → a < 160 → WOK sc92 (y78_4) (y78_5).toNatClampNeg a → 0 ≤ (y92_8).toInt) ∧ (0 ≤ (y92_8).toInt → WOK sc92 (y78_4) (y78_5).toNatClampNeg (y92_8).toNatClampNeg) := by first | exact wa_yes (by have a0 := j78_7; unfold In at a0; have a1 := j78_5; unfold In at a1; have a2 := j78_2; unfold In at a2; have a3 := j78_1; unfold In at a3; have a4 := ro_109_20; unfold In at a4; have a5 := ro_109_19; unfold In at a5; have a6 := i94; unfold In at a6; have a7 := j92_6; unfold In at a7; have a8 := (in_c 1 rfl); unfold In at a8; have a9 := i103; unfold In at a9; have a10 := t_add e103 ro_109_19 i94 rfl; have a11 := i239; unfold In at a11; have a12 := t_add e239 i94 (in_c (-1) rfl) rfl; have a13 := (in_c (-1) rfl); unfold In at a13; have a14 := j78_3; unfold In at a14; have a15 := tx_i2l e200; have a16 := i199; unfold In at a16; omega) (by have hto := g92_0 z136.toNatClampNeg (bt_yes e137x2 e137x4 i136 c137x6); have hbd := hto.2.1; rw [← e192] at hbd; have hz201 : z201.toInt = z192.toInt + z199.toInt := (by have hw9 := i199; unfold In at hw9; rw [ladd_t e201 (by rw [tx_i2l e200]; omega) (by rw [tx_i2l e200]; omega), tx_i2l e200]); have hst := hto.2.2.1; rw [← e224] at hst; have hz226 : z226.toInt = z224.toInt + 1 := t_add (a := 0) (b := 1000) e226 ⟨hst.1, hst.2⟩ (in_c 1 rfl) rfl; unfold WOK; rw [(bs_x (x := z103) (a := y92_8) (show u_109_19 = sc92.2.2.1 109 19 from fr_F e_109_19 hFc92 rfl) (by have a0 := j78_7; unfold In at a0; have a1 := j78_5; unfold In at a1; have a2 := j78_2; unfold In at a2; have a3 := j78_1; unfold In at a3; have a4 := ro_109_20; unfold In at a4; have a5 := ro_109_19; unfold In at a5; have a6 := i94; unfold In at a6; have a7 := j92_6; unfold In at a7; have a8 := (in_c 1 rfl); unfold In at a8; have a9 := i103; unfold In at a9; have a10 := t_add e103 ro_109_19 i94 rfl; have a11 := i239; unfold In at a11; have a12 := t_add e239 i94 (in_c (-1) rfl) rfl; have a13 := (in_c (-1) rfl); unfold In at a13; have a14 := j78_3; unfold In at a14; have a15 := tx_i2l e200; have a16 := i199; unfold In at a16; omega) (by have a0 := j78_7; unfold In at a0; have a1 := j78_5; unfold In at a1; have a2 := j78_2; unfold In at a2; have a3 := j78_1; unfold In at a3; have a4 := ro_109_20; unfold In at a4; have a5 := ro_109_19; unfold In at a5; have a6 := i94; unfold In at a6; have a7 := j92_6; unfold In at a7; have a8 := (in_c 1 rfl); unfold In at a8; have a9 := i103; unfold In at a9; have a10 := t_add e103 ro_109_19 i94 rfl; have a11 := i239; unfold In at a11; have a12 := t_add e239 i94 (in_c (-1) rfl) rfl; have a13 := (in_c (-1) rfl); unfold In at a13; have a14 := j78_3; unfold In at a14; have a15 := tx_i2l e200; have a16 := i199; unfold In at a16; omega) (by have a0 := j78_7; unfold In at a0; have a1 := j78_5; unfold In at a1; have a2 := j78_2; unfold In at a2; have a3 := j78_1; unfold In at a3; have a4 := ro_109_20; unfold In at a4; have a5 := ro_109_19; unfold In at a5; have a6 := i94; unfold In at a6; have a7 := j92_6; unfold In at a7; have a8 := (in_c 1 rfl); unfold In at a8; have a9 := i103; unfold In at a9; have a10 := t_add e103 ro_109_19 i94 rfl; have a11 := i239; unfold In at a11; have a12 := t_add e239 i94 (in_c (-1) rfl) rfl; have a13 := (in_c (-1) rfl); unfold In at a13; have a14 := j78_3; unfold In at a14; have a15 := tx_i2l e200; have a16 := i199; unfold In at a16; omega)), ← e136, ← e112, ← e122, ← e199, ← e154, ← e180, ← e212, ← e224]; exact ⟨c113, by rw [Int32.toInt_inj.mp c125], bt_yes e137x2 e137x4 i136 c137x6, by have h := i159a.2; omega, by rw [show z154 = z192 from (e154.trans e192.symm)]; have h := c203a; omega, by have h := c227; omega⟩) | exact wa_no g92_4 (by have a0 := j78_7; unfold In at a0; have a1 := j78_5; unfold In at a1; have a2 := j78_2; unfold In at a2; have a3 := j78_1; unfold In at a3; have a4 := ro_109_20; unfold In at a4; have a5 := ro_109_19; unfold In at a5; have a6 := i94; unfold In at a6; have a7 := j92_6; unfold In at a7; have a8 := (in_c 1 rfl); unfold In at a8; have a9 := i103; unfold In at a9; have a10 := t_add e103 ro_109_19 i94 rfl; have a11 := i239; unfold In at a11; have a12 := t_add e239 i94 (in_c (-1) rfl) rfl; have a13 := (in_c (-1) rfl); unfold In at a13; have a14 := j78_3; unfold In at a14; have a15 := tx_i2l e200; have a16 := i199; unfold In at a16; omega) (by have a0 := j78_7; unfold In at a0; have a1 := j78_5; unfold In at a1; have a2 := j78_2; unfold In at a2; have a3 := j78_1; unfold In at a3; have a4 := ro_109_20; unfold In at a4; have a5 := ro_109_19; unfold In at a5; have a6 := i94; unfold In at a6; have a7 := j92_6; unfold In at a7; have a8 := (in_c 1 rfl); unfold In at a8; have a9 := i103; unfold In at a9; have a10 := t_add e103 ro_109_19 i94 rfl; have a11 := i239; unfold In at a11; have a12 := t_add e239 i94 (in_c (-1) rfl) rfl; have a13 := (in_c (-1) rfl); unfold In at a13; have a14 := j78_3; unfold In at a14; have a15 := tx_i2l e200; have a16 := i199; unfold In at a16; omega) (fun hw => by have hto := g92_0 z136.toNatClampNeg (bt_yes e137x2 e137x4 i136 c137x6); have hbd := hto.2.1; rw [← e192] at hbd; have hz201 : z201.toInt = z192.toInt + z199.toInt := (by have hw9 := i199; unfold In at hw9; rw [ladd_t e201 (by rw [tx_i2l e200]; omega) (by rw [tx_i2l e200]; omega), tx_i2l e200]); have hst := hto.2.2.1; rw [← e224] at hst; have hz226 : z226.toInt = z224.toInt + 1 := t_add (a := 0) (b := 1000) e226 ⟨hst.1, hst.2⟩ (in_c 1 rfl) rfl; have h1 := hw.2.2.2.2.2; rw [(bs_x (x := z103) (a := y92_8) (show u_109_19 = sc92.2.2.1 109 19 from fr_F e_109_19 hFc92 rfl) (by have a0 := j78_7; unfold In at a0; have a1 := j78_5; unfold In at a1; have a2 := j78_2; unfold In at a2; have a3 := j78_1; unfold In at a3; have a4 := ro_109_20; unfold In at a4; have a5 := ro_109_19; unfold In at a5; have a6 := i94; unfold In at a6; have a7 := j92_6; unfold In at a7; have a8 := (in_c 1 rfl); unfold In at a8; have a9 := i103; unfold In at a9; have a10 := t_add e103 ro_109_19 i94 rfl; have a11 := i239; unfold In at a11; have a12 := t_add e239 i94 (in_c (-1) rfl) rfl; have a13 := (in_c (-1) rfl); unfold In at a13; have a14 := j78_3; unfold In at a14; have a15 := tx_i2l e200; have a16 := i199; unfold In at a16; omega) (by have a0 := j78_7; unfold In at a0; have a1 := j78_5; unfold In at a1; have a2 := j78_2; unfold In at a2; have a3 := j78_1; unfold In at a3; have a4 := ro_109_20; unfold In at a4; have a5 := ro_109_19; unfold In at a5; have a6 := i94; unfold In at a6; have a7 := j92_6; unfold In at a7; have a8 := (in_c 1 rfl); unfold In at a8; have a9 := i103; unfold In at a9; have a10 := t_add e103 ro_109_19 i94 rfl; have a11 := i239; unfold In at a11; have a12 := t_add e239 i94 (in_c (-1) rfl) rfl; have a13 := (in_c (-1) rfl); unfold In at a13; have a14 := j78_3; unfold In at a14; have a15 := tx_i2l e200; have a16 := i199; unfold In at a16; omega) (by have a0 := j78_7; unfold In at a0; have a1 := j78_5; unfold In at a1; have a2 := j78_2; unfold In at a2; have a3 := j78_1; unfold In at a3; have a4 := ro_109_20; unfold In at a4; have a5 := ro_109_19; unfold In at a5; have a6 := i94; unfold In at a6; have a7 := j92_6; unfold In at a7; have a8 := (in_c 1 rfl); unfold In at a8; have a9 := i103; unfold In at a9; have a10 := t_add e103 ro_109_19 i94 rfl; have a11 := i239; unfold In at a11; have a12 := t_add e239 i94 (in_c (-1) rfl) rfl; have a13 := (in_c (-1) rfl); unfold In at a13; have a14 := j78_3; unfold In at a14; have a15 := tx_i2l e200; have a16 := i199; unfold In at a16; omega)), ← e136, ← e212, ← e224] at h1; have h := c227; omega)
                            exact gg_w (by omega) (gg_f (gf_cons rfl (gf_cons rfl (gf_cons rfl (gf_cons rfl (gf_cons rfl (gf_cons rfl (gf_cons rfl (gf_cons rfl (gf_cons rfl gf_nil))))))))) (ih92 sc92 y92_8 z239 hIc92 hFc92 (in_w (-1) 159 i94 rfl) (in_w (-1) 159 i239 rfl) nz92_4 n92 n92a n92b n92c n92d n92e n92f (m_dn mm92 (t_add e239 i94 (in_c (-1) rfl) rfl) (in_w (-1) (-1) (in_c (-1) rfl) rfl))))
      refine g_iload 80 (gd rfl) rfl rfl ?_
      refine g_iload_n 81 (gd rfl) rfl rfl ?_
      refine g_cmp_gt 84 265 (gd rfl) rfl rfl (fun c81 => ?_) (fun c81 => ?_)
      · skip
        have i81 := r_lt1 0 999 c81 j78_3 j78_7 rfl
        have i81a := r_lt2 1 1000 c81 j78_3 j78_7 rfl
        refine g_iload 267 (gd rfl) rfl rfl ?_
        exact g_ireturn (gd rfl) rfl rfl (hP _ _ ⟨sc78, hIc78, hFc78, y78_6, rfl, rfl, in_w (-1) 159 j78_6 rfl⟩)
      · skip
        refine g_iconst (-1) 85 (gd rfl) rfl rfl ?_
        refine g_istore 87 (gd rfl) rfl (Nat.le_of_ble_eq_true rfl) ?_
        refine g_sipush 159 90 (gd rfl) rfl rfl ?_
        refine g_istore 92 (gd rfl) rfl (Nat.le_of_ble_eq_true rfl) ?_
        have n92 : (y78_7).toInt ≤ (x3).toInt := by have a0 := j78_2; unfold In at a0; have a1 := j78_1; unfold In at a1; have a2 := ro_109_20; unfold In at a2; have a3 := ro_109_19; unfold In at a3; have a4 := j78_7; unfold In at a4; have a5 := j78_6; unfold In at a5; have a6 := j78_5; unfold In at a6; have a7 := (in_c 159 rfl); unfold In at a7; have a8 := (in_c (-1) rfl); unfold In at a8; have a9 := j78_3; unfold In at a9; omega
        have n92a : 0 ≤ (y78_7).toInt := by have a0 := j78_2; unfold In at a0; have a1 := j78_1; unfold In at a1; have a2 := ro_109_20; unfold In at a2; have a3 := ro_109_19; unfold In at a3; have a4 := j78_7; unfold In at a4; have a5 := j78_6; unfold In at a5; have a6 := j78_5; unfold In at a6; have a7 := (in_c 159 rfl); unfold In at a7; have a8 := (in_c (-1) rfl); unfold In at a8; have a9 := j78_3; unfold In at a9; omega
        have n92b : WFN sc78 (x2).toNatClampNeg (y78_4) := by exact g78_0
        have n92c : bt (y78_4) (y78_5).toNatClampNeg = true := by exact g78_1
        have n92d : (sc78.1 131 (y78_5).toNatClampNeg).toInt + (y78_7).toInt = (sc78.1 131 (x1).toNatClampNeg).toInt := by exact g78_2
        have n92e : (x3).toInt < (sc78.1 131 (x1).toNatClampNeg).toInt ∧ (sc78.1 131 (x1).toNatClampNeg).toInt ≤ 1000 := by exact g78_3
        have n92f : (∀ a : Nat, ((Int32.ofInt 159)).toInt < (a : Int) → a < 160 → WOK sc78 (y78_4) (y78_5).toNatClampNeg a → 0 ≤ ((Int32.ofInt (-1))).toInt) ∧ (0 ≤ ((Int32.ofInt (-1))).toInt → WOK sc78 (y78_4) (y78_5).toNatClampNeg ((Int32.ofInt (-1))).toNatClampNeg) := by exact ⟨fun a h1 h2 => (by exfalso; have h0 : (Int32.ofInt 159).toInt = 159 := rfl; omega), fun h => (by exfalso; have h0 : (Int32.ofInt (-1)).toInt = -1 := rfl; omega)⟩
        exact gg_w (by omega) (gg_f (gf_cons rfl (gf_cons rfl (gf_cons rfl (gf_cons rfl (gf_cons rfl (gf_cons rfl (gf_cons rfl (gf_cons rfl (gf_cons rfl gf_nil))))))))) (ct92 161 sc78 (Int32.ofInt (-1)) (Int32.ofInt 159) hIc78 hFc78 (in_w (-1) 159 (in_c (-1) rfl) rfl) (in_w (-1) 159 (in_c 159 rfl) rfl) nz78_4 n92 n92a n92b n92c n92d n92e n92f (m_ind 161 (in_w (-1) 159 (in_c 159 rfl) rfl) rfl)))
  refine g_enter2 (k := 316) (N := 147749502) (by omega) rfl (Nat.le_of_ble_eq_true rfl) ?_
  refine g_aload_n 1 (gd rfl) rfl rfl ?_
  refine g_aload_n 2 (gd rfl) rfl rfl ?_
  refine g_iload_n 3 (gd rfl) rfl rfl ?_
  refine g_callv (X := _) (As := [.int x1]) (r := [.ref (A 109)]) (b := A 109) (q := 109) 6 (gd rfl) rfl rfl rfl rfl rfl (ww_o rfl) (Nat.le_of_ble_eq_true rfl) (mc := 0) (ms := 0) (Nat.zero_le _) (Nat.zero_le _) (P := fun v u => _) ?_ (fun e u h => h) (fun v u h => h)
  intro po3 xx3 hp3 hx3
  refine g_enter2 (k := 272) (N := 300) (by omega) rfl (Nat.le_of_ble_eq_true rfl) ?_
  refine g_iload_n 1 (gd rfl) rfl rfl ?_
  refine g_if_lt 4 16 (gd rfl) rfl rfl (fun c3x1 => ?_) (fun c3x1 => ?_)
  · skip
    have i3x1 := z_lt (-2147483648) (-1) c3x1 (i_rng x1) rfl
    refine g_iconst 0 17 (gd rfl) rfl rfl ?_
    refine g_ireturn (gd rfl) rfl (nb01 (in_w 0 1 (in_c 0 rfl) rfl)) (hp3 _ _ ?_)
    show GG _ _ _ _ _ _ _ _ [.int (Int32.ofInt 0), .ref (A 109)] _ _ _
    refine g_if_eq 9 25 (gd rfl) rfl rfl (fun c6 => ?_) (fun c6 => ?_)
    · skip
      refine g_iconst 0 26 (gd rfl) rfl rfl ?_
      refine g_callv (X := _) (As := [.int (Int32.ofInt 0)]) (r := []) (b := A 109) (q := 109) 29 (gd rfl) rfl rfl rfl rfl rfl (ww_o rfl) (Nat.le_of_ble_eq_true rfl) (mc := 0) (ms := 0) (Nat.zero_le _) (Nat.zero_le _) (P := fun v u => _) ?_ (fun e u h => h) (fun v u h => h)
      intro po26 xx26 hp26 hx26
      refine g_enter2 (k := 271) (N := 300) (by omega) rfl (Nat.le_of_ble_eq_true rfl) ?_
      refine g_aload_n 1 (gd rfl) rfl rfl ?_
      refine g_iload_n 2 (gd rfl) rfl rfl ?_
      refine g_iconst 1 3 (gd rfl) rfl rfl ?_
      refine g_callv (X := _) (As := [.int (Int32.ofInt 0), .int (Int32.ofInt 1)]) (r := []) (b := A 109) (q := 109) 6 (gd rfl) rfl rfl rfl rfl rfl (ww_o rfl) (Nat.le_of_ble_eq_true rfl) (mc := 0) (ms := 0) (Nat.zero_le _) (Nat.zero_le _) (P := fun v u => _) ?_ (fun e u h => h) (fun v u h => h)
      intro po26x3 xx26x3 hp26x3 hx26x3
      refine g_enter2 (k := 270) (N := 300) (by omega) rfl (Nat.le_of_ble_eq_true rfl) ?_
      refine g_aload_n 1 (gd rfl) rfl rfl ?_
      refine g_iload_n 2 (gd rfl) rfl rfl ?_
      refine g_if_ne 5 9 (gd rfl) rfl rfl (fun c26x3x2 => ?_) (fun c26x3x2 => ?_)
      · skip
        exact zn_ne c26x3x2 (in_c 0 rfl) rfl
      · skip
        refine g_iconst 1 6 (gd rfl) rfl rfl ?_
        refine g_goto 18 (gd rfl) rfl ?_
        refine g_putI 21 (gd rfl) rfl rfl rfl rfl ?_
        have hI26x3x18 := inv_sF (q := 109) (j := 0) hI rfl (in_w 0 2 (in_c 1 rfl) rfl)
        refine g_aload_n 22 (gd rfl) rfl rfl ?_
        refine g_getI 25 (gd rfl) rfl rfl rfl (fun z26x3x22 e26x3x22 => ?_)
        have q26x3x22 : (Int32.ofInt 1) = z26x3x22 := (sF_get).trans e26x3x22.symm
        subst q26x3x22
        refine g_if_le 28 32 (gd rfl) rfl rfl (fun c26x3x25 => ?_) (fun c26x3x25 => ?_)
        · skip
          exact zn_le c26x3x25 (in_c 1 rfl) rfl
        · skip
          refine g_iconst 1 29 (gd rfl) rfl rfl ?_
          refine g_goto 33 (gd rfl) rfl ?_
          refine g_ireturn (gd rfl) rfl (nb01 (in_w 0 1 (in_c 1 rfl) rfl)) (hp26x3 _ _ ?_)
          show GG _ _ _ _ _ _ _ _ [.int (Int32.ofInt 1)] _ _ _
          refine g_ireturn (gd rfl) rfl (nb01 (in_w 0 1 (in_c 1 rfl) rfl)) (hp26 _ _ ?_)
          show GG _ _ _ _ _ _ _ _ [.int (Int32.ofInt 1)] _ _ _
          refine g_if_eq 32 34 (gd rfl) rfl rfl (fun c29 => ?_) (fun c29 => ?_)
          · skip
            exact zn_eq c29 (in_c 1 rfl) rfl
          · skip
            refine g_iconst 0 33 (gd rfl) rfl rfl ?_
            exact g_ireturn (gd rfl) rfl rfl (hP _ _ ⟨(sF s 109 0 (Int32.ofInt 1)), hI26x3x18, (fr_sF rfl fr_rf), (Int32.ofInt 0), rfl, rfl, in_w (-1) 159 (in_c 0 rfl) rfl⟩)
    · skip
      exact zn_ne c6 (in_c 0 rfl) rfl
  · skip
    have i3x1 := z_ge 0 2147483647 c3x1 (i_rng x1) rfl
    refine g_iload_n 5 (gd rfl) rfl rfl ?_
    refine g_aload_n 6 (gd rfl) rfl rfl ?_
    refine g_getI 9 (gd rfl) rfl rfl rfl (fun z3x6 e3x6 => ?_)
    have q3x6 : u_109_20 = z3x6 := (e_109_20).trans e3x6.symm
    subst q3x6
    refine g_cmp_ge 12 16 (gd rfl) rfl rfl (fun c3x9 => ?_) (fun c3x9 => ?_)
    · skip
      refine g_iconst 0 17 (gd rfl) rfl rfl ?_
      refine g_ireturn (gd rfl) rfl (nb01 (in_w 0 1 (in_c 0 rfl) rfl)) (hp3 _ _ ?_)
      show GG _ _ _ _ _ _ _ _ [.int (Int32.ofInt 0), .ref (A 109)] _ _ _
      refine g_if_eq 9 25 (gd rfl) rfl rfl (fun c6 => ?_) (fun c6 => ?_)
      · skip
        refine g_iconst 0 26 (gd rfl) rfl rfl ?_
        refine g_callv (X := _) (As := [.int (Int32.ofInt 0)]) (r := []) (b := A 109) (q := 109) 29 (gd rfl) rfl rfl rfl rfl rfl (ww_o rfl) (Nat.le_of_ble_eq_true rfl) (mc := 0) (ms := 0) (Nat.zero_le _) (Nat.zero_le _) (P := fun v u => _) ?_ (fun e u h => h) (fun v u h => h)
        intro po26 xx26 hp26 hx26
        refine g_enter2 (k := 271) (N := 300) (by omega) rfl (Nat.le_of_ble_eq_true rfl) ?_
        refine g_aload_n 1 (gd rfl) rfl rfl ?_
        refine g_iload_n 2 (gd rfl) rfl rfl ?_
        refine g_iconst 1 3 (gd rfl) rfl rfl ?_
        refine g_callv (X := _) (As := [.int (Int32.ofInt 0), .int (Int32.ofInt 1)]) (r := []) (b := A 109) (q := 109) 6 (gd rfl) rfl rfl rfl rfl rfl (ww_o rfl) (Nat.le_of_ble_eq_true rfl) (mc := 0) (ms := 0) (Nat.zero_le _) (Nat.zero_le _) (P := fun v u => _) ?_ (fun e u h => h) (fun v u h => h)
        intro po26x3 xx26x3 hp26x3 hx26x3
        refine g_enter2 (k := 270) (N := 300) (by omega) rfl (Nat.le_of_ble_eq_true rfl) ?_
        refine g_aload_n 1 (gd rfl) rfl rfl ?_
        refine g_iload_n 2 (gd rfl) rfl rfl ?_
        refine g_if_ne 5 9 (gd rfl) rfl rfl (fun c26x3x2 => ?_) (fun c26x3x2 => ?_)
        · skip
          exact zn_ne c26x3x2 (in_c 0 rfl) rfl
        · skip
          refine g_iconst 1 6 (gd rfl) rfl rfl ?_
          refine g_goto 18 (gd rfl) rfl ?_
          refine g_putI 21 (gd rfl) rfl rfl rfl rfl ?_
          have hI26x3x18 := inv_sF (q := 109) (j := 0) hI rfl (in_w 0 2 (in_c 1 rfl) rfl)
          refine g_aload_n 22 (gd rfl) rfl rfl ?_
          refine g_getI 25 (gd rfl) rfl rfl rfl (fun z26x3x22 e26x3x22 => ?_)
          have q26x3x22 : (Int32.ofInt 1) = z26x3x22 := (sF_get).trans e26x3x22.symm
          subst q26x3x22
          refine g_if_le 28 32 (gd rfl) rfl rfl (fun c26x3x25 => ?_) (fun c26x3x25 => ?_)
          · skip
            exact zn_le c26x3x25 (in_c 1 rfl) rfl
          · skip
            refine g_iconst 1 29 (gd rfl) rfl rfl ?_
            refine g_goto 33 (gd rfl) rfl ?_
            refine g_ireturn (gd rfl) rfl (nb01 (in_w 0 1 (in_c 1 rfl) rfl)) (hp26x3 _ _ ?_)
            show GG _ _ _ _ _ _ _ _ [.int (Int32.ofInt 1)] _ _ _
            refine g_ireturn (gd rfl) rfl (nb01 (in_w 0 1 (in_c 1 rfl) rfl)) (hp26 _ _ ?_)
            show GG _ _ _ _ _ _ _ _ [.int (Int32.ofInt 1)] _ _ _
            refine g_if_eq 32 34 (gd rfl) rfl rfl (fun c29 => ?_) (fun c29 => ?_)
            · skip
              exact zn_eq c29 (in_c 1 rfl) rfl
            · skip
              refine g_iconst 0 33 (gd rfl) rfl rfl ?_
              exact g_ireturn (gd rfl) rfl rfl (hP _ _ ⟨(sF s 109 0 (Int32.ofInt 1)), hI26x3x18, (fr_sF rfl fr_rf), (Int32.ofInt 0), rfl, rfl, in_w (-1) 159 (in_c 0 rfl) rfl⟩)
      · skip
        exact zn_ne c6 (in_c 0 rfl) rfl
    · skip
      have i3x9 := r_lt1 0 31 c3x9 i3x1 ro_109_20 rfl
      have i3x9a := r_lt2 1 32 c3x9 i3x1 ro_109_20 rfl
      refine g_iconst 1 13 (gd rfl) rfl rfl ?_
      refine g_goto 17 (gd rfl) rfl ?_
      refine g_ireturn (gd rfl) rfl (nb01 (in_w 0 1 (in_c 1 rfl) rfl)) (hp3 _ _ ?_)
      show GG _ _ _ _ _ _ _ _ [.int (Int32.ofInt 1), .ref (A 109)] _ _ _
      refine g_if_eq 9 25 (gd rfl) rfl rfl (fun c6 => ?_) (fun c6 => ?_)
      · skip
        exact zn_eq c6 (in_c 1 rfl) rfl
      · skip
        refine g_aload_n 10 (gd rfl) rfl rfl ?_
        refine g_iload_n 11 (gd rfl) rfl rfl ?_
        refine g_callv (X := _) (As := [.int x2]) (r := [.ref (A 109)]) (b := A 109) (q := 109) 14 (gd rfl) rfl rfl rfl rfl rfl (ww_o rfl) (Nat.le_of_ble_eq_true rfl) (mc := 0) (ms := 0) (Nat.zero_le _) (Nat.zero_le _) (P := fun v u => _) ?_ (fun e u h => h) (fun v u h => h)
        intro po11 xx11 hp11 hx11
        refine g_enter2 (k := 272) (N := 300) (by omega) rfl (Nat.le_of_ble_eq_true rfl) ?_
        refine g_iload_n 1 (gd rfl) rfl rfl ?_
        refine g_if_lt 4 16 (gd rfl) rfl rfl (fun c11x1 => ?_) (fun c11x1 => ?_)
        · skip
          have i11x1 := z_lt (-2147483648) (-1) c11x1 (i_rng x2) rfl
          refine g_iconst 0 17 (gd rfl) rfl rfl ?_
          refine g_ireturn (gd rfl) rfl (nb01 (in_w 0 1 (in_c 0 rfl) rfl)) (hp11 _ _ ?_)
          show GG _ _ _ _ _ _ _ _ [.int (Int32.ofInt 0), .ref (A 109)] _ _ _
          refine g_if_eq 17 25 (gd rfl) rfl rfl (fun c14 => ?_) (fun c14 => ?_)
          · skip
            refine g_iconst 0 26 (gd rfl) rfl rfl ?_
            refine g_callv (X := _) (As := [.int (Int32.ofInt 0)]) (r := []) (b := A 109) (q := 109) 29 (gd rfl) rfl rfl rfl rfl rfl (ww_o rfl) (Nat.le_of_ble_eq_true rfl) (mc := 0) (ms := 0) (Nat.zero_le _) (Nat.zero_le _) (P := fun v u => _) ?_ (fun e u h => h) (fun v u h => h)
            intro po26 xx26 hp26 hx26
            refine g_enter2 (k := 271) (N := 300) (by omega) rfl (Nat.le_of_ble_eq_true rfl) ?_
            refine g_aload_n 1 (gd rfl) rfl rfl ?_
            refine g_iload_n 2 (gd rfl) rfl rfl ?_
            refine g_iconst 1 3 (gd rfl) rfl rfl ?_
            refine g_callv (X := _) (As := [.int (Int32.ofInt 0), .int (Int32.ofInt 1)]) (r := []) (b := A 109) (q := 109) 6 (gd rfl) rfl rfl rfl rfl rfl (ww_o rfl) (Nat.le_of_ble_eq_true rfl) (mc := 0) (ms := 0) (Nat.zero_le _) (Nat.zero_le _) (P := fun v u => _) ?_ (fun e u h => h) (fun v u h => h)
            intro po26x3 xx26x3 hp26x3 hx26x3
            refine g_enter2 (k := 270) (N := 300) (by omega) rfl (Nat.le_of_ble_eq_true rfl) ?_
            refine g_aload_n 1 (gd rfl) rfl rfl ?_
            refine g_iload_n 2 (gd rfl) rfl rfl ?_
            refine g_if_ne 5 9 (gd rfl) rfl rfl (fun c26x3x2 => ?_) (fun c26x3x2 => ?_)
            · skip
              exact zn_ne c26x3x2 (in_c 0 rfl) rfl
            · skip
              refine g_iconst 1 6 (gd rfl) rfl rfl ?_
              refine g_goto 18 (gd rfl) rfl ?_
              refine g_putI 21 (gd rfl) rfl rfl rfl rfl ?_
              have hI26x3x18 := inv_sF (q := 109) (j := 0) hI rfl (in_w 0 2 (in_c 1 rfl) rfl)
              refine g_aload_n 22 (gd rfl) rfl rfl ?_
              refine g_getI 25 (gd rfl) rfl rfl rfl (fun z26x3x22 e26x3x22 => ?_)
              have q26x3x22 : (Int32.ofInt 1) = z26x3x22 := (sF_get).trans e26x3x22.symm
              subst q26x3x22
              refine g_if_le 28 32 (gd rfl) rfl rfl (fun c26x3x25 => ?_) (fun c26x3x25 => ?_)
              · skip
                exact zn_le c26x3x25 (in_c 1 rfl) rfl
              · skip
                refine g_iconst 1 29 (gd rfl) rfl rfl ?_
                refine g_goto 33 (gd rfl) rfl ?_
                refine g_ireturn (gd rfl) rfl (nb01 (in_w 0 1 (in_c 1 rfl) rfl)) (hp26x3 _ _ ?_)
                show GG _ _ _ _ _ _ _ _ [.int (Int32.ofInt 1)] _ _ _
                refine g_ireturn (gd rfl) rfl (nb01 (in_w 0 1 (in_c 1 rfl) rfl)) (hp26 _ _ ?_)
                show GG _ _ _ _ _ _ _ _ [.int (Int32.ofInt 1)] _ _ _
                refine g_if_eq 32 34 (gd rfl) rfl rfl (fun c29 => ?_) (fun c29 => ?_)
                · skip
                  exact zn_eq c29 (in_c 1 rfl) rfl
                · skip
                  refine g_iconst 0 33 (gd rfl) rfl rfl ?_
                  exact g_ireturn (gd rfl) rfl rfl (hP _ _ ⟨(sF s 109 0 (Int32.ofInt 1)), hI26x3x18, (fr_sF rfl fr_rf), (Int32.ofInt 0), rfl, rfl, in_w (-1) 159 (in_c 0 rfl) rfl⟩)
          · skip
            exact zn_ne c14 (in_c 0 rfl) rfl
        · skip
          have i11x1 := z_ge 0 2147483647 c11x1 (i_rng x2) rfl
          refine g_iload_n 5 (gd rfl) rfl rfl ?_
          refine g_aload_n 6 (gd rfl) rfl rfl ?_
          refine g_getI 9 (gd rfl) rfl rfl rfl (fun z11x6 e11x6 => ?_)
          have q11x6 : u_109_20 = z11x6 := (e_109_20).trans e11x6.symm
          subst q11x6
          refine g_cmp_ge 12 16 (gd rfl) rfl rfl (fun c11x9 => ?_) (fun c11x9 => ?_)
          · skip
            have i11x9 := r_le2 1 2147483647 c11x9 i3x9a i11x1 rfl
            refine g_iconst 0 17 (gd rfl) rfl rfl ?_
            refine g_ireturn (gd rfl) rfl (nb01 (in_w 0 1 (in_c 0 rfl) rfl)) (hp11 _ _ ?_)
            show GG _ _ _ _ _ _ _ _ [.int (Int32.ofInt 0), .ref (A 109)] _ _ _
            refine g_if_eq 17 25 (gd rfl) rfl rfl (fun c14 => ?_) (fun c14 => ?_)
            · skip
              refine g_iconst 0 26 (gd rfl) rfl rfl ?_
              refine g_callv (X := _) (As := [.int (Int32.ofInt 0)]) (r := []) (b := A 109) (q := 109) 29 (gd rfl) rfl rfl rfl rfl rfl (ww_o rfl) (Nat.le_of_ble_eq_true rfl) (mc := 0) (ms := 0) (Nat.zero_le _) (Nat.zero_le _) (P := fun v u => _) ?_ (fun e u h => h) (fun v u h => h)
              intro po26 xx26 hp26 hx26
              refine g_enter2 (k := 271) (N := 300) (by omega) rfl (Nat.le_of_ble_eq_true rfl) ?_
              refine g_aload_n 1 (gd rfl) rfl rfl ?_
              refine g_iload_n 2 (gd rfl) rfl rfl ?_
              refine g_iconst 1 3 (gd rfl) rfl rfl ?_
              refine g_callv (X := _) (As := [.int (Int32.ofInt 0), .int (Int32.ofInt 1)]) (r := []) (b := A 109) (q := 109) 6 (gd rfl) rfl rfl rfl rfl rfl (ww_o rfl) (Nat.le_of_ble_eq_true rfl) (mc := 0) (ms := 0) (Nat.zero_le _) (Nat.zero_le _) (P := fun v u => _) ?_ (fun e u h => h) (fun v u h => h)
              intro po26x3 xx26x3 hp26x3 hx26x3
              refine g_enter2 (k := 270) (N := 300) (by omega) rfl (Nat.le_of_ble_eq_true rfl) ?_
              refine g_aload_n 1 (gd rfl) rfl rfl ?_
              refine g_iload_n 2 (gd rfl) rfl rfl ?_
              refine g_if_ne 5 9 (gd rfl) rfl rfl (fun c26x3x2 => ?_) (fun c26x3x2 => ?_)
              · skip
                exact zn_ne c26x3x2 (in_c 0 rfl) rfl
              · skip
                refine g_iconst 1 6 (gd rfl) rfl rfl ?_
                refine g_goto 18 (gd rfl) rfl ?_
                refine g_putI 21 (gd rfl) rfl rfl rfl rfl ?_
                have hI26x3x18 := inv_sF (q := 109) (j := 0) hI rfl (in_w 0 2 (in_c 1 rfl) rfl)
                refine g_aload_n 22 (gd rfl) rfl rfl ?_
                refine g_getI 25 (gd rfl) rfl rfl rfl (fun z26x3x22 e26x3x22 => ?_)
                have q26x3x22 : (Int32.ofInt 1) = z26x3x22 := (sF_get).trans e26x3x22.symm
                subst q26x3x22
                refine g_if_le 28 32 (gd rfl) rfl rfl (fun c26x3x25 => ?_) (fun c26x3x25 => ?_)
                · skip
                  exact zn_le c26x3x25 (in_c 1 rfl) rfl
                · skip
                  refine g_iconst 1 29 (gd rfl) rfl rfl ?_
                  refine g_goto 33 (gd rfl) rfl ?_
                  refine g_ireturn (gd rfl) rfl (nb01 (in_w 0 1 (in_c 1 rfl) rfl)) (hp26x3 _ _ ?_)
                  show GG _ _ _ _ _ _ _ _ [.int (Int32.ofInt 1)] _ _ _
                  refine g_ireturn (gd rfl) rfl (nb01 (in_w 0 1 (in_c 1 rfl) rfl)) (hp26 _ _ ?_)
                  show GG _ _ _ _ _ _ _ _ [.int (Int32.ofInt 1)] _ _ _
                  refine g_if_eq 32 34 (gd rfl) rfl rfl (fun c29 => ?_) (fun c29 => ?_)
                  · skip
                    exact zn_eq c29 (in_c 1 rfl) rfl
                  · skip
                    refine g_iconst 0 33 (gd rfl) rfl rfl ?_
                    exact g_ireturn (gd rfl) rfl rfl (hP _ _ ⟨(sF s 109 0 (Int32.ofInt 1)), hI26x3x18, (fr_sF rfl fr_rf), (Int32.ofInt 0), rfl, rfl, in_w (-1) 159 (in_c 0 rfl) rfl⟩)
            · skip
              exact zn_ne c14 (in_c 0 rfl) rfl
          · skip
            have i11x9 := r_lt1 0 31 c11x9 i11x1 i3x9a rfl
            refine g_iconst 1 13 (gd rfl) rfl rfl ?_
            refine g_goto 17 (gd rfl) rfl ?_
            refine g_ireturn (gd rfl) rfl (nb01 (in_w 0 1 (in_c 1 rfl) rfl)) (hp11 _ _ ?_)
            show GG _ _ _ _ _ _ _ _ [.int (Int32.ofInt 1), .ref (A 109)] _ _ _
            refine g_if_eq 17 25 (gd rfl) rfl rfl (fun c14 => ?_) (fun c14 => ?_)
            · skip
              exact zn_eq c14 (in_c 1 rfl) rfl
            · skip
              refine g_iload_n 18 (gd rfl) rfl rfl ?_
              refine g_if_lt 21 25 (gd rfl) rfl rfl (fun c18 => ?_) (fun c18 => ?_)
              · skip
                have i18 := z_lt (-2147483648) (-1) c18 (i_rng x3) rfl
                refine g_iconst 0 26 (gd rfl) rfl rfl ?_
                refine g_callv (X := _) (As := [.int (Int32.ofInt 0)]) (r := []) (b := A 109) (q := 109) 29 (gd rfl) rfl rfl rfl rfl rfl (ww_o rfl) (Nat.le_of_ble_eq_true rfl) (mc := 0) (ms := 0) (Nat.zero_le _) (Nat.zero_le _) (P := fun v u => _) ?_ (fun e u h => h) (fun v u h => h)
                intro po26 xx26 hp26 hx26
                refine g_enter2 (k := 271) (N := 300) (by omega) rfl (Nat.le_of_ble_eq_true rfl) ?_
                refine g_aload_n 1 (gd rfl) rfl rfl ?_
                refine g_iload_n 2 (gd rfl) rfl rfl ?_
                refine g_iconst 1 3 (gd rfl) rfl rfl ?_
                refine g_callv (X := _) (As := [.int (Int32.ofInt 0), .int (Int32.ofInt 1)]) (r := []) (b := A 109) (q := 109) 6 (gd rfl) rfl rfl rfl rfl rfl (ww_o rfl) (Nat.le_of_ble_eq_true rfl) (mc := 0) (ms := 0) (Nat.zero_le _) (Nat.zero_le _) (P := fun v u => _) ?_ (fun e u h => h) (fun v u h => h)
                intro po26x3 xx26x3 hp26x3 hx26x3
                refine g_enter2 (k := 270) (N := 300) (by omega) rfl (Nat.le_of_ble_eq_true rfl) ?_
                refine g_aload_n 1 (gd rfl) rfl rfl ?_
                refine g_iload_n 2 (gd rfl) rfl rfl ?_
                refine g_if_ne 5 9 (gd rfl) rfl rfl (fun c26x3x2 => ?_) (fun c26x3x2 => ?_)
                · skip
                  exact zn_ne c26x3x2 (in_c 0 rfl) rfl
                · skip
                  refine g_iconst 1 6 (gd rfl) rfl rfl ?_
                  refine g_goto 18 (gd rfl) rfl ?_
                  refine g_putI 21 (gd rfl) rfl rfl rfl rfl ?_
                  have hI26x3x18 := inv_sF (q := 109) (j := 0) hI rfl (in_w 0 2 (in_c 1 rfl) rfl)
                  refine g_aload_n 22 (gd rfl) rfl rfl ?_
                  refine g_getI 25 (gd rfl) rfl rfl rfl (fun z26x3x22 e26x3x22 => ?_)
                  have q26x3x22 : (Int32.ofInt 1) = z26x3x22 := (sF_get).trans e26x3x22.symm
                  subst q26x3x22
                  refine g_if_le 28 32 (gd rfl) rfl rfl (fun c26x3x25 => ?_) (fun c26x3x25 => ?_)
                  · skip
                    exact zn_le c26x3x25 (in_c 1 rfl) rfl
                  · skip
                    refine g_iconst 1 29 (gd rfl) rfl rfl ?_
                    refine g_goto 33 (gd rfl) rfl ?_
                    refine g_ireturn (gd rfl) rfl (nb01 (in_w 0 1 (in_c 1 rfl) rfl)) (hp26x3 _ _ ?_)
                    show GG _ _ _ _ _ _ _ _ [.int (Int32.ofInt 1)] _ _ _
                    refine g_ireturn (gd rfl) rfl (nb01 (in_w 0 1 (in_c 1 rfl) rfl)) (hp26 _ _ ?_)
                    show GG _ _ _ _ _ _ _ _ [.int (Int32.ofInt 1)] _ _ _
                    refine g_if_eq 32 34 (gd rfl) rfl rfl (fun c29 => ?_) (fun c29 => ?_)
                    · skip
                      exact zn_eq c29 (in_c 1 rfl) rfl
                    · skip
                      refine g_iconst 0 33 (gd rfl) rfl rfl ?_
                      exact g_ireturn (gd rfl) rfl rfl (hP _ _ ⟨(sF s 109 0 (Int32.ofInt 1)), hI26x3x18, (fr_sF rfl fr_rf), (Int32.ofInt 0), rfl, rfl, in_w (-1) 159 (in_c 0 rfl) rfl⟩)
              · skip
                have i18 := z_ge 0 2147483647 c18 (i_rng x3) rfl
                refine g_iconst 1 22 (gd rfl) rfl rfl ?_
                refine g_goto 26 (gd rfl) rfl ?_
                refine g_callv (X := _) (As := [.int (Int32.ofInt 1)]) (r := []) (b := A 109) (q := 109) 29 (gd rfl) rfl rfl rfl rfl rfl (ww_o rfl) (Nat.le_of_ble_eq_true rfl) (mc := 0) (ms := 0) (Nat.zero_le _) (Nat.zero_le _) (P := fun v u => _) ?_ (fun e u h => h) (fun v u h => h)
                intro po26 xx26 hp26 hx26
                refine g_enter2 (k := 271) (N := 300) (by omega) rfl (Nat.le_of_ble_eq_true rfl) ?_
                refine g_aload_n 1 (gd rfl) rfl rfl ?_
                refine g_iload_n 2 (gd rfl) rfl rfl ?_
                refine g_iconst 1 3 (gd rfl) rfl rfl ?_
                refine g_callv (X := _) (As := [.int (Int32.ofInt 1), .int (Int32.ofInt 1)]) (r := []) (b := A 109) (q := 109) 6 (gd rfl) rfl rfl rfl rfl rfl (ww_o rfl) (Nat.le_of_ble_eq_true rfl) (mc := 0) (ms := 0) (Nat.zero_le _) (Nat.zero_le _) (P := fun v u => _) ?_ (fun e u h => h) (fun v u h => h)
                intro po26x3 xx26x3 hp26x3 hx26x3
                refine g_enter2 (k := 270) (N := 300) (by omega) rfl (Nat.le_of_ble_eq_true rfl) ?_
                refine g_aload_n 1 (gd rfl) rfl rfl ?_
                refine g_iload_n 2 (gd rfl) rfl rfl ?_
                refine g_if_ne 5 9 (gd rfl) rfl rfl (fun c26x3x2 => ?_) (fun c26x3x2 => ?_)
                · skip
                  refine g_iload_n 10 (gd rfl) rfl rfl ?_
                  refine g_if_ne 13 17 (gd rfl) rfl rfl (fun c26x3x10 => ?_) (fun c26x3x10 => ?_)
                  · skip
                    refine g_iconst 0 18 (gd rfl) rfl rfl ?_
                    refine g_putI 21 (gd rfl) rfl rfl rfl rfl ?_
                    have hI26x3x18 := inv_sF (q := 109) (j := 0) hI rfl (in_w 0 2 (in_c 0 rfl) rfl)
                    refine g_aload_n 22 (gd rfl) rfl rfl ?_
                    refine g_getI 25 (gd rfl) rfl rfl rfl (fun z26x3x22 e26x3x22 => ?_)
                    have q26x3x22 : (Int32.ofInt 0) = z26x3x22 := (sF_get).trans e26x3x22.symm
                    subst q26x3x22
                    refine g_if_le 28 32 (gd rfl) rfl rfl (fun c26x3x25 => ?_) (fun c26x3x25 => ?_)
                    · skip
                      refine g_iconst 0 33 (gd rfl) rfl rfl ?_
                      refine g_ireturn (gd rfl) rfl (nb01 (in_w 0 1 (in_c 0 rfl) rfl)) (hp26x3 _ _ ?_)
                      show GG _ _ _ _ _ _ _ _ [.int (Int32.ofInt 0)] _ _ _
                      refine g_ireturn (gd rfl) rfl (nb01 (in_w 0 1 (in_c 0 rfl) rfl)) (hp26 _ _ ?_)
                      show GG _ _ _ _ _ _ _ _ [.int (Int32.ofInt 0)] _ _ _
                      refine g_if_eq 32 34 (gd rfl) rfl rfl (fun c29 => ?_) (fun c29 => ?_)
                      · skip
                        refine g_aload_n 35 (gd rfl) rfl rfl ?_
                        refine g_iload_n 36 (gd rfl) rfl rfl ?_
                        refine g_iload_n 37 (gd rfl) rfl rfl ?_
                        have p37 : (x1).toInt < nmx (sF s 109 0 (Int32.ofInt 0)) ∧ (x2).toInt < nmx (sF s 109 0 (Int32.ofInt 0)) := by exact ⟨by unfold nmx; rw [← (show u_109_20 = (sF s 109 0 (Int32.ofInt 0)).2.2.1 109 20 from sF_ne rfl (e_109_20))]; have a0 := i11x9; unfold In at a0; have a1 := i3x9; unfold In at a1; have a2 := i3x9a; unfold In at a2; have a3 := ro_109_19; unfold In at a3; have a4 := i18; unfold In at a4; have a5 := (in_c 0 rfl); unfold In at a5; omega, by unfold nmx; rw [← (show u_109_20 = (sF s 109 0 (Int32.ofInt 0)).2.2.1 109 20 from sF_ne rfl (e_109_20))]; have a0 := i11x9; unfold In at a0; have a1 := i3x9; unfold In at a1; have a2 := i3x9a; unfold In at a2; have a3 := ro_109_19; unfold In at a3; have a4 := i18; unfold In at a4; have a5 := (in_c 0 rfl); unfold In at a5; omega⟩
                        refine g_callv (X := _) (As := [.int x1, .int x2]) (r := []) (b := A 109) (q := 109) 40 (gd rfl) rfl rfl rfl rfl rfl (ww_o rfl) (Nat.le_of_ble_eq_true rfl) (Nat.zero_le _) (Nat.zero_le _) (k_314 (by omega) hI26x3x18 (in_w 0 31 i3x9 rfl) (in_w 0 31 i11x9 rfl) p37) (fun e u h => h) (fun v u h => ?_)
                        obtain ⟨s37, hI37, hF37, z37, rfl, rfl, i37, p37a⟩ := h
                        show GG _ _ _ _ _ _ _ _ [.int z37] _ _ _
                        refine g_istore 42 (gd rfl) rfl (Nat.le_of_ble_eq_true rfl) ?_
                        refine g_iload 44 (gd rfl) rfl rfl ?_
                        refine g_if_eq 47 67 (gd rfl) rfl rfl (fun c44 => ?_) (fun c44 => ?_)
                        · skip
                          have i44 := z_eq 0 0 c44 i37 rfl
                          refine g_iconst (-1) 68 (gd rfl) rfl rfl ?_
                          exact g_ireturn (gd rfl) rfl rfl (hP _ _ ⟨s37, hI37, (fr_tr rfl (fr_sF rfl fr_rf) hF37), (Int32.ofInt (-1)), rfl, rfl, in_w (-1) 159 (in_c (-1) rfl) rfl⟩)
                        · skip
                          refine g_aload_n 48 (gd rfl) rfl rfl ?_
                          refine g_iload_n 49 (gd rfl) rfl rfl ?_
                          refine g_iload 51 (gd rfl) rfl rfl ?_
                          have p51 : BTS s37 (x2).toNatClampNeg (z37) := by exact (p37a (by have h := c44; omega)).1
                          refine g_callv (X := _) (As := [.int x2, .int z37]) (r := []) (b := A 109) (q := 109) 54 (gd rfl) rfl rfl rfl rfl rfl (ww_o rfl) (Nat.le_of_ble_eq_true rfl) (Nat.zero_le _) (Nat.zero_le _) (k_312 (by omega) hI37 (in_w 0 31 i11x9 rfl) p51) (fun e u h => h) (fun v u h => ?_)
                          obtain ⟨s51, hI51, hF51, z51, rfl, rfl, i51, p51a⟩ := h
                          show GG _ _ _ _ _ _ _ _ [.int z51] _ _ _
                          refine g_if_eq 57 67 (gd rfl) rfl rfl (fun c54 => ?_) (fun c54 => ?_)
                          · skip
                            have i54 := z_eq 0 0 c54 i51 rfl
                            refine g_iconst (-1) 68 (gd rfl) rfl rfl ?_
                            exact g_ireturn (gd rfl) rfl rfl (hP _ _ ⟨s51, hI51, (fr_tr rfl (fr_tr rfl (fr_sF rfl fr_rf) hF37) hF51), (Int32.ofInt (-1)), rfl, rfl, in_w (-1) 159 (in_c (-1) rfl) rfl⟩)
                          · skip
                            have i54 := z_ne 1 1 c54 i51 rfl
                            refine g_iload_n 58 (gd rfl) rfl rfl ?_
                            refine g_aload_n 59 (gd rfl) rfl rfl ?_
                            refine g_getA (q2 := 131) 62 (gd rfl) rfl rfl rfl rfl ?_
                            refine g_iload_n 63 (gd rfl) rfl rfl ?_
                            refine g_iaload 64 (gd rfl) rfl (n := 32) rfl (in_ix i3x9 rfl) (fun z63 e63 => ?_)
                            refine g_cmp_lt 67 69 (gd rfl) rfl rfl (fun c64 => ?_) (fun c64 => ?_)
                            · skip
                              have i64 := r_lt1 0 2147483646 c64 i18 (i_rng z63) rfl
                              have i64a := r_lt2 1 2147483647 c64 i18 (i_rng z63) rfl
                              refine g_iload_n 70 (gd rfl) rfl rfl ?_
                              refine g_istore 72 (gd rfl) rfl (Nat.le_of_ble_eq_true rfl) ?_
                              refine g_iconst (-1) 73 (gd rfl) rfl rfl ?_
                              refine g_istore 75 (gd rfl) rfl (Nat.le_of_ble_eq_true rfl) ?_
                              refine g_iconst 0 76 (gd rfl) rfl rfl ?_
                              refine g_istore 78 (gd rfl) rfl (Nat.le_of_ble_eq_true rfl) ?_
                              have n78 : 0 ≤ ((Int32.ofInt 0)).toInt := by have a0 := i11x9; unfold In at a0; have a1 := i3x9; unfold In at a1; have a2 := i3x9a; unfold In at a2; have a3 := ro_109_19; unfold In at a3; have a4 := (in_c 0 rfl); unfold In at a4; have a5 := (in_c (-1) rfl); unfold In at a5; have a6 := i64; unfold In at a6; omega
                              have n78a : WFN s51 (x2).toNatClampNeg (z37) := by exact p51a (by have h := c54; omega)
                              have n78b : bt (z37) (x1).toNatClampNeg = true := by exact (p37a (by have h := c44; omega)).2
                              have n78c : (s51.1 131 (x1).toNatClampNeg).toInt + ((Int32.ofInt 0)).toInt = (s51.1 131 (x1).toNatClampNeg).toInt := by have h0 : (Int32.ofInt 0).toInt = 0 := rfl; omega
                              have n78d : (x3).toInt < (s51.1 131 (x1).toNatClampNeg).toInt ∧ (s51.1 131 (x1).toNatClampNeg).toInt ≤ 1000 := by exact ⟨by rw [← e63]; exact c64, ((p51a (by have h := c54; omega)) _ (p37a (by have h := c44; omega)).2).2.2.1.2⟩
                              exact gg_w (by omega) (gg_f (gf_cons rfl (gf_cons rfl (gf_cons rfl (gf_cons rfl (gf_cons rfl (gf_cons rfl (gf_cons rfl (gf_cons rfl gf_nil)))))))) (ct78 1001 s51 z37 x1 (Int32.ofInt (-1)) (Int32.ofInt 0) hI51 (fr_tr rfl (fr_tr rfl (fr_sF rfl fr_rf) hF37) hF51) (in_w 0 31 i3x9 rfl) (in_w 0 31 i11x9 rfl) (in_w 0 2147483646 i64 rfl) (in_w 0 31 i3x9 rfl) (in_w (-1) 159 (in_c (-1) rfl) rfl) (in_w 0 1000 (in_c 0 rfl) rfl) c44 n78 n78a n78b n78c n78d (m_in 1001 (in_w 0 1000 (in_c 0 rfl) rfl) rfl)))
                            · skip
                              refine g_iconst (-1) 68 (gd rfl) rfl rfl ?_
                              exact g_ireturn (gd rfl) rfl rfl (hP _ _ ⟨s51, hI51, (fr_tr rfl (fr_tr rfl (fr_sF rfl fr_rf) hF37) hF51), (Int32.ofInt (-1)), rfl, rfl, in_w (-1) 159 (in_c (-1) rfl) rfl⟩)
                      · skip
                        exact zn_ne c29 (in_c 0 rfl) rfl
                    · skip
                      exact zn_gt c26x3x25 (in_c 0 rfl) rfl
                  · skip
                    exact zn_eq c26x3x10 (in_c 1 rfl) rfl
                · skip
                  exact zn_eq c26x3x2 (in_c 1 rfl) rfl

def fm_358 : FM := ([148], [147, 149, 150], [], [])
/-- GraphHouseModel.sends -/
theorem k_358 {Z : AmZ} {A : Nat → Nat} {s : GS} {ex : va_W} {d : Nat} {X : AmX} {x1 : Int32} (hd : 2 ≤ d) (hI : Inv s) (h1 : In x1 0 31) (q_0 : CO s) (q_1 : SU s) (q_2 : (x1).toInt < (s.2.2.1 109 20).toInt ∧ 0 < (s.2.1 150 (x1).toNatClampNeg).toInt) : GC Z d 358 [.ref (A 109), .int x1] (WW Z A s ++ ex) 0 0 (fun v u => ∃ t : GS, Inv t ∧ Fr fm_358 s t ∧ ∃ z : Int32, v = some (.int z) ∧ u = WW Z A t ++ ex ∧ In z 0 1 ∧ (CO t) ∧ (SU t) ∧ (((z).toInt ≠ 0 → (t.2.1 150 (x1).toNatClampNeg).toInt < (s.2.1 150 (x1).toNatClampNeg).toInt ∧ 0 ≤ (t.2.1 150 (x1).toNatClampNeg).toInt) ∧ ((z).toInt = 0 → t.2.1 150 = s.2.1 150))) X := by
  intro post xp hP hX
  obtain ⟨u_109_20, e_109_20⟩ : ∃ w, w = s.2.2.1 109 20 := ⟨_, rfl⟩
  have ro_109_20 := inv_F hI 0 32 rfl e_109_20
  have ct158 : ∀ (k158 : Nat) (sc158 : GS) (y158_2 : Int32) (y158_3 : Int64) (y158_5 : Int32), Inv sc158 → Fr fm_358 s sc158 → (In y158_2 0 31) → (In y158_5 0 31) → (PL sc158 (x1).toInt (y158_3).toInt (y158_2).toNatClampNeg (y158_5).toNatClampNeg) → (sc158.2.1 150 = s.2.1 150) → (MO s (x1).toNatClampNeg (y158_2).toNatClampNeg (y158_3).toInt) → ((((y158_2).toNatClampNeg : Nat) : Int) ≠ (x1).toInt) → ((y158_2).toInt < (s.2.2.1 109 20).toInt) → rkb sc158.1 sc158.2.2.1 (x1).toInt (y158_5).toNatClampNeg < k158 → GG Z (d - 1) 358 post (gx xp) (1 + k158 * 900) 158 (fun j => xlook j [(0, .ref (A 109)), (1, .int x1), (2, .int y158_2), (3, .long y158_3), (5, .int y158_5)]) [] (WW Z A sc158 ++ ex) 0 0 := by
    intro k158
    induction k158 with
    | zero => intro sc158 y158_2 y158_3 y158_5 hIc158 hFc158 j158_2 j158_5 g158_0 g158_1 g158_2 g158_3 g158_4 mm158; exact absurd mm158 (Nat.not_lt_zero _)
    | succ k158 ih158 =>
      intro sc158 y158_2 y158_3 y158_5 hIc158 hFc158 j158_2 j158_5 g158_0 g158_1 g158_2 g158_3 g158_4 mm158
      refine gg_w (M := 1 + k158 * 900 + 900) (by omega) ?_
      refine g_iload 160 (gd rfl) rfl rfl ?_
      refine g_iload_n 161 (gd rfl) rfl rfl ?_
      refine g_cmp_eq 164 186 (gd rfl) rfl rfl (fun c161 => ?_) (fun c161 => ?_)
      · skip
        refine g_aload_n 187 (gd rfl) rfl rfl ?_
        refine g_getA (q2 := 150) 190 (gd rfl) rfl rfl rfl rfl ?_
        refine g_iload_n 191 (gd rfl) rfl rfl ?_
        refine g_dup2 192 (gd rfl) rfl rfl rfl ?_
        refine g_laload 193 (gd rfl) rfl (n := 32) rfl (in_ix h1 rfl) (fun z192 e192 => ?_)
        refine g_lload_n 194 (gd rfl) rfl rfl ?_
        refine g_lsub 195 (gd rfl) rfl (fun z194 e194 => ?_)
        refine g_lastore 196 (gd rfl) rfl (n := 32) rfl (in_ix h1 rfl) ?_
        have hI195 := inv_sL (q := 150) (j := x1.toNatClampNeg) (x := z194) hIc158 rfl (l_rng z194)
        refine g_aload_n 197 (gd rfl) rfl rfl ?_
        refine g_getA (q2 := 150) 200 (gd rfl) rfl rfl rfl rfl ?_
        refine g_iload_n 201 (gd rfl) rfl rfl ?_
        refine g_dup2 202 (gd rfl) rfl rfl rfl ?_
        refine g_laload 203 (gd rfl) rfl (n := 32) rfl (in_ix j158_2 rfl) (fun z202 e202 => ?_)
        refine g_lload_n 204 (gd rfl) rfl rfl ?_
        refine g_ladd 205 (gd rfl) rfl (fun z204 e204 => ?_)
        refine g_lastore 206 (gd rfl) rfl (n := 32) rfl (in_ix j158_2 rfl) ?_
        have hI205 := inv_sL (q := 150) (j := y158_2.toNatClampNeg) (x := z204) hI195 rfl (l_rng z204)
        refine g_iconst 1 207 (gd rfl) rfl rfl ?_
        have n207 : CO (sL (sL sc158 150 x1.toNatClampNeg z194) 150 y158_2.toNatClampNeg z204) := by first | exact g9_1 | exact co_cg (pl_e g158_0 (by show ((y158_5.toInt.toNat : Nat) : Int) = _; have a0 := h1; unfold In at a0; have a1 := ro_109_20; unfold In at a1; have a2 := j158_5; unfold In at a2; have a3 := j158_2; unfold In at a3; omega)) ⟨rfl, rfl, rfl, rfl, rfl, by simp [sL], rfl, rfl⟩
        have n207a : SU (sL (sL sc158 150 x1.toNatClampNeg z194) 150 y158_2.toNatClampNeg z204) := by first | (intro v hv hvn; rw [g9_2]; rw [hFc9.2.2.1 109 20 rfl] at hvn; exact q_1 v hv hvn) | exact (su_t (T := (sL (sL sc158 150 x1.toNatClampNeg z194) 150 y158_2.toNatClampNeg z204)) (m := y158_3) q_1 (nat_in h1 q_2.1).1 (nat_in h1 q_2.1).2 (nat_in j158_2 g158_4).1 (nat_in j158_2 g158_4).2 (fun e => g158_3 (by rw [e]; show ((x1.toInt.toNat : Nat) : Int) = _; have a0 := h1; unfold In at a0; have a1 := ro_109_20; unfold In at a1; have a2 := j158_5; unfold In at a2; have a3 := j158_2; unfold In at a3; omega)) g158_2 (by rw [← g158_1]; exact e192) e194 (by rw [e202, show (sL sc158 150 x1.toNatClampNeg z194).2.1 150 = vp_updL (sc158.2.1 150) x1.toNatClampNeg z194 from (by simp [sL]), g158_1]) e204 (by rw [show ((sL (sL sc158 150 x1.toNatClampNeg z194) 150 y158_2.toNatClampNeg z204)).2.1 150 = vp_updL (vp_updL (sc158.2.1 150) x1.toNatClampNeg z194) y158_2.toNatClampNeg z204 from (by simp [sL]), g158_1]) (hFc158.2.2.1 109 20 rfl)).1
        have n207b : (((Int32.ofInt 1)).toInt ≠ 0 → ((sL (sL sc158 150 x1.toNatClampNeg z194) 150 y158_2.toNatClampNeg z204).2.1 150 (x1).toNatClampNeg).toInt < (s.2.1 150 (x1).toNatClampNeg).toInt ∧ 0 ≤ ((sL (sL sc158 150 x1.toNatClampNeg z194) 150 y158_2.toNatClampNeg z204).2.1 150 (x1).toNatClampNeg).toInt) ∧ (((Int32.ofInt 1)).toInt = 0 → (sL (sL sc158 150 x1.toNatClampNeg z194) 150 y158_2.toNatClampNeg z204).2.1 150 = s.2.1 150) := by first | exact ⟨fun hz => absurd (by decide) hz, fun _ => g9_2⟩ | exact ⟨fun _ => (su_t (T := (sL (sL sc158 150 x1.toNatClampNeg z194) 150 y158_2.toNatClampNeg z204)) (m := y158_3) q_1 (nat_in h1 q_2.1).1 (nat_in h1 q_2.1).2 (nat_in j158_2 g158_4).1 (nat_in j158_2 g158_4).2 (fun e => g158_3 (by rw [e]; show ((x1.toInt.toNat : Nat) : Int) = _; have a0 := h1; unfold In at a0; have a1 := ro_109_20; unfold In at a1; have a2 := j158_5; unfold In at a2; have a3 := j158_2; unfold In at a3; omega)) g158_2 (by rw [← g158_1]; exact e192) e194 (by rw [e202, show (sL sc158 150 x1.toNatClampNeg z194).2.1 150 = vp_updL (sc158.2.1 150) x1.toNatClampNeg z194 from (by simp [sL]), g158_1]) e204 (by rw [show ((sL (sL sc158 150 x1.toNatClampNeg z194) 150 y158_2.toNatClampNeg z204)).2.1 150 = vp_updL (vp_updL (sc158.2.1 150) x1.toNatClampNeg z194) y158_2.toNatClampNeg z204 from (by simp [sL]), g158_1]) (hFc158.2.2.1 109 20 rfl)).2, fun hz => absurd hz (by decide)⟩
        exact g_ireturn (gd rfl) rfl (nb01 (in_w 0 1 (in_c 1 rfl) rfl)) (hP _ _ ⟨(sL (sL sc158 150 x1.toNatClampNeg z194) 150 y158_2.toNatClampNeg z204), hI205, (fr_sL rfl (fr_sL rfl hFc158)), (Int32.ofInt 1), rfl, rfl, in_w 0 1 (in_c 1 rfl) rfl, n207, n207a, n207b⟩)
      · skip
        have hx158 : ((y158_5.toNatClampNeg : Nat) : Int) ≠ x1.toInt := (by show ((y158_5.toInt.toNat : Nat) : Int) ≠ _; have a0 := h1; unfold In at a0; have a1 := ro_109_20; unfold In at a1; have a2 := j158_5; unfold In at a2; have a3 := j158_2; unfold In at a3; omega)
        have hpi := pl_i g158_0 hx158
        refine g_aload_n 165 (gd rfl) rfl rfl ?_
        refine g_iload 167 (gd rfl) rfl rfl ?_
        have p167 : BE sc158 (y158_5).toNatClampNeg := by exact hpi.1
        refine g_callv (X := _) (As := [.int y158_5]) (r := []) (b := A 109) (q := 109) 170 (gd rfl) rfl rfl rfl rfl rfl (ww_o rfl) (Nat.le_of_ble_eq_true rfl) (Nat.zero_le _) (Nat.zero_le _) (k_349 (by omega) hIc158 (in_w 0 31 j158_5 rfl) p167) (fun e u h => h) (fun v u h => ?_)
        obtain ⟨z167, rfl, rfl, i167, p167a⟩ := h
        show GG _ _ _ _ _ _ _ _ [.int z167] _ _ _
        refine g_istore 172 (gd rfl) rfl (Nat.le_of_ble_eq_true rfl) ?_
        refine g_aload_n 173 (gd rfl) rfl rfl ?_
        refine g_iload 175 (gd rfl) rfl rfl ?_
        refine g_lload_n 176 (gd rfl) rfl rfl ?_
        have p176 : BE sc158 (y158_5).toNatClampNeg := by exact hpi.1
        refine g_callv (X := _) (As := [.int y158_5, .long y158_3]) (r := []) (b := A 109) (q := 109) 179 (gd rfl) rfl rfl rfl rfl rfl (ww_o rfl) (Nat.le_of_ble_eq_true rfl) (Nat.zero_le _) (Nat.zero_le _) (k_351 (by omega) hIc158 (in_w 0 31 j158_5 rfl) p176) (fun e u h => h) (fun v u h => ?_)
        obtain ⟨s176, hI176, hF176, rfl, rfl, p176a⟩ := h
        show GG _ _ _ _ _ _ _ _ [] _ _ _
        refine g_iload 181 (gd rfl) rfl rfl ?_
        refine g_istore 183 (gd rfl) rfl (Nat.le_of_ble_eq_true rfl) ?_
        refine g_goto 158 (gd rfl) rfl ?_
        have n158 : PL s176 (x1).toInt (y158_3).toInt (y158_2).toNatClampNeg (z167).toNatClampNeg := by first | exact pl_s g158_0 hx158 g158_2.1 (by have h := g158_2.2.2.2; omega) p176a p167a (funext fun q => hF176.1 q rfl) (funext fun q => funext fun k => hF176.2.2.1 q k rfl) | (obtain ⟨k, hk1, hk2⟩ := g116_4; exact pl_0 hI176 g116_0 g116_1.1 hk2 hk1 (by show ((y116_5.toInt.toNat : Nat) : Int) = _; have a0 := h1; unfold In at a0; have a1 := ro_109_20; unfold In at a1; have a2 := j158_5; unfold In at a2; have a3 := j158_2; unfold In at a3; have a4 := i167; unfold In at a4; omega) g116_3.2 g116_3.1)
        have n158a : s176.2.1 150 = s.2.1 150 := by first | exact (hF176.2.1 150 rfl).trans g158_1 | exact g116_2
        have n158b : MO s (x1).toNatClampNeg (y158_2).toNatClampNeg (y158_3).toInt := by first | exact g158_2 | exact g116_6
        have n158c : (((y158_2).toNatClampNeg : Nat) : Int) ≠ (x1).toInt := by first | exact g158_3 | exact g116_3.2
        have n158d : (y158_2).toInt < (s.2.2.1 109 20).toInt := by first | exact g158_4 | (have h := g116_3.1.2.1; rw [hFc116.2.2.1 109 20 rfl] at h; have e : ((y116_2.toNatClampNeg : Nat) : Int) = y116_2.toInt := (by show ((y116_2.toInt.toNat : Nat) : Int) = _; have a0 := h1; unfold In at a0; have a1 := ro_109_20; unfold In at a1; have a2 := j158_5; unfold In at a2; have a3 := j158_2; unfold In at a3; have a4 := i167; unfold In at a4; omega); rw [← e]; exact h)
        have m158 : rkb s176.1 s176.2.2.1 (x1).toInt (z167).toNatClampNeg < k158 := by rw [p167a, show (s176).1 = sc158.1 from (funext fun q => hF176.1 q rfl), show (s176).2.2.1 = sc158.2.2.1 from (funext fun q => funext fun k => hF176.2.2.1 q k rfl)]; have hl := hpi.2; have hm := mm158; omega
        exact gg_w (by omega) (gg_f (gf_cons rfl (gf_cons rfl (gf_cons rfl (gf_cons rfl (gf_cons rfl gf_nil))))) (ih158  s176 y158_2 y158_3 z167 hI176 (fr_tr rfl hFc158 hF176) (in_w 0 31 j158_2 rfl) (in_w 0 31 i167 rfl) n158 n158a n158b n158c n158d m158))
  have ct116 : ∀ (k116 : Nat) (sc116 : GS) (y116_2 : Int32) (y116_3 : Int64) (y116_5 : Int32), Inv sc116 → Fr fm_358 s sc116 → (In y116_2 0 31) → (In y116_5 0 31) → (CHE sc116 (x1).toInt) → (CO sc116) → (sc116.2.1 150 = s.2.1 150) → (ND sc116 (y116_2).toNatClampNeg ∧ (((y116_2).toNatClampNeg : Nat) : Int) ≠ (x1).toInt) → (∃ k, (y116_5).toNatClampNeg = it sc116 (y116_2).toNatClampNeg k ∧ WY sc116 (x1).toInt (y116_3).toInt (y116_2).toNatClampNeg k) → (ND sc116 (y116_5).toNatClampNeg) → (MO s (x1).toNatClampNeg (y116_2).toNatClampNeg (y116_3).toInt) → rkb sc116.1 sc116.2.2.1 (x1).toInt (y116_5).toNatClampNeg < k116 → GG Z (d - 1) 358 post (gx xp) (28802 + k116 * 900) 116 (fun j => xlook j [(0, .ref (A 109)), (1, .int x1), (2, .int y116_2), (3, .long y116_3), (5, .int y116_5)]) [] (WW Z A sc116 ++ ex) 0 0 := by
    intro k116
    induction k116 with
    | zero => intro sc116 y116_2 y116_3 y116_5 hIc116 hFc116 j116_2 j116_5 g116_0 g116_1 g116_2 g116_3 g116_4 g116_5 g116_6 mm116; exact absurd mm116 (Nat.not_lt_zero _)
    | succ k116 ih116 =>
      intro sc116 y116_2 y116_3 y116_5 hIc116 hFc116 j116_2 j116_5 g116_0 g116_1 g116_2 g116_3 g116_4 g116_5 g116_6 mm116
      refine gg_w (M := 28802 + k116 * 900 + 900) (by omega) ?_
      refine g_iload 118 (gd rfl) rfl rfl ?_
      refine g_iload_n 119 (gd rfl) rfl rfl ?_
      refine g_cmp_eq 122 155 (gd rfl) rfl rfl (fun c119 => ?_) (fun c119 => ?_)
      · skip
        refine g_iload_n 156 (gd rfl) rfl rfl ?_
        refine g_istore 158 (gd rfl) rfl (Nat.le_of_ble_eq_true rfl) ?_
        have n158 : PL sc116 (x1).toInt (y116_3).toInt (y116_2).toNatClampNeg (y116_2).toNatClampNeg := by first | exact pl_s g158_0 hx158 g158_2.1 (by have h := g158_2.2.2.2; omega) p176a p167a (funext fun q => hF176.1 q rfl) (funext fun q => funext fun k => hF176.2.2.1 q k rfl) | (obtain ⟨k, hk1, hk2⟩ := g116_4; exact pl_0 hIc116 g116_0 g116_1.1 hk2 hk1 (by show ((y116_5.toInt.toNat : Nat) : Int) = _; have a0 := h1; unfold In at a0; have a1 := ro_109_20; unfold In at a1; have a2 := j116_5; unfold In at a2; have a3 := j116_2; unfold In at a3; omega) g116_3.2 g116_3.1)
        have n158a : sc116.2.1 150 = s.2.1 150 := by first | exact (hF176.2.1 150 rfl).trans g158_1 | exact g116_2
        have n158b : MO s (x1).toNatClampNeg (y116_2).toNatClampNeg (y116_3).toInt := by first | exact g158_2 | exact g116_6
        have n158c : (((y116_2).toNatClampNeg : Nat) : Int) ≠ (x1).toInt := by first | exact g158_3 | exact g116_3.2
        have n158d : (y116_2).toInt < (s.2.2.1 109 20).toInt := by first | exact g158_4 | (have h := g116_3.1.2.1; rw [hFc116.2.2.1 109 20 rfl] at h; have e : ((y116_2.toNatClampNeg : Nat) : Int) = y116_2.toInt := (by show ((y116_2.toInt.toNat : Nat) : Int) = _; have a0 := h1; unfold In at a0; have a1 := ro_109_20; unfold In at a1; have a2 := j116_5; unfold In at a2; have a3 := j116_2; unfold In at a3; omega); rw [← e]; exact h)
        have m158 : rkb sc116.1 sc116.2.2.1 (x1).toInt (y116_2).toNatClampNeg < 32 := by exact (br_ok hIc116 g116_0.1).1 _ g116_3.1.1 g116_3.1.2.2
        exact gg_w (by omega) (gg_f (gf_cons rfl (gf_cons rfl (gf_cons rfl (gf_cons rfl (gf_cons rfl gf_nil))))) (ct158 (32) sc116 y116_2 y116_3 y116_2 hIc116 hFc116 (in_w 0 31 j116_2 rfl) (in_w 0 31 j116_2 rfl) n158 n158a n158b n158c n158d m158))
      · skip
        have hx116 : ((y116_5.toNatClampNeg : Nat) : Int) ≠ x1.toInt := (by show ((y116_5.toInt.toNat : Nat) : Int) ≠ _; have a0 := h1; unfold In at a0; have a1 := ro_109_20; unfold In at a1; have a2 := j116_5; unfold In at a2; have a3 := j116_2; unfold In at a3; omega)
        have hev := ev_bf hIc116 (rkf_ok g116_0.1) g116_5 hx116
        have hfo := fb_fo hIc116 g116_1.1 hev.2.2.2.2.1 hev.2.2.2.2.2.1
        refine g_aload_n 123 (gd rfl) rfl rfl ?_
        refine g_iload 125 (gd rfl) rfl rfl ?_
        have p125 : BE sc116 (y116_5).toNatClampNeg := by exact hev.1
        refine g_callv (X := _) (As := [.int y116_5]) (r := []) (b := A 109) (q := 109) 128 (gd rfl) rfl rfl rfl rfl rfl (ww_o rfl) (Nat.le_of_ble_eq_true rfl) (Nat.zero_le _) (Nat.zero_le _) (k_350 (by omega) hIc116 (in_w 0 31 j116_5 rfl) p125) (fun e u h => h) (fun v u h => ?_)
        obtain ⟨z125, rfl, rfl, p125a⟩ := h
        show GG _ _ _ _ _ _ _ _ [.long z125] _ _ _
        have hz125 := p125a hfo
        refine g_lload_n 129 (gd rfl) rfl rfl ?_
        refine g_lcmp 130 (gd rfl) rfl (fun z129 e129 => ?_)
        have i129 := lc_in e129
        refine g_if_ge 133 142 (gd rfl) rfl rfl (fun c130 => ?_) (fun c130 => ?_)
        · skip
          have i130 := z_ge 0 1 c130 i129 rfl
          have c130a := lc_ge e129 c130
          refine g_lload_n 143 (gd rfl) rfl rfl ?_
          refine g_lstore_n 144 (gd rfl) rfl (Nat.le_of_ble_eq_true rfl) ?_
          refine g_aload_n 145 (gd rfl) rfl rfl ?_
          refine g_iload 147 (gd rfl) rfl rfl ?_
          have p147 : BE sc116 (y116_5).toNatClampNeg := by exact hev.1
          refine g_callv (X := _) (As := [.int y116_5]) (r := []) (b := A 109) (q := 109) 150 (gd rfl) rfl rfl rfl rfl rfl (ww_o rfl) (Nat.le_of_ble_eq_true rfl) (Nat.zero_le _) (Nat.zero_le _) (k_349 (by omega) hIc116 (in_w 0 31 j116_5 rfl) p147) (fun e u h => h) (fun v u h => ?_)
          obtain ⟨z147, rfl, rfl, i147, p147a⟩ := h
          show GG _ _ _ _ _ _ _ _ [.int z147] _ _ _
          refine g_istore 152 (gd rfl) rfl (Nat.le_of_ble_eq_true rfl) ?_
          refine g_goto 116 (gd rfl) rfl ?_
          have n116 : CHE sc116 (x1).toInt := by first | exact g116_0 | exact g9_0
          have n116a : CO sc116 := by first | exact g116_1 | exact g9_1
          have n116b : sc116.2.1 150 = s.2.1 150 := by first | exact g116_2 | exact g9_2
          have n116c : ND sc116 (y116_2).toNatClampNeg ∧ (((y116_2).toNatClampNeg : Nat) : Int) ≠ (x1).toInt := by first | exact g116_3 | (rcases g9_3 with hk | ⟨k1, k2, k3⟩; (exfalso; have a0 := h1; unfold In at a0; have a1 := ro_109_20; unfold In at a1; have a2 := j116_5; unfold In at a2; have a3 := j116_2; unfold In at a3; have a4 := i147; unfold In at a4; omega); exact gd_i g9_0 j116_2 h1 k1 k2 k3 g9_2 q_2.2)
          have n116d : ∃ k, (z147).toNatClampNeg = it sc116 (y116_2).toNatClampNeg k ∧ WY sc116 (x1).toInt (y116_3).toInt (y116_2).toNatClampNeg k := by first | (obtain ⟨k, hk1, hk2⟩ := g116_4; exact ⟨k + 1, by rw [p147a, hk1]; rfl, wy_s hk2 (by rw [← hk1]; exact hx116) (by rw [← hk1]; exact g116_5) (by omega) (by rw [← hk1]; omega)⟩) | exact ⟨0, rfl, fun j hj => absurd hj (Nat.not_lt_zero _)⟩
          have n116e : ND sc116 (z147).toNatClampNeg := by first | (rw [p147a]; exact hev.2.1) | (rcases g9_3 with hk | ⟨k1, k2, k3⟩; (exfalso; have a0 := h1; unfold In at a0; have a1 := ro_109_20; unfold In at a1; have a2 := j116_5; unfold In at a2; have a3 := j116_2; unfold In at a3; have a4 := i147; unfold In at a4; omega); exact (gd_i g9_0 j116_2 h1 k1 k2 k3 g9_2 q_2.2).1)
          have n116f : MO s (x1).toNatClampNeg (y116_2).toNatClampNeg (y116_3).toInt := by first | (have hr1 := hev.2.2.2.1; have hq := g116_6; unfold MO at hq ⊢; exact ⟨by omega, by omega, by omega, by omega⟩) | (rcases g9_3 with hk | ⟨k1, k2, k3⟩; (exfalso; have a0 := h1; unfold In at a0; have a1 := ro_109_20; unfold In at a1; have a2 := j116_5; unfold In at a2; have a3 := j116_2; unfold In at a3; have a4 := i147; unfold In at a4; omega); (rw [hFc9.2.2.1 109 20 rfl] at k1; rw [g9_2] at k2; first | exact mo_1 q_1 h1 j116_2 q_2.1 k1 q_2.2 (by rw [← g9_2]; exact e84) (by rw [← g9_2]; exact e90) e91 (by rw [← g9_2]; exact e101) c93a | exact mo_2 q_1 h1 j116_2 q_2.1 k1 k2 (by rw [← g9_2]; exact e84) (by rw [← g9_2]; exact e90) e91 (by rw [← g9_2]; exact e110) e111 c93a))
          have m116 : rkb sc116.1 sc116.2.2.1 (x1).toInt (z147).toNatClampNeg < k116 := by rw [p147a]; have hl := (br_ok hIc116 g116_0.1).2 _ g116_5 hx116; have hm := mm116; omega
          exact gg_w (by omega) (gg_f (gf_cons rfl (gf_cons rfl (gf_cons rfl (gf_cons rfl (gf_cons rfl gf_nil))))) (ih116  sc116 y116_2 y116_3 z147 hIc116 hFc116 (in_w 0 31 j116_2 rfl) (in_w 0 31 i147 rfl) n116 n116a n116b n116c n116d n116e n116f m116))
        · skip
          have i130 := z_lt (-1) (-1) c130 i129 rfl
          have c130a := lc_lt e129 c130
          have i130a := lr_lt1 (-9223372036854775808) 9223372036854775806 c130a (l_rng z125) (l_rng y116_3) rfl
          have i130b := lr_lt2 (-9223372036854775807) 9223372036854775807 c130a (l_rng z125) (l_rng y116_3) rfl
          refine g_aload_n 134 (gd rfl) rfl rfl ?_
          refine g_iload 136 (gd rfl) rfl rfl ?_
          have p136 : BE sc116 (y116_5).toNatClampNeg := by exact hev.1
          refine g_callv (X := _) (As := [.int y116_5]) (r := []) (b := A 109) (q := 109) 139 (gd rfl) rfl rfl rfl rfl rfl (ww_o rfl) (Nat.le_of_ble_eq_true rfl) (Nat.zero_le _) (Nat.zero_le _) (k_350 (by omega) hIc116 (in_w 0 31 j116_5 rfl) p136) (fun e u h => h) (fun v u h => ?_)
          obtain ⟨z136, rfl, rfl, p136a⟩ := h
          show GG _ _ _ _ _ _ _ _ [.long z136] _ _ _
          have hz136 := p136a hfo
          refine g_goto 143 (gd rfl) rfl ?_
          refine g_lstore_n 144 (gd rfl) rfl (Nat.le_of_ble_eq_true rfl) ?_
          refine g_aload_n 145 (gd rfl) rfl rfl ?_
          refine g_iload 147 (gd rfl) rfl rfl ?_
          have p147 : BE sc116 (y116_5).toNatClampNeg := by exact hev.1
          refine g_callv (X := _) (As := [.int y116_5]) (r := []) (b := A 109) (q := 109) 150 (gd rfl) rfl rfl rfl rfl rfl (ww_o rfl) (Nat.le_of_ble_eq_true rfl) (Nat.zero_le _) (Nat.zero_le _) (k_349 (by omega) hIc116 (in_w 0 31 j116_5 rfl) p147) (fun e u h => h) (fun v u h => ?_)
          obtain ⟨z147, rfl, rfl, i147, p147a⟩ := h
          show GG _ _ _ _ _ _ _ _ [.int z147] _ _ _
          refine g_istore 152 (gd rfl) rfl (Nat.le_of_ble_eq_true rfl) ?_
          refine g_goto 116 (gd rfl) rfl ?_
          have n116 : CHE sc116 (x1).toInt := by first | exact g116_0 | exact g9_0
          have n116a : CO sc116 := by first | exact g116_1 | exact g9_1
          have n116b : sc116.2.1 150 = s.2.1 150 := by first | exact g116_2 | exact g9_2
          have n116c : ND sc116 (y116_2).toNatClampNeg ∧ (((y116_2).toNatClampNeg : Nat) : Int) ≠ (x1).toInt := by first | exact g116_3 | (rcases g9_3 with hk | ⟨k1, k2, k3⟩; (exfalso; have a0 := h1; unfold In at a0; have a1 := ro_109_20; unfold In at a1; have a2 := j116_5; unfold In at a2; have a3 := j116_2; unfold In at a3; have a4 := i147; unfold In at a4; omega); exact gd_i g9_0 j116_2 h1 k1 k2 k3 g9_2 q_2.2)
          have n116d : ∃ k, (z147).toNatClampNeg = it sc116 (y116_2).toNatClampNeg k ∧ WY sc116 (x1).toInt (z136).toInt (y116_2).toNatClampNeg k := by first | (obtain ⟨k, hk1, hk2⟩ := g116_4; exact ⟨k + 1, by rw [p147a, hk1]; rfl, wy_s hk2 (by rw [← hk1]; exact hx116) (by rw [← hk1]; exact g116_5) (by omega) (by rw [← hk1]; omega)⟩) | exact ⟨0, rfl, fun j hj => absurd hj (Nat.not_lt_zero _)⟩
          have n116e : ND sc116 (z147).toNatClampNeg := by first | (rw [p147a]; exact hev.2.1) | (rcases g9_3 with hk | ⟨k1, k2, k3⟩; (exfalso; have a0 := h1; unfold In at a0; have a1 := ro_109_20; unfold In at a1; have a2 := j116_5; unfold In at a2; have a3 := j116_2; unfold In at a3; have a4 := i147; unfold In at a4; omega); exact (gd_i g9_0 j116_2 h1 k1 k2 k3 g9_2 q_2.2).1)
          have n116f : MO s (x1).toNatClampNeg (y116_2).toNatClampNeg (z136).toInt := by first | (have hr1 := hev.2.2.2.1; have hq := g116_6; unfold MO at hq ⊢; exact ⟨by omega, by omega, by omega, by omega⟩) | (rcases g9_3 with hk | ⟨k1, k2, k3⟩; (exfalso; have a0 := h1; unfold In at a0; have a1 := ro_109_20; unfold In at a1; have a2 := j116_5; unfold In at a2; have a3 := j116_2; unfold In at a3; have a4 := i147; unfold In at a4; omega); (rw [hFc9.2.2.1 109 20 rfl] at k1; rw [g9_2] at k2; first | exact mo_1 q_1 h1 j116_2 q_2.1 k1 q_2.2 (by rw [← g9_2]; exact e84) (by rw [← g9_2]; exact e90) e91 (by rw [← g9_2]; exact e101) c93a | exact mo_2 q_1 h1 j116_2 q_2.1 k1 k2 (by rw [← g9_2]; exact e84) (by rw [← g9_2]; exact e90) e91 (by rw [← g9_2]; exact e110) e111 c93a))
          have m116 : rkb sc116.1 sc116.2.2.1 (x1).toInt (z147).toNatClampNeg < k116 := by rw [p147a]; have hl := (br_ok hIc116 g116_0.1).2 _ g116_5 hx116; have hm := mm116; omega
          exact gg_w (by omega) (gg_f (gf_cons rfl (gf_cons rfl (gf_cons rfl (gf_cons rfl (gf_cons rfl gf_nil))))) (ih116  sc116 y116_2 z136 z147 hIc116 hFc116 (in_w 0 31 j116_2 rfl) (in_w 0 31 i147 rfl) n116 n116a n116b n116c n116d n116e n116f m116))
  have ct9 : ∀ (k9 : Nat) (sc9 : GS) (y9_2 : Int32) (y9_3 : Int32), Inv sc9 → Fr fm_358 s sc9 → (In y9_2 (-1) 31) → (In y9_3 0 32) → (CHE sc9 (x1).toInt) → (CO sc9) → (sc9.2.1 150 = s.2.1 150) → ((y9_2).toInt < 0 ∨ ((y9_2).toInt < (sc9.2.2.1 109 20).toInt ∧ (sc9.2.1 150 (y9_2).toNatClampNeg).toInt < 0 ∧ (sc9.2.1 149 (y9_2).toNatClampNeg).toInt < 9000000000000000)) → 32 - (y9_3).toInt < (k9 : Int) → GG Z (d - 1) 358 post (gx xp) (57603 + k9 * 900) 9 (fun j => xlook j [(0, .ref (A 109)), (1, .int x1), (2, .int y9_2), (3, .int y9_3)]) [] (WW Z A sc9 ++ ex) 0 0 := by
    intro k9
    induction k9 with
    | zero => intro sc9 y9_2 y9_3 hIc9 hFc9 j9_2 j9_3 g9_0 g9_1 g9_2 g9_3 mm9; exact m_no mm9 j9_3 rfl
    | succ k9 ih9 =>
      intro sc9 y9_2 y9_3 hIc9 hFc9 j9_2 j9_3 g9_0 g9_1 g9_2 g9_3 mm9
      refine gg_w (M := 57603 + k9 * 900 + 900) (by omega) ?_
      refine g_iload_n 10 (gd rfl) rfl rfl ?_
      refine g_aload_n 11 (gd rfl) rfl rfl ?_
      refine g_getI 14 (gd rfl) rfl rfl rfl (fun z11 e11 => ?_)
      have q11 : u_109_20 = z11 := (fr_F e_109_20 hFc9 rfl).trans e11.symm
      subst q11
      refine g_cmp_ge 17 73 (gd rfl) rfl rfl (fun c14 => ?_) (fun c14 => ?_)
      · skip
        refine g_iload_n 74 (gd rfl) rfl rfl ?_
        refine g_if_ge 77 79 (gd rfl) rfl rfl (fun c74 => ?_) (fun c74 => ?_)
        · skip
          have i74 := z_ge 0 31 c74 j9_2 rfl
          refine g_aload_n 80 (gd rfl) rfl rfl ?_
          refine g_getA (q2 := 150) 83 (gd rfl) rfl rfl rfl rfl ?_
          refine g_iload_n 84 (gd rfl) rfl rfl ?_
          refine g_laload 85 (gd rfl) rfl (n := 32) rfl (in_ix h1 rfl) (fun z84 e84 => ?_)
          refine g_aload_n 86 (gd rfl) rfl rfl ?_
          refine g_getA (q2 := 150) 89 (gd rfl) rfl rfl rfl rfl ?_
          refine g_iload_n 90 (gd rfl) rfl rfl ?_
          refine g_laload 91 (gd rfl) rfl (n := 32) rfl (in_ix i74 rfl) (fun z90 e90 => ?_)
          refine g_lneg 92 (gd rfl) rfl (fun z91 e91 => ?_)
          refine g_lcmp 93 (gd rfl) rfl (fun z92 e92 => ?_)
          have i92 := lc_in e92
          refine g_if_ge 96 105 (gd rfl) rfl rfl (fun c93 => ?_) (fun c93 => ?_)
          · skip
            have i93 := z_ge 0 1 c93 i92 rfl
            have c93a := lc_ge e92 c93
            refine g_aload_n 106 (gd rfl) rfl rfl ?_
            refine g_getA (q2 := 150) 109 (gd rfl) rfl rfl rfl rfl ?_
            refine g_iload_n 110 (gd rfl) rfl rfl ?_
            refine g_laload 111 (gd rfl) rfl (n := 32) rfl (in_ix i74 rfl) (fun z110 e110 => ?_)
            refine g_lneg 112 (gd rfl) rfl (fun z111 e111 => ?_)
            refine g_lstore_n 113 (gd rfl) rfl (Nat.le_of_ble_eq_true rfl) ?_
            refine g_iload_n 114 (gd rfl) rfl rfl ?_
            refine g_istore 116 (gd rfl) rfl (Nat.le_of_ble_eq_true rfl) ?_
            have n116 : CHE sc9 (x1).toInt := by first | exact g116_0 | exact g9_0
            have n116a : CO sc9 := by first | exact g116_1 | exact g9_1
            have n116b : sc9.2.1 150 = s.2.1 150 := by first | exact g116_2 | exact g9_2
            have n116c : ND sc9 (y9_2).toNatClampNeg ∧ (((y9_2).toNatClampNeg : Nat) : Int) ≠ (x1).toInt := by first | exact g116_3 | (rcases g9_3 with hk | ⟨k1, k2, k3⟩; (exfalso; have a0 := h1; unfold In at a0; have a1 := ro_109_20; unfold In at a1; have a2 := j9_3; unfold In at a2; have a3 := i74; unfold In at a3; omega); exact gd_i g9_0 i74 h1 k1 k2 k3 g9_2 q_2.2)
            have n116d : ∃ k, (y9_2).toNatClampNeg = it sc9 (y9_2).toNatClampNeg k ∧ WY sc9 (x1).toInt (z111).toInt (y9_2).toNatClampNeg k := by first | (obtain ⟨k, hk1, hk2⟩ := g116_4; exact ⟨k + 1, by rw [p147a, hk1]; rfl, wy_s hk2 (by rw [← hk1]; exact hx116) (by rw [← hk1]; exact g116_5) (by omega) (by rw [← hk1]; omega)⟩) | exact ⟨0, rfl, fun j hj => absurd hj (Nat.not_lt_zero _)⟩
            have n116e : ND sc9 (y9_2).toNatClampNeg := by first | (rw [p147a]; exact hev.2.1) | (rcases g9_3 with hk | ⟨k1, k2, k3⟩; (exfalso; have a0 := h1; unfold In at a0; have a1 := ro_109_20; unfold In at a1; have a2 := j9_3; unfold In at a2; have a3 := i74; unfold In at a3; omega); exact (gd_i g9_0 i74 h1 k1 k2 k3 g9_2 q_2.2).1)
            have n116f : MO s (x1).toNatClampNeg (y9_2).toNatClampNeg (z111).toInt := by first | (have hr1 := hev.2.2.2.1; have hq := g116_6; unfold MO at hq ⊢; exact ⟨by omega, by omega, by omega, by omega⟩) | (rcases g9_3 with hk | ⟨k1, k2, k3⟩; (exfalso; have a0 := h1; unfold In at a0; have a1 := ro_109_20; unfold In at a1; have a2 := j9_3; unfold In at a2; have a3 := i74; unfold In at a3; omega); (rw [hFc9.2.2.1 109 20 rfl] at k1; rw [g9_2] at k2; first | exact mo_1 q_1 h1 i74 q_2.1 k1 q_2.2 (by rw [← g9_2]; exact e84) (by rw [← g9_2]; exact e90) e91 (by rw [← g9_2]; exact e101) c93a | exact mo_2 q_1 h1 i74 q_2.1 k1 k2 (by rw [← g9_2]; exact e84) (by rw [← g9_2]; exact e90) e91 (by rw [← g9_2]; exact e110) e111 c93a))
            have m116 : rkb sc9.1 sc9.2.2.1 (x1).toInt (y9_2).toNatClampNeg < 32 := by exact (br_ok hIc9 n116.1).1 _ n116e.1 n116e.2.2
            exact gg_w (by omega) (gg_f (gf_cons rfl (gf_cons rfl (gf_cons rfl (gf_cons rfl (gf_cons rfl gf_nil))))) (ct116 (32) sc9 y9_2 z111 y9_2 hIc9 hFc9 (in_w 0 31 i74 rfl) (in_w 0 31 i74 rfl) n116 n116a n116b n116c n116d n116e n116f m116))
          · skip
            have i93 := z_lt (-1) (-1) c93 i92 rfl
            have c93a := lc_lt e92 c93
            have i93a := lr_lt1 (-9223372036854775808) 9223372036854775806 c93a (l_rng z84) (l_rng z91) rfl
            have i93b := lr_lt2 (-9223372036854775807) 9223372036854775807 c93a (l_rng z84) (l_rng z91) rfl
            refine g_aload_n 97 (gd rfl) rfl rfl ?_
            refine g_getA (q2 := 150) 100 (gd rfl) rfl rfl rfl rfl ?_
            refine g_iload_n 101 (gd rfl) rfl rfl ?_
            refine g_laload 102 (gd rfl) rfl (n := 32) rfl (in_ix h1 rfl) (fun z101 e101 => ?_)
            refine g_goto 112 (gd rfl) rfl ?_
            refine g_lstore_n 113 (gd rfl) rfl (Nat.le_of_ble_eq_true rfl) ?_
            refine g_iload_n 114 (gd rfl) rfl rfl ?_
            refine g_istore 116 (gd rfl) rfl (Nat.le_of_ble_eq_true rfl) ?_
            have n116 : CHE sc9 (x1).toInt := by first | exact g116_0 | exact g9_0
            have n116a : CO sc9 := by first | exact g116_1 | exact g9_1
            have n116b : sc9.2.1 150 = s.2.1 150 := by first | exact g116_2 | exact g9_2
            have n116c : ND sc9 (y9_2).toNatClampNeg ∧ (((y9_2).toNatClampNeg : Nat) : Int) ≠ (x1).toInt := by first | exact g116_3 | (rcases g9_3 with hk | ⟨k1, k2, k3⟩; (exfalso; have a0 := h1; unfold In at a0; have a1 := ro_109_20; unfold In at a1; have a2 := j9_3; unfold In at a2; have a3 := i74; unfold In at a3; omega); exact gd_i g9_0 i74 h1 k1 k2 k3 g9_2 q_2.2)
            have n116d : ∃ k, (y9_2).toNatClampNeg = it sc9 (y9_2).toNatClampNeg k ∧ WY sc9 (x1).toInt (z101).toInt (y9_2).toNatClampNeg k := by first | (obtain ⟨k, hk1, hk2⟩ := g116_4; exact ⟨k + 1, by rw [p147a, hk1]; rfl, wy_s hk2 (by rw [← hk1]; exact hx116) (by rw [← hk1]; exact g116_5) (by omega) (by rw [← hk1]; omega)⟩) | exact ⟨0, rfl, fun j hj => absurd hj (Nat.not_lt_zero _)⟩
            have n116e : ND sc9 (y9_2).toNatClampNeg := by first | (rw [p147a]; exact hev.2.1) | (rcases g9_3 with hk | ⟨k1, k2, k3⟩; (exfalso; have a0 := h1; unfold In at a0; have a1 := ro_109_20; unfold In at a1; have a2 := j9_3; unfold In at a2; have a3 := i74; unfold In at a3; omega); exact (gd_i g9_0 i74 h1 k1 k2 k3 g9_2 q_2.2).1)
            have n116f : MO s (x1).toNatClampNeg (y9_2).toNatClampNeg (z101).toInt := by first | (have hr1 := hev.2.2.2.1; have hq := g116_6; unfold MO at hq ⊢; exact ⟨by omega, by omega, by omega, by omega⟩) | (rcases g9_3 with hk | ⟨k1, k2, k3⟩; (exfalso; have a0 := h1; unfold In at a0; have a1 := ro_109_20; unfold In at a1; have a2 := j9_3; unfold In at a2; have a3 := i74; unfold In at a3; omega); (rw [hFc9.2.2.1 109 20 rfl] at k1; rw [g9_2] at k2; first | exact mo_1 q_1 h1 i74 q_2.1 k1 q_2.2 (by rw [← g9_2]; exact e84) (by rw [← g9_2]; exact e90) e91 (by rw [← g9_2]; exact e101) c93a | exact mo_2 q_1 h1 i74 q_2.1 k1 k2 (by rw [← g9_2]; exact e84) (by rw [← g9_2]; exact e90) e91 (by rw [← g9_2]; exact e110) e111 c93a))
            have m116 : rkb sc9.1 sc9.2.2.1 (x1).toInt (y9_2).toNatClampNeg < 32 := by exact (br_ok hIc9 n116.1).1 _ n116e.1 n116e.2.2
            exact gg_w (by omega) (gg_f (gf_cons rfl (gf_cons rfl (gf_cons rfl (gf_cons rfl (gf_cons rfl gf_nil))))) (ct116 (32) sc9 y9_2 z101 y9_2 hIc9 hFc9 (in_w 0 31 i74 rfl) (in_w 0 31 i74 rfl) n116 n116a n116b n116c n116d n116e n116f m116))
        · skip
          have i74 := z_lt (-1) (-1) c74 j9_2 rfl
          refine g_iconst 0 78 (gd rfl) rfl rfl ?_
          have n78 : CO sc9 := by first | exact g9_1 | exact co_cg (pl_e g158_0 (by show ((y158_5.toInt.toNat : Nat) : Int) = _; have a0 := h1; unfold In at a0; have a1 := ro_109_20; unfold In at a1; have a2 := j9_3; unfold In at a2; have a3 := i74; unfold In at a3; omega)) ⟨rfl, rfl, rfl, rfl, rfl, by simp [sL], rfl, rfl⟩
          have n78a : SU sc9 := by first | (intro v hv hvn; rw [g9_2]; rw [hFc9.2.2.1 109 20 rfl] at hvn; exact q_1 v hv hvn) | exact (su_t (T := sc9) (m := y158_3) q_1 (nat_in h1 q_2.1).1 (nat_in h1 q_2.1).2 (nat_in i74 g158_4).1 (nat_in i74 g158_4).2 (fun e => g158_3 (by rw [e]; show ((x1.toInt.toNat : Nat) : Int) = _; have a0 := h1; unfold In at a0; have a1 := ro_109_20; unfold In at a1; have a2 := j9_3; unfold In at a2; have a3 := i74; unfold In at a3; omega)) g158_2 (by rw [← g158_1]; exact e192) e194 (by rw [e202, show (sL sc158 150 x1.toNatClampNeg z194).2.1 150 = vp_updL (sc158.2.1 150) x1.toNatClampNeg z194 from (by simp [sL]), g158_1]) e204 (by rw [show (sc9).2.1 150 = vp_updL (vp_updL (sc158.2.1 150) x1.toNatClampNeg z194) y158_2.toNatClampNeg z204 from (by simp [sL]), g158_1]) (hFc158.2.2.1 109 20 rfl)).1
          have n78b : (((Int32.ofInt 0)).toInt ≠ 0 → (sc9.2.1 150 (x1).toNatClampNeg).toInt < (s.2.1 150 (x1).toNatClampNeg).toInt ∧ 0 ≤ (sc9.2.1 150 (x1).toNatClampNeg).toInt) ∧ (((Int32.ofInt 0)).toInt = 0 → sc9.2.1 150 = s.2.1 150) := by first | exact ⟨fun hz => absurd (by decide) hz, fun _ => g9_2⟩ | exact ⟨fun _ => (su_t (T := sc9) (m := y158_3) q_1 (nat_in h1 q_2.1).1 (nat_in h1 q_2.1).2 (nat_in i74 g158_4).1 (nat_in i74 g158_4).2 (fun e => g158_3 (by rw [e]; show ((x1.toInt.toNat : Nat) : Int) = _; have a0 := h1; unfold In at a0; have a1 := ro_109_20; unfold In at a1; have a2 := j9_3; unfold In at a2; have a3 := i74; unfold In at a3; omega)) g158_2 (by rw [← g158_1]; exact e192) e194 (by rw [e202, show (sL sc158 150 x1.toNatClampNeg z194).2.1 150 = vp_updL (sc158.2.1 150) x1.toNatClampNeg z194 from (by simp [sL]), g158_1]) e204 (by rw [show (sc9).2.1 150 = vp_updL (vp_updL (sc158.2.1 150) x1.toNatClampNeg z194) y158_2.toNatClampNeg z204 from (by simp [sL]), g158_1]) (hFc158.2.2.1 109 20 rfl)).2, fun hz => absurd hz (by decide)⟩
          exact g_ireturn (gd rfl) rfl (nb01 (in_w 0 1 (in_c 0 rfl) rfl)) (hP _ _ ⟨sc9, hIc9, hFc9, (Int32.ofInt 0), rfl, rfl, in_w 0 1 (in_c 0 rfl) rfl, n78, n78a, n78b⟩)
      · skip
        have i14 := r_lt1 0 31 c14 j9_3 ro_109_20 rfl
        have i14a := r_lt2 1 32 c14 j9_3 ro_109_20 rfl
        refine g_aload_n 18 (gd rfl) rfl rfl ?_
        refine g_getA (q2 := 150) 21 (gd rfl) rfl rfl rfl rfl ?_
        refine g_iload_n 22 (gd rfl) rfl rfl ?_
        refine g_laload 23 (gd rfl) rfl (n := 32) rfl (in_ix i14 rfl) (fun z22 e22 => ?_)
        refine g_lconst 0 24 (gd rfl) rfl rfl ?_
        refine g_lcmp 25 (gd rfl) rfl (fun z24 e24 => ?_)
        have i24 := lc_in e24
        refine g_if_ge 28 65 (gd rfl) rfl rfl (fun c25 => ?_) (fun c25 => ?_)
        · skip
          have i25 := z_ge 0 1 c25 i24 rfl
          have c25a := lc_ge e24 c25
          have i25a := lr_le2 0 9223372036854775807 c25a (l_c 0 rfl) (l_rng z22) rfl
          refine g_iload_n 66 (gd rfl) rfl rfl ?_
          refine g_istore_n 67 (gd rfl) rfl (Nat.le_of_ble_eq_true rfl) ?_
          refine g_iinc 70 (gd rfl) rfl rfl (Nat.le_of_ble_eq_true rfl) (fun z67 e67 => ?_)
          have i67 := in_add 1 32 e67 i14 (in_c 1 rfl) rfl rfl
          refine g_goto 9 (gd rfl) rfl ?_
          have n9 : CHE sc9 (x1).toInt := by first | exact g9_0 | exact p2b
          have n9a : CO sc9 := by first | exact g9_1 | exact co_cg q_0 ⟨hF2.1 112 rfl, hF2.1 113 rfl, hF2.1 114 rfl, hF2.1 115 rfl, hF2.1 116 rfl, hF2.2.1 147 rfl, hF2.2.2.1 109 19 rfl, hF2.2.2.1 109 20 rfl⟩
          have n9b : sc9.2.1 150 = s.2.1 150 := by first | exact g9_2 | exact hF2.2.1 150 rfl
          have n9c : (y9_2).toInt < 0 ∨ ((y9_2).toInt < (sc9.2.2.1 109 20).toInt ∧ (sc9.2.1 150 (y9_2).toNatClampNeg).toInt < 0 ∧ (sc9.2.1 149 (y9_2).toNatClampNeg).toInt < 9000000000000000) := by first | exact g9_3 | exact Or.inl (by decide) | exact Or.inr ⟨by rw [hFc9.2.2.1 109 20 rfl, ← e_109_20]; have a0 := h1; unfold In at a0; have a1 := i14a; unfold In at a1; have a2 := i14; unfold In at a2; have a3 := j9_2; unfold In at a3; have a4 := i67; unfold In at a4; have a5 := t_add e67 i14 (in_c 1 rfl) rfl; have a6 := (in_c 1 rfl); unfold In at a6; omega, by rw [← e22]; have h := i25a.2; omega, by rw [← e33]; have h := i38a.2; omega⟩
          exact gg_w (by omega) (gg_f (gf_cons rfl (gf_cons rfl (gf_cons rfl (gf_cons rfl gf_nil)))) (ih9 sc9 y9_2 z67 hIc9 hFc9 (in_w (-1) 31 j9_2 rfl) (in_w 0 32 i67 rfl) n9 n9a n9b n9c (m_up mm9 (t_add e67 i14 (in_c 1 rfl) rfl) (in_w 1 1 (in_c 1 rfl) rfl))))
        · skip
          have i25 := z_lt (-1) (-1) c25 i24 rfl
          have c25a := lc_lt e24 c25
          have i25a := lr_lt1 (-9223372036854775808) (-1) c25a (l_rng z22) (l_c 0 rfl) rfl
          refine g_aload_n 29 (gd rfl) rfl rfl ?_
          refine g_getA (q2 := 149) 32 (gd rfl) rfl rfl rfl rfl ?_
          refine g_iload_n 33 (gd rfl) rfl rfl ?_
          refine g_laload 34 (gd rfl) rfl (n := 34) rfl (in_ix i14 rfl) (fun z33 e33 => ?_)
          refine g_ldc2_w 9000000000000000 37 (gd rfl) rfl rfl ?_
          refine g_lcmp 38 (gd rfl) rfl (fun z37 e37 => ?_)
          have i37 := lc_in e37
          refine g_if_ge 41 65 (gd rfl) rfl rfl (fun c38 => ?_) (fun c38 => ?_)
          · skip
            have i38 := z_ge 0 1 c38 i37 rfl
            have c38a := lc_ge e37 c38
            have i38a := lr_le2 9000000000000000 9223372036854775807 c38a (l_c 9000000000000000 rfl) (l_rng z33) rfl
            refine g_iload_n 66 (gd rfl) rfl rfl ?_
            refine g_istore_n 67 (gd rfl) rfl (Nat.le_of_ble_eq_true rfl) ?_
            refine g_iinc 70 (gd rfl) rfl rfl (Nat.le_of_ble_eq_true rfl) (fun z67 e67 => ?_)
            have i67 := in_add 1 32 e67 i14 (in_c 1 rfl) rfl rfl
            refine g_goto 9 (gd rfl) rfl ?_
            have n9 : CHE sc9 (x1).toInt := by first | exact g9_0 | exact p2b
            have n9a : CO sc9 := by first | exact g9_1 | exact co_cg q_0 ⟨hF2.1 112 rfl, hF2.1 113 rfl, hF2.1 114 rfl, hF2.1 115 rfl, hF2.1 116 rfl, hF2.2.1 147 rfl, hF2.2.2.1 109 19 rfl, hF2.2.2.1 109 20 rfl⟩
            have n9b : sc9.2.1 150 = s.2.1 150 := by first | exact g9_2 | exact hF2.2.1 150 rfl
            have n9c : (y9_2).toInt < 0 ∨ ((y9_2).toInt < (sc9.2.2.1 109 20).toInt ∧ (sc9.2.1 150 (y9_2).toNatClampNeg).toInt < 0 ∧ (sc9.2.1 149 (y9_2).toNatClampNeg).toInt < 9000000000000000) := by first | exact g9_3 | exact Or.inl (by decide) | exact Or.inr ⟨by rw [hFc9.2.2.1 109 20 rfl, ← e_109_20]; have a0 := h1; unfold In at a0; have a1 := i14a; unfold In at a1; have a2 := i14; unfold In at a2; have a3 := j9_2; unfold In at a3; have a4 := i67; unfold In at a4; have a5 := t_add e67 i14 (in_c 1 rfl) rfl; have a6 := (in_c 1 rfl); unfold In at a6; omega, by rw [← e22]; have h := i25a.2; omega, by rw [← e33]; have h := i38a.2; omega⟩
            exact gg_w (by omega) (gg_f (gf_cons rfl (gf_cons rfl (gf_cons rfl (gf_cons rfl gf_nil)))) (ih9 sc9 y9_2 z67 hIc9 hFc9 (in_w (-1) 31 j9_2 rfl) (in_w 0 32 i67 rfl) n9 n9a n9b n9c (m_up mm9 (t_add e67 i14 (in_c 1 rfl) rfl) (in_w 1 1 (in_c 1 rfl) rfl))))
          · skip
            have i38 := z_lt (-1) (-1) c38 i37 rfl
            have c38a := lc_lt e37 c38
            have i38a := lr_lt1 (-9223372036854775808) 8999999999999999 c38a (l_rng z33) (l_c 9000000000000000 rfl) rfl
            refine g_iload_n 42 (gd rfl) rfl rfl ?_
            refine g_if_lt 45 61 (gd rfl) rfl rfl (fun c42 => ?_) (fun c42 => ?_)
            · skip
              have i42 := z_lt (-1) (-1) c42 j9_2 rfl
              refine g_iload_n 62 (gd rfl) rfl rfl ?_
              refine g_goto 66 (gd rfl) rfl ?_
              refine g_istore_n 67 (gd rfl) rfl (Nat.le_of_ble_eq_true rfl) ?_
              refine g_iinc 70 (gd rfl) rfl rfl (Nat.le_of_ble_eq_true rfl) (fun z67 e67 => ?_)
              have i67 := in_add 1 32 e67 i14 (in_c 1 rfl) rfl rfl
              refine g_goto 9 (gd rfl) rfl ?_
              have n9 : CHE sc9 (x1).toInt := by first | exact g9_0 | exact p2b
              have n9a : CO sc9 := by first | exact g9_1 | exact co_cg q_0 ⟨hF2.1 112 rfl, hF2.1 113 rfl, hF2.1 114 rfl, hF2.1 115 rfl, hF2.1 116 rfl, hF2.2.1 147 rfl, hF2.2.2.1 109 19 rfl, hF2.2.2.1 109 20 rfl⟩
              have n9b : sc9.2.1 150 = s.2.1 150 := by first | exact g9_2 | exact hF2.2.1 150 rfl
              have n9c : (y9_3).toInt < 0 ∨ ((y9_3).toInt < (sc9.2.2.1 109 20).toInt ∧ (sc9.2.1 150 (y9_3).toNatClampNeg).toInt < 0 ∧ (sc9.2.1 149 (y9_3).toNatClampNeg).toInt < 9000000000000000) := by first | exact g9_3 | exact Or.inl (by decide) | exact Or.inr ⟨by rw [hFc9.2.2.1 109 20 rfl, ← e_109_20]; have a0 := h1; unfold In at a0; have a1 := i14a; unfold In at a1; have a2 := i14; unfold In at a2; have a3 := i42; unfold In at a3; have a4 := i67; unfold In at a4; have a5 := t_add e67 i14 (in_c 1 rfl) rfl; have a6 := (in_c 1 rfl); unfold In at a6; omega, by rw [← e22]; have h := i25a.2; omega, by rw [← e33]; have h := i38a.2; omega⟩
              exact gg_w (by omega) (gg_f (gf_cons rfl (gf_cons rfl (gf_cons rfl (gf_cons rfl gf_nil)))) (ih9 sc9 y9_3 z67 hIc9 hFc9 (in_w (-1) 31 i14 rfl) (in_w 0 32 i67 rfl) n9 n9a n9b n9c (m_up mm9 (t_add e67 i14 (in_c 1 rfl) rfl) (in_w 1 1 (in_c 1 rfl) rfl))))
            · skip
              have i42 := z_ge 0 31 c42 j9_2 rfl
              refine g_aload_n 46 (gd rfl) rfl rfl ?_
              refine g_getA (q2 := 149) 49 (gd rfl) rfl rfl rfl rfl ?_
              refine g_iload_n 50 (gd rfl) rfl rfl ?_
              refine g_laload 51 (gd rfl) rfl (n := 34) rfl (in_ix i14 rfl) (fun z50 e50 => ?_)
              refine g_aload_n 52 (gd rfl) rfl rfl ?_
              refine g_getA (q2 := 149) 55 (gd rfl) rfl rfl rfl rfl ?_
              refine g_iload_n 56 (gd rfl) rfl rfl ?_
              refine g_laload 57 (gd rfl) rfl (n := 34) rfl (in_ix i42 rfl) (fun z56 e56 => ?_)
              refine g_lcmp 58 (gd rfl) rfl (fun z57 e57 => ?_)
              have i57 := lc_in e57
              refine g_if_ge 61 65 (gd rfl) rfl rfl (fun c58 => ?_) (fun c58 => ?_)
              · skip
                have i58 := z_ge 0 1 c58 i57 rfl
                have c58a := lc_ge e57 c58
                refine g_iload_n 66 (gd rfl) rfl rfl ?_
                refine g_istore_n 67 (gd rfl) rfl (Nat.le_of_ble_eq_true rfl) ?_
                refine g_iinc 70 (gd rfl) rfl rfl (Nat.le_of_ble_eq_true rfl) (fun z67 e67 => ?_)
                have i67 := in_add 1 32 e67 i14 (in_c 1 rfl) rfl rfl
                refine g_goto 9 (gd rfl) rfl ?_
                have n9 : CHE sc9 (x1).toInt := by first | exact g9_0 | exact p2b
                have n9a : CO sc9 := by first | exact g9_1 | exact co_cg q_0 ⟨hF2.1 112 rfl, hF2.1 113 rfl, hF2.1 114 rfl, hF2.1 115 rfl, hF2.1 116 rfl, hF2.2.1 147 rfl, hF2.2.2.1 109 19 rfl, hF2.2.2.1 109 20 rfl⟩
                have n9b : sc9.2.1 150 = s.2.1 150 := by first | exact g9_2 | exact hF2.2.1 150 rfl
                have n9c : (y9_2).toInt < 0 ∨ ((y9_2).toInt < (sc9.2.2.1 109 20).toInt ∧ (sc9.2.1 150 (y9_2).toNatClampNeg).toInt < 0 ∧ (sc9.2.1 149 (y9_2).toNatClampNeg).toInt < 9000000000000000) := by first | exact g9_3 | exact Or.inl (by decide) | exact Or.inr ⟨by rw [hFc9.2.2.1 109 20 rfl, ← e_109_20]; have a0 := h1; unfold In at a0; have a1 := i14a; unfold In at a1; have a2 := i14; unfold In at a2; have a3 := i42; unfold In at a3; have a4 := i67; unfold In at a4; have a5 := t_add e67 i14 (in_c 1 rfl) rfl; have a6 := (in_c 1 rfl); unfold In at a6; omega, by rw [← e22]; have h := i25a.2; omega, by rw [← e33]; have h := i38a.2; omega⟩
                exact gg_w (by omega) (gg_f (gf_cons rfl (gf_cons rfl (gf_cons rfl (gf_cons rfl gf_nil)))) (ih9 sc9 y9_2 z67 hIc9 hFc9 (in_w (-1) 31 i42 rfl) (in_w 0 32 i67 rfl) n9 n9a n9b n9c (m_up mm9 (t_add e67 i14 (in_c 1 rfl) rfl) (in_w 1 1 (in_c 1 rfl) rfl))))
              · skip
                have i58 := z_lt (-1) (-1) c58 i57 rfl
                have c58a := lc_lt e57 c58
                have i58a := lr_lt1 (-9223372036854775808) 9223372036854775806 c58a (l_rng z50) (l_rng z56) rfl
                have i58b := lr_lt2 (-9223372036854775807) 9223372036854775807 c58a (l_rng z50) (l_rng z56) rfl
                refine g_iload_n 62 (gd rfl) rfl rfl ?_
                refine g_goto 66 (gd rfl) rfl ?_
                refine g_istore_n 67 (gd rfl) rfl (Nat.le_of_ble_eq_true rfl) ?_
                refine g_iinc 70 (gd rfl) rfl rfl (Nat.le_of_ble_eq_true rfl) (fun z67 e67 => ?_)
                have i67 := in_add 1 32 e67 i14 (in_c 1 rfl) rfl rfl
                refine g_goto 9 (gd rfl) rfl ?_
                have n9 : CHE sc9 (x1).toInt := by first | exact g9_0 | exact p2b
                have n9a : CO sc9 := by first | exact g9_1 | exact co_cg q_0 ⟨hF2.1 112 rfl, hF2.1 113 rfl, hF2.1 114 rfl, hF2.1 115 rfl, hF2.1 116 rfl, hF2.2.1 147 rfl, hF2.2.2.1 109 19 rfl, hF2.2.2.1 109 20 rfl⟩
                have n9b : sc9.2.1 150 = s.2.1 150 := by first | exact g9_2 | exact hF2.2.1 150 rfl
                have n9c : (y9_3).toInt < 0 ∨ ((y9_3).toInt < (sc9.2.2.1 109 20).toInt ∧ (sc9.2.1 150 (y9_3).toNatClampNeg).toInt < 0 ∧ (sc9.2.1 149 (y9_3).toNatClampNeg).toInt < 9000000000000000) := by first | exact g9_3 | exact Or.inl (by decide) | exact Or.inr ⟨by rw [hFc9.2.2.1 109 20 rfl, ← e_109_20]; have a0 := h1; unfold In at a0; have a1 := i14a; unfold In at a1; have a2 := i14; unfold In at a2; have a3 := i42; unfold In at a3; have a4 := i67; unfold In at a4; have a5 := t_add e67 i14 (in_c 1 rfl) rfl; have a6 := (in_c 1 rfl); unfold In at a6; omega, by rw [← e22]; have h := i25a.2; omega, by rw [← e33]; have h := i38a.2; omega⟩
                exact gg_w (by omega) (gg_f (gf_cons rfl (gf_cons rfl (gf_cons rfl (gf_cons rfl gf_nil)))) (ih9 sc9 y9_3 z67 hIc9 hFc9 (in_w (-1) 31 i14 rfl) (in_w 0 32 i67 rfl) n9 n9a n9b n9c (m_up mm9 (t_add e67 i14 (in_c 1 rfl) rfl) (in_w 1 1 (in_c 1 rfl) rfl))))
  refine g_enter2 (k := 358) (N := 88203) (by omega) rfl (Nat.le_of_ble_eq_true rfl) ?_
  refine g_aload_n 1 (gd rfl) rfl rfl ?_
  refine g_iload_n 2 (gd rfl) rfl rfl ?_
  have p2 : CP s := by exact q_0.2
  have p2a : (x1).toInt < (s.2.2.1 109 20).toInt := by exact q_2.1
  refine g_callv (X := _) (As := [.int x1]) (r := []) (b := A 109) (q := 109) 5 (gd rfl) rfl rfl rfl rfl rfl (ww_o rfl) (Nat.le_of_ble_eq_true rfl) (Nat.zero_le _) (Nat.zero_le _) (k_356 (by omega) hI (in_w 0 31 h1 rfl) p2 p2a) (fun e u h => h) (fun v u h => ?_)
  obtain ⟨s2, hI2, hF2, rfl, rfl, p2b⟩ := h
  show GG _ _ _ _ _ _ _ _ [] _ _ _
  refine g_iconst (-1) 6 (gd rfl) rfl rfl ?_
  refine g_istore_n 7 (gd rfl) rfl (Nat.le_of_ble_eq_true rfl) ?_
  refine g_iconst 0 8 (gd rfl) rfl rfl ?_
  refine g_istore_n 9 (gd rfl) rfl (Nat.le_of_ble_eq_true rfl) ?_
  have n9 : CHE s2 (x1).toInt := by first | exact g9_0 | exact p2b
  have n9a : CO s2 := by first | exact g9_1 | exact co_cg q_0 ⟨hF2.1 112 rfl, hF2.1 113 rfl, hF2.1 114 rfl, hF2.1 115 rfl, hF2.1 116 rfl, hF2.2.1 147 rfl, hF2.2.2.1 109 19 rfl, hF2.2.2.1 109 20 rfl⟩
  have n9b : s2.2.1 150 = s.2.1 150 := by first | exact g9_2 | exact hF2.2.1 150 rfl
  have n9c : ((Int32.ofInt (-1))).toInt < 0 ∨ (((Int32.ofInt (-1))).toInt < (s2.2.2.1 109 20).toInt ∧ (s2.2.1 150 ((Int32.ofInt (-1))).toNatClampNeg).toInt < 0 ∧ (s2.2.1 149 ((Int32.ofInt (-1))).toNatClampNeg).toInt < 9000000000000000) := by first | exact g9_3 | exact Or.inl (by decide) | exact Or.inr ⟨by rw [hFc9.2.2.1 109 20 rfl, ← e_109_20]; have a0 := ro_109_20; unfold In at a0; have a1 := h1; unfold In at a1; have a2 := (in_c 0 rfl); unfold In at a2; have a3 := (in_c (-1) rfl); unfold In at a3; omega, by rw [← e22]; have h := i25a.2; omega, by rw [← e33]; have h := i38a.2; omega⟩
  exact gg_w (by omega) (gg_f (gf_cons rfl (gf_cons rfl (gf_cons rfl (gf_cons rfl gf_nil)))) (ct9 33 s2 (Int32.ofInt (-1)) (Int32.ofInt 0) hI2 (fr_tr rfl fr_rf hF2) (in_w (-1) 31 (in_c (-1) rfl) rfl) (in_w 0 32 (in_c 0 rfl) rfl) n9 n9a n9b n9c (m_in 33 (in_w 0 32 (in_c 0 rfl) rfl) rfl)))
