/-! methods, by vc.py -/
def fm_374 : FM := ([169, 170, 171], [], [(109, 80)], [])
/-- GraphHouseModel.findGroups -/
theorem k_374 {Z : AmZ} {A : Nat → Nat} {s : GS} {ex : va_W} {d : Nat} {X : AmX}  (hd : 5 ≤ d) (hI : Inv s)  : GC Z d 374 [.ref (A 109)] (WW Z A s ++ ex) 0 0 (fun v u => ∃ t : GS, Inv t ∧ Fr fm_374 s t ∧ v = none ∧ u = WW Z A t ++ ex) X := by
  intro post xp hP hX
  obtain ⟨u_109_19, e_109_19⟩ : ∃ w, w = s.2.2.1 109 19 := ⟨_, rfl⟩
  have ro_109_19 := inv_F hI 0 160 rfl e_109_19
  obtain ⟨u_109_20, e_109_20⟩ : ∃ w, w = s.2.2.1 109 20 := ⟨_, rfl⟩
  have ro_109_20 := inv_F hI 0 32 rfl e_109_20
  have ct204 : ∀ (k204 : Nat) (sc204 : GS) (y204_1 : Int32) (y204_2 : Int32), Inv sc204 → Fr fm_374 s sc204 → (In y204_1 0 1) → (In y204_2 0 20) → 20 - (y204_2).toInt < (k204 : Int) → GG Z (d - 1) 374 post (gx xp) (1 + k204 * 32401) 204 (fun j => xlook j [(0, .ref (A 109)), (1, .int y204_1), (2, .int y204_2)]) [] (WW Z A sc204 ++ ex) 0 0 := by
    intro k204
    induction k204 with
    | zero => intro sc204 y204_1 y204_2 hIc204 hFc204 j204_1 j204_2 mm204; exact m_no mm204 j204_2 rfl
    | succ k204 ih204 =>
      intro sc204 y204_1 y204_2 hIc204 hFc204 j204_1 j204_2 mm204
      refine gg_w (M := 1 + k204 * 32401 + 32401) (by omega) ?_
      have ct218 : ∀ (k218 : Nat) (sc218 : GS) (y218_1 : Int32) (y218_3 : Int32), Inv sc218 → Fr fm_374 s sc218 → (In y218_1 0 1) → (In y204_2 0 19) → (In y218_3 0 32) → 32 - (y218_3).toInt < (k218 : Int) → GG Z (d - 1) 374 post (gx xp) (1 + k204 * 32401 + 1 + k218 * 900) 218 (fun j => xlook j [(0, .ref (A 109)), (1, .int y218_1), (2, .int y204_2), (3, .int y218_3)]) [] (WW Z A sc218 ++ ex) 0 0 := by
        intro k218
        induction k218 with
        | zero => intro sc218 y218_1 y218_3 hIc218 hFc218 j218_1 j218_2 j218_3 mm218; exact m_no mm218 j218_3 rfl
        | succ k218 ih218 =>
          intro sc218 y218_1 y218_3 hIc218 hFc218 j218_1 j218_2 j218_3 mm218
          refine gg_w (M := 1 + k204 * 32401 + 1 + k218 * 900 + 900) (by omega) (g_iload_n 219 (gd rfl) rfl rfl (g_aload_n 220 (gd rfl) rfl rfl (g_getIv (y := u_109_20) 223 (gd rfl) rfl rfl rfl (fr_F e_109_20 hFc218 rfl) (g_cmp_ge 226 268 (gd rfl) rfl rfl (fun c223 => ?_) (fun c223 => ?_)))))
          · skip
            exact g_iinc 271 (gd rfl) rfl rfl (Nat.le_of_ble_eq_true rfl) (fun z268 e268 => have i268 := in_add 1 20 e268 j218_2 (in_c 1 rfl) rfl rfl; g_goto 204 (gd rfl) rfl (gg_w (by omega) (gg_f (gf_cons rfl (gf_cons rfl (gf_cons rfl gf_nil))) (ih204 sc218 y218_1 z268 hIc218 hFc218 (in_w 0 1 j218_1 rfl) (in_w 0 20 i268 rfl) (m_up mm204 (t_add e268 j218_2 (in_c 1 rfl) rfl) (in_w 1 1 (in_c 1 rfl) rfl))))))
          · skip
            have i223 := r_lt1 0 31 c223 j218_3 ro_109_20 rfl
            have i223a := r_lt2 1 32 c223 j218_3 ro_109_20 rfl
            refine g_aload_n 227 (gd rfl) rfl rfl (g_iload_n 228 (gd rfl) rfl rfl (g_callv (X := _) (As := [.int y218_3]) (r := []) (b := A 109) (q := 109) 231 (gd rfl) rfl rfl rfl rfl rfl (ww_o rfl) (Nat.le_of_ble_eq_true rfl) (Nat.zero_le _) (Nat.zero_le _) (k_376 (by omega) hIc218 (in_w 0 31 i223 rfl)) (fun e u h => h) (fun v u h => ?_)))
            obtain ⟨z228, rfl, rfl, i228⟩ := h
            show GG _ _ _ _ _ _ _ _ [.int z228] _ _ _
            refine g_istore 233 (gd rfl) rfl (Nat.le_of_ble_eq_true rfl) (g_iload_n 234 (gd rfl) rfl rfl (g_if_ne 237 248 (gd rfl) rfl rfl (fun c234 => ?_) (fun c234 => ?_)))
            · skip
              have i234 := z_ne 1 1 c234 j218_1 rfl
              exact g_iconst 1 249 (gd rfl) rfl rfl (g_goto 253 (gd rfl) rfl (g_istore_n 254 (gd rfl) rfl (Nat.le_of_ble_eq_true rfl) (g_aload_n 255 (gd rfl) rfl rfl (g_getA (q2 := 169) 258 (gd rfl) rfl rfl rfl rfl (g_iload_n 259 (gd rfl) rfl rfl (g_iload 261 (gd rfl) rfl rfl (g_iastore 262 (gd rfl) rfl (n := 32) rfl (in_ix i223 rfl) (have hI261 := inv_sI (q := 169) (j := y218_3.toNatClampNeg) hIc218 rfl (in_w (-2147483648) 2147483647 i228 rfl); g_iinc 265 (gd rfl) rfl rfl (Nat.le_of_ble_eq_true rfl) (fun z262 e262 => have i262 := in_add 1 32 e262 i223 (in_c 1 rfl) rfl rfl; g_goto 218 (gd rfl) rfl (gg_w (by omega) (gg_f (gf_cons rfl (gf_cons rfl (gf_cons rfl (gf_cons rfl gf_nil)))) (ih218 (sI sc218 169 y218_3.toNatClampNeg z228) (Int32.ofInt 1) z262 hI261 (fr_sI rfl hFc218) (in_w 0 1 (in_c 1 rfl) rfl) (in_w 0 19 j218_2 rfl) (in_w 0 32 i262 rfl) (m_up mm218 (t_add e262 i223 (in_c 1 rfl) rfl) (in_w 1 1 (in_c 1 rfl) rfl))))))))))))))
            · skip
              have i234 := z_eq 0 0 c234 j218_1 rfl
              refine g_iload 239 (gd rfl) rfl rfl (g_aload_n 240 (gd rfl) rfl rfl (g_getA (q2 := 169) 243 (gd rfl) rfl rfl rfl rfl (g_iload_n 244 (gd rfl) rfl rfl (g_iaload 245 (gd rfl) rfl (n := 32) rfl (in_ix i223 rfl) (fun z244 e244 => g_cmp_eq 248 252 (gd rfl) rfl rfl (fun c245 => ?_) (fun c245 => ?_))))))
              · skip
                exact g_iconst 0 253 (gd rfl) rfl rfl (g_istore_n 254 (gd rfl) rfl (Nat.le_of_ble_eq_true rfl) (g_aload_n 255 (gd rfl) rfl rfl (g_getA (q2 := 169) 258 (gd rfl) rfl rfl rfl rfl (g_iload_n 259 (gd rfl) rfl rfl (g_iload 261 (gd rfl) rfl rfl (g_iastore 262 (gd rfl) rfl (n := 32) rfl (in_ix i223 rfl) (have hI261 := inv_sI (q := 169) (j := y218_3.toNatClampNeg) hIc218 rfl (in_w (-2147483648) 2147483647 i228 rfl); g_iinc 265 (gd rfl) rfl rfl (Nat.le_of_ble_eq_true rfl) (fun z262 e262 => have i262 := in_add 1 32 e262 i223 (in_c 1 rfl) rfl rfl; g_goto 218 (gd rfl) rfl (gg_w (by omega) (gg_f (gf_cons rfl (gf_cons rfl (gf_cons rfl (gf_cons rfl gf_nil)))) (ih218 (sI sc218 169 y218_3.toNatClampNeg z228) (Int32.ofInt 0) z262 hI261 (fr_sI rfl hFc218) (in_w 0 1 (in_c 0 rfl) rfl) (in_w 0 19 j218_2 rfl) (in_w 0 32 i262 rfl) (m_up mm218 (t_add e262 i223 (in_c 1 rfl) rfl) (in_w 1 1 (in_c 1 rfl) rfl)))))))))))))
              · skip
                exact g_iconst 1 249 (gd rfl) rfl rfl (g_goto 253 (gd rfl) rfl (g_istore_n 254 (gd rfl) rfl (Nat.le_of_ble_eq_true rfl) (g_aload_n 255 (gd rfl) rfl rfl (g_getA (q2 := 169) 258 (gd rfl) rfl rfl rfl rfl (g_iload_n 259 (gd rfl) rfl rfl (g_iload 261 (gd rfl) rfl rfl (g_iastore 262 (gd rfl) rfl (n := 32) rfl (in_ix i223 rfl) (have hI261 := inv_sI (q := 169) (j := y218_3.toNatClampNeg) hIc218 rfl (in_w (-2147483648) 2147483647 i228 rfl); g_iinc 265 (gd rfl) rfl rfl (Nat.le_of_ble_eq_true rfl) (fun z262 e262 => have i262 := in_add 1 32 e262 i223 (in_c 1 rfl) rfl rfl; g_goto 218 (gd rfl) rfl (gg_w (by omega) (gg_f (gf_cons rfl (gf_cons rfl (gf_cons rfl (gf_cons rfl gf_nil)))) (ih218 (sI sc218 169 y218_3.toNatClampNeg z228) (Int32.ofInt 1) z262 hI261 (fr_sI rfl hFc218) (in_w 0 1 (in_c 1 rfl) rfl) (in_w 0 19 j218_2 rfl) (in_w 0 32 i262 rfl) (m_up mm218 (t_add e262 i223 (in_c 1 rfl) rfl) (in_w 1 1 (in_c 1 rfl) rfl))))))))))))))
      refine g_iload_n 205 (gd rfl) rfl rfl (g_bipush 20 207 (gd rfl) rfl rfl (g_cmp_ge 210 274 (gd rfl) rfl rfl (fun c207 => ?_) (fun c207 => ?_)))
      · skip
        have i207 := r_le2 20 20 c207 (in_c 20 rfl) j204_2 rfl
        exact g_return (gd rfl) rfl (hP _ _ ⟨sc204, hIc204, hFc204, rfl, rfl⟩)
      · skip
        have i207 := r_lt1 0 19 c207 j204_2 (in_c 20 rfl) rfl
        refine g_iload_n 211 (gd rfl) rfl rfl (g_if_eq 214 274 (gd rfl) rfl rfl (fun c211 => ?_) (fun c211 => ?_))
        · skip
          have i211 := z_eq 0 0 c211 j204_1 rfl
          exact g_return (gd rfl) rfl (hP _ _ ⟨sc204, hIc204, hFc204, rfl, rfl⟩)
        · skip
          have i211 := z_ne 1 1 c211 j204_1 rfl
          exact g_iconst 0 215 (gd rfl) rfl rfl (g_istore_n 216 (gd rfl) rfl (Nat.le_of_ble_eq_true rfl) (g_iconst 0 217 (gd rfl) rfl rfl (g_istore_n 218 (gd rfl) rfl (Nat.le_of_ble_eq_true rfl) (gg_w (by omega) (gg_f (gf_cons rfl (gf_cons rfl (gf_cons rfl (gf_cons rfl gf_nil)))) (ct218 33 sc204 (Int32.ofInt 0) (Int32.ofInt 0) hIc204 hFc204 (in_w 0 1 (in_c 0 rfl) rfl) (in_w 0 19 i207 rfl) (in_w 0 32 (in_c 0 rfl) rfl) (m_in 33 (in_w 0 32 (in_c 0 rfl) rfl) rfl)))))))
  have ct59 : ∀ (k59 : Nat) (sc59 : GS) (y59_1 : Int32) (w59_109_80 : Int32), Inv sc59 → Fr fm_374 s sc59 → (In y59_1 0 160) → (w59_109_80 = sc59.2.2.1 109 80) → ((w59_109_80).toInt ≤ (y59_1).toInt) → 160 - (y59_1).toInt < (k59 : Int) → GG Z (d - 1) 374 post (gx xp) (680423 + k59 * 900) 59 (fun j => xlook j [(0, .ref (A 109)), (1, .int y59_1)]) [] (WW Z A sc59 ++ ex) 0 0 := by
    intro k59
    induction k59 with
    | zero => intro sc59 y59_1 w59_109_80 hIc59 hFc59 j59_1 v59_109_80 n59_0 mm59; exact m_no mm59 j59_1 rfl
    | succ k59 ih59 =>
      intro sc59 y59_1 w59_109_80 hIc59 hFc59 j59_1 v59_109_80 n59_0 mm59
      refine gg_w (M := 680423 + k59 * 900 + 900) (by omega) (g_iload_n 60 (gd rfl) rfl rfl (g_sipush 160 63 (gd rfl) rfl rfl (g_cmp_ge 66 200 (gd rfl) rfl rfl (fun c63 => ?_) (fun c63 => ?_))))
      · skip
        have i63 := r_le2 160 160 c63 (in_c 160 rfl) j59_1 rfl
        exact g_iconst 1 201 (gd rfl) rfl rfl (g_istore_n 202 (gd rfl) rfl (Nat.le_of_ble_eq_true rfl) (g_iconst 0 203 (gd rfl) rfl rfl (g_istore_n 204 (gd rfl) rfl (Nat.le_of_ble_eq_true rfl) (gg_w (by omega) (gg_f (gf_cons rfl (gf_cons rfl (gf_cons rfl gf_nil))) (ct204 21 sc59 (Int32.ofInt 1) (Int32.ofInt 0) hIc59 hFc59 (in_w 0 1 (in_c 1 rfl) rfl) (in_w 0 20 (in_c 0 rfl) rfl) (m_in 21 (in_w 0 20 (in_c 0 rfl) rfl) rfl)))))))
      · skip
        have i63 := r_lt1 0 159 c63 j59_1 (in_c 160 rfl) rfl
        refine g_aload_n 67 (gd rfl) rfl rfl (g_iload_n 68 (gd rfl) rfl rfl ?_)
        refine g_callv (X := _) (As := [.int y59_1]) (r := []) (b := A 109) (q := 109) 71 (gd rfl) rfl rfl rfl rfl rfl (ww_o rfl) (Nat.le_of_ble_eq_true rfl) (mc := 0) (ms := 0) (Nat.zero_le _) (Nat.zero_le _) (P := fun v u => _) ?_ (fun e u h => h) (fun v u h => h)
        intro po68 xx68 hp68 hx68
        refine g_enter2 (k := 288) (N := 300) (by omega) rfl (Nat.le_of_ble_eq_true rfl) (g_aload_n 1 (gd rfl) rfl rfl (g_getA (q2 := 112) 4 (gd rfl) rfl rfl rfl rfl (g_aload_n 5 (gd rfl) rfl rfl (g_getIv (y := u_109_19) 8 (gd rfl) rfl rfl rfl (fr_F e_109_19 hFc59 rfl) (g_iload_n 9 (gd rfl) rfl rfl (g_iadd 10 (gd rfl) rfl (fun z68x9 e68x9 => have i68x9 := in_add 0 319 e68x9 ro_109_19 i63 rfl rfl; g_baload 11 (gd rfl) rfl (n := 480) rfl (in_ix i68x9 rfl) (fun z68x10 e68x10 => have i68x10 := inv_I hIc59 (n := 480) (t := 3) 0 1 rfl (in_ix i68x9 rfl) rfl e68x10; g_if_eq 14 43 (gd rfl) rfl rfl (fun c68x11 => ?_) (fun c68x11 => ?_)))))))))
        · skip
          have i68x11 := z_eq 0 0 c68x11 i68x10 rfl
          refine g_iconst 0 44 (gd rfl) rfl rfl ?_
          refine g_ireturn (gd rfl) rfl (nb01 (in_w 0 1 (in_c 0 rfl) rfl)) (hp68 _ _ ?_)
          show GG _ _ _ _ _ _ _ _ [.int (Int32.ofInt 0)] _ _ _
          refine g_if_eq 74 194 (gd rfl) rfl rfl (fun c71 => ?_) (fun c71 => ?_)
          · skip
            refine g_iinc 197 (gd rfl) rfl rfl (Nat.le_of_ble_eq_true rfl) (fun z194 e194 => have i194 := in_add 1 160 e194 i63 (in_c 1 rfl) rfl rfl; g_goto 59 (gd rfl) rfl ?_)
            have n59 : (w59_109_80).toInt ≤ (z194).toInt := by exact (have a0 := in_u ro_109_20; have a1 := in_u ro_109_19; have a2 := in_u ((inv_F hIc59 0 160 rfl v59_109_80)); have a3 := in_u i63; have a4 := in_u i194; have a5 := t_add e194 i63 (in_c 1 rfl) rfl; have a6 := in_u ((in_c 1 rfl)); have a7 := in_u i68x9; have a8 := t_add e68x9 ro_109_19 i63 rfl; by omega)
            exact gg_w (by omega) (gg_f (gf_cons rfl (gf_cons rfl gf_nil)) (ih59 sc59 z194 w59_109_80 hIc59 hFc59 (in_w 0 160 i194 rfl) v59_109_80 n59 (m_up mm59 (t_add e194 i63 (in_c 1 rfl) rfl) (in_w 1 1 (in_c 1 rfl) rfl))))
          · skip
            exact zn_ne c71 (in_c 0 rfl) rfl
        · skip
          have i68x11 := z_ne 1 1 c68x11 i68x10 rfl
          refine g_aload_n 15 (gd rfl) rfl rfl (g_getA (q2 := 113) 18 (gd rfl) rfl rfl rfl rfl (g_aload_n 19 (gd rfl) rfl rfl (g_getIv (y := u_109_19) 22 (gd rfl) rfl rfl rfl (fr_F e_109_19 hFc59 rfl) (g_iload_n 23 (gd rfl) rfl rfl (g_iadd 24 (gd rfl) rfl (fun z68x23 e68x23 => have i68x23 := in_add 0 319 e68x23 ro_109_19 i63 rfl rfl; g_iaload 25 (gd rfl) rfl (n := 480) rfl (in_ix i68x23 rfl) (fun z68x24 e68x24 => have i68x24 := inv_I hIc59 (n := 480) (t := 0) 0 31 rfl (in_ix i68x23 rfl) rfl e68x24; g_aload_n 26 (gd rfl) rfl rfl (g_getA (q2 := 114) 29 (gd rfl) rfl rfl rfl rfl (g_aload_n 30 (gd rfl) rfl rfl (g_getIv (y := u_109_19) 33 (gd rfl) rfl rfl rfl (fr_F e_109_19 hFc59 rfl) (g_iload_n 34 (gd rfl) rfl rfl (g_iadd 35 (gd rfl) rfl (fun z68x34 e68x34 => have i68x34 := in_add 0 319 e68x34 ro_109_19 i63 rfl rfl; g_iaload 36 (gd rfl) rfl (n := 480) rfl (in_ix i68x34 rfl) (fun z68x35 e68x35 => have i68x35 := inv_I hIc59 (n := 480) (t := 0) 0 31 rfl (in_ix i68x34 rfl) rfl e68x35; g_cmp_eq 39 43 (gd rfl) rfl rfl (fun c68x36 => ?_) (fun c68x36 => ?_)))))))))))))))
          · skip
            refine g_iconst 0 44 (gd rfl) rfl rfl ?_
            refine g_ireturn (gd rfl) rfl (nb01 (in_w 0 1 (in_c 0 rfl) rfl)) (hp68 _ _ ?_)
            show GG _ _ _ _ _ _ _ _ [.int (Int32.ofInt 0)] _ _ _
            refine g_if_eq 74 194 (gd rfl) rfl rfl (fun c71 => ?_) (fun c71 => ?_)
            · skip
              refine g_iinc 197 (gd rfl) rfl rfl (Nat.le_of_ble_eq_true rfl) (fun z194 e194 => have i194 := in_add 1 160 e194 i63 (in_c 1 rfl) rfl rfl; g_goto 59 (gd rfl) rfl ?_)
              have n59 : (w59_109_80).toInt ≤ (z194).toInt := by exact (have a0 := in_u ro_109_20; have a1 := in_u ro_109_19; have a2 := in_u ((inv_F hIc59 0 160 rfl v59_109_80)); have a3 := in_u i63; have a4 := in_u i194; have a5 := t_add e194 i63 (in_c 1 rfl) rfl; have a6 := in_u ((in_c 1 rfl)); have a7 := in_u i68x34; have a8 := t_add e68x34 ro_109_19 i63 rfl; have a9 := in_u i68x23; have a10 := t_add e68x23 ro_109_19 i63 rfl; have a11 := in_u i68x9; have a12 := t_add e68x9 ro_109_19 i63 rfl; by omega)
              exact gg_w (by omega) (gg_f (gf_cons rfl (gf_cons rfl gf_nil)) (ih59 sc59 z194 w59_109_80 hIc59 hFc59 (in_w 0 160 i194 rfl) v59_109_80 n59 (m_up mm59 (t_add e194 i63 (in_c 1 rfl) rfl) (in_w 1 1 (in_c 1 rfl) rfl))))
            · skip
              exact zn_ne c71 (in_c 0 rfl) rfl
          · skip
            refine g_iconst 1 40 (gd rfl) rfl rfl (g_goto 44 (gd rfl) rfl ?_)
            refine g_ireturn (gd rfl) rfl (nb01 (in_w 0 1 (in_c 1 rfl) rfl)) (hp68 _ _ ?_)
            show GG _ _ _ _ _ _ _ _ [.int (Int32.ofInt 1)] _ _ _
            refine g_if_eq 74 194 (gd rfl) rfl rfl (fun c71 => ?_) (fun c71 => ?_)
            · skip
              exact zn_eq c71 (in_c 1 rfl) rfl
            · skip
              refine g_aload_n 75 (gd rfl) rfl rfl (g_dup 76 (gd rfl) rfl rfl (g_getIv (y := w59_109_80) 79 (gd rfl) rfl rfl rfl (v59_109_80) (g_iconst 1 80 (gd rfl) rfl rfl (g_iadd 81 (gd rfl) rfl (fun z80 e80 => ?_)))))
              have i80 := in_add 1 161 e80 (inv_F hIc59 0 160 rfl v59_109_80) (in_c 1 rfl) rfl rfl
              have i81 : In z80 0 160 := by exact (have a0 := in_u ro_109_20; have a1 := in_u ro_109_19; have a2 := in_u ((inv_F hIc59 0 160 rfl v59_109_80)); have a3 := in_u i63; have a4 := in_u i80; have a5 := t_add e80 (inv_F hIc59 0 160 rfl v59_109_80) (in_c 1 rfl) rfl; have a6 := in_u ((in_c 1 rfl)); have a7 := in_u i68x34; have a8 := t_add e68x34 ro_109_19 i63 rfl; have a9 := in_u i68x23; have a10 := t_add e68x23 ro_109_19 i63 rfl; have a11 := in_u i68x9; have a12 := t_add e68x9 ro_109_19 i63 rfl; ⟨by omega, by omega⟩)
              refine g_putI 84 (gd rfl) rfl rfl rfl rfl (have hI81 := inv_sF (q := 109) (j := 80) hIc59 rfl (in_w 0 160 i81 rfl); g_aload_n 85 (gd rfl) rfl rfl (g_getA (q2 := 170) 88 (gd rfl) rfl rfl rfl rfl (g_aload_n 89 (gd rfl) rfl rfl (g_getA (q2 := 113) 92 (gd rfl) rfl rfl rfl rfl (g_aload_n 93 (gd rfl) rfl rfl (g_getIv (y := u_109_19) 96 (gd rfl) rfl rfl rfl (sF_ne rfl (fr_F e_109_19 hFc59 rfl)) (g_iload_n 97 (gd rfl) rfl rfl (g_iadd 98 (gd rfl) rfl (fun z97 e97 => have i97 := in_add 0 319 e97 ro_109_19 i63 rfl rfl; g_iaload 99 (gd rfl) rfl (n := 480) rfl (in_ix i97 rfl) (fun z98 e98 => have i98 := inv_I hI81 (n := 480) (t := 0) 0 31 rfl (in_ix i97 rfl) rfl e98; g_dup2 100 (gd rfl) rfl rfl rfl (g_iaload 101 (gd rfl) rfl (n := 32) rfl (in_ix i98 rfl) (fun z100 e100 => g_iconst 1 102 (gd rfl) rfl rfl (g_iadd 103 (gd rfl) rfl (fun z102 e102 => g_iastore 104 (gd rfl) rfl (n := 32) rfl (in_ix i98 rfl) (have hI103 := inv_sI (q := 170) (j := z98.toNatClampNeg) hI81 rfl (in_w (-2147483648) 2147483647 (i_rng z102) rfl); g_aload_n 105 (gd rfl) rfl rfl (g_getA (q2 := 170) 108 (gd rfl) rfl rfl rfl rfl (g_aload_n 109 (gd rfl) rfl rfl (g_getA (q2 := 114) 112 (gd rfl) rfl rfl rfl rfl (g_aload_n 113 (gd rfl) rfl rfl (g_getIv (y := u_109_19) 116 (gd rfl) rfl rfl rfl (sI_F (sF_ne rfl (fr_F e_109_19 hFc59 rfl))) (g_iload_n 117 (gd rfl) rfl rfl (g_iadd 118 (gd rfl) rfl (fun z117 e117 => have i117 := in_add 0 319 e117 ro_109_19 i63 rfl rfl; g_iaload 119 (gd rfl) rfl (n := 480) rfl (in_ix i117 rfl) (fun z118 e118 => have i118 := inv_I hI103 (n := 480) (t := 0) 0 31 rfl (in_ix i117 rfl) rfl e118; g_dup2 120 (gd rfl) rfl rfl rfl (g_iaload 121 (gd rfl) rfl (n := 32) rfl (in_ix i118 rfl) (fun z120 e120 => g_iconst 1 122 (gd rfl) rfl rfl (g_iadd 123 (gd rfl) rfl (fun z122 e122 => g_iastore 124 (gd rfl) rfl (n := 32) rfl (in_ix i118 rfl) (have hI123 := inv_sI (q := 170) (j := z118.toNatClampNeg) hI103 rfl (in_w (-2147483648) 2147483647 (i_rng z122) rfl); g_aload_n 125 (gd rfl) rfl rfl (g_getA (q2 := 171) 128 (gd rfl) rfl rfl rfl rfl (g_bipush 32 130 (gd rfl) rfl rfl (g_aload_n 131 (gd rfl) rfl rfl ?_))))))))))))))))))))))))))))))))
              refine g_getA (q2 := 113) 134 (gd rfl) rfl rfl rfl rfl (g_aload_n 135 (gd rfl) rfl rfl (g_getIv (y := u_109_19) 138 (gd rfl) rfl rfl rfl (sI_F (sI_F (sF_ne rfl (fr_F e_109_19 hFc59 rfl)))) (g_iload_n 139 (gd rfl) rfl rfl (g_iadd 140 (gd rfl) rfl (fun z139 e139 => have i139 := in_add 0 319 e139 ro_109_19 i63 rfl rfl; g_iaload 141 (gd rfl) rfl (n := 480) rfl (in_ix i139 rfl) (fun z140 e140 => have i140 := inv_I hI123 (n := 480) (t := 0) 0 31 rfl (in_ix i139 rfl) rfl e140; g_imul 142 (gd rfl) rfl (fun z141 e141 => have i141 := in_mulc 32 0 992 (Or.inl e141) i140 rfl rfl; g_aload_n 143 (gd rfl) rfl rfl (g_getA (q2 := 114) 146 (gd rfl) rfl rfl rfl rfl (g_aload_n 147 (gd rfl) rfl rfl (g_getIv (y := u_109_19) 150 (gd rfl) rfl rfl rfl (sI_F (sI_F (sF_ne rfl (fr_F e_109_19 hFc59 rfl)))) (g_iload_n 151 (gd rfl) rfl rfl (g_iadd 152 (gd rfl) rfl (fun z151 e151 => have i151 := in_add 0 319 e151 ro_109_19 i63 rfl rfl; g_iaload 153 (gd rfl) rfl (n := 480) rfl (in_ix i151 rfl) (fun z152 e152 => have i152 := inv_I hI123 (n := 480) (t := 0) 0 31 rfl (in_ix i151 rfl) rfl e152; g_iadd 154 (gd rfl) rfl (fun z153 e153 => have i153 := in_add 0 1023 e153 i141 i152 rfl rfl; g_dup2 155 (gd rfl) rfl rfl rfl (g_iaload 156 (gd rfl) rfl (n := 1024) rfl (in_ix i153 rfl) (fun z155 e155 => g_iconst 1 157 (gd rfl) rfl rfl (g_iadd 158 (gd rfl) rfl (fun z157 e157 => g_iastore 159 (gd rfl) rfl (n := 1024) rfl (in_ix i153 rfl) (have hI158 := inv_sI (q := 171) (j := z153.toNatClampNeg) hI123 rfl (in_w (-2147483648) 2147483647 (i_rng z157) rfl); g_aload_n 160 (gd rfl) rfl rfl (g_getA (q2 := 171) 163 (gd rfl) rfl rfl rfl rfl (g_bipush 32 165 (gd rfl) rfl rfl (g_aload_n 166 (gd rfl) rfl rfl (g_getA (q2 := 114) 169 (gd rfl) rfl rfl rfl rfl (g_aload_n 170 (gd rfl) rfl rfl (g_getIv (y := u_109_19) 173 (gd rfl) rfl rfl rfl (sI_F (sI_F (sI_F (sF_ne rfl (fr_F e_109_19 hFc59 rfl))))) (g_iload_n 174 (gd rfl) rfl rfl (g_iadd 175 (gd rfl) rfl (fun z174 e174 => have i174 := in_add 0 319 e174 ro_109_19 i63 rfl rfl; g_iaload 176 (gd rfl) rfl (n := 480) rfl (in_ix i174 rfl) (fun z175 e175 => have i175 := inv_I hI158 (n := 480) (t := 0) 0 31 rfl (in_ix i174 rfl) rfl e175; g_imul 177 (gd rfl) rfl (fun z176 e176 => ?_)))))))))))))))))))))))))))))))
              have i176 := in_mulc 32 0 992 (Or.inl e176) i175 rfl rfl
              refine g_aload_n 178 (gd rfl) rfl rfl (g_getA (q2 := 113) 181 (gd rfl) rfl rfl rfl rfl (g_aload_n 182 (gd rfl) rfl rfl (g_getIv (y := u_109_19) 185 (gd rfl) rfl rfl rfl (sI_F (sI_F (sI_F (sF_ne rfl (fr_F e_109_19 hFc59 rfl))))) (g_iload_n 186 (gd rfl) rfl rfl (g_iadd 187 (gd rfl) rfl (fun z186 e186 => have i186 := in_add 0 319 e186 ro_109_19 i63 rfl rfl; g_iaload 188 (gd rfl) rfl (n := 480) rfl (in_ix i186 rfl) (fun z187 e187 => have i187 := inv_I hI158 (n := 480) (t := 0) 0 31 rfl (in_ix i186 rfl) rfl e187; g_iadd 189 (gd rfl) rfl (fun z188 e188 => have i188 := in_add 0 1023 e188 i176 i187 rfl rfl; g_dup2 190 (gd rfl) rfl rfl rfl (g_iaload 191 (gd rfl) rfl (n := 1024) rfl (in_ix i188 rfl) (fun z190 e190 => g_iconst 1 192 (gd rfl) rfl rfl (g_iadd 193 (gd rfl) rfl (fun z192 e192 => g_iastore 194 (gd rfl) rfl (n := 1024) rfl (in_ix i188 rfl) (have hI193 := inv_sI (q := 171) (j := z188.toNatClampNeg) hI158 rfl (in_w (-2147483648) 2147483647 (i_rng z192) rfl); g_iinc 197 (gd rfl) rfl rfl (Nat.le_of_ble_eq_true rfl) (fun z194 e194 => have i194 := in_add 1 160 e194 i63 (in_c 1 rfl) rfl rfl; g_goto 59 (gd rfl) rfl ?_))))))))))))))
              have v59 : z80 = (sI (sI (sI (sI (sF sc59 109 80 z80) 170 z98.toNatClampNeg z102) 170 z118.toNatClampNeg z122) 171 z153.toNatClampNeg z157) 171 z188.toNatClampNeg z192).2.2.1 109 80 := sI_F (sI_F (sI_F (sI_F (sF_get))))
              have n59 : (z80).toInt ≤ (z194).toInt := by exact (have a0 := in_u ro_109_20; have a1 := in_u ro_109_19; have a2 := in_u ((inv_F hIc59 0 160 rfl v59_109_80)); have a3 := in_u i63; have a4 := in_u i194; have a5 := t_add e194 i63 (in_c 1 rfl) rfl; have a6 := in_u ((in_c 1 rfl)); have a7 := in_u i81; have a8 := t_add e80 (inv_F hIc59 0 160 rfl v59_109_80) (in_c 1 rfl) rfl; have a9 := in_u i188; have a10 := t_add e188 i176 i187 rfl; have a11 := in_u i187; have a12 := in_u i176; have a13 := (t_mulc 32 (Or.inl e176) i175 rfl).1; have a14 := in_u i175; have a15 := in_u i186; have a16 := t_add e186 ro_109_19 i63 rfl; have a17 := in_u i174; have a18 := t_add e174 ro_109_19 i63 rfl; have a19 := in_u i153; have a20 := t_add e153 i141 i152 rfl; have a21 := in_u i152; have a22 := in_u i141; have a23 := (t_mulc 32 (Or.inl e141) i140 rfl).1; have a24 := in_u i140; have a25 := in_u i151; have a26 := t_add e151 ro_109_19 i63 rfl; have a27 := in_u i139; have a28 := t_add e139 ro_109_19 i63 rfl; have a29 := in_u i117; have a30 := t_add e117 ro_109_19 i63 rfl; have a31 := in_u i97; have a32 := t_add e97 ro_109_19 i63 rfl; have a33 := in_u i68x34; have a34 := t_add e68x34 ro_109_19 i63 rfl; have a35 := in_u i68x23; have a36 := t_add e68x23 ro_109_19 i63 rfl; have a37 := in_u i68x9; have a38 := t_add e68x9 ro_109_19 i63 rfl; by omega)
              exact gg_w (by omega) (gg_f (gf_cons rfl (gf_cons rfl gf_nil)) (ih59 (sI (sI (sI (sI (sF sc59 109 80 z80) 170 z98.toNatClampNeg z102) 170 z118.toNatClampNeg z122) 171 z153.toNatClampNeg z157) 171 z188.toNatClampNeg z192) z194 z80 hI193 (fr_sI rfl (fr_sI rfl (fr_sI rfl (fr_sI rfl (fr_sF rfl hFc59))))) (in_w 0 160 i194 rfl) v59 n59 (m_up mm59 (t_add e194 i63 (in_c 1 rfl) rfl) (in_w 1 1 (in_c 1 rfl) rfl))))
  have ct29 : ∀ (k29 : Nat) (sc29 : GS) (y29_1 : Int32) (w29_109_80 : Int32), Inv sc29 → Fr fm_374 s sc29 → (In y29_1 0 32) → (w29_109_80 = sc29.2.2.1 109 80) → ((w29_109_80).toInt = 0) → 32 - (y29_1).toInt < (k29 : Int) → GG Z (d - 1) 374 post (gx xp) (825324 + k29 * 900) 29 (fun j => xlook j [(0, .ref (A 109)), (1, .int y29_1)]) [] (WW Z A sc29 ++ ex) 0 0 := by
    intro k29
    induction k29 with
    | zero => intro sc29 y29_1 w29_109_80 hIc29 hFc29 j29_1 v29_109_80 n29_0 mm29; exact m_no mm29 j29_1 rfl
    | succ k29 ih29 =>
      intro sc29 y29_1 w29_109_80 hIc29 hFc29 j29_1 v29_109_80 n29_0 mm29
      refine gg_w (M := 825324 + k29 * 900 + 900) (by omega) (g_iload_n 30 (gd rfl) rfl rfl (g_aload_n 31 (gd rfl) rfl rfl (g_getIv (y := u_109_20) 34 (gd rfl) rfl rfl rfl (fr_F e_109_20 hFc29 rfl) (g_cmp_ge 37 57 (gd rfl) rfl rfl (fun c34 => ?_) (fun c34 => ?_)))))
      · skip
        refine g_iconst 0 58 (gd rfl) rfl rfl (g_istore_n 59 (gd rfl) rfl (Nat.le_of_ble_eq_true rfl) ?_)
        have n59 : (w29_109_80).toInt ≤ ((Int32.ofInt 0)).toInt := by exact (have a0 := in_u ro_109_20; have a1 := in_u ro_109_19; have a2 := in_u ((inv_F hIc29 0 160 rfl v29_109_80)); have a3 := in_u j29_1; have a4 := in_u ((in_c 0 rfl)); by omega)
        exact gg_w (by omega) (gg_f (gf_cons rfl (gf_cons rfl gf_nil)) (ct59 161 sc29 (Int32.ofInt 0) w29_109_80 hIc29 hFc29 (in_w 0 160 (in_c 0 rfl) rfl) v29_109_80 n59 (m_in 161 (in_w 0 160 (in_c 0 rfl) rfl) rfl)))
      · skip
        have i34 := r_lt1 0 31 c34 j29_1 ro_109_20 rfl
        have i34a := r_lt2 1 32 c34 j29_1 ro_109_20 rfl
        refine g_aload_n 38 (gd rfl) rfl rfl (g_getA (q2 := 170) 41 (gd rfl) rfl rfl rfl rfl (g_iload_n 42 (gd rfl) rfl rfl (g_iconst 0 43 (gd rfl) rfl rfl (g_iastore 44 (gd rfl) rfl (n := 32) rfl (in_ix i34 rfl) (have hI43 := inv_sI (q := 170) (j := y29_1.toNatClampNeg) hIc29 rfl (in_w (-2147483648) 2147483647 (in_c 0 rfl) rfl); g_aload_n 45 (gd rfl) rfl rfl (g_getA (q2 := 169) 48 (gd rfl) rfl rfl rfl rfl (g_iload_n 49 (gd rfl) rfl rfl (g_iload_n 50 (gd rfl) rfl rfl (g_iastore 51 (gd rfl) rfl (n := 32) rfl (in_ix i34 rfl) (have hI50 := inv_sI (q := 169) (j := y29_1.toNatClampNeg) hI43 rfl (in_w (-2147483648) 2147483647 i34 rfl); g_iinc 54 (gd rfl) rfl rfl (Nat.le_of_ble_eq_true rfl) (fun z51 e51 => have i51 := in_add 1 32 e51 i34 (in_c 1 rfl) rfl rfl; g_goto 29 (gd rfl) rfl ?_)))))))))))
        have v29 : w29_109_80 = (sI (sI sc29 170 y29_1.toNatClampNeg (Int32.ofInt 0)) 169 y29_1.toNatClampNeg y29_1).2.2.1 109 80 := sI_F (sI_F (v29_109_80))
        have n29 : (w29_109_80).toInt = 0 := by exact (have a0 := in_u i34a; have a1 := in_u ro_109_19; have a2 := in_u ((inv_F hIc29 0 160 rfl v29_109_80)); have a3 := in_u i34; have a4 := in_u i51; have a5 := t_add e51 i34 (in_c 1 rfl) rfl; have a6 := in_u ((in_c 1 rfl)); by omega)
        exact gg_w (by omega) (gg_f (gf_cons rfl (gf_cons rfl gf_nil)) (ih29 (sI (sI sc29 170 y29_1.toNatClampNeg (Int32.ofInt 0)) 169 y29_1.toNatClampNeg y29_1) z51 w29_109_80 hI50 (fr_sI rfl (fr_sI rfl hFc29)) (in_w 0 32 i51 rfl) v29 n29 (m_up mm29 (t_add e51 i34 (in_c 1 rfl) rfl) (in_w 1 1 (in_c 1 rfl) rfl))))
  have ct7 : ∀ (k7 : Nat) (sc7 : GS) (y7_1 : Int32) (w7_109_80 : Int32), Inv sc7 → Fr fm_374 s sc7 → (In y7_1 0 1024) → (w7_109_80 = sc7.2.2.1 109 80) → ((w7_109_80).toInt = 0) → 1024 - (y7_1).toInt < (k7 : Int) → GG Z (d - 1) 374 post (gx xp) (855025 + k7 * 900) 7 (fun j => xlook j [(0, .ref (A 109)), (1, .int y7_1)]) [] (WW Z A sc7 ++ ex) 0 0 := by
    intro k7
    induction k7 with
    | zero => intro sc7 y7_1 w7_109_80 hIc7 hFc7 j7_1 v7_109_80 n7_0 mm7; exact m_no mm7 j7_1 rfl
    | succ k7 ih7 =>
      intro sc7 y7_1 w7_109_80 hIc7 hFc7 j7_1 v7_109_80 n7_0 mm7
      refine gg_w (M := 855025 + k7 * 900 + 900) (by omega) (g_iload_n 8 (gd rfl) rfl rfl (g_sipush 1024 11 (gd rfl) rfl rfl (g_cmp_ge 14 27 (gd rfl) rfl rfl (fun c11 => ?_) (fun c11 => ?_))))
      · skip
        have i11 := r_le2 1024 1024 c11 (in_c 1024 rfl) j7_1 rfl
        refine g_iconst 0 28 (gd rfl) rfl rfl (g_istore_n 29 (gd rfl) rfl (Nat.le_of_ble_eq_true rfl) ?_)
        have n29 : (w7_109_80).toInt = 0 := by exact (have a0 := in_u ro_109_20; have a1 := in_u ro_109_19; have a2 := in_u ((inv_F hIc7 0 160 rfl v7_109_80)); have a3 := in_u i11; have a4 := in_u ((in_c 0 rfl)); by omega)
        exact gg_w (by omega) (gg_f (gf_cons rfl (gf_cons rfl gf_nil)) (ct29 33 sc7 (Int32.ofInt 0) w7_109_80 hIc7 hFc7 (in_w 0 32 (in_c 0 rfl) rfl) v7_109_80 n29 (m_in 33 (in_w 0 32 (in_c 0 rfl) rfl) rfl)))
      · skip
        have i11 := r_lt1 0 1023 c11 j7_1 (in_c 1024 rfl) rfl
        refine g_aload_n 15 (gd rfl) rfl rfl (g_getA (q2 := 171) 18 (gd rfl) rfl rfl rfl rfl (g_iload_n 19 (gd rfl) rfl rfl (g_iconst 0 20 (gd rfl) rfl rfl (g_iastore 21 (gd rfl) rfl (n := 1024) rfl (in_ix i11 rfl) (have hI20 := inv_sI (q := 171) (j := y7_1.toNatClampNeg) hIc7 rfl (in_w (-2147483648) 2147483647 (in_c 0 rfl) rfl); g_iinc 24 (gd rfl) rfl rfl (Nat.le_of_ble_eq_true rfl) (fun z21 e21 => have i21 := in_add 1 1024 e21 i11 (in_c 1 rfl) rfl rfl; g_goto 7 (gd rfl) rfl ?_))))))
        have v7 : w7_109_80 = (sI sc7 171 y7_1.toNatClampNeg (Int32.ofInt 0)).2.2.1 109 80 := sI_F (v7_109_80)
        have n7 : (w7_109_80).toInt = 0 := by exact (have a0 := in_u ro_109_20; have a1 := in_u ro_109_19; have a2 := in_u ((inv_F hIc7 0 160 rfl v7_109_80)); have a3 := in_u i11; have a4 := in_u i21; have a5 := t_add e21 i11 (in_c 1 rfl) rfl; have a6 := in_u ((in_c 1 rfl)); by omega)
        exact gg_w (by omega) (gg_f (gf_cons rfl (gf_cons rfl gf_nil)) (ih7 (sI sc7 171 y7_1.toNatClampNeg (Int32.ofInt 0)) z21 w7_109_80 hI20 (fr_sI rfl hFc7) (in_w 0 1024 i21 rfl) v7 n7 (m_up mm7 (t_add e21 i11 (in_c 1 rfl) rfl) (in_w 1 1 (in_c 1 rfl) rfl))))
  refine g_enter2 (k := 374) (N := 1778425) (by omega) rfl (Nat.le_of_ble_eq_true rfl) (g_aload_n 1 (gd rfl) rfl rfl (g_iconst 0 2 (gd rfl) rfl rfl (g_putI 5 (gd rfl) rfl rfl rfl rfl (have hI2 := inv_sF (q := 109) (j := 80) hI rfl (in_w 0 160 (in_c 0 rfl) rfl); g_iconst 0 6 (gd rfl) rfl rfl (g_istore_n 7 (gd rfl) rfl (Nat.le_of_ble_eq_true rfl) ?_)))))
  have v7 : (Int32.ofInt 0) = (sF s 109 80 (Int32.ofInt 0)).2.2.1 109 80 := sF_get
  have n7 : ((Int32.ofInt 0)).toInt = 0 := by exact (have a0 := in_u ro_109_20; have a1 := in_u ro_109_19; have a2 := in_u ((in_c 0 rfl)); by omega)
  exact gg_w (by omega) (gg_f (gf_cons rfl (gf_cons rfl gf_nil)) (ct7 1025 (sF s 109 80 (Int32.ofInt 0)) (Int32.ofInt 0) (Int32.ofInt 0) hI2 (fr_sF rfl fr_rf) (in_w 0 1024 (in_c 0 rfl) rfl) v7 n7 (m_in 1025 (in_w 0 1024 (in_c 0 rfl) rfl) rfl)))

def fm_378 : FM := ([169, 170, 171], [], [(109, 0), (109, 80)], [])
/-- GraphHouseModel.group -/
theorem k_378 {Z : AmZ} {A : Nat → Nat} {s : GS} {ex : va_W} {d : Nat} {X : AmX} {x1 : Int32} (hd : 6 ≤ d) (hI : Inv s)  : GC Z d 378 [.ref (A 109), .int x1] (WW Z A s ++ ex) 0 0 (fun v u => ∃ t : GS, Inv t ∧ Fr fm_378 s t ∧ ∃ z : Int32, v = some (.int z) ∧ u = WW Z A t ++ ex ∧ In z 0 40) X := by
  intro post xp hP hX
  obtain ⟨u_109_20, e_109_20⟩ : ∃ w, w = s.2.2.1 109 20 := ⟨_, rfl⟩
  have ro_109_20 := inv_F hI 0 32 rfl e_109_20
  refine g_enter2 (k := 378) (N := 900) (by omega) rfl (Nat.le_of_ble_eq_true rfl) (g_aload_n 1 (gd rfl) rfl rfl (g_aload_n 2 (gd rfl) rfl rfl (g_iload_n 3 (gd rfl) rfl rfl ?_)))
  refine g_callv (X := _) (As := [.int x1]) (r := [.ref (A 109)]) (b := A 109) (q := 109) 6 (gd rfl) rfl rfl rfl rfl rfl (ww_o rfl) (Nat.le_of_ble_eq_true rfl) (mc := 0) (ms := 0) (Nat.zero_le _) (Nat.zero_le _) (P := fun v u => _) ?_ (fun e u h => h) (fun v u h => h)
  intro po3 xx3 hp3 hx3
  refine g_enter2 (k := 272) (N := 300) (by omega) rfl (Nat.le_of_ble_eq_true rfl) (g_iload_n 1 (gd rfl) rfl rfl (g_if_lt 4 16 (gd rfl) rfl rfl (fun c3x1 => ?_) (fun c3x1 => ?_)))
  · skip
    have i3x1 := z_lt (-2147483648) (-1) c3x1 (i_rng x1) rfl
    refine g_iconst 0 17 (gd rfl) rfl rfl ?_
    refine g_ireturn (gd rfl) rfl (nb01 (in_w 0 1 (in_c 0 rfl) rfl)) (hp3 _ _ ?_)
    show GG _ _ _ _ _ _ _ _ [.int (Int32.ofInt 0), .ref (A 109)] _ _ _
    refine g_callv (X := _) (As := [.int (Int32.ofInt 0)]) (r := []) (b := A 109) (q := 109) 9 (gd rfl) rfl rfl rfl rfl rfl (ww_o rfl) (Nat.le_of_ble_eq_true rfl) (mc := 0) (ms := 0) (Nat.zero_le _) (Nat.zero_le _) (P := fun v u => _) ?_ (fun e u h => h) (fun v u h => h)
    intro po6 xx6 hp6 hx6
    refine g_enter2 (k := 271) (N := 300) (by omega) rfl (Nat.le_of_ble_eq_true rfl) (g_aload_n 1 (gd rfl) rfl rfl (g_iload_n 2 (gd rfl) rfl rfl (g_iconst 1 3 (gd rfl) rfl rfl ?_)))
    refine g_callv (X := _) (As := [.int (Int32.ofInt 0), .int (Int32.ofInt 1)]) (r := []) (b := A 109) (q := 109) 6 (gd rfl) rfl rfl rfl rfl rfl (ww_o rfl) (Nat.le_of_ble_eq_true rfl) (mc := 0) (ms := 0) (Nat.zero_le _) (Nat.zero_le _) (P := fun v u => _) ?_ (fun e u h => h) (fun v u h => h)
    intro po6x3 xx6x3 hp6x3 hx6x3
    refine g_enter2 (k := 270) (N := 300) (by omega) rfl (Nat.le_of_ble_eq_true rfl) (g_aload_n 1 (gd rfl) rfl rfl (g_iload_n 2 (gd rfl) rfl rfl (g_if_ne 5 9 (gd rfl) rfl rfl (fun c6x3x2 => ?_) (fun c6x3x2 => ?_))))
    · skip
      exact zn_ne c6x3x2 (in_c 0 rfl) rfl
    · skip
      refine g_iconst 1 6 (gd rfl) rfl rfl (g_goto 18 (gd rfl) rfl (g_putI 21 (gd rfl) rfl rfl rfl rfl (have hI6x3x18 := inv_sF (q := 109) (j := 0) hI rfl (in_w 0 2 (in_c 1 rfl) rfl); g_aload_n 22 (gd rfl) rfl rfl (g_getIv (y := (Int32.ofInt 1)) 25 (gd rfl) rfl rfl rfl (sF_get) (g_if_le 28 32 (gd rfl) rfl rfl (fun c6x3x25 => ?_) (fun c6x3x25 => ?_))))))
      · skip
        exact zn_le c6x3x25 (in_c 1 rfl) rfl
      · skip
        refine g_iconst 1 29 (gd rfl) rfl rfl (g_goto 33 (gd rfl) rfl ?_)
        refine g_ireturn (gd rfl) rfl (nb01 (in_w 0 1 (in_c 1 rfl) rfl)) (hp6x3 _ _ ?_)
        show GG _ _ _ _ _ _ _ _ [.int (Int32.ofInt 1)] _ _ _
        refine g_ireturn (gd rfl) rfl (nb01 (in_w 0 1 (in_c 1 rfl) rfl)) (hp6 _ _ ?_)
        show GG _ _ _ _ _ _ _ _ [.int (Int32.ofInt 1)] _ _ _
        refine g_if_eq 12 14 (gd rfl) rfl rfl (fun c9 => ?_) (fun c9 => ?_)
        · skip
          exact zn_eq c9 (in_c 1 rfl) rfl
        · skip
          exact g_iconst 0 13 (gd rfl) rfl rfl (g_ireturn (gd rfl) rfl rfl (hP _ _ ⟨(sF s 109 0 (Int32.ofInt 1)), hI6x3x18, (fr_sF rfl fr_rf), (Int32.ofInt 0), rfl, rfl, in_w 0 40 (in_c 0 rfl) rfl⟩))
  · skip
    have i3x1 := z_ge 0 2147483647 c3x1 (i_rng x1) rfl
    refine g_iload_n 5 (gd rfl) rfl rfl (g_aload_n 6 (gd rfl) rfl rfl (g_getIv (y := u_109_20) 9 (gd rfl) rfl rfl rfl (e_109_20) (g_cmp_ge 12 16 (gd rfl) rfl rfl (fun c3x9 => ?_) (fun c3x9 => ?_))))
    · skip
      refine g_iconst 0 17 (gd rfl) rfl rfl ?_
      refine g_ireturn (gd rfl) rfl (nb01 (in_w 0 1 (in_c 0 rfl) rfl)) (hp3 _ _ ?_)
      show GG _ _ _ _ _ _ _ _ [.int (Int32.ofInt 0), .ref (A 109)] _ _ _
      refine g_callv (X := _) (As := [.int (Int32.ofInt 0)]) (r := []) (b := A 109) (q := 109) 9 (gd rfl) rfl rfl rfl rfl rfl (ww_o rfl) (Nat.le_of_ble_eq_true rfl) (mc := 0) (ms := 0) (Nat.zero_le _) (Nat.zero_le _) (P := fun v u => _) ?_ (fun e u h => h) (fun v u h => h)
      intro po6 xx6 hp6 hx6
      refine g_enter2 (k := 271) (N := 300) (by omega) rfl (Nat.le_of_ble_eq_true rfl) (g_aload_n 1 (gd rfl) rfl rfl (g_iload_n 2 (gd rfl) rfl rfl (g_iconst 1 3 (gd rfl) rfl rfl ?_)))
      refine g_callv (X := _) (As := [.int (Int32.ofInt 0), .int (Int32.ofInt 1)]) (r := []) (b := A 109) (q := 109) 6 (gd rfl) rfl rfl rfl rfl rfl (ww_o rfl) (Nat.le_of_ble_eq_true rfl) (mc := 0) (ms := 0) (Nat.zero_le _) (Nat.zero_le _) (P := fun v u => _) ?_ (fun e u h => h) (fun v u h => h)
      intro po6x3 xx6x3 hp6x3 hx6x3
      refine g_enter2 (k := 270) (N := 300) (by omega) rfl (Nat.le_of_ble_eq_true rfl) (g_aload_n 1 (gd rfl) rfl rfl (g_iload_n 2 (gd rfl) rfl rfl (g_if_ne 5 9 (gd rfl) rfl rfl (fun c6x3x2 => ?_) (fun c6x3x2 => ?_))))
      · skip
        exact zn_ne c6x3x2 (in_c 0 rfl) rfl
      · skip
        refine g_iconst 1 6 (gd rfl) rfl rfl (g_goto 18 (gd rfl) rfl (g_putI 21 (gd rfl) rfl rfl rfl rfl (have hI6x3x18 := inv_sF (q := 109) (j := 0) hI rfl (in_w 0 2 (in_c 1 rfl) rfl); g_aload_n 22 (gd rfl) rfl rfl (g_getIv (y := (Int32.ofInt 1)) 25 (gd rfl) rfl rfl rfl (sF_get) (g_if_le 28 32 (gd rfl) rfl rfl (fun c6x3x25 => ?_) (fun c6x3x25 => ?_))))))
        · skip
          exact zn_le c6x3x25 (in_c 1 rfl) rfl
        · skip
          refine g_iconst 1 29 (gd rfl) rfl rfl (g_goto 33 (gd rfl) rfl ?_)
          refine g_ireturn (gd rfl) rfl (nb01 (in_w 0 1 (in_c 1 rfl) rfl)) (hp6x3 _ _ ?_)
          show GG _ _ _ _ _ _ _ _ [.int (Int32.ofInt 1)] _ _ _
          refine g_ireturn (gd rfl) rfl (nb01 (in_w 0 1 (in_c 1 rfl) rfl)) (hp6 _ _ ?_)
          show GG _ _ _ _ _ _ _ _ [.int (Int32.ofInt 1)] _ _ _
          refine g_if_eq 12 14 (gd rfl) rfl rfl (fun c9 => ?_) (fun c9 => ?_)
          · skip
            exact zn_eq c9 (in_c 1 rfl) rfl
          · skip
            exact g_iconst 0 13 (gd rfl) rfl rfl (g_ireturn (gd rfl) rfl rfl (hP _ _ ⟨(sF s 109 0 (Int32.ofInt 1)), hI6x3x18, (fr_sF rfl fr_rf), (Int32.ofInt 0), rfl, rfl, in_w 0 40 (in_c 0 rfl) rfl⟩))
    · skip
      have i3x9 := r_lt1 0 31 c3x9 i3x1 ro_109_20 rfl
      have i3x9a := r_lt2 1 32 c3x9 i3x1 ro_109_20 rfl
      refine g_iconst 1 13 (gd rfl) rfl rfl (g_goto 17 (gd rfl) rfl ?_)
      refine g_ireturn (gd rfl) rfl (nb01 (in_w 0 1 (in_c 1 rfl) rfl)) (hp3 _ _ ?_)
      show GG _ _ _ _ _ _ _ _ [.int (Int32.ofInt 1), .ref (A 109)] _ _ _
      refine g_callv (X := _) (As := [.int (Int32.ofInt 1)]) (r := []) (b := A 109) (q := 109) 9 (gd rfl) rfl rfl rfl rfl rfl (ww_o rfl) (Nat.le_of_ble_eq_true rfl) (mc := 0) (ms := 0) (Nat.zero_le _) (Nat.zero_le _) (P := fun v u => _) ?_ (fun e u h => h) (fun v u h => h)
      intro po6 xx6 hp6 hx6
      refine g_enter2 (k := 271) (N := 300) (by omega) rfl (Nat.le_of_ble_eq_true rfl) (g_aload_n 1 (gd rfl) rfl rfl (g_iload_n 2 (gd rfl) rfl rfl (g_iconst 1 3 (gd rfl) rfl rfl ?_)))
      refine g_callv (X := _) (As := [.int (Int32.ofInt 1), .int (Int32.ofInt 1)]) (r := []) (b := A 109) (q := 109) 6 (gd rfl) rfl rfl rfl rfl rfl (ww_o rfl) (Nat.le_of_ble_eq_true rfl) (mc := 0) (ms := 0) (Nat.zero_le _) (Nat.zero_le _) (P := fun v u => _) ?_ (fun e u h => h) (fun v u h => h)
      intro po6x3 xx6x3 hp6x3 hx6x3
      refine g_enter2 (k := 270) (N := 300) (by omega) rfl (Nat.le_of_ble_eq_true rfl) (g_aload_n 1 (gd rfl) rfl rfl (g_iload_n 2 (gd rfl) rfl rfl (g_if_ne 5 9 (gd rfl) rfl rfl (fun c6x3x2 => ?_) (fun c6x3x2 => ?_))))
      · skip
        refine g_iload_n 10 (gd rfl) rfl rfl (g_if_ne 13 17 (gd rfl) rfl rfl (fun c6x3x10 => ?_) (fun c6x3x10 => ?_))
        · skip
          refine g_iconst 0 18 (gd rfl) rfl rfl (g_putI 21 (gd rfl) rfl rfl rfl rfl (have hI6x3x18 := inv_sF (q := 109) (j := 0) hI rfl (in_w 0 2 (in_c 0 rfl) rfl); g_aload_n 22 (gd rfl) rfl rfl (g_getIv (y := (Int32.ofInt 0)) 25 (gd rfl) rfl rfl rfl (sF_get) (g_if_le 28 32 (gd rfl) rfl rfl (fun c6x3x25 => ?_) (fun c6x3x25 => ?_)))))
          · skip
            refine g_iconst 0 33 (gd rfl) rfl rfl ?_
            refine g_ireturn (gd rfl) rfl (nb01 (in_w 0 1 (in_c 0 rfl) rfl)) (hp6x3 _ _ ?_)
            show GG _ _ _ _ _ _ _ _ [.int (Int32.ofInt 0)] _ _ _
            refine g_ireturn (gd rfl) rfl (nb01 (in_w 0 1 (in_c 0 rfl) rfl)) (hp6 _ _ ?_)
            show GG _ _ _ _ _ _ _ _ [.int (Int32.ofInt 0)] _ _ _
            refine g_if_eq 12 14 (gd rfl) rfl rfl (fun c9 => ?_) (fun c9 => ?_)
            · skip
              refine g_aload_n 15 (gd rfl) rfl rfl (g_callv (X := _) (As := []) (r := []) (b := A 109) (q := 109) 18 (gd rfl) rfl rfl rfl rfl rfl (ww_o rfl) (Nat.le_of_ble_eq_true rfl) (Nat.zero_le _) (Nat.zero_le _) (k_374 (by omega) hI6x3x18 ) (fun e u h => h) (fun v u h => ?_))
              obtain ⟨s15, hI15, hF15, rfl, rfl⟩ := h
              show GG _ _ _ _ _ _ _ _ [] _ _ _
              refine g_aload_n 19 (gd rfl) rfl rfl (g_aload_n 20 (gd rfl) rfl rfl (g_getA (q2 := 169) 23 (gd rfl) rfl rfl rfl rfl (g_iload_n 24 (gd rfl) rfl rfl (g_iaload 25 (gd rfl) rfl (n := 32) rfl (in_ix i3x9 rfl) (fun z24 e24 => g_iconst (-1) 26 (gd rfl) rfl rfl (g_callv (X := _) (As := [.int z24, .int (Int32.ofInt (-1))]) (r := []) (b := A 109) (q := 109) 29 (gd rfl) rfl rfl rfl rfl rfl (ww_o rfl) (Nat.le_of_ble_eq_true rfl) (Nat.zero_le _) (Nat.zero_le _) (k_375 (by omega) hI15 (in_w (-1) 31 (in_c (-1) rfl) rfl)) (fun e u h => h) (fun v u h => ?_)))))))
              obtain ⟨z26, rfl, rfl, i26, p26⟩ := h
              show GG _ _ _ _ _ _ _ _ [.int z26] _ _ _
              exact g_ireturn (gd rfl) rfl rfl (hP _ _ ⟨s15, hI15, (fr_tr rfl (fr_sF rfl fr_rf) hF15), z26, rfl, rfl, in_w 0 40 i26 rfl⟩)
            · skip
              exact zn_ne c9 (in_c 0 rfl) rfl
          · skip
            exact zn_gt c6x3x25 (in_c 0 rfl) rfl
        · skip
          exact zn_eq c6x3x10 (in_c 1 rfl) rfl
      · skip
        exact zn_eq c6x3x2 (in_c 1 rfl) rfl

def fm_379 : FM := ([169, 170, 171], [], [(109, 0), (109, 80)], [])
/-- GraphHouseModel.gain -/
theorem k_379 {Z : AmZ} {A : Nat → Nat} {s : GS} {ex : va_W} {d : Nat} {X : AmX}  (hd : 6 ≤ d) (hI : Inv s)  : GC Z d 379 [.ref (A 109)] (WW Z A s ++ ex) 0 0 (fun v u => ∃ t : GS, Inv t ∧ Fr fm_379 s t ∧ ∃ z : Int64, v = some (.long z) ∧ u = WW Z A t ++ ex) X := by
  intro post xp hP hX
  obtain ⟨u_109_20, e_109_20⟩ : ∃ w, w = s.2.2.1 109 20 := ⟨_, rfl⟩
  have ro_109_20 := inv_F hI 0 32 rfl e_109_20
  have ct13 : ∀ (k13 : Nat) (sc13 : GS) (y13_1 : Int64) (y13_3 : Int32), Inv sc13 → Fr fm_379 s sc13 → (In y13_3 0 32) → 32 - (y13_3).toInt < (k13 : Int) → GG Z (d - 1) 379 post (gx xp) (1 + k13 * 900) 13 (fun j => xlook j [(0, .ref (A 109)), (1, .long y13_1), (3, .int y13_3)]) [] (WW Z A sc13 ++ ex) 0 0 := by
    intro k13
    induction k13 with
    | zero => intro sc13 y13_1 y13_3 hIc13 hFc13 j13_3 mm13; exact m_no mm13 j13_3 rfl
    | succ k13 ih13 =>
      intro sc13 y13_1 y13_3 hIc13 hFc13 j13_3 mm13
      refine gg_w (M := 1 + k13 * 900 + 900) (by omega) (g_iload_n 14 (gd rfl) rfl rfl (g_aload_n 15 (gd rfl) rfl rfl (g_getIv (y := u_109_20) 18 (gd rfl) rfl rfl rfl (fr_F e_109_20 hFc13 rfl) (g_cmp_ge 21 41 (gd rfl) rfl rfl (fun c18 => ?_) (fun c18 => ?_)))))
      · skip
        exact g_lload_n 42 (gd rfl) rfl rfl (g_lreturn (gd rfl) rfl (hP _ _ ⟨sc13, hIc13, hFc13, y13_1, rfl, rfl⟩))
      · skip
        have i18 := r_lt1 0 31 c18 j13_3 ro_109_20 rfl
        have i18a := r_lt2 1 32 c18 j13_3 ro_109_20 rfl
        refine g_lload_n 22 (gd rfl) rfl rfl (g_aload_n 23 (gd rfl) rfl rfl (g_iload_n 24 (gd rfl) rfl rfl (g_aload_n 25 (gd rfl) rfl rfl (g_getA (q2 := 169) 28 (gd rfl) rfl rfl rfl rfl (g_iload_n 29 (gd rfl) rfl rfl (g_iaload 30 (gd rfl) rfl (n := 32) rfl (in_ix i18 rfl) (fun z29 e29 => g_callv (X := _) (As := [.int y13_3, .int z29]) (r := [.long y13_1]) (b := A 109) (q := 109) 33 (gd rfl) rfl rfl rfl rfl rfl (ww_o rfl) (Nat.le_of_ble_eq_true rfl) (Nat.zero_le _) (Nat.zero_le _) (k_373 (by omega) hIc13 (in_w 0 31 i18 rfl)) (fun e u h => h) (fun v u h => ?_))))))))
        obtain ⟨z30, rfl, rfl⟩ := h
        show GG _ _ _ _ _ _ _ _ [.long z30, .long y13_1] _ _ _
        exact g_ladd 34 (gd rfl) rfl (fun z33 e33 => g_lstore_n 35 (gd rfl) rfl (Nat.le_of_ble_eq_true rfl) (g_iinc 38 (gd rfl) rfl rfl (Nat.le_of_ble_eq_true rfl) (fun z35 e35 => have i35 := in_add 1 32 e35 i18 (in_c 1 rfl) rfl rfl; g_goto 13 (gd rfl) rfl (gg_w (by omega) (gg_f (gf_cons rfl (gf_cons rfl (gf_cons rfl gf_nil))) (ih13 sc13 z33 z35 hIc13 hFc13 (in_w 0 32 i35 rfl) (m_up mm13 (t_add e35 i18 (in_c 1 rfl) rfl) (in_w 1 1 (in_c 1 rfl) rfl))))))))
  refine g_enter2 (k := 379) (N := 30601) (by omega) rfl (Nat.le_of_ble_eq_true rfl) (g_aload_n 1 (gd rfl) rfl rfl (g_iconst 0 2 (gd rfl) rfl rfl (g_putI 5 (gd rfl) rfl rfl rfl rfl (have hI2 := inv_sF (q := 109) (j := 0) hI rfl (in_w 0 2 (in_c 0 rfl) rfl); g_aload_n 6 (gd rfl) rfl rfl (g_callv (X := _) (As := []) (r := []) (b := A 109) (q := 109) 9 (gd rfl) rfl rfl rfl rfl rfl (ww_o rfl) (Nat.le_of_ble_eq_true rfl) (Nat.zero_le _) (Nat.zero_le _) (k_374 (by omega) hI2 ) (fun e u h => h) (fun v u h => ?_))))))
  obtain ⟨s6, hI6, hF6, rfl, rfl⟩ := h
  show GG _ _ _ _ _ _ _ _ [] _ _ _
  exact g_lconst 0 10 (gd rfl) rfl rfl (g_lstore_n 11 (gd rfl) rfl (Nat.le_of_ble_eq_true rfl) (g_iconst 0 12 (gd rfl) rfl rfl (g_istore_n 13 (gd rfl) rfl (Nat.le_of_ble_eq_true rfl) (gg_w (by omega) (gg_f (gf_cons rfl (gf_cons rfl (gf_cons rfl gf_nil))) (ct13 33 s6 (Int64.ofInt 0) (Int32.ofInt 0) hI6 (fr_tr rfl (fr_sF rfl fr_rf) hF6) (in_w 0 32 (in_c 0 rfl) rfl) (m_in 33 (in_w 0 32 (in_c 0 rfl) rfl) rfl)))))))

def fm_386 : FM := ([172, 174, 176, 177, 180], [173, 175, 178, 179, 181, 182], [(109, 0), (109, 23), (109, 24), (109, 81), (109, 84), (109, 96), (109, 97), (109, 98), (109, 99)], [(109, 85), (109, 86), (109, 100), (109, 101)])
/-- GraphHouseModel.pattern -/
theorem k_386 {Z : AmZ} {A : Nat → Nat} {s : GS} {ex : va_W} {d : Nat} {X : AmX}  (hd : 5 ≤ d) (hI : Inv s)  : GC Z d 386 [.ref (A 109)] (WW Z A s ++ ex) 0 0 (fun v u => ∃ t : GS, Inv t ∧ Fr fm_386 s t ∧ ∃ z : Int32, v = some (.int z) ∧ u = WW Z A t ++ ex ∧ In z (-4) 0) X := by
  intro post xp hP hX
  obtain ⟨u_109_22, e_109_22⟩ : ∃ w, w = s.2.2.1 109 22 := ⟨_, rfl⟩
  have ro_109_22 := inv_F hI 0 1000 rfl e_109_22
  have ct226 : ∀ (k226 : Nat) (sc226 : GS) (y226_1 : Int32) (y226_2 : Int32), Inv sc226 → Fr fm_386 s sc226 → (In y226_1 0 60) → (In y226_2 0 60) → 60 - (y226_2).toInt < (k226 : Int) → GG Z (d - 1) 386 post (gx xp) (1 + k226 * 900) 226 (fun j => xlook j [(0, .ref (A 109)), (1, .int y226_1), (2, .int y226_2)]) [] (WW Z A sc226 ++ ex) 0 0 := by
    intro k226
    induction k226 with
    | zero => intro sc226 y226_1 y226_2 hIc226 hFc226 j226_1 j226_2 mm226; exact m_no mm226 j226_2 rfl
    | succ k226 ih226 =>
      intro sc226 y226_1 y226_2 hIc226 hFc226 j226_1 j226_2 mm226
      refine gg_w (M := 1 + k226 * 900 + 900) (by omega) (g_iload_n 227 (gd rfl) rfl rfl (g_bipush 60 229 (gd rfl) rfl rfl (g_cmp_ge 232 262 (gd rfl) rfl rfl (fun c229 => ?_) (fun c229 => ?_))))
      · skip
        have i229 := r_le2 60 60 c229 (in_c 60 rfl) j226_2 rfl
        exact g_iconst 0 263 (gd rfl) rfl rfl (g_ireturn (gd rfl) rfl rfl (hP _ _ ⟨sc226, hIc226, hFc226, (Int32.ofInt 0), rfl, rfl, in_w (-4) 0 (in_c 0 rfl) rfl⟩))
      · skip
        have i229 := r_lt1 0 59 c229 j226_2 (in_c 60 rfl) rfl
        exact g_aload_n 233 (gd rfl) rfl rfl (g_getA (q2 := 172) 236 (gd rfl) rfl rfl rfl rfl (g_iload_n 237 (gd rfl) rfl rfl (g_aload_n 238 (gd rfl) rfl rfl (g_getA (q2 := 174) 241 (gd rfl) rfl rfl rfl rfl (g_iload_n 242 (gd rfl) rfl rfl (g_iaload 243 (gd rfl) rfl (n := 60) rfl (in_ix i229 rfl) (fun z242 e242 => have i242 := inv_I hIc226 (n := 60) (t := 0) 0 26 rfl (in_ix i229 rfl) rfl e242; g_iastore 244 (gd rfl) rfl (n := 60) rfl (in_ix i229 rfl) (have hI243 := inv_sI (q := 172) (j := y226_2.toNatClampNeg) hIc226 rfl (in_w 0 26 i242 rfl); g_aload_n 245 (gd rfl) rfl rfl (g_getA (q2 := 173) 248 (gd rfl) rfl rfl rfl rfl (g_iload_n 249 (gd rfl) rfl rfl (g_aload_n 250 (gd rfl) rfl rfl (g_getA (q2 := 175) 253 (gd rfl) rfl rfl rfl rfl (g_iload_n 254 (gd rfl) rfl rfl (g_laload 255 (gd rfl) rfl (n := 60) rfl (in_ix i229 rfl) (fun z254 e254 => g_lastore 256 (gd rfl) rfl (n := 60) rfl (in_ix i229 rfl) (have hI255 := inv_sL (q := 173) (j := y226_2.toNatClampNeg) (x := z254) hI243 rfl (l_rng z254); g_iinc 259 (gd rfl) rfl rfl (Nat.le_of_ble_eq_true rfl) (fun z256 e256 => have i256 := in_add 1 60 e256 i229 (in_c 1 rfl) rfl rfl; g_goto 226 (gd rfl) rfl (gg_w (by omega) (gg_f (gf_cons rfl (gf_cons rfl (gf_cons rfl gf_nil))) (ih226 (sL (sI sc226 172 y226_2.toNatClampNeg z242) 173 y226_2.toNatClampNeg z254) y226_1 z256 hI255 (fr_sL rfl (fr_sI rfl hFc226)) (in_w 0 60 j226_1 rfl) (in_w 0 60 i256 rfl) (m_up mm226 (t_add e256 i229 (in_c 1 rfl) rfl) (in_w 1 1 (in_c 1 rfl) rfl))))))))))))))))))))))
  have ct63 : ∀ (k63 : Nat) (sc63 : GS) (y63_1 : Int32) (y63_2 : Int32), Inv sc63 → Fr fm_386 s sc63 → (In y63_1 0 60) → (In y63_2 0 60) → ((u_109_22).toInt ≤ 60) → ((y63_1).toInt ≤ (y63_2).toInt) → 60 - (y63_2).toInt < (k63 : Int) → GG Z (d - 1) 386 post (gx xp) (54902 + k63 * 900) 63 (fun j => xlook j [(0, .ref (A 109)), (1, .int y63_1), (2, .int y63_2)]) [] (WW Z A sc63 ++ ex) 0 0 := by
    intro k63
    induction k63 with
    | zero => intro sc63 y63_1 y63_2 hIc63 hFc63 j63_1 j63_2 n63_0 n63_1 mm63; exact m_no mm63 j63_2 rfl
    | succ k63 ih63 =>
      intro sc63 y63_1 y63_2 hIc63 hFc63 j63_1 j63_2 n63_0 n63_1 mm63
      refine gg_w (M := 54902 + k63 * 900 + 900) (by omega) (g_iload_n 64 (gd rfl) rfl rfl (g_aload_n 65 (gd rfl) rfl rfl (g_getIv (y := u_109_22) 68 (gd rfl) rfl rfl rfl (fr_F e_109_22 hFc63 rfl) (g_cmp_ge 71 152 (gd rfl) rfl rfl (fun c68 => ?_) (fun c68 => ?_)))))
      · skip
        have i68 := r_le1 0 60 c68 ro_109_22 j63_2 rfl
        refine g_aload_n 153 (gd rfl) rfl rfl (g_getI 156 (gd rfl) rfl rfl rfl (fun z153 e153 => have i153 := inv_F hIc63 0 9 rfl e153; g_if_ne 159 175 (gd rfl) rfl rfl (fun c156 => ?_) (fun c156 => ?_)))
        · skip
          have i156 := z_ne 1 9 c156 i153 rfl
          refine g_aload_n 176 (gd rfl) rfl rfl (g_getIv (y := z153) 179 (gd rfl) rfl rfl rfl (e153) (g_if_le 182 185 (gd rfl) rfl rfl (fun c179 => ?_) (fun c179 => ?_)))
          · skip
            exact zn_le c179 i156 rfl
          · skip
            exact g_bipush (-4) 184 (gd rfl) rfl rfl (g_ireturn (gd rfl) rfl rfl (hP _ _ ⟨sc63, hIc63, hFc63, (Int32.ofInt (-4)), rfl, rfl, in_w (-4) 0 (in_c (-4) rfl) rfl⟩))
        · skip
          have i156 := z_eq 0 0 c156 i153 rfl
          refine g_aload_n 160 (gd rfl) rfl rfl (g_getI 163 (gd rfl) rfl rfl rfl (fun z160 e160 => have i160 := inv_F hIc63 0 10 rfl e160; g_if_le 166 175 (gd rfl) rfl rfl (fun c163 => ?_) (fun c163 => ?_)))
          · skip
            have i163 := z_le 0 0 c163 i160 rfl
            refine g_aload_n 176 (gd rfl) rfl rfl (g_getIv (y := z153) 179 (gd rfl) rfl rfl rfl (e153) (g_if_le 182 185 (gd rfl) rfl rfl (fun c179 => ?_) (fun c179 => ?_)))
            · skip
              refine g_aload_n 186 (gd rfl) rfl rfl (g_callv (X := _) (As := []) (r := []) (b := A 109) (q := 109) 189 (gd rfl) rfl rfl rfl rfl rfl (ww_o rfl) (Nat.le_of_ble_eq_true rfl) (Nat.zero_le _) (Nat.zero_le _) (k_385 (by omega) hIc63 ) (fun e u h => h) (fun v u h => ?_))
              obtain ⟨s186, hI186, hF186, rfl, rfl⟩ := h
              show GG _ _ _ _ _ _ _ _ [] _ _ _
              exact g_aload_n 190 (gd rfl) rfl rfl (g_iload_n 191 (gd rfl) rfl rfl (g_putI 194 (gd rfl) rfl rfl rfl rfl (have hI191 := inv_sF (q := 109) (j := 81) hI186 rfl (in_w 0 60 j63_1 rfl); g_aload_n 195 (gd rfl) rfl rfl (g_aload_n 196 (gd rfl) rfl rfl (g_getA (q2 := 177) 199 (gd rfl) rfl rfl rfl rfl (g_iconst 0 200 (gd rfl) rfl rfl (g_baload 201 (gd rfl) rfl (n := 12) rfl (in_ix (in_c 0 rfl) rfl) (fun z200 e200 => have i200 := inv_I hI191 (n := 12) (t := 3) 0 1 rfl (in_ix (in_c 0 rfl) rfl) rfl e200; g_putZ 204 (gd rfl) rfl rfl rfl rfl (in01 (in_w 0 1 i200 rfl)) (have hI201 := inv_sF (q := 109) (j := 84) hI191 rfl (in_w 0 1 i200 rfl); g_aload_n 205 (gd rfl) rfl rfl (g_aload_n 206 (gd rfl) rfl rfl (g_getA (q2 := 178) 209 (gd rfl) rfl rfl rfl rfl (g_iconst 0 210 (gd rfl) rfl rfl (g_laload 211 (gd rfl) rfl (n := 12) rfl (in_ix (in_c 0 rfl) rfl) (fun z210 e210 => g_putL 214 (gd rfl) rfl rfl rfl rfl (have hI211 := inv_sG (q := 109) (j := 85) (x := z210) hI201 rfl (l_rng z210); g_aload_n 215 (gd rfl) rfl rfl (g_aload_n 216 (gd rfl) rfl rfl (g_getA (q2 := 179) 219 (gd rfl) rfl rfl rfl rfl (g_iconst 0 220 (gd rfl) rfl rfl (g_laload 221 (gd rfl) rfl (n := 12) rfl (in_ix (in_c 0 rfl) rfl) (fun z220 e220 => g_putL 224 (gd rfl) rfl rfl rfl rfl (have hI221 := inv_sG (q := 109) (j := 86) (x := z220) hI211 rfl (l_rng z220); g_iconst 0 225 (gd rfl) rfl rfl (g_istore_n 226 (gd rfl) rfl (Nat.le_of_ble_eq_true rfl) (gg_w (by omega) (gg_f (gf_cons rfl (gf_cons rfl (gf_cons rfl gf_nil))) (ct226 61 (sG (sG (sF (sF s186 109 81 y63_1) 109 84 z200) 109 85 z210) 109 86 z220) y63_1 (Int32.ofInt 0) hI221 (fr_sG rfl (fr_sG rfl (fr_sF rfl (fr_sF rfl (fr_tr rfl hFc63 hF186))))) (in_w 0 60 j63_1 rfl) (in_w 0 60 (in_c 0 rfl) rfl) (m_in 61 (in_w 0 60 (in_c 0 rfl) rfl) rfl))))))))))))))))))))))))))
            · skip
              exact zn_gt c179 i156 rfl
          · skip
            have i163 := z_gt 1 10 c163 i160 rfl
            refine g_aload_n 167 (gd rfl) rfl rfl (g_iconst 2 168 (gd rfl) rfl rfl (g_aload_n 169 (gd rfl) rfl rfl (g_getIv (y := u_109_22) 172 (gd rfl) rfl rfl rfl (fr_F e_109_22 hFc63 rfl) (g_callv (X := _) (As := [.int (Int32.ofInt 2), .int u_109_22]) (r := []) (b := A 109) (q := 109) 175 (gd rfl) rfl rfl rfl rfl rfl (ww_o rfl) (Nat.le_of_ble_eq_true rfl) (Nat.zero_le _) (Nat.zero_le _) (k_298 (by omega) hIc63 (in_w 1 5 (in_c 2 rfl) rfl)) (fun e u h => h) (fun v u h => ?_)))))
            obtain ⟨s172, hI172, hF172, n172, rfl, rfl⟩ := h
            obtain ⟨z172a, e172⟩ : ∃ w, w = s172.2.2.1 109 23 := ⟨_, rfl⟩
            have i172a := inv_F hI172 0 9 rfl e172
            rw [← (show z172a = s172.2.2.1 109 23 from e172)] at n172
            show GG _ _ _ _ _ _ _ _ [] _ _ _
            refine g_aload_n 176 (gd rfl) rfl rfl (g_getIv (y := z172a) 179 (gd rfl) rfl rfl rfl (e172) (g_if_le 182 185 (gd rfl) rfl rfl (fun c179 => ?_) (fun c179 => ?_)))
            · skip
              have i179 := z_le 0 0 c179 i172a rfl
              refine g_aload_n 186 (gd rfl) rfl rfl (g_callv (X := _) (As := []) (r := []) (b := A 109) (q := 109) 189 (gd rfl) rfl rfl rfl rfl rfl (ww_o rfl) (Nat.le_of_ble_eq_true rfl) (Nat.zero_le _) (Nat.zero_le _) (k_385 (by omega) hI172 ) (fun e u h => h) (fun v u h => ?_))
              obtain ⟨s186, hI186, hF186, rfl, rfl⟩ := h
              show GG _ _ _ _ _ _ _ _ [] _ _ _
              exact g_aload_n 190 (gd rfl) rfl rfl (g_iload_n 191 (gd rfl) rfl rfl (g_putI 194 (gd rfl) rfl rfl rfl rfl (have hI191 := inv_sF (q := 109) (j := 81) hI186 rfl (in_w 0 60 j63_1 rfl); g_aload_n 195 (gd rfl) rfl rfl (g_aload_n 196 (gd rfl) rfl rfl (g_getA (q2 := 177) 199 (gd rfl) rfl rfl rfl rfl (g_iconst 0 200 (gd rfl) rfl rfl (g_baload 201 (gd rfl) rfl (n := 12) rfl (in_ix (in_c 0 rfl) rfl) (fun z200 e200 => have i200 := inv_I hI191 (n := 12) (t := 3) 0 1 rfl (in_ix (in_c 0 rfl) rfl) rfl e200; g_putZ 204 (gd rfl) rfl rfl rfl rfl (in01 (in_w 0 1 i200 rfl)) (have hI201 := inv_sF (q := 109) (j := 84) hI191 rfl (in_w 0 1 i200 rfl); g_aload_n 205 (gd rfl) rfl rfl (g_aload_n 206 (gd rfl) rfl rfl (g_getA (q2 := 178) 209 (gd rfl) rfl rfl rfl rfl (g_iconst 0 210 (gd rfl) rfl rfl (g_laload 211 (gd rfl) rfl (n := 12) rfl (in_ix (in_c 0 rfl) rfl) (fun z210 e210 => g_putL 214 (gd rfl) rfl rfl rfl rfl (have hI211 := inv_sG (q := 109) (j := 85) (x := z210) hI201 rfl (l_rng z210); g_aload_n 215 (gd rfl) rfl rfl (g_aload_n 216 (gd rfl) rfl rfl (g_getA (q2 := 179) 219 (gd rfl) rfl rfl rfl rfl (g_iconst 0 220 (gd rfl) rfl rfl (g_laload 221 (gd rfl) rfl (n := 12) rfl (in_ix (in_c 0 rfl) rfl) (fun z220 e220 => g_putL 224 (gd rfl) rfl rfl rfl rfl (have hI221 := inv_sG (q := 109) (j := 86) (x := z220) hI211 rfl (l_rng z220); g_iconst 0 225 (gd rfl) rfl rfl (g_istore_n 226 (gd rfl) rfl (Nat.le_of_ble_eq_true rfl) (gg_w (by omega) (gg_f (gf_cons rfl (gf_cons rfl (gf_cons rfl gf_nil))) (ct226 61 (sG (sG (sF (sF s186 109 81 y63_1) 109 84 z200) 109 85 z210) 109 86 z220) y63_1 (Int32.ofInt 0) hI221 (fr_sG rfl (fr_sG rfl (fr_sF rfl (fr_sF rfl (fr_tr rfl (fr_tr rfl hFc63 hF172) hF186))))) (in_w 0 60 j63_1 rfl) (in_w 0 60 (in_c 0 rfl) rfl) (m_in 61 (in_w 0 60 (in_c 0 rfl) rfl) rfl))))))))))))))))))))))))))
            · skip
              have i179 := z_gt 1 9 c179 i172a rfl
              exact g_bipush (-4) 184 (gd rfl) rfl rfl (g_ireturn (gd rfl) rfl rfl (hP _ _ ⟨s172, hI172, (fr_tr rfl hFc63 hF172), (Int32.ofInt (-4)), rfl, rfl, in_w (-4) 0 (in_c (-4) rfl) rfl⟩))
      · skip
        have i68 := r_lt2 1 1000 c68 j63_2 ro_109_22 rfl
        refine g_aload_n 72 (gd rfl) rfl rfl (g_getI 75 (gd rfl) rfl rfl rfl (fun z72 e72 => have i72 := inv_F hIc63 0 9 rfl e72; g_if_ne 78 152 (gd rfl) rfl rfl (fun c75 => ?_) (fun c75 => ?_)))
        · skip
          have i75 := z_ne 1 9 c75 i72 rfl
          refine g_aload_n 153 (gd rfl) rfl rfl (g_getIv (y := z72) 156 (gd rfl) rfl rfl rfl (e72) (g_if_ne 159 175 (gd rfl) rfl rfl (fun c156 => ?_) (fun c156 => ?_)))
          · skip
            refine g_aload_n 176 (gd rfl) rfl rfl (g_getIv (y := z72) 179 (gd rfl) rfl rfl rfl (e72) (g_if_le 182 185 (gd rfl) rfl rfl (fun c179 => ?_) (fun c179 => ?_)))
            · skip
              exact zn_le c179 i75 rfl
            · skip
              exact g_bipush (-4) 184 (gd rfl) rfl rfl (g_ireturn (gd rfl) rfl rfl (hP _ _ ⟨sc63, hIc63, hFc63, (Int32.ofInt (-4)), rfl, rfl, in_w (-4) 0 (in_c (-4) rfl) rfl⟩))
          · skip
            exact zn_eq c156 i75 rfl
        · skip
          have i75 := z_eq 0 0 c75 i72 rfl
          refine g_aload_n 79 (gd rfl) rfl rfl (g_getA (q2 := 125) 82 (gd rfl) rfl rfl rfl rfl (g_iload_n 83 (gd rfl) rfl rfl (g_iaload 84 (gd rfl) rfl (n := 1000) rfl (in_ix j63_2 rfl) (fun z83 e83 => have i83 := inv_I hIc63 (n := 1000) (t := 0) 0 126 rfl (in_ix j63_2 rfl) rfl e83; g_istore_n 85 (gd rfl) rfl (Nat.le_of_ble_eq_true rfl) (g_iload_n 86 (gd rfl) rfl rfl ?_)))))
          refine g_calls (As := [.int z83]) (r := []) 89 (gd rfl) rfl rfl rfl rfl rfl (Nat.le_of_ble_eq_true rfl) (mc := 0) (ms := 0) (Nat.zero_le _) (Nat.zero_le _) (P := fun v u => _) ?_ (fun v u h => h)
          intro po86 xx86 hp86 hx86
          refine g_enter2 (k := 296) (N := 300) (by omega) rfl (Nat.le_of_ble_eq_true rfl) (g_iload_n 1 (gd rfl) rfl rfl (g_bipush 97 3 (gd rfl) rfl rfl (g_cmp_lt 6 16 (gd rfl) rfl rfl (fun c86x3 => ?_) (fun c86x3 => ?_))))
          · skip
            have i86x3 := r_lt1 0 96 c86x3 i83 (in_c 97 rfl) rfl
            refine g_iconst 0 17 (gd rfl) rfl rfl ?_
            refine g_ireturn (gd rfl) rfl (nb01 (in_w 0 1 (in_c 0 rfl) rfl)) (hp86 _ _ ?_)
            show GG _ _ _ _ _ _ _ _ [.int (Int32.ofInt 0)] _ _ _
            refine g_if_ne 92 98 (gd rfl) rfl rfl (fun c89 => ?_) (fun c89 => ?_)
            · skip
              exact zn_ne c89 (in_c 0 rfl) rfl
            · skip
              refine g_iload_n 93 (gd rfl) rfl rfl (g_bipush 46 95 (gd rfl) rfl rfl (g_cmp_ne 98 140 (gd rfl) rfl rfl (fun c95 => ?_) (fun c95 => ?_)))
              · skip
                refine g_aload_n 141 (gd rfl) rfl rfl (g_iload_n 142 (gd rfl) rfl rfl (g_iload_n 143 (gd rfl) rfl rfl (g_callv (X := _) (As := [.int z83, .int y63_2]) (r := []) (b := A 109) (q := 109) 146 (gd rfl) rfl rfl rfl rfl rfl (ww_o rfl) (Nat.le_of_ble_eq_true rfl) (Nat.zero_le _) (Nat.zero_le _) (k_388 (by omega) hIc63 (in_w 0 126 i86x3 rfl) (in_w 0 60 j63_2 rfl)) (fun e u h => h) (fun v u h => ?_))))
                obtain ⟨s143, hI143, hF143, rfl, rfl⟩ := h
                show GG _ _ _ _ _ _ _ _ [] _ _ _
                refine g_iinc 149 (gd rfl) rfl rfl (Nat.le_of_ble_eq_true rfl) (fun z146 e146 => have i146 := in_add 1 61 e146 j63_2 (in_c 1 rfl) rfl rfl; g_goto 63 (gd rfl) rfl ?_)
                have i63 : In z146 0 60 := by exact ⟨by exact (have a0 := in_u i68; have a1 := in_u j63_2; have a2 := in_u j63_1; have a3 := in_u i86x3; have a4 := in_u i146; have a5 := t_add e146 j63_2 (in_c 1 rfl) rfl; have a6 := in_u ((in_c 1 rfl)); by omega), by exact (have a0 := in_u i68; have a1 := in_u j63_2; have a2 := in_u j63_1; have a3 := in_u i86x3; have a4 := in_u i146; have a5 := t_add e146 j63_2 (in_c 1 rfl) rfl; have a6 := in_u ((in_c 1 rfl)); by omega)⟩
                have n63 : (u_109_22).toInt ≤ 60 := by exact (have a0 := in_u i68; have a1 := in_u j63_2; have a2 := in_u j63_1; have a3 := in_u i86x3; have a4 := in_u i63; have a5 := t_add e146 j63_2 (in_c 1 rfl) rfl; have a6 := in_u ((in_c 1 rfl)); by omega)
                have n63a : (y63_1).toInt ≤ (z146).toInt := by exact (have a0 := in_u i68; have a1 := in_u j63_2; have a2 := in_u j63_1; have a3 := in_u i86x3; have a4 := in_u i63; have a5 := t_add e146 j63_2 (in_c 1 rfl) rfl; have a6 := in_u ((in_c 1 rfl)); by omega)
                exact gg_w (by omega) (gg_f (gf_cons rfl (gf_cons rfl (gf_cons rfl gf_nil))) (ih63 s143 y63_1 z146 hI143 (fr_tr rfl hFc63 hF143) (in_w 0 60 j63_1 rfl) i63 n63 n63a (m_up mm63 (t_add e146 j63_2 (in_c 1 rfl) rfl) (in_w 1 1 (in_c 1 rfl) rfl))))
              · skip
                have i95 := r_eq1 46 46 c95 i86x3 (in_c 46 rfl) rfl
                refine g_aload_n 99 (gd rfl) rfl rfl (g_callv (X := _) (As := []) (r := []) (b := A 109) (q := 109) 102 (gd rfl) rfl rfl rfl rfl rfl (ww_o rfl) (Nat.le_of_ble_eq_true rfl) (Nat.zero_le _) (Nat.zero_le _) (k_384 (by omega) hIc63 ) (fun e u h => h) (fun v u h => ?_))
                obtain ⟨s99, hI99, hF99, rfl, rfl⟩ := h
                show GG _ _ _ _ _ _ _ _ [] _ _ _
                refine g_aload_n 103 (gd rfl) rfl rfl (g_getA (q2 := 174) 106 (gd rfl) rfl rfl rfl rfl (g_iload_n 107 (gd rfl) rfl rfl (g_iload_n 108 (gd rfl) rfl rfl (g_bipush 46 110 (gd rfl) rfl rfl (g_cmp_ne 113 118 (gd rfl) rfl rfl (fun c110 => ?_) (fun c110 => ?_))))))
                · skip
                  exact n_ne c110 i95 (in_c 46 rfl) rfl
                · skip
                  refine g_bipush 26 115 (gd rfl) rfl rfl (g_goto 122 (gd rfl) rfl ?_)
                  have i122 : In y63_1 0 59 := by exact (have a0 := in_u i68; have a1 := in_u j63_2; have a2 := in_u j63_1; have a3 := in_u i95; have a4 := in_u i75; ⟨by omega, by omega⟩)
                  refine g_iastore 123 (gd rfl) rfl (n := 60) rfl (in_ix i122 rfl) (have hI122 := inv_sI (q := 174) (j := y63_1.toNatClampNeg) hI99 rfl (in_w 0 26 (in_c 26 rfl) rfl); g_aload_n 124 (gd rfl) rfl rfl (g_iconst 0 125 (gd rfl) rfl rfl (g_lconst 1 126 (gd rfl) rfl rfl (g_iload_n 127 (gd rfl) rfl rfl (g_lshl 128 (gd rfl) rfl (fun z127 e127 => have i127 := l_shl 59 e127 i122 rfl; g_lconst 1 129 (gd rfl) rfl rfl (g_iload_n 130 (gd rfl) rfl rfl (g_lshl 131 (gd rfl) rfl (fun z130 e130 => ?_)))))))))
                  have i130 := l_shl 59 e130 i122 rfl
                  refine g_callv (X := _) (As := [.int (Int32.ofInt 0), .long z127, .long z130]) (r := []) (b := A 109) (q := 109) 134 (gd rfl) rfl rfl rfl rfl rfl (ww_o rfl) (Nat.le_of_ble_eq_true rfl) (mc := 0) (ms := 0) (Nat.zero_le _) (Nat.zero_le _) (P := fun v u => _) ?_ (fun e u h => h) (fun v u h => h)
                  intro po131 xx131 hp131 hx131
                  refine g_enter2 (k := 387) (N := 300) (by omega) rfl (Nat.le_of_ble_eq_true rfl) (g_aload_n 1 (gd rfl) rfl rfl (g_iconst 1 2 (gd rfl) rfl rfl (g_putZ 5 (gd rfl) rfl rfl rfl rfl (in01 (in_w 0 1 (in_c 1 rfl) rfl)) (have hI131x2 := inv_sF (q := 109) (j := 97) hI122 rfl (in_w 0 1 (in_c 1 rfl) rfl); g_aload_n 6 (gd rfl) rfl rfl (g_iconst 1 7 (gd rfl) rfl rfl (g_putZ 10 (gd rfl) rfl rfl rfl rfl (in01 (in_w 0 1 (in_c 1 rfl) rfl)) (have hI131x7 := inv_sF (q := 109) (j := 98) hI131x2 rfl (in_w 0 1 (in_c 1 rfl) rfl); g_aload_n 11 (gd rfl) rfl rfl (g_iload_n 12 (gd rfl) rfl rfl (g_putZ 15 (gd rfl) rfl rfl rfl rfl (in01 (in_w 0 1 (in_c 0 rfl) rfl)) (have hI131x12 := inv_sF (q := 109) (j := 99) hI131x7 rfl (in_w 0 1 (in_c 0 rfl) rfl); g_aload_n 16 (gd rfl) rfl rfl (g_lload_n 17 (gd rfl) rfl rfl (g_putL 20 (gd rfl) rfl rfl rfl rfl (have hI131x17 := inv_sG (q := 109) (j := 100) (x := z127) hI131x12 rfl (l_rng z127); g_aload_n 21 (gd rfl) rfl rfl (g_lload 23 (gd rfl) rfl rfl (g_putL 26 (gd rfl) rfl rfl rfl rfl ?_)))))))))))))))
                  have hI131x23 := inv_sG (q := 109) (j := 101) (x := z130) hI131x17 rfl (l_rng z130)
                  refine g_return (gd rfl) rfl (hp131 _ _ ?_)
                  show GG _ _ _ _ _ _ _ _ [] _ _ _
                  refine g_iinc 137 (gd rfl) rfl rfl (Nat.le_of_ble_eq_true rfl) (fun z134 e134 => have i134 := in_add 1 60 e134 i122 (in_c 1 rfl) rfl rfl; g_goto 146 (gd rfl) rfl (g_iinc 149 (gd rfl) rfl rfl (Nat.le_of_ble_eq_true rfl) (fun z146 e146 => have i146 := in_add 1 61 e146 j63_2 (in_c 1 rfl) rfl rfl; g_goto 63 (gd rfl) rfl ?_)))
                  have i63 : In z146 0 60 := by exact ⟨by exact (have a0 := in_u i68; have a1 := in_u j63_2; have a2 := in_u i122; have a3 := in_u i95; have a4 := in_u i146; have a5 := t_add e146 j63_2 (in_c 1 rfl) rfl; have a6 := in_u ((in_c 1 rfl)); have a7 := in_u i134; have a8 := t_add e134 i122 (in_c 1 rfl) rfl; have a9 := in_u ((in_c 0 rfl)); have a10 := in_u i75; by omega), by exact (have a0 := in_u i68; have a1 := in_u j63_2; have a2 := in_u i122; have a3 := in_u i95; have a4 := in_u i146; have a5 := t_add e146 j63_2 (in_c 1 rfl) rfl; have a6 := in_u ((in_c 1 rfl)); have a7 := in_u i134; have a8 := t_add e134 i122 (in_c 1 rfl) rfl; have a9 := in_u ((in_c 0 rfl)); have a10 := in_u i75; by omega)⟩
                  have n63 : (u_109_22).toInt ≤ 60 := by exact (have a0 := in_u i68; have a1 := in_u j63_2; have a2 := in_u i122; have a3 := in_u i95; have a4 := in_u i63; have a5 := t_add e146 j63_2 (in_c 1 rfl) rfl; have a6 := in_u ((in_c 1 rfl)); have a7 := in_u i134; have a8 := t_add e134 i122 (in_c 1 rfl) rfl; have a9 := in_u ((in_c 0 rfl)); have a10 := in_u i75; by omega)
                  have n63a : (z134).toInt ≤ (z146).toInt := by exact (have a0 := in_u i68; have a1 := in_u j63_2; have a2 := in_u i122; have a3 := in_u i95; have a4 := in_u i63; have a5 := t_add e146 j63_2 (in_c 1 rfl) rfl; have a6 := in_u ((in_c 1 rfl)); have a7 := in_u i134; have a8 := t_add e134 i122 (in_c 1 rfl) rfl; have a9 := in_u ((in_c 0 rfl)); have a10 := in_u i75; by omega)
                  exact gg_w (by omega) (gg_f (gf_cons rfl (gf_cons rfl (gf_cons rfl gf_nil))) (ih63 (sG (sG (sF (sF (sF (sI s99 174 y63_1.toNatClampNeg (Int32.ofInt 26)) 109 97 (Int32.ofInt 1)) 109 98 (Int32.ofInt 1)) 109 99 (Int32.ofInt 0)) 109 100 z127) 109 101 z130) z134 z146 hI131x23 (fr_sG rfl (fr_sG rfl (fr_sF rfl (fr_sF rfl (fr_sF rfl (fr_sI rfl (fr_tr rfl hFc63 hF99))))))) (in_w 0 60 i134 rfl) i63 n63 n63a (m_up mm63 (t_add e146 j63_2 (in_c 1 rfl) rfl) (in_w 1 1 (in_c 1 rfl) rfl))))
          · skip
            have i86x3 := r_le2 97 126 c86x3 (in_c 97 rfl) i83 rfl
            refine g_iload_n 7 (gd rfl) rfl rfl (g_bipush 122 9 (gd rfl) rfl rfl (g_cmp_gt 12 16 (gd rfl) rfl rfl (fun c86x9 => ?_) (fun c86x9 => ?_)))
            · skip
              have i86x9 := r_lt2 123 126 c86x9 (in_c 122 rfl) i86x3 rfl
              refine g_iconst 0 17 (gd rfl) rfl rfl ?_
              refine g_ireturn (gd rfl) rfl (nb01 (in_w 0 1 (in_c 0 rfl) rfl)) (hp86 _ _ ?_)
              show GG _ _ _ _ _ _ _ _ [.int (Int32.ofInt 0)] _ _ _
              refine g_if_ne 92 98 (gd rfl) rfl rfl (fun c89 => ?_) (fun c89 => ?_)
              · skip
                exact zn_ne c89 (in_c 0 rfl) rfl
              · skip
                refine g_iload_n 93 (gd rfl) rfl rfl (g_bipush 46 95 (gd rfl) rfl rfl (g_cmp_ne 98 140 (gd rfl) rfl rfl (fun c95 => ?_) (fun c95 => ?_)))
                · skip
                  refine g_aload_n 141 (gd rfl) rfl rfl (g_iload_n 142 (gd rfl) rfl rfl (g_iload_n 143 (gd rfl) rfl rfl (g_callv (X := _) (As := [.int z83, .int y63_2]) (r := []) (b := A 109) (q := 109) 146 (gd rfl) rfl rfl rfl rfl rfl (ww_o rfl) (Nat.le_of_ble_eq_true rfl) (Nat.zero_le _) (Nat.zero_le _) (k_388 (by omega) hIc63 (in_w 0 126 i86x9 rfl) (in_w 0 60 j63_2 rfl)) (fun e u h => h) (fun v u h => ?_))))
                  obtain ⟨s143, hI143, hF143, rfl, rfl⟩ := h
                  show GG _ _ _ _ _ _ _ _ [] _ _ _
                  refine g_iinc 149 (gd rfl) rfl rfl (Nat.le_of_ble_eq_true rfl) (fun z146 e146 => have i146 := in_add 1 61 e146 j63_2 (in_c 1 rfl) rfl rfl; g_goto 63 (gd rfl) rfl ?_)
                  have i63 : In z146 0 60 := by exact ⟨by exact (have a0 := in_u i68; have a1 := in_u j63_2; have a2 := in_u j63_1; have a3 := in_u i86x9; have a4 := in_u i146; have a5 := t_add e146 j63_2 (in_c 1 rfl) rfl; have a6 := in_u ((in_c 1 rfl)); by omega), by exact (have a0 := in_u i68; have a1 := in_u j63_2; have a2 := in_u j63_1; have a3 := in_u i86x9; have a4 := in_u i146; have a5 := t_add e146 j63_2 (in_c 1 rfl) rfl; have a6 := in_u ((in_c 1 rfl)); by omega)⟩
                  have n63 : (u_109_22).toInt ≤ 60 := by exact (have a0 := in_u i68; have a1 := in_u j63_2; have a2 := in_u j63_1; have a3 := in_u i86x9; have a4 := in_u i63; have a5 := t_add e146 j63_2 (in_c 1 rfl) rfl; have a6 := in_u ((in_c 1 rfl)); by omega)
                  have n63a : (y63_1).toInt ≤ (z146).toInt := by exact (have a0 := in_u i68; have a1 := in_u j63_2; have a2 := in_u j63_1; have a3 := in_u i86x9; have a4 := in_u i63; have a5 := t_add e146 j63_2 (in_c 1 rfl) rfl; have a6 := in_u ((in_c 1 rfl)); by omega)
                  exact gg_w (by omega) (gg_f (gf_cons rfl (gf_cons rfl (gf_cons rfl gf_nil))) (ih63 s143 y63_1 z146 hI143 (fr_tr rfl hFc63 hF143) (in_w 0 60 j63_1 rfl) i63 n63 n63a (m_up mm63 (t_add e146 j63_2 (in_c 1 rfl) rfl) (in_w 1 1 (in_c 1 rfl) rfl))))
                · skip
                  exact n_eq c95 i86x9 (in_c 46 rfl) rfl
            · skip
              have i86x9 := r_le1 97 122 c86x9 i86x3 (in_c 122 rfl) rfl
              refine g_iconst 1 13 (gd rfl) rfl rfl (g_goto 17 (gd rfl) rfl ?_)
              refine g_ireturn (gd rfl) rfl (nb01 (in_w 0 1 (in_c 1 rfl) rfl)) (hp86 _ _ ?_)
              show GG _ _ _ _ _ _ _ _ [.int (Int32.ofInt 1)] _ _ _
              refine g_if_ne 92 98 (gd rfl) rfl rfl (fun c89 => ?_) (fun c89 => ?_)
              · skip
                refine g_aload_n 99 (gd rfl) rfl rfl (g_callv (X := _) (As := []) (r := []) (b := A 109) (q := 109) 102 (gd rfl) rfl rfl rfl rfl rfl (ww_o rfl) (Nat.le_of_ble_eq_true rfl) (Nat.zero_le _) (Nat.zero_le _) (k_384 (by omega) hIc63 ) (fun e u h => h) (fun v u h => ?_))
                obtain ⟨s99, hI99, hF99, rfl, rfl⟩ := h
                show GG _ _ _ _ _ _ _ _ [] _ _ _
                refine g_aload_n 103 (gd rfl) rfl rfl (g_getA (q2 := 174) 106 (gd rfl) rfl rfl rfl rfl (g_iload_n 107 (gd rfl) rfl rfl (g_iload_n 108 (gd rfl) rfl rfl (g_bipush 46 110 (gd rfl) rfl rfl (g_cmp_ne 113 118 (gd rfl) rfl rfl (fun c110 => ?_) (fun c110 => ?_))))))
                · skip
                  refine g_iload_n 119 (gd rfl) rfl rfl (g_bipush 97 121 (gd rfl) rfl rfl (g_isub 122 (gd rfl) rfl (fun z121 e121 => ?_)))
                  have i121 := in_sub 0 25 e121 i86x9 (in_c 97 rfl) rfl rfl
                  have i122 : In y63_1 0 59 := by exact (have a0 := in_u i68; have a1 := in_u j63_2; have a2 := in_u j63_1; have a3 := in_u i86x9; have a4 := in_u i75; have a5 := in_u i121; have a6 := t_sub e121 i86x9 (in_c 97 rfl) rfl; have a7 := in_u ((in_c 97 rfl)); ⟨by omega, by omega⟩)
                  refine g_iastore 123 (gd rfl) rfl (n := 60) rfl (in_ix i122 rfl) (have hI122 := inv_sI (q := 174) (j := y63_1.toNatClampNeg) hI99 rfl (in_w 0 26 i121 rfl); g_aload_n 124 (gd rfl) rfl rfl (g_iconst 0 125 (gd rfl) rfl rfl (g_lconst 1 126 (gd rfl) rfl rfl (g_iload_n 127 (gd rfl) rfl rfl (g_lshl 128 (gd rfl) rfl (fun z127 e127 => have i127 := l_shl 59 e127 i122 rfl; g_lconst 1 129 (gd rfl) rfl rfl (g_iload_n 130 (gd rfl) rfl rfl (g_lshl 131 (gd rfl) rfl (fun z130 e130 => ?_)))))))))
                  have i130 := l_shl 59 e130 i122 rfl
                  refine g_callv (X := _) (As := [.int (Int32.ofInt 0), .long z127, .long z130]) (r := []) (b := A 109) (q := 109) 134 (gd rfl) rfl rfl rfl rfl rfl (ww_o rfl) (Nat.le_of_ble_eq_true rfl) (mc := 0) (ms := 0) (Nat.zero_le _) (Nat.zero_le _) (P := fun v u => _) ?_ (fun e u h => h) (fun v u h => h)
                  intro po131 xx131 hp131 hx131
                  refine g_enter2 (k := 387) (N := 300) (by omega) rfl (Nat.le_of_ble_eq_true rfl) (g_aload_n 1 (gd rfl) rfl rfl (g_iconst 1 2 (gd rfl) rfl rfl (g_putZ 5 (gd rfl) rfl rfl rfl rfl (in01 (in_w 0 1 (in_c 1 rfl) rfl)) (have hI131x2 := inv_sF (q := 109) (j := 97) hI122 rfl (in_w 0 1 (in_c 1 rfl) rfl); g_aload_n 6 (gd rfl) rfl rfl (g_iconst 1 7 (gd rfl) rfl rfl (g_putZ 10 (gd rfl) rfl rfl rfl rfl (in01 (in_w 0 1 (in_c 1 rfl) rfl)) (have hI131x7 := inv_sF (q := 109) (j := 98) hI131x2 rfl (in_w 0 1 (in_c 1 rfl) rfl); g_aload_n 11 (gd rfl) rfl rfl (g_iload_n 12 (gd rfl) rfl rfl (g_putZ 15 (gd rfl) rfl rfl rfl rfl (in01 (in_w 0 1 (in_c 0 rfl) rfl)) (have hI131x12 := inv_sF (q := 109) (j := 99) hI131x7 rfl (in_w 0 1 (in_c 0 rfl) rfl); g_aload_n 16 (gd rfl) rfl rfl (g_lload_n 17 (gd rfl) rfl rfl (g_putL 20 (gd rfl) rfl rfl rfl rfl (have hI131x17 := inv_sG (q := 109) (j := 100) (x := z127) hI131x12 rfl (l_rng z127); g_aload_n 21 (gd rfl) rfl rfl (g_lload 23 (gd rfl) rfl rfl (g_putL 26 (gd rfl) rfl rfl rfl rfl ?_)))))))))))))))
                  have hI131x23 := inv_sG (q := 109) (j := 101) (x := z130) hI131x17 rfl (l_rng z130)
                  refine g_return (gd rfl) rfl (hp131 _ _ ?_)
                  show GG _ _ _ _ _ _ _ _ [] _ _ _
                  refine g_iinc 137 (gd rfl) rfl rfl (Nat.le_of_ble_eq_true rfl) (fun z134 e134 => have i134 := in_add 1 60 e134 i122 (in_c 1 rfl) rfl rfl; g_goto 146 (gd rfl) rfl (g_iinc 149 (gd rfl) rfl rfl (Nat.le_of_ble_eq_true rfl) (fun z146 e146 => have i146 := in_add 1 61 e146 j63_2 (in_c 1 rfl) rfl rfl; g_goto 63 (gd rfl) rfl ?_)))
                  have i63 : In z146 0 60 := by exact ⟨by exact (have a0 := in_u i68; have a1 := in_u j63_2; have a2 := in_u i122; have a3 := in_u i86x9; have a4 := in_u i146; have a5 := t_add e146 j63_2 (in_c 1 rfl) rfl; have a6 := in_u ((in_c 1 rfl)); have a7 := in_u i134; have a8 := t_add e134 i122 (in_c 1 rfl) rfl; have a9 := in_u ((in_c 0 rfl)); have a10 := in_u i75; have a11 := in_u i121; have a12 := t_sub e121 i86x9 (in_c 97 rfl) rfl; have a13 := in_u ((in_c 97 rfl)); by omega), by exact (have a0 := in_u i68; have a1 := in_u j63_2; have a2 := in_u i122; have a3 := in_u i86x9; have a4 := in_u i146; have a5 := t_add e146 j63_2 (in_c 1 rfl) rfl; have a6 := in_u ((in_c 1 rfl)); have a7 := in_u i134; have a8 := t_add e134 i122 (in_c 1 rfl) rfl; have a9 := in_u ((in_c 0 rfl)); have a10 := in_u i75; have a11 := in_u i121; have a12 := t_sub e121 i86x9 (in_c 97 rfl) rfl; have a13 := in_u ((in_c 97 rfl)); by omega)⟩
                  have n63 : (u_109_22).toInt ≤ 60 := by exact (have a0 := in_u i68; have a1 := in_u j63_2; have a2 := in_u i122; have a3 := in_u i86x9; have a4 := in_u i63; have a5 := t_add e146 j63_2 (in_c 1 rfl) rfl; have a6 := in_u ((in_c 1 rfl)); have a7 := in_u i134; have a8 := t_add e134 i122 (in_c 1 rfl) rfl; have a9 := in_u ((in_c 0 rfl)); have a10 := in_u i75; have a11 := in_u i121; have a12 := t_sub e121 i86x9 (in_c 97 rfl) rfl; have a13 := in_u ((in_c 97 rfl)); by omega)
                  have n63a : (z134).toInt ≤ (z146).toInt := by exact (have a0 := in_u i68; have a1 := in_u j63_2; have a2 := in_u i122; have a3 := in_u i86x9; have a4 := in_u i63; have a5 := t_add e146 j63_2 (in_c 1 rfl) rfl; have a6 := in_u ((in_c 1 rfl)); have a7 := in_u i134; have a8 := t_add e134 i122 (in_c 1 rfl) rfl; have a9 := in_u ((in_c 0 rfl)); have a10 := in_u i75; have a11 := in_u i121; have a12 := t_sub e121 i86x9 (in_c 97 rfl) rfl; have a13 := in_u ((in_c 97 rfl)); by omega)
                  exact gg_w (by omega) (gg_f (gf_cons rfl (gf_cons rfl (gf_cons rfl gf_nil))) (ih63 (sG (sG (sF (sF (sF (sI s99 174 y63_1.toNatClampNeg z121) 109 97 (Int32.ofInt 1)) 109 98 (Int32.ofInt 1)) 109 99 (Int32.ofInt 0)) 109 100 z127) 109 101 z130) z134 z146 hI131x23 (fr_sG rfl (fr_sG rfl (fr_sF rfl (fr_sF rfl (fr_sF rfl (fr_sI rfl (fr_tr rfl hFc63 hF99))))))) (in_w 0 60 i134 rfl) i63 n63 n63a (m_up mm63 (t_add e146 j63_2 (in_c 1 rfl) rfl) (in_w 1 1 (in_c 1 rfl) rfl))))
                · skip
                  exact n_eq c110 i86x9 (in_c 46 rfl) rfl
              · skip
                exact zn_eq c89 (in_c 1 rfl) rfl
  have ct33 : ∀ (k33 : Nat) (sc33 : GS) (y33_1 : Int32) (y33_2 : Int32), Inv sc33 → Fr fm_386 s sc33 → (In y33_1 0 0) → (In y33_2 0 60) → ((u_109_22).toInt ≤ 60) → 60 - (y33_2).toInt < (k33 : Int) → GG Z (d - 1) 386 post (gx xp) (109803 + k33 * 900) 33 (fun j => xlook j [(0, .ref (A 109)), (1, .int y33_1), (2, .int y33_2)]) [] (WW Z A sc33 ++ ex) 0 0 := by
    intro k33
    induction k33 with
    | zero => intro sc33 y33_1 y33_2 hIc33 hFc33 j33_1 j33_2 n33_0 mm33; exact m_no mm33 j33_2 rfl
    | succ k33 ih33 =>
      intro sc33 y33_1 y33_2 hIc33 hFc33 j33_1 j33_2 n33_0 mm33
      refine gg_w (M := 109803 + k33 * 900 + 900) (by omega) (g_iload_n 34 (gd rfl) rfl rfl (g_bipush 60 36 (gd rfl) rfl rfl (g_cmp_ge 39 52 (gd rfl) rfl rfl (fun c36 => ?_) (fun c36 => ?_))))
      · skip
        have i36 := r_le2 60 60 c36 (in_c 60 rfl) j33_2 rfl
        refine g_aload_n 53 (gd rfl) rfl rfl (g_iconst 0 54 (gd rfl) rfl rfl (g_putI 57 (gd rfl) rfl rfl rfl rfl (have hI54 := inv_sF (q := 109) (j := 96) hIc33 rfl (in_w 0 10 (in_c 0 rfl) rfl); g_aload_n 58 (gd rfl) rfl rfl ?_)))
        refine g_callv (X := _) (As := []) (r := []) (b := A 109) (q := 109) 61 (gd rfl) rfl rfl rfl rfl rfl (ww_o rfl) (Nat.le_of_ble_eq_true rfl) (mc := 0) (ms := 0) (Nat.zero_le _) (Nat.zero_le _) (P := fun v u => _) ?_ (fun e u h => h) (fun v u h => h)
        intro po58 xx58 hp58 hx58
        refine g_enter2 (k := 381) (N := 300) (by omega) rfl (Nat.le_of_ble_eq_true rfl) (g_aload_n 1 (gd rfl) rfl rfl (g_getA (q2 := 176) 4 (gd rfl) rfl rfl rfl rfl (g_aload_n 5 (gd rfl) rfl rfl (g_getIv (y := (Int32.ofInt 0)) 8 (gd rfl) rfl rfl rfl (sF_get) (g_iconst 0 9 (gd rfl) rfl rfl (g_bastore 10 (gd rfl) rfl (n := 12) rfl (in_ix (in_c 0 rfl) rfl) (have hI58x9 := inv_sI (q := 176) (j := (Int32.ofInt 0).toNatClampNeg) hI54 rfl (in_w 0 1 (nar01 (in_w 0 1 (in_c 0 rfl) rfl)) rfl); g_aload_n 11 (gd rfl) rfl rfl (g_getA (q2 := 177) 14 (gd rfl) rfl rfl rfl rfl (g_aload_n 15 (gd rfl) rfl rfl (g_getIv (y := (Int32.ofInt 0)) 18 (gd rfl) rfl rfl rfl (sI_F (sF_get)) (g_iconst 0 19 (gd rfl) rfl rfl (g_bastore 20 (gd rfl) rfl (n := 12) rfl (in_ix (in_c 0 rfl) rfl) (have hI58x19 := inv_sI (q := 177) (j := (Int32.ofInt 0).toNatClampNeg) hI58x9 rfl (in_w 0 1 (nar01 (in_w 0 1 (in_c 0 rfl) rfl)) rfl); g_aload_n 21 (gd rfl) rfl rfl (g_getA (q2 := 178) 24 (gd rfl) rfl rfl rfl rfl (g_aload_n 25 (gd rfl) rfl rfl (g_getIv (y := (Int32.ofInt 0)) 28 (gd rfl) rfl rfl rfl (sI_F (sI_F (sF_get))) (g_lconst 0 29 (gd rfl) rfl rfl (g_lastore 30 (gd rfl) rfl (n := 12) rfl (in_ix (in_c 0 rfl) rfl) (have hI58x29 := inv_sL (q := 178) (j := (Int32.ofInt 0).toNatClampNeg) (x := (Int64.ofInt 0)) hI58x19 rfl (l_rng (Int64.ofInt 0)); g_aload_n 31 (gd rfl) rfl rfl (g_getA (q2 := 179) 34 (gd rfl) rfl rfl rfl rfl (g_aload_n 35 (gd rfl) rfl rfl (g_getIv (y := (Int32.ofInt 0)) 38 (gd rfl) rfl rfl rfl (sL_F (sI_F (sI_F (sF_get)))) (g_lconst 0 39 (gd rfl) rfl rfl (g_lastore 40 (gd rfl) rfl (n := 12) rfl (in_ix (in_c 0 rfl) rfl) (have hI58x39 := inv_sL (q := 179) (j := (Int32.ofInt 0).toNatClampNeg) (x := (Int64.ofInt 0)) hI58x29 rfl (l_rng (Int64.ofInt 0)); g_aload_n 41 (gd rfl) rfl rfl ?_)))))))))))))))))))))))))
        refine g_callv (X := _) (As := []) (r := []) (b := A 109) (q := 109) 44 (gd rfl) rfl rfl rfl rfl rfl (ww_o rfl) (Nat.le_of_ble_eq_true rfl) (mc := 0) (ms := 0) (Nat.zero_le _) (Nat.zero_le _) (P := fun v u => _) ?_ (fun e u h => h) (fun v u h => h)
        intro po58x41 xx58x41 hp58x41 hx58x41
        refine g_enter2 (k := 382) (N := 300) (by omega) rfl (Nat.le_of_ble_eq_true rfl) (g_aload_n 1 (gd rfl) rfl rfl (g_getA (q2 := 180) 4 (gd rfl) rfl rfl rfl rfl (g_aload_n 5 (gd rfl) rfl rfl (g_getIv (y := (Int32.ofInt 0)) 8 (gd rfl) rfl rfl rfl (sL_F (sL_F (sI_F (sI_F (sF_get))))) (g_iconst 1 9 (gd rfl) rfl rfl (g_bastore 10 (gd rfl) rfl (n := 12) rfl (in_ix (in_c 0 rfl) rfl) (have hI58x41x9 := inv_sI (q := 180) (j := (Int32.ofInt 0).toNatClampNeg) hI58x39 rfl (in_w 0 1 (nar01 (in_w 0 1 (in_c 1 rfl) rfl)) rfl); g_aload_n 11 (gd rfl) rfl rfl (g_getA (q2 := 181) 14 (gd rfl) rfl rfl rfl rfl (g_aload_n 15 (gd rfl) rfl rfl (g_getIv (y := (Int32.ofInt 0)) 18 (gd rfl) rfl rfl rfl (sI_F (sL_F (sL_F (sI_F (sI_F (sF_get)))))) (g_lconst 0 19 (gd rfl) rfl rfl (g_lastore 20 (gd rfl) rfl (n := 12) rfl (in_ix (in_c 0 rfl) rfl) (have hI58x41x19 := inv_sL (q := 181) (j := (Int32.ofInt 0).toNatClampNeg) (x := (Int64.ofInt 0)) hI58x41x9 rfl (l_rng (Int64.ofInt 0)); g_aload_n 21 (gd rfl) rfl rfl (g_getA (q2 := 182) 24 (gd rfl) rfl rfl rfl rfl (g_aload_n 25 (gd rfl) rfl rfl (g_getIv (y := (Int32.ofInt 0)) 28 (gd rfl) rfl rfl rfl (sL_F (sI_F (sL_F (sL_F (sI_F (sI_F (sF_get))))))) (g_lconst 0 29 (gd rfl) rfl rfl (g_lastore 30 (gd rfl) rfl (n := 12) rfl (in_ix (in_c 0 rfl) rfl) (have hI58x41x29 := inv_sL (q := 182) (j := (Int32.ofInt 0).toNatClampNeg) (x := (Int64.ofInt 0)) hI58x41x19 rfl (l_rng (Int64.ofInt 0)); g_aload_n 31 (gd rfl) rfl rfl (g_iconst 0 32 (gd rfl) rfl rfl (g_putZ 35 (gd rfl) rfl rfl rfl rfl (in01 (in_w 0 1 (in_c 0 rfl) rfl)) (have hI58x41x32 := inv_sF (q := 109) (j := 97) hI58x41x29 rfl (in_w 0 1 (in_c 0 rfl) rfl); g_aload_n 36 (gd rfl) rfl rfl (g_iconst 0 37 (gd rfl) rfl rfl (g_putZ 40 (gd rfl) rfl rfl rfl rfl (in01 (in_w 0 1 (in_c 0 rfl) rfl)) ?_))))))))))))))))))))))))
        have hI58x41x37 := inv_sF (q := 109) (j := 98) hI58x41x32 rfl (in_w 0 1 (in_c 0 rfl) rfl)
        refine g_return (gd rfl) rfl (hp58x41 _ _ ?_)
        show GG _ _ _ _ _ _ _ _ [] _ _ _
        refine g_return (gd rfl) rfl (hp58 _ _ ?_)
        show GG _ _ _ _ _ _ _ _ [] _ _ _
        refine g_iconst 0 62 (gd rfl) rfl rfl (g_istore_n 63 (gd rfl) rfl (Nat.le_of_ble_eq_true rfl) ?_)
        have n63 : (u_109_22).toInt ≤ 60 := by exact (have a0 := in_u ro_109_22; have a1 := in_u i36; have a2 := in_u j33_1; have a3 := in_u ((in_c 0 rfl)); by omega)
        have n63a : (y33_1).toInt ≤ ((Int32.ofInt 0)).toInt := by exact (have a0 := in_u ro_109_22; have a1 := in_u i36; have a2 := in_u j33_1; have a3 := in_u ((in_c 0 rfl)); by omega)
        exact gg_w (by omega) (gg_f (gf_cons rfl (gf_cons rfl (gf_cons rfl gf_nil))) (ct63 61 (sF (sF (sL (sL (sI (sL (sL (sI (sI (sF sc33 109 96 (Int32.ofInt 0)) 176 (Int32.ofInt 0).toNatClampNeg (vp_nar .boolean (Int32.ofInt 0))) 177 (Int32.ofInt 0).toNatClampNeg (vp_nar .boolean (Int32.ofInt 0))) 178 (Int32.ofInt 0).toNatClampNeg (Int64.ofInt 0)) 179 (Int32.ofInt 0).toNatClampNeg (Int64.ofInt 0)) 180 (Int32.ofInt 0).toNatClampNeg (vp_nar .boolean (Int32.ofInt 1))) 181 (Int32.ofInt 0).toNatClampNeg (Int64.ofInt 0)) 182 (Int32.ofInt 0).toNatClampNeg (Int64.ofInt 0)) 109 97 (Int32.ofInt 0)) 109 98 (Int32.ofInt 0)) y33_1 (Int32.ofInt 0) hI58x41x37 (fr_sF rfl (fr_sF rfl (fr_sL rfl (fr_sL rfl (fr_sI rfl (fr_sL rfl (fr_sL rfl (fr_sI rfl (fr_sI rfl (fr_sF rfl hFc33)))))))))) (in_w 0 60 j33_1 rfl) (in_w 0 60 (in_c 0 rfl) rfl) n63 n63a (m_in 61 (in_w 0 60 (in_c 0 rfl) rfl) rfl)))
      · skip
        have i36 := r_lt1 0 59 c36 j33_2 (in_c 60 rfl) rfl
        refine g_aload_n 40 (gd rfl) rfl rfl (g_getA (q2 := 175) 43 (gd rfl) rfl rfl rfl rfl (g_iload_n 44 (gd rfl) rfl rfl (g_lconst 0 45 (gd rfl) rfl rfl (g_lastore 46 (gd rfl) rfl (n := 60) rfl (in_ix i36 rfl) (have hI45 := inv_sL (q := 175) (j := y33_2.toNatClampNeg) (x := (Int64.ofInt 0)) hIc33 rfl (l_rng (Int64.ofInt 0)); g_iinc 49 (gd rfl) rfl rfl (Nat.le_of_ble_eq_true rfl) (fun z46 e46 => have i46 := in_add 1 60 e46 i36 (in_c 1 rfl) rfl rfl; g_goto 33 (gd rfl) rfl ?_))))))
        have n33 : (u_109_22).toInt ≤ 60 := by exact (have a0 := in_u ro_109_22; have a1 := in_u i36; have a2 := in_u j33_1; have a3 := in_u i46; have a4 := t_add e46 i36 (in_c 1 rfl) rfl; have a5 := in_u ((in_c 1 rfl)); by omega)
        exact gg_w (by omega) (gg_f (gf_cons rfl (gf_cons rfl (gf_cons rfl gf_nil))) (ih33 (sL sc33 175 y33_2.toNatClampNeg (Int64.ofInt 0)) y33_1 z46 hI45 (fr_sL rfl hFc33) (in_w 0 0 j33_1 rfl) (in_w 0 60 i46 rfl) n33 (m_up mm33 (t_add e46 i36 (in_c 1 rfl) rfl) (in_w 1 1 (in_c 1 rfl) rfl))))
  refine g_enter2 (k := 386) (N := 165603) (by omega) rfl (Nat.le_of_ble_eq_true rfl) (g_aload_n 1 (gd rfl) rfl rfl (g_iconst 0 2 (gd rfl) rfl rfl (g_putI 5 (gd rfl) rfl rfl rfl rfl (have hI2 := inv_sF (q := 109) (j := 0) hI rfl (in_w 0 2 (in_c 0 rfl) rfl); g_aload_n 6 (gd rfl) rfl rfl (g_iconst 0 7 (gd rfl) rfl rfl (g_putI 10 (gd rfl) rfl rfl rfl rfl (have hI7 := inv_sF (q := 109) (j := 23) hI2 rfl (in_w 0 9 (in_c 0 rfl) rfl); g_aload_n 11 (gd rfl) rfl rfl (g_getIv (y := u_109_22) 14 (gd rfl) rfl rfl rfl (sF_ne rfl (sF_ne rfl (e_109_22))) (g_bipush 60 16 (gd rfl) rfl rfl (g_cmp_le 19 29 (gd rfl) rfl rfl (fun c16 => ?_) (fun c16 => ?_)))))))))))
  · skip
    have i16 := r_le1 0 60 c16 ro_109_22 (in_c 60 rfl) rfl
    refine g_iconst 0 30 (gd rfl) rfl rfl (g_istore_n 31 (gd rfl) rfl (Nat.le_of_ble_eq_true rfl) (g_iconst 0 32 (gd rfl) rfl rfl (g_istore_n 33 (gd rfl) rfl (Nat.le_of_ble_eq_true rfl) ?_)))
    have n33 : (u_109_22).toInt ≤ 60 := by exact (have a0 := in_u i16; have a1 := in_u ((in_c 0 rfl)); by omega)
    exact gg_w (by omega) (gg_f (gf_cons rfl (gf_cons rfl (gf_cons rfl gf_nil))) (ct33 61 (sF (sF s 109 0 (Int32.ofInt 0)) 109 23 (Int32.ofInt 0)) (Int32.ofInt 0) (Int32.ofInt 0) hI7 (fr_sF rfl (fr_sF rfl fr_rf)) (in_w 0 0 (in_c 0 rfl) rfl) (in_w 0 60 (in_c 0 rfl) rfl) n33 (m_in 61 (in_w 0 60 (in_c 0 rfl) rfl) rfl)))
  · skip
    have i16 := r_lt2 61 1000 c16 (in_c 60 rfl) ro_109_22 rfl
    refine g_aload_n 20 (gd rfl) rfl rfl (g_iconst 2 21 (gd rfl) rfl rfl (g_bipush 60 23 (gd rfl) rfl rfl (g_callv (X := _) (As := [.int (Int32.ofInt 2), .int (Int32.ofInt 60)]) (r := []) (b := A 109) (q := 109) 26 (gd rfl) rfl rfl rfl rfl rfl (ww_o rfl) (Nat.le_of_ble_eq_true rfl) (Nat.zero_le _) (Nat.zero_le _) (k_298 (by omega) hI7 (in_w 1 5 (in_c 2 rfl) rfl)) (fun e u h => h) (fun v u h => ?_))))
    obtain ⟨s23, hI23, hF23, n23, rfl, rfl⟩ := h
    obtain ⟨z23a, e23⟩ : ∃ w, w = s23.2.2.1 109 23 := ⟨_, rfl⟩
    have i23a := inv_F hI23 0 9 rfl e23
    rw [← (show z23a = s23.2.2.1 109 23 from e23)] at n23
    show GG _ _ _ _ _ _ _ _ [] _ _ _
    exact g_bipush (-4) 28 (gd rfl) rfl rfl (g_ireturn (gd rfl) rfl rfl (hP _ _ ⟨s23, hI23, (fr_tr rfl (fr_sF rfl (fr_sF rfl fr_rf)) hF23), (Int32.ofInt (-4)), rfl, rfl, in_w (-4) 0 (in_c (-4) rfl) rfl⟩))
