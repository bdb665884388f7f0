section
/-! methods, by vc.py -/
def fm_374 : FM := ([169, 170, 171], [], [(109, 80)], [])
/-- GraphHouseModel.findGroups -/
theorem k_374 {Z : AmZ} {A : Nat → Nat} {s : GS} {ex : va_W} {d : Nat} {X : AmX}  (hd : 5 ≤ d) (hI : Inv s)  : GC Z d 374 [.ref (A 109)] (WW Z A s ++ ex) 0 0 (fun v u => ∃ t : GS, Inv t ∧ Fr fm_374 s t ∧ v = none ∧ u = WW Z A t ++ ex) X := by
  intro post xp hP hX
  obtain ⟨u_109_19, e_109_19⟩ : ∃ w, w = s.2.2.1 109 19 := ⟨_, rfl⟩
  have ro_109_19 := inv_F hI 0 160 rfl e_109_19
  obtain ⟨u_109_20, e_109_20⟩ : ∃ w, w = s.2.2.1 109 20 := ⟨_, rfl⟩
  have ro_109_20 := inv_F hI 0 32 rfl e_109_20
  have ct204 : ∀ (k204 : Nat) (sc204 : GS) (y204_1 : Int32) (y204_2 : Int32), Inv sc204 → Fr fm_374 s sc204 → (In y204_1 0 1) → (In y204_2 0 20) → 20 - (y204_2).toInt < (k204 : Int) → GG Z (d - 1) 374 post (gx xp) (1 + k204 * 32401) 204 (fun j => xlook j [(0, .ref (A 109)), (1, .int y204_1), (2, .int y204_2)]) [] (WW Z A sc204 ++ ex) 0 0 := by
    intro k204
    induction k204 with
    | zero => intro sc204 y204_1 y204_2 hIc204 hFc204 j204_1 j204_2 mm204; exact m_no mm204 j204_2 rfl
    | succ k204 ih204 =>
      intro sc204 y204_1 y204_2 hIc204 hFc204 j204_1 j204_2 mm204
      refine gg_w (M := 1 + k204 * 32401 + 32401) gws ?_
      have ct218 : ∀ (k218 : Nat) (sc218 : GS) (y218_1 : Int32) (y218_3 : Int32), Inv sc218 → Fr fm_374 s sc218 → (In y218_1 0 1) → (In y204_2 0 19) → (In y218_3 0 32) → 32 - (y218_3).toInt < (k218 : Int) → GG Z (d - 1) 374 post (gx xp) (1 + k204 * 32401 + 1 + k218 * 900) 218 (fun j => xlook j [(0, .ref (A 109)), (1, .int y218_1), (2, .int y204_2), (3, .int y218_3)]) [] (WW Z A sc218 ++ ex) 0 0 := by
        intro k218
        induction k218 with
        | zero => intro sc218 y218_1 y218_3 hIc218 hFc218 j218_1 j218_2 j218_3 mm218; exact m_no mm218 j218_3 rfl
        | succ k218 ih218 =>
          intro sc218 y218_1 y218_3 hIc218 hFc218 j218_1 j218_2 j218_3 mm218
          refine gg_w (M := 1 + k204 * 32401 + 1 + k218 * 900 + 900) gws ?_
          refine g_iload_n 219 (gd rfl) rfl rfl ?_
          refine g_aload_n 220 (gd rfl) rfl rfl ?_
          refine g_getI 223 (gd rfl) rfl rfl rfl (fun z220 e220 => ?_)
          have q220 : u_109_20 = z220 := (fr_F e_109_20 hFc218 rfl).trans e220.symm
          subst q220
          refine g_cmp_ge 226 268 (gd rfl) rfl rfl (fun c223 => ?_) (fun c223 => ?_)
          · skip
            refine g_iinc 271 (gd rfl) rfl rfl (Nat.le_of_ble_eq_true rfl) (fun z268 e268 => ?_)
            have i268 := in_add 1 20 e268 j218_2 (in_c 1 rfl) rfl rfl
            refine g_goto 204 (gd rfl) rfl ?_
            exact gg_w (by first | exact Nat.le_add_right _ _ | exact gw2 | exact gw3 | exact gwe rfl | exact gwf rfl | exact gwg rfl | exact gwh rfl | omega) (gg_f (gf_cons rfl (gf_cons rfl (gf_cons rfl gf_nil))) (ih204 sc218 y218_1 z268 hIc218 hFc218 (in_w 0 1 j218_1 rfl) (in_w 0 20 i268 rfl) (m_up mm204 (t_add e268 j218_2 (in_c 1 rfl) rfl) (in_w 1 1 (in_c 1 rfl) rfl))))
          · skip
            have i223 := r_lt1 0 31 c223 j218_3 ro_109_20 rfl
            have i223a := r_lt2 1 32 c223 j218_3 ro_109_20 rfl
            refine g_aload_n 227 (gd rfl) rfl rfl ?_
            refine g_iload_n 228 (gd rfl) rfl rfl ?_
            refine g_callv (X := _) (As := [.int y218_3]) (r := []) (b := A 109) (q := 109) 231 (gd rfl) rfl rfl rfl rfl rfl (ww_o rfl) (Nat.le_of_ble_eq_true rfl) (Nat.zero_le _) (Nat.zero_le _) (k_376 (by first | exact dq1 hd rfl | exact dq0 hd rfl | exact dq2 hd rfl | exact dq3 hd rfl | omega) hIc218 (in_w 0 31 i223 rfl)) (fun e u h => h) (fun v u h => ?_)
            obtain ⟨z228, rfl, rfl, i228⟩ := h
            show GG _ _ _ _ _ _ _ _ [.int z228] _ _ _
            refine g_istore 233 (gd rfl) rfl (Nat.le_of_ble_eq_true rfl) ?_
            refine g_iload_n 234 (gd rfl) rfl rfl ?_
            refine g_if_ne 237 248 (gd rfl) rfl rfl (fun c234 => ?_) (fun c234 => ?_)
            · skip
              have i234 := z_ne 1 1 c234 j218_1 rfl
              refine g_iconst 1 249 (gd rfl) rfl rfl ?_
              refine g_goto 253 (gd rfl) rfl ?_
              refine g_istore_n 254 (gd rfl) rfl (Nat.le_of_ble_eq_true rfl) ?_
              refine g_aload_n 255 (gd rfl) rfl rfl ?_
              refine g_getA (q2 := 169) 258 (gd rfl) rfl rfl rfl rfl ?_
              refine g_iload_n 259 (gd rfl) rfl rfl ?_
              refine g_iload 261 (gd rfl) rfl rfl ?_
              refine g_iastore 262 (gd rfl) rfl (n := 32) rfl (in_ix i223 rfl) ?_
              have hI261 := inv_sI (q := 169) (j := y218_3.toNatClampNeg) hIc218 rfl (in_w (-2147483648) 2147483647 i228 rfl)
              refine g_iinc 265 (gd rfl) rfl rfl (Nat.le_of_ble_eq_true rfl) (fun z262 e262 => ?_)
              have i262 := in_add 1 32 e262 i223 (in_c 1 rfl) rfl rfl
              refine g_goto 218 (gd rfl) rfl ?_
              exact gg_w (by first | exact Nat.le_add_right _ _ | exact gw2 | exact gw3 | exact gwe rfl | exact gwf rfl | exact gwg rfl | exact gwh rfl | omega) (gg_f (gf_cons rfl (gf_cons rfl (gf_cons rfl (gf_cons rfl gf_nil)))) (ih218 (sI sc218 169 y218_3.toNatClampNeg z228) (Int32.ofInt 1) z262 hI261 (fr_sI rfl hFc218) (in_w 0 1 (in_c 1 rfl) rfl) (in_w 0 19 j218_2 rfl) (in_w 0 32 i262 rfl) (m_up mm218 (t_add e262 i223 (in_c 1 rfl) rfl) (in_w 1 1 (in_c 1 rfl) rfl))))
            · skip
              have i234 := z_eq 0 0 c234 j218_1 rfl
              refine g_iload 239 (gd rfl) rfl rfl ?_
              refine g_aload_n 240 (gd rfl) rfl rfl ?_
              refine g_getA (q2 := 169) 243 (gd rfl) rfl rfl rfl rfl ?_
              refine g_iload_n 244 (gd rfl) rfl rfl ?_
              refine g_iaload 245 (gd rfl) rfl (n := 32) rfl (in_ix i223 rfl) (fun z244 e244 => ?_)
              refine g_cmp_eq 248 252 (gd rfl) rfl rfl (fun c245 => ?_) (fun c245 => ?_)
              · skip
                refine g_iconst 0 253 (gd rfl) rfl rfl ?_
                refine g_istore_n 254 (gd rfl) rfl (Nat.le_of_ble_eq_true rfl) ?_
                refine g_aload_n 255 (gd rfl) rfl rfl ?_
                refine g_getA (q2 := 169) 258 (gd rfl) rfl rfl rfl rfl ?_
                refine g_iload_n 259 (gd rfl) rfl rfl ?_
                refine g_iload 261 (gd rfl) rfl rfl ?_
                refine g_iastore 262 (gd rfl) rfl (n := 32) rfl (in_ix i223 rfl) ?_
                have hI261 := inv_sI (q := 169) (j := y218_3.toNatClampNeg) hIc218 rfl (in_w (-2147483648) 2147483647 i228 rfl)
                refine g_iinc 265 (gd rfl) rfl rfl (Nat.le_of_ble_eq_true rfl) (fun z262 e262 => ?_)
                have i262 := in_add 1 32 e262 i223 (in_c 1 rfl) rfl rfl
                refine g_goto 218 (gd rfl) rfl ?_
                exact gg_w (by first | exact Nat.le_add_right _ _ | exact gw2 | exact gw3 | exact gwe rfl | exact gwf rfl | exact gwg rfl | exact gwh rfl | omega) (gg_f (gf_cons rfl (gf_cons rfl (gf_cons rfl (gf_cons rfl gf_nil)))) (ih218 (sI sc218 169 y218_3.toNatClampNeg z228) (Int32.ofInt 0) z262 hI261 (fr_sI rfl hFc218) (in_w 0 1 (in_c 0 rfl) rfl) (in_w 0 19 j218_2 rfl) (in_w 0 32 i262 rfl) (m_up mm218 (t_add e262 i223 (in_c 1 rfl) rfl) (in_w 1 1 (in_c 1 rfl) rfl))))
              · skip
                refine g_iconst 1 249 (gd rfl) rfl rfl ?_
                refine g_goto 253 (gd rfl) rfl ?_
                refine g_istore_n 254 (gd rfl) rfl (Nat.le_of_ble_eq_true rfl) ?_
                refine g_aload_n 255 (gd rfl) rfl rfl ?_
                refine g_getA (q2 := 169) 258 (gd rfl) rfl rfl rfl rfl ?_
                refine g_iload_n 259 (gd rfl) rfl rfl ?_
                refine g_iload 261 (gd rfl) rfl rfl ?_
                refine g_iastore 262 (gd rfl) rfl (n := 32) rfl (in_ix i223 rfl) ?_
                have hI261 := inv_sI (q := 169) (j := y218_3.toNatClampNeg) hIc218 rfl (in_w (-2147483648) 2147483647 i228 rfl)
                refine g_iinc 265 (gd rfl) rfl rfl (Nat.le_of_ble_eq_true rfl) (fun z262 e262 => ?_)
                have i262 := in_add 1 32 e262 i223 (in_c 1 rfl) rfl rfl
                refine g_goto 218 (gd rfl) rfl ?_
                exact gg_w (by first | exact Nat.le_add_right _ _ | exact gw2 | exact gw3 | exact gwe rfl | exact gwf rfl | exact gwg rfl | exact gwh rfl | omega) (gg_f (gf_cons rfl (gf_cons rfl (gf_cons rfl (gf_cons rfl gf_nil)))) (ih218 (sI sc218 169 y218_3.toNatClampNeg z228) (Int32.ofInt 1) z262 hI261 (fr_sI rfl hFc218) (in_w 0 1 (in_c 1 rfl) rfl) (in_w 0 19 j218_2 rfl) (in_w 0 32 i262 rfl) (m_up mm218 (t_add e262 i223 (in_c 1 rfl) rfl) (in_w 1 1 (in_c 1 rfl) rfl))))
      refine g_iload_n 205 (gd rfl) rfl rfl ?_
      refine g_bipush 20 207 (gd rfl) rfl rfl ?_
      refine g_cmp_ge 210 274 (gd rfl) rfl rfl (fun c207 => ?_) (fun c207 => ?_)
      · skip
        have i207 := r_le2 20 20 c207 (in_c 20 rfl) j204_2 rfl
        exact g_return (gd rfl) rfl (hP _ _ ⟨sc204, hIc204, hFc204, rfl, rfl⟩)
      · skip
        have i207 := r_lt1 0 19 c207 j204_2 (in_c 20 rfl) rfl
        refine g_iload_n 211 (gd rfl) rfl rfl ?_
        refine g_if_eq 214 274 (gd rfl) rfl rfl (fun c211 => ?_) (fun c211 => ?_)
        · skip
          have i211 := z_eq 0 0 c211 j204_1 rfl
          exact g_return (gd rfl) rfl (hP _ _ ⟨sc204, hIc204, hFc204, rfl, rfl⟩)
        · skip
          have i211 := z_ne 1 1 c211 j204_1 rfl
          refine g_iconst 0 215 (gd rfl) rfl rfl ?_
          refine g_istore_n 216 (gd rfl) rfl (Nat.le_of_ble_eq_true rfl) ?_
          refine g_iconst 0 217 (gd rfl) rfl rfl ?_
          refine g_istore_n 218 (gd rfl) rfl (Nat.le_of_ble_eq_true rfl) ?_
          exact gg_w (by first | exact Nat.le_add_right _ _ | exact gw2 | exact gw3 | exact gwe rfl | exact gwf rfl | exact gwg rfl | exact gwh rfl | omega) (gg_f (gf_cons rfl (gf_cons rfl (gf_cons rfl (gf_cons rfl gf_nil)))) (ct218 33 sc204 (Int32.ofInt 0) (Int32.ofInt 0) hIc204 hFc204 (in_w 0 1 (in_c 0 rfl) rfl) (in_w 0 19 i207 rfl) (in_w 0 32 (in_c 0 rfl) rfl) (m_in 33 (in_w 0 32 (in_c 0 rfl) rfl) rfl)))
  have ct59 : ∀ (k59 : Nat) (sc59 : GS) (y59_1 : Int32) (w59_109_80 : Int32), Inv sc59 → Fr fm_374 s sc59 → (In y59_1 0 160) → (w59_109_80 = sc59.2.2.1 109 80) → ((w59_109_80).toInt ≤ (y59_1).toInt) → 160 - (y59_1).toInt < (k59 : Int) → GG Z (d - 1) 374 post (gx xp) (680423 + k59 * 900) 59 (fun j => xlook j [(0, .ref (A 109)), (1, .int y59_1)]) [] (WW Z A sc59 ++ ex) 0 0 := by
    intro k59
    induction k59 with
    | zero => intro sc59 y59_1 w59_109_80 hIc59 hFc59 j59_1 v59_109_80 n59_0 mm59; exact m_no mm59 j59_1 rfl
    | succ k59 ih59 =>
      intro sc59 y59_1 w59_109_80 hIc59 hFc59 j59_1 v59_109_80 n59_0 mm59
      refine gg_w (M := 680423 + k59 * 900 + 900) gws ?_
      refine g_iload_n 60 (gd rfl) rfl rfl ?_
      refine g_sipush 160 63 (gd rfl) rfl rfl ?_
      refine g_cmp_ge 66 200 (gd rfl) rfl rfl (fun c63 => ?_) (fun c63 => ?_)
      · skip
        have i63 := r_le2 160 160 c63 (in_c 160 rfl) j59_1 rfl
        refine g_iconst 1 201 (gd rfl) rfl rfl ?_
        refine g_istore_n 202 (gd rfl) rfl (Nat.le_of_ble_eq_true rfl) ?_
        refine g_iconst 0 203 (gd rfl) rfl rfl ?_
        refine g_istore_n 204 (gd rfl) rfl (Nat.le_of_ble_eq_true rfl) ?_
        exact gg_w (by first | exact Nat.le_add_right _ _ | exact gw2 | exact gw3 | exact gwe rfl | exact gwf rfl | exact gwg rfl | exact gwh rfl | omega) (gg_f (gf_cons rfl (gf_cons rfl (gf_cons rfl gf_nil))) (ct204 21 sc59 (Int32.ofInt 1) (Int32.ofInt 0) hIc59 hFc59 (in_w 0 1 (in_c 1 rfl) rfl) (in_w 0 20 (in_c 0 rfl) rfl) (m_in 21 (in_w 0 20 (in_c 0 rfl) rfl) rfl)))
      · skip
        have i63 := r_lt1 0 159 c63 j59_1 (in_c 160 rfl) rfl
        refine g_aload_n 67 (gd rfl) rfl rfl ?_
        refine g_iload_n 68 (gd rfl) rfl rfl ?_
        refine g_callv (X := _) (As := [.int y59_1]) (r := []) (b := A 109) (q := 109) 71 (gd rfl) rfl rfl rfl rfl rfl (ww_o rfl) (Nat.le_of_ble_eq_true rfl) (mc := 0) (ms := 0) (Nat.zero_le _) (Nat.zero_le _) (P := fun v u => _) ?_ (fun e u h => h) (fun v u h => h)
        intro po68 xx68 hp68 hx68
        refine g_enter2 (k := 288) (N := 300) (by first | exact dq1 hd rfl | exact dq0 hd rfl | exact dq2 hd rfl | exact dq3 hd rfl | omega) rfl (Nat.le_of_ble_eq_true rfl) ?_
        refine g_aload_n 1 (gd rfl) rfl rfl ?_
        refine g_getA (q2 := 112) 4 (gd rfl) rfl rfl rfl rfl ?_
        refine g_aload_n 5 (gd rfl) rfl rfl ?_
        refine g_getI 8 (gd rfl) rfl rfl rfl (fun z68x5 e68x5 => ?_)
        have q68x5 : u_109_19 = z68x5 := (fr_F e_109_19 hFc59 rfl).trans e68x5.symm
        subst q68x5
        refine g_iload_n 9 (gd rfl) rfl rfl ?_
        refine g_iadd 10 (gd rfl) rfl (fun z68x9 e68x9 => ?_)
        have i68x9 := in_add 0 319 e68x9 ro_109_19 i63 rfl rfl
        refine g_baload 11 (gd rfl) rfl (n := 480) rfl (in_ix i68x9 rfl) (fun z68x10 e68x10 => ?_)
        have i68x10 := inv_I hIc59 (n := 480) (t := 3) 0 1 rfl (in_ix i68x9 rfl) rfl e68x10
        refine g_if_eq 14 43 (gd rfl) rfl rfl (fun c68x11 => ?_) (fun c68x11 => ?_)
        · skip
          have i68x11 := z_eq 0 0 c68x11 i68x10 rfl
          refine g_iconst 0 44 (gd rfl) rfl rfl ?_
          refine g_ireturn (gd rfl) rfl (nb01 (in_w 0 1 (in_c 0 rfl) rfl)) (hp68 _ _ ?_)
          show GG _ _ _ _ _ _ _ _ [.int (Int32.ofInt 0)] _ _ _
          refine g_if_eq 74 194 (gd rfl) rfl rfl (fun c71 => ?_) (fun c71 => ?_)
          · skip
            refine g_iinc 197 (gd rfl) rfl rfl (Nat.le_of_ble_eq_true rfl) (fun z194 e194 => ?_)
            have i194 := in_add 1 160 e194 i63 (in_c 1 rfl) rfl rfl
            refine g_goto 59 (gd rfl) rfl ?_
            have n59 : (w59_109_80).toInt ≤ (z194).toInt := by have a0 := oa5 ro_109_20 ro_109_19 ((inv_F hIc59 0 160 rfl v59_109_80)) i63 i194; have a5 := t_add e194 i63 (in_c 1 rfl) rfl; have a6 := oa2 ((in_c 1 rfl)) i68x9; have a8 := t_add e68x9 ro_109_19 i63 rfl; omega
            exact gg_w (by first | exact Nat.le_add_right _ _ | exact gw2 | exact gw3 | exact gwe rfl | exact gwf rfl | exact gwg rfl | exact gwh rfl | omega) (gg_f (gf_cons rfl (gf_cons rfl gf_nil)) (ih59 sc59 z194 w59_109_80 hIc59 hFc59 (in_w 0 160 i194 rfl) v59_109_80 n59 (m_up mm59 (t_add e194 i63 (in_c 1 rfl) rfl) (in_w 1 1 (in_c 1 rfl) rfl))))
          · skip
            exact zn_ne c71 (in_c 0 rfl) rfl
        · skip
          have i68x11 := z_ne 1 1 c68x11 i68x10 rfl
          refine g_aload_n 15 (gd rfl) rfl rfl ?_
          refine g_getA (q2 := 113) 18 (gd rfl) rfl rfl rfl rfl ?_
          refine g_aload_n 19 (gd rfl) rfl rfl ?_
          refine g_getI 22 (gd rfl) rfl rfl rfl (fun z68x19 e68x19 => ?_)
          have q68x19 : u_109_19 = z68x19 := (fr_F e_109_19 hFc59 rfl).trans e68x19.symm
          subst q68x19
          refine g_iload_n 23 (gd rfl) rfl rfl ?_
          refine g_iadd 24 (gd rfl) rfl (fun z68x23 e68x23 => ?_)
          have i68x23 := in_add 0 319 e68x23 ro_109_19 i63 rfl rfl
          refine g_iaload 25 (gd rfl) rfl (n := 480) rfl (in_ix i68x23 rfl) (fun z68x24 e68x24 => ?_)
          have i68x24 := inv_I hIc59 (n := 480) (t := 0) 0 31 rfl (in_ix i68x23 rfl) rfl e68x24
          refine g_aload_n 26 (gd rfl) rfl rfl ?_
          refine g_getA (q2 := 114) 29 (gd rfl) rfl rfl rfl rfl ?_
          refine g_aload_n 30 (gd rfl) rfl rfl ?_
          refine g_getI 33 (gd rfl) rfl rfl rfl (fun z68x30 e68x30 => ?_)
          have q68x30 : u_109_19 = z68x30 := (fr_F e_109_19 hFc59 rfl).trans e68x30.symm
          subst q68x30
          refine g_iload_n 34 (gd rfl) rfl rfl ?_
          refine g_iadd 35 (gd rfl) rfl (fun z68x34 e68x34 => ?_)
          have i68x34 := in_add 0 319 e68x34 ro_109_19 i63 rfl rfl
          refine g_iaload 36 (gd rfl) rfl (n := 480) rfl (in_ix i68x34 rfl) (fun z68x35 e68x35 => ?_)
          have i68x35 := inv_I hIc59 (n := 480) (t := 0) 0 31 rfl (in_ix i68x34 rfl) rfl e68x35
          refine g_cmp_eq 39 43 (gd rfl) rfl rfl (fun c68x36 => ?_) (fun c68x36 => ?_)
          · skip
            refine g_iconst 0 44 (gd rfl) rfl rfl ?_
            refine g_ireturn (gd rfl) rfl (nb01 (in_w 0 1 (in_c 0 rfl) rfl)) (hp68 _ _ ?_)
            show GG _ _ _ _ _ _ _ _ [.int (Int32.ofInt 0)] _ _ _
            refine g_if_eq 74 194 (gd rfl) rfl rfl (fun c71 => ?_) (fun c71 => ?_)
            · skip
              refine g_iinc 197 (gd rfl) rfl rfl (Nat.le_of_ble_eq_true rfl) (fun z194 e194 => ?_)
              have i194 := in_add 1 160 e194 i63 (in_c 1 rfl) rfl rfl
              refine g_goto 59 (gd rfl) rfl ?_
              have n59 : (w59_109_80).toInt ≤ (z194).toInt := by have a0 := oa5 ro_109_20 ro_109_19 ((inv_F hIc59 0 160 rfl v59_109_80)) i63 i194; have a5 := t_add e194 i63 (in_c 1 rfl) rfl; have a6 := oa2 ((in_c 1 rfl)) i68x34; have a8 := t_add e68x34 ro_109_19 i63 rfl; have a9 := in_u i68x23; have a10 := t_add e68x23 ro_109_19 i63 rfl; have a11 := in_u i68x9; have a12 := t_add e68x9 ro_109_19 i63 rfl; omega
              exact gg_w (by first | exact Nat.le_add_right _ _ | exact gw2 | exact gw3 | exact gwe rfl | exact gwf rfl | exact gwg rfl | exact gwh rfl | omega) (gg_f (gf_cons rfl (gf_cons rfl gf_nil)) (ih59 sc59 z194 w59_109_80 hIc59 hFc59 (in_w 0 160 i194 rfl) v59_109_80 n59 (m_up mm59 (t_add e194 i63 (in_c 1 rfl) rfl) (in_w 1 1 (in_c 1 rfl) rfl))))
            · skip
              exact zn_ne c71 (in_c 0 rfl) rfl
          · skip
            refine g_iconst 1 40 (gd rfl) rfl rfl ?_
            refine g_goto 44 (gd rfl) rfl ?_
            refine g_ireturn (gd rfl) rfl (nb01 (in_w 0 1 (in_c 1 rfl) rfl)) (hp68 _ _ ?_)
            show GG _ _ _ _ _ _ _ _ [.int (Int32.ofInt 1)] _ _ _
            refine g_if_eq 74 194 (gd rfl) rfl rfl (fun c71 => ?_) (fun c71 => ?_)
            · skip
              exact zn_eq c71 (in_c 1 rfl) rfl
            · skip
              refine g_aload_n 75 (gd rfl) rfl rfl ?_
              refine g_dup 76 (gd rfl) rfl rfl ?_
              refine g_getI 79 (gd rfl) rfl rfl rfl (fun z76 e76 => ?_)
              have q76 : w59_109_80 = z76 := (v59_109_80).trans e76.symm
              subst q76
              refine g_iconst 1 80 (gd rfl) rfl rfl ?_
              refine g_iadd 81 (gd rfl) rfl (fun z80 e80 => ?_)
              have i80 := in_add 1 161 e80 (inv_F hIc59 0 160 rfl v59_109_80) (in_c 1 rfl) rfl rfl
              have i81 : In z80 0 160 := by have a0 := oa5 ro_109_20 ro_109_19 ((inv_F hIc59 0 160 rfl v59_109_80)) i63 i80; have a5 := t_add e80 (inv_F hIc59 0 160 rfl v59_109_80) (in_c 1 rfl) rfl; have a6 := oa2 ((in_c 1 rfl)) i68x34; have a8 := t_add e68x34 ro_109_19 i63 rfl; have a9 := in_u i68x23; have a10 := t_add e68x23 ro_109_19 i63 rfl; have a11 := in_u i68x9; have a12 := t_add e68x9 ro_109_19 i63 rfl; exact ⟨by omega, by omega⟩
              refine g_putI 84 (gd rfl) rfl rfl rfl rfl ?_
              have hI81 := inv_sF (q := 109) (j := 80) hIc59 rfl (in_w 0 160 i81 rfl)
              refine g_aload_n 85 (gd rfl) rfl rfl ?_
              refine g_getA (q2 := 170) 88 (gd rfl) rfl rfl rfl rfl ?_
              refine g_aload_n 89 (gd rfl) rfl rfl ?_
              refine g_getA (q2 := 113) 92 (gd rfl) rfl rfl rfl rfl ?_
              refine g_aload_n 93 (gd rfl) rfl rfl ?_
              refine g_getI 96 (gd rfl) rfl rfl rfl (fun z93 e93 => ?_)
              have q93 : u_109_19 = z93 := (sF_ne rfl (fr_F e_109_19 hFc59 rfl)).trans e93.symm
              subst q93
              refine g_iload_n 97 (gd rfl) rfl rfl ?_
              refine g_iadd 98 (gd rfl) rfl (fun z97 e97 => ?_)
              have i97 := in_add 0 319 e97 ro_109_19 i63 rfl rfl
              refine g_iaload 99 (gd rfl) rfl (n := 480) rfl (in_ix i97 rfl) (fun z98 e98 => ?_)
              have i98 := inv_I hI81 (n := 480) (t := 0) 0 31 rfl (in_ix i97 rfl) rfl e98
              refine g_dup2 100 (gd rfl) rfl rfl rfl ?_
              refine g_iaload 101 (gd rfl) rfl (n := 32) rfl (in_ix i98 rfl) (fun z100 e100 => ?_)
              refine g_iconst 1 102 (gd rfl) rfl rfl ?_
              refine g_iadd 103 (gd rfl) rfl (fun z102 e102 => ?_)
              refine g_iastore 104 (gd rfl) rfl (n := 32) rfl (in_ix i98 rfl) ?_
              have hI103 := inv_sI (q := 170) (j := z98.toNatClampNeg) hI81 rfl (in_w (-2147483648) 2147483647 (i_rng z102) rfl)
              refine g_aload_n 105 (gd rfl) rfl rfl ?_
              refine g_getA (q2 := 170) 108 (gd rfl) rfl rfl rfl rfl ?_
              refine g_aload_n 109 (gd rfl) rfl rfl ?_
              refine g_getA (q2 := 114) 112 (gd rfl) rfl rfl rfl rfl ?_
              refine g_aload_n 113 (gd rfl) rfl rfl ?_
              refine g_getI 116 (gd rfl) rfl rfl rfl (fun z113 e113 => ?_)
              have q113 : u_109_19 = z113 := (sI_F (sF_ne rfl (fr_F e_109_19 hFc59 rfl))).trans e113.symm
              subst q113
              refine g_iload_n 117 (gd rfl) rfl rfl ?_
              refine g_iadd 118 (gd rfl) rfl (fun z117 e117 => ?_)
              have i117 := in_add 0 319 e117 ro_109_19 i63 rfl rfl
              refine g_iaload 119 (gd rfl) rfl (n := 480) rfl (in_ix i117 rfl) (fun z118 e118 => ?_)
              have i118 := inv_I hI103 (n := 480) (t := 0) 0 31 rfl (in_ix i117 rfl) rfl e118
              refine g_dup2 120 (gd rfl) rfl rfl rfl ?_
              refine g_iaload 121 (gd rfl) rfl (n := 32) rfl (in_ix i118 rfl) (fun z120 e120 => ?_)
              refine g_iconst 1 122 (gd rfl) rfl rfl ?_
              refine g_iadd 123 (gd rfl) rfl (fun z122 e122 => ?_)
              refine g_iastore 124 (gd rfl) rfl (n := 32) rfl (in_ix i118 rfl) ?_
              have hI123 := inv_sI (q := 170) (j := z118.toNatClampNeg) hI103 rfl (in_w (-2147483648) 2147483647 (i_rng z122) rfl)
              refine g_aload_n 125 (gd rfl) rfl rfl ?_
              refine g_getA (q2 := 171) 128 (gd rfl) rfl rfl rfl rfl ?_
              refine g_bipush 32 130 (gd rfl) rfl rfl ?_
              refine g_aload_n 131 (gd rfl) rfl rfl ?_
              refine g_getA (q2 := 113) 134 (gd rfl) rfl rfl rfl rfl ?_
              refine g_aload_n 135 (gd rfl) rfl rfl ?_
              refine g_getI 138 (gd rfl) rfl rfl rfl (fun z135 e135 => ?_)
              have q135 : u_109_19 = z135 := (sI_F (sI_F (sF_ne rfl (fr_F e_109_19 hFc59 rfl)))).trans e135.symm
              subst q135
              refine g_iload_n 139 (gd rfl) rfl rfl ?_
              refine g_iadd 140 (gd rfl) rfl (fun z139 e139 => ?_)
              have i139 := in_add 0 319 e139 ro_109_19 i63 rfl rfl
              refine g_iaload 141 (gd rfl) rfl (n := 480) rfl (in_ix i139 rfl) (fun z140 e140 => ?_)
              have i140 := inv_I hI123 (n := 480) (t := 0) 0 31 rfl (in_ix i139 rfl) rfl e140
              refine g_imul 142 (gd rfl) rfl (fun z141 e141 => ?_)
              have i141 := in_mulc 32 0 992 (Or.inl e141) i140 rfl rfl
              refine g_aload_n 143 (gd rfl) rfl rfl ?_
              refine g_getA (q2 := 114) 146 (gd rfl) rfl rfl rfl rfl ?_
              refine g_aload_n 147 (gd rfl) rfl rfl ?_
              refine g_getI 150 (gd rfl) rfl rfl rfl (fun z147 e147 => ?_)
              have q147 : u_109_19 = z147 := (sI_F (sI_F (sF_ne rfl (fr_F e_109_19 hFc59 rfl)))).trans e147.symm
              subst q147
              refine g_iload_n 151 (gd rfl) rfl rfl ?_
              refine g_iadd 152 (gd rfl) rfl (fun z151 e151 => ?_)
              have i151 := in_add 0 319 e151 ro_109_19 i63 rfl rfl
              refine g_iaload 153 (gd rfl) rfl (n := 480) rfl (in_ix i151 rfl) (fun z152 e152 => ?_)
              have i152 := inv_I hI123 (n := 480) (t := 0) 0 31 rfl (in_ix i151 rfl) rfl e152
              refine g_iadd 154 (gd rfl) rfl (fun z153 e153 => ?_)
              have i153 := in_add 0 1023 e153 i141 i152 rfl rfl
              refine g_dup2 155 (gd rfl) rfl rfl rfl ?_
              refine g_iaload 156 (gd rfl) rfl (n := 1024) rfl (in_ix i153 rfl) (fun z155 e155 => ?_)
              refine g_iconst 1 157 (gd rfl) rfl rfl ?_
              refine g_iadd 158 (gd rfl) rfl (fun z157 e157 => ?_)
              refine g_iastore 159 (gd rfl) rfl (n := 1024) rfl (in_ix i153 rfl) ?_
              have hI158 := inv_sI (q := 171) (j := z153.toNatClampNeg) hI123 rfl (in_w (-2147483648) 2147483647 (i_rng z157) rfl)
              refine g_aload_n 160 (gd rfl) rfl rfl ?_
              refine g_getA (q2 := 171) 163 (gd rfl) rfl rfl rfl rfl ?_
              refine g_bipush 32 165 (gd rfl) rfl rfl ?_
              refine g_aload_n 166 (gd rfl) rfl rfl ?_
              refine g_getA (q2 := 114) 169 (gd rfl) rfl rfl rfl rfl ?_
              refine g_aload_n 170 (gd rfl) rfl rfl ?_
              refine g_getI 173 (gd rfl) rfl rfl rfl (fun z170 e170 => ?_)
              have q170 : u_109_19 = z170 := (sI_F (sI_F (sI_F (sF_ne rfl (fr_F e_109_19 hFc59 rfl))))).trans e170.symm
              subst q170
              refine g_iload_n 174 (gd rfl) rfl rfl ?_
              refine g_iadd 175 (gd rfl) rfl (fun z174 e174 => ?_)
              have i174 := in_add 0 319 e174 ro_109_19 i63 rfl rfl
              refine g_iaload 176 (gd rfl) rfl (n := 480) rfl (in_ix i174 rfl) (fun z175 e175 => ?_)
              have i175 := inv_I hI158 (n := 480) (t := 0) 0 31 rfl (in_ix i174 rfl) rfl e175
              refine g_imul 177 (gd rfl) rfl (fun z176 e176 => ?_)
              have i176 := in_mulc 32 0 992 (Or.inl e176) i175 rfl rfl
              refine g_aload_n 178 (gd rfl) rfl rfl ?_
              refine g_getA (q2 := 113) 181 (gd rfl) rfl rfl rfl rfl ?_
              refine g_aload_n 182 (gd rfl) rfl rfl ?_
              refine g_getI 185 (gd rfl) rfl rfl rfl (fun z182 e182 => ?_)
              have q182 : u_109_19 = z182 := (sI_F (sI_F (sI_F (sF_ne rfl (fr_F e_109_19 hFc59 rfl))))).trans e182.symm
              subst q182
              refine g_iload_n 186 (gd rfl) rfl rfl ?_
              refine g_iadd 187 (gd rfl) rfl (fun z186 e186 => ?_)
              have i186 := in_add 0 319 e186 ro_109_19 i63 rfl rfl
              refine g_iaload 188 (gd rfl) rfl (n := 480) rfl (in_ix i186 rfl) (fun z187 e187 => ?_)
              have i187 := inv_I hI158 (n := 480) (t := 0) 0 31 rfl (in_ix i186 rfl) rfl e187
              refine g_iadd 189 (gd rfl) rfl (fun z188 e188 => ?_)
              have i188 := in_add 0 1023 e188 i176 i187 rfl rfl
              refine g_dup2 190 (gd rfl) rfl rfl rfl ?_
              refine g_iaload 191 (gd rfl) rfl (n := 1024) rfl (in_ix i188 rfl) (fun z190 e190 => ?_)
              refine g_iconst 1 192 (gd rfl) rfl rfl ?_
              refine g_iadd 193 (gd rfl) rfl (fun z192 e192 => ?_)
              refine g_iastore 194 (gd rfl) rfl (n := 1024) rfl (in_ix i188 rfl) ?_
              have hI193 := inv_sI (q := 171) (j := z188.toNatClampNeg) hI158 rfl (in_w (-2147483648) 2147483647 (i_rng z192) rfl)
              refine g_iinc 197 (gd rfl) rfl rfl (Nat.le_of_ble_eq_true rfl) (fun z194 e194 => ?_)
              have i194 := in_add 1 160 e194 i63 (in_c 1 rfl) rfl rfl
              refine g_goto 59 (gd rfl) rfl ?_
              have v59 : z80 = (sI (sI (sI (sI (sF sc59 109 80 z80) 170 z98.toNatClampNeg z102) 170 z118.toNatClampNeg z122) 171 z153.toNatClampNeg z157) 171 z188.toNatClampNeg z192).2.2.1 109 80 := sI_F (sI_F (sI_F (sI_F (sF_get))))
              have n59 : (z80).toInt ≤ (z194).toInt := by have a0 := oa5 ro_109_20 ro_109_19 ((inv_F hIc59 0 160 rfl v59_109_80)) i63 i194; have a5 := t_add e194 i63 (in_c 1 rfl) rfl; have a6 := oa2 ((in_c 1 rfl)) i81; have a8 := t_add e80 (inv_F hIc59 0 160 rfl v59_109_80) (in_c 1 rfl) rfl; have a9 := in_u i188; have a10 := t_add e188 i176 i187 rfl; have a11 := oa2 i187 i176; have a13 := (t_mulc 32 (Or.inl e176) i175 rfl).1; have a14 := oa2 i175 i186; have a16 := t_add e186 ro_109_19 i63 rfl; have a17 := in_u i174; have a18 := t_add e174 ro_109_19 i63 rfl; have a19 := in_u i153; have a20 := t_add e153 i141 i152 rfl; have a21 := oa2 i152 i141; have a23 := (t_mulc 32 (Or.inl e141) i140 rfl).1; have a24 := oa2 i140 i151; have a26 := t_add e151 ro_109_19 i63 rfl; have a27 := in_u i139; have a28 := t_add e139 ro_109_19 i63 rfl; have a29 := in_u i117; have a30 := t_add e117 ro_109_19 i63 rfl; have a31 := in_u i97; have a32 := t_add e97 ro_109_19 i63 rfl; have a33 := in_u i68x34; have a34 := t_add e68x34 ro_109_19 i63 rfl; have a35 := in_u i68x23; have a36 := t_add e68x23 ro_109_19 i63 rfl; have a37 := in_u i68x9; have a38 := t_add e68x9 ro_109_19 i63 rfl; omega
              exact gg_w (by first | exact Nat.le_add_right _ _ | exact gw2 | exact gw3 | exact gwe rfl | exact gwf rfl | exact gwg rfl | exact gwh rfl | omega) (gg_f (gf_cons rfl (gf_cons rfl gf_nil)) (ih59 (sI (sI (sI (sI (sF sc59 109 80 z80) 170 z98.toNatClampNeg z102) 170 z118.toNatClampNeg z122) 171 z153.toNatClampNeg z157) 171 z188.toNatClampNeg z192) z194 z80 hI193 (fr_sI rfl (fr_sI rfl (fr_sI rfl (fr_sI rfl (fr_sF rfl hFc59))))) (in_w 0 160 i194 rfl) v59 n59 (m_up mm59 (t_add e194 i63 (in_c 1 rfl) rfl) (in_w 1 1 (in_c 1 rfl) rfl))))
  have ct29 : ∀ (k29 : Nat) (sc29 : GS) (y29_1 : Int32) (w29_109_80 : Int32), Inv sc29 → Fr fm_374 s sc29 → (In y29_1 0 32) → (w29_109_80 = sc29.2.2.1 109 80) → ((w29_109_80).toInt = 0) → 32 - (y29_1).toInt < (k29 : Int) → GG Z (d - 1) 374 post (gx xp) (825324 + k29 * 900) 29 (fun j => xlook j [(0, .ref (A 109)), (1, .int y29_1)]) [] (WW Z A sc29 ++ ex) 0 0 := by
    intro k29
    induction k29 with
    | zero => intro sc29 y29_1 w29_109_80 hIc29 hFc29 j29_1 v29_109_80 n29_0 mm29; exact m_no mm29 j29_1 rfl
    | succ k29 ih29 =>
      intro sc29 y29_1 w29_109_80 hIc29 hFc29 j29_1 v29_109_80 n29_0 mm29
      refine gg_w (M := 825324 + k29 * 900 + 900) gws ?_
      refine g_iload_n 30 (gd rfl) rfl rfl ?_
      refine g_aload_n 31 (gd rfl) rfl rfl ?_
      refine g_getI 34 (gd rfl) rfl rfl rfl (fun z31 e31 => ?_)
      have q31 : u_109_20 = z31 := (fr_F e_109_20 hFc29 rfl).trans e31.symm
      subst q31
      refine g_cmp_ge 37 57 (gd rfl) rfl rfl (fun c34 => ?_) (fun c34 => ?_)
      · skip
        refine g_iconst 0 58 (gd rfl) rfl rfl ?_
        refine g_istore_n 59 (gd rfl) rfl (Nat.le_of_ble_eq_true rfl) ?_
        have n59 : (w29_109_80).toInt ≤ ((Int32.ofInt 0)).toInt := by have a0 := oa5 ro_109_20 ro_109_19 ((inv_F hIc29 0 160 rfl v29_109_80)) j29_1 ((in_c 0 rfl)); omega
        exact gg_w (by first | exact Nat.le_add_right _ _ | exact gw2 | exact gw3 | exact gwe rfl | exact gwf rfl | exact gwg rfl | exact gwh rfl | omega) (gg_f (gf_cons rfl (gf_cons rfl gf_nil)) (ct59 161 sc29 (Int32.ofInt 0) w29_109_80 hIc29 hFc29 (in_w 0 160 (in_c 0 rfl) rfl) v29_109_80 n59 (m_in 161 (in_w 0 160 (in_c 0 rfl) rfl) rfl)))
      · skip
        have i34 := r_lt1 0 31 c34 j29_1 ro_109_20 rfl
        have i34a := r_lt2 1 32 c34 j29_1 ro_109_20 rfl
        refine g_aload_n 38 (gd rfl) rfl rfl ?_
        refine g_getA (q2 := 170) 41 (gd rfl) rfl rfl rfl rfl ?_
        refine g_iload_n 42 (gd rfl) rfl rfl ?_
        refine g_iconst 0 43 (gd rfl) rfl rfl ?_
        refine g_iastore 44 (gd rfl) rfl (n := 32) rfl (in_ix i34 rfl) ?_
        have hI43 := inv_sI (q := 170) (j := y29_1.toNatClampNeg) hIc29 rfl (in_w (-2147483648) 2147483647 (in_c 0 rfl) rfl)
        refine g_aload_n 45 (gd rfl) rfl rfl ?_
        refine g_getA (q2 := 169) 48 (gd rfl) rfl rfl rfl rfl ?_
        refine g_iload_n 49 (gd rfl) rfl rfl ?_
        refine g_iload_n 50 (gd rfl) rfl rfl ?_
        refine g_iastore 51 (gd rfl) rfl (n := 32) rfl (in_ix i34 rfl) ?_
        have hI50 := inv_sI (q := 169) (j := y29_1.toNatClampNeg) hI43 rfl (in_w (-2147483648) 2147483647 i34 rfl)
        refine g_iinc 54 (gd rfl) rfl rfl (Nat.le_of_ble_eq_true rfl) (fun z51 e51 => ?_)
        have i51 := in_add 1 32 e51 i34 (in_c 1 rfl) rfl rfl
        refine g_goto 29 (gd rfl) rfl ?_
        have v29 : w29_109_80 = (sI (sI sc29 170 y29_1.toNatClampNeg (Int32.ofInt 0)) 169 y29_1.toNatClampNeg y29_1).2.2.1 109 80 := sI_F (sI_F (v29_109_80))
        have n29 : (w29_109_80).toInt = 0 := by first | exact n29_0 | (have a0 := oa5 i34a ro_109_19 ((inv_F hIc29 0 160 rfl v29_109_80)) i34 i51; have a5 := t_add e51 i34 (in_c 1 rfl) rfl; have a6 := in_u ((in_c 1 rfl)); omega)
        exact gg_w (by first | exact Nat.le_add_right _ _ | exact gw2 | exact gw3 | exact gwe rfl | exact gwf rfl | exact gwg rfl | exact gwh rfl | omega) (gg_f (gf_cons rfl (gf_cons rfl gf_nil)) (ih29 (sI (sI sc29 170 y29_1.toNatClampNeg (Int32.ofInt 0)) 169 y29_1.toNatClampNeg y29_1) z51 w29_109_80 hI50 (fr_sI rfl (fr_sI rfl hFc29)) (in_w 0 32 i51 rfl) v29 n29 (m_up mm29 (t_add e51 i34 (in_c 1 rfl) rfl) (in_w 1 1 (in_c 1 rfl) rfl))))
  have ct7 : ∀ (k7 : Nat) (sc7 : GS) (y7_1 : Int32) (w7_109_80 : Int32), Inv sc7 → Fr fm_374 s sc7 → (In y7_1 0 1024) → (w7_109_80 = sc7.2.2.1 109 80) → ((w7_109_80).toInt = 0) → 1024 - (y7_1).toInt < (k7 : Int) → GG Z (d - 1) 374 post (gx xp) (855025 + k7 * 900) 7 (fun j => xlook j [(0, .ref (A 109)), (1, .int y7_1)]) [] (WW Z A sc7 ++ ex) 0 0 := by
    intro k7
    induction k7 with
    | zero => intro sc7 y7_1 w7_109_80 hIc7 hFc7 j7_1 v7_109_80 n7_0 mm7; exact m_no mm7 j7_1 rfl
    | succ k7 ih7 =>
      intro sc7 y7_1 w7_109_80 hIc7 hFc7 j7_1 v7_109_80 n7_0 mm7
      refine gg_w (M := 855025 + k7 * 900 + 900) gws ?_
      refine g_iload_n 8 (gd rfl) rfl rfl ?_
      refine g_sipush 1024 11 (gd rfl) rfl rfl ?_
      refine g_cmp_ge 14 27 (gd rfl) rfl rfl (fun c11 => ?_) (fun c11 => ?_)
      · skip
        have i11 := r_le2 1024 1024 c11 (in_c 1024 rfl) j7_1 rfl
        refine g_iconst 0 28 (gd rfl) rfl rfl ?_
        refine g_istore_n 29 (gd rfl) rfl (Nat.le_of_ble_eq_true rfl) ?_
        have n29 : (w7_109_80).toInt = 0 := by first | exact n7_0 | (have a0 := oa5 ro_109_20 ro_109_19 ((inv_F hIc7 0 160 rfl v7_109_80)) i11 ((in_c 0 rfl)); omega)
        exact gg_w (by first | exact Nat.le_add_right _ _ | exact gw2 | exact gw3 | exact gwe rfl | exact gwf rfl | exact gwg rfl | exact gwh rfl | omega) (gg_f (gf_cons rfl (gf_cons rfl gf_nil)) (ct29 33 sc7 (Int32.ofInt 0) w7_109_80 hIc7 hFc7 (in_w 0 32 (in_c 0 rfl) rfl) v7_109_80 n29 (m_in 33 (in_w 0 32 (in_c 0 rfl) rfl) rfl)))
      · skip
        have i11 := r_lt1 0 1023 c11 j7_1 (in_c 1024 rfl) rfl
        refine g_aload_n 15 (gd rfl) rfl rfl ?_
        refine g_getA (q2 := 171) 18 (gd rfl) rfl rfl rfl rfl ?_
        refine g_iload_n 19 (gd rfl) rfl rfl ?_
        refine g_iconst 0 20 (gd rfl) rfl rfl ?_
        refine g_iastore 21 (gd rfl) rfl (n := 1024) rfl (in_ix i11 rfl) ?_
        have hI20 := inv_sI (q := 171) (j := y7_1.toNatClampNeg) hIc7 rfl (in_w (-2147483648) 2147483647 (in_c 0 rfl) rfl)
        refine g_iinc 24 (gd rfl) rfl rfl (Nat.le_of_ble_eq_true rfl) (fun z21 e21 => ?_)
        have i21 := in_add 1 1024 e21 i11 (in_c 1 rfl) rfl rfl
        refine g_goto 7 (gd rfl) rfl ?_
        have v7 : w7_109_80 = (sI sc7 171 y7_1.toNatClampNeg (Int32.ofInt 0)).2.2.1 109 80 := sI_F (v7_109_80)
        have n7 : (w7_109_80).toInt = 0 := by first | exact n7_0 | (have a0 := oa5 ro_109_20 ro_109_19 ((inv_F hIc7 0 160 rfl v7_109_80)) i11 i21; have a5 := t_add e21 i11 (in_c 1 rfl) rfl; have a6 := in_u ((in_c 1 rfl)); omega)
        exact gg_w (by first | exact Nat.le_add_right _ _ | exact gw2 | exact gw3 | exact gwe rfl | exact gwf rfl | exact gwg rfl | exact gwh rfl | omega) (gg_f (gf_cons rfl (gf_cons rfl gf_nil)) (ih7 (sI sc7 171 y7_1.toNatClampNeg (Int32.ofInt 0)) z21 w7_109_80 hI20 (fr_sI rfl hFc7) (in_w 0 1024 i21 rfl) v7 n7 (m_up mm7 (t_add e21 i11 (in_c 1 rfl) rfl) (in_w 1 1 (in_c 1 rfl) rfl))))
  refine g_enter2 (k := 374) (N := 1778425) (by first | exact dq1 hd rfl | exact dq0 hd rfl | exact dq2 hd rfl | exact dq3 hd rfl | omega) rfl (Nat.le_of_ble_eq_true rfl) ?_
  refine g_aload_n 1 (gd rfl) rfl rfl ?_
  refine g_iconst 0 2 (gd rfl) rfl rfl ?_
  refine g_putI 5 (gd rfl) rfl rfl rfl rfl ?_
  have hI2 := inv_sF (q := 109) (j := 80) hI rfl (in_w 0 160 (in_c 0 rfl) rfl)
  refine g_iconst 0 6 (gd rfl) rfl rfl ?_
  refine g_istore_n 7 (gd rfl) rfl (Nat.le_of_ble_eq_true rfl) ?_
  have v7 : (Int32.ofInt 0) = (sF s 109 80 (Int32.ofInt 0)).2.2.1 109 80 := sF_get
  have n7 : ((Int32.ofInt 0)).toInt = 0 := by have a0 := oa3 ro_109_20 ro_109_19 ((in_c 0 rfl)); omega
  exact gg_w (by first | exact Nat.le_of_ble_eq_true rfl | omega) (gg_f (gf_cons rfl (gf_cons rfl gf_nil)) (ct7 1025 (sF s 109 80 (Int32.ofInt 0)) (Int32.ofInt 0) (Int32.ofInt 0) hI2 (fr_sF rfl fr_rf) (in_w 0 1024 (in_c 0 rfl) rfl) v7 n7 (m_in 1025 (in_w 0 1024 (in_c 0 rfl) rfl) rfl)))

def fm_378 : FM := ([169, 170, 171], [], [(109, 0), (109, 80)], [])
/-- GraphHouseModel.group -/
theorem k_378 {Z : AmZ} {A : Nat → Nat} {s : GS} {ex : va_W} {d : Nat} {X : AmX} {x1 : Int32} (hd : 6 ≤ d) (hI : Inv s)  : GC Z d 378 [.ref (A 109), .int x1] (WW Z A s ++ ex) 0 0 (fun v u => ∃ t : GS, Inv t ∧ Fr fm_378 s t ∧ ∃ z : Int32, v = some (.int z) ∧ u = WW Z A t ++ ex ∧ In z 0 40) X := by
  intro post xp hP hX
  obtain ⟨u_109_20, e_109_20⟩ : ∃ w, w = s.2.2.1 109 20 := ⟨_, rfl⟩
  have ro_109_20 := inv_F hI 0 32 rfl e_109_20
  refine g_enter2 (k := 378) (N := 900) (by first | exact dq1 hd rfl | exact dq0 hd rfl | exact dq2 hd rfl | exact dq3 hd rfl | omega) rfl (Nat.le_of_ble_eq_true rfl) ?_
  refine g_aload_n 1 (gd rfl) rfl rfl ?_
  refine g_aload_n 2 (gd rfl) rfl rfl ?_
  refine g_iload_n 3 (gd rfl) rfl rfl ?_
  refine g_callv (X := _) (As := [.int x1]) (r := [.ref (A 109)]) (b := A 109) (q := 109) 6 (gd rfl) rfl rfl rfl rfl rfl (ww_o rfl) (Nat.le_of_ble_eq_true rfl) (mc := 0) (ms := 0) (Nat.zero_le _) (Nat.zero_le _) (P := fun v u => _) ?_ (fun e u h => h) (fun v u h => h)
  intro po3 xx3 hp3 hx3
  refine g_enter2 (k := 272) (N := 300) (by first | exact dq1 hd rfl | exact dq0 hd rfl | exact dq2 hd rfl | exact dq3 hd rfl | omega) rfl (Nat.le_of_ble_eq_true rfl) ?_
  refine g_iload_n 1 (gd rfl) rfl rfl ?_
  refine g_if_lt 4 16 (gd rfl) rfl rfl (fun c3x1 => ?_) (fun c3x1 => ?_)
  · skip
    have i3x1 := z_lt (-2147483648) (-1) c3x1 (i_rng x1) rfl
    refine g_iconst 0 17 (gd rfl) rfl rfl ?_
    refine g_ireturn (gd rfl) rfl (nb01 (in_w 0 1 (in_c 0 rfl) rfl)) (hp3 _ _ ?_)
    show GG _ _ _ _ _ _ _ _ [.int (Int32.ofInt 0), .ref (A 109)] _ _ _
    refine g_callv (X := _) (As := [.int (Int32.ofInt 0)]) (r := []) (b := A 109) (q := 109) 9 (gd rfl) rfl rfl rfl rfl rfl (ww_o rfl) (Nat.le_of_ble_eq_true rfl) (mc := 0) (ms := 0) (Nat.zero_le _) (Nat.zero_le _) (P := fun v u => _) ?_ (fun e u h => h) (fun v u h => h)
    intro po6 xx6 hp6 hx6
    refine g_enter2 (k := 271) (N := 300) (by first | exact dq1 hd rfl | exact dq0 hd rfl | exact dq2 hd rfl | exact dq3 hd rfl | omega) rfl (Nat.le_of_ble_eq_true rfl) ?_
    refine g_aload_n 1 (gd rfl) rfl rfl ?_
    refine g_iload_n 2 (gd rfl) rfl rfl ?_
    refine g_iconst 1 3 (gd rfl) rfl rfl ?_
    refine g_callv (X := _) (As := [.int (Int32.ofInt 0), .int (Int32.ofInt 1)]) (r := []) (b := A 109) (q := 109) 6 (gd rfl) rfl rfl rfl rfl rfl (ww_o rfl) (Nat.le_of_ble_eq_true rfl) (mc := 0) (ms := 0) (Nat.zero_le _) (Nat.zero_le _) (P := fun v u => _) ?_ (fun e u h => h) (fun v u h => h)
    intro po6x3 xx6x3 hp6x3 hx6x3
    refine g_enter2 (k := 270) (N := 300) (by first | exact dq1 hd rfl | exact dq0 hd rfl | exact dq2 hd rfl | exact dq3 hd rfl | omega) rfl (Nat.le_of_ble_eq_true rfl) ?_
    refine g_aload_n 1 (gd rfl) rfl rfl ?_
    refine g_iload_n 2 (gd rfl) rfl rfl ?_
    refine g_if_ne 5 9 (gd rfl) rfl rfl (fun c6x3x2 => ?_) (fun c6x3x2 => ?_)
    · skip
      exact zn_ne c6x3x2 (in_c 0 rfl) rfl
    · skip
      refine g_iconst 1 6 (gd rfl) rfl rfl ?_
      refine g_goto 18 (gd rfl) rfl ?_
      refine g_putI 21 (gd rfl) rfl rfl rfl rfl ?_
      have hI6x3x18 := inv_sF (q := 109) (j := 0) hI rfl (in_w 0 2 (in_c 1 rfl) rfl)
      refine g_aload_n 22 (gd rfl) rfl rfl ?_
      refine g_getI 25 (gd rfl) rfl rfl rfl (fun z6x3x22 e6x3x22 => ?_)
      have q6x3x22 : (Int32.ofInt 1) = z6x3x22 := (sF_get).trans e6x3x22.symm
      subst q6x3x22
      refine g_if_le 28 32 (gd rfl) rfl rfl (fun c6x3x25 => ?_) (fun c6x3x25 => ?_)
      · skip
        exact zn_le c6x3x25 (in_c 1 rfl) rfl
      · skip
        refine g_iconst 1 29 (gd rfl) rfl rfl ?_
        refine g_goto 33 (gd rfl) rfl ?_
        refine g_ireturn (gd rfl) rfl (nb01 (in_w 0 1 (in_c 1 rfl) rfl)) (hp6x3 _ _ ?_)
        show GG _ _ _ _ _ _ _ _ [.int (Int32.ofInt 1)] _ _ _
        refine g_ireturn (gd rfl) rfl (nb01 (in_w 0 1 (in_c 1 rfl) rfl)) (hp6 _ _ ?_)
        show GG _ _ _ _ _ _ _ _ [.int (Int32.ofInt 1)] _ _ _
        refine g_if_eq 12 14 (gd rfl) rfl rfl (fun c9 => ?_) (fun c9 => ?_)
        · skip
          exact zn_eq c9 (in_c 1 rfl) rfl
        · skip
          refine g_iconst 0 13 (gd rfl) rfl rfl ?_
          exact g_ireturn (gd rfl) rfl rfl (hP _ _ ⟨(sF s 109 0 (Int32.ofInt 1)), hI6x3x18, (fr_sF rfl fr_rf), (Int32.ofInt 0), rfl, rfl, in_w 0 40 (in_c 0 rfl) rfl⟩)
  · skip
    have i3x1 := z_ge 0 2147483647 c3x1 (i_rng x1) rfl
    refine g_iload_n 5 (gd rfl) rfl rfl ?_
    refine g_aload_n 6 (gd rfl) rfl rfl ?_
    refine g_getI 9 (gd rfl) rfl rfl rfl (fun z3x6 e3x6 => ?_)
    have q3x6 : u_109_20 = z3x6 := (e_109_20).trans e3x6.symm
    subst q3x6
    refine g_cmp_ge 12 16 (gd rfl) rfl rfl (fun c3x9 => ?_) (fun c3x9 => ?_)
    · skip
      refine g_iconst 0 17 (gd rfl) rfl rfl ?_
      refine g_ireturn (gd rfl) rfl (nb01 (in_w 0 1 (in_c 0 rfl) rfl)) (hp3 _ _ ?_)
      show GG _ _ _ _ _ _ _ _ [.int (Int32.ofInt 0), .ref (A 109)] _ _ _
      refine g_callv (X := _) (As := [.int (Int32.ofInt 0)]) (r := []) (b := A 109) (q := 109) 9 (gd rfl) rfl rfl rfl rfl rfl (ww_o rfl) (Nat.le_of_ble_eq_true rfl) (mc := 0) (ms := 0) (Nat.zero_le _) (Nat.zero_le _) (P := fun v u => _) ?_ (fun e u h => h) (fun v u h => h)
      intro po6 xx6 hp6 hx6
      refine g_enter2 (k := 271) (N := 300) (by first | exact dq1 hd rfl | exact dq0 hd rfl | exact dq2 hd rfl | exact dq3 hd rfl | omega) rfl (Nat.le_of_ble_eq_true rfl) ?_
      refine g_aload_n 1 (gd rfl) rfl rfl ?_
      refine g_iload_n 2 (gd rfl) rfl rfl ?_
      refine g_iconst 1 3 (gd rfl) rfl rfl ?_
      refine g_callv (X := _) (As := [.int (Int32.ofInt 0), .int (Int32.ofInt 1)]) (r := []) (b := A 109) (q := 109) 6 (gd rfl) rfl rfl rfl rfl rfl (ww_o rfl) (Nat.le_of_ble_eq_true rfl) (mc := 0) (ms := 0) (Nat.zero_le _) (Nat.zero_le _) (P := fun v u => _) ?_ (fun e u h => h) (fun v u h => h)
      intro po6x3 xx6x3 hp6x3 hx6x3
      refine g_enter2 (k := 270) (N := 300) (by first | exact dq1 hd rfl | exact dq0 hd rfl | exact dq2 hd rfl | exact dq3 hd rfl | omega) rfl (Nat.le_of_ble_eq_true rfl) ?_
      refine g_aload_n 1 (gd rfl) rfl rfl ?_
      refine g_iload_n 2 (gd rfl) rfl rfl ?_
      refine g_if_ne 5 9 (gd rfl) rfl rfl (fun c6x3x2 => ?_) (fun c6x3x2 => ?_)
      · skip
        exact zn_ne c6x3x2 (in_c 0 rfl) rfl
      · skip
        refine g_iconst 1 6 (gd rfl) rfl rfl ?_
        refine g_goto 18 (gd rfl) rfl ?_
        refine g_putI 21 (gd rfl) rfl rfl rfl rfl ?_
        have hI6x3x18 := inv_sF (q := 109) (j := 0) hI rfl (in_w 0 2 (in_c 1 rfl) rfl)
        refine g_aload_n 22 (gd rfl) rfl rfl ?_
        refine g_getI 25 (gd rfl) rfl rfl rfl (fun z6x3x22 e6x3x22 => ?_)
        have q6x3x22 : (Int32.ofInt 1) = z6x3x22 := (sF_get).trans e6x3x22.symm
        subst q6x3x22
        refine g_if_le 28 32 (gd rfl) rfl rfl (fun c6x3x25 => ?_) (fun c6x3x25 => ?_)
        · skip
          exact zn_le c6x3x25 (in_c 1 rfl) rfl
        · skip
          refine g_iconst 1 29 (gd rfl) rfl rfl ?_
          refine g_goto 33 (gd rfl) rfl ?_
          refine g_ireturn (gd rfl) rfl (nb01 (in_w 0 1 (in_c 1 rfl) rfl)) (hp6x3 _ _ ?_)
          show GG _ _ _ _ _ _ _ _ [.int (Int32.ofInt 1)] _ _ _
          refine g_ireturn (gd rfl) rfl (nb01 (in_w 0 1 (in_c 1 rfl) rfl)) (hp6 _ _ ?_)
          show GG _ _ _ _ _ _ _ _ [.int (Int32.ofInt 1)] _ _ _
          refine g_if_eq 12 14 (gd rfl) rfl rfl (fun c9 => ?_) (fun c9 => ?_)
          · skip
            exact zn_eq c9 (in_c 1 rfl) rfl
          · skip
            refine g_iconst 0 13 (gd rfl) rfl rfl ?_
            exact g_ireturn (gd rfl) rfl rfl (hP _ _ ⟨(sF s 109 0 (Int32.ofInt 1)), hI6x3x18, (fr_sF rfl fr_rf), (Int32.ofInt 0), rfl, rfl, in_w 0 40 (in_c 0 rfl) rfl⟩)
    · skip
      have i3x9 := r_lt1 0 31 c3x9 i3x1 ro_109_20 rfl
      have i3x9a := r_lt2 1 32 c3x9 i3x1 ro_109_20 rfl
      refine g_iconst 1 13 (gd rfl) rfl rfl ?_
      refine g_goto 17 (gd rfl) rfl ?_
      refine g_ireturn (gd rfl) rfl (nb01 (in_w 0 1 (in_c 1 rfl) rfl)) (hp3 _ _ ?_)
      show GG _ _ _ _ _ _ _ _ [.int (Int32.ofInt 1), .ref (A 109)] _ _ _
      refine g_callv (X := _) (As := [.int (Int32.ofInt 1)]) (r := []) (b := A 109) (q := 109) 9 (gd rfl) rfl rfl rfl rfl rfl (ww_o rfl) (Nat.le_of_ble_eq_true rfl) (mc := 0) (ms := 0) (Nat.zero_le _) (Nat.zero_le _) (P := fun v u => _) ?_ (fun e u h => h) (fun v u h => h)
      intro po6 xx6 hp6 hx6
      refine g_enter2 (k := 271) (N := 300) (by first | exact dq1 hd rfl | exact dq0 hd rfl | exact dq2 hd rfl | exact dq3 hd rfl | omega) rfl (Nat.le_of_ble_eq_true rfl) ?_
      refine g_aload_n 1 (gd rfl) rfl rfl ?_
      refine g_iload_n 2 (gd rfl) rfl rfl ?_
      refine g_iconst 1 3 (gd rfl) rfl rfl ?_
      refine g_callv (X := _) (As := [.int (Int32.ofInt 1), .int (Int32.ofInt 1)]) (r := []) (b := A 109) (q := 109) 6 (gd rfl) rfl rfl rfl rfl rfl (ww_o rfl) (Nat.le_of_ble_eq_true rfl) (mc := 0) (ms := 0) (Nat.zero_le _) (Nat.zero_le _) (P := fun v u => _) ?_ (fun e u h => h) (fun v u h => h)
      intro po6x3 xx6x3 hp6x3 hx6x3
      refine g_enter2 (k := 270) (N := 300) (by first | exact dq1 hd rfl | exact dq0 hd rfl | exact dq2 hd rfl | exact dq3 hd rfl | omega) rfl (Nat.le_of_ble_eq_true rfl) ?_
      refine g_aload_n 1 (gd rfl) rfl rfl ?_
      refine g_iload_n 2 (gd rfl) rfl rfl ?_
      refine g_if_ne 5 9 (gd rfl) rfl rfl (fun c6x3x2 => ?_) (fun c6x3x2 => ?_)
      · skip
        refine g_iload_n 10 (gd rfl) rfl rfl ?_
        refine g_if_ne 13 17 (gd rfl) rfl rfl (fun c6x3x10 => ?_) (fun c6x3x10 => ?_)
        · skip
          refine g_iconst 0 18 (gd rfl) rfl rfl ?_
          refine g_putI 21 (gd rfl) rfl rfl rfl rfl ?_
          have hI6x3x18 := inv_sF (q := 109) (j := 0) hI rfl (in_w 0 2 (in_c 0 rfl) rfl)
          refine g_aload_n 22 (gd rfl) rfl rfl ?_
          refine g_getI 25 (gd rfl) rfl rfl rfl (fun z6x3x22 e6x3x22 => ?_)
          have q6x3x22 : (Int32.ofInt 0) = z6x3x22 := (sF_get).trans e6x3x22.symm
          subst q6x3x22
          refine g_if_le 28 32 (gd rfl) rfl rfl (fun c6x3x25 => ?_) (fun c6x3x25 => ?_)
          · skip
            refine g_iconst 0 33 (gd rfl) rfl rfl ?_
            refine g_ireturn (gd rfl) rfl (nb01 (in_w 0 1 (in_c 0 rfl) rfl)) (hp6x3 _ _ ?_)
            show GG _ _ _ _ _ _ _ _ [.int (Int32.ofInt 0)] _ _ _
            refine g_ireturn (gd rfl) rfl (nb01 (in_w 0 1 (in_c 0 rfl) rfl)) (hp6 _ _ ?_)
            show GG _ _ _ _ _ _ _ _ [.int (Int32.ofInt 0)] _ _ _
            refine g_if_eq 12 14 (gd rfl) rfl rfl (fun c9 => ?_) (fun c9 => ?_)
            · skip
              refine g_aload_n 15 (gd rfl) rfl rfl ?_
              refine g_callv (X := _) (As := []) (r := []) (b := A 109) (q := 109) 18 (gd rfl) rfl rfl rfl rfl rfl (ww_o rfl) (Nat.le_of_ble_eq_true rfl) (Nat.zero_le _) (Nat.zero_le _) (k_374 (by first | exact dq1 hd rfl | exact dq0 hd rfl | exact dq2 hd rfl | exact dq3 hd rfl | omega) hI6x3x18 ) (fun e u h => h) (fun v u h => ?_)
              obtain ⟨s15, hI15, hF15, rfl, rfl⟩ := h
              show GG _ _ _ _ _ _ _ _ [] _ _ _
              refine g_aload_n 19 (gd rfl) rfl rfl ?_
              refine g_aload_n 20 (gd rfl) rfl rfl ?_
              refine g_getA (q2 := 169) 23 (gd rfl) rfl rfl rfl rfl ?_
              refine g_iload_n 24 (gd rfl) rfl rfl ?_
              refine g_iaload 25 (gd rfl) rfl (n := 32) rfl (in_ix i3x9 rfl) (fun z24 e24 => ?_)
              refine g_iconst (-1) 26 (gd rfl) rfl rfl ?_
              refine g_callv (X := _) (As := [.int z24, .int (Int32.ofInt (-1))]) (r := []) (b := A 109) (q := 109) 29 (gd rfl) rfl rfl rfl rfl rfl (ww_o rfl) (Nat.le_of_ble_eq_true rfl) (Nat.zero_le _) (Nat.zero_le _) (k_375 (by first | exact dq1 hd rfl | exact dq0 hd rfl | exact dq2 hd rfl | exact dq3 hd rfl | omega) hI15 (in_w (-1) 31 (in_c (-1) rfl) rfl)) (fun e u h => h) (fun v u h => ?_)
              obtain ⟨z26, rfl, rfl, i26, p26⟩ := h
              show GG _ _ _ _ _ _ _ _ [.int z26] _ _ _
              exact g_ireturn (gd rfl) rfl rfl (hP _ _ ⟨s15, hI15, (fr_tr rfl (fr_sF rfl fr_rf) hF15), z26, rfl, rfl, in_w 0 40 i26 rfl⟩)
            · skip
              exact zn_ne c9 (in_c 0 rfl) rfl
          · skip
            exact zn_gt c6x3x25 (in_c 0 rfl) rfl
        · skip
          exact zn_eq c6x3x10 (in_c 1 rfl) rfl
      · skip
        exact zn_eq c6x3x2 (in_c 1 rfl) rfl

def fm_379 : FM := ([169, 170, 171], [], [(109, 0), (109, 80)], [])
/-- GraphHouseModel.gain -/
theorem k_379 {Z : AmZ} {A : Nat → Nat} {s : GS} {ex : va_W} {d : Nat} {X : AmX}  (hd : 6 ≤ d) (hI : Inv s)  : GC Z d 379 [.ref (A 109)] (WW Z A s ++ ex) 0 0 (fun v u => ∃ t : GS, Inv t ∧ Fr fm_379 s t ∧ ∃ z : Int64, v = some (.long z) ∧ u = WW Z A t ++ ex) X := by
  intro post xp hP hX
  obtain ⟨u_109_20, e_109_20⟩ : ∃ w, w = s.2.2.1 109 20 := ⟨_, rfl⟩
  have ro_109_20 := inv_F hI 0 32 rfl e_109_20
  have ct13 : ∀ (k13 : Nat) (sc13 : GS) (y13_1 : Int64) (y13_3 : Int32), Inv sc13 → Fr fm_379 s sc13 → (In y13_3 0 32) → 32 - (y13_3).toInt < (k13 : Int) → GG Z (d - 1) 379 post (gx xp) (1 + k13 * 900) 13 (fun j => xlook j [(0, .ref (A 109)), (1, .long y13_1), (3, .int y13_3)]) [] (WW Z A sc13 ++ ex) 0 0 := by
    intro k13
    induction k13 with
    | zero => intro sc13 y13_1 y13_3 hIc13 hFc13 j13_3 mm13; exact m_no mm13 j13_3 rfl
    | succ k13 ih13 =>
      intro sc13 y13_1 y13_3 hIc13 hFc13 j13_3 mm13
      refine gg_w (M := 1 + k13 * 900 + 900) gws ?_
      refine g_iload_n 14 (gd rfl) rfl rfl ?_
      refine g_aload_n 15 (gd rfl) rfl rfl ?_
      refine g_getI 18 (gd rfl) rfl rfl rfl (fun z15 e15 => ?_)
      have q15 : u_109_20 = z15 := (fr_F e_109_20 hFc13 rfl).trans e15.symm
      subst q15
      refine g_cmp_ge 21 41 (gd rfl) rfl rfl (fun c18 => ?_) (fun c18 => ?_)
      · skip
        refine g_lload_n 42 (gd rfl) rfl rfl ?_
        exact g_lreturn (gd rfl) rfl (hP _ _ ⟨sc13, hIc13, hFc13, y13_1, rfl, rfl⟩)
      · skip
        have i18 := r_lt1 0 31 c18 j13_3 ro_109_20 rfl
        have i18a := r_lt2 1 32 c18 j13_3 ro_109_20 rfl
        refine g_lload_n 22 (gd rfl) rfl rfl ?_
        refine g_aload_n 23 (gd rfl) rfl rfl ?_
        refine g_iload_n 24 (gd rfl) rfl rfl ?_
        refine g_aload_n 25 (gd rfl) rfl rfl ?_
        refine g_getA (q2 := 169) 28 (gd rfl) rfl rfl rfl rfl ?_
        refine g_iload_n 29 (gd rfl) rfl rfl ?_
        refine g_iaload 30 (gd rfl) rfl (n := 32) rfl (in_ix i18 rfl) (fun z29 e29 => ?_)
        refine g_callv (X := _) (As := [.int y13_3, .int z29]) (r := [.long y13_1]) (b := A 109) (q := 109) 33 (gd rfl) rfl rfl rfl rfl rfl (ww_o rfl) (Nat.le_of_ble_eq_true rfl) (Nat.zero_le _) (Nat.zero_le _) (k_373 (by first | exact dq1 hd rfl | exact dq0 hd rfl | exact dq2 hd rfl | exact dq3 hd rfl | omega) hIc13 (in_w 0 31 i18 rfl)) (fun e u h => h) (fun v u h => ?_)
        obtain ⟨z30, rfl, rfl⟩ := h
        show GG _ _ _ _ _ _ _ _ [.long z30, .long y13_1] _ _ _
        refine g_ladd 34 (gd rfl) rfl (fun z33 e33 => ?_)
        refine g_lstore_n 35 (gd rfl) rfl (Nat.le_of_ble_eq_true rfl) ?_
        refine g_iinc 38 (gd rfl) rfl rfl (Nat.le_of_ble_eq_true rfl) (fun z35 e35 => ?_)
        have i35 := in_add 1 32 e35 i18 (in_c 1 rfl) rfl rfl
        refine g_goto 13 (gd rfl) rfl ?_
        exact gg_w (by first | exact Nat.le_add_right _ _ | exact gw2 | exact gw3 | exact gwe rfl | exact gwf rfl | exact gwg rfl | exact gwh rfl | omega) (gg_f (gf_cons rfl (gf_cons rfl (gf_cons rfl gf_nil))) (ih13 sc13 z33 z35 hIc13 hFc13 (in_w 0 32 i35 rfl) (m_up mm13 (t_add e35 i18 (in_c 1 rfl) rfl) (in_w 1 1 (in_c 1 rfl) rfl))))
  refine g_enter2 (k := 379) (N := 30601) (by first | exact dq1 hd rfl | exact dq0 hd rfl | exact dq2 hd rfl | exact dq3 hd rfl | omega) rfl (Nat.le_of_ble_eq_true rfl) ?_
  refine g_aload_n 1 (gd rfl) rfl rfl ?_
  refine g_iconst 0 2 (gd rfl) rfl rfl ?_
  refine g_putI 5 (gd rfl) rfl rfl rfl rfl ?_
  have hI2 := inv_sF (q := 109) (j := 0) hI rfl (in_w 0 2 (in_c 0 rfl) rfl)
  refine g_aload_n 6 (gd rfl) rfl rfl ?_
  refine g_callv (X := _) (As := []) (r := []) (b := A 109) (q := 109) 9 (gd rfl) rfl rfl rfl rfl rfl (ww_o rfl) (Nat.le_of_ble_eq_true rfl) (Nat.zero_le _) (Nat.zero_le _) (k_374 (by first | exact dq1 hd rfl | exact dq0 hd rfl | exact dq2 hd rfl | exact dq3 hd rfl | omega) hI2 ) (fun e u h => h) (fun v u h => ?_)
  obtain ⟨s6, hI6, hF6, rfl, rfl⟩ := h
  show GG _ _ _ _ _ _ _ _ [] _ _ _
  refine g_lconst 0 10 (gd rfl) rfl rfl ?_
  refine g_lstore_n 11 (gd rfl) rfl (Nat.le_of_ble_eq_true rfl) ?_
  refine g_iconst 0 12 (gd rfl) rfl rfl ?_
  refine g_istore_n 13 (gd rfl) rfl (Nat.le_of_ble_eq_true rfl) ?_
  exact gg_w (by first | exact Nat.le_of_ble_eq_true rfl | omega) (gg_f (gf_cons rfl (gf_cons rfl (gf_cons rfl gf_nil))) (ct13 33 s6 (Int64.ofInt 0) (Int32.ofInt 0) hI6 (fr_tr rfl (fr_sF rfl fr_rf) hF6) (in_w 0 32 (in_c 0 rfl) rfl) (m_in 33 (in_w 0 32 (in_c 0 rfl) rfl) rfl)))

def fm_386 : FM := ([172, 174, 176, 177, 180], [173, 175, 178, 179, 181, 182], [(109, 0), (109, 23), (109, 24), (109, 81), (109, 84), (109, 96), (109, 97), (109, 98), (109, 99)], [(109, 85), (109, 86), (109, 100), (109, 101)])
/-- GraphHouseModel.pattern -/
theorem k_386 {Z : AmZ} {A : Nat → Nat} {s : GS} {ex : va_W} {d : Nat} {X : AmX}  (hd : 5 ≤ d) (hI : Inv s)  : GC Z d 386 [.ref (A 109)] (WW Z A s ++ ex) 0 0 (fun v u => ∃ t : GS, Inv t ∧ Fr fm_386 s t ∧ ∃ z : Int32, v = some (.int z) ∧ u = WW Z A t ++ ex ∧ In z (-4) 0) X := by
  intro post xp hP hX
  obtain ⟨u_109_22, e_109_22⟩ : ∃ w, w = s.2.2.1 109 22 := ⟨_, rfl⟩
  have ro_109_22 := inv_F hI 0 1000 rfl e_109_22
  have ct226 : ∀ (k226 : Nat) (sc226 : GS) (y226_1 : Int32) (y226_2 : Int32), Inv sc226 → Fr fm_386 s sc226 → (In y226_1 0 60) → (In y226_2 0 60) → 60 - (y226_2).toInt < (k226 : Int) → GG Z (d - 1) 386 post (gx xp) (1 + k226 * 900) 226 (fun j => xlook j [(0, .ref (A 109)), (1, .int y226_1), (2, .int y226_2)]) [] (WW Z A sc226 ++ ex) 0 0 := by
    intro k226
    induction k226 with
    | zero => intro sc226 y226_1 y226_2 hIc226 hFc226 j226_1 j226_2 mm226; exact m_no mm226 j226_2 rfl
    | succ k226 ih226 =>
      intro sc226 y226_1 y226_2 hIc226 hFc226 j226_1 j226_2 mm226
      refine gg_w (M := 1 + k226 * 900 + 900) gws ?_
      refine g_iload_n 227 (gd rfl) rfl rfl ?_
      refine g_bipush 60 229 (gd rfl) rfl rfl ?_
      refine g_cmp_ge 232 262 (gd rfl) rfl rfl (fun c229 => ?_) (fun c229 => ?_)
      · skip
        have i229 := r_le2 60 60 c229 (in_c 60 rfl) j226_2 rfl
        refine g_iconst 0 263 (gd rfl) rfl rfl ?_
        exact g_ireturn (gd rfl) rfl rfl (hP _ _ ⟨sc226, hIc226, hFc226, (Int32.ofInt 0), rfl, rfl, in_w (-4) 0 (in_c 0 rfl) rfl⟩)
      · skip
        have i229 := r_lt1 0 59 c229 j226_2 (in_c 60 rfl) rfl
        refine g_aload_n 233 (gd rfl) rfl rfl ?_
        refine g_getA (q2 := 172) 236 (gd rfl) rfl rfl rfl rfl ?_
        refine g_iload_n 237 (gd rfl) rfl rfl ?_
        refine g_aload_n 238 (gd rfl) rfl rfl ?_
        refine g_getA (q2 := 174) 241 (gd rfl) rfl rfl rfl rfl ?_
        refine g_iload_n 242 (gd rfl) rfl rfl ?_
        refine g_iaload 243 (gd rfl) rfl (n := 60) rfl (in_ix i229 rfl) (fun z242 e242 => ?_)
        have i242 := inv_I hIc226 (n := 60) (t := 0) 0 26 rfl (in_ix i229 rfl) rfl e242
        refine g_iastore 244 (gd rfl) rfl (n := 60) rfl (in_ix i229 rfl) ?_
        have hI243 := inv_sI (q := 172) (j := y226_2.toNatClampNeg) hIc226 rfl (in_w 0 26 i242 rfl)
        refine g_aload_n 245 (gd rfl) rfl rfl ?_
        refine g_getA (q2 := 173) 248 (gd rfl) rfl rfl rfl rfl ?_
        refine g_iload_n 249 (gd rfl) rfl rfl ?_
        refine g_aload_n 250 (gd rfl) rfl rfl ?_
        refine g_getA (q2 := 175) 253 (gd rfl) rfl rfl rfl rfl ?_
        refine g_iload_n 254 (gd rfl) rfl rfl ?_
        refine g_laload 255 (gd rfl) rfl (n := 60) rfl (in_ix i229 rfl) (fun z254 e254 => ?_)
        refine g_lastore 256 (gd rfl) rfl (n := 60) rfl (in_ix i229 rfl) ?_
        have hI255 := inv_sL (q := 173) (j := y226_2.toNatClampNeg) (x := z254) hI243 rfl (l_rng z254)
        refine g_iinc 259 (gd rfl) rfl rfl (Nat.le_of_ble_eq_true rfl) (fun z256 e256 => ?_)
        have i256 := in_add 1 60 e256 i229 (in_c 1 rfl) rfl rfl
        refine g_goto 226 (gd rfl) rfl ?_
        exact gg_w (by first | exact Nat.le_add_right _ _ | exact gw2 | exact gw3 | exact gwe rfl | exact gwf rfl | exact gwg rfl | exact gwh rfl | omega) (gg_f (gf_cons rfl (gf_cons rfl (gf_cons rfl gf_nil))) (ih226 (sL (sI sc226 172 y226_2.toNatClampNeg z242) 173 y226_2.toNatClampNeg z254) y226_1 z256 hI255 (fr_sL rfl (fr_sI rfl hFc226)) (in_w 0 60 j226_1 rfl) (in_w 0 60 i256 rfl) (m_up mm226 (t_add e256 i229 (in_c 1 rfl) rfl) (in_w 1 1 (in_c 1 rfl) rfl))))
  have ct63 : ∀ (k63 : Nat) (sc63 : GS) (y63_1 : Int32) (y63_2 : Int32), Inv sc63 → Fr fm_386 s sc63 → (In y63_1 0 60) → (In y63_2 0 60) → ((u_109_22).toInt ≤ 60) → ((y63_1).toInt ≤ (y63_2).toInt) → 60 - (y63_2).toInt < (k63 : Int) → GG Z (d - 1) 386 post (gx xp) (54902 + k63 * 900) 63 (fun j => xlook j [(0, .ref (A 109)), (1, .int y63_1), (2, .int y63_2)]) [] (WW Z A sc63 ++ ex) 0 0 := by
    intro k63
    induction k63 with
    | zero => intro sc63 y63_1 y63_2 hIc63 hFc63 j63_1 j63_2 n63_0 n63_1 mm63; exact m_no mm63 j63_2 rfl
    | succ k63 ih63 =>
      intro sc63 y63_1 y63_2 hIc63 hFc63 j63_1 j63_2 n63_0 n63_1 mm63
      refine gg_w (M := 54902 + k63 * 900 + 900) gws ?_
      refine g_iload_n 64 (gd rfl) rfl rfl ?_
      refine g_aload_n 65 (gd rfl) rfl rfl ?_
      refine g_getI 68 (gd rfl) rfl rfl rfl (fun z65 e65 => ?_)
      have q65 : u_109_22 = z65 := (fr_F e_109_22 hFc63 rfl).trans e65.symm
      subst q65
      refine g_cmp_ge 71 152 (gd rfl) rfl rfl (fun c68 => ?_) (fun c68 => ?_)
      · skip
        have i68 := r_le1 0 60 c68 ro_109_22 j63_2 rfl
        refine g_aload_n 153 (gd rfl) rfl rfl ?_
        refine g_getI 156 (gd rfl) rfl rfl rfl (fun z153 e153 => ?_)
        have i153 := inv_F hIc63 0 9 rfl e153
        refine g_if_ne 159 175 (gd rfl) rfl rfl (fun c156 => ?_) (fun c156 => ?_)
        · skip
          have i156 := z_ne 1 9 c156 i153 rfl
          refine g_aload_n 176 (gd rfl) rfl rfl ?_
          refine g_getI 179 (gd rfl) rfl rfl rfl (fun z176 e176 => ?_)
          have q176 : z153 = z176 := (e153).trans e176.symm
          subst q176
          refine g_if_le 182 185 (gd rfl) rfl rfl (fun c179 => ?_) (fun c179 => ?_)
          · skip
            exact zn_le c179 i156 rfl
          · skip
            refine g_bipush (-4) 184 (gd rfl) rfl rfl ?_
            exact g_ireturn (gd rfl) rfl rfl (hP _ _ ⟨sc63, hIc63, hFc63, (Int32.ofInt (-4)), rfl, rfl, in_w (-4) 0 (in_c (-4) rfl) rfl⟩)
        · skip
          have i156 := z_eq 0 0 c156 i153 rfl
          refine g_aload_n 160 (gd rfl) rfl rfl ?_
          refine g_getI 163 (gd rfl) rfl rfl rfl (fun z160 e160 => ?_)
          have i160 := inv_F hIc63 0 10 rfl e160
          refine g_if_le 166 175 (gd rfl) rfl rfl (fun c163 => ?_) (fun c163 => ?_)
          · skip
            have i163 := z_le 0 0 c163 i160 rfl
            refine g_aload_n 176 (gd rfl) rfl rfl ?_
            refine g_getI 179 (gd rfl) rfl rfl rfl (fun z176 e176 => ?_)
            have q176 : z153 = z176 := (e153).trans e176.symm
            subst q176
            refine g_if_le 182 185 (gd rfl) rfl rfl (fun c179 => ?_) (fun c179 => ?_)
            · skip
              refine g_aload_n 186 (gd rfl) rfl rfl ?_
              refine g_callv (X := _) (As := []) (r := []) (b := A 109) (q := 109) 189 (gd rfl) rfl rfl rfl rfl rfl (ww_o rfl) (Nat.le_of_ble_eq_true rfl) (Nat.zero_le _) (Nat.zero_le _) (k_385 (by first | exact dq1 hd rfl | exact dq0 hd rfl | exact dq2 hd rfl | exact dq3 hd rfl | omega) hIc63 ) (fun e u h => h) (fun v u h => ?_)
              obtain ⟨s186, hI186, hF186, rfl, rfl⟩ := h
              show GG _ _ _ _ _ _ _ _ [] _ _ _
              refine g_aload_n 190 (gd rfl) rfl rfl ?_
              refine g_iload_n 191 (gd rfl) rfl rfl ?_
              refine g_putI 194 (gd rfl) rfl rfl rfl rfl ?_
              have hI191 := inv_sF (q := 109) (j := 81) hI186 rfl (in_w 0 60 j63_1 rfl)
              refine g_aload_n 195 (gd rfl) rfl rfl ?_
              refine g_aload_n 196 (gd rfl) rfl rfl ?_
              refine g_getA (q2 := 177) 199 (gd rfl) rfl rfl rfl rfl ?_
              refine g_iconst 0 200 (gd rfl) rfl rfl ?_
              refine g_baload 201 (gd rfl) rfl (n := 12) rfl (in_ix (in_c 0 rfl) rfl) (fun z200 e200 => ?_)
              have i200 := inv_I hI191 (n := 12) (t := 3) 0 1 rfl (in_ix (in_c 0 rfl) rfl) rfl e200
              refine g_putZ 204 (gd rfl) rfl rfl rfl rfl (in01 (in_w 0 1 i200 rfl)) ?_
              have hI201 := inv_sF (q := 109) (j := 84) hI191 rfl (in_w 0 1 i200 rfl)
              refine g_aload_n 205 (gd rfl) rfl rfl ?_
              refine g_aload_n 206 (gd rfl) rfl rfl ?_
              refine g_getA (q2 := 178) 209 (gd rfl) rfl rfl rfl rfl ?_
              refine g_iconst 0 210 (gd rfl) rfl rfl ?_
              refine g_laload 211 (gd rfl) rfl (n := 12) rfl (in_ix (in_c 0 rfl) rfl) (fun z210 e210 => ?_)
              refine g_putL 214 (gd rfl) rfl rfl rfl rfl ?_
              have hI211 := inv_sG (q := 109) (j := 85) (x := z210) hI201 rfl (l_rng z210)
              refine g_aload_n 215 (gd rfl) rfl rfl ?_
              refine g_aload_n 216 (gd rfl) rfl rfl ?_
              refine g_getA (q2 := 179) 219 (gd rfl) rfl rfl rfl rfl ?_
              refine g_iconst 0 220 (gd rfl) rfl rfl ?_
              refine g_laload 221 (gd rfl) rfl (n := 12) rfl (in_ix (in_c 0 rfl) rfl) (fun z220 e220 => ?_)
              refine g_putL 224 (gd rfl) rfl rfl rfl rfl ?_
              have hI221 := inv_sG (q := 109) (j := 86) (x := z220) hI211 rfl (l_rng z220)
              refine g_iconst 0 225 (gd rfl) rfl rfl ?_
              refine g_istore_n 226 (gd rfl) rfl (Nat.le_of_ble_eq_true rfl) ?_
              exact gg_w (by first | exact Nat.le_add_right _ _ | exact gw2 | exact gw3 | exact gwe rfl | exact gwf rfl | exact gwg rfl | exact gwh rfl | omega) (gg_f (gf_cons rfl (gf_cons rfl (gf_cons rfl gf_nil))) (ct226 61 (sG (sG (sF (sF s186 109 81 y63_1) 109 84 z200) 109 85 z210) 109 86 z220) y63_1 (Int32.ofInt 0) hI221 (fr_sG rfl (fr_sG rfl (fr_sF rfl (fr_sF rfl (fr_tr rfl hFc63 hF186))))) (in_w 0 60 j63_1 rfl) (in_w 0 60 (in_c 0 rfl) rfl) (m_in 61 (in_w 0 60 (in_c 0 rfl) rfl) rfl)))
            · skip
              exact zn_gt c179 i156 rfl
          · skip
            have i163 := z_gt 1 10 c163 i160 rfl
            refine g_aload_n 167 (gd rfl) rfl rfl ?_
            refine g_iconst 2 168 (gd rfl) rfl rfl ?_
            refine g_aload_n 169 (gd rfl) rfl rfl ?_
            refine g_getI 172 (gd rfl) rfl rfl rfl (fun z169 e169 => ?_)
            have q169 : u_109_22 = z169 := (fr_F e_109_22 hFc63 rfl).trans e169.symm
            subst q169
            refine g_callv (X := _) (As := [.int (Int32.ofInt 2), .int u_109_22]) (r := []) (b := A 109) (q := 109) 175 (gd rfl) rfl rfl rfl rfl rfl (ww_o rfl) (Nat.le_of_ble_eq_true rfl) (Nat.zero_le _) (Nat.zero_le _) (k_298 (by first | exact dq1 hd rfl | exact dq0 hd rfl | exact dq2 hd rfl | exact dq3 hd rfl | omega) hIc63 (in_w 1 5 (in_c 2 rfl) rfl)) (fun e u h => h) (fun v u h => ?_)
            obtain ⟨s172, hI172, hF172, n172, rfl, rfl⟩ := h
            obtain ⟨z172a, e172⟩ : ∃ w, w = s172.2.2.1 109 23 := ⟨_, rfl⟩
            have i172a := inv_F hI172 0 9 rfl e172
            rw [← (show z172a = s172.2.2.1 109 23 from e172)] at n172
            show GG _ _ _ _ _ _ _ _ [] _ _ _
            refine g_aload_n 176 (gd rfl) rfl rfl ?_
            refine g_getI 179 (gd rfl) rfl rfl rfl (fun z176 e176 => ?_)
            have q176 : z172a = z176 := (e172).trans e176.symm
            subst q176
            refine g_if_le 182 185 (gd rfl) rfl rfl (fun c179 => ?_) (fun c179 => ?_)
            · skip
              have i179 := z_le 0 0 c179 i172a rfl
              refine g_aload_n 186 (gd rfl) rfl rfl ?_
              refine g_callv (X := _) (As := []) (r := []) (b := A 109) (q := 109) 189 (gd rfl) rfl rfl rfl rfl rfl (ww_o rfl) (Nat.le_of_ble_eq_true rfl) (Nat.zero_le _) (Nat.zero_le _) (k_385 (by first | exact dq1 hd rfl | exact dq0 hd rfl | exact dq2 hd rfl | exact dq3 hd rfl | omega) hI172 ) (fun e u h => h) (fun v u h => ?_)
              obtain ⟨s186, hI186, hF186, rfl, rfl⟩ := h
              show GG _ _ _ _ _ _ _ _ [] _ _ _
              refine g_aload_n 190 (gd rfl) rfl rfl ?_
              refine g_iload_n 191 (gd rfl) rfl rfl ?_
              refine g_putI 194 (gd rfl) rfl rfl rfl rfl ?_
              have hI191 := inv_sF (q := 109) (j := 81) hI186 rfl (in_w 0 60 j63_1 rfl)
              refine g_aload_n 195 (gd rfl) rfl rfl ?_
              refine g_aload_n 196 (gd rfl) rfl rfl ?_
              refine g_getA (q2 := 177) 199 (gd rfl) rfl rfl rfl rfl ?_
              refine g_iconst 0 200 (gd rfl) rfl rfl ?_
              refine g_baload 201 (gd rfl) rfl (n := 12) rfl (in_ix (in_c 0 rfl) rfl) (fun z200 e200 => ?_)
              have i200 := inv_I hI191 (n := 12) (t := 3) 0 1 rfl (in_ix (in_c 0 rfl) rfl) rfl e200
              refine g_putZ 204 (gd rfl) rfl rfl rfl rfl (in01 (in_w 0 1 i200 rfl)) ?_
              have hI201 := inv_sF (q := 109) (j := 84) hI191 rfl (in_w 0 1 i200 rfl)
              refine g_aload_n 205 (gd rfl) rfl rfl ?_
              refine g_aload_n 206 (gd rfl) rfl rfl ?_
              refine g_getA (q2 := 178) 209 (gd rfl) rfl rfl rfl rfl ?_
              refine g_iconst 0 210 (gd rfl) rfl rfl ?_
              refine g_laload 211 (gd rfl) rfl (n := 12) rfl (in_ix (in_c 0 rfl) rfl) (fun z210 e210 => ?_)
              refine g_putL 214 (gd rfl) rfl rfl rfl rfl ?_
              have hI211 := inv_sG (q := 109) (j := 85) (x := z210) hI201 rfl (l_rng z210)
              refine g_aload_n 215 (gd rfl) rfl rfl ?_
              refine g_aload_n 216 (gd rfl) rfl rfl ?_
              refine g_getA (q2 := 179) 219 (gd rfl) rfl rfl rfl rfl ?_
              refine g_iconst 0 220 (gd rfl) rfl rfl ?_
              refine g_laload 221 (gd rfl) rfl (n := 12) rfl (in_ix (in_c 0 rfl) rfl) (fun z220 e220 => ?_)
              refine g_putL 224 (gd rfl) rfl rfl rfl rfl ?_
              have hI221 := inv_sG (q := 109) (j := 86) (x := z220) hI211 rfl (l_rng z220)
              refine g_iconst 0 225 (gd rfl) rfl rfl ?_
              refine g_istore_n 226 (gd rfl) rfl (Nat.le_of_ble_eq_true rfl) ?_
              exact gg_w (by first | exact Nat.le_add_right _ _ | exact gw2 | exact gw3 | exact gwe rfl | exact gwf rfl | exact gwg rfl | exact gwh rfl | omega) (gg_f (gf_cons rfl (gf_cons rfl (gf_cons rfl gf_nil))) (ct226 61 (sG (sG (sF (sF s186 109 81 y63_1) 109 84 z200) 109 85 z210) 109 86 z220) y63_1 (Int32.ofInt 0) hI221 (fr_sG rfl (fr_sG rfl (fr_sF rfl (fr_sF rfl (fr_tr rfl (fr_tr rfl hFc63 hF172) hF186))))) (in_w 0 60 j63_1 rfl) (in_w 0 60 (in_c 0 rfl) rfl) (m_in 61 (in_w 0 60 (in_c 0 rfl) rfl) rfl)))
            · skip
              have i179 := z_gt 1 9 c179 i172a rfl
              refine g_bipush (-4) 184 (gd rfl) rfl rfl ?_
              exact g_ireturn (gd rfl) rfl rfl (hP _ _ ⟨s172, hI172, (fr_tr rfl hFc63 hF172), (Int32.ofInt (-4)), rfl, rfl, in_w (-4) 0 (in_c (-4) rfl) rfl⟩)
      · skip
        have i68 := r_lt2 1 1000 c68 j63_2 ro_109_22 rfl
        refine g_aload_n 72 (gd rfl) rfl rfl ?_
        refine g_getI 75 (gd rfl) rfl rfl rfl (fun z72 e72 => ?_)
        have i72 := inv_F hIc63 0 9 rfl e72
        refine g_if_ne 78 152 (gd rfl) rfl rfl (fun c75 => ?_) (fun c75 => ?_)
        · skip
          have i75 := z_ne 1 9 c75 i72 rfl
          refine g_aload_n 153 (gd rfl) rfl rfl ?_
          refine g_getI 156 (gd rfl) rfl rfl rfl (fun z153 e153 => ?_)
          have q153 : z72 = z153 := (e72).trans e153.symm
          subst q153
          refine g_if_ne 159 175 (gd rfl) rfl rfl (fun c156 => ?_) (fun c156 => ?_)
          · skip
            refine g_aload_n 176 (gd rfl) rfl rfl ?_
            refine g_getI 179 (gd rfl) rfl rfl rfl (fun z176 e176 => ?_)
            have q176 : z72 = z176 := (e72).trans e176.symm
            subst q176
            refine g_if_le 182 185 (gd rfl) rfl rfl (fun c179 => ?_) (fun c179 => ?_)
            · skip
              exact zn_le c179 i75 rfl
            · skip
              refine g_bipush (-4) 184 (gd rfl) rfl rfl ?_
              exact g_ireturn (gd rfl) rfl rfl (hP _ _ ⟨sc63, hIc63, hFc63, (Int32.ofInt (-4)), rfl, rfl, in_w (-4) 0 (in_c (-4) rfl) rfl⟩)
          · skip
            exact zn_eq c156 i75 rfl
        · skip
          have i75 := z_eq 0 0 c75 i72 rfl
          refine g_aload_n 79 (gd rfl) rfl rfl ?_
          refine g_getA (q2 := 125) 82 (gd rfl) rfl rfl rfl rfl ?_
          refine g_iload_n 83 (gd rfl) rfl rfl ?_
          refine g_iaload 84 (gd rfl) rfl (n := 1000) rfl (in_ix j63_2 rfl) (fun z83 e83 => ?_)
          have i83 := inv_I hIc63 (n := 1000) (t := 0) 0 126 rfl (in_ix j63_2 rfl) rfl e83
          refine g_istore_n 85 (gd rfl) rfl (Nat.le_of_ble_eq_true rfl) ?_
          refine g_iload_n 86 (gd rfl) rfl rfl ?_
          refine g_calls (As := [.int z83]) (r := []) 89 (gd rfl) rfl rfl rfl rfl rfl (Nat.le_of_ble_eq_true rfl) (mc := 0) (ms := 0) (Nat.zero_le _) (Nat.zero_le _) (P := fun v u => _) ?_ (fun v u h => h)
          intro po86 xx86 hp86 hx86
          refine g_enter2 (k := 296) (N := 300) (by first | exact dq1 hd rfl | exact dq0 hd rfl | exact dq2 hd rfl | exact dq3 hd rfl | omega) rfl (Nat.le_of_ble_eq_true rfl) ?_
          refine g_iload_n 1 (gd rfl) rfl rfl ?_
          refine g_bipush 97 3 (gd rfl) rfl rfl ?_
          refine g_cmp_lt 6 16 (gd rfl) rfl rfl (fun c86x3 => ?_) (fun c86x3 => ?_)
          · skip
            have i86x3 := r_lt1 0 96 c86x3 i83 (in_c 97 rfl) rfl
            refine g_iconst 0 17 (gd rfl) rfl rfl ?_
            refine g_ireturn (gd rfl) rfl (nb01 (in_w 0 1 (in_c 0 rfl) rfl)) (hp86 _ _ ?_)
            show GG _ _ _ _ _ _ _ _ [.int (Int32.ofInt 0)] _ _ _
            refine g_if_ne 92 98 (gd rfl) rfl rfl (fun c89 => ?_) (fun c89 => ?_)
            · skip
              exact zn_ne c89 (in_c 0 rfl) rfl
            · skip
              refine g_iload_n 93 (gd rfl) rfl rfl ?_
              refine g_bipush 46 95 (gd rfl) rfl rfl ?_
              refine g_cmp_ne 98 140 (gd rfl) rfl rfl (fun c95 => ?_) (fun c95 => ?_)
              · skip
                refine g_aload_n 141 (gd rfl) rfl rfl ?_
                refine g_iload_n 142 (gd rfl) rfl rfl ?_
                refine g_iload_n 143 (gd rfl) rfl rfl ?_
                refine g_callv (X := _) (As := [.int z83, .int y63_2]) (r := []) (b := A 109) (q := 109) 146 (gd rfl) rfl rfl rfl rfl rfl (ww_o rfl) (Nat.le_of_ble_eq_true rfl) (Nat.zero_le _) (Nat.zero_le _) (k_388 (by first | exact dq1 hd rfl | exact dq0 hd rfl | exact dq2 hd rfl | exact dq3 hd rfl | omega) hIc63 (in_w 0 126 i86x3 rfl) (in_w 0 60 j63_2 rfl)) (fun e u h => h) (fun v u h => ?_)
                obtain ⟨s143, hI143, hF143, rfl, rfl⟩ := h
                show GG _ _ _ _ _ _ _ _ [] _ _ _
                refine g_iinc 149 (gd rfl) rfl rfl (Nat.le_of_ble_eq_true rfl) (fun z146 e146 => ?_)
                have i146 := in_add 1 61 e146 j63_2 (in_c 1 rfl) rfl rfl
                refine g_goto 63 (gd rfl) rfl ?_
                have i63 : In z146 0 60 := by exact ⟨by have a0 := oa5 i68 j63_2 j63_1 i86x3 i146; have a5 := t_add e146 j63_2 (in_c 1 rfl) rfl; have a6 := in_u ((in_c 1 rfl)); omega, by have a0 := oa5 i68 j63_2 j63_1 i86x3 i146; have a5 := t_add e146 j63_2 (in_c 1 rfl) rfl; have a6 := in_u ((in_c 1 rfl)); omega⟩
                have n63 : (u_109_22).toInt ≤ 60 := by first | exact n63_0 | (have a0 := oa5 i68 j63_2 j63_1 i86x3 i63; have a5 := t_add e146 j63_2 (in_c 1 rfl) rfl; have a6 := in_u ((in_c 1 rfl)); omega)
                have n63a : (y63_1).toInt ≤ (z146).toInt := by have a0 := oa5 i68 j63_2 j63_1 i86x3 i63; have a5 := t_add e146 j63_2 (in_c 1 rfl) rfl; have a6 := in_u ((in_c 1 rfl)); omega
                exact gg_w (by first | exact Nat.le_add_right _ _ | exact gw2 | exact gw3 | exact gwe rfl | exact gwf rfl | exact gwg rfl | exact gwh rfl | omega) (gg_f (gf_cons rfl (gf_cons rfl (gf_cons rfl gf_nil))) (ih63 s143 y63_1 z146 hI143 (fr_tr rfl hFc63 hF143) (in_w 0 60 j63_1 rfl) i63 n63 n63a (m_up mm63 (t_add e146 j63_2 (in_c 1 rfl) rfl) (in_w 1 1 (in_c 1 rfl) rfl))))
              · skip
                have i95 := r_eq1 46 46 c95 i86x3 (in_c 46 rfl) rfl
                refine g_aload_n 99 (gd rfl) rfl rfl ?_
                refine g_callv (X := _) (As := []) (r := []) (b := A 109) (q := 109) 102 (gd rfl) rfl rfl rfl rfl rfl (ww_o rfl) (Nat.le_of_ble_eq_true rfl) (Nat.zero_le _) (Nat.zero_le _) (k_384 (by first | exact dq1 hd rfl | exact dq0 hd rfl | exact dq2 hd rfl | exact dq3 hd rfl | omega) hIc63 ) (fun e u h => h) (fun v u h => ?_)
                obtain ⟨s99, hI99, hF99, rfl, rfl⟩ := h
                show GG _ _ _ _ _ _ _ _ [] _ _ _
                refine g_aload_n 103 (gd rfl) rfl rfl ?_
                refine g_getA (q2 := 174) 106 (gd rfl) rfl rfl rfl rfl ?_
                refine g_iload_n 107 (gd rfl) rfl rfl ?_
                refine g_iload_n 108 (gd rfl) rfl rfl ?_
                refine g_bipush 46 110 (gd rfl) rfl rfl ?_
                refine g_cmp_ne 113 118 (gd rfl) rfl rfl (fun c110 => ?_) (fun c110 => ?_)
                · skip
                  exact n_ne c110 i95 (in_c 46 rfl) rfl
                · skip
                  refine g_bipush 26 115 (gd rfl) rfl rfl ?_
                  refine g_goto 122 (gd rfl) rfl ?_
                  have i122 : In y63_1 0 59 := by have a0 := oa5 i68 j63_2 j63_1 i95 i75; exact ⟨by omega, by omega⟩
                  refine g_iastore 123 (gd rfl) rfl (n := 60) rfl (in_ix i122 rfl) ?_
                  have hI122 := inv_sI (q := 174) (j := y63_1.toNatClampNeg) hI99 rfl (in_w 0 26 (in_c 26 rfl) rfl)
                  refine g_aload_n 124 (gd rfl) rfl rfl ?_
                  refine g_iconst 0 125 (gd rfl) rfl rfl ?_
                  refine g_lconst 1 126 (gd rfl) rfl rfl ?_
                  refine g_iload_n 127 (gd rfl) rfl rfl ?_
                  refine g_lshl 128 (gd rfl) rfl (fun z127 e127 => ?_)
                  have i127 := l_shl 59 e127 i122 rfl
                  refine g_lconst 1 129 (gd rfl) rfl rfl ?_
                  refine g_iload_n 130 (gd rfl) rfl rfl ?_
                  refine g_lshl 131 (gd rfl) rfl (fun z130 e130 => ?_)
                  have i130 := l_shl 59 e130 i122 rfl
                  refine g_callv (X := _) (As := [.int (Int32.ofInt 0), .long z127, .long z130]) (r := []) (b := A 109) (q := 109) 134 (gd rfl) rfl rfl rfl rfl rfl (ww_o rfl) (Nat.le_of_ble_eq_true rfl) (mc := 0) (ms := 0) (Nat.zero_le _) (Nat.zero_le _) (P := fun v u => _) ?_ (fun e u h => h) (fun v u h => h)
                  intro po131 xx131 hp131 hx131
                  refine g_enter2 (k := 387) (N := 300) (by first | exact dq1 hd rfl | exact dq0 hd rfl | exact dq2 hd rfl | exact dq3 hd rfl | omega) rfl (Nat.le_of_ble_eq_true rfl) ?_
                  refine g_aload_n 1 (gd rfl) rfl rfl ?_
                  refine g_iconst 1 2 (gd rfl) rfl rfl ?_
                  refine g_putZ 5 (gd rfl) rfl rfl rfl rfl (in01 (in_w 0 1 (in_c 1 rfl) rfl)) ?_
                  have hI131x2 := inv_sF (q := 109) (j := 97) hI122 rfl (in_w 0 1 (in_c 1 rfl) rfl)
                  refine g_aload_n 6 (gd rfl) rfl rfl ?_
                  refine g_iconst 1 7 (gd rfl) rfl rfl ?_
                  refine g_putZ 10 (gd rfl) rfl rfl rfl rfl (in01 (in_w 0 1 (in_c 1 rfl) rfl)) ?_
                  have hI131x7 := inv_sF (q := 109) (j := 98) hI131x2 rfl (in_w 0 1 (in_c 1 rfl) rfl)
                  refine g_aload_n 11 (gd rfl) rfl rfl ?_
                  refine g_iload_n 12 (gd rfl) rfl rfl ?_
                  refine g_putZ 15 (gd rfl) rfl rfl rfl rfl (in01 (in_w 0 1 (in_c 0 rfl) rfl)) ?_
                  have hI131x12 := inv_sF (q := 109) (j := 99) hI131x7 rfl (in_w 0 1 (in_c 0 rfl) rfl)
                  refine g_aload_n 16 (gd rfl) rfl rfl ?_
                  refine g_lload_n 17 (gd rfl) rfl rfl ?_
                  refine g_putL 20 (gd rfl) rfl rfl rfl rfl ?_
                  have hI131x17 := inv_sG (q := 109) (j := 100) (x := z127) hI131x12 rfl (l_rng z127)
                  refine g_aload_n 21 (gd rfl) rfl rfl ?_
                  refine g_lload 23 (gd rfl) rfl rfl ?_
                  refine g_putL 26 (gd rfl) rfl rfl rfl rfl ?_
                  have hI131x23 := inv_sG (q := 109) (j := 101) (x := z130) hI131x17 rfl (l_rng z130)
                  refine g_return (gd rfl) rfl (hp131 _ _ ?_)
                  show GG _ _ _ _ _ _ _ _ [] _ _ _
                  refine g_iinc 137 (gd rfl) rfl rfl (Nat.le_of_ble_eq_true rfl) (fun z134 e134 => ?_)
                  have i134 := in_add 1 60 e134 i122 (in_c 1 rfl) rfl rfl
                  refine g_goto 146 (gd rfl) rfl ?_
                  refine g_iinc 149 (gd rfl) rfl rfl (Nat.le_of_ble_eq_true rfl) (fun z146 e146 => ?_)
                  have i146 := in_add 1 61 e146 j63_2 (in_c 1 rfl) rfl rfl
                  refine g_goto 63 (gd rfl) rfl ?_
                  have i63 : In z146 0 60 := by exact ⟨by have a0 := oa5 i68 j63_2 i122 i95 i146; have a5 := t_add e146 j63_2 (in_c 1 rfl) rfl; have a6 := oa2 ((in_c 1 rfl)) i134; have a8 := t_add e134 i122 (in_c 1 rfl) rfl; have a9 := oa2 ((in_c 0 rfl)) i75; omega, by have a0 := oa5 i68 j63_2 i122 i95 i146; have a5 := t_add e146 j63_2 (in_c 1 rfl) rfl; have a6 := oa2 ((in_c 1 rfl)) i134; have a8 := t_add e134 i122 (in_c 1 rfl) rfl; have a9 := oa2 ((in_c 0 rfl)) i75; omega⟩
                  have n63 : (u_109_22).toInt ≤ 60 := by first | exact n63_0 | (have a0 := oa5 i68 j63_2 i122 i95 i63; have a5 := t_add e146 j63_2 (in_c 1 rfl) rfl; have a6 := oa2 ((in_c 1 rfl)) i134; have a8 := t_add e134 i122 (in_c 1 rfl) rfl; have a9 := oa2 ((in_c 0 rfl)) i75; omega)
                  have n63a : (z134).toInt ≤ (z146).toInt := by have a0 := oa5 i68 j63_2 i122 i95 i63; have a5 := t_add e146 j63_2 (in_c 1 rfl) rfl; have a6 := oa2 ((in_c 1 rfl)) i134; have a8 := t_add e134 i122 (in_c 1 rfl) rfl; have a9 := oa2 ((in_c 0 rfl)) i75; omega
                  exact gg_w (by first | exact Nat.le_add_right _ _ | exact gw2 | exact gw3 | exact gwe rfl | exact gwf rfl | exact gwg rfl | exact gwh rfl | omega) (gg_f (gf_cons rfl (gf_cons rfl (gf_cons rfl gf_nil))) (ih63 (sG (sG (sF (sF (sF (sI s99 174 y63_1.toNatClampNeg (Int32.ofInt 26)) 109 97 (Int32.ofInt 1)) 109 98 (Int32.ofInt 1)) 109 99 (Int32.ofInt 0)) 109 100 z127) 109 101 z130) z134 z146 hI131x23 (fr_sG rfl (fr_sG rfl (fr_sF rfl (fr_sF rfl (fr_sF rfl (fr_sI rfl (fr_tr rfl hFc63 hF99))))))) (in_w 0 60 i134 rfl) i63 n63 n63a (m_up mm63 (t_add e146 j63_2 (in_c 1 rfl) rfl) (in_w 1 1 (in_c 1 rfl) rfl))))
          · skip
            have i86x3 := r_le2 97 126 c86x3 (in_c 97 rfl) i83 rfl
            refine g_iload_n 7 (gd rfl) rfl rfl ?_
            refine g_bipush 122 9 (gd rfl) rfl rfl ?_
            refine g_cmp_gt 12 16 (gd rfl) rfl rfl (fun c86x9 => ?_) (fun c86x9 => ?_)
            · skip
              have i86x9 := r_lt2 123 126 c86x9 (in_c 122 rfl) i86x3 rfl
              refine g_iconst 0 17 (gd rfl) rfl rfl ?_
              refine g_ireturn (gd rfl) rfl (nb01 (in_w 0 1 (in_c 0 rfl) rfl)) (hp86 _ _ ?_)
              show GG _ _ _ _ _ _ _ _ [.int (Int32.ofInt 0)] _ _ _
              refine g_if_ne 92 98 (gd rfl) rfl rfl (fun c89 => ?_) (fun c89 => ?_)
              · skip
                exact zn_ne c89 (in_c 0 rfl) rfl
              · skip
                refine g_iload_n 93 (gd rfl) rfl rfl ?_
                refine g_bipush 46 95 (gd rfl) rfl rfl ?_
                refine g_cmp_ne 98 140 (gd rfl) rfl rfl (fun c95 => ?_) (fun c95 => ?_)
                · skip
                  refine g_aload_n 141 (gd rfl) rfl rfl ?_
                  refine g_iload_n 142 (gd rfl) rfl rfl ?_
                  refine g_iload_n 143 (gd rfl) rfl rfl ?_
                  refine g_callv (X := _) (As := [.int z83, .int y63_2]) (r := []) (b := A 109) (q := 109) 146 (gd rfl) rfl rfl rfl rfl rfl (ww_o rfl) (Nat.le_of_ble_eq_true rfl) (Nat.zero_le _) (Nat.zero_le _) (k_388 (by first | exact dq1 hd rfl | exact dq0 hd rfl | exact dq2 hd rfl | exact dq3 hd rfl | omega) hIc63 (in_w 0 126 i86x9 rfl) (in_w 0 60 j63_2 rfl)) (fun e u h => h) (fun v u h => ?_)
                  obtain ⟨s143, hI143, hF143, rfl, rfl⟩ := h
                  show GG _ _ _ _ _ _ _ _ [] _ _ _
                  refine g_iinc 149 (gd rfl) rfl rfl (Nat.le_of_ble_eq_true rfl) (fun z146 e146 => ?_)
                  have i146 := in_add 1 61 e146 j63_2 (in_c 1 rfl) rfl rfl
                  refine g_goto 63 (gd rfl) rfl ?_
                  have i63 : In z146 0 60 := by exact ⟨by have a0 := oa5 i68 j63_2 j63_1 i86x9 i146; have a5 := t_add e146 j63_2 (in_c 1 rfl) rfl; have a6 := in_u ((in_c 1 rfl)); omega, by have a0 := oa5 i68 j63_2 j63_1 i86x9 i146; have a5 := t_add e146 j63_2 (in_c 1 rfl) rfl; have a6 := in_u ((in_c 1 rfl)); omega⟩
                  have n63 : (u_109_22).toInt ≤ 60 := by first | exact n63_0 | (have a0 := oa5 i68 j63_2 j63_1 i86x9 i63; have a5 := t_add e146 j63_2 (in_c 1 rfl) rfl; have a6 := in_u ((in_c 1 rfl)); omega)
                  have n63a : (y63_1).toInt ≤ (z146).toInt := by have a0 := oa5 i68 j63_2 j63_1 i86x9 i63; have a5 := t_add e146 j63_2 (in_c 1 rfl) rfl; have a6 := in_u ((in_c 1 rfl)); omega
                  exact gg_w (by first | exact Nat.le_add_right _ _ | exact gw2 | exact gw3 | exact gwe rfl | exact gwf rfl | exact gwg rfl | exact gwh rfl | omega) (gg_f (gf_cons rfl (gf_cons rfl (gf_cons rfl gf_nil))) (ih63 s143 y63_1 z146 hI143 (fr_tr rfl hFc63 hF143) (in_w 0 60 j63_1 rfl) i63 n63 n63a (m_up mm63 (t_add e146 j63_2 (in_c 1 rfl) rfl) (in_w 1 1 (in_c 1 rfl) rfl))))
                · skip
                  exact n_eq c95 i86x9 (in_c 46 rfl) rfl
            · skip
              have i86x9 := r_le1 97 122 c86x9 i86x3 (in_c 122 rfl) rfl
              refine g_iconst 1 13 (gd rfl) rfl rfl ?_
              refine g_goto 17 (gd rfl) rfl ?_
              refine g_ireturn (gd rfl) rfl (nb01 (in_w 0 1 (in_c 1 rfl) rfl)) (hp86 _ _ ?_)
              show GG _ _ _ _ _ _ _ _ [.int (Int32.ofInt 1)] _ _ _
              refine g_if_ne 92 98 (gd rfl) rfl rfl (fun c89 => ?_) (fun c89 => ?_)
              · skip
                refine g_aload_n 99 (gd rfl) rfl rfl ?_
                refine g_callv (X := _) (As := []) (r := []) (b := A 109) (q := 109) 102 (gd rfl) rfl rfl rfl rfl rfl (ww_o rfl) (Nat.le_of_ble_eq_true rfl) (Nat.zero_le _) (Nat.zero_le _) (k_384 (by first | exact dq1 hd rfl | exact dq0 hd rfl | exact dq2 hd rfl | exact dq3 hd rfl | omega) hIc63 ) (fun e u h => h) (fun v u h => ?_)
                obtain ⟨s99, hI99, hF99, rfl, rfl⟩ := h
                show GG _ _ _ _ _ _ _ _ [] _ _ _
                refine g_aload_n 103 (gd rfl) rfl rfl ?_
                refine g_getA (q2 := 174) 106 (gd rfl) rfl rfl rfl rfl ?_
                refine g_iload_n 107 (gd rfl) rfl rfl ?_
                refine g_iload_n 108 (gd rfl) rfl rfl ?_
                refine g_bipush 46 110 (gd rfl) rfl rfl ?_
                refine g_cmp_ne 113 118 (gd rfl) rfl rfl (fun c110 => ?_) (fun c110 => ?_)
                · skip
                  refine g_iload_n 119 (gd rfl) rfl rfl ?_
                  refine g_bipush 97 121 (gd rfl) rfl rfl ?_
                  refine g_isub 122 (gd rfl) rfl (fun z121 e121 => ?_)
                  have i121 := in_sub 0 25 e121 i86x9 (in_c 97 rfl) rfl rfl
                  have i122 : In y63_1 0 59 := by have a0 := oa6 i68 j63_2 j63_1 i86x9 i75 i121; have a6 := t_sub e121 i86x9 (in_c 97 rfl) rfl; have a7 := in_u ((in_c 97 rfl)); exact ⟨by omega, by omega⟩
                  refine g_iastore 123 (gd rfl) rfl (n := 60) rfl (in_ix i122 rfl) ?_
                  have hI122 := inv_sI (q := 174) (j := y63_1.toNatClampNeg) hI99 rfl (in_w 0 26 i121 rfl)
                  refine g_aload_n 124 (gd rfl) rfl rfl ?_
                  refine g_iconst 0 125 (gd rfl) rfl rfl ?_
                  refine g_lconst 1 126 (gd rfl) rfl rfl ?_
                  refine g_iload_n 127 (gd rfl) rfl rfl ?_
                  refine g_lshl 128 (gd rfl) rfl (fun z127 e127 => ?_)
                  have i127 := l_shl 59 e127 i122 rfl
                  refine g_lconst 1 129 (gd rfl) rfl rfl ?_
                  refine g_iload_n 130 (gd rfl) rfl rfl ?_
                  refine g_lshl 131 (gd rfl) rfl (fun z130 e130 => ?_)
                  have i130 := l_shl 59 e130 i122 rfl
                  refine g_callv (X := _) (As := [.int (Int32.ofInt 0), .long z127, .long z130]) (r := []) (b := A 109) (q := 109) 134 (gd rfl) rfl rfl rfl rfl rfl (ww_o rfl) (Nat.le_of_ble_eq_true rfl) (mc := 0) (ms := 0) (Nat.zero_le _) (Nat.zero_le _) (P := fun v u => _) ?_ (fun e u h => h) (fun v u h => h)
                  intro po131 xx131 hp131 hx131
                  refine g_enter2 (k := 387) (N := 300) (by first | exact dq1 hd rfl | exact dq0 hd rfl | exact dq2 hd rfl | exact dq3 hd rfl | omega) rfl (Nat.le_of_ble_eq_true rfl) ?_
                  refine g_aload_n 1 (gd rfl) rfl rfl ?_
                  refine g_iconst 1 2 (gd rfl) rfl rfl ?_
                  refine g_putZ 5 (gd rfl) rfl rfl rfl rfl (in01 (in_w 0 1 (in_c 1 rfl) rfl)) ?_
                  have hI131x2 := inv_sF (q := 109) (j := 97) hI122 rfl (in_w 0 1 (in_c 1 rfl) rfl)
                  refine g_aload_n 6 (gd rfl) rfl rfl ?_
                  refine g_iconst 1 7 (gd rfl) rfl rfl ?_
                  refine g_putZ 10 (gd rfl) rfl rfl rfl rfl (in01 (in_w 0 1 (in_c 1 rfl) rfl)) ?_
                  have hI131x7 := inv_sF (q := 109) (j := 98) hI131x2 rfl (in_w 0 1 (in_c 1 rfl) rfl)
                  refine g_aload_n 11 (gd rfl) rfl rfl ?_
                  refine g_iload_n 12 (gd rfl) rfl rfl ?_
                  refine g_putZ 15 (gd rfl) rfl rfl rfl rfl (in01 (in_w 0 1 (in_c 0 rfl) rfl)) ?_
                  have hI131x12 := inv_sF (q := 109) (j := 99) hI131x7 rfl (in_w 0 1 (in_c 0 rfl) rfl)
                  refine g_aload_n 16 (gd rfl) rfl rfl ?_
                  refine g_lload_n 17 (gd rfl) rfl rfl ?_
                  refine g_putL 20 (gd rfl) rfl rfl rfl rfl ?_
                  have hI131x17 := inv_sG (q := 109) (j := 100) (x := z127) hI131x12 rfl (l_rng z127)
                  refine g_aload_n 21 (gd rfl) rfl rfl ?_
                  refine g_lload 23 (gd rfl) rfl rfl ?_
                  refine g_putL 26 (gd rfl) rfl rfl rfl rfl ?_
                  have hI131x23 := inv_sG (q := 109) (j := 101) (x := z130) hI131x17 rfl (l_rng z130)
                  refine g_return (gd rfl) rfl (hp131 _ _ ?_)
                  show GG _ _ _ _ _ _ _ _ [] _ _ _
                  refine g_iinc 137 (gd rfl) rfl rfl (Nat.le_of_ble_eq_true rfl) (fun z134 e134 => ?_)
                  have i134 := in_add 1 60 e134 i122 (in_c 1 rfl) rfl rfl
                  refine g_goto 146 (gd rfl) rfl ?_
                  refine g_iinc 149 (gd rfl) rfl rfl (Nat.le_of_ble_eq_true rfl) (fun z146 e146 => ?_)
                  have i146 := in_add 1 61 e146 j63_2 (in_c 1 rfl) rfl rfl
                  refine g_goto 63 (gd rfl) rfl ?_
                  have i63 : In z146 0 60 := by exact ⟨by have a0 := oa5 i68 j63_2 i122 i86x9 i146; have a5 := t_add e146 j63_2 (in_c 1 rfl) rfl; have a6 := oa2 ((in_c 1 rfl)) i134; have a8 := t_add e134 i122 (in_c 1 rfl) rfl; have a9 := oa3 ((in_c 0 rfl)) i75 i121; have a12 := t_sub e121 i86x9 (in_c 97 rfl) rfl; have a13 := in_u ((in_c 97 rfl)); omega, by have a0 := oa5 i68 j63_2 i122 i86x9 i146; have a5 := t_add e146 j63_2 (in_c 1 rfl) rfl; have a6 := oa2 ((in_c 1 rfl)) i134; have a8 := t_add e134 i122 (in_c 1 rfl) rfl; have a9 := oa3 ((in_c 0 rfl)) i75 i121; have a12 := t_sub e121 i86x9 (in_c 97 rfl) rfl; have a13 := in_u ((in_c 97 rfl)); omega⟩
                  have n63 : (u_109_22).toInt ≤ 60 := by first | exact n63_0 | (have a0 := oa5 i68 j63_2 i122 i86x9 i63; have a5 := t_add e146 j63_2 (in_c 1 rfl) rfl; have a6 := oa2 ((in_c 1 rfl)) i134; have a8 := t_add e134 i122 (in_c 1 rfl) rfl; have a9 := oa3 ((in_c 0 rfl)) i75 i121; have a12 := t_sub e121 i86x9 (in_c 97 rfl) rfl; have a13 := in_u ((in_c 97 rfl)); omega)
                  have n63a : (z134).toInt ≤ (z146).toInt := by have a0 := oa5 i68 j63_2 i122 i86x9 i63; have a5 := t_add e146 j63_2 (in_c 1 rfl) rfl; have a6 := oa2 ((in_c 1 rfl)) i134; have a8 := t_add e134 i122 (in_c 1 rfl) rfl; have a9 := oa3 ((in_c 0 rfl)) i75 i121; have a12 := t_sub e121 i86x9 (in_c 97 rfl) rfl; have a13 := in_u ((in_c 97 rfl)); omega
                  exact gg_w (by first | exact Nat.le_add_right _ _ | exact gw2 | exact gw3 | exact gwe rfl | exact gwf rfl | exact gwg rfl | exact gwh rfl | omega) (gg_f (gf_cons rfl (gf_cons rfl (gf_cons rfl gf_nil))) (ih63 (sG (sG (sF (sF (sF (sI s99 174 y63_1.toNatClampNeg z121) 109 97 (Int32.ofInt 1)) 109 98 (Int32.ofInt 1)) 109 99 (Int32.ofInt 0)) 109 100 z127) 109 101 z130) z134 z146 hI131x23 (fr_sG rfl (fr_sG rfl (fr_sF rfl (fr_sF rfl (fr_sF rfl (fr_sI rfl (fr_tr rfl hFc63 hF99))))))) (in_w 0 60 i134 rfl) i63 n63 n63a (m_up mm63 (t_add e146 j63_2 (in_c 1 rfl) rfl) (in_w 1 1 (in_c 1 rfl) rfl))))
                · skip
                  exact n_eq c110 i86x9 (in_c 46 rfl) rfl
              · skip
                exact zn_eq c89 (in_c 1 rfl) rfl
  have ct33 : ∀ (k33 : Nat) (sc33 : GS) (y33_1 : Int32) (y33_2 : Int32), Inv sc33 → Fr fm_386 s sc33 → (In y33_1 0 0) → (In y33_2 0 60) → ((u_109_22).toInt ≤ 60) → 60 - (y33_2).toInt < (k33 : Int) → GG Z (d - 1) 386 post (gx xp) (109803 + k33 * 900) 33 (fun j => xlook j [(0, .ref (A 109)), (1, .int y33_1), (2, .int y33_2)]) [] (WW Z A sc33 ++ ex) 0 0 := by
    intro k33
    induction k33 with
    | zero => intro sc33 y33_1 y33_2 hIc33 hFc33 j33_1 j33_2 n33_0 mm33; exact m_no mm33 j33_2 rfl
    | succ k33 ih33 =>
      intro sc33 y33_1 y33_2 hIc33 hFc33 j33_1 j33_2 n33_0 mm33
      refine gg_w (M := 109803 + k33 * 900 + 900) gws ?_
      refine g_iload_n 34 (gd rfl) rfl rfl ?_
      refine g_bipush 60 36 (gd rfl) rfl rfl ?_
      refine g_cmp_ge 39 52 (gd rfl) rfl rfl (fun c36 => ?_) (fun c36 => ?_)
      · skip
        have i36 := r_le2 60 60 c36 (in_c 60 rfl) j33_2 rfl
        refine g_aload_n 53 (gd rfl) rfl rfl ?_
        refine g_iconst 0 54 (gd rfl) rfl rfl ?_
        refine g_putI 57 (gd rfl) rfl rfl rfl rfl ?_
        have hI54 := inv_sF (q := 109) (j := 96) hIc33 rfl (in_w 0 10 (in_c 0 rfl) rfl)
        refine g_aload_n 58 (gd rfl) rfl rfl ?_
        refine g_callv (X := _) (As := []) (r := []) (b := A 109) (q := 109) 61 (gd rfl) rfl rfl rfl rfl rfl (ww_o rfl) (Nat.le_of_ble_eq_true rfl) (mc := 0) (ms := 0) (Nat.zero_le _) (Nat.zero_le _) (P := fun v u => _) ?_ (fun e u h => h) (fun v u h => h)
        intro po58 xx58 hp58 hx58
        refine g_enter2 (k := 381) (N := 300) (by first | exact dq1 hd rfl | exact dq0 hd rfl | exact dq2 hd rfl | exact dq3 hd rfl | omega) rfl (Nat.le_of_ble_eq_true rfl) ?_
        refine g_aload_n 1 (gd rfl) rfl rfl ?_
        refine g_getA (q2 := 176) 4 (gd rfl) rfl rfl rfl rfl ?_
        refine g_aload_n 5 (gd rfl) rfl rfl ?_
        refine g_getI 8 (gd rfl) rfl rfl rfl (fun z58x5 e58x5 => ?_)
        have q58x5 : (Int32.ofInt 0) = z58x5 := (sF_get).trans e58x5.symm
        subst q58x5
        refine g_iconst 0 9 (gd rfl) rfl rfl ?_
        refine g_bastore 10 (gd rfl) rfl (n := 12) rfl (in_ix (in_c 0 rfl) rfl) ?_
        have hI58x9 := inv_sI (q := 176) (j := (Int32.ofInt 0).toNatClampNeg) hI54 rfl (in_w 0 1 (nar01 (in_w 0 1 (in_c 0 rfl) rfl)) rfl)
        refine g_aload_n 11 (gd rfl) rfl rfl ?_
        refine g_getA (q2 := 177) 14 (gd rfl) rfl rfl rfl rfl ?_
        refine g_aload_n 15 (gd rfl) rfl rfl ?_
        refine g_getI 18 (gd rfl) rfl rfl rfl (fun z58x15 e58x15 => ?_)
        have q58x15 : (Int32.ofInt 0) = z58x15 := (sI_F (sF_get)).trans e58x15.symm
        subst q58x15
        refine g_iconst 0 19 (gd rfl) rfl rfl ?_
        refine g_bastore 20 (gd rfl) rfl (n := 12) rfl (in_ix (in_c 0 rfl) rfl) ?_
        have hI58x19 := inv_sI (q := 177) (j := (Int32.ofInt 0).toNatClampNeg) hI58x9 rfl (in_w 0 1 (nar01 (in_w 0 1 (in_c 0 rfl) rfl)) rfl)
        refine g_aload_n 21 (gd rfl) rfl rfl ?_
        refine g_getA (q2 := 178) 24 (gd rfl) rfl rfl rfl rfl ?_
        refine g_aload_n 25 (gd rfl) rfl rfl ?_
        refine g_getI 28 (gd rfl) rfl rfl rfl (fun z58x25 e58x25 => ?_)
        have q58x25 : (Int32.ofInt 0) = z58x25 := (sI_F (sI_F (sF_get))).trans e58x25.symm
        subst q58x25
        refine g_lconst 0 29 (gd rfl) rfl rfl ?_
        refine g_lastore 30 (gd rfl) rfl (n := 12) rfl (in_ix (in_c 0 rfl) rfl) ?_
        have hI58x29 := inv_sL (q := 178) (j := (Int32.ofInt 0).toNatClampNeg) (x := (Int64.ofInt 0)) hI58x19 rfl (l_rng (Int64.ofInt 0))
        refine g_aload_n 31 (gd rfl) rfl rfl ?_
        refine g_getA (q2 := 179) 34 (gd rfl) rfl rfl rfl rfl ?_
        refine g_aload_n 35 (gd rfl) rfl rfl ?_
        refine g_getI 38 (gd rfl) rfl rfl rfl (fun z58x35 e58x35 => ?_)
        have q58x35 : (Int32.ofInt 0) = z58x35 := (sL_F (sI_F (sI_F (sF_get)))).trans e58x35.symm
        subst q58x35
        refine g_lconst 0 39 (gd rfl) rfl rfl ?_
        refine g_lastore 40 (gd rfl) rfl (n := 12) rfl (in_ix (in_c 0 rfl) rfl) ?_
        have hI58x39 := inv_sL (q := 179) (j := (Int32.ofInt 0).toNatClampNeg) (x := (Int64.ofInt 0)) hI58x29 rfl (l_rng (Int64.ofInt 0))
        refine g_aload_n 41 (gd rfl) rfl rfl ?_
        refine g_callv (X := _) (As := []) (r := []) (b := A 109) (q := 109) 44 (gd rfl) rfl rfl rfl rfl rfl (ww_o rfl) (Nat.le_of_ble_eq_true rfl) (mc := 0) (ms := 0) (Nat.zero_le _) (Nat.zero_le _) (P := fun v u => _) ?_ (fun e u h => h) (fun v u h => h)
        intro po58x41 xx58x41 hp58x41 hx58x41
        refine g_enter2 (k := 382) (N := 300) (by first | exact dq1 hd rfl | exact dq0 hd rfl | exact dq2 hd rfl | exact dq3 hd rfl | omega) rfl (Nat.le_of_ble_eq_true rfl) ?_
        refine g_aload_n 1 (gd rfl) rfl rfl ?_
        refine g_getA (q2 := 180) 4 (gd rfl) rfl rfl rfl rfl ?_
        refine g_aload_n 5 (gd rfl) rfl rfl ?_
        refine g_getI 8 (gd rfl) rfl rfl rfl (fun z58x41x5 e58x41x5 => ?_)
        have q58x41x5 : (Int32.ofInt 0) = z58x41x5 := (sL_F (sL_F (sI_F (sI_F (sF_get))))).trans e58x41x5.symm
        subst q58x41x5
        refine g_iconst 1 9 (gd rfl) rfl rfl ?_
        refine g_bastore 10 (gd rfl) rfl (n := 12) rfl (in_ix (in_c 0 rfl) rfl) ?_
        have hI58x41x9 := inv_sI (q := 180) (j := (Int32.ofInt 0).toNatClampNeg) hI58x39 rfl (in_w 0 1 (nar01 (in_w 0 1 (in_c 1 rfl) rfl)) rfl)
        refine g_aload_n 11 (gd rfl) rfl rfl ?_
        refine g_getA (q2 := 181) 14 (gd rfl) rfl rfl rfl rfl ?_
        refine g_aload_n 15 (gd rfl) rfl rfl ?_
        refine g_getI 18 (gd rfl) rfl rfl rfl (fun z58x41x15 e58x41x15 => ?_)
        have q58x41x15 : (Int32.ofInt 0) = z58x41x15 := (sI_F (sL_F (sL_F (sI_F (sI_F (sF_get)))))).trans e58x41x15.symm
        subst q58x41x15
        refine g_lconst 0 19 (gd rfl) rfl rfl ?_
        refine g_lastore 20 (gd rfl) rfl (n := 12) rfl (in_ix (in_c 0 rfl) rfl) ?_
        have hI58x41x19 := inv_sL (q := 181) (j := (Int32.ofInt 0).toNatClampNeg) (x := (Int64.ofInt 0)) hI58x41x9 rfl (l_rng (Int64.ofInt 0))
        refine g_aload_n 21 (gd rfl) rfl rfl ?_
        refine g_getA (q2 := 182) 24 (gd rfl) rfl rfl rfl rfl ?_
        refine g_aload_n 25 (gd rfl) rfl rfl ?_
        refine g_getI 28 (gd rfl) rfl rfl rfl (fun z58x41x25 e58x41x25 => ?_)
        have q58x41x25 : (Int32.ofInt 0) = z58x41x25 := (sL_F (sI_F (sL_F (sL_F (sI_F (sI_F (sF_get))))))).trans e58x41x25.symm
        subst q58x41x25
        refine g_lconst 0 29 (gd rfl) rfl rfl ?_
        refine g_lastore 30 (gd rfl) rfl (n := 12) rfl (in_ix (in_c 0 rfl) rfl) ?_
        have hI58x41x29 := inv_sL (q := 182) (j := (Int32.ofInt 0).toNatClampNeg) (x := (Int64.ofInt 0)) hI58x41x19 rfl (l_rng (Int64.ofInt 0))
        refine g_aload_n 31 (gd rfl) rfl rfl ?_
        refine g_iconst 0 32 (gd rfl) rfl rfl ?_
        refine g_putZ 35 (gd rfl) rfl rfl rfl rfl (in01 (in_w 0 1 (in_c 0 rfl) rfl)) ?_
        have hI58x41x32 := inv_sF (q := 109) (j := 97) hI58x41x29 rfl (in_w 0 1 (in_c 0 rfl) rfl)
        refine g_aload_n 36 (gd rfl) rfl rfl ?_
        refine g_iconst 0 37 (gd rfl) rfl rfl ?_
        refine g_putZ 40 (gd rfl) rfl rfl rfl rfl (in01 (in_w 0 1 (in_c 0 rfl) rfl)) ?_
        have hI58x41x37 := inv_sF (q := 109) (j := 98) hI58x41x32 rfl (in_w 0 1 (in_c 0 rfl) rfl)
        refine g_return (gd rfl) rfl (hp58x41 _ _ ?_)
        show GG _ _ _ _ _ _ _ _ [] _ _ _
        refine g_return (gd rfl) rfl (hp58 _ _ ?_)
        show GG _ _ _ _ _ _ _ _ [] _ _ _
        refine g_iconst 0 62 (gd rfl) rfl rfl ?_
        refine g_istore_n 63 (gd rfl) rfl (Nat.le_of_ble_eq_true rfl) ?_
        have n63 : (u_109_22).toInt ≤ 60 := by first | exact n33_0 | (have a0 := oa4 ro_109_22 i36 j33_1 ((in_c 0 rfl)); omega)
        have n63a : (y33_1).toInt ≤ ((Int32.ofInt 0)).toInt := by have a0 := oa4 ro_109_22 i36 j33_1 ((in_c 0 rfl)); omega
        exact gg_w (by first | exact Nat.le_add_right _ _ | exact gw2 | exact gw3 | exact gwe rfl | exact gwf rfl | exact gwg rfl | exact gwh rfl | omega) (gg_f (gf_cons rfl (gf_cons rfl (gf_cons rfl gf_nil))) (ct63 61 (sF (sF (sL (sL (sI (sL (sL (sI (sI (sF sc33 109 96 (Int32.ofInt 0)) 176 (Int32.ofInt 0).toNatClampNeg (vp_nar .boolean (Int32.ofInt 0))) 177 (Int32.ofInt 0).toNatClampNeg (vp_nar .boolean (Int32.ofInt 0))) 178 (Int32.ofInt 0).toNatClampNeg (Int64.ofInt 0)) 179 (Int32.ofInt 0).toNatClampNeg (Int64.ofInt 0)) 180 (Int32.ofInt 0).toNatClampNeg (vp_nar .boolean (Int32.ofInt 1))) 181 (Int32.ofInt 0).toNatClampNeg (Int64.ofInt 0)) 182 (Int32.ofInt 0).toNatClampNeg (Int64.ofInt 0)) 109 97 (Int32.ofInt 0)) 109 98 (Int32.ofInt 0)) y33_1 (Int32.ofInt 0) hI58x41x37 (fr_sF rfl (fr_sF rfl (fr_sL rfl (fr_sL rfl (fr_sI rfl (fr_sL rfl (fr_sL rfl (fr_sI rfl (fr_sI rfl (fr_sF rfl hFc33)))))))))) (in_w 0 60 j33_1 rfl) (in_w 0 60 (in_c 0 rfl) rfl) n63 n63a (m_in 61 (in_w 0 60 (in_c 0 rfl) rfl) rfl)))
      · skip
        have i36 := r_lt1 0 59 c36 j33_2 (in_c 60 rfl) rfl
        refine g_aload_n 40 (gd rfl) rfl rfl ?_
        refine g_getA (q2 := 175) 43 (gd rfl) rfl rfl rfl rfl ?_
        refine g_iload_n 44 (gd rfl) rfl rfl ?_
        refine g_lconst 0 45 (gd rfl) rfl rfl ?_
        refine g_lastore 46 (gd rfl) rfl (n := 60) rfl (in_ix i36 rfl) ?_
        have hI45 := inv_sL (q := 175) (j := y33_2.toNatClampNeg) (x := (Int64.ofInt 0)) hIc33 rfl (l_rng (Int64.ofInt 0))
        refine g_iinc 49 (gd rfl) rfl rfl (Nat.le_of_ble_eq_true rfl) (fun z46 e46 => ?_)
        have i46 := in_add 1 60 e46 i36 (in_c 1 rfl) rfl rfl
        refine g_goto 33 (gd rfl) rfl ?_
        have n33 : (u_109_22).toInt ≤ 60 := by first | exact n33_0 | (have a0 := oa4 ro_109_22 i36 j33_1 i46; have a4 := t_add e46 i36 (in_c 1 rfl) rfl; have a5 := in_u ((in_c 1 rfl)); omega)
        exact gg_w (by first | exact Nat.le_add_right _ _ | exact gw2 | exact gw3 | exact gwe rfl | exact gwf rfl | exact gwg rfl | exact gwh rfl | omega) (gg_f (gf_cons rfl (gf_cons rfl (gf_cons rfl gf_nil))) (ih33 (sL sc33 175 y33_2.toNatClampNeg (Int64.ofInt 0)) y33_1 z46 hI45 (fr_sL rfl hFc33) (in_w 0 0 j33_1 rfl) (in_w 0 60 i46 rfl) n33 (m_up mm33 (t_add e46 i36 (in_c 1 rfl) rfl) (in_w 1 1 (in_c 1 rfl) rfl))))
  refine g_enter2 (k := 386) (N := 165603) (by first | exact dq1 hd rfl | exact dq0 hd rfl | exact dq2 hd rfl | exact dq3 hd rfl | omega) rfl (Nat.le_of_ble_eq_true rfl) ?_
  refine g_aload_n 1 (gd rfl) rfl rfl ?_
  refine g_iconst 0 2 (gd rfl) rfl rfl ?_
  refine g_putI 5 (gd rfl) rfl rfl rfl rfl ?_
  have hI2 := inv_sF (q := 109) (j := 0) hI rfl (in_w 0 2 (in_c 0 rfl) rfl)
  refine g_aload_n 6 (gd rfl) rfl rfl ?_
  refine g_iconst 0 7 (gd rfl) rfl rfl ?_
  refine g_putI 10 (gd rfl) rfl rfl rfl rfl ?_
  have hI7 := inv_sF (q := 109) (j := 23) hI2 rfl (in_w 0 9 (in_c 0 rfl) rfl)
  refine g_aload_n 11 (gd rfl) rfl rfl ?_
  refine g_getI 14 (gd rfl) rfl rfl rfl (fun z11 e11 => ?_)
  have q11 : u_109_22 = z11 := (sF_ne rfl (sF_ne rfl (e_109_22))).trans e11.symm
  subst q11
  refine g_bipush 60 16 (gd rfl) rfl rfl ?_
  refine g_cmp_le 19 29 (gd rfl) rfl rfl (fun c16 => ?_) (fun c16 => ?_)
  · skip
    have i16 := r_le1 0 60 c16 ro_109_22 (in_c 60 rfl) rfl
    refine g_iconst 0 30 (gd rfl) rfl rfl ?_
    refine g_istore_n 31 (gd rfl) rfl (Nat.le_of_ble_eq_true rfl) ?_
    refine g_iconst 0 32 (gd rfl) rfl rfl ?_
    refine g_istore_n 33 (gd rfl) rfl (Nat.le_of_ble_eq_true rfl) ?_
    have n33 : (u_109_22).toInt ≤ 60 := by have a0 := oa2 i16 ((in_c 0 rfl)); omega
    exact gg_w (by first | exact Nat.le_of_ble_eq_true rfl | omega) (gg_f (gf_cons rfl (gf_cons rfl (gf_cons rfl gf_nil))) (ct33 61 (sF (sF s 109 0 (Int32.ofInt 0)) 109 23 (Int32.ofInt 0)) (Int32.ofInt 0) (Int32.ofInt 0) hI7 (fr_sF rfl (fr_sF rfl fr_rf)) (in_w 0 0 (in_c 0 rfl) rfl) (in_w 0 60 (in_c 0 rfl) rfl) n33 (m_in 61 (in_w 0 60 (in_c 0 rfl) rfl) rfl)))
  · skip
    have i16 := r_lt2 61 1000 c16 (in_c 60 rfl) ro_109_22 rfl
    refine g_aload_n 20 (gd rfl) rfl rfl ?_
    refine g_iconst 2 21 (gd rfl) rfl rfl ?_
    refine g_bipush 60 23 (gd rfl) rfl rfl ?_
    refine g_callv (X := _) (As := [.int (Int32.ofInt 2), .int (Int32.ofInt 60)]) (r := []) (b := A 109) (q := 109) 26 (gd rfl) rfl rfl rfl rfl rfl (ww_o rfl) (Nat.le_of_ble_eq_true rfl) (Nat.zero_le _) (Nat.zero_le _) (k_298 (by first | exact dq1 hd rfl | exact dq0 hd rfl | exact dq2 hd rfl | exact dq3 hd rfl | omega) hI7 (in_w 1 5 (in_c 2 rfl) rfl)) (fun e u h => h) (fun v u h => ?_)
    obtain ⟨s23, hI23, hF23, n23, rfl, rfl⟩ := h
    obtain ⟨z23a, e23⟩ : ∃ w, w = s23.2.2.1 109 23 := ⟨_, rfl⟩
    have i23a := inv_F hI23 0 9 rfl e23
    rw [← (show z23a = s23.2.2.1 109 23 from e23)] at n23
    show GG _ _ _ _ _ _ _ _ [] _ _ _
    refine g_bipush (-4) 28 (gd rfl) rfl rfl ?_
    exact g_ireturn (gd rfl) rfl rfl (hP _ _ ⟨s23, hI23, (fr_tr rfl (fr_sF rfl (fr_sF rfl fr_rf)) hF23), (Int32.ofInt (-4)), rfl, rfl, in_w (-4) 0 (in_c (-4) rfl) rfl⟩)
end
section
/-! methods, by vc.py -/
def fm_60_102_46 : FM := ([104], [], [(46, 2), (46, 3), (46, 4), (46, 5), (46, 6), (46, 7), (102, 4)], [])
def fm_59_102_46 : FM := ([104], [], [(46, 2), (46, 3), (46, 4), (46, 5), (46, 6), (46, 7), (102, 4)], [])
def fm_58_102_46 : FM := ([104], [], [(46, 2), (46, 3), (46, 4), (46, 5), (46, 6), (46, 7), (102, 4)], [])
def fm_61_102_46 : FM := ([104], [], [(46, 2), (46, 3), (46, 4), (46, 5), (46, 6), (46, 7), (102, 4)], [])
theorem k_60_102_46_r {Z : AmZ} {A : Nat → Nat} {ex : va_W} (kk : Nat) (ih : ∀ {s : GS} {d : Nat} {X : AmX} {x2 : Int32} {u_46_2 : Int32} {u_46_1 : Int32} {u_46_4 : Int32} {u_46_3 : Int32} {u_46_5 : Int32} {u_102_4 : Int32}, 60 + kk * 20 ≤ d → Inv s → (In x2 0 10) → (u_46_2 = s.2.2.1 46 2) → (u_46_1 = s.2.2.1 46 1) → (u_46_4 = s.2.2.1 46 4) → (u_46_3 = s.2.2.1 46 3) → (u_46_5 = s.2.2.1 46 5) → (u_102_4 = s.2.2.1 102 4) → (In u_46_1 0 120) → ((u_46_2).toInt ≤ (u_46_1).toInt) → ((u_46_4).toInt ≤ (u_46_2).toInt) → ((u_102_4).toInt ≤ (u_46_4).toInt) → (TK s) → 10 - (x2).toInt < ((kk : Nat) : Int) → GC Z d 61 [.ref (A 102), .ref (A 46), .int x2] (WW Z A s ++ ex) 0 0 (fun v u => ∃ t : GS, Inv t ∧ Fr fm_61_102_46 s t ∧ ((t.2.2.1 46 2).toInt ≤ (t.2.2.1 46 1).toInt) ∧ ((t.2.2.1 46 4).toInt ≤ (t.2.2.1 46 2).toInt) ∧ ((t.2.2.1 102 4).toInt ≤ (t.2.2.1 46 4).toInt) ∧ ((s.2.2.1 46 4).toInt - (s.2.2.1 102 4).toInt ≤ (t.2.2.1 46 4).toInt - (t.2.2.1 102 4).toInt) ∧ ∃ z : Int32, v = some (.int z) ∧ u = WW Z A t ++ ex ∧ In z 0 1 ∧ (TK t) ∧ ((z).toInt ≠ 0 → PCV s t 1)) X) : ∀ {s : GS} {d : Nat} {X : AmX} {x2 : Int32} {u_46_2 : Int32} {u_46_1 : Int32} {u_46_4 : Int32} {u_46_3 : Int32} {u_46_5 : Int32} {u_102_4 : Int32}, 65 + kk * 20 ≤ d → Inv s → (In x2 0 10) → (u_46_2 = s.2.2.1 46 2) → (u_46_1 = s.2.2.1 46 1) → (u_46_4 = s.2.2.1 46 4) → (u_46_3 = s.2.2.1 46 3) → (u_46_5 = s.2.2.1 46 5) → (u_102_4 = s.2.2.1 102 4) → (In u_46_1 0 120) → ((u_46_2).toInt ≤ (u_46_1).toInt) → ((u_46_4).toInt ≤ (u_46_2).toInt) → ((u_102_4).toInt ≤ (u_46_4).toInt) → (TK s) → 10 - (x2).toInt < ((kk : Nat) : Int) → GC Z d 60 [.ref (A 102), .ref (A 46), .int x2] (WW Z A s ++ ex) 0 0 (fun v u => ∃ t : GS, Inv t ∧ Fr fm_60_102_46 s t ∧ ((t.2.2.1 46 2).toInt ≤ (t.2.2.1 46 1).toInt) ∧ ((t.2.2.1 46 4).toInt ≤ (t.2.2.1 46 2).toInt) ∧ ((t.2.2.1 102 4).toInt ≤ (t.2.2.1 46 4).toInt) ∧ ((s.2.2.1 46 4).toInt - (s.2.2.1 102 4).toInt ≤ (t.2.2.1 46 4).toInt - (t.2.2.1 102 4).toInt) ∧ ∃ z : Int32, v = some (.int z) ∧ u = WW Z A t ++ ex ∧ In z 0 1 ∧ (TK t) ∧ ((z).toInt ≠ 0 → PCV s t 1)) X := by
  intro s d X x2 u_46_2 u_46_1 u_46_4 u_46_3 u_46_5 u_102_4 hd hI h2 e_46_2 e_46_1 e_46_4 e_46_3 e_46_5 e_102_4 r_46_1 p_0 p_1 p_2 q_0 hm
  intro post xp hP hX
  have ct13 : ∀ (k13 : Nat) (sc13 : GS) (y13_3 : Int32) (w13_46_2 : Int32) (w13_46_4 : Int32) (w13_46_3 : Int32) (w13_46_5 : Int32) (w13_102_4 : Int32), Inv sc13 → Fr fm_60_102_46 s sc13 → (In y13_3 0 120) → (w13_46_2 = sc13.2.2.1 46 2) → (w13_46_4 = sc13.2.2.1 46 4) → (w13_46_3 = sc13.2.2.1 46 3) → (w13_46_5 = sc13.2.2.1 46 5) → (w13_102_4 = sc13.2.2.1 102 4) → ((w13_46_2).toInt ≤ (u_46_1).toInt) → ((w13_46_4).toInt ≤ (w13_46_2).toInt) → ((w13_102_4).toInt ≤ (w13_46_4).toInt) → ((u_46_4).toInt - (u_102_4).toInt ≤ (w13_46_4).toInt - (w13_102_4).toInt) → (PCV s sc13 1) → (TK sc13) → 120 - (y13_3).toInt < (k13 : Int) → GG Z (d - 1) 60 post (gx xp) (1 + k13 * 900) 13 (fun j => xlook j [(0, .ref (A 102)), (1, .ref (A 46)), (2, .int x2), (3, .int y13_3)]) [] (WW Z A sc13 ++ ex) 0 0 := by
    intro k13
    induction k13 with
    | zero => intro sc13 y13_3 w13_46_2 w13_46_4 w13_46_3 w13_46_5 w13_102_4 hIc13 hFc13 j13_3 v13_46_2 v13_46_4 v13_46_3 v13_46_5 v13_102_4 n13_0 n13_1 n13_2 n13_3 g13_0 g13_1 mm13; exact m_no mm13 j13_3 rfl
    | succ k13 ih13 =>
      intro sc13 y13_3 w13_46_2 w13_46_4 w13_46_3 w13_46_5 w13_102_4 hIc13 hFc13 j13_3 v13_46_2 v13_46_4 v13_46_3 v13_46_5 v13_102_4 n13_0 n13_1 n13_2 n13_3 g13_0 g13_1 mm13
      refine gg_w (M := 1 + k13 * 900 + 900) gws ?_
      refine g_iload_n 14 (gd rfl) rfl rfl ?_
      refine g_bipush 120 16 (gd rfl) rfl rfl ?_
      refine g_cmp_ge 19 59 (gd rfl) rfl rfl (fun c16 => ?_) (fun c16 => ?_)
      · skip
        have i16 := r_le2 120 120 c16 (in_c 120 rfl) j13_3 rfl
        refine g_iconst 1 60 (gd rfl) rfl rfl ?_
        have n60 : TK sc13 := by first | exact g13_1 | exact p38a | exact p3a
        have n60a : ((Int32.ofInt 1)).toInt ≠ 0 → PCV s sc13 1 := by first | (intro _; exact g13_0) | (intro h; exact absurd rfl h)
        have n60b : (w13_46_2).toInt ≤ (u_46_1).toInt := by first | exact n13_0 | (have a0 := oa7 h2 r_46_1 ((inv_F hIc13 0 120 rfl v13_102_4)) ((inv_F hIc13 0 5 rfl v13_46_3)) ((inv_F hIc13 0 1000 rfl v13_46_4)) ((inv_F hIc13 0 1000 rfl v13_46_2)) i16; omega)
        have n60c : (sc13.2.2.1 46 2).toInt ≤ (sc13.2.2.1 46 1).toInt := by have b0 : w13_46_2 = sc13.2.2.1 46 2 := v13_46_2; have b1 : u_46_1 = sc13.2.2.1 46 1 := fr_F e_46_1 hFc13 rfl; rw [← b0, ← b1]; exact n60b
        have n60d : (w13_46_4).toInt ≤ (w13_46_2).toInt := by first | exact n13_1 | (have a0 := oa7 h2 r_46_1 ((inv_F hIc13 0 120 rfl v13_102_4)) ((inv_F hIc13 0 5 rfl v13_46_3)) ((inv_F hIc13 0 1000 rfl v13_46_4)) ((inv_F hIc13 0 1000 rfl v13_46_2)) i16; omega)
        have n60e : (sc13.2.2.1 46 4).toInt ≤ (sc13.2.2.1 46 2).toInt := by have b0 : w13_46_4 = sc13.2.2.1 46 4 := v13_46_4; have b1 : w13_46_2 = sc13.2.2.1 46 2 := v13_46_2; rw [← b0, ← b1]; exact n60d
        have n60f : (w13_102_4).toInt ≤ (w13_46_4).toInt := by first | exact n13_2 | (have a0 := oa7 h2 r_46_1 ((inv_F hIc13 0 120 rfl v13_102_4)) ((inv_F hIc13 0 5 rfl v13_46_3)) ((inv_F hIc13 0 1000 rfl v13_46_4)) ((inv_F hIc13 0 1000 rfl v13_46_2)) i16; omega)
        have n60g : (sc13.2.2.1 102 4).toInt ≤ (sc13.2.2.1 46 4).toInt := by have b0 : w13_102_4 = sc13.2.2.1 102 4 := v13_102_4; have b1 : w13_46_4 = sc13.2.2.1 46 4 := v13_46_4; rw [← b0, ← b1]; exact n60f
        have n60h : (u_46_4).toInt - (u_102_4).toInt ≤ (w13_46_4).toInt - (w13_102_4).toInt := by first | exact n13_3 | (have a0 := oa7 h2 r_46_1 ((inv_F hIc13 0 120 rfl v13_102_4)) ((inv_F hIc13 0 5 rfl v13_46_3)) ((inv_F hIc13 0 1000 rfl v13_46_4)) ((inv_F hIc13 0 1000 rfl v13_46_2)) i16; omega)
        have n60i : (s.2.2.1 46 4).toInt - (s.2.2.1 102 4).toInt ≤ (sc13.2.2.1 46 4).toInt - (sc13.2.2.1 102 4).toInt := by have b0 : w13_46_4 = sc13.2.2.1 46 4 := v13_46_4; have b1 : w13_102_4 = sc13.2.2.1 102 4 := v13_102_4; first | (rw [← b0, ← b1, ← e_46_4, ← e_102_4]; exact n60h) | (rw [← b0, ← b1]; exact n60h)
        exact g_ireturn (gd rfl) rfl (nb01 (in_w 0 1 (in_c 1 rfl) rfl)) (hP _ _ ⟨sc13, hIc13, hFc13, n60c, n60e, n60g, n60i, (Int32.ofInt 1), rfl, rfl, in_w 0 1 (in_c 1 rfl) rfl, n60, n60a⟩)
      · skip
        have i16 := r_lt1 0 119 c16 j13_3 (in_c 120 rfl) rfl
        refine g_aload_n 20 (gd rfl) rfl rfl ?_
        refine g_bipush 42 22 (gd rfl) rfl rfl ?_
        refine g_callv (X := _) (As := [.int (Int32.ofInt 42)]) (r := []) (b := A 46) (q := 46) 25 (gd rfl) rfl rfl rfl rfl rfl (ww_o rfl) (Nat.le_of_ble_eq_true rfl) (mc := 0) (ms := 0) (Nat.zero_le _) (Nat.zero_le _) (P := fun v u => _) ?_ (fun e u h => h) (fun v u h => h)
        intro po22 xx22 hp22 hx22
        refine g_enter2 (k := 170) (N := 300) (by first | exact dq1 hd rfl | exact dq0 hd rfl | exact dq2 hd rfl | exact dq3 hd rfl | omega) rfl (Nat.le_of_ble_eq_true rfl) ?_
        refine g_aload_n 1 (gd rfl) rfl rfl ?_
        refine g_getI 4 (gd rfl) rfl rfl rfl (fun z22x1 e22x1 => ?_)
        have q22x1 : w13_46_3 = z22x1 := (v13_46_3).trans e22x1.symm
        subst q22x1
        refine g_iconst 3 5 (gd rfl) rfl rfl ?_
        refine g_cmp_ne 8 20 (gd rfl) rfl rfl (fun c22x5 => ?_) (fun c22x5 => ?_)
        · skip
          refine g_iconst 0 21 (gd rfl) rfl rfl ?_
          refine g_ireturn (gd rfl) rfl (nb01 (in_w 0 1 (in_c 0 rfl) rfl)) (hp22 _ _ ?_)
          show GG _ _ _ _ _ _ _ _ [.int (Int32.ofInt 0)] _ _ _
          refine g_if_eq 28 59 (gd rfl) rfl rfl (fun c25 => ?_) (fun c25 => ?_)
          · skip
            refine g_iconst 1 60 (gd rfl) rfl rfl ?_
            have n60 : TK sc13 := by first | exact g13_1 | exact p38a | exact p3a
            have n60a : ((Int32.ofInt 1)).toInt ≠ 0 → PCV s sc13 1 := by first | (intro _; exact g13_0) | (intro h; exact absurd rfl h)
            have n60b : (w13_46_2).toInt ≤ (u_46_1).toInt := by first | exact n13_0 | (have a0 := oa7 h2 r_46_1 ((inv_F hIc13 0 120 rfl v13_102_4)) ((inv_F hIc13 0 5 rfl v13_46_3)) ((inv_F hIc13 0 1000 rfl v13_46_4)) ((inv_F hIc13 0 1000 rfl v13_46_2)) i16; omega)
            have n60c : (sc13.2.2.1 46 2).toInt ≤ (sc13.2.2.1 46 1).toInt := by have b0 : w13_46_2 = sc13.2.2.1 46 2 := v13_46_2; have b1 : u_46_1 = sc13.2.2.1 46 1 := fr_F e_46_1 hFc13 rfl; rw [← b0, ← b1]; exact n60b
            have n60d : (w13_46_4).toInt ≤ (w13_46_2).toInt := by first | exact n13_1 | (have a0 := oa7 h2 r_46_1 ((inv_F hIc13 0 120 rfl v13_102_4)) ((inv_F hIc13 0 5 rfl v13_46_3)) ((inv_F hIc13 0 1000 rfl v13_46_4)) ((inv_F hIc13 0 1000 rfl v13_46_2)) i16; omega)
            have n60e : (sc13.2.2.1 46 4).toInt ≤ (sc13.2.2.1 46 2).toInt := by have b0 : w13_46_4 = sc13.2.2.1 46 4 := v13_46_4; have b1 : w13_46_2 = sc13.2.2.1 46 2 := v13_46_2; rw [← b0, ← b1]; exact n60d
            have n60f : (w13_102_4).toInt ≤ (w13_46_4).toInt := by first | exact n13_2 | (have a0 := oa7 h2 r_46_1 ((inv_F hIc13 0 120 rfl v13_102_4)) ((inv_F hIc13 0 5 rfl v13_46_3)) ((inv_F hIc13 0 1000 rfl v13_46_4)) ((inv_F hIc13 0 1000 rfl v13_46_2)) i16; omega)
            have n60g : (sc13.2.2.1 102 4).toInt ≤ (sc13.2.2.1 46 4).toInt := by have b0 : w13_102_4 = sc13.2.2.1 102 4 := v13_102_4; have b1 : w13_46_4 = sc13.2.2.1 46 4 := v13_46_4; rw [← b0, ← b1]; exact n60f
            have n60h : (u_46_4).toInt - (u_102_4).toInt ≤ (w13_46_4).toInt - (w13_102_4).toInt := by first | exact n13_3 | (have a0 := oa7 h2 r_46_1 ((inv_F hIc13 0 120 rfl v13_102_4)) ((inv_F hIc13 0 5 rfl v13_46_3)) ((inv_F hIc13 0 1000 rfl v13_46_4)) ((inv_F hIc13 0 1000 rfl v13_46_2)) i16; omega)
            have n60i : (s.2.2.1 46 4).toInt - (s.2.2.1 102 4).toInt ≤ (sc13.2.2.1 46 4).toInt - (sc13.2.2.1 102 4).toInt := by have b0 : w13_46_4 = sc13.2.2.1 46 4 := v13_46_4; have b1 : w13_102_4 = sc13.2.2.1 102 4 := v13_102_4; first | (rw [← b0, ← b1, ← e_46_4, ← e_102_4]; exact n60h) | (rw [← b0, ← b1]; exact n60h)
            exact g_ireturn (gd rfl) rfl (nb01 (in_w 0 1 (in_c 1 rfl) rfl)) (hP _ _ ⟨sc13, hIc13, hFc13, n60c, n60e, n60g, n60i, (Int32.ofInt 1), rfl, rfl, in_w 0 1 (in_c 1 rfl) rfl, n60, n60a⟩)
          · skip
            exact zn_ne c25 (in_c 0 rfl) rfl
        · skip
          have i22x5 := r_eq1 3 3 c22x5 (inv_F hIc13 0 5 rfl v13_46_3) (in_c 3 rfl) rfl
          refine g_aload_n 9 (gd rfl) rfl rfl ?_
          refine g_getI 12 (gd rfl) rfl rfl rfl (fun z22x9 e22x9 => ?_)
          have q22x9 : w13_46_5 = z22x9 := (v13_46_5).trans e22x9.symm
          subst q22x9
          refine g_iload_n 13 (gd rfl) rfl rfl ?_
          refine g_cmp_ne 16 20 (gd rfl) rfl rfl (fun c22x13 => ?_) (fun c22x13 => ?_)
          · skip
            refine g_iconst 0 21 (gd rfl) rfl rfl ?_
            refine g_ireturn (gd rfl) rfl (nb01 (in_w 0 1 (in_c 0 rfl) rfl)) (hp22 _ _ ?_)
            show GG _ _ _ _ _ _ _ _ [.int (Int32.ofInt 0)] _ _ _
            refine g_if_eq 28 59 (gd rfl) rfl rfl (fun c25 => ?_) (fun c25 => ?_)
            · skip
              refine g_iconst 1 60 (gd rfl) rfl rfl ?_
              have n60 : TK sc13 := by first | exact g13_1 | exact p38a | exact p3a
              have n60a : ((Int32.ofInt 1)).toInt ≠ 0 → PCV s sc13 1 := by first | (intro _; exact g13_0) | (intro h; exact absurd rfl h)
              have n60b : (w13_46_2).toInt ≤ (u_46_1).toInt := by first | exact n13_0 | (have a0 := oa7 h2 r_46_1 ((inv_F hIc13 0 120 rfl v13_102_4)) i22x5 ((inv_F hIc13 0 1000 rfl v13_46_4)) ((inv_F hIc13 0 1000 rfl v13_46_2)) i16; omega)
              have n60c : (sc13.2.2.1 46 2).toInt ≤ (sc13.2.2.1 46 1).toInt := by have b0 : w13_46_2 = sc13.2.2.1 46 2 := v13_46_2; have b1 : u_46_1 = sc13.2.2.1 46 1 := fr_F e_46_1 hFc13 rfl; rw [← b0, ← b1]; exact n60b
              have n60d : (w13_46_4).toInt ≤ (w13_46_2).toInt := by first | exact n13_1 | (have a0 := oa7 h2 r_46_1 ((inv_F hIc13 0 120 rfl v13_102_4)) i22x5 ((inv_F hIc13 0 1000 rfl v13_46_4)) ((inv_F hIc13 0 1000 rfl v13_46_2)) i16; omega)
              have n60e : (sc13.2.2.1 46 4).toInt ≤ (sc13.2.2.1 46 2).toInt := by have b0 : w13_46_4 = sc13.2.2.1 46 4 := v13_46_4; have b1 : w13_46_2 = sc13.2.2.1 46 2 := v13_46_2; rw [← b0, ← b1]; exact n60d
              have n60f : (w13_102_4).toInt ≤ (w13_46_4).toInt := by first | exact n13_2 | (have a0 := oa7 h2 r_46_1 ((inv_F hIc13 0 120 rfl v13_102_4)) i22x5 ((inv_F hIc13 0 1000 rfl v13_46_4)) ((inv_F hIc13 0 1000 rfl v13_46_2)) i16; omega)
              have n60g : (sc13.2.2.1 102 4).toInt ≤ (sc13.2.2.1 46 4).toInt := by have b0 : w13_102_4 = sc13.2.2.1 102 4 := v13_102_4; have b1 : w13_46_4 = sc13.2.2.1 46 4 := v13_46_4; rw [← b0, ← b1]; exact n60f
              have n60h : (u_46_4).toInt - (u_102_4).toInt ≤ (w13_46_4).toInt - (w13_102_4).toInt := by first | exact n13_3 | (have a0 := oa7 h2 r_46_1 ((inv_F hIc13 0 120 rfl v13_102_4)) i22x5 ((inv_F hIc13 0 1000 rfl v13_46_4)) ((inv_F hIc13 0 1000 rfl v13_46_2)) i16; omega)
              have n60i : (s.2.2.1 46 4).toInt - (s.2.2.1 102 4).toInt ≤ (sc13.2.2.1 46 4).toInt - (sc13.2.2.1 102 4).toInt := by have b0 : w13_46_4 = sc13.2.2.1 46 4 := v13_46_4; have b1 : w13_102_4 = sc13.2.2.1 102 4 := v13_102_4; first | (rw [← b0, ← b1, ← e_46_4, ← e_102_4]; exact n60h) | (rw [← b0, ← b1]; exact n60h)
              exact g_ireturn (gd rfl) rfl (nb01 (in_w 0 1 (in_c 1 rfl) rfl)) (hP _ _ ⟨sc13, hIc13, hFc13, n60c, n60e, n60g, n60i, (Int32.ofInt 1), rfl, rfl, in_w 0 1 (in_c 1 rfl) rfl, n60, n60a⟩)
            · skip
              exact zn_ne c25 (in_c 0 rfl) rfl
          · skip
            have i22x13 := r_eq1 42 42 c22x13 (inv_F hIc13 (-2147483648) 2147483647 rfl v13_46_5) (in_c 42 rfl) rfl
            refine g_iconst 1 17 (gd rfl) rfl rfl ?_
            refine g_goto 21 (gd rfl) rfl ?_
            refine g_ireturn (gd rfl) rfl (nb01 (in_w 0 1 (in_c 1 rfl) rfl)) (hp22 _ _ ?_)
            show GG _ _ _ _ _ _ _ _ [.int (Int32.ofInt 1)] _ _ _
            refine g_if_eq 28 59 (gd rfl) rfl rfl (fun c25 => ?_) (fun c25 => ?_)
            · skip
              exact zn_eq c25 (in_c 1 rfl) rfl
            · skip
              refine g_aload_n 29 (gd rfl) rfl rfl ?_
              refine g_bipush 6 31 (gd rfl) rfl rfl ?_
              refine g_iconst 0 32 (gd rfl) rfl rfl ?_
              have hk := tka_1 g13_1 (show w13_46_3 = sc13.2.2.1 46 3 from v13_46_3) (show w13_46_4 = sc13.2.2.1 46 4 from v13_46_4) (show w13_46_2 = sc13.2.2.1 46 2 from v13_46_2) (by have a0 := oa8 h2 r_46_1 ((inv_F hIc13 0 120 rfl v13_102_4)) i22x13 i22x5 ((inv_F hIc13 0 1000 rfl v13_46_4)) ((inv_F hIc13 0 1000 rfl v13_46_2)) i16; omega)
              have v32 : u_46_1 = sc13.2.2.1 46 1 := fr_F e_46_1 hFc13 rfl
              have n32 : (w13_46_2).toInt ≤ (u_46_1).toInt := by first | exact n13_0 | (have a0 := oa8 h2 r_46_1 ((inv_F hIc13 0 120 rfl v13_102_4)) i22x13 i22x5 ((inv_F hIc13 0 1000 rfl v13_46_4)) ((inv_F hIc13 0 1000 rfl v13_46_2)) i16; omega)
              refine g_callv (X := _) (As := [.int (Int32.ofInt 6), .int (Int32.ofInt 0)]) (r := []) (b := A 46) (q := 46) 35 (gd rfl) rfl rfl rfl rfl rfl (ww_o rfl) (Nat.le_of_ble_eq_true rfl) (Nat.zero_le _) (Nat.zero_le _) (k_171_46 (by first | exact dq1 hd rfl | exact dq0 hd rfl | exact dq2 hd rfl | exact dq3 hd rfl | omega) hIc13 (in_w 6 7 (in_c 6 rfl) rfl) (in_w 0 1 (in_c 0 rfl) rfl) v13_46_2 v32 n32) (fun e u h => h) (fun v u h => ?_)
              obtain ⟨s32, hI32, hF32, n32a, n32b, n32c, rfl, rfl, p32, p32a⟩ := h
              obtain ⟨z32a, e32⟩ : ∃ w, w = s32.2.2.1 46 2 := ⟨_, rfl⟩
              have i32a := inv_F hI32 0 1000 rfl e32
              obtain ⟨z32b, e32a⟩ : ∃ w, w = s32.2.2.1 46 4 := ⟨_, rfl⟩
              have i32b := inv_F hI32 0 1000 rfl e32a
              rw [← (show z32a = s32.2.2.1 46 2 from e32)] at n32a
              rw [← (show u_46_1 = s32.2.2.1 46 1 from fr_F (fr_F e_46_1 hFc13 rfl) hF32 rfl)] at n32a
              rw [← (show z32a = s32.2.2.1 46 2 from e32)] at n32b
              rw [← (show z32b = s32.2.2.1 46 4 from e32a)] at n32b
              rw [← (show w13_46_2 = sc13.2.2.1 46 2 from v13_46_2)] at n32c
              rw [← (show z32b = s32.2.2.1 46 4 from e32a)] at n32c
              show GG _ _ _ _ _ _ _ _ [] _ _ _
              refine g_aload_n 36 (gd rfl) rfl rfl ?_
              refine g_aload_n 37 (gd rfl) rfl rfl ?_
              refine g_iload_n 38 (gd rfl) rfl rfl ?_
              have v38 : u_46_1 = s32.2.2.1 46 1 := fr_F (fr_F e_46_1 hFc13 rfl) hF32 rfl
              have v38a : w13_102_4 = s32.2.2.1 102 4 := fr_F (v13_102_4) hF32 rfl
              have n38 : (z32a).toInt ≤ (u_46_1).toInt := by have a0 := oa10 h2 r_46_1 ((inv_F hIc13 0 120 rfl v13_102_4)) i22x13 i22x5 ((inv_F hIc13 0 1000 rfl v13_46_4)) ((inv_F hIc13 0 1000 rfl v13_46_2)) i16 i32b i32a; omega
              have n38a : (z32b).toInt ≤ (z32a).toInt := by have a0 := oa10 h2 r_46_1 ((inv_F hIc13 0 120 rfl v13_102_4)) i22x13 i22x5 ((inv_F hIc13 0 1000 rfl v13_46_4)) ((inv_F hIc13 0 1000 rfl v13_46_2)) i16 i32b i32a; omega
              have n38b : (w13_102_4).toInt ≤ (z32b).toInt := by have a0 := oa10 h2 r_46_1 ((inv_F hIc13 0 120 rfl v13_102_4)) i22x13 i22x5 ((inv_F hIc13 0 1000 rfl v13_46_4)) ((inv_F hIc13 0 1000 rfl v13_46_2)) i16 i32b i32a; omega
              have p38 : TK s32 := by exact p32 (by decide)
              have n38c : 10 - (x2).toInt < ((kk : Nat) : Int) := by have a0 := oa10 h2 r_46_1 ((inv_F hIc13 0 120 rfl v13_102_4)) i22x13 i22x5 ((inv_F hIc13 0 1000 rfl v13_46_4)) ((inv_F hIc13 0 1000 rfl v13_46_2)) i16 i32b i32a; omega
              refine g_callv (X := _) (As := [.ref (A 46), .int x2]) (r := []) (b := A 102) (q := 102) 41 (gd rfl) rfl rfl rfl rfl rfl (ww_o rfl) (Nat.le_of_ble_eq_true rfl) (Nat.zero_le _) (Nat.zero_le _) (ih (by omega) hI32 (in_w 0 10 h2 rfl) e32 v38 e32a rfl rfl v38a (in_w 0 120 r_46_1 rfl) n38 n38a n38b p38 n38c) (fun e u h => h) (fun v u h => ?_)
              obtain ⟨s38, hI38, hF38, n38d, n38e, n38f, n38g, z38, rfl, rfl, i38, p38a, p38b⟩ := h
              obtain ⟨z38a, e38⟩ : ∃ w, w = s38.2.2.1 46 2 := ⟨_, rfl⟩
              have i38a := inv_F hI38 0 1000 rfl e38
              obtain ⟨z38b, e38a⟩ : ∃ w, w = s38.2.2.1 46 4 := ⟨_, rfl⟩
              have i38b := inv_F hI38 0 1000 rfl e38a
              obtain ⟨z38c, e38b⟩ : ∃ w, w = s38.2.2.1 102 4 := ⟨_, rfl⟩
              have i38c := inv_F hI38 0 120 rfl e38b
              rw [← (show z38a = s38.2.2.1 46 2 from e38)] at n38d
              rw [← (show u_46_1 = s38.2.2.1 46 1 from fr_F (fr_F (fr_F e_46_1 hFc13 rfl) hF32 rfl) hF38 rfl)] at n38d
              rw [← (show z38a = s38.2.2.1 46 2 from e38)] at n38e
              rw [← (show z38b = s38.2.2.1 46 4 from e38a)] at n38e
              rw [← (show z38b = s38.2.2.1 46 4 from e38a)] at n38f
              rw [← (show z38c = s38.2.2.1 102 4 from e38b)] at n38f
              rw [← (show z32b = s32.2.2.1 46 4 from e32a)] at n38g
              rw [← (show w13_102_4 = s32.2.2.1 102 4 from fr_F (v13_102_4) hF32 rfl)] at n38g
              rw [← (show z38b = s38.2.2.1 46 4 from e38a)] at n38g
              rw [← (show z38c = s38.2.2.1 102 4 from e38b)] at n38g
              show GG _ _ _ _ _ _ _ _ [.int z38] _ _ _
              refine g_if_ne 44 46 (gd rfl) rfl rfl (fun c41 => ?_) (fun c41 => ?_)
              · skip
                have i41 := z_ne 1 1 c41 i38 rfl
                refine g_aload_n 47 (gd rfl) rfl rfl ?_
                refine g_ldc 1000142 49 (gd rfl) rfl rfl ?_
                have hDe : _ = s38.2.2.1 102 4 := (show z38c = s38.2.2.1 102 4 from e38b)
                have n49 : (z38c).toInt ≤ 119 := by have a0 := oa11 h2 r_46_1 ((inv_F hIc13 0 120 rfl v13_102_4)) i22x13 i22x5 ((inv_F hIc13 0 1000 rfl v13_46_4)) ((inv_F hIc13 0 1000 rfl v13_46_2)) i16 i38c i38b i38a; omega
                refine g_callv (X := _) (As := [.int (Int32.ofInt 1000142)]) (r := []) (b := A 102) (q := 102) 52 (gd rfl) rfl rfl rfl rfl rfl (ww_o rfl) (Nat.le_of_ble_eq_true rfl) (Nat.zero_le _) (Nat.zero_le _) (k_57_102 (by first | exact dq1 hd rfl | exact dq0 hd rfl | exact dq2 hd rfl | exact dq3 hd rfl | omega) hI38 e38b n49) (fun e u h => h) (fun v u h => ?_)
                obtain ⟨s49, hI49, hF49, n49a, z49, rfl, rfl, i49, p49⟩ := h
                obtain ⟨z49a, e49⟩ : ∃ w, w = s49.2.2.1 102 4 := ⟨_, rfl⟩
                have i49a := inv_F hI49 0 120 rfl e49
                rw [← (show z38c = s38.2.2.1 102 4 from e38b)] at n49a
                rw [← (show z49a = s49.2.2.1 102 4 from e49)] at n49a
                show GG _ _ _ _ _ _ _ _ [.int z49] _ _ _
                refine g_pop 53 (gd rfl) rfl rfl ?_
                refine g_iinc 56 (gd rfl) rfl rfl (Nat.le_of_ble_eq_true rfl) (fun z53 e53 => ?_)
                have i53 := in_add 1 120 e53 i16 (in_c 1 rfl) rfl rfl
                refine g_goto 13 (gd rfl) rfl ?_
                have v13 : z38a = s49.2.2.1 46 2 := fr_F (e38) hF49 rfl
                have v13a : z38b = s49.2.2.1 46 4 := fr_F (e38a) hF49 rfl
                have n13 : (z38a).toInt ≤ (u_46_1).toInt := by have a0 := oa9 h2 r_46_1 ((inv_F hIc13 0 120 rfl v13_102_4)) i22x13 i22x5 ((inv_F hIc13 0 1000 rfl v13_46_4)) ((inv_F hIc13 0 1000 rfl v13_46_2)) i16 i53; have a9 := t_add e53 i16 (in_c 1 rfl) rfl; have a10 := oa4 ((in_c 1 rfl)) i49a i38b i38a; omega
                have n13a : (z38b).toInt ≤ (z38a).toInt := by have a0 := oa9 h2 r_46_1 ((inv_F hIc13 0 120 rfl v13_102_4)) i22x13 i22x5 ((inv_F hIc13 0 1000 rfl v13_46_4)) ((inv_F hIc13 0 1000 rfl v13_46_2)) i16 i53; have a9 := t_add e53 i16 (in_c 1 rfl) rfl; have a10 := oa4 ((in_c 1 rfl)) i49a i38b i38a; omega
                have n13b : (z49a).toInt ≤ (z38b).toInt := by have a0 := oa9 h2 r_46_1 ((inv_F hIc13 0 120 rfl v13_102_4)) i22x13 i22x5 ((inv_F hIc13 0 1000 rfl v13_46_4)) ((inv_F hIc13 0 1000 rfl v13_46_2)) i16 i53; have a9 := t_add e53 i16 (in_c 1 rfl) rfl; have a10 := oa4 ((in_c 1 rfl)) i49a i38b i38a; omega
                have n13c : (u_46_4).toInt - (u_102_4).toInt ≤ (z38b).toInt - (z49a).toInt := by have a0 := oa9 h2 r_46_1 ((inv_F hIc13 0 120 rfl v13_102_4)) i22x13 i22x5 ((inv_F hIc13 0 1000 rfl v13_46_4)) ((inv_F hIc13 0 1000 rfl v13_46_2)) i16 i53; have a9 := t_add e53 i16 (in_c 1 rfl) rfl; have a10 := oa4 ((in_c 1 rfl)) i49a i38b i38a; omega
                have n13d : PCV s s49 1 := by exact pv_st (j := 2) (k := 1) (pv_tr (j := 1) (k := 1) (pv_tr (j := 1) (k := 0) g13_0 (pv_sm (hF32.1 104 rfl) (hF32.2.2.1 102 4 rfl))) (p38b c41)) (inv_F hI38 0 120 rfl rfl).1 p49 (by rw [← (show z49a = s49.2.2.1 102 4 from e49), ← hDe]; have a0 := oa9 h2 r_46_1 ((inv_F hIc13 0 120 rfl v13_102_4)) i22x13 i22x5 ((inv_F hIc13 0 1000 rfl v13_46_4)) ((inv_F hIc13 0 1000 rfl v13_46_2)) i16 i53; have a9 := t_add e53 i16 (in_c 1 rfl) rfl; have a10 := oa4 ((in_c 1 rfl)) i49a i38b i38a; omega) (fun e => hc_b (by decide) (by decide) e)
                have n13e : TK s49 := by exact tk_fr hF49 rfl p38a
                exact gg_w (by first | exact Nat.le_add_right _ _ | exact gw2 | exact gw3 | exact gwe rfl | exact gwf rfl | exact gwg rfl | exact gwh rfl | omega) (gg_f (gf_cons rfl (gf_cons rfl (gf_cons rfl (gf_cons rfl gf_nil)))) (ih13 s49 z53 z38a z38b _ _ z49a hI49 (fr_tr rfl (fr_tr rfl (fr_tr rfl hFc13 hF32) hF38) hF49) (in_w 0 120 i53 rfl) v13 v13a rfl rfl e49 n13 n13a n13b n13c n13d n13e (m_up mm13 (t_add e53 i16 (in_c 1 rfl) rfl) (in_w 1 1 (in_c 1 rfl) rfl))))
              · skip
                have i41 := z_eq 0 0 c41 i38 rfl
                refine g_iconst 0 45 (gd rfl) rfl rfl ?_
                have n45 : TK s38 := by first | exact g13_1 | exact p38a | exact p3a
                have n45a : ((Int32.ofInt 0)).toInt ≠ 0 → PCV s s38 1 := by first | (intro _; exact g13_0) | (intro h; exact absurd rfl h)
                have n45b : (z38a).toInt ≤ (u_46_1).toInt := by have a0 := oa11 h2 r_46_1 ((inv_F hIc13 0 120 rfl v13_102_4)) i22x13 i22x5 ((inv_F hIc13 0 1000 rfl v13_46_4)) ((inv_F hIc13 0 1000 rfl v13_46_2)) i16 i38c i38b i38a; omega
                have n45c : (s38.2.2.1 46 2).toInt ≤ (s38.2.2.1 46 1).toInt := by have b0 : z38a = s38.2.2.1 46 2 := e38; have b1 : u_46_1 = s38.2.2.1 46 1 := fr_F (fr_F (fr_F e_46_1 hFc13 rfl) hF32 rfl) hF38 rfl; rw [← b0, ← b1]; exact n45b
                have n45d : (z38b).toInt ≤ (z38a).toInt := by have a0 := oa11 h2 r_46_1 ((inv_F hIc13 0 120 rfl v13_102_4)) i22x13 i22x5 ((inv_F hIc13 0 1000 rfl v13_46_4)) ((inv_F hIc13 0 1000 rfl v13_46_2)) i16 i38c i38b i38a; omega
                have n45e : (s38.2.2.1 46 4).toInt ≤ (s38.2.2.1 46 2).toInt := by have b0 : z38b = s38.2.2.1 46 4 := e38a; have b1 : z38a = s38.2.2.1 46 2 := e38; rw [← b0, ← b1]; exact n45d
                have n45f : (z38c).toInt ≤ (z38b).toInt := by have a0 := oa11 h2 r_46_1 ((inv_F hIc13 0 120 rfl v13_102_4)) i22x13 i22x5 ((inv_F hIc13 0 1000 rfl v13_46_4)) ((inv_F hIc13 0 1000 rfl v13_46_2)) i16 i38c i38b i38a; omega
                have n45g : (s38.2.2.1 102 4).toInt ≤ (s38.2.2.1 46 4).toInt := by have b0 : z38c = s38.2.2.1 102 4 := e38b; have b1 : z38b = s38.2.2.1 46 4 := e38a; rw [← b0, ← b1]; exact n45f
                have n45h : (u_46_4).toInt - (u_102_4).toInt ≤ (z38b).toInt - (z38c).toInt := by have a0 := oa11 h2 r_46_1 ((inv_F hIc13 0 120 rfl v13_102_4)) i22x13 i22x5 ((inv_F hIc13 0 1000 rfl v13_46_4)) ((inv_F hIc13 0 1000 rfl v13_46_2)) i16 i38c i38b i38a; omega
                have n45i : (s.2.2.1 46 4).toInt - (s.2.2.1 102 4).toInt ≤ (s38.2.2.1 46 4).toInt - (s38.2.2.1 102 4).toInt := by have b0 : z38b = s38.2.2.1 46 4 := e38a; have b1 : z38c = s38.2.2.1 102 4 := e38b; first | (rw [← b0, ← b1, ← e_46_4, ← e_102_4]; exact n45h) | (rw [← b0, ← b1]; exact n45h)
                exact g_ireturn (gd rfl) rfl (nb01 (in_w 0 1 (in_c 0 rfl) rfl)) (hP _ _ ⟨s38, hI38, (fr_tr rfl (fr_tr rfl hFc13 hF32) hF38), n45c, n45e, n45g, n45i, (Int32.ofInt 0), rfl, rfl, in_w 0 1 (in_c 0 rfl) rfl, n45, n45a⟩)
  refine g_enter2 (k := 60) (N := 109801) (by first | exact dq1 hd rfl | exact dq0 hd rfl | exact dq2 hd rfl | exact dq3 hd rfl | omega) rfl (Nat.le_of_ble_eq_true rfl) ?_
  refine g_aload_n 1 (gd rfl) rfl rfl ?_
  refine g_aload_n 2 (gd rfl) rfl rfl ?_
  refine g_iload_n 3 (gd rfl) rfl rfl ?_
  have n3 : (u_46_2).toInt ≤ (u_46_1).toInt := by have a0 := oa6 ((inv_F hI 0 120 rfl e_102_4)) ((inv_F hI 0 5 rfl e_46_3)) ((inv_F hI 0 1000 rfl e_46_4)) r_46_1 ((inv_F hI 0 1000 rfl e_46_2)) h2; omega
  have n3a : (u_46_4).toInt ≤ (u_46_2).toInt := by have a0 := oa6 ((inv_F hI 0 120 rfl e_102_4)) ((inv_F hI 0 5 rfl e_46_3)) ((inv_F hI 0 1000 rfl e_46_4)) r_46_1 ((inv_F hI 0 1000 rfl e_46_2)) h2; omega
  have n3b : (u_102_4).toInt ≤ (u_46_4).toInt := by have a0 := oa6 ((inv_F hI 0 120 rfl e_102_4)) ((inv_F hI 0 5 rfl e_46_3)) ((inv_F hI 0 1000 rfl e_46_4)) r_46_1 ((inv_F hI 0 1000 rfl e_46_2)) h2; omega
  have p3 : TK s := by exact q_0
  have n3c : 10 - (x2).toInt < ((kk : Nat) : Int) := by have a0 := oa6 ((inv_F hI 0 120 rfl e_102_4)) ((inv_F hI 0 5 rfl e_46_3)) ((inv_F hI 0 1000 rfl e_46_4)) r_46_1 ((inv_F hI 0 1000 rfl e_46_2)) h2; omega
  refine g_callv (X := _) (As := [.ref (A 46), .int x2]) (r := []) (b := A 102) (q := 102) 6 (gd rfl) rfl rfl rfl rfl rfl (ww_o rfl) (Nat.le_of_ble_eq_true rfl) (Nat.zero_le _) (Nat.zero_le _) (ih (by omega) hI (in_w 0 10 h2 rfl) e_46_2 e_46_1 e_46_4 e_46_3 e_46_5 e_102_4 (in_w 0 120 r_46_1 rfl) n3 n3a n3b p3 n3c) (fun e u h => h) (fun v u h => ?_)
  obtain ⟨s3, hI3, hF3, n3d, n3e, n3f, n3g, z3, rfl, rfl, i3, p3a, p3b⟩ := h
  obtain ⟨z3a, e3⟩ : ∃ w, w = s3.2.2.1 46 2 := ⟨_, rfl⟩
  have i3a := inv_F hI3 0 1000 rfl e3
  obtain ⟨z3b, e3a⟩ : ∃ w, w = s3.2.2.1 46 4 := ⟨_, rfl⟩
  have i3b := inv_F hI3 0 1000 rfl e3a
  obtain ⟨z3c, e3b⟩ : ∃ w, w = s3.2.2.1 102 4 := ⟨_, rfl⟩
  have i3c := inv_F hI3 0 120 rfl e3b
  rw [← (show z3a = s3.2.2.1 46 2 from e3)] at n3d
  rw [← (show u_46_1 = s3.2.2.1 46 1 from fr_F (e_46_1) hF3 rfl)] at n3d
  rw [← (show z3a = s3.2.2.1 46 2 from e3)] at n3e
  rw [← (show z3b = s3.2.2.1 46 4 from e3a)] at n3e
  rw [← (show z3b = s3.2.2.1 46 4 from e3a)] at n3f
  rw [← (show z3c = s3.2.2.1 102 4 from e3b)] at n3f
  rw [← (show u_46_4 = s.2.2.1 46 4 from e_46_4)] at n3g
  rw [← (show u_102_4 = s.2.2.1 102 4 from e_102_4)] at n3g
  rw [← (show z3b = s3.2.2.1 46 4 from e3a)] at n3g
  rw [← (show z3c = s3.2.2.1 102 4 from e3b)] at n3g
  show GG _ _ _ _ _ _ _ _ [.int z3] _ _ _
  refine g_if_ne 9 11 (gd rfl) rfl rfl (fun c6 => ?_) (fun c6 => ?_)
  · skip
    have i6 := z_ne 1 1 c6 i3 rfl
    refine g_iconst 0 12 (gd rfl) rfl rfl ?_
    refine g_istore_n 13 (gd rfl) rfl (Nat.le_of_ble_eq_true rfl) ?_
    have n13 : (z3a).toInt ≤ (u_46_1).toInt := by have a0 := oa10 ((inv_F hI 0 120 rfl e_102_4)) ((inv_F hI 0 5 rfl e_46_3)) ((inv_F hI 0 1000 rfl e_46_4)) r_46_1 ((inv_F hI 0 1000 rfl e_46_2)) h2 ((in_c 0 rfl)) i3c i3b i3a; omega
    have n13a : (z3b).toInt ≤ (z3a).toInt := by have a0 := oa10 ((inv_F hI 0 120 rfl e_102_4)) ((inv_F hI 0 5 rfl e_46_3)) ((inv_F hI 0 1000 rfl e_46_4)) r_46_1 ((inv_F hI 0 1000 rfl e_46_2)) h2 ((in_c 0 rfl)) i3c i3b i3a; omega
    have n13b : (z3c).toInt ≤ (z3b).toInt := by have a0 := oa10 ((inv_F hI 0 120 rfl e_102_4)) ((inv_F hI 0 5 rfl e_46_3)) ((inv_F hI 0 1000 rfl e_46_4)) r_46_1 ((inv_F hI 0 1000 rfl e_46_2)) h2 ((in_c 0 rfl)) i3c i3b i3a; omega
    have n13c : (u_46_4).toInt - (u_102_4).toInt ≤ (z3b).toInt - (z3c).toInt := by have a0 := oa10 ((inv_F hI 0 120 rfl e_102_4)) ((inv_F hI 0 5 rfl e_46_3)) ((inv_F hI 0 1000 rfl e_46_4)) r_46_1 ((inv_F hI 0 1000 rfl e_46_2)) h2 ((in_c 0 rfl)) i3c i3b i3a; omega
    have n13d : PCV s s3 1 := by exact p3b c6
    have n13e : TK s3 := by exact p3a
    exact gg_w (by first | exact Nat.le_of_ble_eq_true rfl | omega) (gg_f (gf_cons rfl (gf_cons rfl (gf_cons rfl (gf_cons rfl gf_nil)))) (ct13 121 s3 (Int32.ofInt 0) z3a z3b _ _ z3c hI3 (fr_tr rfl fr_rf hF3) (in_w 0 120 (in_c 0 rfl) rfl) e3 e3a rfl rfl e3b n13 n13a n13b n13c n13d n13e (m_in 121 (in_w 0 120 (in_c 0 rfl) rfl) rfl)))
  · skip
    have i6 := z_eq 0 0 c6 i3 rfl
    refine g_iconst 0 10 (gd rfl) rfl rfl ?_
    have n10 : TK s3 := by first | exact g13_1 | exact p38a | exact p3a
    have n10a : ((Int32.ofInt 0)).toInt ≠ 0 → PCV s s3 1 := by first | (intro _; exact g13_0) | (intro h; exact absurd rfl h)
    have n10b : (z3a).toInt ≤ (u_46_1).toInt := by have a0 := oa9 ((inv_F hI 0 120 rfl e_102_4)) ((inv_F hI 0 5 rfl e_46_3)) ((inv_F hI 0 1000 rfl e_46_4)) r_46_1 ((inv_F hI 0 1000 rfl e_46_2)) h2 i3c i3b i3a; omega
    have n10c : (s3.2.2.1 46 2).toInt ≤ (s3.2.2.1 46 1).toInt := by have b0 : z3a = s3.2.2.1 46 2 := e3; have b1 : u_46_1 = s3.2.2.1 46 1 := fr_F (e_46_1) hF3 rfl; rw [← b0, ← b1]; exact n10b
    have n10d : (z3b).toInt ≤ (z3a).toInt := by have a0 := oa9 ((inv_F hI 0 120 rfl e_102_4)) ((inv_F hI 0 5 rfl e_46_3)) ((inv_F hI 0 1000 rfl e_46_4)) r_46_1 ((inv_F hI 0 1000 rfl e_46_2)) h2 i3c i3b i3a; omega
    have n10e : (s3.2.2.1 46 4).toInt ≤ (s3.2.2.1 46 2).toInt := by have b0 : z3b = s3.2.2.1 46 4 := e3a; have b1 : z3a = s3.2.2.1 46 2 := e3; rw [← b0, ← b1]; exact n10d
    have n10f : (z3c).toInt ≤ (z3b).toInt := by have a0 := oa9 ((inv_F hI 0 120 rfl e_102_4)) ((inv_F hI 0 5 rfl e_46_3)) ((inv_F hI 0 1000 rfl e_46_4)) r_46_1 ((inv_F hI 0 1000 rfl e_46_2)) h2 i3c i3b i3a; omega
    have n10g : (s3.2.2.1 102 4).toInt ≤ (s3.2.2.1 46 4).toInt := by have b0 : z3c = s3.2.2.1 102 4 := e3b; have b1 : z3b = s3.2.2.1 46 4 := e3a; rw [← b0, ← b1]; exact n10f
    have n10h : (u_46_4).toInt - (u_102_4).toInt ≤ (z3b).toInt - (z3c).toInt := by have a0 := oa9 ((inv_F hI 0 120 rfl e_102_4)) ((inv_F hI 0 5 rfl e_46_3)) ((inv_F hI 0 1000 rfl e_46_4)) r_46_1 ((inv_F hI 0 1000 rfl e_46_2)) h2 i3c i3b i3a; omega
    have n10i : (s.2.2.1 46 4).toInt - (s.2.2.1 102 4).toInt ≤ (s3.2.2.1 46 4).toInt - (s3.2.2.1 102 4).toInt := by have b0 : z3b = s3.2.2.1 46 4 := e3a; have b1 : z3c = s3.2.2.1 102 4 := e3b; first | (rw [← b0, ← b1, ← e_46_4, ← e_102_4]; exact n10h) | (rw [← b0, ← b1]; exact n10h)
    exact g_ireturn (gd rfl) rfl (nb01 (in_w 0 1 (in_c 0 rfl) rfl)) (hP _ _ ⟨s3, hI3, (fr_tr rfl fr_rf hF3), n10c, n10e, n10g, n10i, (Int32.ofInt 0), rfl, rfl, in_w 0 1 (in_c 0 rfl) rfl, n10, n10a⟩)
theorem k_59_102_46_r {Z : AmZ} {A : Nat → Nat} {ex : va_W} (kk : Nat) (ih : ∀ {s : GS} {d : Nat} {X : AmX} {x2 : Int32} {u_46_2 : Int32} {u_46_1 : Int32} {u_46_4 : Int32} {u_46_3 : Int32} {u_46_5 : Int32} {u_102_4 : Int32}, 65 + kk * 20 ≤ d → Inv s → (In x2 0 10) → (u_46_2 = s.2.2.1 46 2) → (u_46_1 = s.2.2.1 46 1) → (u_46_4 = s.2.2.1 46 4) → (u_46_3 = s.2.2.1 46 3) → (u_46_5 = s.2.2.1 46 5) → (u_102_4 = s.2.2.1 102 4) → (In u_46_1 0 120) → ((u_46_2).toInt ≤ (u_46_1).toInt) → ((u_46_4).toInt ≤ (u_46_2).toInt) → ((u_102_4).toInt ≤ (u_46_4).toInt) → (TK s) → 10 - (x2).toInt < ((kk : Nat) : Int) → GC Z d 60 [.ref (A 102), .ref (A 46), .int x2] (WW Z A s ++ ex) 0 0 (fun v u => ∃ t : GS, Inv t ∧ Fr fm_60_102_46 s t ∧ ((t.2.2.1 46 2).toInt ≤ (t.2.2.1 46 1).toInt) ∧ ((t.2.2.1 46 4).toInt ≤ (t.2.2.1 46 2).toInt) ∧ ((t.2.2.1 102 4).toInt ≤ (t.2.2.1 46 4).toInt) ∧ ((s.2.2.1 46 4).toInt - (s.2.2.1 102 4).toInt ≤ (t.2.2.1 46 4).toInt - (t.2.2.1 102 4).toInt) ∧ ∃ z : Int32, v = some (.int z) ∧ u = WW Z A t ++ ex ∧ In z 0 1 ∧ (TK t) ∧ ((z).toInt ≠ 0 → PCV s t 1)) X) : ∀ {s : GS} {d : Nat} {X : AmX} {x2 : Int32} {u_46_2 : Int32} {u_46_1 : Int32} {u_46_4 : Int32} {u_46_3 : Int32} {u_46_5 : Int32} {u_102_4 : Int32}, 70 + kk * 20 ≤ d → Inv s → (In x2 0 10) → (u_46_2 = s.2.2.1 46 2) → (u_46_1 = s.2.2.1 46 1) → (u_46_4 = s.2.2.1 46 4) → (u_46_3 = s.2.2.1 46 3) → (u_46_5 = s.2.2.1 46 5) → (u_102_4 = s.2.2.1 102 4) → (In u_46_1 0 120) → ((u_46_2).toInt ≤ (u_46_1).toInt) → ((u_46_4).toInt ≤ (u_46_2).toInt) → ((u_102_4).toInt ≤ (u_46_4).toInt) → (TK s) → 10 - (x2).toInt < ((kk : Nat) : Int) → GC Z d 59 [.ref (A 102), .ref (A 46), .int x2] (WW Z A s ++ ex) 0 0 (fun v u => ∃ t : GS, Inv t ∧ Fr fm_59_102_46 s t ∧ ((t.2.2.1 46 2).toInt ≤ (t.2.2.1 46 1).toInt) ∧ ((t.2.2.1 46 4).toInt ≤ (t.2.2.1 46 2).toInt) ∧ ((t.2.2.1 102 4).toInt ≤ (t.2.2.1 46 4).toInt) ∧ ((s.2.2.1 46 4).toInt - (s.2.2.1 102 4).toInt ≤ (t.2.2.1 46 4).toInt - (t.2.2.1 102 4).toInt) ∧ ∃ z : Int32, v = some (.int z) ∧ u = WW Z A t ++ ex ∧ In z 0 1 ∧ (TK t) ∧ ((z).toInt ≠ 0 → PCV s t 1)) X := by
  intro s d X x2 u_46_2 u_46_1 u_46_4 u_46_3 u_46_5 u_102_4 hd hI h2 e_46_2 e_46_1 e_46_4 e_46_3 e_46_5 e_102_4 r_46_1 p_0 p_1 p_2 q_0 hm
  intro post xp hP hX
  have ct13 : ∀ (k13 : Nat) (sc13 : GS) (y13_3 : Int32) (w13_46_2 : Int32) (w13_46_4 : Int32) (w13_46_3 : Int32) (w13_46_5 : Int32) (w13_102_4 : Int32), Inv sc13 → Fr fm_59_102_46 s sc13 → (In y13_3 0 120) → (w13_46_2 = sc13.2.2.1 46 2) → (w13_46_4 = sc13.2.2.1 46 4) → (w13_46_3 = sc13.2.2.1 46 3) → (w13_46_5 = sc13.2.2.1 46 5) → (w13_102_4 = sc13.2.2.1 102 4) → ((w13_46_2).toInt ≤ (u_46_1).toInt) → ((w13_46_4).toInt ≤ (w13_46_2).toInt) → ((w13_102_4).toInt ≤ (w13_46_4).toInt) → ((u_46_4).toInt - (u_102_4).toInt ≤ (w13_46_4).toInt - (w13_102_4).toInt) → (PCV s sc13 1) → (TK sc13) → 120 - (y13_3).toInt < (k13 : Int) → GG Z (d - 1) 59 post (gx xp) (1 + k13 * 900) 13 (fun j => xlook j [(0, .ref (A 102)), (1, .ref (A 46)), (2, .int x2), (3, .int y13_3)]) [] (WW Z A sc13 ++ ex) 0 0 := by
    intro k13
    induction k13 with
    | zero => intro sc13 y13_3 w13_46_2 w13_46_4 w13_46_3 w13_46_5 w13_102_4 hIc13 hFc13 j13_3 v13_46_2 v13_46_4 v13_46_3 v13_46_5 v13_102_4 n13_0 n13_1 n13_2 n13_3 g13_0 g13_1 mm13; exact m_no mm13 j13_3 rfl
    | succ k13 ih13 =>
      intro sc13 y13_3 w13_46_2 w13_46_4 w13_46_3 w13_46_5 w13_102_4 hIc13 hFc13 j13_3 v13_46_2 v13_46_4 v13_46_3 v13_46_5 v13_102_4 n13_0 n13_1 n13_2 n13_3 g13_0 g13_1 mm13
      refine gg_w (M := 1 + k13 * 900 + 900) gws ?_
      refine g_iload_n 14 (gd rfl) rfl rfl ?_
      refine g_bipush 120 16 (gd rfl) rfl rfl ?_
      refine g_cmp_ge 19 77 (gd rfl) rfl rfl (fun c16 => ?_) (fun c16 => ?_)
      · skip
        have i16 := r_le2 120 120 c16 (in_c 120 rfl) j13_3 rfl
        refine g_iconst 1 78 (gd rfl) rfl rfl ?_
        have n78 : TK sc13 := by first | exact g13_1 | exact p53a | exact p3a
        have n78a : ((Int32.ofInt 1)).toInt ≠ 0 → PCV s sc13 1 := by first | (intro _; exact g13_0) | (intro h; exact absurd rfl h)
        have n78b : (w13_46_2).toInt ≤ (u_46_1).toInt := by first | exact n13_0 | (have a0 := oa7 h2 r_46_1 ((inv_F hIc13 0 120 rfl v13_102_4)) ((inv_F hIc13 0 5 rfl v13_46_3)) ((inv_F hIc13 0 1000 rfl v13_46_4)) ((inv_F hIc13 0 1000 rfl v13_46_2)) i16; omega)
        have n78c : (sc13.2.2.1 46 2).toInt ≤ (sc13.2.2.1 46 1).toInt := by have b0 : w13_46_2 = sc13.2.2.1 46 2 := v13_46_2; have b1 : u_46_1 = sc13.2.2.1 46 1 := fr_F e_46_1 hFc13 rfl; rw [← b0, ← b1]; exact n78b
        have n78d : (w13_46_4).toInt ≤ (w13_46_2).toInt := by first | exact n13_1 | (have a0 := oa7 h2 r_46_1 ((inv_F hIc13 0 120 rfl v13_102_4)) ((inv_F hIc13 0 5 rfl v13_46_3)) ((inv_F hIc13 0 1000 rfl v13_46_4)) ((inv_F hIc13 0 1000 rfl v13_46_2)) i16; omega)
        have n78e : (sc13.2.2.1 46 4).toInt ≤ (sc13.2.2.1 46 2).toInt := by have b0 : w13_46_4 = sc13.2.2.1 46 4 := v13_46_4; have b1 : w13_46_2 = sc13.2.2.1 46 2 := v13_46_2; rw [← b0, ← b1]; exact n78d
        have n78f : (w13_102_4).toInt ≤ (w13_46_4).toInt := by first | exact n13_2 | (have a0 := oa7 h2 r_46_1 ((inv_F hIc13 0 120 rfl v13_102_4)) ((inv_F hIc13 0 5 rfl v13_46_3)) ((inv_F hIc13 0 1000 rfl v13_46_4)) ((inv_F hIc13 0 1000 rfl v13_46_2)) i16; omega)
        have n78g : (sc13.2.2.1 102 4).toInt ≤ (sc13.2.2.1 46 4).toInt := by have b0 : w13_102_4 = sc13.2.2.1 102 4 := v13_102_4; have b1 : w13_46_4 = sc13.2.2.1 46 4 := v13_46_4; rw [← b0, ← b1]; exact n78f
        have n78h : (u_46_4).toInt - (u_102_4).toInt ≤ (w13_46_4).toInt - (w13_102_4).toInt := by first | exact n13_3 | (have a0 := oa7 h2 r_46_1 ((inv_F hIc13 0 120 rfl v13_102_4)) ((inv_F hIc13 0 5 rfl v13_46_3)) ((inv_F hIc13 0 1000 rfl v13_46_4)) ((inv_F hIc13 0 1000 rfl v13_46_2)) i16; omega)
        have n78i : (s.2.2.1 46 4).toInt - (s.2.2.1 102 4).toInt ≤ (sc13.2.2.1 46 4).toInt - (sc13.2.2.1 102 4).toInt := by have b0 : w13_46_4 = sc13.2.2.1 46 4 := v13_46_4; have b1 : w13_102_4 = sc13.2.2.1 102 4 := v13_102_4; first | (rw [← b0, ← b1, ← e_46_4, ← e_102_4]; exact n78h) | (rw [← b0, ← b1]; exact n78h)
        exact g_ireturn (gd rfl) rfl (nb01 (in_w 0 1 (in_c 1 rfl) rfl)) (hP _ _ ⟨sc13, hIc13, hFc13, n78c, n78e, n78g, n78i, (Int32.ofInt 1), rfl, rfl, in_w 0 1 (in_c 1 rfl) rfl, n78, n78a⟩)
      · skip
        have i16 := r_lt1 0 119 c16 j13_3 (in_c 120 rfl) rfl
        refine g_aload_n 20 (gd rfl) rfl rfl ?_
        refine g_bipush 43 22 (gd rfl) rfl rfl ?_
        refine g_callv (X := _) (As := [.int (Int32.ofInt 43)]) (r := []) (b := A 46) (q := 46) 25 (gd rfl) rfl rfl rfl rfl rfl (ww_o rfl) (Nat.le_of_ble_eq_true rfl) (mc := 0) (ms := 0) (Nat.zero_le _) (Nat.zero_le _) (P := fun v u => _) ?_ (fun e u h => h) (fun v u h => h)
        intro po22 xx22 hp22 hx22
        refine g_enter2 (k := 170) (N := 300) (by first | exact dq1 hd rfl | exact dq0 hd rfl | exact dq2 hd rfl | exact dq3 hd rfl | omega) rfl (Nat.le_of_ble_eq_true rfl) ?_
        refine g_aload_n 1 (gd rfl) rfl rfl ?_
        refine g_getI 4 (gd rfl) rfl rfl rfl (fun z22x1 e22x1 => ?_)
        have q22x1 : w13_46_3 = z22x1 := (v13_46_3).trans e22x1.symm
        subst q22x1
        refine g_iconst 3 5 (gd rfl) rfl rfl ?_
        refine g_cmp_ne 8 20 (gd rfl) rfl rfl (fun c22x5 => ?_) (fun c22x5 => ?_)
        · skip
          refine g_iconst 0 21 (gd rfl) rfl rfl ?_
          refine g_ireturn (gd rfl) rfl (nb01 (in_w 0 1 (in_c 0 rfl) rfl)) (hp22 _ _ ?_)
          show GG _ _ _ _ _ _ _ _ [.int (Int32.ofInt 0)] _ _ _
          refine g_if_ne 28 37 (gd rfl) rfl rfl (fun c25 => ?_) (fun c25 => ?_)
          · skip
            exact zn_ne c25 (in_c 0 rfl) rfl
          · skip
            refine g_aload_n 29 (gd rfl) rfl rfl ?_
            refine g_bipush 45 31 (gd rfl) rfl rfl ?_
            refine g_callv (X := _) (As := [.int (Int32.ofInt 45)]) (r := []) (b := A 46) (q := 46) 34 (gd rfl) rfl rfl rfl rfl rfl (ww_o rfl) (Nat.le_of_ble_eq_true rfl) (mc := 0) (ms := 0) (Nat.zero_le _) (Nat.zero_le _) (P := fun v u => _) ?_ (fun e u h => h) (fun v u h => h)
            intro po31 xx31 hp31 hx31
            refine g_enter2 (k := 170) (N := 300) (by first | exact dq1 hd rfl | exact dq0 hd rfl | exact dq2 hd rfl | exact dq3 hd rfl | omega) rfl (Nat.le_of_ble_eq_true rfl) ?_
            refine g_aload_n 1 (gd rfl) rfl rfl ?_
            refine g_getI 4 (gd rfl) rfl rfl rfl (fun z31x1 e31x1 => ?_)
            have q31x1 : w13_46_3 = z31x1 := (v13_46_3).trans e31x1.symm
            subst q31x1
            refine g_iconst 3 5 (gd rfl) rfl rfl ?_
            refine g_cmp_ne 8 20 (gd rfl) rfl rfl (fun c31x5 => ?_) (fun c31x5 => ?_)
            · skip
              refine g_iconst 0 21 (gd rfl) rfl rfl ?_
              refine g_ireturn (gd rfl) rfl (nb01 (in_w 0 1 (in_c 0 rfl) rfl)) (hp31 _ _ ?_)
              show GG _ _ _ _ _ _ _ _ [.int (Int32.ofInt 0)] _ _ _
              refine g_if_eq 37 77 (gd rfl) rfl rfl (fun c34 => ?_) (fun c34 => ?_)
              · skip
                refine g_iconst 1 78 (gd rfl) rfl rfl ?_
                have n78 : TK sc13 := by first | exact g13_1 | exact p53a | exact p3a
                have n78a : ((Int32.ofInt 1)).toInt ≠ 0 → PCV s sc13 1 := by first | (intro _; exact g13_0) | (intro h; exact absurd rfl h)
                have n78b : (w13_46_2).toInt ≤ (u_46_1).toInt := by first | exact n13_0 | (have a0 := oa7 h2 r_46_1 ((inv_F hIc13 0 120 rfl v13_102_4)) ((inv_F hIc13 0 5 rfl v13_46_3)) ((inv_F hIc13 0 1000 rfl v13_46_4)) ((inv_F hIc13 0 1000 rfl v13_46_2)) i16; omega)
                have n78c : (sc13.2.2.1 46 2).toInt ≤ (sc13.2.2.1 46 1).toInt := by have b0 : w13_46_2 = sc13.2.2.1 46 2 := v13_46_2; have b1 : u_46_1 = sc13.2.2.1 46 1 := fr_F e_46_1 hFc13 rfl; rw [← b0, ← b1]; exact n78b
                have n78d : (w13_46_4).toInt ≤ (w13_46_2).toInt := by first | exact n13_1 | (have a0 := oa7 h2 r_46_1 ((inv_F hIc13 0 120 rfl v13_102_4)) ((inv_F hIc13 0 5 rfl v13_46_3)) ((inv_F hIc13 0 1000 rfl v13_46_4)) ((inv_F hIc13 0 1000 rfl v13_46_2)) i16; omega)
                have n78e : (sc13.2.2.1 46 4).toInt ≤ (sc13.2.2.1 46 2).toInt := by have b0 : w13_46_4 = sc13.2.2.1 46 4 := v13_46_4; have b1 : w13_46_2 = sc13.2.2.1 46 2 := v13_46_2; rw [← b0, ← b1]; exact n78d
                have n78f : (w13_102_4).toInt ≤ (w13_46_4).toInt := by first | exact n13_2 | (have a0 := oa7 h2 r_46_1 ((inv_F hIc13 0 120 rfl v13_102_4)) ((inv_F hIc13 0 5 rfl v13_46_3)) ((inv_F hIc13 0 1000 rfl v13_46_4)) ((inv_F hIc13 0 1000 rfl v13_46_2)) i16; omega)
                have n78g : (sc13.2.2.1 102 4).toInt ≤ (sc13.2.2.1 46 4).toInt := by have b0 : w13_102_4 = sc13.2.2.1 102 4 := v13_102_4; have b1 : w13_46_4 = sc13.2.2.1 46 4 := v13_46_4; rw [← b0, ← b1]; exact n78f
                have n78h : (u_46_4).toInt - (u_102_4).toInt ≤ (w13_46_4).toInt - (w13_102_4).toInt := by first | exact n13_3 | (have a0 := oa7 h2 r_46_1 ((inv_F hIc13 0 120 rfl v13_102_4)) ((inv_F hIc13 0 5 rfl v13_46_3)) ((inv_F hIc13 0 1000 rfl v13_46_4)) ((inv_F hIc13 0 1000 rfl v13_46_2)) i16; omega)
                have n78i : (s.2.2.1 46 4).toInt - (s.2.2.1 102 4).toInt ≤ (sc13.2.2.1 46 4).toInt - (sc13.2.2.1 102 4).toInt := by have b0 : w13_46_4 = sc13.2.2.1 46 4 := v13_46_4; have b1 : w13_102_4 = sc13.2.2.1 102 4 := v13_102_4; first | (rw [← b0, ← b1, ← e_46_4, ← e_102_4]; exact n78h) | (rw [← b0, ← b1]; exact n78h)
                exact g_ireturn (gd rfl) rfl (nb01 (in_w 0 1 (in_c 1 rfl) rfl)) (hP _ _ ⟨sc13, hIc13, hFc13, n78c, n78e, n78g, n78i, (Int32.ofInt 1), rfl, rfl, in_w 0 1 (in_c 1 rfl) rfl, n78, n78a⟩)
              · skip
                exact zn_ne c34 (in_c 0 rfl) rfl
            · skip
              exact absurd c31x5 c22x5
        · skip
          have i22x5 := r_eq1 3 3 c22x5 (inv_F hIc13 0 5 rfl v13_46_3) (in_c 3 rfl) rfl
          refine g_aload_n 9 (gd rfl) rfl rfl ?_
          refine g_getI 12 (gd rfl) rfl rfl rfl (fun z22x9 e22x9 => ?_)
          have q22x9 : w13_46_5 = z22x9 := (v13_46_5).trans e22x9.symm
          subst q22x9
          refine g_iload_n 13 (gd rfl) rfl rfl ?_
          refine g_cmp_ne 16 20 (gd rfl) rfl rfl (fun c22x13 => ?_) (fun c22x13 => ?_)
          · skip
            refine g_iconst 0 21 (gd rfl) rfl rfl ?_
            refine g_ireturn (gd rfl) rfl (nb01 (in_w 0 1 (in_c 0 rfl) rfl)) (hp22 _ _ ?_)
            show GG _ _ _ _ _ _ _ _ [.int (Int32.ofInt 0)] _ _ _
            refine g_if_ne 28 37 (gd rfl) rfl rfl (fun c25 => ?_) (fun c25 => ?_)
            · skip
              exact zn_ne c25 (in_c 0 rfl) rfl
            · skip
              refine g_aload_n 29 (gd rfl) rfl rfl ?_
              refine g_bipush 45 31 (gd rfl) rfl rfl ?_
              refine g_callv (X := _) (As := [.int (Int32.ofInt 45)]) (r := []) (b := A 46) (q := 46) 34 (gd rfl) rfl rfl rfl rfl rfl (ww_o rfl) (Nat.le_of_ble_eq_true rfl) (mc := 0) (ms := 0) (Nat.zero_le _) (Nat.zero_le _) (P := fun v u => _) ?_ (fun e u h => h) (fun v u h => h)
              intro po31 xx31 hp31 hx31
              refine g_enter2 (k := 170) (N := 300) (by first | exact dq1 hd rfl | exact dq0 hd rfl | exact dq2 hd rfl | exact dq3 hd rfl | omega) rfl (Nat.le_of_ble_eq_true rfl) ?_
              refine g_aload_n 1 (gd rfl) rfl rfl ?_
              refine g_getI 4 (gd rfl) rfl rfl rfl (fun z31x1 e31x1 => ?_)
              have q31x1 : w13_46_3 = z31x1 := (v13_46_3).trans e31x1.symm
              subst q31x1
              refine g_iconst 3 5 (gd rfl) rfl rfl ?_
              refine g_cmp_ne 8 20 (gd rfl) rfl rfl (fun c31x5 => ?_) (fun c31x5 => ?_)
              · skip
                exact n_ne c31x5 i22x5 (in_c 3 rfl) rfl
              · skip
                refine g_aload_n 9 (gd rfl) rfl rfl ?_
                refine g_getI 12 (gd rfl) rfl rfl rfl (fun z31x9 e31x9 => ?_)
                have q31x9 : w13_46_5 = z31x9 := (v13_46_5).trans e31x9.symm
                subst q31x9
                refine g_iload_n 13 (gd rfl) rfl rfl ?_
                refine g_cmp_ne 16 20 (gd rfl) rfl rfl (fun c31x13 => ?_) (fun c31x13 => ?_)
                · skip
                  refine g_iconst 0 21 (gd rfl) rfl rfl ?_
                  refine g_ireturn (gd rfl) rfl (nb01 (in_w 0 1 (in_c 0 rfl) rfl)) (hp31 _ _ ?_)
                  show GG _ _ _ _ _ _ _ _ [.int (Int32.ofInt 0)] _ _ _
                  refine g_if_eq 37 77 (gd rfl) rfl rfl (fun c34 => ?_) (fun c34 => ?_)
                  · skip
                    refine g_iconst 1 78 (gd rfl) rfl rfl ?_
                    have n78 : TK sc13 := by first | exact g13_1 | exact p53a | exact p3a
                    have n78a : ((Int32.ofInt 1)).toInt ≠ 0 → PCV s sc13 1 := by first | (intro _; exact g13_0) | (intro h; exact absurd rfl h)
                    have n78b : (w13_46_2).toInt ≤ (u_46_1).toInt := by first | exact n13_0 | (have a0 := oa7 h2 r_46_1 ((inv_F hIc13 0 120 rfl v13_102_4)) i22x5 ((inv_F hIc13 0 1000 rfl v13_46_4)) ((inv_F hIc13 0 1000 rfl v13_46_2)) i16; omega)
                    have n78c : (sc13.2.2.1 46 2).toInt ≤ (sc13.2.2.1 46 1).toInt := by have b0 : w13_46_2 = sc13.2.2.1 46 2 := v13_46_2; have b1 : u_46_1 = sc13.2.2.1 46 1 := fr_F e_46_1 hFc13 rfl; rw [← b0, ← b1]; exact n78b
                    have n78d : (w13_46_4).toInt ≤ (w13_46_2).toInt := by first | exact n13_1 | (have a0 := oa7 h2 r_46_1 ((inv_F hIc13 0 120 rfl v13_102_4)) i22x5 ((inv_F hIc13 0 1000 rfl v13_46_4)) ((inv_F hIc13 0 1000 rfl v13_46_2)) i16; omega)
                    have n78e : (sc13.2.2.1 46 4).toInt ≤ (sc13.2.2.1 46 2).toInt := by have b0 : w13_46_4 = sc13.2.2.1 46 4 := v13_46_4; have b1 : w13_46_2 = sc13.2.2.1 46 2 := v13_46_2; rw [← b0, ← b1]; exact n78d
                    have n78f : (w13_102_4).toInt ≤ (w13_46_4).toInt := by first | exact n13_2 | (have a0 := oa7 h2 r_46_1 ((inv_F hIc13 0 120 rfl v13_102_4)) i22x5 ((inv_F hIc13 0 1000 rfl v13_46_4)) ((inv_F hIc13 0 1000 rfl v13_46_2)) i16; omega)
                    have n78g : (sc13.2.2.1 102 4).toInt ≤ (sc13.2.2.1 46 4).toInt := by have b0 : w13_102_4 = sc13.2.2.1 102 4 := v13_102_4; have b1 : w13_46_4 = sc13.2.2.1 46 4 := v13_46_4; rw [← b0, ← b1]; exact n78f
                    have n78h : (u_46_4).toInt - (u_102_4).toInt ≤ (w13_46_4).toInt - (w13_102_4).toInt := by first | exact n13_3 | (have a0 := oa7 h2 r_46_1 ((inv_F hIc13 0 120 rfl v13_102_4)) i22x5 ((inv_F hIc13 0 1000 rfl v13_46_4)) ((inv_F hIc13 0 1000 rfl v13_46_2)) i16; omega)
                    have n78i : (s.2.2.1 46 4).toInt - (s.2.2.1 102 4).toInt ≤ (sc13.2.2.1 46 4).toInt - (sc13.2.2.1 102 4).toInt := by have b0 : w13_46_4 = sc13.2.2.1 46 4 := v13_46_4; have b1 : w13_102_4 = sc13.2.2.1 102 4 := v13_102_4; first | (rw [← b0, ← b1, ← e_46_4, ← e_102_4]; exact n78h) | (rw [← b0, ← b1]; exact n78h)
                    exact g_ireturn (gd rfl) rfl (nb01 (in_w 0 1 (in_c 1 rfl) rfl)) (hP _ _ ⟨sc13, hIc13, hFc13, n78c, n78e, n78g, n78i, (Int32.ofInt 1), rfl, rfl, in_w 0 1 (in_c 1 rfl) rfl, n78, n78a⟩)
                  · skip
                    exact zn_ne c34 (in_c 0 rfl) rfl
                · skip
                  have i31x13 := r_eq1 45 45 c31x13 (inv_F hIc13 (-2147483648) 2147483647 rfl v13_46_5) (in_c 45 rfl) rfl
                  refine g_iconst 1 17 (gd rfl) rfl rfl ?_
                  refine g_goto 21 (gd rfl) rfl ?_
                  refine g_ireturn (gd rfl) rfl (nb01 (in_w 0 1 (in_c 1 rfl) rfl)) (hp31 _ _ ?_)
                  show GG _ _ _ _ _ _ _ _ [.int (Int32.ofInt 1)] _ _ _
                  refine g_if_eq 37 77 (gd rfl) rfl rfl (fun c34 => ?_) (fun c34 => ?_)
                  · skip
                    exact zn_eq c34 (in_c 1 rfl) rfl
                  · skip
                    refine g_aload_n 38 (gd rfl) rfl rfl ?_
                    refine g_getI 41 (gd rfl) rfl rfl rfl (fun z38 e38 => ?_)
                    have q38 : w13_46_5 = z38 := (v13_46_5).trans e38.symm
                    subst q38
                    refine g_istore 43 (gd rfl) rfl (Nat.le_of_ble_eq_true rfl) ?_
                    refine g_aload_n 44 (gd rfl) rfl rfl ?_
                    refine g_bipush 6 46 (gd rfl) rfl rfl ?_
                    refine g_iconst 0 47 (gd rfl) rfl rfl ?_
                    have hk := tka_1 g13_1 (show w13_46_3 = sc13.2.2.1 46 3 from v13_46_3) (show w13_46_4 = sc13.2.2.1 46 4 from v13_46_4) (show w13_46_2 = sc13.2.2.1 46 2 from v13_46_2) (by have a0 := oa8 h2 r_46_1 ((inv_F hIc13 0 120 rfl v13_102_4)) i31x13 i22x5 ((inv_F hIc13 0 1000 rfl v13_46_4)) ((inv_F hIc13 0 1000 rfl v13_46_2)) i16; omega)
                    have v47 : u_46_1 = sc13.2.2.1 46 1 := fr_F e_46_1 hFc13 rfl
                    have n47 : (w13_46_2).toInt ≤ (u_46_1).toInt := by first | exact n13_0 | (have a0 := oa8 h2 r_46_1 ((inv_F hIc13 0 120 rfl v13_102_4)) i31x13 i22x5 ((inv_F hIc13 0 1000 rfl v13_46_4)) ((inv_F hIc13 0 1000 rfl v13_46_2)) i16; omega)
                    refine g_callv (X := _) (As := [.int (Int32.ofInt 6), .int (Int32.ofInt 0)]) (r := []) (b := A 46) (q := 46) 50 (gd rfl) rfl rfl rfl rfl rfl (ww_o rfl) (Nat.le_of_ble_eq_true rfl) (Nat.zero_le _) (Nat.zero_le _) (k_171_46 (by first | exact dq1 hd rfl | exact dq0 hd rfl | exact dq2 hd rfl | exact dq3 hd rfl | omega) hIc13 (in_w 6 7 (in_c 6 rfl) rfl) (in_w 0 1 (in_c 0 rfl) rfl) v13_46_2 v47 n47) (fun e u h => h) (fun v u h => ?_)
                    obtain ⟨s47, hI47, hF47, n47a, n47b, n47c, rfl, rfl, p47, p47a⟩ := h
                    obtain ⟨z47a, e47⟩ : ∃ w, w = s47.2.2.1 46 2 := ⟨_, rfl⟩
                    have i47a := inv_F hI47 0 1000 rfl e47
                    obtain ⟨z47b, e47a⟩ : ∃ w, w = s47.2.2.1 46 4 := ⟨_, rfl⟩
                    have i47b := inv_F hI47 0 1000 rfl e47a
                    rw [← (show z47a = s47.2.2.1 46 2 from e47)] at n47a
                    rw [← (show u_46_1 = s47.2.2.1 46 1 from fr_F (fr_F e_46_1 hFc13 rfl) hF47 rfl)] at n47a
                    rw [← (show z47a = s47.2.2.1 46 2 from e47)] at n47b
                    rw [← (show z47b = s47.2.2.1 46 4 from e47a)] at n47b
                    rw [← (show w13_46_2 = sc13.2.2.1 46 2 from v13_46_2)] at n47c
                    rw [← (show z47b = s47.2.2.1 46 4 from e47a)] at n47c
                    show GG _ _ _ _ _ _ _ _ [] _ _ _
                    refine g_aload_n 51 (gd rfl) rfl rfl ?_
                    refine g_aload_n 52 (gd rfl) rfl rfl ?_
                    refine g_iload_n 53 (gd rfl) rfl rfl ?_
                    have v53 : u_46_1 = s47.2.2.1 46 1 := fr_F (fr_F e_46_1 hFc13 rfl) hF47 rfl
                    have v53a : w13_102_4 = s47.2.2.1 102 4 := fr_F (v13_102_4) hF47 rfl
                    have n53 : (z47a).toInt ≤ (u_46_1).toInt := by have a0 := oa10 h2 r_46_1 ((inv_F hIc13 0 120 rfl v13_102_4)) i31x13 i22x5 ((inv_F hIc13 0 1000 rfl v13_46_4)) ((inv_F hIc13 0 1000 rfl v13_46_2)) i16 i47b i47a; omega
                    have n53a : (z47b).toInt ≤ (z47a).toInt := by have a0 := oa10 h2 r_46_1 ((inv_F hIc13 0 120 rfl v13_102_4)) i31x13 i22x5 ((inv_F hIc13 0 1000 rfl v13_46_4)) ((inv_F hIc13 0 1000 rfl v13_46_2)) i16 i47b i47a; omega
                    have n53b : (w13_102_4).toInt ≤ (z47b).toInt := by have a0 := oa10 h2 r_46_1 ((inv_F hIc13 0 120 rfl v13_102_4)) i31x13 i22x5 ((inv_F hIc13 0 1000 rfl v13_46_4)) ((inv_F hIc13 0 1000 rfl v13_46_2)) i16 i47b i47a; omega
                    have p53 : TK s47 := by exact p47 (by decide)
                    have n53c : 10 - (x2).toInt < ((kk : Nat) : Int) := by have a0 := oa10 h2 r_46_1 ((inv_F hIc13 0 120 rfl v13_102_4)) i31x13 i22x5 ((inv_F hIc13 0 1000 rfl v13_46_4)) ((inv_F hIc13 0 1000 rfl v13_46_2)) i16 i47b i47a; omega
                    refine g_callv (X := _) (As := [.ref (A 46), .int x2]) (r := []) (b := A 102) (q := 102) 56 (gd rfl) rfl rfl rfl rfl rfl (ww_o rfl) (Nat.le_of_ble_eq_true rfl) (Nat.zero_le _) (Nat.zero_le _) (ih (by omega) hI47 (in_w 0 10 h2 rfl) e47 v53 e47a rfl rfl v53a (in_w 0 120 r_46_1 rfl) n53 n53a n53b p53 n53c) (fun e u h => h) (fun v u h => ?_)
                    obtain ⟨s53, hI53, hF53, n53d, n53e, n53f, n53g, z53, rfl, rfl, i53, p53a, p53b⟩ := h
                    obtain ⟨z53a, e53⟩ : ∃ w, w = s53.2.2.1 46 2 := ⟨_, rfl⟩
                    have i53a := inv_F hI53 0 1000 rfl e53
                    obtain ⟨z53b, e53a⟩ : ∃ w, w = s53.2.2.1 46 4 := ⟨_, rfl⟩
                    have i53b := inv_F hI53 0 1000 rfl e53a
                    obtain ⟨z53c, e53b⟩ : ∃ w, w = s53.2.2.1 102 4 := ⟨_, rfl⟩
                    have i53c := inv_F hI53 0 120 rfl e53b
                    rw [← (show z53a = s53.2.2.1 46 2 from e53)] at n53d
                    rw [← (show u_46_1 = s53.2.2.1 46 1 from fr_F (fr_F (fr_F e_46_1 hFc13 rfl) hF47 rfl) hF53 rfl)] at n53d
                    rw [← (show z53a = s53.2.2.1 46 2 from e53)] at n53e
                    rw [← (show z53b = s53.2.2.1 46 4 from e53a)] at n53e
                    rw [← (show z53b = s53.2.2.1 46 4 from e53a)] at n53f
                    rw [← (show z53c = s53.2.2.1 102 4 from e53b)] at n53f
                    rw [← (show z47b = s47.2.2.1 46 4 from e47a)] at n53g
                    rw [← (show w13_102_4 = s47.2.2.1 102 4 from fr_F (v13_102_4) hF47 rfl)] at n53g
                    rw [← (show z53b = s53.2.2.1 46 4 from e53a)] at n53g
                    rw [← (show z53c = s53.2.2.1 102 4 from e53b)] at n53g
                    show GG _ _ _ _ _ _ _ _ [.int z53] _ _ _
                    refine g_if_ne 59 61 (gd rfl) rfl rfl (fun c56 => ?_) (fun c56 => ?_)
                    · skip
                      have i56 := z_ne 1 1 c56 i53 rfl
                      refine g_aload_n 62 (gd rfl) rfl rfl ?_
                      refine g_ldc 1000100 64 (gd rfl) rfl rfl ?_
                      refine g_iload 66 (gd rfl) rfl rfl ?_
                      refine g_iadd 67 (gd rfl) rfl (fun z66 e66 => ?_)
                      have i66 := in_add 1000145 1000145 e66 (in_c 1000100 rfl) i31x13 rfl rfl
                      have hDe : _ = s53.2.2.1 102 4 := (show z53c = s53.2.2.1 102 4 from e53b)
                      have n67 : (z53c).toInt ≤ 119 := by have a0 := oa12 h2 r_46_1 ((inv_F hIc13 0 120 rfl v13_102_4)) i31x13 i22x5 ((inv_F hIc13 0 1000 rfl v13_46_4)) ((inv_F hIc13 0 1000 rfl v13_46_2)) i16 i53c i53b i53a i66; have a12 := t_add e66 (in_c 1000100 rfl) i31x13 rfl; have a13 := in_u ((in_c 1000100 rfl)); omega
                      refine g_callv (X := _) (As := [.int z66]) (r := []) (b := A 102) (q := 102) 70 (gd rfl) rfl rfl rfl rfl rfl (ww_o rfl) (Nat.le_of_ble_eq_true rfl) (Nat.zero_le _) (Nat.zero_le _) (k_57_102 (by first | exact dq1 hd rfl | exact dq0 hd rfl | exact dq2 hd rfl | exact dq3 hd rfl | omega) hI53 e53b n67) (fun e u h => h) (fun v u h => ?_)
                      obtain ⟨s67, hI67, hF67, n67a, z67, rfl, rfl, i67, p67⟩ := h
                      obtain ⟨z67a, e67⟩ : ∃ w, w = s67.2.2.1 102 4 := ⟨_, rfl⟩
                      have i67a := inv_F hI67 0 120 rfl e67
                      rw [← (show z53c = s53.2.2.1 102 4 from e53b)] at n67a
                      rw [← (show z67a = s67.2.2.1 102 4 from e67)] at n67a
                      show GG _ _ _ _ _ _ _ _ [.int z67] _ _ _
                      refine g_pop 71 (gd rfl) rfl rfl ?_
                      refine g_iinc 74 (gd rfl) rfl rfl (Nat.le_of_ble_eq_true rfl) (fun z71 e71 => ?_)
                      have i71 := in_add 1 120 e71 i16 (in_c 1 rfl) rfl rfl
                      refine g_goto 13 (gd rfl) rfl ?_
                      have v13 : z53a = s67.2.2.1 46 2 := fr_F (e53) hF67 rfl
                      have v13a : z53b = s67.2.2.1 46 4 := fr_F (e53a) hF67 rfl
                      have n13 : (z53a).toInt ≤ (u_46_1).toInt := by have a0 := oa9 h2 r_46_1 ((inv_F hIc13 0 120 rfl v13_102_4)) i31x13 i22x5 ((inv_F hIc13 0 1000 rfl v13_46_4)) ((inv_F hIc13 0 1000 rfl v13_46_2)) i16 i71; have a9 := t_add e71 i16 (in_c 1 rfl) rfl; have a10 := oa5 ((in_c 1 rfl)) i67a i53b i53a i66; have a15 := t_add e66 (in_c 1000100 rfl) i31x13 rfl; have a16 := in_u ((in_c 1000100 rfl)); omega
                      have n13a : (z53b).toInt ≤ (z53a).toInt := by have a0 := oa9 h2 r_46_1 ((inv_F hIc13 0 120 rfl v13_102_4)) i31x13 i22x5 ((inv_F hIc13 0 1000 rfl v13_46_4)) ((inv_F hIc13 0 1000 rfl v13_46_2)) i16 i71; have a9 := t_add e71 i16 (in_c 1 rfl) rfl; have a10 := oa5 ((in_c 1 rfl)) i67a i53b i53a i66; have a15 := t_add e66 (in_c 1000100 rfl) i31x13 rfl; have a16 := in_u ((in_c 1000100 rfl)); omega
                      have n13b : (z67a).toInt ≤ (z53b).toInt := by have a0 := oa9 h2 r_46_1 ((inv_F hIc13 0 120 rfl v13_102_4)) i31x13 i22x5 ((inv_F hIc13 0 1000 rfl v13_46_4)) ((inv_F hIc13 0 1000 rfl v13_46_2)) i16 i71; have a9 := t_add e71 i16 (in_c 1 rfl) rfl; have a10 := oa5 ((in_c 1 rfl)) i67a i53b i53a i66; have a15 := t_add e66 (in_c 1000100 rfl) i31x13 rfl; have a16 := in_u ((in_c 1000100 rfl)); omega
                      have n13c : (u_46_4).toInt - (u_102_4).toInt ≤ (z53b).toInt - (z67a).toInt := by have a0 := oa9 h2 r_46_1 ((inv_F hIc13 0 120 rfl v13_102_4)) i31x13 i22x5 ((inv_F hIc13 0 1000 rfl v13_46_4)) ((inv_F hIc13 0 1000 rfl v13_46_2)) i16 i71; have a9 := t_add e71 i16 (in_c 1 rfl) rfl; have a10 := oa5 ((in_c 1 rfl)) i67a i53b i53a i66; have a15 := t_add e66 (in_c 1000100 rfl) i31x13 rfl; have a16 := in_u ((in_c 1000100 rfl)); omega
                      have n13d : PCV s s67 1 := by exact pv_st (j := 2) (k := 1) (pv_tr (j := 1) (k := 1) (pv_tr (j := 1) (k := 0) g13_0 (pv_sm (hF47.1 104 rfl) (hF47.2.2.1 102 4 rfl))) (p53b c56)) (inv_F hI53 0 120 rfl rfl).1 p67 (by rw [← (show z67a = s67.2.2.1 102 4 from e67), ← hDe]; have a0 := oa9 h2 r_46_1 ((inv_F hIc13 0 120 rfl v13_102_4)) i31x13 i22x5 ((inv_F hIc13 0 1000 rfl v13_46_4)) ((inv_F hIc13 0 1000 rfl v13_46_2)) i16 i71; have a9 := t_add e71 i16 (in_c 1 rfl) rfl; have a10 := oa5 ((in_c 1 rfl)) i67a i53b i53a i66; have a15 := t_add e66 (in_c 1000100 rfl) i31x13 rfl; have a16 := in_u ((in_c 1000100 rfl)); omega) (fun e => hc_b (by have a0 := oa9 h2 r_46_1 ((inv_F hIc13 0 120 rfl v13_102_4)) i31x13 i22x5 ((inv_F hIc13 0 1000 rfl v13_46_4)) ((inv_F hIc13 0 1000 rfl v13_46_2)) i16 i71; have a9 := t_add e71 i16 (in_c 1 rfl) rfl; have a10 := oa5 ((in_c 1 rfl)) i67a i53b i53a i66; have a15 := t_add e66 (in_c 1000100 rfl) i31x13 rfl; have a16 := in_u ((in_c 1000100 rfl)); omega) (by have a0 := oa9 h2 r_46_1 ((inv_F hIc13 0 120 rfl v13_102_4)) i31x13 i22x5 ((inv_F hIc13 0 1000 rfl v13_46_4)) ((inv_F hIc13 0 1000 rfl v13_46_2)) i16 i71; have a9 := t_add e71 i16 (in_c 1 rfl) rfl; have a10 := oa5 ((in_c 1 rfl)) i67a i53b i53a i66; have a15 := t_add e66 (in_c 1000100 rfl) i31x13 rfl; have a16 := in_u ((in_c 1000100 rfl)); omega) e)
                      have n13e : TK s67 := by exact tk_fr hF67 rfl p53a
                      exact gg_w (by first | exact Nat.le_add_right _ _ | exact gw2 | exact gw3 | exact gwe rfl | exact gwf rfl | exact gwg rfl | exact gwh rfl | omega) (gg_f (gf_cons rfl (gf_cons rfl (gf_cons rfl (gf_cons rfl gf_nil)))) (ih13 s67 z71 z53a z53b _ _ z67a hI67 (fr_tr rfl (fr_tr rfl (fr_tr rfl hFc13 hF47) hF53) hF67) (in_w 0 120 i71 rfl) v13 v13a rfl rfl e67 n13 n13a n13b n13c n13d n13e (m_up mm13 (t_add e71 i16 (in_c 1 rfl) rfl) (in_w 1 1 (in_c 1 rfl) rfl))))
                    · skip
                      have i56 := z_eq 0 0 c56 i53 rfl
                      refine g_iconst 0 60 (gd rfl) rfl rfl ?_
                      have n60 : TK s53 := by first | exact g13_1 | exact p53a | exact p3a
                      have n60a : ((Int32.ofInt 0)).toInt ≠ 0 → PCV s s53 1 := by first | (intro _; exact g13_0) | (intro h; exact absurd rfl h)
                      have n60b : (z53a).toInt ≤ (u_46_1).toInt := by have a0 := oa11 h2 r_46_1 ((inv_F hIc13 0 120 rfl v13_102_4)) i31x13 i22x5 ((inv_F hIc13 0 1000 rfl v13_46_4)) ((inv_F hIc13 0 1000 rfl v13_46_2)) i16 i53c i53b i53a; omega
                      have n60c : (s53.2.2.1 46 2).toInt ≤ (s53.2.2.1 46 1).toInt := by have b0 : z53a = s53.2.2.1 46 2 := e53; have b1 : u_46_1 = s53.2.2.1 46 1 := fr_F (fr_F (fr_F e_46_1 hFc13 rfl) hF47 rfl) hF53 rfl; rw [← b0, ← b1]; exact n60b
                      have n60d : (z53b).toInt ≤ (z53a).toInt := by have a0 := oa11 h2 r_46_1 ((inv_F hIc13 0 120 rfl v13_102_4)) i31x13 i22x5 ((inv_F hIc13 0 1000 rfl v13_46_4)) ((inv_F hIc13 0 1000 rfl v13_46_2)) i16 i53c i53b i53a; omega
                      have n60e : (s53.2.2.1 46 4).toInt ≤ (s53.2.2.1 46 2).toInt := by have b0 : z53b = s53.2.2.1 46 4 := e53a; have b1 : z53a = s53.2.2.1 46 2 := e53; rw [← b0, ← b1]; exact n60d
                      have n60f : (z53c).toInt ≤ (z53b).toInt := by have a0 := oa11 h2 r_46_1 ((inv_F hIc13 0 120 rfl v13_102_4)) i31x13 i22x5 ((inv_F hIc13 0 1000 rfl v13_46_4)) ((inv_F hIc13 0 1000 rfl v13_46_2)) i16 i53c i53b i53a; omega
                      have n60g : (s53.2.2.1 102 4).toInt ≤ (s53.2.2.1 46 4).toInt := by have b0 : z53c = s53.2.2.1 102 4 := e53b; have b1 : z53b = s53.2.2.1 46 4 := e53a; rw [← b0, ← b1]; exact n60f
                      have n60h : (u_46_4).toInt - (u_102_4).toInt ≤ (z53b).toInt - (z53c).toInt := by have a0 := oa11 h2 r_46_1 ((inv_F hIc13 0 120 rfl v13_102_4)) i31x13 i22x5 ((inv_F hIc13 0 1000 rfl v13_46_4)) ((inv_F hIc13 0 1000 rfl v13_46_2)) i16 i53c i53b i53a; omega
                      have n60i : (s.2.2.1 46 4).toInt - (s.2.2.1 102 4).toInt ≤ (s53.2.2.1 46 4).toInt - (s53.2.2.1 102 4).toInt := by have b0 : z53b = s53.2.2.1 46 4 := e53a; have b1 : z53c = s53.2.2.1 102 4 := e53b; first | (rw [← b0, ← b1, ← e_46_4, ← e_102_4]; exact n60h) | (rw [← b0, ← b1]; exact n60h)
                      exact g_ireturn (gd rfl) rfl (nb01 (in_w 0 1 (in_c 0 rfl) rfl)) (hP _ _ ⟨s53, hI53, (fr_tr rfl (fr_tr rfl hFc13 hF47) hF53), n60c, n60e, n60g, n60i, (Int32.ofInt 0), rfl, rfl, in_w 0 1 (in_c 0 rfl) rfl, n60, n60a⟩)
          · skip
            have i22x13 := r_eq1 43 43 c22x13 (inv_F hIc13 (-2147483648) 2147483647 rfl v13_46_5) (in_c 43 rfl) rfl
            refine g_iconst 1 17 (gd rfl) rfl rfl ?_
            refine g_goto 21 (gd rfl) rfl ?_
            refine g_ireturn (gd rfl) rfl (nb01 (in_w 0 1 (in_c 1 rfl) rfl)) (hp22 _ _ ?_)
            show GG _ _ _ _ _ _ _ _ [.int (Int32.ofInt 1)] _ _ _
            refine g_if_ne 28 37 (gd rfl) rfl rfl (fun c25 => ?_) (fun c25 => ?_)
            · skip
              refine g_aload_n 38 (gd rfl) rfl rfl ?_
              refine g_getI 41 (gd rfl) rfl rfl rfl (fun z38 e38 => ?_)
              have q38 : w13_46_5 = z38 := (v13_46_5).trans e38.symm
              subst q38
              refine g_istore 43 (gd rfl) rfl (Nat.le_of_ble_eq_true rfl) ?_
              refine g_aload_n 44 (gd rfl) rfl rfl ?_
              refine g_bipush 6 46 (gd rfl) rfl rfl ?_
              refine g_iconst 0 47 (gd rfl) rfl rfl ?_
              have hk := tka_1 g13_1 (show w13_46_3 = sc13.2.2.1 46 3 from v13_46_3) (show w13_46_4 = sc13.2.2.1 46 4 from v13_46_4) (show w13_46_2 = sc13.2.2.1 46 2 from v13_46_2) (by have a0 := oa8 h2 r_46_1 ((inv_F hIc13 0 120 rfl v13_102_4)) i22x13 i22x5 ((inv_F hIc13 0 1000 rfl v13_46_4)) ((inv_F hIc13 0 1000 rfl v13_46_2)) i16; omega)
              have v47 : u_46_1 = sc13.2.2.1 46 1 := fr_F e_46_1 hFc13 rfl
              have n47 : (w13_46_2).toInt ≤ (u_46_1).toInt := by first | exact n13_0 | (have a0 := oa8 h2 r_46_1 ((inv_F hIc13 0 120 rfl v13_102_4)) i22x13 i22x5 ((inv_F hIc13 0 1000 rfl v13_46_4)) ((inv_F hIc13 0 1000 rfl v13_46_2)) i16; omega)
              refine g_callv (X := _) (As := [.int (Int32.ofInt 6), .int (Int32.ofInt 0)]) (r := []) (b := A 46) (q := 46) 50 (gd rfl) rfl rfl rfl rfl rfl (ww_o rfl) (Nat.le_of_ble_eq_true rfl) (Nat.zero_le _) (Nat.zero_le _) (k_171_46 (by first | exact dq1 hd rfl | exact dq0 hd rfl | exact dq2 hd rfl | exact dq3 hd rfl | omega) hIc13 (in_w 6 7 (in_c 6 rfl) rfl) (in_w 0 1 (in_c 0 rfl) rfl) v13_46_2 v47 n47) (fun e u h => h) (fun v u h => ?_)
              obtain ⟨s47, hI47, hF47, n47a, n47b, n47c, rfl, rfl, p47, p47a⟩ := h
              obtain ⟨z47a, e47⟩ : ∃ w, w = s47.2.2.1 46 2 := ⟨_, rfl⟩
              have i47a := inv_F hI47 0 1000 rfl e47
              obtain ⟨z47b, e47a⟩ : ∃ w, w = s47.2.2.1 46 4 := ⟨_, rfl⟩
              have i47b := inv_F hI47 0 1000 rfl e47a
              rw [← (show z47a = s47.2.2.1 46 2 from e47)] at n47a
              rw [← (show u_46_1 = s47.2.2.1 46 1 from fr_F (fr_F e_46_1 hFc13 rfl) hF47 rfl)] at n47a
              rw [← (show z47a = s47.2.2.1 46 2 from e47)] at n47b
              rw [← (show z47b = s47.2.2.1 46 4 from e47a)] at n47b
              rw [← (show w13_46_2 = sc13.2.2.1 46 2 from v13_46_2)] at n47c
              rw [← (show z47b = s47.2.2.1 46 4 from e47a)] at n47c
              show GG _ _ _ _ _ _ _ _ [] _ _ _
              refine g_aload_n 51 (gd rfl) rfl rfl ?_
              refine g_aload_n 52 (gd rfl) rfl rfl ?_
              refine g_iload_n 53 (gd rfl) rfl rfl ?_
              have v53 : u_46_1 = s47.2.2.1 46 1 := fr_F (fr_F e_46_1 hFc13 rfl) hF47 rfl
              have v53a : w13_102_4 = s47.2.2.1 102 4 := fr_F (v13_102_4) hF47 rfl
              have n53 : (z47a).toInt ≤ (u_46_1).toInt := by have a0 := oa10 h2 r_46_1 ((inv_F hIc13 0 120 rfl v13_102_4)) i22x13 i22x5 ((inv_F hIc13 0 1000 rfl v13_46_4)) ((inv_F hIc13 0 1000 rfl v13_46_2)) i16 i47b i47a; omega
              have n53a : (z47b).toInt ≤ (z47a).toInt := by have a0 := oa10 h2 r_46_1 ((inv_F hIc13 0 120 rfl v13_102_4)) i22x13 i22x5 ((inv_F hIc13 0 1000 rfl v13_46_4)) ((inv_F hIc13 0 1000 rfl v13_46_2)) i16 i47b i47a; omega
              have n53b : (w13_102_4).toInt ≤ (z47b).toInt := by have a0 := oa10 h2 r_46_1 ((inv_F hIc13 0 120 rfl v13_102_4)) i22x13 i22x5 ((inv_F hIc13 0 1000 rfl v13_46_4)) ((inv_F hIc13 0 1000 rfl v13_46_2)) i16 i47b i47a; omega
              have p53 : TK s47 := by exact p47 (by decide)
              have n53c : 10 - (x2).toInt < ((kk : Nat) : Int) := by have a0 := oa10 h2 r_46_1 ((inv_F hIc13 0 120 rfl v13_102_4)) i22x13 i22x5 ((inv_F hIc13 0 1000 rfl v13_46_4)) ((inv_F hIc13 0 1000 rfl v13_46_2)) i16 i47b i47a; omega
              refine g_callv (X := _) (As := [.ref (A 46), .int x2]) (r := []) (b := A 102) (q := 102) 56 (gd rfl) rfl rfl rfl rfl rfl (ww_o rfl) (Nat.le_of_ble_eq_true rfl) (Nat.zero_le _) (Nat.zero_le _) (ih (by omega) hI47 (in_w 0 10 h2 rfl) e47 v53 e47a rfl rfl v53a (in_w 0 120 r_46_1 rfl) n53 n53a n53b p53 n53c) (fun e u h => h) (fun v u h => ?_)
              obtain ⟨s53, hI53, hF53, n53d, n53e, n53f, n53g, z53, rfl, rfl, i53, p53a, p53b⟩ := h
              obtain ⟨z53a, e53⟩ : ∃ w, w = s53.2.2.1 46 2 := ⟨_, rfl⟩
              have i53a := inv_F hI53 0 1000 rfl e53
              obtain ⟨z53b, e53a⟩ : ∃ w, w = s53.2.2.1 46 4 := ⟨_, rfl⟩
              have i53b := inv_F hI53 0 1000 rfl e53a
              obtain ⟨z53c, e53b⟩ : ∃ w, w = s53.2.2.1 102 4 := ⟨_, rfl⟩
              have i53c := inv_F hI53 0 120 rfl e53b
              rw [← (show z53a = s53.2.2.1 46 2 from e53)] at n53d
              rw [← (show u_46_1 = s53.2.2.1 46 1 from fr_F (fr_F (fr_F e_46_1 hFc13 rfl) hF47 rfl) hF53 rfl)] at n53d
              rw [← (show z53a = s53.2.2.1 46 2 from e53)] at n53e
              rw [← (show z53b = s53.2.2.1 46 4 from e53a)] at n53e
              rw [← (show z53b = s53.2.2.1 46 4 from e53a)] at n53f
              rw [← (show z53c = s53.2.2.1 102 4 from e53b)] at n53f
              rw [← (show z47b = s47.2.2.1 46 4 from e47a)] at n53g
              rw [← (show w13_102_4 = s47.2.2.1 102 4 from fr_F (v13_102_4) hF47 rfl)] at n53g
              rw [← (show z53b = s53.2.2.1 46 4 from e53a)] at n53g
              rw [← (show z53c = s53.2.2.1 102 4 from e53b)] at n53g
              show GG _ _ _ _ _ _ _ _ [.int z53] _ _ _
              refine g_if_ne 59 61 (gd rfl) rfl rfl (fun c56 => ?_) (fun c56 => ?_)
              · skip
                have i56 := z_ne 1 1 c56 i53 rfl
                refine g_aload_n 62 (gd rfl) rfl rfl ?_
                refine g_ldc 1000100 64 (gd rfl) rfl rfl ?_
                refine g_iload 66 (gd rfl) rfl rfl ?_
                refine g_iadd 67 (gd rfl) rfl (fun z66 e66 => ?_)
                have i66 := in_add 1000143 1000143 e66 (in_c 1000100 rfl) i22x13 rfl rfl
                have hDe : _ = s53.2.2.1 102 4 := (show z53c = s53.2.2.1 102 4 from e53b)
                have n67 : (z53c).toInt ≤ 119 := by have a0 := oa12 h2 r_46_1 ((inv_F hIc13 0 120 rfl v13_102_4)) i22x13 i22x5 ((inv_F hIc13 0 1000 rfl v13_46_4)) ((inv_F hIc13 0 1000 rfl v13_46_2)) i16 i53c i53b i53a i66; have a12 := t_add e66 (in_c 1000100 rfl) i22x13 rfl; have a13 := in_u ((in_c 1000100 rfl)); omega
                refine g_callv (X := _) (As := [.int z66]) (r := []) (b := A 102) (q := 102) 70 (gd rfl) rfl rfl rfl rfl rfl (ww_o rfl) (Nat.le_of_ble_eq_true rfl) (Nat.zero_le _) (Nat.zero_le _) (k_57_102 (by first | exact dq1 hd rfl | exact dq0 hd rfl | exact dq2 hd rfl | exact dq3 hd rfl | omega) hI53 e53b n67) (fun e u h => h) (fun v u h => ?_)
                obtain ⟨s67, hI67, hF67, n67a, z67, rfl, rfl, i67, p67⟩ := h
                obtain ⟨z67a, e67⟩ : ∃ w, w = s67.2.2.1 102 4 := ⟨_, rfl⟩
                have i67a := inv_F hI67 0 120 rfl e67
                rw [← (show z53c = s53.2.2.1 102 4 from e53b)] at n67a
                rw [← (show z67a = s67.2.2.1 102 4 from e67)] at n67a
                show GG _ _ _ _ _ _ _ _ [.int z67] _ _ _
                refine g_pop 71 (gd rfl) rfl rfl ?_
                refine g_iinc 74 (gd rfl) rfl rfl (Nat.le_of_ble_eq_true rfl) (fun z71 e71 => ?_)
                have i71 := in_add 1 120 e71 i16 (in_c 1 rfl) rfl rfl
                refine g_goto 13 (gd rfl) rfl ?_
                have v13 : z53a = s67.2.2.1 46 2 := fr_F (e53) hF67 rfl
                have v13a : z53b = s67.2.2.1 46 4 := fr_F (e53a) hF67 rfl
                have n13 : (z53a).toInt ≤ (u_46_1).toInt := by have a0 := oa9 h2 r_46_1 ((inv_F hIc13 0 120 rfl v13_102_4)) i22x13 i22x5 ((inv_F hIc13 0 1000 rfl v13_46_4)) ((inv_F hIc13 0 1000 rfl v13_46_2)) i16 i71; have a9 := t_add e71 i16 (in_c 1 rfl) rfl; have a10 := oa5 ((in_c 1 rfl)) i67a i53b i53a i66; have a15 := t_add e66 (in_c 1000100 rfl) i22x13 rfl; have a16 := in_u ((in_c 1000100 rfl)); omega
                have n13a : (z53b).toInt ≤ (z53a).toInt := by have a0 := oa9 h2 r_46_1 ((inv_F hIc13 0 120 rfl v13_102_4)) i22x13 i22x5 ((inv_F hIc13 0 1000 rfl v13_46_4)) ((inv_F hIc13 0 1000 rfl v13_46_2)) i16 i71; have a9 := t_add e71 i16 (in_c 1 rfl) rfl; have a10 := oa5 ((in_c 1 rfl)) i67a i53b i53a i66; have a15 := t_add e66 (in_c 1000100 rfl) i22x13 rfl; have a16 := in_u ((in_c 1000100 rfl)); omega
                have n13b : (z67a).toInt ≤ (z53b).toInt := by have a0 := oa9 h2 r_46_1 ((inv_F hIc13 0 120 rfl v13_102_4)) i22x13 i22x5 ((inv_F hIc13 0 1000 rfl v13_46_4)) ((inv_F hIc13 0 1000 rfl v13_46_2)) i16 i71; have a9 := t_add e71 i16 (in_c 1 rfl) rfl; have a10 := oa5 ((in_c 1 rfl)) i67a i53b i53a i66; have a15 := t_add e66 (in_c 1000100 rfl) i22x13 rfl; have a16 := in_u ((in_c 1000100 rfl)); omega
                have n13c : (u_46_4).toInt - (u_102_4).toInt ≤ (z53b).toInt - (z67a).toInt := by have a0 := oa9 h2 r_46_1 ((inv_F hIc13 0 120 rfl v13_102_4)) i22x13 i22x5 ((inv_F hIc13 0 1000 rfl v13_46_4)) ((inv_F hIc13 0 1000 rfl v13_46_2)) i16 i71; have a9 := t_add e71 i16 (in_c 1 rfl) rfl; have a10 := oa5 ((in_c 1 rfl)) i67a i53b i53a i66; have a15 := t_add e66 (in_c 1000100 rfl) i22x13 rfl; have a16 := in_u ((in_c 1000100 rfl)); omega
                have n13d : PCV s s67 1 := by exact pv_st (j := 2) (k := 1) (pv_tr (j := 1) (k := 1) (pv_tr (j := 1) (k := 0) g13_0 (pv_sm (hF47.1 104 rfl) (hF47.2.2.1 102 4 rfl))) (p53b c56)) (inv_F hI53 0 120 rfl rfl).1 p67 (by rw [← (show z67a = s67.2.2.1 102 4 from e67), ← hDe]; have a0 := oa9 h2 r_46_1 ((inv_F hIc13 0 120 rfl v13_102_4)) i22x13 i22x5 ((inv_F hIc13 0 1000 rfl v13_46_4)) ((inv_F hIc13 0 1000 rfl v13_46_2)) i16 i71; have a9 := t_add e71 i16 (in_c 1 rfl) rfl; have a10 := oa5 ((in_c 1 rfl)) i67a i53b i53a i66; have a15 := t_add e66 (in_c 1000100 rfl) i22x13 rfl; have a16 := in_u ((in_c 1000100 rfl)); omega) (fun e => hc_b (by have a0 := oa9 h2 r_46_1 ((inv_F hIc13 0 120 rfl v13_102_4)) i22x13 i22x5 ((inv_F hIc13 0 1000 rfl v13_46_4)) ((inv_F hIc13 0 1000 rfl v13_46_2)) i16 i71; have a9 := t_add e71 i16 (in_c 1 rfl) rfl; have a10 := oa5 ((in_c 1 rfl)) i67a i53b i53a i66; have a15 := t_add e66 (in_c 1000100 rfl) i22x13 rfl; have a16 := in_u ((in_c 1000100 rfl)); omega) (by have a0 := oa9 h2 r_46_1 ((inv_F hIc13 0 120 rfl v13_102_4)) i22x13 i22x5 ((inv_F hIc13 0 1000 rfl v13_46_4)) ((inv_F hIc13 0 1000 rfl v13_46_2)) i16 i71; have a9 := t_add e71 i16 (in_c 1 rfl) rfl; have a10 := oa5 ((in_c 1 rfl)) i67a i53b i53a i66; have a15 := t_add e66 (in_c 1000100 rfl) i22x13 rfl; have a16 := in_u ((in_c 1000100 rfl)); omega) e)
                have n13e : TK s67 := by exact tk_fr hF67 rfl p53a
                exact gg_w (by first | exact Nat.le_add_right _ _ | exact gw2 | exact gw3 | exact gwe rfl | exact gwf rfl | exact gwg rfl | exact gwh rfl | omega) (gg_f (gf_cons rfl (gf_cons rfl (gf_cons rfl (gf_cons rfl gf_nil)))) (ih13 s67 z71 z53a z53b _ _ z67a hI67 (fr_tr rfl (fr_tr rfl (fr_tr rfl hFc13 hF47) hF53) hF67) (in_w 0 120 i71 rfl) v13 v13a rfl rfl e67 n13 n13a n13b n13c n13d n13e (m_up mm13 (t_add e71 i16 (in_c 1 rfl) rfl) (in_w 1 1 (in_c 1 rfl) rfl))))
              · skip
                have i56 := z_eq 0 0 c56 i53 rfl
                refine g_iconst 0 60 (gd rfl) rfl rfl ?_
                have n60 : TK s53 := by first | exact g13_1 | exact p53a | exact p3a
                have n60a : ((Int32.ofInt 0)).toInt ≠ 0 → PCV s s53 1 := by first | (intro _; exact g13_0) | (intro h; exact absurd rfl h)
                have n60b : (z53a).toInt ≤ (u_46_1).toInt := by have a0 := oa11 h2 r_46_1 ((inv_F hIc13 0 120 rfl v13_102_4)) i22x13 i22x5 ((inv_F hIc13 0 1000 rfl v13_46_4)) ((inv_F hIc13 0 1000 rfl v13_46_2)) i16 i53c i53b i53a; omega
                have n60c : (s53.2.2.1 46 2).toInt ≤ (s53.2.2.1 46 1).toInt := by have b0 : z53a = s53.2.2.1 46 2 := e53; have b1 : u_46_1 = s53.2.2.1 46 1 := fr_F (fr_F (fr_F e_46_1 hFc13 rfl) hF47 rfl) hF53 rfl; rw [← b0, ← b1]; exact n60b
                have n60d : (z53b).toInt ≤ (z53a).toInt := by have a0 := oa11 h2 r_46_1 ((inv_F hIc13 0 120 rfl v13_102_4)) i22x13 i22x5 ((inv_F hIc13 0 1000 rfl v13_46_4)) ((inv_F hIc13 0 1000 rfl v13_46_2)) i16 i53c i53b i53a; omega
                have n60e : (s53.2.2.1 46 4).toInt ≤ (s53.2.2.1 46 2).toInt := by have b0 : z53b = s53.2.2.1 46 4 := e53a; have b1 : z53a = s53.2.2.1 46 2 := e53; rw [← b0, ← b1]; exact n60d
                have n60f : (z53c).toInt ≤ (z53b).toInt := by have a0 := oa11 h2 r_46_1 ((inv_F hIc13 0 120 rfl v13_102_4)) i22x13 i22x5 ((inv_F hIc13 0 1000 rfl v13_46_4)) ((inv_F hIc13 0 1000 rfl v13_46_2)) i16 i53c i53b i53a; omega
                have n60g : (s53.2.2.1 102 4).toInt ≤ (s53.2.2.1 46 4).toInt := by have b0 : z53c = s53.2.2.1 102 4 := e53b; have b1 : z53b = s53.2.2.1 46 4 := e53a; rw [← b0, ← b1]; exact n60f
                have n60h : (u_46_4).toInt - (u_102_4).toInt ≤ (z53b).toInt - (z53c).toInt := by have a0 := oa11 h2 r_46_1 ((inv_F hIc13 0 120 rfl v13_102_4)) i22x13 i22x5 ((inv_F hIc13 0 1000 rfl v13_46_4)) ((inv_F hIc13 0 1000 rfl v13_46_2)) i16 i53c i53b i53a; omega
                have n60i : (s.2.2.1 46 4).toInt - (s.2.2.1 102 4).toInt ≤ (s53.2.2.1 46 4).toInt - (s53.2.2.1 102 4).toInt := by have b0 : z53b = s53.2.2.1 46 4 := e53a; have b1 : z53c = s53.2.2.1 102 4 := e53b; first | (rw [← b0, ← b1, ← e_46_4, ← e_102_4]; exact n60h) | (rw [← b0, ← b1]; exact n60h)
                exact g_ireturn (gd rfl) rfl (nb01 (in_w 0 1 (in_c 0 rfl) rfl)) (hP _ _ ⟨s53, hI53, (fr_tr rfl (fr_tr rfl hFc13 hF47) hF53), n60c, n60e, n60g, n60i, (Int32.ofInt 0), rfl, rfl, in_w 0 1 (in_c 0 rfl) rfl, n60, n60a⟩)
            · skip
              exact zn_eq c25 (in_c 1 rfl) rfl
  refine g_enter2 (k := 59) (N := 109801) (by first | exact dq1 hd rfl | exact dq0 hd rfl | exact dq2 hd rfl | exact dq3 hd rfl | omega) rfl (Nat.le_of_ble_eq_true rfl) ?_
  refine g_aload_n 1 (gd rfl) rfl rfl ?_
  refine g_aload_n 2 (gd rfl) rfl rfl ?_
  refine g_iload_n 3 (gd rfl) rfl rfl ?_
  have n3 : (u_46_2).toInt ≤ (u_46_1).toInt := by have a0 := oa6 ((inv_F hI 0 120 rfl e_102_4)) ((inv_F hI 0 5 rfl e_46_3)) ((inv_F hI 0 1000 rfl e_46_4)) r_46_1 ((inv_F hI 0 1000 rfl e_46_2)) h2; omega
  have n3a : (u_46_4).toInt ≤ (u_46_2).toInt := by have a0 := oa6 ((inv_F hI 0 120 rfl e_102_4)) ((inv_F hI 0 5 rfl e_46_3)) ((inv_F hI 0 1000 rfl e_46_4)) r_46_1 ((inv_F hI 0 1000 rfl e_46_2)) h2; omega
  have n3b : (u_102_4).toInt ≤ (u_46_4).toInt := by have a0 := oa6 ((inv_F hI 0 120 rfl e_102_4)) ((inv_F hI 0 5 rfl e_46_3)) ((inv_F hI 0 1000 rfl e_46_4)) r_46_1 ((inv_F hI 0 1000 rfl e_46_2)) h2; omega
  have p3 : TK s := by exact q_0
  have n3c : 10 - (x2).toInt < ((kk : Nat) : Int) := by have a0 := oa6 ((inv_F hI 0 120 rfl e_102_4)) ((inv_F hI 0 5 rfl e_46_3)) ((inv_F hI 0 1000 rfl e_46_4)) r_46_1 ((inv_F hI 0 1000 rfl e_46_2)) h2; omega
  refine g_callv (X := _) (As := [.ref (A 46), .int x2]) (r := []) (b := A 102) (q := 102) 6 (gd rfl) rfl rfl rfl rfl rfl (ww_o rfl) (Nat.le_of_ble_eq_true rfl) (Nat.zero_le _) (Nat.zero_le _) (ih (by omega) hI (in_w 0 10 h2 rfl) e_46_2 e_46_1 e_46_4 e_46_3 e_46_5 e_102_4 (in_w 0 120 r_46_1 rfl) n3 n3a n3b p3 n3c) (fun e u h => h) (fun v u h => ?_)
  obtain ⟨s3, hI3, hF3, n3d, n3e, n3f, n3g, z3, rfl, rfl, i3, p3a, p3b⟩ := h
  obtain ⟨z3a, e3⟩ : ∃ w, w = s3.2.2.1 46 2 := ⟨_, rfl⟩
  have i3a := inv_F hI3 0 1000 rfl e3
  obtain ⟨z3b, e3a⟩ : ∃ w, w = s3.2.2.1 46 4 := ⟨_, rfl⟩
  have i3b := inv_F hI3 0 1000 rfl e3a
  obtain ⟨z3c, e3b⟩ : ∃ w, w = s3.2.2.1 102 4 := ⟨_, rfl⟩
  have i3c := inv_F hI3 0 120 rfl e3b
  rw [← (show z3a = s3.2.2.1 46 2 from e3)] at n3d
  rw [← (show u_46_1 = s3.2.2.1 46 1 from fr_F (e_46_1) hF3 rfl)] at n3d
  rw [← (show z3a = s3.2.2.1 46 2 from e3)] at n3e
  rw [← (show z3b = s3.2.2.1 46 4 from e3a)] at n3e
  rw [← (show z3b = s3.2.2.1 46 4 from e3a)] at n3f
  rw [← (show z3c = s3.2.2.1 102 4 from e3b)] at n3f
  rw [← (show u_46_4 = s.2.2.1 46 4 from e_46_4)] at n3g
  rw [← (show u_102_4 = s.2.2.1 102 4 from e_102_4)] at n3g
  rw [← (show z3b = s3.2.2.1 46 4 from e3a)] at n3g
  rw [← (show z3c = s3.2.2.1 102 4 from e3b)] at n3g
  show GG _ _ _ _ _ _ _ _ [.int z3] _ _ _
  refine g_if_ne 9 11 (gd rfl) rfl rfl (fun c6 => ?_) (fun c6 => ?_)
  · skip
    have i6 := z_ne 1 1 c6 i3 rfl
    refine g_iconst 0 12 (gd rfl) rfl rfl ?_
    refine g_istore_n 13 (gd rfl) rfl (Nat.le_of_ble_eq_true rfl) ?_
    have n13 : (z3a).toInt ≤ (u_46_1).toInt := by have a0 := oa10 ((inv_F hI 0 120 rfl e_102_4)) ((inv_F hI 0 5 rfl e_46_3)) ((inv_F hI 0 1000 rfl e_46_4)) r_46_1 ((inv_F hI 0 1000 rfl e_46_2)) h2 ((in_c 0 rfl)) i3c i3b i3a; omega
    have n13a : (z3b).toInt ≤ (z3a).toInt := by have a0 := oa10 ((inv_F hI 0 120 rfl e_102_4)) ((inv_F hI 0 5 rfl e_46_3)) ((inv_F hI 0 1000 rfl e_46_4)) r_46_1 ((inv_F hI 0 1000 rfl e_46_2)) h2 ((in_c 0 rfl)) i3c i3b i3a; omega
    have n13b : (z3c).toInt ≤ (z3b).toInt := by have a0 := oa10 ((inv_F hI 0 120 rfl e_102_4)) ((inv_F hI 0 5 rfl e_46_3)) ((inv_F hI 0 1000 rfl e_46_4)) r_46_1 ((inv_F hI 0 1000 rfl e_46_2)) h2 ((in_c 0 rfl)) i3c i3b i3a; omega
    have n13c : (u_46_4).toInt - (u_102_4).toInt ≤ (z3b).toInt - (z3c).toInt := by have a0 := oa10 ((inv_F hI 0 120 rfl e_102_4)) ((inv_F hI 0 5 rfl e_46_3)) ((inv_F hI 0 1000 rfl e_46_4)) r_46_1 ((inv_F hI 0 1000 rfl e_46_2)) h2 ((in_c 0 rfl)) i3c i3b i3a; omega
    have n13d : PCV s s3 1 := by exact p3b c6
    have n13e : TK s3 := by exact p3a
    exact gg_w (by first | exact Nat.le_of_ble_eq_true rfl | omega) (gg_f (gf_cons rfl (gf_cons rfl (gf_cons rfl (gf_cons rfl gf_nil)))) (ct13 121 s3 (Int32.ofInt 0) z3a z3b _ _ z3c hI3 (fr_tr rfl fr_rf hF3) (in_w 0 120 (in_c 0 rfl) rfl) e3 e3a rfl rfl e3b n13 n13a n13b n13c n13d n13e (m_in 121 (in_w 0 120 (in_c 0 rfl) rfl) rfl)))
  · skip
    have i6 := z_eq 0 0 c6 i3 rfl
    refine g_iconst 0 10 (gd rfl) rfl rfl ?_
    have n10 : TK s3 := by first | exact g13_1 | exact p53a | exact p3a
    have n10a : ((Int32.ofInt 0)).toInt ≠ 0 → PCV s s3 1 := by first | (intro _; exact g13_0) | (intro h; exact absurd rfl h)
    have n10b : (z3a).toInt ≤ (u_46_1).toInt := by have a0 := oa9 ((inv_F hI 0 120 rfl e_102_4)) ((inv_F hI 0 5 rfl e_46_3)) ((inv_F hI 0 1000 rfl e_46_4)) r_46_1 ((inv_F hI 0 1000 rfl e_46_2)) h2 i3c i3b i3a; omega
    have n10c : (s3.2.2.1 46 2).toInt ≤ (s3.2.2.1 46 1).toInt := by have b0 : z3a = s3.2.2.1 46 2 := e3; have b1 : u_46_1 = s3.2.2.1 46 1 := fr_F (e_46_1) hF3 rfl; rw [← b0, ← b1]; exact n10b
    have n10d : (z3b).toInt ≤ (z3a).toInt := by have a0 := oa9 ((inv_F hI 0 120 rfl e_102_4)) ((inv_F hI 0 5 rfl e_46_3)) ((inv_F hI 0 1000 rfl e_46_4)) r_46_1 ((inv_F hI 0 1000 rfl e_46_2)) h2 i3c i3b i3a; omega
    have n10e : (s3.2.2.1 46 4).toInt ≤ (s3.2.2.1 46 2).toInt := by have b0 : z3b = s3.2.2.1 46 4 := e3a; have b1 : z3a = s3.2.2.1 46 2 := e3; rw [← b0, ← b1]; exact n10d
    have n10f : (z3c).toInt ≤ (z3b).toInt := by have a0 := oa9 ((inv_F hI 0 120 rfl e_102_4)) ((inv_F hI 0 5 rfl e_46_3)) ((inv_F hI 0 1000 rfl e_46_4)) r_46_1 ((inv_F hI 0 1000 rfl e_46_2)) h2 i3c i3b i3a; omega
    have n10g : (s3.2.2.1 102 4).toInt ≤ (s3.2.2.1 46 4).toInt := by have b0 : z3c = s3.2.2.1 102 4 := e3b; have b1 : z3b = s3.2.2.1 46 4 := e3a; rw [← b0, ← b1]; exact n10f
    have n10h : (u_46_4).toInt - (u_102_4).toInt ≤ (z3b).toInt - (z3c).toInt := by have a0 := oa9 ((inv_F hI 0 120 rfl e_102_4)) ((inv_F hI 0 5 rfl e_46_3)) ((inv_F hI 0 1000 rfl e_46_4)) r_46_1 ((inv_F hI 0 1000 rfl e_46_2)) h2 i3c i3b i3a; omega
    have n10i : (s.2.2.1 46 4).toInt - (s.2.2.1 102 4).toInt ≤ (s3.2.2.1 46 4).toInt - (s3.2.2.1 102 4).toInt := by have b0 : z3b = s3.2.2.1 46 4 := e3a; have b1 : z3c = s3.2.2.1 102 4 := e3b; first | (rw [← b0, ← b1, ← e_46_4, ← e_102_4]; exact n10h) | (rw [← b0, ← b1]; exact n10h)
    exact g_ireturn (gd rfl) rfl (nb01 (in_w 0 1 (in_c 0 rfl) rfl)) (hP _ _ ⟨s3, hI3, (fr_tr rfl fr_rf hF3), n10c, n10e, n10g, n10i, (Int32.ofInt 0), rfl, rfl, in_w 0 1 (in_c 0 rfl) rfl, n10, n10a⟩)
theorem k_58_102_46_r {Z : AmZ} {A : Nat → Nat} {ex : va_W} (kk : Nat) (ih : ∀ {s : GS} {d : Nat} {X : AmX} {x2 : Int32} {u_46_2 : Int32} {u_46_1 : Int32} {u_46_4 : Int32} {u_46_3 : Int32} {u_46_5 : Int32} {u_102_4 : Int32}, 70 + kk * 20 ≤ d → Inv s → (In x2 0 10) → (u_46_2 = s.2.2.1 46 2) → (u_46_1 = s.2.2.1 46 1) → (u_46_4 = s.2.2.1 46 4) → (u_46_3 = s.2.2.1 46 3) → (u_46_5 = s.2.2.1 46 5) → (u_102_4 = s.2.2.1 102 4) → (In u_46_1 0 120) → ((u_46_2).toInt ≤ (u_46_1).toInt) → ((u_46_4).toInt ≤ (u_46_2).toInt) → ((u_102_4).toInt ≤ (u_46_4).toInt) → (TK s) → 10 - (x2).toInt < ((kk : Nat) : Int) → GC Z d 59 [.ref (A 102), .ref (A 46), .int x2] (WW Z A s ++ ex) 0 0 (fun v u => ∃ t : GS, Inv t ∧ Fr fm_59_102_46 s t ∧ ((t.2.2.1 46 2).toInt ≤ (t.2.2.1 46 1).toInt) ∧ ((t.2.2.1 46 4).toInt ≤ (t.2.2.1 46 2).toInt) ∧ ((t.2.2.1 102 4).toInt ≤ (t.2.2.1 46 4).toInt) ∧ ((s.2.2.1 46 4).toInt - (s.2.2.1 102 4).toInt ≤ (t.2.2.1 46 4).toInt - (t.2.2.1 102 4).toInt) ∧ ∃ z : Int32, v = some (.int z) ∧ u = WW Z A t ++ ex ∧ In z 0 1 ∧ (TK t) ∧ ((z).toInt ≠ 0 → PCV s t 1)) X) : ∀ {s : GS} {d : Nat} {X : AmX} {x2 : Int32} {u_46_2 : Int32} {u_46_1 : Int32} {u_46_4 : Int32} {u_46_3 : Int32} {u_46_5 : Int32} {u_102_4 : Int32}, 75 + kk * 20 ≤ d → Inv s → (In x2 0 10) → (u_46_2 = s.2.2.1 46 2) → (u_46_1 = s.2.2.1 46 1) → (u_46_4 = s.2.2.1 46 4) → (u_46_3 = s.2.2.1 46 3) → (u_46_5 = s.2.2.1 46 5) → (u_102_4 = s.2.2.1 102 4) → (In u_46_1 0 120) → ((u_46_2).toInt ≤ (u_46_1).toInt) → ((u_46_4).toInt ≤ (u_46_2).toInt) → ((u_102_4).toInt ≤ (u_46_4).toInt) → (TK s) → 10 - (x2).toInt < ((kk : Nat) : Int) → GC Z d 58 [.ref (A 102), .ref (A 46), .int x2] (WW Z A s ++ ex) 0 0 (fun v u => ∃ t : GS, Inv t ∧ Fr fm_58_102_46 s t ∧ ((t.2.2.1 46 2).toInt ≤ (t.2.2.1 46 1).toInt) ∧ ((t.2.2.1 46 4).toInt ≤ (t.2.2.1 46 2).toInt) ∧ ((t.2.2.1 102 4).toInt ≤ (t.2.2.1 46 4).toInt) ∧ ((s.2.2.1 46 4).toInt - (s.2.2.1 102 4).toInt ≤ (t.2.2.1 46 4).toInt - (t.2.2.1 102 4).toInt) ∧ ∃ z : Int32, v = some (.int z) ∧ u = WW Z A t ++ ex ∧ In z 0 1 ∧ (TK t) ∧ ((z).toInt ≠ 0 → PCV s t 1)) X := by
  intro s d X x2 u_46_2 u_46_1 u_46_4 u_46_3 u_46_5 u_102_4 hd hI h2 e_46_2 e_46_1 e_46_4 e_46_3 e_46_5 e_102_4 r_46_1 p_0 p_1 p_2 q_0 hm
  intro post xp hP hX
  refine g_enter2 (k := 58) (N := 900) (by first | exact dq1 hd rfl | exact dq0 hd rfl | exact dq2 hd rfl | exact dq3 hd rfl | omega) rfl (Nat.le_of_ble_eq_true rfl) ?_
  refine g_aload_n 1 (gd rfl) rfl rfl ?_
  refine g_aload_n 2 (gd rfl) rfl rfl ?_
  refine g_iload_n 3 (gd rfl) rfl rfl ?_
  have n3 : (u_46_2).toInt ≤ (u_46_1).toInt := by have a0 := oa6 ((inv_F hI 0 120 rfl e_102_4)) ((inv_F hI 0 5 rfl e_46_3)) ((inv_F hI 0 1000 rfl e_46_4)) r_46_1 ((inv_F hI 0 1000 rfl e_46_2)) h2; omega
  have n3a : (u_46_4).toInt ≤ (u_46_2).toInt := by have a0 := oa6 ((inv_F hI 0 120 rfl e_102_4)) ((inv_F hI 0 5 rfl e_46_3)) ((inv_F hI 0 1000 rfl e_46_4)) r_46_1 ((inv_F hI 0 1000 rfl e_46_2)) h2; omega
  have n3b : (u_102_4).toInt ≤ (u_46_4).toInt := by have a0 := oa6 ((inv_F hI 0 120 rfl e_102_4)) ((inv_F hI 0 5 rfl e_46_3)) ((inv_F hI 0 1000 rfl e_46_4)) r_46_1 ((inv_F hI 0 1000 rfl e_46_2)) h2; omega
  have p3 : TK s := by exact q_0
  have n3c : 10 - (x2).toInt < ((kk : Nat) : Int) := by have a0 := oa6 ((inv_F hI 0 120 rfl e_102_4)) ((inv_F hI 0 5 rfl e_46_3)) ((inv_F hI 0 1000 rfl e_46_4)) r_46_1 ((inv_F hI 0 1000 rfl e_46_2)) h2; omega
  refine g_callv (X := _) (As := [.ref (A 46), .int x2]) (r := []) (b := A 102) (q := 102) 6 (gd rfl) rfl rfl rfl rfl rfl (ww_o rfl) (Nat.le_of_ble_eq_true rfl) (Nat.zero_le _) (Nat.zero_le _) (ih (by omega) hI (in_w 0 10 h2 rfl) e_46_2 e_46_1 e_46_4 e_46_3 e_46_5 e_102_4 (in_w 0 120 r_46_1 rfl) n3 n3a n3b p3 n3c) (fun e u h => h) (fun v u h => ?_)
  obtain ⟨s3, hI3, hF3, n3d, n3e, n3f, n3g, z3, rfl, rfl, i3, p3a, p3b⟩ := h
  obtain ⟨z3a, e3⟩ : ∃ w, w = s3.2.2.1 46 2 := ⟨_, rfl⟩
  have i3a := inv_F hI3 0 1000 rfl e3
  obtain ⟨z3b, e3a⟩ : ∃ w, w = s3.2.2.1 46 4 := ⟨_, rfl⟩
  have i3b := inv_F hI3 0 1000 rfl e3a
  obtain ⟨z3c, e3b⟩ : ∃ w, w = s3.2.2.1 102 4 := ⟨_, rfl⟩
  have i3c := inv_F hI3 0 120 rfl e3b
  rw [← (show z3a = s3.2.2.1 46 2 from e3)] at n3d
  rw [← (show u_46_1 = s3.2.2.1 46 1 from fr_F (e_46_1) hF3 rfl)] at n3d
  rw [← (show z3a = s3.2.2.1 46 2 from e3)] at n3e
  rw [← (show z3b = s3.2.2.1 46 4 from e3a)] at n3e
  rw [← (show z3b = s3.2.2.1 46 4 from e3a)] at n3f
  rw [← (show z3c = s3.2.2.1 102 4 from e3b)] at n3f
  rw [← (show u_46_4 = s.2.2.1 46 4 from e_46_4)] at n3g
  rw [← (show u_102_4 = s.2.2.1 102 4 from e_102_4)] at n3g
  rw [← (show z3b = s3.2.2.1 46 4 from e3a)] at n3g
  rw [← (show z3c = s3.2.2.1 102 4 from e3b)] at n3g
  show GG _ _ _ _ _ _ _ _ [.int z3] _ _ _
  refine g_if_ne 9 11 (gd rfl) rfl rfl (fun c6 => ?_) (fun c6 => ?_)
  · skip
    have i6 := z_ne 1 1 c6 i3 rfl
    refine g_aload_n 12 (gd rfl) rfl rfl ?_
    refine g_bipush 60 14 (gd rfl) rfl rfl ?_
    refine g_callv (X := _) (As := [.int (Int32.ofInt 60)]) (r := []) (b := A 46) (q := 46) 17 (gd rfl) rfl rfl rfl rfl rfl (ww_o rfl) (Nat.le_of_ble_eq_true rfl) (mc := 0) (ms := 0) (Nat.zero_le _) (Nat.zero_le _) (P := fun v u => _) ?_ (fun e u h => h) (fun v u h => h)
    intro po14 xx14 hp14 hx14
    refine g_enter2 (k := 170) (N := 300) (by first | exact dq1 hd rfl | exact dq0 hd rfl | exact dq2 hd rfl | exact dq3 hd rfl | omega) rfl (Nat.le_of_ble_eq_true rfl) ?_
    refine g_aload_n 1 (gd rfl) rfl rfl ?_
    refine g_getI 4 (gd rfl) rfl rfl rfl (fun z14x1 e14x1 => ?_)
    have i14x1 := inv_F hI3 0 5 rfl e14x1
    refine g_iconst 3 5 (gd rfl) rfl rfl ?_
    refine g_cmp_ne 8 20 (gd rfl) rfl rfl (fun c14x5 => ?_) (fun c14x5 => ?_)
    · skip
      refine g_iconst 0 21 (gd rfl) rfl rfl ?_
      refine g_ireturn (gd rfl) rfl (nb01 (in_w 0 1 (in_c 0 rfl) rfl)) (hp14 _ _ ?_)
      show GG _ _ _ _ _ _ _ _ [.int (Int32.ofInt 0)] _ _ _
      refine g_if_ne 20 31 (gd rfl) rfl rfl (fun c17 => ?_) (fun c17 => ?_)
      · skip
        exact zn_ne c17 (in_c 0 rfl) rfl
      · skip
        refine g_aload_n 21 (gd rfl) rfl rfl ?_
        refine g_bipush 61 23 (gd rfl) rfl rfl ?_
        refine g_callv (X := _) (As := [.int (Int32.ofInt 61)]) (r := []) (b := A 46) (q := 46) 26 (gd rfl) rfl rfl rfl rfl rfl (ww_o rfl) (Nat.le_of_ble_eq_true rfl) (mc := 0) (ms := 0) (Nat.zero_le _) (Nat.zero_le _) (P := fun v u => _) ?_ (fun e u h => h) (fun v u h => h)
        intro po23 xx23 hp23 hx23
        refine g_enter2 (k := 170) (N := 300) (by first | exact dq1 hd rfl | exact dq0 hd rfl | exact dq2 hd rfl | exact dq3 hd rfl | omega) rfl (Nat.le_of_ble_eq_true rfl) ?_
        refine g_aload_n 1 (gd rfl) rfl rfl ?_
        refine g_getI 4 (gd rfl) rfl rfl rfl (fun z23x1 e23x1 => ?_)
        have q23x1 : z14x1 = z23x1 := (e14x1).trans e23x1.symm
        subst q23x1
        refine g_iconst 3 5 (gd rfl) rfl rfl ?_
        refine g_cmp_ne 8 20 (gd rfl) rfl rfl (fun c23x5 => ?_) (fun c23x5 => ?_)
        · skip
          refine g_iconst 0 21 (gd rfl) rfl rfl ?_
          refine g_ireturn (gd rfl) rfl (nb01 (in_w 0 1 (in_c 0 rfl) rfl)) (hp23 _ _ ?_)
          show GG _ _ _ _ _ _ _ _ [.int (Int32.ofInt 0)] _ _ _
          refine g_if_ne 29 31 (gd rfl) rfl rfl (fun c26 => ?_) (fun c26 => ?_)
          · skip
            exact zn_ne c26 (in_c 0 rfl) rfl
          · skip
            refine g_iconst 1 30 (gd rfl) rfl rfl ?_
            have n30 : TK s3 := by exact p3a
            have n30a : ((Int32.ofInt 1)).toInt ≠ 0 → PCV s s3 1 := by first | (intro _; exact p3b c6) | (intro h; exact absurd rfl h)
            have n30b : (z3a).toInt ≤ (u_46_1).toInt := by have a0 := oa10 ((inv_F hI 0 120 rfl e_102_4)) ((inv_F hI 0 5 rfl e_46_3)) ((inv_F hI 0 1000 rfl e_46_4)) r_46_1 ((inv_F hI 0 1000 rfl e_46_2)) h2 i14x1 i3c i3b i3a; omega
            have n30c : (s3.2.2.1 46 2).toInt ≤ (s3.2.2.1 46 1).toInt := by have b0 : z3a = s3.2.2.1 46 2 := e3; have b1 : u_46_1 = s3.2.2.1 46 1 := fr_F (e_46_1) hF3 rfl; rw [← b0, ← b1]; exact n30b
            have n30d : (z3b).toInt ≤ (z3a).toInt := by have a0 := oa10 ((inv_F hI 0 120 rfl e_102_4)) ((inv_F hI 0 5 rfl e_46_3)) ((inv_F hI 0 1000 rfl e_46_4)) r_46_1 ((inv_F hI 0 1000 rfl e_46_2)) h2 i14x1 i3c i3b i3a; omega
            have n30e : (s3.2.2.1 46 4).toInt ≤ (s3.2.2.1 46 2).toInt := by have b0 : z3b = s3.2.2.1 46 4 := e3a; have b1 : z3a = s3.2.2.1 46 2 := e3; rw [← b0, ← b1]; exact n30d
            have n30f : (z3c).toInt ≤ (z3b).toInt := by have a0 := oa10 ((inv_F hI 0 120 rfl e_102_4)) ((inv_F hI 0 5 rfl e_46_3)) ((inv_F hI 0 1000 rfl e_46_4)) r_46_1 ((inv_F hI 0 1000 rfl e_46_2)) h2 i14x1 i3c i3b i3a; omega
            have n30g : (s3.2.2.1 102 4).toInt ≤ (s3.2.2.1 46 4).toInt := by have b0 : z3c = s3.2.2.1 102 4 := e3b; have b1 : z3b = s3.2.2.1 46 4 := e3a; rw [← b0, ← b1]; exact n30f
            have n30h : (u_46_4).toInt - (u_102_4).toInt ≤ (z3b).toInt - (z3c).toInt := by have a0 := oa10 ((inv_F hI 0 120 rfl e_102_4)) ((inv_F hI 0 5 rfl e_46_3)) ((inv_F hI 0 1000 rfl e_46_4)) r_46_1 ((inv_F hI 0 1000 rfl e_46_2)) h2 i14x1 i3c i3b i3a; omega
            have n30i : (s.2.2.1 46 4).toInt - (s.2.2.1 102 4).toInt ≤ (s3.2.2.1 46 4).toInt - (s3.2.2.1 102 4).toInt := by have b0 : z3b = s3.2.2.1 46 4 := e3a; have b1 : z3c = s3.2.2.1 102 4 := e3b; first | (rw [← b0, ← b1, ← e_46_4, ← e_102_4]; exact n30h) | (rw [← b0, ← b1]; exact n30h)
            exact g_ireturn (gd rfl) rfl (nb01 (in_w 0 1 (in_c 1 rfl) rfl)) (hP _ _ ⟨s3, hI3, (fr_tr rfl fr_rf hF3), n30c, n30e, n30g, n30i, (Int32.ofInt 1), rfl, rfl, in_w 0 1 (in_c 1 rfl) rfl, n30, n30a⟩)
        · skip
          exact absurd c23x5 c14x5
    · skip
      have i14x5 := r_eq1 3 3 c14x5 i14x1 (in_c 3 rfl) rfl
      refine g_aload_n 9 (gd rfl) rfl rfl ?_
      refine g_getI 12 (gd rfl) rfl rfl rfl (fun z14x9 e14x9 => ?_)
      refine g_iload_n 13 (gd rfl) rfl rfl ?_
      refine g_cmp_ne 16 20 (gd rfl) rfl rfl (fun c14x13 => ?_) (fun c14x13 => ?_)
      · skip
        refine g_iconst 0 21 (gd rfl) rfl rfl ?_
        refine g_ireturn (gd rfl) rfl (nb01 (in_w 0 1 (in_c 0 rfl) rfl)) (hp14 _ _ ?_)
        show GG _ _ _ _ _ _ _ _ [.int (Int32.ofInt 0)] _ _ _
        refine g_if_ne 20 31 (gd rfl) rfl rfl (fun c17 => ?_) (fun c17 => ?_)
        · skip
          exact zn_ne c17 (in_c 0 rfl) rfl
        · skip
          refine g_aload_n 21 (gd rfl) rfl rfl ?_
          refine g_bipush 61 23 (gd rfl) rfl rfl ?_
          refine g_callv (X := _) (As := [.int (Int32.ofInt 61)]) (r := []) (b := A 46) (q := 46) 26 (gd rfl) rfl rfl rfl rfl rfl (ww_o rfl) (Nat.le_of_ble_eq_true rfl) (mc := 0) (ms := 0) (Nat.zero_le _) (Nat.zero_le _) (P := fun v u => _) ?_ (fun e u h => h) (fun v u h => h)
          intro po23 xx23 hp23 hx23
          refine g_enter2 (k := 170) (N := 300) (by first | exact dq1 hd rfl | exact dq0 hd rfl | exact dq2 hd rfl | exact dq3 hd rfl | omega) rfl (Nat.le_of_ble_eq_true rfl) ?_
          refine g_aload_n 1 (gd rfl) rfl rfl ?_
          refine g_getI 4 (gd rfl) rfl rfl rfl (fun z23x1 e23x1 => ?_)
          have q23x1 : z14x1 = z23x1 := (e14x1).trans e23x1.symm
          subst q23x1
          refine g_iconst 3 5 (gd rfl) rfl rfl ?_
          refine g_cmp_ne 8 20 (gd rfl) rfl rfl (fun c23x5 => ?_) (fun c23x5 => ?_)
          · skip
            exact n_ne c23x5 i14x5 (in_c 3 rfl) rfl
          · skip
            refine g_aload_n 9 (gd rfl) rfl rfl ?_
            refine g_getI 12 (gd rfl) rfl rfl rfl (fun z23x9 e23x9 => ?_)
            have q23x9 : z14x9 = z23x9 := (e14x9).trans e23x9.symm
            subst q23x9
            refine g_iload_n 13 (gd rfl) rfl rfl ?_
            refine g_cmp_ne 16 20 (gd rfl) rfl rfl (fun c23x13 => ?_) (fun c23x13 => ?_)
            · skip
              refine g_iconst 0 21 (gd rfl) rfl rfl ?_
              refine g_ireturn (gd rfl) rfl (nb01 (in_w 0 1 (in_c 0 rfl) rfl)) (hp23 _ _ ?_)
              show GG _ _ _ _ _ _ _ _ [.int (Int32.ofInt 0)] _ _ _
              refine g_if_ne 29 31 (gd rfl) rfl rfl (fun c26 => ?_) (fun c26 => ?_)
              · skip
                exact zn_ne c26 (in_c 0 rfl) rfl
              · skip
                refine g_iconst 1 30 (gd rfl) rfl rfl ?_
                have n30 : TK s3 := by exact p3a
                have n30a : ((Int32.ofInt 1)).toInt ≠ 0 → PCV s s3 1 := by first | (intro _; exact p3b c6) | (intro h; exact absurd rfl h)
                have n30b : (z3a).toInt ≤ (u_46_1).toInt := by have a0 := oa10 ((inv_F hI 0 120 rfl e_102_4)) ((inv_F hI 0 5 rfl e_46_3)) ((inv_F hI 0 1000 rfl e_46_4)) r_46_1 ((inv_F hI 0 1000 rfl e_46_2)) h2 i14x5 i3c i3b i3a; omega
                have n30c : (s3.2.2.1 46 2).toInt ≤ (s3.2.2.1 46 1).toInt := by have b0 : z3a = s3.2.2.1 46 2 := e3; have b1 : u_46_1 = s3.2.2.1 46 1 := fr_F (e_46_1) hF3 rfl; rw [← b0, ← b1]; exact n30b
                have n30d : (z3b).toInt ≤ (z3a).toInt := by have a0 := oa10 ((inv_F hI 0 120 rfl e_102_4)) ((inv_F hI 0 5 rfl e_46_3)) ((inv_F hI 0 1000 rfl e_46_4)) r_46_1 ((inv_F hI 0 1000 rfl e_46_2)) h2 i14x5 i3c i3b i3a; omega
                have n30e : (s3.2.2.1 46 4).toInt ≤ (s3.2.2.1 46 2).toInt := by have b0 : z3b = s3.2.2.1 46 4 := e3a; have b1 : z3a = s3.2.2.1 46 2 := e3; rw [← b0, ← b1]; exact n30d
                have n30f : (z3c).toInt ≤ (z3b).toInt := by have a0 := oa10 ((inv_F hI 0 120 rfl e_102_4)) ((inv_F hI 0 5 rfl e_46_3)) ((inv_F hI 0 1000 rfl e_46_4)) r_46_1 ((inv_F hI 0 1000 rfl e_46_2)) h2 i14x5 i3c i3b i3a; omega
                have n30g : (s3.2.2.1 102 4).toInt ≤ (s3.2.2.1 46 4).toInt := by have b0 : z3c = s3.2.2.1 102 4 := e3b; have b1 : z3b = s3.2.2.1 46 4 := e3a; rw [← b0, ← b1]; exact n30f
                have n30h : (u_46_4).toInt - (u_102_4).toInt ≤ (z3b).toInt - (z3c).toInt := by have a0 := oa10 ((inv_F hI 0 120 rfl e_102_4)) ((inv_F hI 0 5 rfl e_46_3)) ((inv_F hI 0 1000 rfl e_46_4)) r_46_1 ((inv_F hI 0 1000 rfl e_46_2)) h2 i14x5 i3c i3b i3a; omega
                have n30i : (s.2.2.1 46 4).toInt - (s.2.2.1 102 4).toInt ≤ (s3.2.2.1 46 4).toInt - (s3.2.2.1 102 4).toInt := by have b0 : z3b = s3.2.2.1 46 4 := e3a; have b1 : z3c = s3.2.2.1 102 4 := e3b; first | (rw [← b0, ← b1, ← e_46_4, ← e_102_4]; exact n30h) | (rw [← b0, ← b1]; exact n30h)
                exact g_ireturn (gd rfl) rfl (nb01 (in_w 0 1 (in_c 1 rfl) rfl)) (hP _ _ ⟨s3, hI3, (fr_tr rfl fr_rf hF3), n30c, n30e, n30g, n30i, (Int32.ofInt 1), rfl, rfl, in_w 0 1 (in_c 1 rfl) rfl, n30, n30a⟩)
            · skip
              have i23x13 := r_eq1 61 61 c23x13 (i_rng z14x9) (in_c 61 rfl) rfl
              refine g_iconst 1 17 (gd rfl) rfl rfl ?_
              refine g_goto 21 (gd rfl) rfl ?_
              refine g_ireturn (gd rfl) rfl (nb01 (in_w 0 1 (in_c 1 rfl) rfl)) (hp23 _ _ ?_)
              show GG _ _ _ _ _ _ _ _ [.int (Int32.ofInt 1)] _ _ _
              refine g_if_ne 29 31 (gd rfl) rfl rfl (fun c26 => ?_) (fun c26 => ?_)
              · skip
                refine g_aload_n 32 (gd rfl) rfl rfl ?_
                refine g_getI 35 (gd rfl) rfl rfl rfl (fun z32 e32 => ?_)
                have q32 : z14x9 = z32 := (e14x9).trans e32.symm
                subst q32
                refine g_istore_n 36 (gd rfl) rfl (Nat.le_of_ble_eq_true rfl) ?_
                refine g_aload_n 37 (gd rfl) rfl rfl ?_
                refine g_bipush 6 39 (gd rfl) rfl rfl ?_
                refine g_iconst 0 40 (gd rfl) rfl rfl ?_
                have hk := tka_1 p3a (show z14x1 = s3.2.2.1 46 3 from e14x1) (show z3b = s3.2.2.1 46 4 from e3a) (show z3a = s3.2.2.1 46 2 from e3) (by have a0 := oa11 ((inv_F hI 0 120 rfl e_102_4)) ((inv_F hI 0 5 rfl e_46_3)) ((inv_F hI 0 1000 rfl e_46_4)) r_46_1 ((inv_F hI 0 1000 rfl e_46_2)) h2 i23x13 i14x5 i3c i3b i3a; omega)
                have v40 : u_46_1 = s3.2.2.1 46 1 := fr_F (e_46_1) hF3 rfl
                have n40 : (z3a).toInt ≤ (u_46_1).toInt := by have a0 := oa11 ((inv_F hI 0 120 rfl e_102_4)) ((inv_F hI 0 5 rfl e_46_3)) ((inv_F hI 0 1000 rfl e_46_4)) r_46_1 ((inv_F hI 0 1000 rfl e_46_2)) h2 i23x13 i14x5 i3c i3b i3a; omega
                refine g_callv (X := _) (As := [.int (Int32.ofInt 6), .int (Int32.ofInt 0)]) (r := []) (b := A 46) (q := 46) 43 (gd rfl) rfl rfl rfl rfl rfl (ww_o rfl) (Nat.le_of_ble_eq_true rfl) (Nat.zero_le _) (Nat.zero_le _) (k_171_46 (by first | exact dq1 hd rfl | exact dq0 hd rfl | exact dq2 hd rfl | exact dq3 hd rfl | omega) hI3 (in_w 6 7 (in_c 6 rfl) rfl) (in_w 0 1 (in_c 0 rfl) rfl) e3 v40 n40) (fun e u h => h) (fun v u h => ?_)
                obtain ⟨s40, hI40, hF40, n40a, n40b, n40c, rfl, rfl, p40, p40a⟩ := h
                obtain ⟨z40a, e40⟩ : ∃ w, w = s40.2.2.1 46 2 := ⟨_, rfl⟩
                have i40a := inv_F hI40 0 1000 rfl e40
                obtain ⟨z40b, e40a⟩ : ∃ w, w = s40.2.2.1 46 4 := ⟨_, rfl⟩
                have i40b := inv_F hI40 0 1000 rfl e40a
                rw [← (show z40a = s40.2.2.1 46 2 from e40)] at n40a
                rw [← (show u_46_1 = s40.2.2.1 46 1 from fr_F (fr_F (e_46_1) hF3 rfl) hF40 rfl)] at n40a
                rw [← (show z40a = s40.2.2.1 46 2 from e40)] at n40b
                rw [← (show z40b = s40.2.2.1 46 4 from e40a)] at n40b
                rw [← (show z3a = s3.2.2.1 46 2 from e3)] at n40c
                rw [← (show z40b = s40.2.2.1 46 4 from e40a)] at n40c
                show GG _ _ _ _ _ _ _ _ [] _ _ _
                refine g_aload_n 44 (gd rfl) rfl rfl ?_
                refine g_aload_n 45 (gd rfl) rfl rfl ?_
                refine g_iload_n 46 (gd rfl) rfl rfl ?_
                have v46 : u_46_1 = s40.2.2.1 46 1 := fr_F (fr_F (e_46_1) hF3 rfl) hF40 rfl
                have v46a : z3c = s40.2.2.1 102 4 := fr_F (e3b) hF40 rfl
                have n46 : (z40a).toInt ≤ (u_46_1).toInt := by have a0 := oa10 ((inv_F hI 0 120 rfl e_102_4)) ((inv_F hI 0 5 rfl e_46_3)) ((inv_F hI 0 1000 rfl e_46_4)) r_46_1 ((inv_F hI 0 1000 rfl e_46_2)) h2 i23x13 i40b i40a i3c; omega
                have n46a : (z40b).toInt ≤ (z40a).toInt := by have a0 := oa10 ((inv_F hI 0 120 rfl e_102_4)) ((inv_F hI 0 5 rfl e_46_3)) ((inv_F hI 0 1000 rfl e_46_4)) r_46_1 ((inv_F hI 0 1000 rfl e_46_2)) h2 i23x13 i40b i40a i3c; omega
                have n46b : (z3c).toInt ≤ (z40b).toInt := by have a0 := oa10 ((inv_F hI 0 120 rfl e_102_4)) ((inv_F hI 0 5 rfl e_46_3)) ((inv_F hI 0 1000 rfl e_46_4)) r_46_1 ((inv_F hI 0 1000 rfl e_46_2)) h2 i23x13 i40b i40a i3c; omega
                have p46 : TK s40 := by exact p40 (by decide)
                have n46c : 10 - (x2).toInt < ((kk : Nat) : Int) := by have a0 := oa10 ((inv_F hI 0 120 rfl e_102_4)) ((inv_F hI 0 5 rfl e_46_3)) ((inv_F hI 0 1000 rfl e_46_4)) r_46_1 ((inv_F hI 0 1000 rfl e_46_2)) h2 i23x13 i40b i40a i3c; omega
                refine g_callv (X := _) (As := [.ref (A 46), .int x2]) (r := []) (b := A 102) (q := 102) 49 (gd rfl) rfl rfl rfl rfl rfl (ww_o rfl) (Nat.le_of_ble_eq_true rfl) (Nat.zero_le _) (Nat.zero_le _) (ih (by omega) hI40 (in_w 0 10 h2 rfl) e40 v46 e40a rfl rfl v46a (in_w 0 120 r_46_1 rfl) n46 n46a n46b p46 n46c) (fun e u h => h) (fun v u h => ?_)
                obtain ⟨s46, hI46, hF46, n46d, n46e, n46f, n46g, z46, rfl, rfl, i46, p46a, p46b⟩ := h
                obtain ⟨z46a, e46⟩ : ∃ w, w = s46.2.2.1 46 2 := ⟨_, rfl⟩
                have i46a := inv_F hI46 0 1000 rfl e46
                obtain ⟨z46b, e46a⟩ : ∃ w, w = s46.2.2.1 46 4 := ⟨_, rfl⟩
                have i46b := inv_F hI46 0 1000 rfl e46a
                obtain ⟨z46c, e46b⟩ : ∃ w, w = s46.2.2.1 102 4 := ⟨_, rfl⟩
                have i46c := inv_F hI46 0 120 rfl e46b
                rw [← (show z46a = s46.2.2.1 46 2 from e46)] at n46d
                rw [← (show u_46_1 = s46.2.2.1 46 1 from fr_F (fr_F (fr_F (e_46_1) hF3 rfl) hF40 rfl) hF46 rfl)] at n46d
                rw [← (show z46a = s46.2.2.1 46 2 from e46)] at n46e
                rw [← (show z46b = s46.2.2.1 46 4 from e46a)] at n46e
                rw [← (show z46b = s46.2.2.1 46 4 from e46a)] at n46f
                rw [← (show z46c = s46.2.2.1 102 4 from e46b)] at n46f
                rw [← (show z40b = s40.2.2.1 46 4 from e40a)] at n46g
                rw [← (show z3c = s40.2.2.1 102 4 from fr_F (e3b) hF40 rfl)] at n46g
                rw [← (show z46b = s46.2.2.1 46 4 from e46a)] at n46g
                rw [← (show z46c = s46.2.2.1 102 4 from e46b)] at n46g
                show GG _ _ _ _ _ _ _ _ [.int z46] _ _ _
                refine g_if_eq 52 67 (gd rfl) rfl rfl (fun c49 => ?_) (fun c49 => ?_)
                · skip
                  have i49 := z_eq 0 0 c49 i46 rfl
                  refine g_iconst 0 68 (gd rfl) rfl rfl ?_
                  have n68 : TK s46 := by exact p46a
                  have n68a : ((Int32.ofInt 0)).toInt ≠ 0 → PCV s s46 1 := by first | (intro _; exact p3b c6) | (intro h; exact absurd rfl h)
                  have n68b : (z46a).toInt ≤ (u_46_1).toInt := by have a0 := oa10 ((inv_F hI 0 120 rfl e_102_4)) ((inv_F hI 0 5 rfl e_46_3)) ((inv_F hI 0 1000 rfl e_46_4)) r_46_1 ((inv_F hI 0 1000 rfl e_46_2)) h2 i23x13 i46c i46b i46a; omega
                  have n68c : (s46.2.2.1 46 2).toInt ≤ (s46.2.2.1 46 1).toInt := by have b0 : z46a = s46.2.2.1 46 2 := e46; have b1 : u_46_1 = s46.2.2.1 46 1 := fr_F (fr_F (fr_F (e_46_1) hF3 rfl) hF40 rfl) hF46 rfl; rw [← b0, ← b1]; exact n68b
                  have n68d : (z46b).toInt ≤ (z46a).toInt := by have a0 := oa10 ((inv_F hI 0 120 rfl e_102_4)) ((inv_F hI 0 5 rfl e_46_3)) ((inv_F hI 0 1000 rfl e_46_4)) r_46_1 ((inv_F hI 0 1000 rfl e_46_2)) h2 i23x13 i46c i46b i46a; omega
                  have n68e : (s46.2.2.1 46 4).toInt ≤ (s46.2.2.1 46 2).toInt := by have b0 : z46b = s46.2.2.1 46 4 := e46a; have b1 : z46a = s46.2.2.1 46 2 := e46; rw [← b0, ← b1]; exact n68d
                  have n68f : (z46c).toInt ≤ (z46b).toInt := by have a0 := oa10 ((inv_F hI 0 120 rfl e_102_4)) ((inv_F hI 0 5 rfl e_46_3)) ((inv_F hI 0 1000 rfl e_46_4)) r_46_1 ((inv_F hI 0 1000 rfl e_46_2)) h2 i23x13 i46c i46b i46a; omega
                  have n68g : (s46.2.2.1 102 4).toInt ≤ (s46.2.2.1 46 4).toInt := by have b0 : z46c = s46.2.2.1 102 4 := e46b; have b1 : z46b = s46.2.2.1 46 4 := e46a; rw [← b0, ← b1]; exact n68f
                  have n68h : (u_46_4).toInt - (u_102_4).toInt ≤ (z46b).toInt - (z46c).toInt := by have a0 := oa10 ((inv_F hI 0 120 rfl e_102_4)) ((inv_F hI 0 5 rfl e_46_3)) ((inv_F hI 0 1000 rfl e_46_4)) r_46_1 ((inv_F hI 0 1000 rfl e_46_2)) h2 i23x13 i46c i46b i46a; omega
                  have n68i : (s.2.2.1 46 4).toInt - (s.2.2.1 102 4).toInt ≤ (s46.2.2.1 46 4).toInt - (s46.2.2.1 102 4).toInt := by have b0 : z46b = s46.2.2.1 46 4 := e46a; have b1 : z46c = s46.2.2.1 102 4 := e46b; first | (rw [← b0, ← b1, ← e_46_4, ← e_102_4]; exact n68h) | (rw [← b0, ← b1]; exact n68h)
                  exact g_ireturn (gd rfl) rfl (nb01 (in_w 0 1 (in_c 0 rfl) rfl)) (hP _ _ ⟨s46, hI46, (fr_tr rfl (fr_tr rfl (fr_tr rfl fr_rf hF3) hF40) hF46), n68c, n68e, n68g, n68i, (Int32.ofInt 0), rfl, rfl, in_w 0 1 (in_c 0 rfl) rfl, n68, n68a⟩)
                · skip
                  have i49 := z_ne 1 1 c49 i46 rfl
                  refine g_aload_n 53 (gd rfl) rfl rfl ?_
                  refine g_ldc 1000100 55 (gd rfl) rfl rfl ?_
                  refine g_iload_n 56 (gd rfl) rfl rfl ?_
                  refine g_iadd 57 (gd rfl) rfl (fun z56 e56 => ?_)
                  have i56 := in_add 1000161 1000161 e56 (in_c 1000100 rfl) i23x13 rfl rfl
                  have hDe : _ = s46.2.2.1 102 4 := (show z46c = s46.2.2.1 102 4 from e46b)
                  have n57 : (z46c).toInt ≤ 119 := by have a0 := oa11 ((inv_F hI 0 120 rfl e_102_4)) ((inv_F hI 0 5 rfl e_46_3)) ((inv_F hI 0 1000 rfl e_46_4)) r_46_1 ((inv_F hI 0 1000 rfl e_46_2)) h2 i23x13 i46c i46b i46a i56; have a11 := t_add e56 (in_c 1000100 rfl) i23x13 rfl; have a12 := in_u ((in_c 1000100 rfl)); omega
                  refine g_callv (X := _) (As := [.int z56]) (r := []) (b := A 102) (q := 102) 60 (gd rfl) rfl rfl rfl rfl rfl (ww_o rfl) (Nat.le_of_ble_eq_true rfl) (Nat.zero_le _) (Nat.zero_le _) (k_57_102 (by first | exact dq1 hd rfl | exact dq0 hd rfl | exact dq2 hd rfl | exact dq3 hd rfl | omega) hI46 e46b n57) (fun e u h => h) (fun v u h => ?_)
                  obtain ⟨s57, hI57, hF57, n57a, z57, rfl, rfl, i57, p57⟩ := h
                  obtain ⟨z57a, e57⟩ : ∃ w, w = s57.2.2.1 102 4 := ⟨_, rfl⟩
                  have i57a := inv_F hI57 0 120 rfl e57
                  rw [← (show z46c = s46.2.2.1 102 4 from e46b)] at n57a
                  rw [← (show z57a = s57.2.2.1 102 4 from e57)] at n57a
                  show GG _ _ _ _ _ _ _ _ [.int z57] _ _ _
                  refine g_if_eq 63 67 (gd rfl) rfl rfl (fun c60 => ?_) (fun c60 => ?_)
                  · skip
                    exact zn_eq c60 i57 rfl
                  · skip
                    refine g_iconst 1 64 (gd rfl) rfl rfl ?_
                    refine g_goto 68 (gd rfl) rfl ?_
                    have n68 : TK s57 := by exact tk_fr hF57 rfl p46a
                    have n68a : ((Int32.ofInt 1)).toInt ≠ 0 → PCV s s57 1 := by intro _; exact pv_st (j := 2) (k := 1) (pv_tr (j := 1) (k := 1) (pv_tr (j := 1) (k := 0) (p3b c6) (pv_sm (hF40.1 104 rfl) (hF40.2.2.1 102 4 rfl))) (p46b c49)) (inv_F hI46 0 120 rfl rfl).1 p57 (by rw [← (show z57a = s57.2.2.1 102 4 from e57), ← hDe]; have a0 := oa11 ((inv_F hI 0 120 rfl e_102_4)) ((inv_F hI 0 5 rfl e_46_3)) ((inv_F hI 0 1000 rfl e_46_4)) r_46_1 ((inv_F hI 0 1000 rfl e_46_2)) h2 i23x13 i57a i46b i46a i56; have a11 := t_add e56 (in_c 1000100 rfl) i23x13 rfl; have a12 := in_u ((in_c 1000100 rfl)); omega) (fun e => hc_b (by have a0 := oa11 ((inv_F hI 0 120 rfl e_102_4)) ((inv_F hI 0 5 rfl e_46_3)) ((inv_F hI 0 1000 rfl e_46_4)) r_46_1 ((inv_F hI 0 1000 rfl e_46_2)) h2 i23x13 i57a i46b i46a i56; have a11 := t_add e56 (in_c 1000100 rfl) i23x13 rfl; have a12 := in_u ((in_c 1000100 rfl)); omega) (by have a0 := oa11 ((inv_F hI 0 120 rfl e_102_4)) ((inv_F hI 0 5 rfl e_46_3)) ((inv_F hI 0 1000 rfl e_46_4)) r_46_1 ((inv_F hI 0 1000 rfl e_46_2)) h2 i23x13 i57a i46b i46a i56; have a11 := t_add e56 (in_c 1000100 rfl) i23x13 rfl; have a12 := in_u ((in_c 1000100 rfl)); omega) e)
                    have n68b : (z46a).toInt ≤ (u_46_1).toInt := by have a0 := oa11 ((inv_F hI 0 120 rfl e_102_4)) ((inv_F hI 0 5 rfl e_46_3)) ((inv_F hI 0 1000 rfl e_46_4)) r_46_1 ((inv_F hI 0 1000 rfl e_46_2)) h2 i23x13 i57a i46b i46a i56; have a11 := t_add e56 (in_c 1000100 rfl) i23x13 rfl; have a12 := in_u ((in_c 1000100 rfl)); omega
                    have n68c : (s57.2.2.1 46 2).toInt ≤ (s57.2.2.1 46 1).toInt := by have b0 : z46a = s57.2.2.1 46 2 := fr_F (e46) hF57 rfl; have b1 : u_46_1 = s57.2.2.1 46 1 := fr_F (fr_F (fr_F (fr_F (e_46_1) hF3 rfl) hF40 rfl) hF46 rfl) hF57 rfl; rw [← b0, ← b1]; exact n68b
                    have n68d : (z46b).toInt ≤ (z46a).toInt := by have a0 := oa11 ((inv_F hI 0 120 rfl e_102_4)) ((inv_F hI 0 5 rfl e_46_3)) ((inv_F hI 0 1000 rfl e_46_4)) r_46_1 ((inv_F hI 0 1000 rfl e_46_2)) h2 i23x13 i57a i46b i46a i56; have a11 := t_add e56 (in_c 1000100 rfl) i23x13 rfl; have a12 := in_u ((in_c 1000100 rfl)); omega
                    have n68e : (s57.2.2.1 46 4).toInt ≤ (s57.2.2.1 46 2).toInt := by have b0 : z46b = s57.2.2.1 46 4 := fr_F (e46a) hF57 rfl; have b1 : z46a = s57.2.2.1 46 2 := fr_F (e46) hF57 rfl; rw [← b0, ← b1]; exact n68d
                    have n68f : (z57a).toInt ≤ (z46b).toInt := by have a0 := oa11 ((inv_F hI 0 120 rfl e_102_4)) ((inv_F hI 0 5 rfl e_46_3)) ((inv_F hI 0 1000 rfl e_46_4)) r_46_1 ((inv_F hI 0 1000 rfl e_46_2)) h2 i23x13 i57a i46b i46a i56; have a11 := t_add e56 (in_c 1000100 rfl) i23x13 rfl; have a12 := in_u ((in_c 1000100 rfl)); omega
                    have n68g : (s57.2.2.1 102 4).toInt ≤ (s57.2.2.1 46 4).toInt := by have b0 : z57a = s57.2.2.1 102 4 := e57; have b1 : z46b = s57.2.2.1 46 4 := fr_F (e46a) hF57 rfl; rw [← b0, ← b1]; exact n68f
                    have n68h : (u_46_4).toInt - (u_102_4).toInt ≤ (z46b).toInt - (z57a).toInt := by have a0 := oa11 ((inv_F hI 0 120 rfl e_102_4)) ((inv_F hI 0 5 rfl e_46_3)) ((inv_F hI 0 1000 rfl e_46_4)) r_46_1 ((inv_F hI 0 1000 rfl e_46_2)) h2 i23x13 i57a i46b i46a i56; have a11 := t_add e56 (in_c 1000100 rfl) i23x13 rfl; have a12 := in_u ((in_c 1000100 rfl)); omega
                    have n68i : (s.2.2.1 46 4).toInt - (s.2.2.1 102 4).toInt ≤ (s57.2.2.1 46 4).toInt - (s57.2.2.1 102 4).toInt := by have b0 : z46b = s57.2.2.1 46 4 := fr_F (e46a) hF57 rfl; have b1 : z57a = s57.2.2.1 102 4 := e57; first | (rw [← b0, ← b1, ← e_46_4, ← e_102_4]; exact n68h) | (rw [← b0, ← b1]; exact n68h)
                    exact g_ireturn (gd rfl) rfl (nb01 (in_w 0 1 (in_c 1 rfl) rfl)) (hP _ _ ⟨s57, hI57, (fr_tr rfl (fr_tr rfl (fr_tr rfl (fr_tr rfl fr_rf hF3) hF40) hF46) hF57), n68c, n68e, n68g, n68i, (Int32.ofInt 1), rfl, rfl, in_w 0 1 (in_c 1 rfl) rfl, n68, n68a⟩)
              · skip
                exact zn_eq c26 (in_c 1 rfl) rfl
      · skip
        have i14x13 := r_eq1 60 60 c14x13 (i_rng z14x9) (in_c 60 rfl) rfl
        refine g_iconst 1 17 (gd rfl) rfl rfl ?_
        refine g_goto 21 (gd rfl) rfl ?_
        refine g_ireturn (gd rfl) rfl (nb01 (in_w 0 1 (in_c 1 rfl) rfl)) (hp14 _ _ ?_)
        show GG _ _ _ _ _ _ _ _ [.int (Int32.ofInt 1)] _ _ _
        refine g_if_ne 20 31 (gd rfl) rfl rfl (fun c17 => ?_) (fun c17 => ?_)
        · skip
          refine g_aload_n 32 (gd rfl) rfl rfl ?_
          refine g_getI 35 (gd rfl) rfl rfl rfl (fun z32 e32 => ?_)
          have q32 : z14x9 = z32 := (e14x9).trans e32.symm
          subst q32
          refine g_istore_n 36 (gd rfl) rfl (Nat.le_of_ble_eq_true rfl) ?_
          refine g_aload_n 37 (gd rfl) rfl rfl ?_
          refine g_bipush 6 39 (gd rfl) rfl rfl ?_
          refine g_iconst 0 40 (gd rfl) rfl rfl ?_
          have hk := tka_1 p3a (show z14x1 = s3.2.2.1 46 3 from e14x1) (show z3b = s3.2.2.1 46 4 from e3a) (show z3a = s3.2.2.1 46 2 from e3) (by have a0 := oa11 ((inv_F hI 0 120 rfl e_102_4)) ((inv_F hI 0 5 rfl e_46_3)) ((inv_F hI 0 1000 rfl e_46_4)) r_46_1 ((inv_F hI 0 1000 rfl e_46_2)) h2 i14x13 i14x5 i3c i3b i3a; omega)
          have v40 : u_46_1 = s3.2.2.1 46 1 := fr_F (e_46_1) hF3 rfl
          have n40 : (z3a).toInt ≤ (u_46_1).toInt := by have a0 := oa11 ((inv_F hI 0 120 rfl e_102_4)) ((inv_F hI 0 5 rfl e_46_3)) ((inv_F hI 0 1000 rfl e_46_4)) r_46_1 ((inv_F hI 0 1000 rfl e_46_2)) h2 i14x13 i14x5 i3c i3b i3a; omega
          refine g_callv (X := _) (As := [.int (Int32.ofInt 6), .int (Int32.ofInt 0)]) (r := []) (b := A 46) (q := 46) 43 (gd rfl) rfl rfl rfl rfl rfl (ww_o rfl) (Nat.le_of_ble_eq_true rfl) (Nat.zero_le _) (Nat.zero_le _) (k_171_46 (by first | exact dq1 hd rfl | exact dq0 hd rfl | exact dq2 hd rfl | exact dq3 hd rfl | omega) hI3 (in_w 6 7 (in_c 6 rfl) rfl) (in_w 0 1 (in_c 0 rfl) rfl) e3 v40 n40) (fun e u h => h) (fun v u h => ?_)
          obtain ⟨s40, hI40, hF40, n40a, n40b, n40c, rfl, rfl, p40, p40a⟩ := h
          obtain ⟨z40a, e40⟩ : ∃ w, w = s40.2.2.1 46 2 := ⟨_, rfl⟩
          have i40a := inv_F hI40 0 1000 rfl e40
          obtain ⟨z40b, e40a⟩ : ∃ w, w = s40.2.2.1 46 4 := ⟨_, rfl⟩
          have i40b := inv_F hI40 0 1000 rfl e40a
          rw [← (show z40a = s40.2.2.1 46 2 from e40)] at n40a
          rw [← (show u_46_1 = s40.2.2.1 46 1 from fr_F (fr_F (e_46_1) hF3 rfl) hF40 rfl)] at n40a
          rw [← (show z40a = s40.2.2.1 46 2 from e40)] at n40b
          rw [← (show z40b = s40.2.2.1 46 4 from e40a)] at n40b
          rw [← (show z3a = s3.2.2.1 46 2 from e3)] at n40c
          rw [← (show z40b = s40.2.2.1 46 4 from e40a)] at n40c
          show GG _ _ _ _ _ _ _ _ [] _ _ _
          refine g_aload_n 44 (gd rfl) rfl rfl ?_
          refine g_aload_n 45 (gd rfl) rfl rfl ?_
          refine g_iload_n 46 (gd rfl) rfl rfl ?_
          have v46 : u_46_1 = s40.2.2.1 46 1 := fr_F (fr_F (e_46_1) hF3 rfl) hF40 rfl
          have v46a : z3c = s40.2.2.1 102 4 := fr_F (e3b) hF40 rfl
          have n46 : (z40a).toInt ≤ (u_46_1).toInt := by have a0 := oa10 ((inv_F hI 0 120 rfl e_102_4)) ((inv_F hI 0 5 rfl e_46_3)) ((inv_F hI 0 1000 rfl e_46_4)) r_46_1 ((inv_F hI 0 1000 rfl e_46_2)) h2 i14x13 i40b i40a i3c; omega
          have n46a : (z40b).toInt ≤ (z40a).toInt := by have a0 := oa10 ((inv_F hI 0 120 rfl e_102_4)) ((inv_F hI 0 5 rfl e_46_3)) ((inv_F hI 0 1000 rfl e_46_4)) r_46_1 ((inv_F hI 0 1000 rfl e_46_2)) h2 i14x13 i40b i40a i3c; omega
          have n46b : (z3c).toInt ≤ (z40b).toInt := by have a0 := oa10 ((inv_F hI 0 120 rfl e_102_4)) ((inv_F hI 0 5 rfl e_46_3)) ((inv_F hI 0 1000 rfl e_46_4)) r_46_1 ((inv_F hI 0 1000 rfl e_46_2)) h2 i14x13 i40b i40a i3c; omega
          have p46 : TK s40 := by exact p40 (by decide)
          have n46c : 10 - (x2).toInt < ((kk : Nat) : Int) := by have a0 := oa10 ((inv_F hI 0 120 rfl e_102_4)) ((inv_F hI 0 5 rfl e_46_3)) ((inv_F hI 0 1000 rfl e_46_4)) r_46_1 ((inv_F hI 0 1000 rfl e_46_2)) h2 i14x13 i40b i40a i3c; omega
          refine g_callv (X := _) (As := [.ref (A 46), .int x2]) (r := []) (b := A 102) (q := 102) 49 (gd rfl) rfl rfl rfl rfl rfl (ww_o rfl) (Nat.le_of_ble_eq_true rfl) (Nat.zero_le _) (Nat.zero_le _) (ih (by omega) hI40 (in_w 0 10 h2 rfl) e40 v46 e40a rfl rfl v46a (in_w 0 120 r_46_1 rfl) n46 n46a n46b p46 n46c) (fun e u h => h) (fun v u h => ?_)
          obtain ⟨s46, hI46, hF46, n46d, n46e, n46f, n46g, z46, rfl, rfl, i46, p46a, p46b⟩ := h
          obtain ⟨z46a, e46⟩ : ∃ w, w = s46.2.2.1 46 2 := ⟨_, rfl⟩
          have i46a := inv_F hI46 0 1000 rfl e46
          obtain ⟨z46b, e46a⟩ : ∃ w, w = s46.2.2.1 46 4 := ⟨_, rfl⟩
          have i46b := inv_F hI46 0 1000 rfl e46a
          obtain ⟨z46c, e46b⟩ : ∃ w, w = s46.2.2.1 102 4 := ⟨_, rfl⟩
          have i46c := inv_F hI46 0 120 rfl e46b
          rw [← (show z46a = s46.2.2.1 46 2 from e46)] at n46d
          rw [← (show u_46_1 = s46.2.2.1 46 1 from fr_F (fr_F (fr_F (e_46_1) hF3 rfl) hF40 rfl) hF46 rfl)] at n46d
          rw [← (show z46a = s46.2.2.1 46 2 from e46)] at n46e
          rw [← (show z46b = s46.2.2.1 46 4 from e46a)] at n46e
          rw [← (show z46b = s46.2.2.1 46 4 from e46a)] at n46f
          rw [← (show z46c = s46.2.2.1 102 4 from e46b)] at n46f
          rw [← (show z40b = s40.2.2.1 46 4 from e40a)] at n46g
          rw [← (show z3c = s40.2.2.1 102 4 from fr_F (e3b) hF40 rfl)] at n46g
          rw [← (show z46b = s46.2.2.1 46 4 from e46a)] at n46g
          rw [← (show z46c = s46.2.2.1 102 4 from e46b)] at n46g
          show GG _ _ _ _ _ _ _ _ [.int z46] _ _ _
          refine g_if_eq 52 67 (gd rfl) rfl rfl (fun c49 => ?_) (fun c49 => ?_)
          · skip
            have i49 := z_eq 0 0 c49 i46 rfl
            refine g_iconst 0 68 (gd rfl) rfl rfl ?_
            have n68 : TK s46 := by exact p46a
            have n68a : ((Int32.ofInt 0)).toInt ≠ 0 → PCV s s46 1 := by first | (intro _; exact p3b c6) | (intro h; exact absurd rfl h)
            have n68b : (z46a).toInt ≤ (u_46_1).toInt := by have a0 := oa10 ((inv_F hI 0 120 rfl e_102_4)) ((inv_F hI 0 5 rfl e_46_3)) ((inv_F hI 0 1000 rfl e_46_4)) r_46_1 ((inv_F hI 0 1000 rfl e_46_2)) h2 i14x13 i46c i46b i46a; omega
            have n68c : (s46.2.2.1 46 2).toInt ≤ (s46.2.2.1 46 1).toInt := by have b0 : z46a = s46.2.2.1 46 2 := e46; have b1 : u_46_1 = s46.2.2.1 46 1 := fr_F (fr_F (fr_F (e_46_1) hF3 rfl) hF40 rfl) hF46 rfl; rw [← b0, ← b1]; exact n68b
            have n68d : (z46b).toInt ≤ (z46a).toInt := by have a0 := oa10 ((inv_F hI 0 120 rfl e_102_4)) ((inv_F hI 0 5 rfl e_46_3)) ((inv_F hI 0 1000 rfl e_46_4)) r_46_1 ((inv_F hI 0 1000 rfl e_46_2)) h2 i14x13 i46c i46b i46a; omega
            have n68e : (s46.2.2.1 46 4).toInt ≤ (s46.2.2.1 46 2).toInt := by have b0 : z46b = s46.2.2.1 46 4 := e46a; have b1 : z46a = s46.2.2.1 46 2 := e46; rw [← b0, ← b1]; exact n68d
            have n68f : (z46c).toInt ≤ (z46b).toInt := by have a0 := oa10 ((inv_F hI 0 120 rfl e_102_4)) ((inv_F hI 0 5 rfl e_46_3)) ((inv_F hI 0 1000 rfl e_46_4)) r_46_1 ((inv_F hI 0 1000 rfl e_46_2)) h2 i14x13 i46c i46b i46a; omega
            have n68g : (s46.2.2.1 102 4).toInt ≤ (s46.2.2.1 46 4).toInt := by have b0 : z46c = s46.2.2.1 102 4 := e46b; have b1 : z46b = s46.2.2.1 46 4 := e46a; rw [← b0, ← b1]; exact n68f
            have n68h : (u_46_4).toInt - (u_102_4).toInt ≤ (z46b).toInt - (z46c).toInt := by have a0 := oa10 ((inv_F hI 0 120 rfl e_102_4)) ((inv_F hI 0 5 rfl e_46_3)) ((inv_F hI 0 1000 rfl e_46_4)) r_46_1 ((inv_F hI 0 1000 rfl e_46_2)) h2 i14x13 i46c i46b i46a; omega
            have n68i : (s.2.2.1 46 4).toInt - (s.2.2.1 102 4).toInt ≤ (s46.2.2.1 46 4).toInt - (s46.2.2.1 102 4).toInt := by have b0 : z46b = s46.2.2.1 46 4 := e46a; have b1 : z46c = s46.2.2.1 102 4 := e46b; first | (rw [← b0, ← b1, ← e_46_4, ← e_102_4]; exact n68h) | (rw [← b0, ← b1]; exact n68h)
            exact g_ireturn (gd rfl) rfl (nb01 (in_w 0 1 (in_c 0 rfl) rfl)) (hP _ _ ⟨s46, hI46, (fr_tr rfl (fr_tr rfl (fr_tr rfl fr_rf hF3) hF40) hF46), n68c, n68e, n68g, n68i, (Int32.ofInt 0), rfl, rfl, in_w 0 1 (in_c 0 rfl) rfl, n68, n68a⟩)
          · skip
            have i49 := z_ne 1 1 c49 i46 rfl
            refine g_aload_n 53 (gd rfl) rfl rfl ?_
            refine g_ldc 1000100 55 (gd rfl) rfl rfl ?_
            refine g_iload_n 56 (gd rfl) rfl rfl ?_
            refine g_iadd 57 (gd rfl) rfl (fun z56 e56 => ?_)
            have i56 := in_add 1000160 1000160 e56 (in_c 1000100 rfl) i14x13 rfl rfl
            have hDe : _ = s46.2.2.1 102 4 := (show z46c = s46.2.2.1 102 4 from e46b)
            have n57 : (z46c).toInt ≤ 119 := by have a0 := oa11 ((inv_F hI 0 120 rfl e_102_4)) ((inv_F hI 0 5 rfl e_46_3)) ((inv_F hI 0 1000 rfl e_46_4)) r_46_1 ((inv_F hI 0 1000 rfl e_46_2)) h2 i14x13 i46c i46b i46a i56; have a11 := t_add e56 (in_c 1000100 rfl) i14x13 rfl; have a12 := in_u ((in_c 1000100 rfl)); omega
            refine g_callv (X := _) (As := [.int z56]) (r := []) (b := A 102) (q := 102) 60 (gd rfl) rfl rfl rfl rfl rfl (ww_o rfl) (Nat.le_of_ble_eq_true rfl) (Nat.zero_le _) (Nat.zero_le _) (k_57_102 (by first | exact dq1 hd rfl | exact dq0 hd rfl | exact dq2 hd rfl | exact dq3 hd rfl | omega) hI46 e46b n57) (fun e u h => h) (fun v u h => ?_)
            obtain ⟨s57, hI57, hF57, n57a, z57, rfl, rfl, i57, p57⟩ := h
            obtain ⟨z57a, e57⟩ : ∃ w, w = s57.2.2.1 102 4 := ⟨_, rfl⟩
            have i57a := inv_F hI57 0 120 rfl e57
            rw [← (show z46c = s46.2.2.1 102 4 from e46b)] at n57a
            rw [← (show z57a = s57.2.2.1 102 4 from e57)] at n57a
            show GG _ _ _ _ _ _ _ _ [.int z57] _ _ _
            refine g_if_eq 63 67 (gd rfl) rfl rfl (fun c60 => ?_) (fun c60 => ?_)
            · skip
              exact zn_eq c60 i57 rfl
            · skip
              refine g_iconst 1 64 (gd rfl) rfl rfl ?_
              refine g_goto 68 (gd rfl) rfl ?_
              have n68 : TK s57 := by exact tk_fr hF57 rfl p46a
              have n68a : ((Int32.ofInt 1)).toInt ≠ 0 → PCV s s57 1 := by intro _; exact pv_st (j := 2) (k := 1) (pv_tr (j := 1) (k := 1) (pv_tr (j := 1) (k := 0) (p3b c6) (pv_sm (hF40.1 104 rfl) (hF40.2.2.1 102 4 rfl))) (p46b c49)) (inv_F hI46 0 120 rfl rfl).1 p57 (by rw [← (show z57a = s57.2.2.1 102 4 from e57), ← hDe]; have a0 := oa11 ((inv_F hI 0 120 rfl e_102_4)) ((inv_F hI 0 5 rfl e_46_3)) ((inv_F hI 0 1000 rfl e_46_4)) r_46_1 ((inv_F hI 0 1000 rfl e_46_2)) h2 i14x13 i57a i46b i46a i56; have a11 := t_add e56 (in_c 1000100 rfl) i14x13 rfl; have a12 := in_u ((in_c 1000100 rfl)); omega) (fun e => hc_b (by have a0 := oa11 ((inv_F hI 0 120 rfl e_102_4)) ((inv_F hI 0 5 rfl e_46_3)) ((inv_F hI 0 1000 rfl e_46_4)) r_46_1 ((inv_F hI 0 1000 rfl e_46_2)) h2 i14x13 i57a i46b i46a i56; have a11 := t_add e56 (in_c 1000100 rfl) i14x13 rfl; have a12 := in_u ((in_c 1000100 rfl)); omega) (by have a0 := oa11 ((inv_F hI 0 120 rfl e_102_4)) ((inv_F hI 0 5 rfl e_46_3)) ((inv_F hI 0 1000 rfl e_46_4)) r_46_1 ((inv_F hI 0 1000 rfl e_46_2)) h2 i14x13 i57a i46b i46a i56; have a11 := t_add e56 (in_c 1000100 rfl) i14x13 rfl; have a12 := in_u ((in_c 1000100 rfl)); omega) e)
              have n68b : (z46a).toInt ≤ (u_46_1).toInt := by have a0 := oa11 ((inv_F hI 0 120 rfl e_102_4)) ((inv_F hI 0 5 rfl e_46_3)) ((inv_F hI 0 1000 rfl e_46_4)) r_46_1 ((inv_F hI 0 1000 rfl e_46_2)) h2 i14x13 i57a i46b i46a i56; have a11 := t_add e56 (in_c 1000100 rfl) i14x13 rfl; have a12 := in_u ((in_c 1000100 rfl)); omega
              have n68c : (s57.2.2.1 46 2).toInt ≤ (s57.2.2.1 46 1).toInt := by have b0 : z46a = s57.2.2.1 46 2 := fr_F (e46) hF57 rfl; have b1 : u_46_1 = s57.2.2.1 46 1 := fr_F (fr_F (fr_F (fr_F (e_46_1) hF3 rfl) hF40 rfl) hF46 rfl) hF57 rfl; rw [← b0, ← b1]; exact n68b
              have n68d : (z46b).toInt ≤ (z46a).toInt := by have a0 := oa11 ((inv_F hI 0 120 rfl e_102_4)) ((inv_F hI 0 5 rfl e_46_3)) ((inv_F hI 0 1000 rfl e_46_4)) r_46_1 ((inv_F hI 0 1000 rfl e_46_2)) h2 i14x13 i57a i46b i46a i56; have a11 := t_add e56 (in_c 1000100 rfl) i14x13 rfl; have a12 := in_u ((in_c 1000100 rfl)); omega
              have n68e : (s57.2.2.1 46 4).toInt ≤ (s57.2.2.1 46 2).toInt := by have b0 : z46b = s57.2.2.1 46 4 := fr_F (e46a) hF57 rfl; have b1 : z46a = s57.2.2.1 46 2 := fr_F (e46) hF57 rfl; rw [← b0, ← b1]; exact n68d
              have n68f : (z57a).toInt ≤ (z46b).toInt := by have a0 := oa11 ((inv_F hI 0 120 rfl e_102_4)) ((inv_F hI 0 5 rfl e_46_3)) ((inv_F hI 0 1000 rfl e_46_4)) r_46_1 ((inv_F hI 0 1000 rfl e_46_2)) h2 i14x13 i57a i46b i46a i56; have a11 := t_add e56 (in_c 1000100 rfl) i14x13 rfl; have a12 := in_u ((in_c 1000100 rfl)); omega
              have n68g : (s57.2.2.1 102 4).toInt ≤ (s57.2.2.1 46 4).toInt := by have b0 : z57a = s57.2.2.1 102 4 := e57; have b1 : z46b = s57.2.2.1 46 4 := fr_F (e46a) hF57 rfl; rw [← b0, ← b1]; exact n68f
              have n68h : (u_46_4).toInt - (u_102_4).toInt ≤ (z46b).toInt - (z57a).toInt := by have a0 := oa11 ((inv_F hI 0 120 rfl e_102_4)) ((inv_F hI 0 5 rfl e_46_3)) ((inv_F hI 0 1000 rfl e_46_4)) r_46_1 ((inv_F hI 0 1000 rfl e_46_2)) h2 i14x13 i57a i46b i46a i56; have a11 := t_add e56 (in_c 1000100 rfl) i14x13 rfl; have a12 := in_u ((in_c 1000100 rfl)); omega
              have n68i : (s.2.2.1 46 4).toInt - (s.2.2.1 102 4).toInt ≤ (s57.2.2.1 46 4).toInt - (s57.2.2.1 102 4).toInt := by have b0 : z46b = s57.2.2.1 46 4 := fr_F (e46a) hF57 rfl; have b1 : z57a = s57.2.2.1 102 4 := e57; first | (rw [← b0, ← b1, ← e_46_4, ← e_102_4]; exact n68h) | (rw [← b0, ← b1]; exact n68h)
              exact g_ireturn (gd rfl) rfl (nb01 (in_w 0 1 (in_c 1 rfl) rfl)) (hP _ _ ⟨s57, hI57, (fr_tr rfl (fr_tr rfl (fr_tr rfl (fr_tr rfl fr_rf hF3) hF40) hF46) hF57), n68c, n68e, n68g, n68i, (Int32.ofInt 1), rfl, rfl, in_w 0 1 (in_c 1 rfl) rfl, n68, n68a⟩)
        · skip
          exact zn_eq c17 (in_c 1 rfl) rfl
  · skip
    have i6 := z_eq 0 0 c6 i3 rfl
    refine g_iconst 0 10 (gd rfl) rfl rfl ?_
    have n10 : TK s3 := by exact p3a
    have n10a : ((Int32.ofInt 0)).toInt ≠ 0 → PCV s s3 1 := by first | (intro _; exact p3b c6) | (intro h; exact absurd rfl h)
    have n10b : (z3a).toInt ≤ (u_46_1).toInt := by have a0 := oa9 ((inv_F hI 0 120 rfl e_102_4)) ((inv_F hI 0 5 rfl e_46_3)) ((inv_F hI 0 1000 rfl e_46_4)) r_46_1 ((inv_F hI 0 1000 rfl e_46_2)) h2 i3c i3b i3a; omega
    have n10c : (s3.2.2.1 46 2).toInt ≤ (s3.2.2.1 46 1).toInt := by have b0 : z3a = s3.2.2.1 46 2 := e3; have b1 : u_46_1 = s3.2.2.1 46 1 := fr_F (e_46_1) hF3 rfl; rw [← b0, ← b1]; exact n10b
    have n10d : (z3b).toInt ≤ (z3a).toInt := by have a0 := oa9 ((inv_F hI 0 120 rfl e_102_4)) ((inv_F hI 0 5 rfl e_46_3)) ((inv_F hI 0 1000 rfl e_46_4)) r_46_1 ((inv_F hI 0 1000 rfl e_46_2)) h2 i3c i3b i3a; omega
    have n10e : (s3.2.2.1 46 4).toInt ≤ (s3.2.2.1 46 2).toInt := by have b0 : z3b = s3.2.2.1 46 4 := e3a; have b1 : z3a = s3.2.2.1 46 2 := e3; rw [← b0, ← b1]; exact n10d
    have n10f : (z3c).toInt ≤ (z3b).toInt := by have a0 := oa9 ((inv_F hI 0 120 rfl e_102_4)) ((inv_F hI 0 5 rfl e_46_3)) ((inv_F hI 0 1000 rfl e_46_4)) r_46_1 ((inv_F hI 0 1000 rfl e_46_2)) h2 i3c i3b i3a; omega
    have n10g : (s3.2.2.1 102 4).toInt ≤ (s3.2.2.1 46 4).toInt := by have b0 : z3c = s3.2.2.1 102 4 := e3b; have b1 : z3b = s3.2.2.1 46 4 := e3a; rw [← b0, ← b1]; exact n10f
    have n10h : (u_46_4).toInt - (u_102_4).toInt ≤ (z3b).toInt - (z3c).toInt := by have a0 := oa9 ((inv_F hI 0 120 rfl e_102_4)) ((inv_F hI 0 5 rfl e_46_3)) ((inv_F hI 0 1000 rfl e_46_4)) r_46_1 ((inv_F hI 0 1000 rfl e_46_2)) h2 i3c i3b i3a; omega
    have n10i : (s.2.2.1 46 4).toInt - (s.2.2.1 102 4).toInt ≤ (s3.2.2.1 46 4).toInt - (s3.2.2.1 102 4).toInt := by have b0 : z3b = s3.2.2.1 46 4 := e3a; have b1 : z3c = s3.2.2.1 102 4 := e3b; first | (rw [← b0, ← b1, ← e_46_4, ← e_102_4]; exact n10h) | (rw [← b0, ← b1]; exact n10h)
    exact g_ireturn (gd rfl) rfl (nb01 (in_w 0 1 (in_c 0 rfl) rfl)) (hP _ _ ⟨s3, hI3, (fr_tr rfl fr_rf hF3), n10c, n10e, n10g, n10i, (Int32.ofInt 0), rfl, rfl, in_w 0 1 (in_c 0 rfl) rfl, n10, n10a⟩)
theorem k_61_102_46_r {Z : AmZ} {A : Nat → Nat} {ex : va_W} (kk : Nat) : ∀ {s : GS} {d : Nat} {X : AmX} {x2 : Int32} {u_46_2 : Int32} {u_46_1 : Int32} {u_46_4 : Int32} {u_46_3 : Int32} {u_46_5 : Int32} {u_102_4 : Int32}, 60 + kk * 20 ≤ d → Inv s → (In x2 0 10) → (u_46_2 = s.2.2.1 46 2) → (u_46_1 = s.2.2.1 46 1) → (u_46_4 = s.2.2.1 46 4) → (u_46_3 = s.2.2.1 46 3) → (u_46_5 = s.2.2.1 46 5) → (u_102_4 = s.2.2.1 102 4) → (In u_46_1 0 120) → ((u_46_2).toInt ≤ (u_46_1).toInt) → ((u_46_4).toInt ≤ (u_46_2).toInt) → ((u_102_4).toInt ≤ (u_46_4).toInt) → (TK s) → 10 - (x2).toInt < ((kk : Nat) : Int) → GC Z d 61 [.ref (A 102), .ref (A 46), .int x2] (WW Z A s ++ ex) 0 0 (fun v u => ∃ t : GS, Inv t ∧ Fr fm_61_102_46 s t ∧ ((t.2.2.1 46 2).toInt ≤ (t.2.2.1 46 1).toInt) ∧ ((t.2.2.1 46 4).toInt ≤ (t.2.2.1 46 2).toInt) ∧ ((t.2.2.1 102 4).toInt ≤ (t.2.2.1 46 4).toInt) ∧ ((s.2.2.1 46 4).toInt - (s.2.2.1 102 4).toInt ≤ (t.2.2.1 46 4).toInt - (t.2.2.1 102 4).toInt) ∧ ∃ z : Int32, v = some (.int z) ∧ u = WW Z A t ++ ex ∧ In z 0 1 ∧ (TK t) ∧ ((z).toInt ≠ 0 → PCV s t 1)) X := by
  induction kk with
  | zero => intro s d X x2 u_46_2 u_46_1 u_46_4 u_46_3 u_46_5 u_102_4 hd hI h2 e_46_2 e_46_1 e_46_4 e_46_3 e_46_5 e_102_4 r_46_1 p_0 p_1 p_2 q_0 hm; exact m_no hm h2 rfl
  | succ kk ih =>
    have ihl : ∀ {s : GS} {d : Nat} {X : AmX} {x2 : Int32} {u_46_2 : Int32} {u_46_1 : Int32} {u_46_4 : Int32} {u_46_3 : Int32} {u_46_5 : Int32} {u_102_4 : Int32}, 75 + kk * 20 ≤ d → Inv s → (In x2 0 10) → (u_46_2 = s.2.2.1 46 2) → (u_46_1 = s.2.2.1 46 1) → (u_46_4 = s.2.2.1 46 4) → (u_46_3 = s.2.2.1 46 3) → (u_46_5 = s.2.2.1 46 5) → (u_102_4 = s.2.2.1 102 4) → (In u_46_1 0 120) → ((u_46_2).toInt ≤ (u_46_1).toInt) → ((u_46_4).toInt ≤ (u_46_2).toInt) → ((u_102_4).toInt ≤ (u_46_4).toInt) → (TK s) → 10 - (x2).toInt < ((kk : Nat) : Int) → GC Z d 58 [.ref (A 102), .ref (A 46), .int x2] (WW Z A s ++ ex) 0 0 (fun v u => ∃ t : GS, Inv t ∧ Fr fm_58_102_46 s t ∧ ((t.2.2.1 46 2).toInt ≤ (t.2.2.1 46 1).toInt) ∧ ((t.2.2.1 46 4).toInt ≤ (t.2.2.1 46 2).toInt) ∧ ((t.2.2.1 102 4).toInt ≤ (t.2.2.1 46 4).toInt) ∧ ((s.2.2.1 46 4).toInt - (s.2.2.1 102 4).toInt ≤ (t.2.2.1 46 4).toInt - (t.2.2.1 102 4).toInt) ∧ ∃ z : Int32, v = some (.int z) ∧ u = WW Z A t ++ ex ∧ In z 0 1 ∧ (TK t) ∧ ((z).toInt ≠ 0 → PCV s t 1)) X := (k_58_102_46_r kk (k_59_102_46_r kk (k_60_102_46_r kk ih)))
    intro s d X x2 u_46_2 u_46_1 u_46_4 u_46_3 u_46_5 u_102_4 hd hI h2 e_46_2 e_46_1 e_46_4 e_46_3 e_46_5 e_102_4 r_46_1 p_0 p_1 p_2 q_0 hm
    intro post xp hP hX
    refine g_enter2 (k := 61) (N := 900) (by first | exact dq1 hd rfl | exact dq0 hd rfl | exact dq2 hd rfl | exact dq3 hd rfl | omega) rfl (Nat.le_of_ble_eq_true rfl) ?_
    refine g_aload_n 1 (gd rfl) rfl rfl ?_
    refine g_getI 4 (gd rfl) rfl rfl rfl (fun z1 e1 => ?_)
    have q1 : u_46_3 = z1 := (e_46_3).trans e1.symm
    subst q1
    refine g_iconst 2 5 (gd rfl) rfl rfl ?_
    refine g_cmp_eq 8 16 (gd rfl) rfl rfl (fun c5 => ?_) (fun c5 => ?_)
    · skip
      have i5 := r_eq1 2 2 c5 (inv_F hI 0 5 rfl e_46_3) (in_c 2 rfl) rfl
      refine g_aload_n 17 (gd rfl) rfl rfl ?_
      refine g_aload_n 18 (gd rfl) rfl rfl ?_
      have n18 : (u_46_2).toInt ≤ (u_46_1).toInt := by have a0 := oa6 ((inv_F hI 0 120 rfl e_102_4)) i5 ((inv_F hI 0 1000 rfl e_46_4)) r_46_1 ((inv_F hI 0 1000 rfl e_46_2)) h2; omega
      have n18a : (u_46_4).toInt ≤ (u_46_2).toInt := by have a0 := oa6 ((inv_F hI 0 120 rfl e_102_4)) i5 ((inv_F hI 0 1000 rfl e_46_4)) r_46_1 ((inv_F hI 0 1000 rfl e_46_2)) h2; omega
      have n18b : (u_102_4).toInt ≤ (u_46_4).toInt := by have a0 := oa6 ((inv_F hI 0 120 rfl e_102_4)) i5 ((inv_F hI 0 1000 rfl e_46_4)) r_46_1 ((inv_F hI 0 1000 rfl e_46_2)) h2; omega
      have n18c : 1 ≤ (u_46_3).toInt := by have a0 := oa6 ((inv_F hI 0 120 rfl e_102_4)) i5 ((inv_F hI 0 1000 rfl e_46_4)) r_46_1 ((inv_F hI 0 1000 rfl e_46_2)) h2; omega
      have n18d : (u_46_3).toInt ≤ 2 := by have a0 := oa6 ((inv_F hI 0 120 rfl e_102_4)) i5 ((inv_F hI 0 1000 rfl e_46_4)) r_46_1 ((inv_F hI 0 1000 rfl e_46_2)) h2; omega
      have p18 : TK s := by exact q_0
      refine g_callv (X := _) (As := [.ref (A 46)]) (r := []) (b := A 102) (q := 102) 21 (gd rfl) rfl rfl rfl rfl rfl (ww_o rfl) (Nat.le_of_ble_eq_true rfl) (Nat.zero_le _) (Nat.zero_le _) (k_62_102_46 (by first | exact dq1 hd rfl | exact dq0 hd rfl | exact dq2 hd rfl | exact dq3 hd rfl | omega) hI e_46_2 e_46_1 e_46_4 e_46_3 e_46_5 e_102_4 (in_w 0 120 r_46_1 rfl) n18 n18a n18b n18c n18d p18) (fun e u h => h) (fun v u h => ?_)
      obtain ⟨s18, hI18, hF18, n18e, n18f, n18g, n18h, z18, rfl, rfl, i18, p18a, p18b⟩ := h
      obtain ⟨z18a, e18⟩ : ∃ w, w = s18.2.2.1 46 2 := ⟨_, rfl⟩
      have i18a := inv_F hI18 0 1000 rfl e18
      obtain ⟨z18b, e18a⟩ : ∃ w, w = s18.2.2.1 46 4 := ⟨_, rfl⟩
      have i18b := inv_F hI18 0 1000 rfl e18a
      obtain ⟨z18c, e18b⟩ : ∃ w, w = s18.2.2.1 102 4 := ⟨_, rfl⟩
      have i18c := inv_F hI18 0 120 rfl e18b
      rw [← (show z18a = s18.2.2.1 46 2 from e18)] at n18e
      rw [← (show u_46_1 = s18.2.2.1 46 1 from fr_F (e_46_1) hF18 rfl)] at n18e
      rw [← (show z18a = s18.2.2.1 46 2 from e18)] at n18f
      rw [← (show z18b = s18.2.2.1 46 4 from e18a)] at n18f
      rw [← (show z18b = s18.2.2.1 46 4 from e18a)] at n18g
      rw [← (show z18c = s18.2.2.1 102 4 from e18b)] at n18g
      rw [← (show u_46_4 = s.2.2.1 46 4 from e_46_4)] at n18h
      rw [← (show u_102_4 = s.2.2.1 102 4 from e_102_4)] at n18h
      rw [← (show z18b = s18.2.2.1 46 4 from e18a)] at n18h
      rw [← (show z18c = s18.2.2.1 102 4 from e18b)] at n18h
      show GG _ _ _ _ _ _ _ _ [.int z18] _ _ _
      have n21 : TK s18 := by exact p18a
      have n21a : (z18).toInt ≠ 0 → PCV s s18 1 := by exact p18b
      have n21b : (z18a).toInt ≤ (u_46_1).toInt := by have a0 := oa9 ((inv_F hI 0 120 rfl e_102_4)) i5 ((inv_F hI 0 1000 rfl e_46_4)) r_46_1 ((inv_F hI 0 1000 rfl e_46_2)) h2 i18c i18b i18a; omega
      have n21c : (s18.2.2.1 46 2).toInt ≤ (s18.2.2.1 46 1).toInt := by have b0 : z18a = s18.2.2.1 46 2 := e18; have b1 : u_46_1 = s18.2.2.1 46 1 := fr_F (e_46_1) hF18 rfl; rw [← b0, ← b1]; exact n21b
      have n21d : (z18b).toInt ≤ (z18a).toInt := by have a0 := oa9 ((inv_F hI 0 120 rfl e_102_4)) i5 ((inv_F hI 0 1000 rfl e_46_4)) r_46_1 ((inv_F hI 0 1000 rfl e_46_2)) h2 i18c i18b i18a; omega
      have n21e : (s18.2.2.1 46 4).toInt ≤ (s18.2.2.1 46 2).toInt := by have b0 : z18b = s18.2.2.1 46 4 := e18a; have b1 : z18a = s18.2.2.1 46 2 := e18; rw [← b0, ← b1]; exact n21d
      have n21f : (z18c).toInt ≤ (z18b).toInt := by have a0 := oa9 ((inv_F hI 0 120 rfl e_102_4)) i5 ((inv_F hI 0 1000 rfl e_46_4)) r_46_1 ((inv_F hI 0 1000 rfl e_46_2)) h2 i18c i18b i18a; omega
      have n21g : (s18.2.2.1 102 4).toInt ≤ (s18.2.2.1 46 4).toInt := by have b0 : z18c = s18.2.2.1 102 4 := e18b; have b1 : z18b = s18.2.2.1 46 4 := e18a; rw [← b0, ← b1]; exact n21f
      have n21h : (u_46_4).toInt - (u_102_4).toInt ≤ (z18b).toInt - (z18c).toInt := by have a0 := oa9 ((inv_F hI 0 120 rfl e_102_4)) i5 ((inv_F hI 0 1000 rfl e_46_4)) r_46_1 ((inv_F hI 0 1000 rfl e_46_2)) h2 i18c i18b i18a; omega
      have n21i : (s.2.2.1 46 4).toInt - (s.2.2.1 102 4).toInt ≤ (s18.2.2.1 46 4).toInt - (s18.2.2.1 102 4).toInt := by have b0 : z18b = s18.2.2.1 46 4 := e18a; have b1 : z18c = s18.2.2.1 102 4 := e18b; first | (rw [← b0, ← b1, ← e_46_4, ← e_102_4]; exact n21h) | (rw [← b0, ← b1]; exact n21h)
      exact g_ireturn (gd rfl) rfl (nb01 (in_w 0 1 i18 rfl)) (hP _ _ ⟨s18, hI18, (fr_tr rfl fr_rf hF18), n21c, n21e, n21g, n21i, z18, rfl, rfl, in_w 0 1 i18 rfl, n21, n21a⟩)
    · skip
      refine g_aload_n 9 (gd rfl) rfl rfl ?_
      refine g_getI 12 (gd rfl) rfl rfl rfl (fun z9 e9 => ?_)
      have q9 : u_46_3 = z9 := (e_46_3).trans e9.symm
      subst q9
      refine g_iconst 1 13 (gd rfl) rfl rfl ?_
      refine g_cmp_ne 16 22 (gd rfl) rfl rfl (fun c13 => ?_) (fun c13 => ?_)
      · skip
        refine g_aload_n 23 (gd rfl) rfl rfl ?_
        refine g_bipush 45 25 (gd rfl) rfl rfl ?_
        refine g_callv (X := _) (As := [.int (Int32.ofInt 45)]) (r := []) (b := A 46) (q := 46) 28 (gd rfl) rfl rfl rfl rfl rfl (ww_o rfl) (Nat.le_of_ble_eq_true rfl) (mc := 0) (ms := 0) (Nat.zero_le _) (Nat.zero_le _) (P := fun v u => _) ?_ (fun e u h => h) (fun v u h => h)
        intro po25 xx25 hp25 hx25
        refine g_enter2 (k := 170) (N := 300) (by first | exact dq1 hd rfl | exact dq0 hd rfl | exact dq2 hd rfl | exact dq3 hd rfl | omega) rfl (Nat.le_of_ble_eq_true rfl) ?_
        refine g_aload_n 1 (gd rfl) rfl rfl ?_
        refine g_getI 4 (gd rfl) rfl rfl rfl (fun z25x1 e25x1 => ?_)
        have q25x1 : u_46_3 = z25x1 := (e_46_3).trans e25x1.symm
        subst q25x1
        refine g_iconst 3 5 (gd rfl) rfl rfl ?_
        refine g_cmp_ne 8 20 (gd rfl) rfl rfl (fun c25x5 => ?_) (fun c25x5 => ?_)
        · skip
          refine g_iconst 0 21 (gd rfl) rfl rfl ?_
          refine g_ireturn (gd rfl) rfl (nb01 (in_w 0 1 (in_c 0 rfl) rfl)) (hp25 _ _ ?_)
          show GG _ _ _ _ _ _ _ _ [.int (Int32.ofInt 0)] _ _ _
          refine g_istore_n 29 (gd rfl) rfl (Nat.le_of_ble_eq_true rfl) ?_
          refine g_iload_n 30 (gd rfl) rfl rfl ?_
          refine g_if_ne 33 49 (gd rfl) rfl rfl (fun c30 => ?_) (fun c30 => ?_)
          · skip
            exact zn_ne c30 (in_c 0 rfl) rfl
          · skip
            refine g_aload_n 34 (gd rfl) rfl rfl ?_
            refine g_bipush 40 36 (gd rfl) rfl rfl ?_
            refine g_callv (X := _) (As := [.int (Int32.ofInt 40)]) (r := []) (b := A 46) (q := 46) 39 (gd rfl) rfl rfl rfl rfl rfl (ww_o rfl) (Nat.le_of_ble_eq_true rfl) (mc := 0) (ms := 0) (Nat.zero_le _) (Nat.zero_le _) (P := fun v u => _) ?_ (fun e u h => h) (fun v u h => h)
            intro po36 xx36 hp36 hx36
            refine g_enter2 (k := 170) (N := 300) (by first | exact dq1 hd rfl | exact dq0 hd rfl | exact dq2 hd rfl | exact dq3 hd rfl | omega) rfl (Nat.le_of_ble_eq_true rfl) ?_
            refine g_aload_n 1 (gd rfl) rfl rfl ?_
            refine g_getI 4 (gd rfl) rfl rfl rfl (fun z36x1 e36x1 => ?_)
            have q36x1 : u_46_3 = z36x1 := (e_46_3).trans e36x1.symm
            subst q36x1
            refine g_iconst 3 5 (gd rfl) rfl rfl ?_
            refine g_cmp_ne 8 20 (gd rfl) rfl rfl (fun c36x5 => ?_) (fun c36x5 => ?_)
            · skip
              refine g_iconst 0 21 (gd rfl) rfl rfl ?_
              refine g_ireturn (gd rfl) rfl (nb01 (in_w 0 1 (in_c 0 rfl) rfl)) (hp36 _ _ ?_)
              show GG _ _ _ _ _ _ _ _ [.int (Int32.ofInt 0)] _ _ _
              refine g_if_ne 42 49 (gd rfl) rfl rfl (fun c39 => ?_) (fun c39 => ?_)
              · skip
                exact zn_ne c39 (in_c 0 rfl) rfl
              · skip
                refine g_aload_n 43 (gd rfl) rfl rfl ?_
                refine g_iconst 2 44 (gd rfl) rfl rfl ?_
                refine g_iconst 4 45 (gd rfl) rfl rfl ?_
                refine g_callv (X := _) (As := [.int (Int32.ofInt 2), .int (Int32.ofInt 4)]) (r := []) (b := A 46) (q := 46) 48 (gd rfl) rfl rfl rfl rfl rfl (ww_o rfl) (Nat.le_of_ble_eq_true rfl) (Nat.zero_le _) (Nat.zero_le _) (k_169_46 (by first | exact dq1 hd rfl | exact dq0 hd rfl | exact dq2 hd rfl | exact dq3 hd rfl | omega) hI (in_w 2 2 (in_c 2 rfl) rfl) (in_w 3 4 (in_c 4 rfl) rfl)) (fun e u h => h) (fun v u h => ?_)
                obtain ⟨s45, hI45, hF45, z45, rfl, rfl, i45⟩ := h
                show GG _ _ _ _ _ _ _ _ [.int z45] _ _ _
                have n48 : TK s45 := by exact tk_fr hF45 rfl q_0
                have n48a : (z45).toInt ≠ 0 → PCV s s45 1 := by intro h; unfold In at i45; omega
                have n48b : (u_46_2).toInt ≤ (u_46_1).toInt := by have a0 := oa7 ((inv_F hI 0 120 rfl e_102_4)) ((inv_F hI 0 5 rfl e_46_3)) ((inv_F hI 0 1000 rfl e_46_4)) r_46_1 ((inv_F hI 0 1000 rfl e_46_2)) h2 ((in_c 0 rfl)); omega
                have n48c : (s45.2.2.1 46 2).toInt ≤ (s45.2.2.1 46 1).toInt := by have b0 : u_46_2 = s45.2.2.1 46 2 := fr_F (e_46_2) hF45 rfl; have b1 : u_46_1 = s45.2.2.1 46 1 := fr_F (e_46_1) hF45 rfl; rw [← b0, ← b1]; exact n48b
                have n48d : (u_46_4).toInt ≤ (u_46_2).toInt := by have a0 := oa7 ((inv_F hI 0 120 rfl e_102_4)) ((inv_F hI 0 5 rfl e_46_3)) ((inv_F hI 0 1000 rfl e_46_4)) r_46_1 ((inv_F hI 0 1000 rfl e_46_2)) h2 ((in_c 0 rfl)); omega
                have n48e : (s45.2.2.1 46 4).toInt ≤ (s45.2.2.1 46 2).toInt := by have b0 : u_46_4 = s45.2.2.1 46 4 := fr_F (e_46_4) hF45 rfl; have b1 : u_46_2 = s45.2.2.1 46 2 := fr_F (e_46_2) hF45 rfl; rw [← b0, ← b1]; exact n48d
                have n48f : (u_102_4).toInt ≤ (u_46_4).toInt := by have a0 := oa7 ((inv_F hI 0 120 rfl e_102_4)) ((inv_F hI 0 5 rfl e_46_3)) ((inv_F hI 0 1000 rfl e_46_4)) r_46_1 ((inv_F hI 0 1000 rfl e_46_2)) h2 ((in_c 0 rfl)); omega
                have n48g : (s45.2.2.1 102 4).toInt ≤ (s45.2.2.1 46 4).toInt := by have b0 : u_102_4 = s45.2.2.1 102 4 := fr_F (e_102_4) hF45 rfl; have b1 : u_46_4 = s45.2.2.1 46 4 := fr_F (e_46_4) hF45 rfl; rw [← b0, ← b1]; exact n48f
                have n48h : (u_46_4).toInt - (u_102_4).toInt ≤ (u_46_4).toInt - (u_102_4).toInt := by exact Int.le_refl _
                have n48i : (s.2.2.1 46 4).toInt - (s.2.2.1 102 4).toInt ≤ (s45.2.2.1 46 4).toInt - (s45.2.2.1 102 4).toInt := by have b0 : u_46_4 = s45.2.2.1 46 4 := fr_F (e_46_4) hF45 rfl; have b1 : u_102_4 = s45.2.2.1 102 4 := fr_F (e_102_4) hF45 rfl; first | (rw [← b0, ← b1, ← e_46_4, ← e_102_4]; exact n48h) | (rw [← b0, ← b1]; exact n48h)
                exact g_ireturn (gd rfl) rfl (nb01 (in_w 0 1 i45 rfl)) (hP _ _ ⟨s45, hI45, (fr_tr rfl fr_rf hF45), n48c, n48e, n48g, n48i, z45, rfl, rfl, in_w 0 1 i45 rfl, n48, n48a⟩)
            · skip
              exact absurd c36x5 c25x5
        · skip
          have i25x5 := r_eq1 3 3 c25x5 (inv_F hI 0 5 rfl e_46_3) (in_c 3 rfl) rfl
          refine g_aload_n 9 (gd rfl) rfl rfl ?_
          refine g_getI 12 (gd rfl) rfl rfl rfl (fun z25x9 e25x9 => ?_)
          have q25x9 : u_46_5 = z25x9 := (e_46_5).trans e25x9.symm
          subst q25x9
          refine g_iload_n 13 (gd rfl) rfl rfl ?_
          refine g_cmp_ne 16 20 (gd rfl) rfl rfl (fun c25x13 => ?_) (fun c25x13 => ?_)
          · skip
            refine g_iconst 0 21 (gd rfl) rfl rfl ?_
            refine g_ireturn (gd rfl) rfl (nb01 (in_w 0 1 (in_c 0 rfl) rfl)) (hp25 _ _ ?_)
            show GG _ _ _ _ _ _ _ _ [.int (Int32.ofInt 0)] _ _ _
            refine g_istore_n 29 (gd rfl) rfl (Nat.le_of_ble_eq_true rfl) ?_
            refine g_iload_n 30 (gd rfl) rfl rfl ?_
            refine g_if_ne 33 49 (gd rfl) rfl rfl (fun c30 => ?_) (fun c30 => ?_)
            · skip
              exact zn_ne c30 (in_c 0 rfl) rfl
            · skip
              refine g_aload_n 34 (gd rfl) rfl rfl ?_
              refine g_bipush 40 36 (gd rfl) rfl rfl ?_
              refine g_callv (X := _) (As := [.int (Int32.ofInt 40)]) (r := []) (b := A 46) (q := 46) 39 (gd rfl) rfl rfl rfl rfl rfl (ww_o rfl) (Nat.le_of_ble_eq_true rfl) (mc := 0) (ms := 0) (Nat.zero_le _) (Nat.zero_le _) (P := fun v u => _) ?_ (fun e u h => h) (fun v u h => h)
              intro po36 xx36 hp36 hx36
              refine g_enter2 (k := 170) (N := 300) (by first | exact dq1 hd rfl | exact dq0 hd rfl | exact dq2 hd rfl | exact dq3 hd rfl | omega) rfl (Nat.le_of_ble_eq_true rfl) ?_
              refine g_aload_n 1 (gd rfl) rfl rfl ?_
              refine g_getI 4 (gd rfl) rfl rfl rfl (fun z36x1 e36x1 => ?_)
              have q36x1 : u_46_3 = z36x1 := (e_46_3).trans e36x1.symm
              subst q36x1
              refine g_iconst 3 5 (gd rfl) rfl rfl ?_
              refine g_cmp_ne 8 20 (gd rfl) rfl rfl (fun c36x5 => ?_) (fun c36x5 => ?_)
              · skip
                exact n_ne c36x5 i25x5 (in_c 3 rfl) rfl
              · skip
                refine g_aload_n 9 (gd rfl) rfl rfl ?_
                refine g_getI 12 (gd rfl) rfl rfl rfl (fun z36x9 e36x9 => ?_)
                have q36x9 : u_46_5 = z36x9 := (e_46_5).trans e36x9.symm
                subst q36x9
                refine g_iload_n 13 (gd rfl) rfl rfl ?_
                refine g_cmp_ne 16 20 (gd rfl) rfl rfl (fun c36x13 => ?_) (fun c36x13 => ?_)
                · skip
                  refine g_iconst 0 21 (gd rfl) rfl rfl ?_
                  refine g_ireturn (gd rfl) rfl (nb01 (in_w 0 1 (in_c 0 rfl) rfl)) (hp36 _ _ ?_)
                  show GG _ _ _ _ _ _ _ _ [.int (Int32.ofInt 0)] _ _ _
                  refine g_if_ne 42 49 (gd rfl) rfl rfl (fun c39 => ?_) (fun c39 => ?_)
                  · skip
                    exact zn_ne c39 (in_c 0 rfl) rfl
                  · skip
                    refine g_aload_n 43 (gd rfl) rfl rfl ?_
                    refine g_iconst 2 44 (gd rfl) rfl rfl ?_
                    refine g_iconst 4 45 (gd rfl) rfl rfl ?_
                    refine g_callv (X := _) (As := [.int (Int32.ofInt 2), .int (Int32.ofInt 4)]) (r := []) (b := A 46) (q := 46) 48 (gd rfl) rfl rfl rfl rfl rfl (ww_o rfl) (Nat.le_of_ble_eq_true rfl) (Nat.zero_le _) (Nat.zero_le _) (k_169_46 (by first | exact dq1 hd rfl | exact dq0 hd rfl | exact dq2 hd rfl | exact dq3 hd rfl | omega) hI (in_w 2 2 (in_c 2 rfl) rfl) (in_w 3 4 (in_c 4 rfl) rfl)) (fun e u h => h) (fun v u h => ?_)
                    obtain ⟨s45, hI45, hF45, z45, rfl, rfl, i45⟩ := h
                    show GG _ _ _ _ _ _ _ _ [.int z45] _ _ _
                    have n48 : TK s45 := by exact tk_fr hF45 rfl q_0
                    have n48a : (z45).toInt ≠ 0 → PCV s s45 1 := by intro h; unfold In at i45; omega
                    have n48b : (u_46_2).toInt ≤ (u_46_1).toInt := by have a0 := oa7 ((inv_F hI 0 120 rfl e_102_4)) i25x5 ((inv_F hI 0 1000 rfl e_46_4)) r_46_1 ((inv_F hI 0 1000 rfl e_46_2)) h2 ((in_c 0 rfl)); omega
                    have n48c : (s45.2.2.1 46 2).toInt ≤ (s45.2.2.1 46 1).toInt := by have b0 : u_46_2 = s45.2.2.1 46 2 := fr_F (e_46_2) hF45 rfl; have b1 : u_46_1 = s45.2.2.1 46 1 := fr_F (e_46_1) hF45 rfl; rw [← b0, ← b1]; exact n48b
                    have n48d : (u_46_4).toInt ≤ (u_46_2).toInt := by have a0 := oa7 ((inv_F hI 0 120 rfl e_102_4)) i25x5 ((inv_F hI 0 1000 rfl e_46_4)) r_46_1 ((inv_F hI 0 1000 rfl e_46_2)) h2 ((in_c 0 rfl)); omega
                    have n48e : (s45.2.2.1 46 4).toInt ≤ (s45.2.2.1 46 2).toInt := by have b0 : u_46_4 = s45.2.2.1 46 4 := fr_F (e_46_4) hF45 rfl; have b1 : u_46_2 = s45.2.2.1 46 2 := fr_F (e_46_2) hF45 rfl; rw [← b0, ← b1]; exact n48d
                    have n48f : (u_102_4).toInt ≤ (u_46_4).toInt := by have a0 := oa7 ((inv_F hI 0 120 rfl e_102_4)) i25x5 ((inv_F hI 0 1000 rfl e_46_4)) r_46_1 ((inv_F hI 0 1000 rfl e_46_2)) h2 ((in_c 0 rfl)); omega
                    have n48g : (s45.2.2.1 102 4).toInt ≤ (s45.2.2.1 46 4).toInt := by have b0 : u_102_4 = s45.2.2.1 102 4 := fr_F (e_102_4) hF45 rfl; have b1 : u_46_4 = s45.2.2.1 46 4 := fr_F (e_46_4) hF45 rfl; rw [← b0, ← b1]; exact n48f
                    have n48h : (u_46_4).toInt - (u_102_4).toInt ≤ (u_46_4).toInt - (u_102_4).toInt := by exact Int.le_refl _
                    have n48i : (s.2.2.1 46 4).toInt - (s.2.2.1 102 4).toInt ≤ (s45.2.2.1 46 4).toInt - (s45.2.2.1 102 4).toInt := by have b0 : u_46_4 = s45.2.2.1 46 4 := fr_F (e_46_4) hF45 rfl; have b1 : u_102_4 = s45.2.2.1 102 4 := fr_F (e_102_4) hF45 rfl; first | (rw [← b0, ← b1, ← e_46_4, ← e_102_4]; exact n48h) | (rw [← b0, ← b1]; exact n48h)
                    exact g_ireturn (gd rfl) rfl (nb01 (in_w 0 1 i45 rfl)) (hP _ _ ⟨s45, hI45, (fr_tr rfl fr_rf hF45), n48c, n48e, n48g, n48i, z45, rfl, rfl, in_w 0 1 i45 rfl, n48, n48a⟩)
                · skip
                  have i36x13 := r_eq1 40 40 c36x13 (inv_F hI (-2147483648) 2147483647 rfl e_46_5) (in_c 40 rfl) rfl
                  refine g_iconst 1 17 (gd rfl) rfl rfl ?_
                  refine g_goto 21 (gd rfl) rfl ?_
                  refine g_ireturn (gd rfl) rfl (nb01 (in_w 0 1 (in_c 1 rfl) rfl)) (hp36 _ _ ?_)
                  show GG _ _ _ _ _ _ _ _ [.int (Int32.ofInt 1)] _ _ _
                  refine g_if_ne 42 49 (gd rfl) rfl rfl (fun c39 => ?_) (fun c39 => ?_)
                  · skip
                    refine g_iload_n 50 (gd rfl) rfl rfl ?_
                    refine g_bipush 10 52 (gd rfl) rfl rfl ?_
                    refine g_cmp_lt 55 65 (gd rfl) rfl rfl (fun c52 => ?_) (fun c52 => ?_)
                    · skip
                      have i52 := r_lt1 0 9 c52 h2 (in_c 10 rfl) rfl
                      refine g_aload_n 66 (gd rfl) rfl rfl ?_
                      refine g_bipush 6 68 (gd rfl) rfl rfl ?_
                      refine g_iconst 0 69 (gd rfl) rfl rfl ?_
                      have hk := tka_1 q_0 (show u_46_3 = s.2.2.1 46 3 from e_46_3) (show u_46_4 = s.2.2.1 46 4 from e_46_4) (show u_46_2 = s.2.2.1 46 2 from e_46_2) (by have a0 := oa8 ((inv_F hI 0 120 rfl e_102_4)) i36x13 i25x5 ((inv_F hI 0 1000 rfl e_46_4)) r_46_1 ((inv_F hI 0 1000 rfl e_46_2)) i52 ((in_c 0 rfl)); omega)
                      have n69 : (u_46_2).toInt ≤ (u_46_1).toInt := by have a0 := oa8 ((inv_F hI 0 120 rfl e_102_4)) i36x13 i25x5 ((inv_F hI 0 1000 rfl e_46_4)) r_46_1 ((inv_F hI 0 1000 rfl e_46_2)) i52 ((in_c 0 rfl)); omega
                      refine g_callv (X := _) (As := [.int (Int32.ofInt 6), .int (Int32.ofInt 0)]) (r := []) (b := A 46) (q := 46) 72 (gd rfl) rfl rfl rfl rfl rfl (ww_o rfl) (Nat.le_of_ble_eq_true rfl) (Nat.zero_le _) (Nat.zero_le _) (k_171_46 (by first | exact dq1 hd rfl | exact dq0 hd rfl | exact dq2 hd rfl | exact dq3 hd rfl | omega) hI (in_w 6 7 (in_c 6 rfl) rfl) (in_w 0 1 (in_c 0 rfl) rfl) e_46_2 e_46_1 n69) (fun e u h => h) (fun v u h => ?_)
                      obtain ⟨s69, hI69, hF69, n69a, n69b, n69c, rfl, rfl, p69, p69a⟩ := h
                      obtain ⟨z69a, e69⟩ : ∃ w, w = s69.2.2.1 46 2 := ⟨_, rfl⟩
                      have i69a := inv_F hI69 0 1000 rfl e69
                      obtain ⟨z69b, e69a⟩ : ∃ w, w = s69.2.2.1 46 4 := ⟨_, rfl⟩
                      have i69b := inv_F hI69 0 1000 rfl e69a
                      rw [← (show z69a = s69.2.2.1 46 2 from e69)] at n69a
                      rw [← (show u_46_1 = s69.2.2.1 46 1 from fr_F (e_46_1) hF69 rfl)] at n69a
                      rw [← (show z69a = s69.2.2.1 46 2 from e69)] at n69b
                      rw [← (show z69b = s69.2.2.1 46 4 from e69a)] at n69b
                      rw [← (show u_46_2 = s.2.2.1 46 2 from e_46_2)] at n69c
                      rw [← (show z69b = s69.2.2.1 46 4 from e69a)] at n69c
                      show GG _ _ _ _ _ _ _ _ [] _ _ _
                      refine g_iload_n 73 (gd rfl) rfl rfl ?_
                      refine g_if_eq 76 102 (gd rfl) rfl rfl (fun c73 => ?_) (fun c73 => ?_)
                      · skip
                        refine g_aload_n 103 (gd rfl) rfl rfl ?_
                        refine g_aload_n 104 (gd rfl) rfl rfl ?_
                        refine g_iload_n 105 (gd rfl) rfl rfl ?_
                        refine g_iconst 1 106 (gd rfl) rfl rfl ?_
                        refine g_iadd 107 (gd rfl) rfl (fun z106 e106 => ?_)
                        have i106 := in_add 1 10 e106 i52 (in_c 1 rfl) rfl rfl
                        have v107 : u_46_1 = s69.2.2.1 46 1 := fr_F (e_46_1) hF69 rfl
                        have v107a : u_102_4 = s69.2.2.1 102 4 := fr_F (e_102_4) hF69 rfl
                        have n107 : (z69a).toInt ≤ (u_46_1).toInt := by have a0 := oa11 ((inv_F hI 0 120 rfl e_102_4)) i36x13 i25x5 ((inv_F hI 0 1000 rfl e_46_4)) r_46_1 ((inv_F hI 0 1000 rfl e_46_2)) i52 ((in_c 0 rfl)) i69b i69a i106; have a11 := t_add e106 i52 (in_c 1 rfl) rfl; have a12 := in_u ((in_c 1 rfl)); omega
                        have n107a : (z69b).toInt ≤ (z69a).toInt := by have a0 := oa11 ((inv_F hI 0 120 rfl e_102_4)) i36x13 i25x5 ((inv_F hI 0 1000 rfl e_46_4)) r_46_1 ((inv_F hI 0 1000 rfl e_46_2)) i52 ((in_c 0 rfl)) i69b i69a i106; have a11 := t_add e106 i52 (in_c 1 rfl) rfl; have a12 := in_u ((in_c 1 rfl)); omega
                        have n107b : (u_102_4).toInt ≤ (z69b).toInt := by have a0 := oa11 ((inv_F hI 0 120 rfl e_102_4)) i36x13 i25x5 ((inv_F hI 0 1000 rfl e_46_4)) r_46_1 ((inv_F hI 0 1000 rfl e_46_2)) i52 ((in_c 0 rfl)) i69b i69a i106; have a11 := t_add e106 i52 (in_c 1 rfl) rfl; have a12 := in_u ((in_c 1 rfl)); omega
                        have p107 : TK s69 := by exact p69 (by decide)
                        have n107c : 10 - (z106).toInt < ((kk : Nat) : Int) := by have a0 := oa11 ((inv_F hI 0 120 rfl e_102_4)) i36x13 i25x5 ((inv_F hI 0 1000 rfl e_46_4)) r_46_1 ((inv_F hI 0 1000 rfl e_46_2)) i52 ((in_c 0 rfl)) i69b i69a i106; have a11 := t_add e106 i52 (in_c 1 rfl) rfl; have a12 := in_u ((in_c 1 rfl)); omega
                        refine g_callv (X := _) (As := [.ref (A 46), .int z106]) (r := []) (b := A 102) (q := 102) 110 (gd rfl) rfl rfl rfl rfl rfl (ww_o rfl) (Nat.le_of_ble_eq_true rfl) (Nat.zero_le _) (Nat.zero_le _) (ihl (by omega) hI69 (in_w 0 10 i106 rfl) e69 v107 e69a rfl rfl v107a (in_w 0 120 r_46_1 rfl) n107 n107a n107b p107 n107c) (fun e u h => h) (fun v u h => ?_)
                        obtain ⟨s107, hI107, hF107, n107d, n107e, n107f, n107g, z107, rfl, rfl, i107, p107a, p107b⟩ := h
                        obtain ⟨z107a, e107⟩ : ∃ w, w = s107.2.2.1 46 2 := ⟨_, rfl⟩
                        have i107a := inv_F hI107 0 1000 rfl e107
                        obtain ⟨z107b, e107a⟩ : ∃ w, w = s107.2.2.1 46 4 := ⟨_, rfl⟩
                        have i107b := inv_F hI107 0 1000 rfl e107a
                        obtain ⟨z107c, e107b⟩ : ∃ w, w = s107.2.2.1 102 4 := ⟨_, rfl⟩
                        have i107c := inv_F hI107 0 120 rfl e107b
                        rw [← (show z107a = s107.2.2.1 46 2 from e107)] at n107d
                        rw [← (show u_46_1 = s107.2.2.1 46 1 from fr_F (fr_F (e_46_1) hF69 rfl) hF107 rfl)] at n107d
                        rw [← (show z107a = s107.2.2.1 46 2 from e107)] at n107e
                        rw [← (show z107b = s107.2.2.1 46 4 from e107a)] at n107e
                        rw [← (show z107b = s107.2.2.1 46 4 from e107a)] at n107f
                        rw [← (show z107c = s107.2.2.1 102 4 from e107b)] at n107f
                        rw [← (show z69b = s69.2.2.1 46 4 from e69a)] at n107g
                        rw [← (show u_102_4 = s69.2.2.1 102 4 from fr_F (e_102_4) hF69 rfl)] at n107g
                        rw [← (show z107b = s107.2.2.1 46 4 from e107a)] at n107g
                        rw [← (show z107c = s107.2.2.1 102 4 from e107b)] at n107g
                        show GG _ _ _ _ _ _ _ _ [.int z107] _ _ _
                        refine g_if_ne 113 115 (gd rfl) rfl rfl (fun c110 => ?_) (fun c110 => ?_)
                        · skip
                          have i110 := z_ne 1 1 c110 i107 rfl
                          refine g_aload_n 116 (gd rfl) rfl rfl ?_
                          refine g_bipush 41 118 (gd rfl) rfl rfl ?_
                          refine g_callv (X := _) (As := [.int (Int32.ofInt 41)]) (r := []) (b := A 46) (q := 46) 121 (gd rfl) rfl rfl rfl rfl rfl (ww_o rfl) (Nat.le_of_ble_eq_true rfl) (mc := 0) (ms := 0) (Nat.zero_le _) (Nat.zero_le _) (P := fun v u => _) ?_ (fun e u h => h) (fun v u h => h)
                          intro po118 xx118 hp118 hx118
                          refine g_enter2 (k := 170) (N := 300) (by first | exact dq1 hd rfl | exact dq0 hd rfl | exact dq2 hd rfl | exact dq3 hd rfl | omega) rfl (Nat.le_of_ble_eq_true rfl) ?_
                          refine g_aload_n 1 (gd rfl) rfl rfl ?_
                          refine g_getI 4 (gd rfl) rfl rfl rfl (fun z118x1 e118x1 => ?_)
                          have i118x1 := inv_F hI107 0 5 rfl e118x1
                          refine g_iconst 3 5 (gd rfl) rfl rfl ?_
                          refine g_cmp_ne 8 20 (gd rfl) rfl rfl (fun c118x5 => ?_) (fun c118x5 => ?_)
                          · skip
                            refine g_iconst 0 21 (gd rfl) rfl rfl ?_
                            refine g_ireturn (gd rfl) rfl (nb01 (in_w 0 1 (in_c 0 rfl) rfl)) (hp118 _ _ ?_)
                            show GG _ _ _ _ _ _ _ _ [.int (Int32.ofInt 0)] _ _ _
                            refine g_if_ne 124 131 (gd rfl) rfl rfl (fun c121 => ?_) (fun c121 => ?_)
                            · skip
                              exact zn_ne c121 (in_c 0 rfl) rfl
                            · skip
                              refine g_aload_n 125 (gd rfl) rfl rfl ?_
                              refine g_iconst 2 126 (gd rfl) rfl rfl ?_
                              refine g_iconst 4 127 (gd rfl) rfl rfl ?_
                              refine g_callv (X := _) (As := [.int (Int32.ofInt 2), .int (Int32.ofInt 4)]) (r := []) (b := A 46) (q := 46) 130 (gd rfl) rfl rfl rfl rfl rfl (ww_o rfl) (Nat.le_of_ble_eq_true rfl) (Nat.zero_le _) (Nat.zero_le _) (k_169_46 (by first | exact dq1 hd rfl | exact dq0 hd rfl | exact dq2 hd rfl | exact dq3 hd rfl | omega) hI107 (in_w 2 2 (in_c 2 rfl) rfl) (in_w 3 4 (in_c 4 rfl) rfl)) (fun e u h => h) (fun v u h => ?_)
                              obtain ⟨s127, hI127, hF127, z127, rfl, rfl, i127⟩ := h
                              show GG _ _ _ _ _ _ _ _ [.int z127] _ _ _
                              have n130 : TK s127 := by exact tk_fr hF127 rfl p107a
                              have n130a : (z127).toInt ≠ 0 → PCV s s127 1 := by intro h; unfold In at i127; omega
                              have n130b : (z107a).toInt ≤ (u_46_1).toInt := by have a0 := oa13 ((inv_F hI 0 120 rfl e_102_4)) i36x13 i25x5 ((inv_F hI 0 1000 rfl e_46_4)) r_46_1 ((inv_F hI 0 1000 rfl e_46_2)) i52 ((in_c 0 rfl)) i118x1 i107c i107b i107a i106; have a13 := t_add e106 i52 (in_c 1 rfl) rfl; have a14 := in_u ((in_c 1 rfl)); omega
                              have n130c : (s127.2.2.1 46 2).toInt ≤ (s127.2.2.1 46 1).toInt := by have b0 : z107a = s127.2.2.1 46 2 := fr_F (e107) hF127 rfl; have b1 : u_46_1 = s127.2.2.1 46 1 := fr_F (fr_F (fr_F (e_46_1) hF69 rfl) hF107 rfl) hF127 rfl; rw [← b0, ← b1]; exact n130b
                              have n130d : (z107b).toInt ≤ (z107a).toInt := by have a0 := oa13 ((inv_F hI 0 120 rfl e_102_4)) i36x13 i25x5 ((inv_F hI 0 1000 rfl e_46_4)) r_46_1 ((inv_F hI 0 1000 rfl e_46_2)) i52 ((in_c 0 rfl)) i118x1 i107c i107b i107a i106; have a13 := t_add e106 i52 (in_c 1 rfl) rfl; have a14 := in_u ((in_c 1 rfl)); omega
                              have n130e : (s127.2.2.1 46 4).toInt ≤ (s127.2.2.1 46 2).toInt := by have b0 : z107b = s127.2.2.1 46 4 := fr_F (e107a) hF127 rfl; have b1 : z107a = s127.2.2.1 46 2 := fr_F (e107) hF127 rfl; rw [← b0, ← b1]; exact n130d
                              have n130f : (z107c).toInt ≤ (z107b).toInt := by have a0 := oa13 ((inv_F hI 0 120 rfl e_102_4)) i36x13 i25x5 ((inv_F hI 0 1000 rfl e_46_4)) r_46_1 ((inv_F hI 0 1000 rfl e_46_2)) i52 ((in_c 0 rfl)) i118x1 i107c i107b i107a i106; have a13 := t_add e106 i52 (in_c 1 rfl) rfl; have a14 := in_u ((in_c 1 rfl)); omega
                              have n130g : (s127.2.2.1 102 4).toInt ≤ (s127.2.2.1 46 4).toInt := by have b0 : z107c = s127.2.2.1 102 4 := fr_F (e107b) hF127 rfl; have b1 : z107b = s127.2.2.1 46 4 := fr_F (e107a) hF127 rfl; rw [← b0, ← b1]; exact n130f
                              have n130h : (u_46_4).toInt - (u_102_4).toInt ≤ (z107b).toInt - (z107c).toInt := by have a0 := oa13 ((inv_F hI 0 120 rfl e_102_4)) i36x13 i25x5 ((inv_F hI 0 1000 rfl e_46_4)) r_46_1 ((inv_F hI 0 1000 rfl e_46_2)) i52 ((in_c 0 rfl)) i118x1 i107c i107b i107a i106; have a13 := t_add e106 i52 (in_c 1 rfl) rfl; have a14 := in_u ((in_c 1 rfl)); omega
                              have n130i : (s.2.2.1 46 4).toInt - (s.2.2.1 102 4).toInt ≤ (s127.2.2.1 46 4).toInt - (s127.2.2.1 102 4).toInt := by have b0 : z107b = s127.2.2.1 46 4 := fr_F (e107a) hF127 rfl; have b1 : z107c = s127.2.2.1 102 4 := fr_F (e107b) hF127 rfl; first | (rw [← b0, ← b1, ← e_46_4, ← e_102_4]; exact n130h) | (rw [← b0, ← b1]; exact n130h)
                              exact g_ireturn (gd rfl) rfl (nb01 (in_w 0 1 i127 rfl)) (hP _ _ ⟨s127, hI127, (fr_tr rfl (fr_tr rfl (fr_tr rfl fr_rf hF69) hF107) hF127), n130c, n130e, n130g, n130i, z127, rfl, rfl, in_w 0 1 i127 rfl, n130, n130a⟩)
                          · skip
                            have i118x5 := r_eq1 3 3 c118x5 i118x1 (in_c 3 rfl) rfl
                            refine g_aload_n 9 (gd rfl) rfl rfl ?_
                            refine g_getI 12 (gd rfl) rfl rfl rfl (fun z118x9 e118x9 => ?_)
                            refine g_iload_n 13 (gd rfl) rfl rfl ?_
                            refine g_cmp_ne 16 20 (gd rfl) rfl rfl (fun c118x13 => ?_) (fun c118x13 => ?_)
                            · skip
                              refine g_iconst 0 21 (gd rfl) rfl rfl ?_
                              refine g_ireturn (gd rfl) rfl (nb01 (in_w 0 1 (in_c 0 rfl) rfl)) (hp118 _ _ ?_)
                              show GG _ _ _ _ _ _ _ _ [.int (Int32.ofInt 0)] _ _ _
                              refine g_if_ne 124 131 (gd rfl) rfl rfl (fun c121 => ?_) (fun c121 => ?_)
                              · skip
                                exact zn_ne c121 (in_c 0 rfl) rfl
                              · skip
                                refine g_aload_n 125 (gd rfl) rfl rfl ?_
                                refine g_iconst 2 126 (gd rfl) rfl rfl ?_
                                refine g_iconst 4 127 (gd rfl) rfl rfl ?_
                                refine g_callv (X := _) (As := [.int (Int32.ofInt 2), .int (Int32.ofInt 4)]) (r := []) (b := A 46) (q := 46) 130 (gd rfl) rfl rfl rfl rfl rfl (ww_o rfl) (Nat.le_of_ble_eq_true rfl) (Nat.zero_le _) (Nat.zero_le _) (k_169_46 (by first | exact dq1 hd rfl | exact dq0 hd rfl | exact dq2 hd rfl | exact dq3 hd rfl | omega) hI107 (in_w 2 2 (in_c 2 rfl) rfl) (in_w 3 4 (in_c 4 rfl) rfl)) (fun e u h => h) (fun v u h => ?_)
                                obtain ⟨s127, hI127, hF127, z127, rfl, rfl, i127⟩ := h
                                show GG _ _ _ _ _ _ _ _ [.int z127] _ _ _
                                have n130 : TK s127 := by exact tk_fr hF127 rfl p107a
                                have n130a : (z127).toInt ≠ 0 → PCV s s127 1 := by intro h; unfold In at i127; omega
                                have n130b : (z107a).toInt ≤ (u_46_1).toInt := by have a0 := oa13 ((inv_F hI 0 120 rfl e_102_4)) i36x13 i25x5 ((inv_F hI 0 1000 rfl e_46_4)) r_46_1 ((inv_F hI 0 1000 rfl e_46_2)) i52 ((in_c 0 rfl)) i118x5 i107c i107b i107a i106; have a13 := t_add e106 i52 (in_c 1 rfl) rfl; have a14 := in_u ((in_c 1 rfl)); omega
                                have n130c : (s127.2.2.1 46 2).toInt ≤ (s127.2.2.1 46 1).toInt := by have b0 : z107a = s127.2.2.1 46 2 := fr_F (e107) hF127 rfl; have b1 : u_46_1 = s127.2.2.1 46 1 := fr_F (fr_F (fr_F (e_46_1) hF69 rfl) hF107 rfl) hF127 rfl; rw [← b0, ← b1]; exact n130b
                                have n130d : (z107b).toInt ≤ (z107a).toInt := by have a0 := oa13 ((inv_F hI 0 120 rfl e_102_4)) i36x13 i25x5 ((inv_F hI 0 1000 rfl e_46_4)) r_46_1 ((inv_F hI 0 1000 rfl e_46_2)) i52 ((in_c 0 rfl)) i118x5 i107c i107b i107a i106; have a13 := t_add e106 i52 (in_c 1 rfl) rfl; have a14 := in_u ((in_c 1 rfl)); omega
                                have n130e : (s127.2.2.1 46 4).toInt ≤ (s127.2.2.1 46 2).toInt := by have b0 : z107b = s127.2.2.1 46 4 := fr_F (e107a) hF127 rfl; have b1 : z107a = s127.2.2.1 46 2 := fr_F (e107) hF127 rfl; rw [← b0, ← b1]; exact n130d
                                have n130f : (z107c).toInt ≤ (z107b).toInt := by have a0 := oa13 ((inv_F hI 0 120 rfl e_102_4)) i36x13 i25x5 ((inv_F hI 0 1000 rfl e_46_4)) r_46_1 ((inv_F hI 0 1000 rfl e_46_2)) i52 ((in_c 0 rfl)) i118x5 i107c i107b i107a i106; have a13 := t_add e106 i52 (in_c 1 rfl) rfl; have a14 := in_u ((in_c 1 rfl)); omega
                                have n130g : (s127.2.2.1 102 4).toInt ≤ (s127.2.2.1 46 4).toInt := by have b0 : z107c = s127.2.2.1 102 4 := fr_F (e107b) hF127 rfl; have b1 : z107b = s127.2.2.1 46 4 := fr_F (e107a) hF127 rfl; rw [← b0, ← b1]; exact n130f
                                have n130h : (u_46_4).toInt - (u_102_4).toInt ≤ (z107b).toInt - (z107c).toInt := by have a0 := oa13 ((inv_F hI 0 120 rfl e_102_4)) i36x13 i25x5 ((inv_F hI 0 1000 rfl e_46_4)) r_46_1 ((inv_F hI 0 1000 rfl e_46_2)) i52 ((in_c 0 rfl)) i118x5 i107c i107b i107a i106; have a13 := t_add e106 i52 (in_c 1 rfl) rfl; have a14 := in_u ((in_c 1 rfl)); omega
                                have n130i : (s.2.2.1 46 4).toInt - (s.2.2.1 102 4).toInt ≤ (s127.2.2.1 46 4).toInt - (s127.2.2.1 102 4).toInt := by have b0 : z107b = s127.2.2.1 46 4 := fr_F (e107a) hF127 rfl; have b1 : z107c = s127.2.2.1 102 4 := fr_F (e107b) hF127 rfl; first | (rw [← b0, ← b1, ← e_46_4, ← e_102_4]; exact n130h) | (rw [← b0, ← b1]; exact n130h)
                                exact g_ireturn (gd rfl) rfl (nb01 (in_w 0 1 i127 rfl)) (hP _ _ ⟨s127, hI127, (fr_tr rfl (fr_tr rfl (fr_tr rfl fr_rf hF69) hF107) hF127), n130c, n130e, n130g, n130i, z127, rfl, rfl, in_w 0 1 i127 rfl, n130, n130a⟩)
                            · skip
                              have i118x13 := r_eq1 41 41 c118x13 (i_rng z118x9) (in_c 41 rfl) rfl
                              refine g_iconst 1 17 (gd rfl) rfl rfl ?_
                              refine g_goto 21 (gd rfl) rfl ?_
                              refine g_ireturn (gd rfl) rfl (nb01 (in_w 0 1 (in_c 1 rfl) rfl)) (hp118 _ _ ?_)
                              show GG _ _ _ _ _ _ _ _ [.int (Int32.ofInt 1)] _ _ _
                              refine g_if_ne 124 131 (gd rfl) rfl rfl (fun c121 => ?_) (fun c121 => ?_)
                              · skip
                                refine g_aload_n 132 (gd rfl) rfl rfl ?_
                                refine g_bipush 6 134 (gd rfl) rfl rfl ?_
                                refine g_iconst 0 135 (gd rfl) rfl rfl ?_
                                have hk := tka_1 p107a (show z118x1 = s107.2.2.1 46 3 from e118x1) (show z107b = s107.2.2.1 46 4 from e107a) (show z107a = s107.2.2.1 46 2 from e107) (by have a0 := oa14 ((inv_F hI 0 120 rfl e_102_4)) i36x13 i25x5 ((inv_F hI 0 1000 rfl e_46_4)) r_46_1 ((inv_F hI 0 1000 rfl e_46_2)) i52 ((in_c 0 rfl)) i118x13 i118x5 i107c i107b i107a i106; have a14 := t_add e106 i52 (in_c 1 rfl) rfl; have a15 := in_u ((in_c 1 rfl)); omega)
                                have v135 : u_46_1 = s107.2.2.1 46 1 := fr_F (fr_F (e_46_1) hF69 rfl) hF107 rfl
                                have n135 : (z107a).toInt ≤ (u_46_1).toInt := by have a0 := oa14 ((inv_F hI 0 120 rfl e_102_4)) i36x13 i25x5 ((inv_F hI 0 1000 rfl e_46_4)) r_46_1 ((inv_F hI 0 1000 rfl e_46_2)) i52 ((in_c 0 rfl)) i118x13 i118x5 i107c i107b i107a i106; have a14 := t_add e106 i52 (in_c 1 rfl) rfl; have a15 := in_u ((in_c 1 rfl)); omega
                                refine g_callv (X := _) (As := [.int (Int32.ofInt 6), .int (Int32.ofInt 0)]) (r := []) (b := A 46) (q := 46) 138 (gd rfl) rfl rfl rfl rfl rfl (ww_o rfl) (Nat.le_of_ble_eq_true rfl) (Nat.zero_le _) (Nat.zero_le _) (k_171_46 (by first | exact dq1 hd rfl | exact dq0 hd rfl | exact dq2 hd rfl | exact dq3 hd rfl | omega) hI107 (in_w 6 7 (in_c 6 rfl) rfl) (in_w 0 1 (in_c 0 rfl) rfl) e107 v135 n135) (fun e u h => h) (fun v u h => ?_)
                                obtain ⟨s135, hI135, hF135, n135a, n135b, n135c, rfl, rfl, p135, p135a⟩ := h
                                obtain ⟨z135a, e135⟩ : ∃ w, w = s135.2.2.1 46 2 := ⟨_, rfl⟩
                                have i135a := inv_F hI135 0 1000 rfl e135
                                obtain ⟨z135b, e135a⟩ : ∃ w, w = s135.2.2.1 46 4 := ⟨_, rfl⟩
                                have i135b := inv_F hI135 0 1000 rfl e135a
                                rw [← (show z135a = s135.2.2.1 46 2 from e135)] at n135a
                                rw [← (show u_46_1 = s135.2.2.1 46 1 from fr_F (fr_F (fr_F (e_46_1) hF69 rfl) hF107 rfl) hF135 rfl)] at n135a
                                rw [← (show z135a = s135.2.2.1 46 2 from e135)] at n135b
                                rw [← (show z135b = s135.2.2.1 46 4 from e135a)] at n135b
                                rw [← (show z107a = s107.2.2.1 46 2 from e107)] at n135c
                                rw [← (show z135b = s135.2.2.1 46 4 from e135a)] at n135c
                                show GG _ _ _ _ _ _ _ _ [] _ _ _
                                refine g_iconst 1 139 (gd rfl) rfl rfl ?_
                                have n139 : TK s135 := by exact p135 (by decide)
                                have n139a : ((Int32.ofInt 1)).toInt ≠ 0 → PCV s s135 1 := by intro _; exact pv_tr (j := 1) (k := 0) (pv_tr (j := 0) (k := 1) (pv_sm (hF69.1 104 rfl) (hF69.2.2.1 102 4 rfl)) (p107b c110)) (pv_sm (hF135.1 104 rfl) (hF135.2.2.1 102 4 rfl))
                                have n139b : (z135a).toInt ≤ (u_46_1).toInt := by have a0 := oa12 ((inv_F hI 0 120 rfl e_102_4)) i36x13 i25x5 ((inv_F hI 0 1000 rfl e_46_4)) r_46_1 ((inv_F hI 0 1000 rfl e_46_2)) i52 ((in_c 0 rfl)) i135b i135a i107c i106; have a12 := t_add e106 i52 (in_c 1 rfl) rfl; have a13 := in_u ((in_c 1 rfl)); omega
                                have n139c : (s135.2.2.1 46 2).toInt ≤ (s135.2.2.1 46 1).toInt := by have b0 : z135a = s135.2.2.1 46 2 := e135; have b1 : u_46_1 = s135.2.2.1 46 1 := fr_F (fr_F (fr_F (e_46_1) hF69 rfl) hF107 rfl) hF135 rfl; rw [← b0, ← b1]; exact n139b
                                have n139d : (z135b).toInt ≤ (z135a).toInt := by have a0 := oa12 ((inv_F hI 0 120 rfl e_102_4)) i36x13 i25x5 ((inv_F hI 0 1000 rfl e_46_4)) r_46_1 ((inv_F hI 0 1000 rfl e_46_2)) i52 ((in_c 0 rfl)) i135b i135a i107c i106; have a12 := t_add e106 i52 (in_c 1 rfl) rfl; have a13 := in_u ((in_c 1 rfl)); omega
                                have n139e : (s135.2.2.1 46 4).toInt ≤ (s135.2.2.1 46 2).toInt := by have b0 : z135b = s135.2.2.1 46 4 := e135a; have b1 : z135a = s135.2.2.1 46 2 := e135; rw [← b0, ← b1]; exact n139d
                                have n139f : (z107c).toInt ≤ (z135b).toInt := by have a0 := oa12 ((inv_F hI 0 120 rfl e_102_4)) i36x13 i25x5 ((inv_F hI 0 1000 rfl e_46_4)) r_46_1 ((inv_F hI 0 1000 rfl e_46_2)) i52 ((in_c 0 rfl)) i135b i135a i107c i106; have a12 := t_add e106 i52 (in_c 1 rfl) rfl; have a13 := in_u ((in_c 1 rfl)); omega
                                have n139g : (s135.2.2.1 102 4).toInt ≤ (s135.2.2.1 46 4).toInt := by have b0 : z107c = s135.2.2.1 102 4 := fr_F (e107b) hF135 rfl; have b1 : z135b = s135.2.2.1 46 4 := e135a; rw [← b0, ← b1]; exact n139f
                                have n139h : (u_46_4).toInt - (u_102_4).toInt ≤ (z135b).toInt - (z107c).toInt := by have a0 := oa12 ((inv_F hI 0 120 rfl e_102_4)) i36x13 i25x5 ((inv_F hI 0 1000 rfl e_46_4)) r_46_1 ((inv_F hI 0 1000 rfl e_46_2)) i52 ((in_c 0 rfl)) i135b i135a i107c i106; have a12 := t_add e106 i52 (in_c 1 rfl) rfl; have a13 := in_u ((in_c 1 rfl)); omega
                                have n139i : (s.2.2.1 46 4).toInt - (s.2.2.1 102 4).toInt ≤ (s135.2.2.1 46 4).toInt - (s135.2.2.1 102 4).toInt := by have b0 : z135b = s135.2.2.1 46 4 := e135a; have b1 : z107c = s135.2.2.1 102 4 := fr_F (e107b) hF135 rfl; first | (rw [← b0, ← b1, ← e_46_4, ← e_102_4]; exact n139h) | (rw [← b0, ← b1]; exact n139h)
                                exact g_ireturn (gd rfl) rfl (nb01 (in_w 0 1 (in_c 1 rfl) rfl)) (hP _ _ ⟨s135, hI135, (fr_tr rfl (fr_tr rfl (fr_tr rfl fr_rf hF69) hF107) hF135), n139c, n139e, n139g, n139i, (Int32.ofInt 1), rfl, rfl, in_w 0 1 (in_c 1 rfl) rfl, n139, n139a⟩)
                              · skip
                                exact zn_eq c121 (in_c 1 rfl) rfl
                        · skip
                          have i110 := z_eq 0 0 c110 i107 rfl
                          refine g_iconst 0 114 (gd rfl) rfl rfl ?_
                          have n114 : TK s107 := by exact p107a
                          have n114a : ((Int32.ofInt 0)).toInt ≠ 0 → PCV s s107 1 := by intro h; exact absurd rfl h
                          have n114b : (z107a).toInt ≤ (u_46_1).toInt := by have a0 := oa12 ((inv_F hI 0 120 rfl e_102_4)) i36x13 i25x5 ((inv_F hI 0 1000 rfl e_46_4)) r_46_1 ((inv_F hI 0 1000 rfl e_46_2)) i52 ((in_c 0 rfl)) i107c i107b i107a i106; have a12 := t_add e106 i52 (in_c 1 rfl) rfl; have a13 := in_u ((in_c 1 rfl)); omega
                          have n114c : (s107.2.2.1 46 2).toInt ≤ (s107.2.2.1 46 1).toInt := by have b0 : z107a = s107.2.2.1 46 2 := e107; have b1 : u_46_1 = s107.2.2.1 46 1 := fr_F (fr_F (e_46_1) hF69 rfl) hF107 rfl; rw [← b0, ← b1]; exact n114b
                          have n114d : (z107b).toInt ≤ (z107a).toInt := by have a0 := oa12 ((inv_F hI 0 120 rfl e_102_4)) i36x13 i25x5 ((inv_F hI 0 1000 rfl e_46_4)) r_46_1 ((inv_F hI 0 1000 rfl e_46_2)) i52 ((in_c 0 rfl)) i107c i107b i107a i106; have a12 := t_add e106 i52 (in_c 1 rfl) rfl; have a13 := in_u ((in_c 1 rfl)); omega
                          have n114e : (s107.2.2.1 46 4).toInt ≤ (s107.2.2.1 46 2).toInt := by have b0 : z107b = s107.2.2.1 46 4 := e107a; have b1 : z107a = s107.2.2.1 46 2 := e107; rw [← b0, ← b1]; exact n114d
                          have n114f : (z107c).toInt ≤ (z107b).toInt := by have a0 := oa12 ((inv_F hI 0 120 rfl e_102_4)) i36x13 i25x5 ((inv_F hI 0 1000 rfl e_46_4)) r_46_1 ((inv_F hI 0 1000 rfl e_46_2)) i52 ((in_c 0 rfl)) i107c i107b i107a i106; have a12 := t_add e106 i52 (in_c 1 rfl) rfl; have a13 := in_u ((in_c 1 rfl)); omega
                          have n114g : (s107.2.2.1 102 4).toInt ≤ (s107.2.2.1 46 4).toInt := by have b0 : z107c = s107.2.2.1 102 4 := e107b; have b1 : z107b = s107.2.2.1 46 4 := e107a; rw [← b0, ← b1]; exact n114f
                          have n114h : (u_46_4).toInt - (u_102_4).toInt ≤ (z107b).toInt - (z107c).toInt := by have a0 := oa12 ((inv_F hI 0 120 rfl e_102_4)) i36x13 i25x5 ((inv_F hI 0 1000 rfl e_46_4)) r_46_1 ((inv_F hI 0 1000 rfl e_46_2)) i52 ((in_c 0 rfl)) i107c i107b i107a i106; have a12 := t_add e106 i52 (in_c 1 rfl) rfl; have a13 := in_u ((in_c 1 rfl)); omega
                          have n114i : (s.2.2.1 46 4).toInt - (s.2.2.1 102 4).toInt ≤ (s107.2.2.1 46 4).toInt - (s107.2.2.1 102 4).toInt := by have b0 : z107b = s107.2.2.1 46 4 := e107a; have b1 : z107c = s107.2.2.1 102 4 := e107b; first | (rw [← b0, ← b1, ← e_46_4, ← e_102_4]; exact n114h) | (rw [← b0, ← b1]; exact n114h)
                          exact g_ireturn (gd rfl) rfl (nb01 (in_w 0 1 (in_c 0 rfl) rfl)) (hP _ _ ⟨s107, hI107, (fr_tr rfl (fr_tr rfl fr_rf hF69) hF107), n114c, n114e, n114g, n114i, (Int32.ofInt 0), rfl, rfl, in_w 0 1 (in_c 0 rfl) rfl, n114, n114a⟩)
                      · skip
                        exact zn_ne c73 (in_c 0 rfl) rfl
                    · skip
                      have i52 := r_le2 10 10 c52 (in_c 10 rfl) h2 rfl
                      refine g_aload_n 56 (gd rfl) rfl rfl ?_
                      refine g_iconst 3 57 (gd rfl) rfl rfl ?_
                      refine g_aload_n 58 (gd rfl) rfl rfl ?_
                      refine g_getI 61 (gd rfl) rfl rfl rfl (fun z58 e58 => ?_)
                      have q58 : u_46_4 = z58 := (e_46_4).trans e58.symm
                      subst q58
                      refine g_callv (X := _) (As := [.int (Int32.ofInt 3), .int u_46_4]) (r := []) (b := A 46) (q := 46) 64 (gd rfl) rfl rfl rfl rfl rfl (ww_o rfl) (Nat.le_of_ble_eq_true rfl) (Nat.zero_le _) (Nat.zero_le _) (k_168_46 (by first | exact dq1 hd rfl | exact dq0 hd rfl | exact dq2 hd rfl | exact dq3 hd rfl | omega) hI (in_w 1 5 (in_c 3 rfl) rfl) (in_w 0 1000 (inv_F hI 0 1000 rfl e_46_4) rfl)) (fun e u h => h) (fun v u h => ?_)
                      obtain ⟨s61, hI61, hF61, z61, rfl, rfl, i61⟩ := h
                      show GG _ _ _ _ _ _ _ _ [.int z61] _ _ _
                      have n64 : TK s61 := by exact tk_fr hF61 rfl q_0
                      have n64a : (z61).toInt ≠ 0 → PCV s s61 1 := by intro h; unfold In at i61; omega
                      have n64b : (u_46_2).toInt ≤ (u_46_1).toInt := by have a0 := oa8 ((inv_F hI 0 120 rfl e_102_4)) i36x13 i25x5 ((inv_F hI 0 1000 rfl e_46_4)) r_46_1 ((inv_F hI 0 1000 rfl e_46_2)) i52 ((in_c 0 rfl)); omega
                      have n64c : (s61.2.2.1 46 2).toInt ≤ (s61.2.2.1 46 1).toInt := by have b0 : u_46_2 = s61.2.2.1 46 2 := fr_F (e_46_2) hF61 rfl; have b1 : u_46_1 = s61.2.2.1 46 1 := fr_F (e_46_1) hF61 rfl; rw [← b0, ← b1]; exact n64b
                      have n64d : (u_46_4).toInt ≤ (u_46_2).toInt := by have a0 := oa8 ((inv_F hI 0 120 rfl e_102_4)) i36x13 i25x5 ((inv_F hI 0 1000 rfl e_46_4)) r_46_1 ((inv_F hI 0 1000 rfl e_46_2)) i52 ((in_c 0 rfl)); omega
                      have n64e : (s61.2.2.1 46 4).toInt ≤ (s61.2.2.1 46 2).toInt := by have b0 : u_46_4 = s61.2.2.1 46 4 := fr_F (e_46_4) hF61 rfl; have b1 : u_46_2 = s61.2.2.1 46 2 := fr_F (e_46_2) hF61 rfl; rw [← b0, ← b1]; exact n64d
                      have n64f : (u_102_4).toInt ≤ (u_46_4).toInt := by have a0 := oa8 ((inv_F hI 0 120 rfl e_102_4)) i36x13 i25x5 ((inv_F hI 0 1000 rfl e_46_4)) r_46_1 ((inv_F hI 0 1000 rfl e_46_2)) i52 ((in_c 0 rfl)); omega
                      have n64g : (s61.2.2.1 102 4).toInt ≤ (s61.2.2.1 46 4).toInt := by have b0 : u_102_4 = s61.2.2.1 102 4 := fr_F (e_102_4) hF61 rfl; have b1 : u_46_4 = s61.2.2.1 46 4 := fr_F (e_46_4) hF61 rfl; rw [← b0, ← b1]; exact n64f
                      have n64h : (u_46_4).toInt - (u_102_4).toInt ≤ (u_46_4).toInt - (u_102_4).toInt := by exact Int.le_refl _
                      have n64i : (s.2.2.1 46 4).toInt - (s.2.2.1 102 4).toInt ≤ (s61.2.2.1 46 4).toInt - (s61.2.2.1 102 4).toInt := by have b0 : u_46_4 = s61.2.2.1 46 4 := fr_F (e_46_4) hF61 rfl; have b1 : u_102_4 = s61.2.2.1 102 4 := fr_F (e_102_4) hF61 rfl; first | (rw [← b0, ← b1, ← e_46_4, ← e_102_4]; exact n64h) | (rw [← b0, ← b1]; exact n64h)
                      exact g_ireturn (gd rfl) rfl (nb01 (in_w 0 1 i61 rfl)) (hP _ _ ⟨s61, hI61, (fr_tr rfl fr_rf hF61), n64c, n64e, n64g, n64i, z61, rfl, rfl, in_w 0 1 i61 rfl, n64, n64a⟩)
                  · skip
                    exact zn_eq c39 (in_c 1 rfl) rfl
          · skip
            have i25x13 := r_eq1 45 45 c25x13 (inv_F hI (-2147483648) 2147483647 rfl e_46_5) (in_c 45 rfl) rfl
            refine g_iconst 1 17 (gd rfl) rfl rfl ?_
            refine g_goto 21 (gd rfl) rfl ?_
            refine g_ireturn (gd rfl) rfl (nb01 (in_w 0 1 (in_c 1 rfl) rfl)) (hp25 _ _ ?_)
            show GG _ _ _ _ _ _ _ _ [.int (Int32.ofInt 1)] _ _ _
            refine g_istore_n 29 (gd rfl) rfl (Nat.le_of_ble_eq_true rfl) ?_
            refine g_iload_n 30 (gd rfl) rfl rfl ?_
            refine g_if_ne 33 49 (gd rfl) rfl rfl (fun c30 => ?_) (fun c30 => ?_)
            · skip
              refine g_iload_n 50 (gd rfl) rfl rfl ?_
              refine g_bipush 10 52 (gd rfl) rfl rfl ?_
              refine g_cmp_lt 55 65 (gd rfl) rfl rfl (fun c52 => ?_) (fun c52 => ?_)
              · skip
                have i52 := r_lt1 0 9 c52 h2 (in_c 10 rfl) rfl
                refine g_aload_n 66 (gd rfl) rfl rfl ?_
                refine g_bipush 6 68 (gd rfl) rfl rfl ?_
                refine g_iconst 0 69 (gd rfl) rfl rfl ?_
                have hk := tka_1 q_0 (show u_46_3 = s.2.2.1 46 3 from e_46_3) (show u_46_4 = s.2.2.1 46 4 from e_46_4) (show u_46_2 = s.2.2.1 46 2 from e_46_2) (by have a0 := oa8 ((inv_F hI 0 120 rfl e_102_4)) i25x13 i25x5 ((inv_F hI 0 1000 rfl e_46_4)) r_46_1 ((inv_F hI 0 1000 rfl e_46_2)) i52 ((in_c 1 rfl)); omega)
                have n69 : (u_46_2).toInt ≤ (u_46_1).toInt := by have a0 := oa8 ((inv_F hI 0 120 rfl e_102_4)) i25x13 i25x5 ((inv_F hI 0 1000 rfl e_46_4)) r_46_1 ((inv_F hI 0 1000 rfl e_46_2)) i52 ((in_c 1 rfl)); omega
                refine g_callv (X := _) (As := [.int (Int32.ofInt 6), .int (Int32.ofInt 0)]) (r := []) (b := A 46) (q := 46) 72 (gd rfl) rfl rfl rfl rfl rfl (ww_o rfl) (Nat.le_of_ble_eq_true rfl) (Nat.zero_le _) (Nat.zero_le _) (k_171_46 (by first | exact dq1 hd rfl | exact dq0 hd rfl | exact dq2 hd rfl | exact dq3 hd rfl | omega) hI (in_w 6 7 (in_c 6 rfl) rfl) (in_w 0 1 (in_c 0 rfl) rfl) e_46_2 e_46_1 n69) (fun e u h => h) (fun v u h => ?_)
                obtain ⟨s69, hI69, hF69, n69a, n69b, n69c, rfl, rfl, p69, p69a⟩ := h
                obtain ⟨z69a, e69⟩ : ∃ w, w = s69.2.2.1 46 2 := ⟨_, rfl⟩
                have i69a := inv_F hI69 0 1000 rfl e69
                obtain ⟨z69b, e69a⟩ : ∃ w, w = s69.2.2.1 46 4 := ⟨_, rfl⟩
                have i69b := inv_F hI69 0 1000 rfl e69a
                rw [← (show z69a = s69.2.2.1 46 2 from e69)] at n69a
                rw [← (show u_46_1 = s69.2.2.1 46 1 from fr_F (e_46_1) hF69 rfl)] at n69a
                rw [← (show z69a = s69.2.2.1 46 2 from e69)] at n69b
                rw [← (show z69b = s69.2.2.1 46 4 from e69a)] at n69b
                rw [← (show u_46_2 = s.2.2.1 46 2 from e_46_2)] at n69c
                rw [← (show z69b = s69.2.2.1 46 4 from e69a)] at n69c
                show GG _ _ _ _ _ _ _ _ [] _ _ _
                refine g_iload_n 73 (gd rfl) rfl rfl ?_
                refine g_if_eq 76 102 (gd rfl) rfl rfl (fun c73 => ?_) (fun c73 => ?_)
                · skip
                  exact zn_eq c73 (in_c 1 rfl) rfl
                · skip
                  refine g_aload_n 77 (gd rfl) rfl rfl ?_
                  refine g_aload_n 78 (gd rfl) rfl rfl ?_
                  refine g_iload_n 79 (gd rfl) rfl rfl ?_
                  refine g_iconst 1 80 (gd rfl) rfl rfl ?_
                  refine g_iadd 81 (gd rfl) rfl (fun z80 e80 => ?_)
                  have i80 := in_add 1 10 e80 i52 (in_c 1 rfl) rfl rfl
                  have v81 : u_46_1 = s69.2.2.1 46 1 := fr_F (e_46_1) hF69 rfl
                  have v81a : u_102_4 = s69.2.2.1 102 4 := fr_F (e_102_4) hF69 rfl
                  have n81 : (z69a).toInt ≤ (u_46_1).toInt := by have a0 := oa11 ((inv_F hI 0 120 rfl e_102_4)) i25x13 i25x5 ((inv_F hI 0 1000 rfl e_46_4)) r_46_1 ((inv_F hI 0 1000 rfl e_46_2)) i52 ((in_c 1 rfl)) i69b i69a i80; have a11 := t_add e80 i52 (in_c 1 rfl) rfl; omega
                  have n81a : (z69b).toInt ≤ (z69a).toInt := by have a0 := oa11 ((inv_F hI 0 120 rfl e_102_4)) i25x13 i25x5 ((inv_F hI 0 1000 rfl e_46_4)) r_46_1 ((inv_F hI 0 1000 rfl e_46_2)) i52 ((in_c 1 rfl)) i69b i69a i80; have a11 := t_add e80 i52 (in_c 1 rfl) rfl; omega
                  have n81b : (u_102_4).toInt ≤ (z69b).toInt := by have a0 := oa11 ((inv_F hI 0 120 rfl e_102_4)) i25x13 i25x5 ((inv_F hI 0 1000 rfl e_46_4)) r_46_1 ((inv_F hI 0 1000 rfl e_46_2)) i52 ((in_c 1 rfl)) i69b i69a i80; have a11 := t_add e80 i52 (in_c 1 rfl) rfl; omega
                  have p81 : TK s69 := by exact p69 (by decide)
                  have n81c : 10 - (z80).toInt < ((kk : Nat) : Int) := by have a0 := oa11 ((inv_F hI 0 120 rfl e_102_4)) i25x13 i25x5 ((inv_F hI 0 1000 rfl e_46_4)) r_46_1 ((inv_F hI 0 1000 rfl e_46_2)) i52 ((in_c 1 rfl)) i69b i69a i80; have a11 := t_add e80 i52 (in_c 1 rfl) rfl; omega
                  refine g_callv (X := _) (As := [.ref (A 46), .int z80]) (r := []) (b := A 102) (q := 102) 84 (gd rfl) rfl rfl rfl rfl rfl (ww_o rfl) (Nat.le_of_ble_eq_true rfl) (Nat.zero_le _) (Nat.zero_le _) (ih (by omega) hI69 (in_w 0 10 i80 rfl) e69 v81 e69a rfl rfl v81a (in_w 0 120 r_46_1 rfl) n81 n81a n81b p81 n81c) (fun e u h => h) (fun v u h => ?_)
                  obtain ⟨s81, hI81, hF81, n81d, n81e, n81f, n81g, z81, rfl, rfl, i81, p81a, p81b⟩ := h
                  obtain ⟨z81a, e81⟩ : ∃ w, w = s81.2.2.1 46 2 := ⟨_, rfl⟩
                  have i81a := inv_F hI81 0 1000 rfl e81
                  obtain ⟨z81b, e81a⟩ : ∃ w, w = s81.2.2.1 46 4 := ⟨_, rfl⟩
                  have i81b := inv_F hI81 0 1000 rfl e81a
                  obtain ⟨z81c, e81b⟩ : ∃ w, w = s81.2.2.1 102 4 := ⟨_, rfl⟩
                  have i81c := inv_F hI81 0 120 rfl e81b
                  rw [← (show z81a = s81.2.2.1 46 2 from e81)] at n81d
                  rw [← (show u_46_1 = s81.2.2.1 46 1 from fr_F (fr_F (e_46_1) hF69 rfl) hF81 rfl)] at n81d
                  rw [← (show z81a = s81.2.2.1 46 2 from e81)] at n81e
                  rw [← (show z81b = s81.2.2.1 46 4 from e81a)] at n81e
                  rw [← (show z81b = s81.2.2.1 46 4 from e81a)] at n81f
                  rw [← (show z81c = s81.2.2.1 102 4 from e81b)] at n81f
                  rw [← (show z69b = s69.2.2.1 46 4 from e69a)] at n81g
                  rw [← (show u_102_4 = s69.2.2.1 102 4 from fr_F (e_102_4) hF69 rfl)] at n81g
                  rw [← (show z81b = s81.2.2.1 46 4 from e81a)] at n81g
                  rw [← (show z81c = s81.2.2.1 102 4 from e81b)] at n81g
                  show GG _ _ _ _ _ _ _ _ [.int z81] _ _ _
                  refine g_if_eq 87 100 (gd rfl) rfl rfl (fun c84 => ?_) (fun c84 => ?_)
                  · skip
                    have i84 := z_eq 0 0 c84 i81 rfl
                    refine g_iconst 0 101 (gd rfl) rfl rfl ?_
                    have n101 : TK s81 := by exact p81a
                    have n101a : ((Int32.ofInt 0)).toInt ≠ 0 → PCV s s81 1 := by intro h; exact absurd rfl h
                    have n101b : (z81a).toInt ≤ (u_46_1).toInt := by have a0 := oa12 ((inv_F hI 0 120 rfl e_102_4)) i25x13 i25x5 ((inv_F hI 0 1000 rfl e_46_4)) r_46_1 ((inv_F hI 0 1000 rfl e_46_2)) i52 ((in_c 1 rfl)) i81c i81b i81a i80; have a12 := t_add e80 i52 (in_c 1 rfl) rfl; omega
                    have n101c : (s81.2.2.1 46 2).toInt ≤ (s81.2.2.1 46 1).toInt := by have b0 : z81a = s81.2.2.1 46 2 := e81; have b1 : u_46_1 = s81.2.2.1 46 1 := fr_F (fr_F (e_46_1) hF69 rfl) hF81 rfl; rw [← b0, ← b1]; exact n101b
                    have n101d : (z81b).toInt ≤ (z81a).toInt := by have a0 := oa12 ((inv_F hI 0 120 rfl e_102_4)) i25x13 i25x5 ((inv_F hI 0 1000 rfl e_46_4)) r_46_1 ((inv_F hI 0 1000 rfl e_46_2)) i52 ((in_c 1 rfl)) i81c i81b i81a i80; have a12 := t_add e80 i52 (in_c 1 rfl) rfl; omega
                    have n101e : (s81.2.2.1 46 4).toInt ≤ (s81.2.2.1 46 2).toInt := by have b0 : z81b = s81.2.2.1 46 4 := e81a; have b1 : z81a = s81.2.2.1 46 2 := e81; rw [← b0, ← b1]; exact n101d
                    have n101f : (z81c).toInt ≤ (z81b).toInt := by have a0 := oa12 ((inv_F hI 0 120 rfl e_102_4)) i25x13 i25x5 ((inv_F hI 0 1000 rfl e_46_4)) r_46_1 ((inv_F hI 0 1000 rfl e_46_2)) i52 ((in_c 1 rfl)) i81c i81b i81a i80; have a12 := t_add e80 i52 (in_c 1 rfl) rfl; omega
                    have n101g : (s81.2.2.1 102 4).toInt ≤ (s81.2.2.1 46 4).toInt := by have b0 : z81c = s81.2.2.1 102 4 := e81b; have b1 : z81b = s81.2.2.1 46 4 := e81a; rw [← b0, ← b1]; exact n101f
                    have n101h : (u_46_4).toInt - (u_102_4).toInt ≤ (z81b).toInt - (z81c).toInt := by have a0 := oa12 ((inv_F hI 0 120 rfl e_102_4)) i25x13 i25x5 ((inv_F hI 0 1000 rfl e_46_4)) r_46_1 ((inv_F hI 0 1000 rfl e_46_2)) i52 ((in_c 1 rfl)) i81c i81b i81a i80; have a12 := t_add e80 i52 (in_c 1 rfl) rfl; omega
                    have n101i : (s.2.2.1 46 4).toInt - (s.2.2.1 102 4).toInt ≤ (s81.2.2.1 46 4).toInt - (s81.2.2.1 102 4).toInt := by have b0 : z81b = s81.2.2.1 46 4 := e81a; have b1 : z81c = s81.2.2.1 102 4 := e81b; first | (rw [← b0, ← b1, ← e_46_4, ← e_102_4]; exact n101h) | (rw [← b0, ← b1]; exact n101h)
                    exact g_ireturn (gd rfl) rfl (nb01 (in_w 0 1 (in_c 0 rfl) rfl)) (hP _ _ ⟨s81, hI81, (fr_tr rfl (fr_tr rfl fr_rf hF69) hF81), n101c, n101e, n101g, n101i, (Int32.ofInt 0), rfl, rfl, in_w 0 1 (in_c 0 rfl) rfl, n101, n101a⟩)
                  · skip
                    have i84 := z_ne 1 1 c84 i81 rfl
                    refine g_aload_n 88 (gd rfl) rfl rfl ?_
                    refine g_ldc 1000226 90 (gd rfl) rfl rfl ?_
                    have hDe : _ = s81.2.2.1 102 4 := (show z81c = s81.2.2.1 102 4 from e81b)
                    have n90 : (z81c).toInt ≤ 119 := by have a0 := oa12 ((inv_F hI 0 120 rfl e_102_4)) i25x13 i25x5 ((inv_F hI 0 1000 rfl e_46_4)) r_46_1 ((inv_F hI 0 1000 rfl e_46_2)) i52 ((in_c 1 rfl)) i81c i81b i81a i80; have a12 := t_add e80 i52 (in_c 1 rfl) rfl; omega
                    refine g_callv (X := _) (As := [.int (Int32.ofInt 1000226)]) (r := []) (b := A 102) (q := 102) 93 (gd rfl) rfl rfl rfl rfl rfl (ww_o rfl) (Nat.le_of_ble_eq_true rfl) (Nat.zero_le _) (Nat.zero_le _) (k_57_102 (by first | exact dq1 hd rfl | exact dq0 hd rfl | exact dq2 hd rfl | exact dq3 hd rfl | omega) hI81 e81b n90) (fun e u h => h) (fun v u h => ?_)
                    obtain ⟨s90, hI90, hF90, n90a, z90, rfl, rfl, i90, p90⟩ := h
                    obtain ⟨z90a, e90⟩ : ∃ w, w = s90.2.2.1 102 4 := ⟨_, rfl⟩
                    have i90a := inv_F hI90 0 120 rfl e90
                    rw [← (show z81c = s81.2.2.1 102 4 from e81b)] at n90a
                    rw [← (show z90a = s90.2.2.1 102 4 from e90)] at n90a
                    show GG _ _ _ _ _ _ _ _ [.int z90] _ _ _
                    refine g_if_eq 96 100 (gd rfl) rfl rfl (fun c93 => ?_) (fun c93 => ?_)
                    · skip
                      exact zn_eq c93 i90 rfl
                    · skip
                      refine g_iconst 1 97 (gd rfl) rfl rfl ?_
                      refine g_goto 101 (gd rfl) rfl ?_
                      have n101 : TK s90 := by exact tk_fr hF90 rfl p81a
                      have n101a : ((Int32.ofInt 1)).toInt ≠ 0 → PCV s s90 1 := by intro _; exact pv_st (j := 1) (k := 1) (pv_tr (j := 0) (k := 1) (pv_sm (hF69.1 104 rfl) (hF69.2.2.1 102 4 rfl)) (p81b c84)) (inv_F hI81 0 120 rfl rfl).1 p90 (by rw [← (show z90a = s90.2.2.1 102 4 from e90), ← hDe]; have a0 := oa12 ((inv_F hI 0 120 rfl e_102_4)) i25x13 i25x5 ((inv_F hI 0 1000 rfl e_46_4)) r_46_1 ((inv_F hI 0 1000 rfl e_46_2)) i52 ((in_c 1 rfl)) i90a i81b i81a i80; have a12 := t_add e80 i52 (in_c 1 rfl) rfl; omega) (fun e => hc_n (by decide) e)
                      have n101b : (z81a).toInt ≤ (u_46_1).toInt := by have a0 := oa12 ((inv_F hI 0 120 rfl e_102_4)) i25x13 i25x5 ((inv_F hI 0 1000 rfl e_46_4)) r_46_1 ((inv_F hI 0 1000 rfl e_46_2)) i52 ((in_c 1 rfl)) i90a i81b i81a i80; have a12 := t_add e80 i52 (in_c 1 rfl) rfl; omega
                      have n101c : (s90.2.2.1 46 2).toInt ≤ (s90.2.2.1 46 1).toInt := by have b0 : z81a = s90.2.2.1 46 2 := fr_F (e81) hF90 rfl; have b1 : u_46_1 = s90.2.2.1 46 1 := fr_F (fr_F (fr_F (e_46_1) hF69 rfl) hF81 rfl) hF90 rfl; rw [← b0, ← b1]; exact n101b
                      have n101d : (z81b).toInt ≤ (z81a).toInt := by have a0 := oa12 ((inv_F hI 0 120 rfl e_102_4)) i25x13 i25x5 ((inv_F hI 0 1000 rfl e_46_4)) r_46_1 ((inv_F hI 0 1000 rfl e_46_2)) i52 ((in_c 1 rfl)) i90a i81b i81a i80; have a12 := t_add e80 i52 (in_c 1 rfl) rfl; omega
                      have n101e : (s90.2.2.1 46 4).toInt ≤ (s90.2.2.1 46 2).toInt := by have b0 : z81b = s90.2.2.1 46 4 := fr_F (e81a) hF90 rfl; have b1 : z81a = s90.2.2.1 46 2 := fr_F (e81) hF90 rfl; rw [← b0, ← b1]; exact n101d
                      have n101f : (z90a).toInt ≤ (z81b).toInt := by have a0 := oa12 ((inv_F hI 0 120 rfl e_102_4)) i25x13 i25x5 ((inv_F hI 0 1000 rfl e_46_4)) r_46_1 ((inv_F hI 0 1000 rfl e_46_2)) i52 ((in_c 1 rfl)) i90a i81b i81a i80; have a12 := t_add e80 i52 (in_c 1 rfl) rfl; omega
                      have n101g : (s90.2.2.1 102 4).toInt ≤ (s90.2.2.1 46 4).toInt := by have b0 : z90a = s90.2.2.1 102 4 := e90; have b1 : z81b = s90.2.2.1 46 4 := fr_F (e81a) hF90 rfl; rw [← b0, ← b1]; exact n101f
                      have n101h : (u_46_4).toInt - (u_102_4).toInt ≤ (z81b).toInt - (z90a).toInt := by have a0 := oa12 ((inv_F hI 0 120 rfl e_102_4)) i25x13 i25x5 ((inv_F hI 0 1000 rfl e_46_4)) r_46_1 ((inv_F hI 0 1000 rfl e_46_2)) i52 ((in_c 1 rfl)) i90a i81b i81a i80; have a12 := t_add e80 i52 (in_c 1 rfl) rfl; omega
                      have n101i : (s.2.2.1 46 4).toInt - (s.2.2.1 102 4).toInt ≤ (s90.2.2.1 46 4).toInt - (s90.2.2.1 102 4).toInt := by have b0 : z81b = s90.2.2.1 46 4 := fr_F (e81a) hF90 rfl; have b1 : z90a = s90.2.2.1 102 4 := e90; first | (rw [← b0, ← b1, ← e_46_4, ← e_102_4]; exact n101h) | (rw [← b0, ← b1]; exact n101h)
                      exact g_ireturn (gd rfl) rfl (nb01 (in_w 0 1 (in_c 1 rfl) rfl)) (hP _ _ ⟨s90, hI90, (fr_tr rfl (fr_tr rfl (fr_tr rfl fr_rf hF69) hF81) hF90), n101c, n101e, n101g, n101i, (Int32.ofInt 1), rfl, rfl, in_w 0 1 (in_c 1 rfl) rfl, n101, n101a⟩)
              · skip
                have i52 := r_le2 10 10 c52 (in_c 10 rfl) h2 rfl
                refine g_aload_n 56 (gd rfl) rfl rfl ?_
                refine g_iconst 3 57 (gd rfl) rfl rfl ?_
                refine g_aload_n 58 (gd rfl) rfl rfl ?_
                refine g_getI 61 (gd rfl) rfl rfl rfl (fun z58 e58 => ?_)
                have q58 : u_46_4 = z58 := (e_46_4).trans e58.symm
                subst q58
                refine g_callv (X := _) (As := [.int (Int32.ofInt 3), .int u_46_4]) (r := []) (b := A 46) (q := 46) 64 (gd rfl) rfl rfl rfl rfl rfl (ww_o rfl) (Nat.le_of_ble_eq_true rfl) (Nat.zero_le _) (Nat.zero_le _) (k_168_46 (by first | exact dq1 hd rfl | exact dq0 hd rfl | exact dq2 hd rfl | exact dq3 hd rfl | omega) hI (in_w 1 5 (in_c 3 rfl) rfl) (in_w 0 1000 (inv_F hI 0 1000 rfl e_46_4) rfl)) (fun e u h => h) (fun v u h => ?_)
                obtain ⟨s61, hI61, hF61, z61, rfl, rfl, i61⟩ := h
                show GG _ _ _ _ _ _ _ _ [.int z61] _ _ _
                have n64 : TK s61 := by exact tk_fr hF61 rfl q_0
                have n64a : (z61).toInt ≠ 0 → PCV s s61 1 := by intro h; unfold In at i61; omega
                have n64b : (u_46_2).toInt ≤ (u_46_1).toInt := by have a0 := oa8 ((inv_F hI 0 120 rfl e_102_4)) i25x13 i25x5 ((inv_F hI 0 1000 rfl e_46_4)) r_46_1 ((inv_F hI 0 1000 rfl e_46_2)) i52 ((in_c 1 rfl)); omega
                have n64c : (s61.2.2.1 46 2).toInt ≤ (s61.2.2.1 46 1).toInt := by have b0 : u_46_2 = s61.2.2.1 46 2 := fr_F (e_46_2) hF61 rfl; have b1 : u_46_1 = s61.2.2.1 46 1 := fr_F (e_46_1) hF61 rfl; rw [← b0, ← b1]; exact n64b
                have n64d : (u_46_4).toInt ≤ (u_46_2).toInt := by have a0 := oa8 ((inv_F hI 0 120 rfl e_102_4)) i25x13 i25x5 ((inv_F hI 0 1000 rfl e_46_4)) r_46_1 ((inv_F hI 0 1000 rfl e_46_2)) i52 ((in_c 1 rfl)); omega
                have n64e : (s61.2.2.1 46 4).toInt ≤ (s61.2.2.1 46 2).toInt := by have b0 : u_46_4 = s61.2.2.1 46 4 := fr_F (e_46_4) hF61 rfl; have b1 : u_46_2 = s61.2.2.1 46 2 := fr_F (e_46_2) hF61 rfl; rw [← b0, ← b1]; exact n64d
                have n64f : (u_102_4).toInt ≤ (u_46_4).toInt := by have a0 := oa8 ((inv_F hI 0 120 rfl e_102_4)) i25x13 i25x5 ((inv_F hI 0 1000 rfl e_46_4)) r_46_1 ((inv_F hI 0 1000 rfl e_46_2)) i52 ((in_c 1 rfl)); omega
                have n64g : (s61.2.2.1 102 4).toInt ≤ (s61.2.2.1 46 4).toInt := by have b0 : u_102_4 = s61.2.2.1 102 4 := fr_F (e_102_4) hF61 rfl; have b1 : u_46_4 = s61.2.2.1 46 4 := fr_F (e_46_4) hF61 rfl; rw [← b0, ← b1]; exact n64f
                have n64h : (u_46_4).toInt - (u_102_4).toInt ≤ (u_46_4).toInt - (u_102_4).toInt := by exact Int.le_refl _
                have n64i : (s.2.2.1 46 4).toInt - (s.2.2.1 102 4).toInt ≤ (s61.2.2.1 46 4).toInt - (s61.2.2.1 102 4).toInt := by have b0 : u_46_4 = s61.2.2.1 46 4 := fr_F (e_46_4) hF61 rfl; have b1 : u_102_4 = s61.2.2.1 102 4 := fr_F (e_102_4) hF61 rfl; first | (rw [← b0, ← b1, ← e_46_4, ← e_102_4]; exact n64h) | (rw [← b0, ← b1]; exact n64h)
                exact g_ireturn (gd rfl) rfl (nb01 (in_w 0 1 i61 rfl)) (hP _ _ ⟨s61, hI61, (fr_tr rfl fr_rf hF61), n64c, n64e, n64g, n64i, z61, rfl, rfl, in_w 0 1 i61 rfl, n64, n64a⟩)
            · skip
              exact zn_eq c30 (in_c 1 rfl) rfl
      · skip
        have i13 := r_eq1 1 1 c13 (inv_F hI 0 5 rfl e_46_3) (in_c 1 rfl) rfl
        refine g_aload_n 17 (gd rfl) rfl rfl ?_
        refine g_aload_n 18 (gd rfl) rfl rfl ?_
        have n18 : (u_46_2).toInt ≤ (u_46_1).toInt := by have a0 := oa6 ((inv_F hI 0 120 rfl e_102_4)) i13 ((inv_F hI 0 1000 rfl e_46_4)) r_46_1 ((inv_F hI 0 1000 rfl e_46_2)) h2; omega
        have n18a : (u_46_4).toInt ≤ (u_46_2).toInt := by have a0 := oa6 ((inv_F hI 0 120 rfl e_102_4)) i13 ((inv_F hI 0 1000 rfl e_46_4)) r_46_1 ((inv_F hI 0 1000 rfl e_46_2)) h2; omega
        have n18b : (u_102_4).toInt ≤ (u_46_4).toInt := by have a0 := oa6 ((inv_F hI 0 120 rfl e_102_4)) i13 ((inv_F hI 0 1000 rfl e_46_4)) r_46_1 ((inv_F hI 0 1000 rfl e_46_2)) h2; omega
        have n18c : 1 ≤ (u_46_3).toInt := by have a0 := oa6 ((inv_F hI 0 120 rfl e_102_4)) i13 ((inv_F hI 0 1000 rfl e_46_4)) r_46_1 ((inv_F hI 0 1000 rfl e_46_2)) h2; omega
        have n18d : (u_46_3).toInt ≤ 2 := by have a0 := oa6 ((inv_F hI 0 120 rfl e_102_4)) i13 ((inv_F hI 0 1000 rfl e_46_4)) r_46_1 ((inv_F hI 0 1000 rfl e_46_2)) h2; omega
        have p18 : TK s := by exact q_0
        refine g_callv (X := _) (As := [.ref (A 46)]) (r := []) (b := A 102) (q := 102) 21 (gd rfl) rfl rfl rfl rfl rfl (ww_o rfl) (Nat.le_of_ble_eq_true rfl) (Nat.zero_le _) (Nat.zero_le _) (k_62_102_46 (by first | exact dq1 hd rfl | exact dq0 hd rfl | exact dq2 hd rfl | exact dq3 hd rfl | omega) hI e_46_2 e_46_1 e_46_4 e_46_3 e_46_5 e_102_4 (in_w 0 120 r_46_1 rfl) n18 n18a n18b n18c n18d p18) (fun e u h => h) (fun v u h => ?_)
        obtain ⟨s18, hI18, hF18, n18e, n18f, n18g, n18h, z18, rfl, rfl, i18, p18a, p18b⟩ := h
        obtain ⟨z18a, e18⟩ : ∃ w, w = s18.2.2.1 46 2 := ⟨_, rfl⟩
        have i18a := inv_F hI18 0 1000 rfl e18
        obtain ⟨z18b, e18a⟩ : ∃ w, w = s18.2.2.1 46 4 := ⟨_, rfl⟩
        have i18b := inv_F hI18 0 1000 rfl e18a
        obtain ⟨z18c, e18b⟩ : ∃ w, w = s18.2.2.1 102 4 := ⟨_, rfl⟩
        have i18c := inv_F hI18 0 120 rfl e18b
        rw [← (show z18a = s18.2.2.1 46 2 from e18)] at n18e
        rw [← (show u_46_1 = s18.2.2.1 46 1 from fr_F (e_46_1) hF18 rfl)] at n18e
        rw [← (show z18a = s18.2.2.1 46 2 from e18)] at n18f
        rw [← (show z18b = s18.2.2.1 46 4 from e18a)] at n18f
        rw [← (show z18b = s18.2.2.1 46 4 from e18a)] at n18g
        rw [← (show z18c = s18.2.2.1 102 4 from e18b)] at n18g
        rw [← (show u_46_4 = s.2.2.1 46 4 from e_46_4)] at n18h
        rw [← (show u_102_4 = s.2.2.1 102 4 from e_102_4)] at n18h
        rw [← (show z18b = s18.2.2.1 46 4 from e18a)] at n18h
        rw [← (show z18c = s18.2.2.1 102 4 from e18b)] at n18h
        show GG _ _ _ _ _ _ _ _ [.int z18] _ _ _
        have n21 : TK s18 := by exact p18a
        have n21a : (z18).toInt ≠ 0 → PCV s s18 1 := by exact p18b
        have n21b : (z18a).toInt ≤ (u_46_1).toInt := by have a0 := oa9 ((inv_F hI 0 120 rfl e_102_4)) i13 ((inv_F hI 0 1000 rfl e_46_4)) r_46_1 ((inv_F hI 0 1000 rfl e_46_2)) h2 i18c i18b i18a; omega
        have n21c : (s18.2.2.1 46 2).toInt ≤ (s18.2.2.1 46 1).toInt := by have b0 : z18a = s18.2.2.1 46 2 := e18; have b1 : u_46_1 = s18.2.2.1 46 1 := fr_F (e_46_1) hF18 rfl; rw [← b0, ← b1]; exact n21b
        have n21d : (z18b).toInt ≤ (z18a).toInt := by have a0 := oa9 ((inv_F hI 0 120 rfl e_102_4)) i13 ((inv_F hI 0 1000 rfl e_46_4)) r_46_1 ((inv_F hI 0 1000 rfl e_46_2)) h2 i18c i18b i18a; omega
        have n21e : (s18.2.2.1 46 4).toInt ≤ (s18.2.2.1 46 2).toInt := by have b0 : z18b = s18.2.2.1 46 4 := e18a; have b1 : z18a = s18.2.2.1 46 2 := e18; rw [← b0, ← b1]; exact n21d
        have n21f : (z18c).toInt ≤ (z18b).toInt := by have a0 := oa9 ((inv_F hI 0 120 rfl e_102_4)) i13 ((inv_F hI 0 1000 rfl e_46_4)) r_46_1 ((inv_F hI 0 1000 rfl e_46_2)) h2 i18c i18b i18a; omega
        have n21g : (s18.2.2.1 102 4).toInt ≤ (s18.2.2.1 46 4).toInt := by have b0 : z18c = s18.2.2.1 102 4 := e18b; have b1 : z18b = s18.2.2.1 46 4 := e18a; rw [← b0, ← b1]; exact n21f
        have n21h : (u_46_4).toInt - (u_102_4).toInt ≤ (z18b).toInt - (z18c).toInt := by have a0 := oa9 ((inv_F hI 0 120 rfl e_102_4)) i13 ((inv_F hI 0 1000 rfl e_46_4)) r_46_1 ((inv_F hI 0 1000 rfl e_46_2)) h2 i18c i18b i18a; omega
        have n21i : (s.2.2.1 46 4).toInt - (s.2.2.1 102 4).toInt ≤ (s18.2.2.1 46 4).toInt - (s18.2.2.1 102 4).toInt := by have b0 : z18b = s18.2.2.1 46 4 := e18a; have b1 : z18c = s18.2.2.1 102 4 := e18b; first | (rw [← b0, ← b1, ← e_46_4, ← e_102_4]; exact n21h) | (rw [← b0, ← b1]; exact n21h)
        exact g_ireturn (gd rfl) rfl (nb01 (in_w 0 1 i18 rfl)) (hP _ _ ⟨s18, hI18, (fr_tr rfl fr_rf hF18), n21c, n21e, n21g, n21i, z18, rfl, rfl, in_w 0 1 i18 rfl, n21, n21a⟩)
theorem k_58_102_46 {Z : AmZ} {A : Nat → Nat} {s : GS} {ex : va_W} {d : Nat} {X : AmX} {x2 : Int32} {u_46_2 : Int32} {u_46_1 : Int32} {u_46_4 : Int32} {u_46_3 : Int32} {u_46_5 : Int32} {u_102_4 : Int32} (hd : 295 ≤ d) (hI : Inv s) (h2 : In x2 0 10) (e_46_2 : u_46_2 = s.2.2.1 46 2) (e_46_1 : u_46_1 = s.2.2.1 46 1) (e_46_4 : u_46_4 = s.2.2.1 46 4) (e_46_3 : u_46_3 = s.2.2.1 46 3) (e_46_5 : u_46_5 = s.2.2.1 46 5) (e_102_4 : u_102_4 = s.2.2.1 102 4) (r_46_1 : In u_46_1 0 120) (p_0 : (u_46_2).toInt ≤ (u_46_1).toInt) (p_1 : (u_46_4).toInt ≤ (u_46_2).toInt) (p_2 : (u_102_4).toInt ≤ (u_46_4).toInt) (q_0 : TK s) : GC Z d 58 [.ref (A 102), .ref (A 46), .int x2] (WW Z A s ++ ex) 0 0 (fun v u => ∃ t : GS, Inv t ∧ Fr fm_58_102_46 s t ∧ ((t.2.2.1 46 2).toInt ≤ (t.2.2.1 46 1).toInt) ∧ ((t.2.2.1 46 4).toInt ≤ (t.2.2.1 46 2).toInt) ∧ ((t.2.2.1 102 4).toInt ≤ (t.2.2.1 46 4).toInt) ∧ ((s.2.2.1 46 4).toInt - (s.2.2.1 102 4).toInt ≤ (t.2.2.1 46 4).toInt - (t.2.2.1 102 4).toInt) ∧ ∃ z : Int32, v = some (.int z) ∧ u = WW Z A t ++ ex ∧ In z 0 1 ∧ (TK t) ∧ ((z).toInt ≠ 0 → PCV s t 1)) X := (k_58_102_46_r 11 (k_59_102_46_r 11 (k_60_102_46_r 11 (k_61_102_46_r 11)))) (by omega) hI h2 e_46_2 e_46_1 e_46_4 e_46_3 e_46_5 e_102_4 r_46_1 p_0 p_1 p_2 q_0 (m_in 11 h2 rfl)
end
section
/-! methods, by vc.py -/
def fm_53_60_2 : FM := ([61, 62, 63], [], [(60, 7)], [])
def fm_53_60_32 : FM := ([61, 62, 63], [], [(60, 7)], [])
def fm_56_102_46 : FM := ([103, 104], [], [(46, 2), (46, 3), (46, 4), (46, 5), (46, 6), (46, 7), (102, 1), (102, 2), (102, 4)], [])
/-- GraphHouse$Engine.adopt -/
theorem k_56_102_46 {Z : AmZ} {A : Nat → Nat} {s : GS} {ex : va_W} {d : Nat} {X : AmX}  (hd : 296 ≤ d) (hI : Inv s)  : GC Z d 56 [.ref (A 102), .ref (A 46)] (WW Z A s ++ ex) 0 0 (fun v u => ∃ t : GS, Inv t ∧ Fr fm_56_102_46 s t ∧ ∃ z : Int32, v = some (.int z) ∧ u = WW Z A t ++ ex ∧ In z 0 1) X := by
  intro post xp hP hX
  obtain ⟨u_46_1, e_46_1⟩ : ∃ w, w = s.2.2.1 46 1 := ⟨_, rfl⟩
  have ro_46_1 := inv_F hI 0 1000 rfl e_46_1
  refine g_enter2 (k := 56) (N := 900) (by first | exact dq1 hd rfl | exact dq0 hd rfl | exact dq2 hd rfl | exact dq3 hd rfl | omega) rfl (Nat.le_of_ble_eq_true rfl) ?_
  refine g_aload_n 1 (gd rfl) rfl rfl ?_
  refine g_callv (X := _) (As := []) (r := []) (b := A 46) (q := 46) 4 (gd rfl) rfl rfl rfl rfl rfl (ww_o rfl) (Nat.le_of_ble_eq_true rfl) (mc := 0) (ms := 0) (Nat.zero_le _) (Nat.zero_le _) (P := fun v u => _) ?_ (fun e u h => h) (fun v u h => h)
  intro po1 xx1 hp1 hx1
  refine g_enter2 (k := 167) (N := 300) (by first | exact dq1 hd rfl | exact dq0 hd rfl | exact dq2 hd rfl | exact dq3 hd rfl | omega) rfl (Nat.le_of_ble_eq_true rfl) ?_
  refine g_aload_n 1 (gd rfl) rfl rfl ?_
  refine g_iconst 0 2 (gd rfl) rfl rfl ?_
  refine g_putI 5 (gd rfl) rfl rfl rfl rfl ?_
  have hI1x2 := rng_sF (q := 46) (j := 2) hI.1 rfl (in_w 0 1000 (in_c 0 rfl) rfl)
  refine g_aload_n 6 (gd rfl) rfl rfl ?_
  refine g_iconst (-1) 7 (gd rfl) rfl rfl ?_
  refine g_putI 10 (gd rfl) rfl rfl rfl rfl ?_
  have hI1x7 := rng_sF (q := 46) (j := 6) hI1x2 rfl (in_w (-1) 5 (in_c (-1) rfl) rfl)
  refine g_aload_n 11 (gd rfl) rfl rfl ?_
  refine g_iconst (-1) 12 (gd rfl) rfl rfl ?_
  refine g_putI 15 (gd rfl) rfl rfl rfl rfl ?_
  have hI1x12 := rng_sF (q := 46) (j := 7) hI1x7 rfl (in_w (-1) 1000 (in_c (-1) rfl) rfl)
  refine g_return (gd rfl) rfl (hp1 _ _ ?_)
  show GG _ _ _ _ _ _ _ _ [] _ _ _
  refine g_aload_n 5 (gd rfl) rfl rfl ?_
  refine g_getI 8 (gd rfl) rfl rfl rfl (fun z5 e5 => ?_)
  have q5 : u_46_1 = z5 := (sF_ne rfl (sF_ne rfl (sF_ne rfl (e_46_1)))).trans e5.symm
  subst q5
  refine g_bipush 120 10 (gd rfl) rfl rfl ?_
  refine g_cmp_le 13 21 (gd rfl) rfl rfl (fun c10 => ?_) (fun c10 => ?_)
  · skip
    have i10 := r_le1 0 120 c10 ro_46_1 (in_c 120 rfl) rfl
    refine g_aload_n 22 (gd rfl) rfl rfl ?_
    refine g_iconst 0 23 (gd rfl) rfl rfl ?_
    refine g_putI 26 (gd rfl) rfl rfl rfl rfl ?_
    have hI23 := rng_sF (q := 102) (j := 4) hI1x12 rfl (in_w 0 120 (in_c 0 rfl) rfl)
    refine g_aload_n 27 (gd rfl) rfl rfl ?_
    refine g_bipush 6 29 (gd rfl) rfl rfl ?_
    refine g_iconst 0 30 (gd rfl) rfl rfl ?_
    have hI30 : Inv (sF (sF (sF (sF s 46 2 (Int32.ofInt 0)) 46 6 (Int32.ofInt (-1))) 46 7 (Int32.ofInt (-1))) 102 4 (Int32.ofInt 0)) := by have hFF : Fr ([104], [], [(46, 2), (46, 3), (46, 4), (46, 5), (46, 6), (46, 7), (102, 4)], []) s (sF (sF (sF (sF s 46 2 (Int32.ofInt 0)) 46 6 (Int32.ofInt (-1))) 46 7 (Int32.ofInt (-1))) 102 4 (Int32.ofInt 0)) := (fr_sF rfl (fr_sF rfl (fr_sF rfl (fr_sF rfl fr_rf)))); exact ⟨hI23, kk_all hI.2 hFF rfl⟩
    have v30 : (Int32.ofInt 0) = (sF (sF (sF (sF s 46 2 (Int32.ofInt 0)) 46 6 (Int32.ofInt (-1))) 46 7 (Int32.ofInt (-1))) 102 4 (Int32.ofInt 0)).2.2.1 46 2 := sF_ne rfl (sF_ne rfl (sF_ne rfl (sF_get)))
    have v30a : u_46_1 = (sF (sF (sF (sF s 46 2 (Int32.ofInt 0)) 46 6 (Int32.ofInt (-1))) 46 7 (Int32.ofInt (-1))) 102 4 (Int32.ofInt 0)).2.2.1 46 1 := sF_ne rfl (sF_ne rfl (sF_ne rfl (sF_ne rfl (e_46_1))))
    have n30 : ((Int32.ofInt 0)).toInt ≤ (u_46_1).toInt := by have a0 := oa3 i10 ((in_c 0 rfl)) ((in_c (-1) rfl)); omega
    refine g_callv (X := _) (As := [.int (Int32.ofInt 6), .int (Int32.ofInt 0)]) (r := []) (b := A 46) (q := 46) 33 (gd rfl) rfl rfl rfl rfl rfl (ww_o rfl) (Nat.le_of_ble_eq_true rfl) (Nat.zero_le _) (Nat.zero_le _) (k_171_46 (by first | exact dq1 hd rfl | exact dq0 hd rfl | exact dq2 hd rfl | exact dq3 hd rfl | omega) hI30 (in_w 6 7 (in_c 6 rfl) rfl) (in_w 0 1 (in_c 0 rfl) rfl) v30 v30a n30) (fun e u h => h) (fun v u h => ?_)
    obtain ⟨s30, hI30a, hF30, n30a, n30b, n30c, rfl, rfl, p30, p30a⟩ := h
    obtain ⟨z30a, e30⟩ : ∃ w, w = s30.2.2.1 46 2 := ⟨_, rfl⟩
    have i30a := rng_F hI30a.1 0 1000 rfl e30
    obtain ⟨z30b, e30a⟩ : ∃ w, w = s30.2.2.1 46 4 := ⟨_, rfl⟩
    have i30b := rng_F hI30a.1 0 1000 rfl e30a
    rw [← (show z30a = s30.2.2.1 46 2 from e30)] at n30a
    rw [← (show u_46_1 = s30.2.2.1 46 1 from fr_F (s := (sF (sF (sF (sF s 46 2 (Int32.ofInt 0)) 46 6 (Int32.ofInt (-1))) 46 7 (Int32.ofInt (-1))) 102 4 (Int32.ofInt 0))) (sF_ne rfl (sF_ne rfl (sF_ne rfl (sF_ne rfl (e_46_1))))) hF30 rfl)] at n30a
    rw [← (show z30a = s30.2.2.1 46 2 from e30)] at n30b
    rw [← (show z30b = s30.2.2.1 46 4 from e30a)] at n30b
    rw [← (show (Int32.ofInt 0) = (sF (sF (sF (sF s 46 2 (Int32.ofInt 0)) 46 6 (Int32.ofInt (-1))) 46 7 (Int32.ofInt (-1))) 102 4 (Int32.ofInt 0)).2.2.1 46 2 from sF_ne rfl (sF_ne rfl (sF_ne rfl (sF_get))))] at n30c
    rw [← (show z30b = s30.2.2.1 46 4 from e30a)] at n30c
    show GG _ _ _ _ _ _ _ _ [] _ _ _
    refine g_aload_n 34 (gd rfl) rfl rfl ?_
    refine g_aload_n 35 (gd rfl) rfl rfl ?_
    refine g_iconst 0 36 (gd rfl) rfl rfl ?_
    have hI36 : Inv s30 := by have hFF : Fr ([104], [], [(46, 2), (46, 3), (46, 4), (46, 5), (46, 6), (46, 7), (102, 4)], []) s s30 := (fr_tr rfl (fr_sF rfl (fr_sF rfl (fr_sF rfl (fr_sF rfl fr_rf)))) hF30); exact ⟨hI30a.1, kk_all hI.2 hFF rfl⟩
    have v36 : u_46_1 = s30.2.2.1 46 1 := fr_F (s := (sF (sF (sF (sF s 46 2 (Int32.ofInt 0)) 46 6 (Int32.ofInt (-1))) 46 7 (Int32.ofInt (-1))) 102 4 (Int32.ofInt 0))) (sF_ne rfl (sF_ne rfl (sF_ne rfl (sF_ne rfl (e_46_1))))) hF30 rfl
    have v36a : (Int32.ofInt 0) = s30.2.2.1 102 4 := fr_F (s := (sF (sF (sF (sF s 46 2 (Int32.ofInt 0)) 46 6 (Int32.ofInt (-1))) 46 7 (Int32.ofInt (-1))) 102 4 (Int32.ofInt 0))) (sF_get) hF30 rfl
    have n36 : (z30a).toInt ≤ (u_46_1).toInt := by have a0 := oa5 i10 i30b i30a ((in_c 0 rfl)) ((in_c (-1) rfl)); omega
    have n36a : (z30b).toInt ≤ (z30a).toInt := by have a0 := oa5 i10 i30b i30a ((in_c 0 rfl)) ((in_c (-1) rfl)); omega
    have n36b : ((Int32.ofInt 0)).toInt ≤ (z30b).toInt := by have a0 := oa5 i10 i30b i30a ((in_c 0 rfl)) ((in_c (-1) rfl)); omega
    have p36 : TK s30 := by exact p30 (by decide)
    refine g_callv (X := _) (As := [.ref (A 46), .int (Int32.ofInt 0)]) (r := []) (b := A 102) (q := 102) 39 (gd rfl) rfl rfl rfl rfl rfl (ww_o rfl) (Nat.le_of_ble_eq_true rfl) (Nat.zero_le _) (Nat.zero_le _) (k_58_102_46 (by first | exact dq1 hd rfl | exact dq0 hd rfl | exact dq2 hd rfl | exact dq3 hd rfl | omega) hI36 (in_w 0 10 (in_c 0 rfl) rfl) e30 v36 e30a rfl rfl v36a (in_w 0 120 i10 rfl) n36 n36a n36b p36) (fun e u h => h) (fun v u h => ?_)
    obtain ⟨s36, hI36a, hF36, n36c, n36d, n36e, n36f, z36, rfl, rfl, i36, p36a, p36b⟩ := h
    obtain ⟨z36a, e36⟩ : ∃ w, w = s36.2.2.1 46 2 := ⟨_, rfl⟩
    have i36a := rng_F hI36a.1 0 1000 rfl e36
    obtain ⟨z36b, e36a⟩ : ∃ w, w = s36.2.2.1 46 4 := ⟨_, rfl⟩
    have i36b := rng_F hI36a.1 0 1000 rfl e36a
    obtain ⟨z36c, e36b⟩ : ∃ w, w = s36.2.2.1 102 4 := ⟨_, rfl⟩
    have i36c := rng_F hI36a.1 0 120 rfl e36b
    rw [← (show z36a = s36.2.2.1 46 2 from e36)] at n36c
    rw [← (show u_46_1 = s36.2.2.1 46 1 from fr_F (fr_F (s := (sF (sF (sF (sF s 46 2 (Int32.ofInt 0)) 46 6 (Int32.ofInt (-1))) 46 7 (Int32.ofInt (-1))) 102 4 (Int32.ofInt 0))) (sF_ne rfl (sF_ne rfl (sF_ne rfl (sF_ne rfl (e_46_1))))) hF30 rfl) hF36 rfl)] at n36c
    rw [← (show z36a = s36.2.2.1 46 2 from e36)] at n36d
    rw [← (show z36b = s36.2.2.1 46 4 from e36a)] at n36d
    rw [← (show z36b = s36.2.2.1 46 4 from e36a)] at n36e
    rw [← (show z36c = s36.2.2.1 102 4 from e36b)] at n36e
    rw [← (show z30b = s30.2.2.1 46 4 from e30a)] at n36f
    rw [← (show (Int32.ofInt 0) = s30.2.2.1 102 4 from fr_F (s := (sF (sF (sF (sF s 46 2 (Int32.ofInt 0)) 46 6 (Int32.ofInt (-1))) 46 7 (Int32.ofInt (-1))) 102 4 (Int32.ofInt 0))) (sF_get) hF30 rfl)] at n36f
    rw [← (show z36b = s36.2.2.1 46 4 from e36a)] at n36f
    rw [← (show z36c = s36.2.2.1 102 4 from e36b)] at n36f
    show GG _ _ _ _ _ _ _ _ [.int z36] _ _ _
    refine g_if_ne 42 44 (gd rfl) rfl rfl (fun c39 => ?_) (fun c39 => ?_)
    · skip
      have i39 := z_ne 1 1 c39 i36 rfl
      refine g_aload_n 45 (gd rfl) rfl rfl ?_
      refine g_bipush 59 47 (gd rfl) rfl rfl ?_
      refine g_callv (X := _) (As := [.int (Int32.ofInt 59)]) (r := []) (b := A 46) (q := 46) 50 (gd rfl) rfl rfl rfl rfl rfl (ww_o rfl) (Nat.le_of_ble_eq_true rfl) (mc := 0) (ms := 0) (Nat.zero_le _) (Nat.zero_le _) (P := fun v u => _) ?_ (fun e u h => h) (fun v u h => h)
      intro po47 xx47 hp47 hx47
      refine g_enter2 (k := 170) (N := 300) (by first | exact dq1 hd rfl | exact dq0 hd rfl | exact dq2 hd rfl | exact dq3 hd rfl | omega) rfl (Nat.le_of_ble_eq_true rfl) ?_
      refine g_aload_n 1 (gd rfl) rfl rfl ?_
      refine g_getI 4 (gd rfl) rfl rfl rfl (fun z47x1 e47x1 => ?_)
      have i47x1 := rng_F hI36a.1 0 5 rfl e47x1
      refine g_iconst 3 5 (gd rfl) rfl rfl ?_
      refine g_cmp_ne 8 20 (gd rfl) rfl rfl (fun c47x5 => ?_) (fun c47x5 => ?_)
      · skip
        refine g_iconst 0 21 (gd rfl) rfl rfl ?_
        refine g_ireturn (gd rfl) rfl (nb01 (in_w 0 1 (in_c 0 rfl) rfl)) (hp47 _ _ ?_)
        show GG _ _ _ _ _ _ _ _ [.int (Int32.ofInt 0)] _ _ _
        refine g_if_ne 53 60 (gd rfl) rfl rfl (fun c50 => ?_) (fun c50 => ?_)
        · skip
          exact zn_ne c50 (in_c 0 rfl) rfl
        · skip
          refine g_aload_n 54 (gd rfl) rfl rfl ?_
          refine g_iconst 2 55 (gd rfl) rfl rfl ?_
          refine g_iconst 4 56 (gd rfl) rfl rfl ?_
          have hI56 : Inv s36 := by have hFF : Fr ([104], [], [(46, 2), (46, 3), (46, 4), (46, 5), (46, 6), (46, 7), (102, 4)], []) s s36 := (fr_tr rfl (fr_tr rfl (fr_sF rfl (fr_sF rfl (fr_sF rfl (fr_sF rfl fr_rf)))) hF30) hF36); exact ⟨hI36a.1, kk_all hI.2 hFF rfl⟩
          refine g_callv (X := _) (As := [.int (Int32.ofInt 2), .int (Int32.ofInt 4)]) (r := []) (b := A 46) (q := 46) 59 (gd rfl) rfl rfl rfl rfl rfl (ww_o rfl) (Nat.le_of_ble_eq_true rfl) (Nat.zero_le _) (Nat.zero_le _) (k_169_46 (by first | exact dq1 hd rfl | exact dq0 hd rfl | exact dq2 hd rfl | exact dq3 hd rfl | omega) hI56 (in_w 2 2 (in_c 2 rfl) rfl) (in_w 3 4 (in_c 4 rfl) rfl)) (fun e u h => h) (fun v u h => ?_)
          obtain ⟨s56, hI56a, hF56, z56, rfl, rfl, i56⟩ := h
          show GG _ _ _ _ _ _ _ _ [.int z56] _ _ _
          have hI59 : Inv s56 := by have hFF : Fr ([104], [], [(46, 2), (46, 3), (46, 4), (46, 5), (46, 6), (46, 7), (102, 4)], []) s s56 := (fr_tr rfl (fr_tr rfl (fr_tr rfl (fr_sF rfl (fr_sF rfl (fr_sF rfl (fr_sF rfl fr_rf)))) hF30) hF36) hF56); exact ⟨hI56a.1, kk_all hI.2 hFF rfl⟩
          exact g_ireturn (gd rfl) rfl (nb01 (in_w 0 1 i56 rfl)) (hP _ _ ⟨s56, hI59, (fr_tr rfl (fr_tr rfl (fr_tr rfl (fr_sF rfl (fr_sF rfl (fr_sF rfl (fr_sF rfl fr_rf)))) hF30) hF36) hF56), z56, rfl, rfl, in_w 0 1 i56 rfl⟩)
      · skip
        have i47x5 := r_eq1 3 3 c47x5 i47x1 (in_c 3 rfl) rfl
        refine g_aload_n 9 (gd rfl) rfl rfl ?_
        refine g_getI 12 (gd rfl) rfl rfl rfl (fun z47x9 e47x9 => ?_)
        refine g_iload_n 13 (gd rfl) rfl rfl ?_
        refine g_cmp_ne 16 20 (gd rfl) rfl rfl (fun c47x13 => ?_) (fun c47x13 => ?_)
        · skip
          refine g_iconst 0 21 (gd rfl) rfl rfl ?_
          refine g_ireturn (gd rfl) rfl (nb01 (in_w 0 1 (in_c 0 rfl) rfl)) (hp47 _ _ ?_)
          show GG _ _ _ _ _ _ _ _ [.int (Int32.ofInt 0)] _ _ _
          refine g_if_ne 53 60 (gd rfl) rfl rfl (fun c50 => ?_) (fun c50 => ?_)
          · skip
            exact zn_ne c50 (in_c 0 rfl) rfl
          · skip
            refine g_aload_n 54 (gd rfl) rfl rfl ?_
            refine g_iconst 2 55 (gd rfl) rfl rfl ?_
            refine g_iconst 4 56 (gd rfl) rfl rfl ?_
            have hI56 : Inv s36 := by have hFF : Fr ([104], [], [(46, 2), (46, 3), (46, 4), (46, 5), (46, 6), (46, 7), (102, 4)], []) s s36 := (fr_tr rfl (fr_tr rfl (fr_sF rfl (fr_sF rfl (fr_sF rfl (fr_sF rfl fr_rf)))) hF30) hF36); exact ⟨hI36a.1, kk_all hI.2 hFF rfl⟩
            refine g_callv (X := _) (As := [.int (Int32.ofInt 2), .int (Int32.ofInt 4)]) (r := []) (b := A 46) (q := 46) 59 (gd rfl) rfl rfl rfl rfl rfl (ww_o rfl) (Nat.le_of_ble_eq_true rfl) (Nat.zero_le _) (Nat.zero_le _) (k_169_46 (by first | exact dq1 hd rfl | exact dq0 hd rfl | exact dq2 hd rfl | exact dq3 hd rfl | omega) hI56 (in_w 2 2 (in_c 2 rfl) rfl) (in_w 3 4 (in_c 4 rfl) rfl)) (fun e u h => h) (fun v u h => ?_)
            obtain ⟨s56, hI56a, hF56, z56, rfl, rfl, i56⟩ := h
            show GG _ _ _ _ _ _ _ _ [.int z56] _ _ _
            have hI59 : Inv s56 := by have hFF : Fr ([104], [], [(46, 2), (46, 3), (46, 4), (46, 5), (46, 6), (46, 7), (102, 4)], []) s s56 := (fr_tr rfl (fr_tr rfl (fr_tr rfl (fr_sF rfl (fr_sF rfl (fr_sF rfl (fr_sF rfl fr_rf)))) hF30) hF36) hF56); exact ⟨hI56a.1, kk_all hI.2 hFF rfl⟩
            exact g_ireturn (gd rfl) rfl (nb01 (in_w 0 1 i56 rfl)) (hP _ _ ⟨s56, hI59, (fr_tr rfl (fr_tr rfl (fr_tr rfl (fr_sF rfl (fr_sF rfl (fr_sF rfl (fr_sF rfl fr_rf)))) hF30) hF36) hF56), z56, rfl, rfl, in_w 0 1 i56 rfl⟩)
        · skip
          have i47x13 := r_eq1 59 59 c47x13 (i_rng z47x9) (in_c 59 rfl) rfl
          refine g_iconst 1 17 (gd rfl) rfl rfl ?_
          refine g_goto 21 (gd rfl) rfl ?_
          refine g_ireturn (gd rfl) rfl (nb01 (in_w 0 1 (in_c 1 rfl) rfl)) (hp47 _ _ ?_)
          show GG _ _ _ _ _ _ _ _ [.int (Int32.ofInt 1)] _ _ _
          refine g_if_ne 53 60 (gd rfl) rfl rfl (fun c50 => ?_) (fun c50 => ?_)
          · skip
            refine g_aload_n 61 (gd rfl) rfl rfl ?_
            refine g_getI 64 (gd rfl) rfl rfl rfl (fun z61 e61 => ?_)
            have q61 : z36c = z61 := (e36b).trans e61.symm
            subst q61
            refine g_istore_n 65 (gd rfl) rfl (Nat.le_of_ble_eq_true rfl) ?_
            refine g_aload_n 66 (gd rfl) rfl rfl ?_
            refine g_bipush 6 68 (gd rfl) rfl rfl ?_
            refine g_iconst 0 69 (gd rfl) rfl rfl ?_
            have hI69 : Inv s36 := by have hFF : Fr ([104], [], [(46, 2), (46, 3), (46, 4), (46, 5), (46, 6), (46, 7), (102, 4)], []) s s36 := (fr_tr rfl (fr_tr rfl (fr_sF rfl (fr_sF rfl (fr_sF rfl (fr_sF rfl fr_rf)))) hF30) hF36); exact ⟨hI36a.1, kk_all hI.2 hFF rfl⟩
            have v69 : u_46_1 = s36.2.2.1 46 1 := fr_F (fr_F (s := (sF (sF (sF (sF s 46 2 (Int32.ofInt 0)) 46 6 (Int32.ofInt (-1))) 46 7 (Int32.ofInt (-1))) 102 4 (Int32.ofInt 0))) (sF_ne rfl (sF_ne rfl (sF_ne rfl (sF_ne rfl (e_46_1))))) hF30 rfl) hF36 rfl
            have n69 : (z36a).toInt ≤ (u_46_1).toInt := by have a0 := oa6 i10 i36c i47x13 i47x5 i36b i36a; omega
            refine g_callv (X := _) (As := [.int (Int32.ofInt 6), .int (Int32.ofInt 0)]) (r := []) (b := A 46) (q := 46) 72 (gd rfl) rfl rfl rfl rfl rfl (ww_o rfl) (Nat.le_of_ble_eq_true rfl) (Nat.zero_le _) (Nat.zero_le _) (k_171_46 (by first | exact dq1 hd rfl | exact dq0 hd rfl | exact dq2 hd rfl | exact dq3 hd rfl | omega) hI69 (in_w 6 7 (in_c 6 rfl) rfl) (in_w 0 1 (in_c 0 rfl) rfl) e36 v69 n69) (fun e u h => h) (fun v u h => ?_)
            obtain ⟨s69, hI69a, hF69, n69a, n69b, n69c, rfl, rfl, p69, p69a⟩ := h
            obtain ⟨z69a, e69⟩ : ∃ w, w = s69.2.2.1 46 2 := ⟨_, rfl⟩
            have i69a := rng_F hI69a.1 0 1000 rfl e69
            obtain ⟨z69b, e69a⟩ : ∃ w, w = s69.2.2.1 46 4 := ⟨_, rfl⟩
            have i69b := rng_F hI69a.1 0 1000 rfl e69a
            rw [← (show z69a = s69.2.2.1 46 2 from e69)] at n69a
            rw [← (show u_46_1 = s69.2.2.1 46 1 from fr_F (fr_F (fr_F (s := (sF (sF (sF (sF s 46 2 (Int32.ofInt 0)) 46 6 (Int32.ofInt (-1))) 46 7 (Int32.ofInt (-1))) 102 4 (Int32.ofInt 0))) (sF_ne rfl (sF_ne rfl (sF_ne rfl (sF_ne rfl (e_46_1))))) hF30 rfl) hF36 rfl) hF69 rfl)] at n69a
            rw [← (show z69a = s69.2.2.1 46 2 from e69)] at n69b
            rw [← (show z69b = s69.2.2.1 46 4 from e69a)] at n69b
            rw [← (show z36a = s36.2.2.1 46 2 from e36)] at n69c
            rw [← (show z69b = s69.2.2.1 46 4 from e69a)] at n69c
            show GG _ _ _ _ _ _ _ _ [] _ _ _
            refine g_aload_n 73 (gd rfl) rfl rfl ?_
            refine g_aload_n 74 (gd rfl) rfl rfl ?_
            refine g_iconst 0 75 (gd rfl) rfl rfl ?_
            have hI75 : Inv s69 := by have hFF : Fr ([104], [], [(46, 2), (46, 3), (46, 4), (46, 5), (46, 6), (46, 7), (102, 4)], []) s s69 := (fr_tr rfl (fr_tr rfl (fr_tr rfl (fr_sF rfl (fr_sF rfl (fr_sF rfl (fr_sF rfl fr_rf)))) hF30) hF36) hF69); exact ⟨hI69a.1, kk_all hI.2 hFF rfl⟩
            have v75 : u_46_1 = s69.2.2.1 46 1 := fr_F (fr_F (fr_F (s := (sF (sF (sF (sF s 46 2 (Int32.ofInt 0)) 46 6 (Int32.ofInt (-1))) 46 7 (Int32.ofInt (-1))) 102 4 (Int32.ofInt 0))) (sF_ne rfl (sF_ne rfl (sF_ne rfl (sF_ne rfl (e_46_1))))) hF30 rfl) hF36 rfl) hF69 rfl
            have v75a : z36c = s69.2.2.1 102 4 := fr_F (e36b) hF69 rfl
            have n75 : (z69a).toInt ≤ (u_46_1).toInt := by have a0 := oa4 i10 i36c i69b i69a; omega
            have n75a : (z69b).toInt ≤ (z69a).toInt := by have a0 := oa4 i10 i36c i69b i69a; omega
            have n75b : (z36c).toInt ≤ (z69b).toInt := by have a0 := oa4 i10 i36c i69b i69a; omega
            have p75 : TK s69 := by exact p69 (by decide)
            refine g_callv (X := _) (As := [.ref (A 46), .int (Int32.ofInt 0)]) (r := []) (b := A 102) (q := 102) 78 (gd rfl) rfl rfl rfl rfl rfl (ww_o rfl) (Nat.le_of_ble_eq_true rfl) (Nat.zero_le _) (Nat.zero_le _) (k_58_102_46 (by first | exact dq1 hd rfl | exact dq0 hd rfl | exact dq2 hd rfl | exact dq3 hd rfl | omega) hI75 (in_w 0 10 (in_c 0 rfl) rfl) e69 v75 e69a rfl rfl v75a (in_w 0 120 i10 rfl) n75 n75a n75b p75) (fun e u h => h) (fun v u h => ?_)
            obtain ⟨s75, hI75a, hF75, n75c, n75d, n75e, n75f, z75, rfl, rfl, i75, p75a, p75b⟩ := h
            obtain ⟨z75a, e75⟩ : ∃ w, w = s75.2.2.1 46 2 := ⟨_, rfl⟩
            have i75a := rng_F hI75a.1 0 1000 rfl e75
            obtain ⟨z75b, e75a⟩ : ∃ w, w = s75.2.2.1 46 4 := ⟨_, rfl⟩
            have i75b := rng_F hI75a.1 0 1000 rfl e75a
            obtain ⟨z75c, e75b⟩ : ∃ w, w = s75.2.2.1 102 4 := ⟨_, rfl⟩
            have i75c := rng_F hI75a.1 0 120 rfl e75b
            rw [← (show z75a = s75.2.2.1 46 2 from e75)] at n75c
            rw [← (show u_46_1 = s75.2.2.1 46 1 from fr_F (fr_F (fr_F (fr_F (s := (sF (sF (sF (sF s 46 2 (Int32.ofInt 0)) 46 6 (Int32.ofInt (-1))) 46 7 (Int32.ofInt (-1))) 102 4 (Int32.ofInt 0))) (sF_ne rfl (sF_ne rfl (sF_ne rfl (sF_ne rfl (e_46_1))))) hF30 rfl) hF36 rfl) hF69 rfl) hF75 rfl)] at n75c
            rw [← (show z75a = s75.2.2.1 46 2 from e75)] at n75d
            rw [← (show z75b = s75.2.2.1 46 4 from e75a)] at n75d
            rw [← (show z75b = s75.2.2.1 46 4 from e75a)] at n75e
            rw [← (show z75c = s75.2.2.1 102 4 from e75b)] at n75e
            rw [← (show z69b = s69.2.2.1 46 4 from e69a)] at n75f
            rw [← (show z36c = s69.2.2.1 102 4 from fr_F (e36b) hF69 rfl)] at n75f
            rw [← (show z75b = s75.2.2.1 46 4 from e75a)] at n75f
            rw [← (show z75c = s75.2.2.1 102 4 from e75b)] at n75f
            show GG _ _ _ _ _ _ _ _ [.int z75] _ _ _
            refine g_if_ne 81 83 (gd rfl) rfl rfl (fun c78 => ?_) (fun c78 => ?_)
            · skip
              have i78 := z_ne 1 1 c78 i75 rfl
              refine g_aload_n 84 (gd rfl) rfl rfl ?_
              refine g_getI 87 (gd rfl) rfl rfl rfl (fun z84 e84 => ?_)
              have i84 := rng_F hI75a.1 0 5 rfl e84
              refine g_if_eq 90 97 (gd rfl) rfl rfl (fun c87 => ?_) (fun c87 => ?_)
              · skip
                have i87 := z_eq 0 0 c87 i84 rfl
                refine g_aload_n 98 (gd rfl) rfl rfl ?_
                refine g_iload_n 99 (gd rfl) rfl rfl ?_
                refine g_putI 102 (gd rfl) rfl rfl rfl rfl ?_
                have hI99 := rng_sF (q := 102) (j := 1) hI75a.1 rfl (in_w 0 120 i36c rfl)
                refine g_aload_n 103 (gd rfl) rfl rfl ?_
                refine g_aload_n 104 (gd rfl) rfl rfl ?_
                refine g_getI 107 (gd rfl) rfl rfl rfl (fun z104 e104 => ?_)
                have q104 : z75c = z104 := (sF_ne rfl (e75b)).trans e104.symm
                subst q104
                refine g_putI 110 (gd rfl) rfl rfl rfl rfl ?_
                have hI107 := rng_sF (q := 102) (j := 2) hI99 rfl (in_w 0 120 i75c rfl)
                refine g_aload_n 111 (gd rfl) rfl rfl ?_
                refine g_getA (q2 := 104) 114 (gd rfl) rfl rfl rfl rfl ?_
                refine g_iconst 0 115 (gd rfl) rfl rfl ?_
                refine g_aload_n 116 (gd rfl) rfl rfl ?_
                refine g_getA (q2 := 103) 119 (gd rfl) rfl rfl rfl rfl ?_
                refine g_iconst 0 120 (gd rfl) rfl rfl ?_
                refine g_aload_n 121 (gd rfl) rfl rfl ?_
                refine g_getI 124 (gd rfl) rfl rfl rfl (fun z121 e121 => ?_)
                have q121 : z75c = z121 := (sF_ne rfl (sF_ne rfl (e75b))).trans e121.symm
                subst q121
                refine g_cpIr (q2 := 104) (q := 103) (n0 := 120) (n1 := 120) 127 (gd rfl) rfl rfl rfl rfl (Nat.le_of_ble_eq_true rfl) (cp_0 (in_c 0 rfl) rfl) (cp_0 (in_c 0 rfl) rfl) (cp_0 i75c rfl) (cp_1 (in_c 0 rfl) i75c rfl) (cp_1 (in_c 0 rfl) i75c rfl) hI107 rfl rfl rfl (fun s124 hI124 hF124 cp124 => ?_)
                refine g_iconst 1 128 (gd rfl) rfl rfl ?_
                have hI128 : Inv s124 := by have p1 := (p36b c39).2.2 0 0 (Nat.zero_le _) (by have e0 : CDL s30 = 0 := (by unfold CDL; rw [hF30.2.2.1 102 4 rfl]; rfl); rw [e0]; rfl); have p2 : PCV s36 s75 1 := pv_tr (j := 0) (k := 1) (pv_sm (hF69.1 104 rfl) (hF69.2.2.1 102 4 rfl)) (p75b c78); have hx : (s124.2.2.1 102 1).toInt.toNat = CDL s36 := (by rw [hF124.2.2.1 102 1 rfl, ← (show z36c = (sF (sF s75 102 1 z36c) 102 2 z75c).2.2.1 102 1 from sF_ne rfl sF_get), e36b]; rfl); have hy : (s124.2.2.1 102 2).toInt.toNat = CDL s75 := (by rw [hF124.2.2.1 102 2 rfl, ← (show z75c = (sF (sF s75 102 1 z36c) 102 2 z75c).2.2.1 102 2 from sF_get), e75b]; rfl); have hcp : ∀ k : Nat, k < CDL s75 → s124.1 103 k = s75.1 104 k := (fun k hk => by rw [cp124 k, show (Int32.ofInt 0).toNatClampNeg = 0 from rfl]; unfold va_cpy; rw [if_pos ⟨Nat.zero_le k, (by rw [e75b, Nat.zero_add]; exact hk)⟩, Nat.zero_add, Nat.sub_zero]; rfl); have hFF : Fr fm_56_102_46 s s124 := (fr_tr rfl (fr_sF rfl (fr_sF rfl (fr_tr rfl (fr_tr rfl (fr_tr rfl (fr_tr rfl (fr_sF rfl (fr_sF rfl (fr_sF rfl (fr_sF rfl fr_rf)))) hF30) hF36) hF69) hF75))) hF124); exact ⟨hI124, kk_cp hI.2 hFF rfl (kc_ad (s1 := s36) (s2 := s75) p1 p2 hx hy hcp)⟩
                exact g_ireturn (gd rfl) rfl (nb01 (in_w 0 1 (in_c 1 rfl) rfl)) (hP _ _ ⟨s124, hI128, (fr_tr rfl (fr_sF rfl (fr_sF rfl (fr_tr rfl (fr_tr rfl (fr_tr rfl (fr_tr rfl (fr_sF rfl (fr_sF rfl (fr_sF rfl (fr_sF rfl fr_rf)))) hF30) hF36) hF69) hF75))) hF124), (Int32.ofInt 1), rfl, rfl, in_w 0 1 (in_c 1 rfl) rfl⟩)
              · skip
                have i87 := z_ne 1 5 c87 i84 rfl
                refine g_aload_n 91 (gd rfl) rfl rfl ?_
                refine g_iconst 2 92 (gd rfl) rfl rfl ?_
                refine g_iconst 4 93 (gd rfl) rfl rfl ?_
                have hI93 : Inv s75 := by have hFF : Fr ([104], [], [(46, 2), (46, 3), (46, 4), (46, 5), (46, 6), (46, 7), (102, 4)], []) s s75 := (fr_tr rfl (fr_tr rfl (fr_tr rfl (fr_tr rfl (fr_sF rfl (fr_sF rfl (fr_sF rfl (fr_sF rfl fr_rf)))) hF30) hF36) hF69) hF75); exact ⟨hI75a.1, kk_all hI.2 hFF rfl⟩
                refine g_callv (X := _) (As := [.int (Int32.ofInt 2), .int (Int32.ofInt 4)]) (r := []) (b := A 46) (q := 46) 96 (gd rfl) rfl rfl rfl rfl rfl (ww_o rfl) (Nat.le_of_ble_eq_true rfl) (Nat.zero_le _) (Nat.zero_le _) (k_169_46 (by first | exact dq1 hd rfl | exact dq0 hd rfl | exact dq2 hd rfl | exact dq3 hd rfl | omega) hI93 (in_w 2 2 (in_c 2 rfl) rfl) (in_w 3 4 (in_c 4 rfl) rfl)) (fun e u h => h) (fun v u h => ?_)
                obtain ⟨s93, hI93a, hF93, z93, rfl, rfl, i93⟩ := h
                show GG _ _ _ _ _ _ _ _ [.int z93] _ _ _
                have hI96 : Inv s93 := by have hFF : Fr ([104], [], [(46, 2), (46, 3), (46, 4), (46, 5), (46, 6), (46, 7), (102, 4)], []) s s93 := (fr_tr rfl (fr_tr rfl (fr_tr rfl (fr_tr rfl (fr_tr rfl (fr_sF rfl (fr_sF rfl (fr_sF rfl (fr_sF rfl fr_rf)))) hF30) hF36) hF69) hF75) hF93); exact ⟨hI93a.1, kk_all hI.2 hFF rfl⟩
                exact g_ireturn (gd rfl) rfl (nb01 (in_w 0 1 i93 rfl)) (hP _ _ ⟨s93, hI96, (fr_tr rfl (fr_tr rfl (fr_tr rfl (fr_tr rfl (fr_tr rfl (fr_sF rfl (fr_sF rfl (fr_sF rfl (fr_sF rfl fr_rf)))) hF30) hF36) hF69) hF75) hF93), z93, rfl, rfl, in_w 0 1 i93 rfl⟩)
            · skip
              have i78 := z_eq 0 0 c78 i75 rfl
              refine g_iconst 0 82 (gd rfl) rfl rfl ?_
              have hI82 : Inv s75 := by have hFF : Fr ([104], [], [(46, 2), (46, 3), (46, 4), (46, 5), (46, 6), (46, 7), (102, 4)], []) s s75 := (fr_tr rfl (fr_tr rfl (fr_tr rfl (fr_tr rfl (fr_sF rfl (fr_sF rfl (fr_sF rfl (fr_sF rfl fr_rf)))) hF30) hF36) hF69) hF75); exact ⟨hI75a.1, kk_all hI.2 hFF rfl⟩
              exact g_ireturn (gd rfl) rfl (nb01 (in_w 0 1 (in_c 0 rfl) rfl)) (hP _ _ ⟨s75, hI82, (fr_tr rfl (fr_tr rfl (fr_tr rfl (fr_tr rfl (fr_sF rfl (fr_sF rfl (fr_sF rfl (fr_sF rfl fr_rf)))) hF30) hF36) hF69) hF75), (Int32.ofInt 0), rfl, rfl, in_w 0 1 (in_c 0 rfl) rfl⟩)
          · skip
            exact zn_eq c50 (in_c 1 rfl) rfl
    · skip
      have i39 := z_eq 0 0 c39 i36 rfl
      refine g_iconst 0 43 (gd rfl) rfl rfl ?_
      have hI43 : Inv s36 := by have hFF : Fr ([104], [], [(46, 2), (46, 3), (46, 4), (46, 5), (46, 6), (46, 7), (102, 4)], []) s s36 := (fr_tr rfl (fr_tr rfl (fr_sF rfl (fr_sF rfl (fr_sF rfl (fr_sF rfl fr_rf)))) hF30) hF36); exact ⟨hI36a.1, kk_all hI.2 hFF rfl⟩
      exact g_ireturn (gd rfl) rfl (nb01 (in_w 0 1 (in_c 0 rfl) rfl)) (hP _ _ ⟨s36, hI43, (fr_tr rfl (fr_tr rfl (fr_sF rfl (fr_sF rfl (fr_sF rfl (fr_sF rfl fr_rf)))) hF30) hF36), (Int32.ofInt 0), rfl, rfl, in_w 0 1 (in_c 0 rfl) rfl⟩)
  · skip
    have i10 := r_lt2 121 1000 c10 (in_c 120 rfl) ro_46_1 rfl
    refine g_aload_n 14 (gd rfl) rfl rfl ?_
    refine g_iconst 2 15 (gd rfl) rfl rfl ?_
    refine g_bipush 120 17 (gd rfl) rfl rfl ?_
    have hI17 : Inv (sF (sF (sF s 46 2 (Int32.ofInt 0)) 46 6 (Int32.ofInt (-1))) 46 7 (Int32.ofInt (-1))) := by have hFF : Fr ([104], [], [(46, 2), (46, 3), (46, 4), (46, 5), (46, 6), (46, 7), (102, 4)], []) s (sF (sF (sF s 46 2 (Int32.ofInt 0)) 46 6 (Int32.ofInt (-1))) 46 7 (Int32.ofInt (-1))) := (fr_sF rfl (fr_sF rfl (fr_sF rfl fr_rf))); exact ⟨hI1x12, kk_all hI.2 hFF rfl⟩
    refine g_callv (X := _) (As := [.int (Int32.ofInt 2), .int (Int32.ofInt 120)]) (r := []) (b := A 46) (q := 46) 20 (gd rfl) rfl rfl rfl rfl rfl (ww_o rfl) (Nat.le_of_ble_eq_true rfl) (Nat.zero_le _) (Nat.zero_le _) (k_168_46 (by first | exact dq1 hd rfl | exact dq0 hd rfl | exact dq2 hd rfl | exact dq3 hd rfl | omega) hI17 (in_w 1 5 (in_c 2 rfl) rfl) (in_w 0 1000 (in_c 120 rfl) rfl)) (fun e u h => h) (fun v u h => ?_)
    obtain ⟨s17, hI17a, hF17, z17, rfl, rfl, i17⟩ := h
    show GG _ _ _ _ _ _ _ _ [.int z17] _ _ _
    have hI20 : Inv s17 := by have hFF : Fr ([104], [], [(46, 2), (46, 3), (46, 4), (46, 5), (46, 6), (46, 7), (102, 4)], []) s s17 := (fr_tr rfl (fr_sF rfl (fr_sF rfl (fr_sF rfl fr_rf))) hF17); exact ⟨hI17a.1, kk_all hI.2 hFF rfl⟩
    exact g_ireturn (gd rfl) rfl (nb01 (in_w 0 1 i17 rfl)) (hP _ _ ⟨s17, hI20, (fr_tr rfl (fr_sF rfl (fr_sF rfl (fr_sF rfl fr_rf))) hF17), z17, rfl, rfl, in_w 0 1 i17 rfl⟩)

def fm_83_65 : FM := ([68, 73, 74], [75], [], [])
/-- GraphHouse$Flows.carryAll -/
theorem k_83_65 {Z : AmZ} {A : Nat → Nat} {s : GS} {ex : va_W} {d : Nat} {X : AmX} {x1 : Int32} {x2 : Int32} (hd : 4 ≤ d) (hI : Inv s) (h1 : In x1 0 32) (h2 : In x2 1 65536) : GC Z d 83 [.ref (A 65), .int x1, .int x2] (WW Z A s ++ ex) 0 0 (fun v u => ∃ t : GS, Inv t ∧ Fr fm_83_65 s t ∧ v = none ∧ u = WW Z A t ++ ex) X := by
  intro post xp hP hX
  have ct2 : ∀ (k2 : Nat) (sc2 : GS) (y2_3 : Int32), Inv sc2 → Fr fm_83_65 s sc2 → (In y2_3 0 2147483647) → 2147483647 - (y2_3).toInt < (k2 : Int) → GG Z (d - 1) 83 post (gx xp) (1 + k2 * 900) 2 (fun j => xlook j [(0, .ref (A 65)), (1, .int x1), (2, .int x2), (3, .int y2_3)]) [] (WW Z A sc2 ++ ex) 0 0 := by
    intro k2
    induction k2 with
    | zero => intro sc2 y2_3 hIc2 hFc2 j2_3 mm2; exact m_no mm2 j2_3 rfl
    | succ k2 ih2 =>
      intro sc2 y2_3 hIc2 hFc2 j2_3 mm2
      refine gg_w (M := 1 + k2 * 900 + 900) gws ?_
      refine g_iload_n 3 (gd rfl) rfl rfl ?_
      refine g_ldc 1000000 5 (gd rfl) rfl rfl ?_
      refine g_cmp_ge 8 36 (gd rfl) rfl rfl (fun c5 => ?_) (fun c5 => ?_)
      · skip
        have i5 := r_le2 1000000 2147483647 c5 (in_c 1000000 rfl) j2_3 rfl
        exact g_return (gd rfl) rfl (hP _ _ ⟨sc2, hIc2, hFc2, rfl, rfl⟩)
      · skip
        have i5 := r_lt1 0 999999 c5 j2_3 (in_c 1000000 rfl) rfl
        refine g_aload_n 9 (gd rfl) rfl rfl ?_
        refine g_iload_n 10 (gd rfl) rfl rfl ?_
        refine g_iload_n 11 (gd rfl) rfl rfl ?_
        refine g_callv (X := _) (As := [.int x1, .int x2]) (r := []) (b := A 65) (q := 65) 14 (gd rfl) rfl rfl rfl rfl rfl (ww_o rfl) (Nat.le_of_ble_eq_true rfl) (Nat.zero_le _) (Nat.zero_le _) (k_85_65 (by first | exact dq1 hd rfl | exact dq0 hd rfl | exact dq2 hd rfl | exact dq3 hd rfl | omega) hIc2 (in_w 0 32 h1 rfl) (in_w 1 65536 h2 rfl)) (fun e u h => h) (fun v u h => ?_)
        obtain ⟨s11, hI11, hF11, z11, rfl, rfl, i11⟩ := h
        show GG _ _ _ _ _ _ _ _ [.int z11] _ _ _
        refine g_istore 16 (gd rfl) rfl (Nat.le_of_ble_eq_true rfl) ?_
        refine g_iload 18 (gd rfl) rfl rfl ?_
        refine g_iconst (-1) 19 (gd rfl) rfl rfl ?_
        refine g_cmp_ne 22 23 (gd rfl) rfl rfl (fun c19 => ?_) (fun c19 => ?_)
        · skip
          have i19 := r_ne1 0 31 c19 i11 (in_c (-1) rfl) rfl
          refine g_aload_n 24 (gd rfl) rfl rfl ?_
          refine g_iload 26 (gd rfl) rfl rfl ?_
          refine g_callv (X := _) (As := [.int z11]) (r := []) (b := A 65) (q := 65) 29 (gd rfl) rfl rfl rfl rfl rfl (ww_o rfl) (Nat.le_of_ble_eq_true rfl) (Nat.zero_le _) (Nat.zero_le _) (k_88_65 (by first | exact dq1 hd rfl | exact dq0 hd rfl | exact dq2 hd rfl | exact dq3 hd rfl | omega) hI11 (in_w 0 31 i19 rfl)) (fun e u h => h) (fun v u h => ?_)
          obtain ⟨s26, hI26, hF26, z26, rfl, rfl⟩ := h
          show GG _ _ _ _ _ _ _ _ [.long z26] _ _ _
          refine g_pop2 30 (gd rfl) rfl rfl ?_
          refine g_iinc 33 (gd rfl) rfl rfl (Nat.le_of_ble_eq_true rfl) (fun z30 e30 => ?_)
          have i30 := in_add 1 1000000 e30 i5 (in_c 1 rfl) rfl rfl
          refine g_goto 2 (gd rfl) rfl ?_
          exact gg_w (by first | exact Nat.le_add_right _ _ | exact gw2 | exact gw3 | exact gwe rfl | exact gwf rfl | exact gwg rfl | exact gwh rfl | omega) (gg_f (gf_cons rfl (gf_cons rfl (gf_cons rfl (gf_cons rfl gf_nil)))) (ih2 s26 z30 hI26 (fr_tr rfl (fr_tr rfl hFc2 hF11) hF26) (in_w 0 2147483647 i30 rfl) (m_up mm2 (t_add e30 i5 (in_c 1 rfl) rfl) (in_w 1 1 (in_c 1 rfl) rfl))))
        · skip
          have i19 := r_eq1 (-1) (-1) c19 i11 (in_c (-1) rfl) rfl
          exact g_return (gd rfl) rfl (hP _ _ ⟨s11, hI11, (fr_tr rfl hFc2 hF11), rfl, rfl⟩)
  refine g_enter2 (k := 83) (N := 1932735284101) (by first | exact dq1 hd rfl | exact dq0 hd rfl | exact dq2 hd rfl | exact dq3 hd rfl | omega) rfl (Nat.le_of_ble_eq_true rfl) ?_
  refine g_iconst 0 1 (gd rfl) rfl rfl ?_
  refine g_istore_n 2 (gd rfl) rfl (Nat.le_of_ble_eq_true rfl) ?_
  exact gg_w (by first | exact Nat.le_of_ble_eq_true rfl | omega) (gg_f (gf_cons rfl (gf_cons rfl (gf_cons rfl (gf_cons rfl gf_nil)))) (ct2 2147483648 s (Int32.ofInt 0) hI fr_rf (in_w 0 2147483647 (in_c 0 rfl) rfl) (m_in 2147483648 (in_w 0 2147483647 (in_c 0 rfl) rfl) rfl)))

def fm_112_86_2 : FM := ([9, 10, 11, 12, 13, 14, 15, 89, 90, 91, 92, 93], [], [(2, 4), (86, 4), (86, 5)], [])
/-- GraphHouse$Groups.totalGain -/
theorem k_112_86_2 {Z : AmZ} {A : Nat → Nat} {s : GS} {ex : va_W} {d : Nat} {X : AmX}  (hd : 7 ≤ d) (hI : Inv s)  : GC Z d 112 [.ref (A 86), .ref (A 2)] (WW Z A s ++ ex) 0 0 (fun v u => ∃ t : GS, Inv t ∧ Fr fm_112_86_2 s t ∧ ∃ z : Int64, v = some (.long z) ∧ u = WW Z A t ++ ex) X := by
  intro post xp hP hX
  obtain ⟨u_2_1, e_2_1⟩ : ∃ w, w = s.2.2.1 2 1 := ⟨_, rfl⟩
  have ro_2_1 := inv_F hI 0 32 rfl e_2_1
  obtain ⟨u_2_3, e_2_3⟩ : ∃ w, w = s.2.2.1 2 3 := ⟨_, rfl⟩
  have ro_2_3 := inv_F hI 0 160 rfl e_2_3
  have ct76 : ∀ (k76 : Nat) (sc76 : GS) (y76_2 : Int64) (y76_4 : Int32), Inv sc76 → Fr fm_112_86_2 s sc76 → (In y76_4 0 32) → 32 - (y76_4).toInt < (k76 : Int) → GG Z (d - 1) 112 post (gx xp) (1 + k76 * 900) 76 (fun j => xlook j [(0, .ref (A 86)), (1, .ref (A 2)), (2, .long y76_2), (4, .int y76_4)]) [] (WW Z A sc76 ++ ex) 0 0 := by
    intro k76
    induction k76 with
    | zero => intro sc76 y76_2 y76_4 hIc76 hFc76 j76_4 mm76; exact m_no mm76 j76_4 rfl
    | succ k76 ih76 =>
      intro sc76 y76_2 y76_4 hIc76 hFc76 j76_4 mm76
      refine gg_w (M := 1 + k76 * 900 + 900) gws ?_
      refine g_iload 78 (gd rfl) rfl rfl ?_
      refine g_aload_n 79 (gd rfl) rfl rfl ?_
      refine g_getI 82 (gd rfl) rfl rfl rfl (fun z79 e79 => ?_)
      have q79 : u_2_1 = z79 := (fr_F e_2_1 hFc76 rfl).trans e79.symm
      subst q79
      refine g_cmp_ge 85 124 (gd rfl) rfl rfl (fun c82 => ?_) (fun c82 => ?_)
      · skip
        refine g_lload_n 125 (gd rfl) rfl rfl ?_
        exact g_lreturn (gd rfl) rfl (hP _ _ ⟨sc76, hIc76, hFc76, y76_2, rfl, rfl⟩)
      · skip
        have i82 := r_lt1 0 31 c82 j76_4 ro_2_1 rfl
        have i82a := r_lt2 1 32 c82 j76_4 ro_2_1 rfl
        refine g_lload_n 86 (gd rfl) rfl rfl ?_
        refine g_aload_n 87 (gd rfl) rfl rfl ?_
        refine g_getA (q2 := 91) 90 (gd rfl) rfl rfl rfl rfl ?_
        refine g_iload 92 (gd rfl) rfl rfl ?_
        refine g_iaload 93 (gd rfl) rfl (n := 32) rfl (in_ix i82 rfl) (fun z92 e92 => ?_)
        refine g_i2l 94 (gd rfl) rfl (fun z93 e93 => ?_)
        have i93 := l_i e93 (i_rng z92)
        refine g_aload_n 95 (gd rfl) rfl rfl ?_
        refine g_getA (q2 := 92) 98 (gd rfl) rfl rfl rfl rfl ?_
        refine g_aload_n 99 (gd rfl) rfl rfl ?_
        refine g_getA (q2 := 89) 102 (gd rfl) rfl rfl rfl rfl ?_
        refine g_iload 104 (gd rfl) rfl rfl ?_
        refine g_iaload 105 (gd rfl) rfl (n := 32) rfl (in_ix i82 rfl) (fun z104 e104 => ?_)
        have i104 := inv_I hIc76 (n := 32) (t := 0) 0 31 rfl (in_ix i82 rfl) rfl e104
        refine g_iaload 106 (gd rfl) rfl (n := 32) rfl (in_ix i104 rfl) (fun z105 e105 => ?_)
        refine g_aload_n 107 (gd rfl) rfl rfl ?_
        refine g_getA (q2 := 91) 110 (gd rfl) rfl rfl rfl rfl ?_
        refine g_iload 112 (gd rfl) rfl rfl ?_
        refine g_iaload 113 (gd rfl) rfl (n := 32) rfl (in_ix i82 rfl) (fun z112 e112 => ?_)
        have q112 : z92 = z112 := (e92).trans e112.symm
        subst q112
        refine g_isub 114 (gd rfl) rfl (fun z113 e113 => ?_)
        refine g_i2l 115 (gd rfl) rfl (fun z114 e114 => ?_)
        have i114 := l_i e114 (i_rng z113)
        refine g_lmul 116 (gd rfl) rfl (fun z115 e115 => ?_)
        refine g_lsub 117 (gd rfl) rfl (fun z116 e116 => ?_)
        refine g_lstore_n 118 (gd rfl) rfl (Nat.le_of_ble_eq_true rfl) ?_
        refine g_iinc 121 (gd rfl) rfl rfl (Nat.le_of_ble_eq_true rfl) (fun z118 e118 => ?_)
        have i118 := in_add 1 32 e118 i82 (in_c 1 rfl) rfl rfl
        refine g_goto 76 (gd rfl) rfl ?_
        exact gg_w (by first | exact Nat.le_add_right _ _ | exact gw2 | exact gw3 | exact gwe rfl | exact gwf rfl | exact gwg rfl | exact gwh rfl | omega) (gg_f (gf_cons rfl (gf_cons rfl (gf_cons rfl (gf_cons rfl gf_nil)))) (ih76 sc76 z116 z118 hIc76 hFc76 (in_w 0 32 i118 rfl) (m_up mm76 (t_add e118 i82 (in_c 1 rfl) rfl) (in_w 1 1 (in_c 1 rfl) rfl))))
  have ct10 : ∀ (k10 : Nat) (sc10 : GS) (y10_2 : Int64) (y10_4 : Int32), Inv sc10 → Fr fm_112_86_2 s sc10 → (In y10_4 0 160) → 160 - (y10_4).toInt < (k10 : Int) → GG Z (d - 1) 112 post (gx xp) (29702 + k10 * 900) 10 (fun j => xlook j [(0, .ref (A 86)), (1, .ref (A 2)), (2, .long y10_2), (4, .int y10_4)]) [] (WW Z A sc10 ++ ex) 0 0 := by
    intro k10
    induction k10 with
    | zero => intro sc10 y10_2 y10_4 hIc10 hFc10 j10_4 mm10; exact m_no mm10 j10_4 rfl
    | succ k10 ih10 =>
      intro sc10 y10_2 y10_4 hIc10 hFc10 j10_4 mm10
      refine gg_w (M := 29702 + k10 * 900 + 900) gws ?_
      refine g_iload 12 (gd rfl) rfl rfl ?_
      refine g_aload_n 13 (gd rfl) rfl rfl ?_
      refine g_getI 16 (gd rfl) rfl rfl rfl (fun z13 e13 => ?_)
      have q13 : u_2_3 = z13 := (fr_F e_2_3 hFc10 rfl).trans e13.symm
      subst q13
      refine g_cmp_ge 19 73 (gd rfl) rfl rfl (fun c16 => ?_) (fun c16 => ?_)
      · skip
        refine g_iconst 0 74 (gd rfl) rfl rfl ?_
        refine g_istore 76 (gd rfl) rfl (Nat.le_of_ble_eq_true rfl) ?_
        exact gg_w (by first | exact Nat.le_add_right _ _ | exact gw2 | exact gw3 | exact gwe rfl | exact gwf rfl | exact gwg rfl | exact gwh rfl | omega) (gg_f (gf_cons rfl (gf_cons rfl (gf_cons rfl (gf_cons rfl gf_nil)))) (ct76 33 sc10 y10_2 (Int32.ofInt 0) hIc10 hFc10 (in_w 0 32 (in_c 0 rfl) rfl) (m_in 33 (in_w 0 32 (in_c 0 rfl) rfl) rfl)))
      · skip
        have i16 := r_lt1 0 159 c16 j10_4 ro_2_3 rfl
        have i16a := r_lt2 1 160 c16 j10_4 ro_2_3 rfl
        refine g_aload_n 20 (gd rfl) rfl rfl ?_
        refine g_iload 22 (gd rfl) rfl rfl ?_
        refine g_callv (X := _) (As := [.int y10_4]) (r := []) (b := A 2) (q := 2) 25 (gd rfl) rfl rfl rfl rfl rfl (ww_o rfl) (Nat.le_of_ble_eq_true rfl) (mc := 0) (ms := 0) (Nat.zero_le _) (Nat.zero_le _) (P := fun v u => _) ?_ (fun e u h => h) (fun v u h => h)
        intro po22 xx22 hp22 hx22
        refine g_enter2 (k := 97) (N := 300) (by first | exact dq1 hd rfl | exact dq0 hd rfl | exact dq2 hd rfl | exact dq3 hd rfl | omega) rfl (Nat.le_of_ble_eq_true rfl) ?_
        refine g_aload_n 1 (gd rfl) rfl rfl ?_
        refine g_getA (q2 := 4) 4 (gd rfl) rfl rfl rfl rfl ?_
        refine g_iload_n 5 (gd rfl) rfl rfl ?_
        refine g_iaload 6 (gd rfl) rfl (n := 160) rfl (in_ix i16 rfl) (fun z22x5 e22x5 => ?_)
        have i22x5 := inv_I hIc10 (n := 160) (t := 0) (-1) 31 rfl (in_ix i16 rfl) rfl e22x5
        refine g_iconst (-1) 7 (gd rfl) rfl rfl ?_
        refine g_cmp_eq 10 29 (gd rfl) rfl rfl (fun c22x7 => ?_) (fun c22x7 => ?_)
        · skip
          have i22x7 := r_eq1 (-1) (-1) c22x7 i22x5 (in_c (-1) rfl) rfl
          refine g_iconst 0 30 (gd rfl) rfl rfl ?_
          refine g_ireturn (gd rfl) rfl (nb01 (in_w 0 1 (in_c 0 rfl) rfl)) (hp22 _ _ ?_)
          show GG _ _ _ _ _ _ _ _ [.int (Int32.ofInt 0)] _ _ _
          refine g_if_eq 28 67 (gd rfl) rfl rfl (fun c25 => ?_) (fun c25 => ?_)
          · skip
            refine g_iinc 70 (gd rfl) rfl rfl (Nat.le_of_ble_eq_true rfl) (fun z67 e67 => ?_)
            have i67 := in_add 1 160 e67 i16 (in_c 1 rfl) rfl rfl
            refine g_goto 10 (gd rfl) rfl ?_
            exact gg_w (by first | exact Nat.le_add_right _ _ | exact gw2 | exact gw3 | exact gwe rfl | exact gwf rfl | exact gwg rfl | exact gwh rfl | omega) (gg_f (gf_cons rfl (gf_cons rfl (gf_cons rfl (gf_cons rfl gf_nil)))) (ih10 sc10 y10_2 z67 hIc10 hFc10 (in_w 0 160 i67 rfl) (m_up mm10 (t_add e67 i16 (in_c 1 rfl) rfl) (in_w 1 1 (in_c 1 rfl) rfl))))
          · skip
            exact zn_ne c25 (in_c 0 rfl) rfl
        · skip
          have i22x7 := r_ne1 0 31 c22x7 i22x5 (in_c (-1) rfl) rfl
          refine g_aload_n 11 (gd rfl) rfl rfl ?_
          refine g_getA (q2 := 4) 14 (gd rfl) rfl rfl rfl rfl ?_
          refine g_iload_n 15 (gd rfl) rfl rfl ?_
          refine g_iaload 16 (gd rfl) rfl (n := 160) rfl (in_ix i16 rfl) (fun z22x15 e22x15 => ?_)
          have q22x15 : z22x5 = z22x15 := (e22x5).trans e22x15.symm
          subst q22x15
          refine g_aload_n 17 (gd rfl) rfl rfl ?_
          refine g_getA (q2 := 5) 20 (gd rfl) rfl rfl rfl rfl ?_
          refine g_iload_n 21 (gd rfl) rfl rfl ?_
          refine g_iaload 22 (gd rfl) rfl (n := 160) rfl (in_ix i16 rfl) (fun z22x21 e22x21 => ?_)
          have i22x21 := inv_I hIc10 (n := 160) (t := 0) 0 31 rfl (in_ix i16 rfl) rfl e22x21
          refine g_cmp_eq 25 29 (gd rfl) rfl rfl (fun c22x22 => ?_) (fun c22x22 => ?_)
          · skip
            refine g_iconst 0 30 (gd rfl) rfl rfl ?_
            refine g_ireturn (gd rfl) rfl (nb01 (in_w 0 1 (in_c 0 rfl) rfl)) (hp22 _ _ ?_)
            show GG _ _ _ _ _ _ _ _ [.int (Int32.ofInt 0)] _ _ _
            refine g_if_eq 28 67 (gd rfl) rfl rfl (fun c25 => ?_) (fun c25 => ?_)
            · skip
              refine g_iinc 70 (gd rfl) rfl rfl (Nat.le_of_ble_eq_true rfl) (fun z67 e67 => ?_)
              have i67 := in_add 1 160 e67 i16 (in_c 1 rfl) rfl rfl
              refine g_goto 10 (gd rfl) rfl ?_
              exact gg_w (by first | exact Nat.le_add_right _ _ | exact gw2 | exact gw3 | exact gwe rfl | exact gwf rfl | exact gwg rfl | exact gwh rfl | omega) (gg_f (gf_cons rfl (gf_cons rfl (gf_cons rfl (gf_cons rfl gf_nil)))) (ih10 sc10 y10_2 z67 hIc10 hFc10 (in_w 0 160 i67 rfl) (m_up mm10 (t_add e67 i16 (in_c 1 rfl) rfl) (in_w 1 1 (in_c 1 rfl) rfl))))
            · skip
              exact zn_ne c25 (in_c 0 rfl) rfl
          · skip
            refine g_iconst 1 26 (gd rfl) rfl rfl ?_
            refine g_goto 30 (gd rfl) rfl ?_
            refine g_ireturn (gd rfl) rfl (nb01 (in_w 0 1 (in_c 1 rfl) rfl)) (hp22 _ _ ?_)
            show GG _ _ _ _ _ _ _ _ [.int (Int32.ofInt 1)] _ _ _
            refine g_if_eq 28 67 (gd rfl) rfl rfl (fun c25 => ?_) (fun c25 => ?_)
            · skip
              exact zn_eq c25 (in_c 1 rfl) rfl
            · skip
              refine g_aload_n 29 (gd rfl) rfl rfl ?_
              refine g_getA (q2 := 89) 32 (gd rfl) rfl rfl rfl rfl ?_
              refine g_aload_n 33 (gd rfl) rfl rfl ?_
              refine g_getA (q2 := 4) 36 (gd rfl) rfl rfl rfl rfl ?_
              refine g_iload 38 (gd rfl) rfl rfl ?_
              refine g_iaload 39 (gd rfl) rfl (n := 160) rfl (in_ix i16 rfl) (fun z38 e38 => ?_)
              have q38 : z22x5 = z38 := (e22x5).trans e38.symm
              subst q38
              refine g_iaload 40 (gd rfl) rfl (n := 32) rfl (in_ix i22x7 rfl) (fun z39 e39 => ?_)
              have i39 := inv_I hIc10 (n := 32) (t := 0) 0 31 rfl (in_ix i22x7 rfl) rfl e39
              refine g_aload_n 41 (gd rfl) rfl rfl ?_
              refine g_getA (q2 := 89) 44 (gd rfl) rfl rfl rfl rfl ?_
              refine g_aload_n 45 (gd rfl) rfl rfl ?_
              refine g_getA (q2 := 5) 48 (gd rfl) rfl rfl rfl rfl ?_
              refine g_iload 50 (gd rfl) rfl rfl ?_
              refine g_iaload 51 (gd rfl) rfl (n := 160) rfl (in_ix i16 rfl) (fun z50 e50 => ?_)
              have q50 : z22x21 = z50 := (e22x21).trans e50.symm
              subst q50
              refine g_iaload 52 (gd rfl) rfl (n := 32) rfl (in_ix i22x21 rfl) (fun z51 e51 => ?_)
              have i51 := inv_I hIc10 (n := 32) (t := 0) 0 31 rfl (in_ix i22x21 rfl) rfl e51
              refine g_cmp_ne 55 67 (gd rfl) rfl rfl (fun c52 => ?_) (fun c52 => ?_)
              · skip
                refine g_iinc 70 (gd rfl) rfl rfl (Nat.le_of_ble_eq_true rfl) (fun z67 e67 => ?_)
                have i67 := in_add 1 160 e67 i16 (in_c 1 rfl) rfl rfl
                refine g_goto 10 (gd rfl) rfl ?_
                exact gg_w (by first | exact Nat.le_add_right _ _ | exact gw2 | exact gw3 | exact gwe rfl | exact gwf rfl | exact gwg rfl | exact gwh rfl | omega) (gg_f (gf_cons rfl (gf_cons rfl (gf_cons rfl (gf_cons rfl gf_nil)))) (ih10 sc10 y10_2 z67 hIc10 hFc10 (in_w 0 160 i67 rfl) (m_up mm10 (t_add e67 i16 (in_c 1 rfl) rfl) (in_w 1 1 (in_c 1 rfl) rfl))))
              · skip
                refine g_lload_n 56 (gd rfl) rfl rfl ?_
                refine g_ldc2_w 4 59 (gd rfl) rfl rfl ?_
                refine g_aload_n 60 (gd rfl) rfl rfl ?_
                refine g_getI 63 (gd rfl) rfl rfl rfl (fun z60 e60 => ?_)
                have i60 := inv_F hIc10 0 160 rfl e60
                refine g_i2l 64 (gd rfl) rfl (fun z63 e63 => ?_)
                have i63 := l_i e63 i60
                refine g_lmul 65 (gd rfl) rfl (fun z64 e64 => ?_)
                have i64 := l_mulc 4 0 640 (Or.inl e64) i63 rfl
                refine g_ladd 66 (gd rfl) rfl (fun z65 e65 => ?_)
                refine g_lstore_n 67 (gd rfl) rfl (Nat.le_of_ble_eq_true rfl) ?_
                refine g_iinc 70 (gd rfl) rfl rfl (Nat.le_of_ble_eq_true rfl) (fun z67 e67 => ?_)
                have i67 := in_add 1 160 e67 i16 (in_c 1 rfl) rfl rfl
                refine g_goto 10 (gd rfl) rfl ?_
                exact gg_w (by first | exact Nat.le_add_right _ _ | exact gw2 | exact gw3 | exact gwe rfl | exact gwf rfl | exact gwg rfl | exact gwh rfl | omega) (gg_f (gf_cons rfl (gf_cons rfl (gf_cons rfl (gf_cons rfl gf_nil)))) (ih10 sc10 z65 z67 hIc10 hFc10 (in_w 0 160 i67 rfl) (m_up mm10 (t_add e67 i16 (in_c 1 rfl) rfl) (in_w 1 1 (in_c 1 rfl) rfl))))
  refine g_enter2 (k := 112) (N := 175502) (by first | exact dq1 hd rfl | exact dq0 hd rfl | exact dq2 hd rfl | exact dq3 hd rfl | omega) rfl (Nat.le_of_ble_eq_true rfl) ?_
  refine g_aload_n 1 (gd rfl) rfl rfl ?_
  refine g_aload_n 2 (gd rfl) rfl rfl ?_
  refine g_callv (X := _) (As := [.ref (A 2)]) (r := []) (b := A 86) (q := 86) 5 (gd rfl) rfl rfl rfl rfl rfl (ww_o rfl) (Nat.le_of_ble_eq_true rfl) (Nat.zero_le _) (Nat.zero_le _) (k_113_86_2 (by first | exact dq1 hd rfl | exact dq0 hd rfl | exact dq2 hd rfl | exact dq3 hd rfl | omega) hI ) (fun e u h => h) (fun v u h => ?_)
  obtain ⟨s2, hI2, hF2, rfl, rfl⟩ := h
  show GG _ _ _ _ _ _ _ _ [] _ _ _
  refine g_lconst 0 6 (gd rfl) rfl rfl ?_
  refine g_lstore_n 7 (gd rfl) rfl (Nat.le_of_ble_eq_true rfl) ?_
  refine g_iconst 0 8 (gd rfl) rfl rfl ?_
  refine g_istore 10 (gd rfl) rfl (Nat.le_of_ble_eq_true rfl) ?_
  exact gg_w (by first | exact Nat.le_of_ble_eq_true rfl | omega) (gg_f (gf_cons rfl (gf_cons rfl (gf_cons rfl (gf_cons rfl gf_nil)))) (ct10 161 s2 (Int64.ofInt 0) (Int32.ofInt 0) hI2 (fr_tr rfl fr_rf hF2) (in_w 0 160 (in_c 0 rfl) rfl) (m_in 161 (in_w 0 160 (in_c 0 rfl) rfl) rfl)))

def fm_112_86_32 : FM := ([39, 40, 41, 42, 43, 44, 45, 89, 90, 91, 92, 93], [], [(32, 4), (86, 4), (86, 5)], [])
/-- GraphHouse$Groups.totalGain -/
theorem k_112_86_32 {Z : AmZ} {A : Nat → Nat} {s : GS} {ex : va_W} {d : Nat} {X : AmX}  (hd : 7 ≤ d) (hI : Inv s)  : GC Z d 112 [.ref (A 86), .ref (A 32)] (WW Z A s ++ ex) 0 0 (fun v u => ∃ t : GS, Inv t ∧ Fr fm_112_86_32 s t ∧ ∃ z : Int64, v = some (.long z) ∧ u = WW Z A t ++ ex) X := by
  intro post xp hP hX
  obtain ⟨u_32_1, e_32_1⟩ : ∃ w, w = s.2.2.1 32 1 := ⟨_, rfl⟩
  have ro_32_1 := inv_F hI 0 32 rfl e_32_1
  obtain ⟨u_32_3, e_32_3⟩ : ∃ w, w = s.2.2.1 32 3 := ⟨_, rfl⟩
  have ro_32_3 := inv_F hI 0 160 rfl e_32_3
  have ct76 : ∀ (k76 : Nat) (sc76 : GS) (y76_2 : Int64) (y76_4 : Int32), Inv sc76 → Fr fm_112_86_32 s sc76 → (In y76_4 0 32) → 32 - (y76_4).toInt < (k76 : Int) → GG Z (d - 1) 112 post (gx xp) (1 + k76 * 900) 76 (fun j => xlook j [(0, .ref (A 86)), (1, .ref (A 32)), (2, .long y76_2), (4, .int y76_4)]) [] (WW Z A sc76 ++ ex) 0 0 := by
    intro k76
    induction k76 with
    | zero => intro sc76 y76_2 y76_4 hIc76 hFc76 j76_4 mm76; exact m_no mm76 j76_4 rfl
    | succ k76 ih76 =>
      intro sc76 y76_2 y76_4 hIc76 hFc76 j76_4 mm76
      refine gg_w (M := 1 + k76 * 900 + 900) gws ?_
      refine g_iload 78 (gd rfl) rfl rfl ?_
      refine g_aload_n 79 (gd rfl) rfl rfl ?_
      refine g_getI 82 (gd rfl) rfl rfl rfl (fun z79 e79 => ?_)
      have q79 : u_32_1 = z79 := (fr_F e_32_1 hFc76 rfl).trans e79.symm
      subst q79
      refine g_cmp_ge 85 124 (gd rfl) rfl rfl (fun c82 => ?_) (fun c82 => ?_)
      · skip
        refine g_lload_n 125 (gd rfl) rfl rfl ?_
        exact g_lreturn (gd rfl) rfl (hP _ _ ⟨sc76, hIc76, hFc76, y76_2, rfl, rfl⟩)
      · skip
        have i82 := r_lt1 0 31 c82 j76_4 ro_32_1 rfl
        have i82a := r_lt2 1 32 c82 j76_4 ro_32_1 rfl
        refine g_lload_n 86 (gd rfl) rfl rfl ?_
        refine g_aload_n 87 (gd rfl) rfl rfl ?_
        refine g_getA (q2 := 91) 90 (gd rfl) rfl rfl rfl rfl ?_
        refine g_iload 92 (gd rfl) rfl rfl ?_
        refine g_iaload 93 (gd rfl) rfl (n := 32) rfl (in_ix i82 rfl) (fun z92 e92 => ?_)
        refine g_i2l 94 (gd rfl) rfl (fun z93 e93 => ?_)
        have i93 := l_i e93 (i_rng z92)
        refine g_aload_n 95 (gd rfl) rfl rfl ?_
        refine g_getA (q2 := 92) 98 (gd rfl) rfl rfl rfl rfl ?_
        refine g_aload_n 99 (gd rfl) rfl rfl ?_
        refine g_getA (q2 := 89) 102 (gd rfl) rfl rfl rfl rfl ?_
        refine g_iload 104 (gd rfl) rfl rfl ?_
        refine g_iaload 105 (gd rfl) rfl (n := 32) rfl (in_ix i82 rfl) (fun z104 e104 => ?_)
        have i104 := inv_I hIc76 (n := 32) (t := 0) 0 31 rfl (in_ix i82 rfl) rfl e104
        refine g_iaload 106 (gd rfl) rfl (n := 32) rfl (in_ix i104 rfl) (fun z105 e105 => ?_)
        refine g_aload_n 107 (gd rfl) rfl rfl ?_
        refine g_getA (q2 := 91) 110 (gd rfl) rfl rfl rfl rfl ?_
        refine g_iload 112 (gd rfl) rfl rfl ?_
        refine g_iaload 113 (gd rfl) rfl (n := 32) rfl (in_ix i82 rfl) (fun z112 e112 => ?_)
        have q112 : z92 = z112 := (e92).trans e112.symm
        subst q112
        refine g_isub 114 (gd rfl) rfl (fun z113 e113 => ?_)
        refine g_i2l 115 (gd rfl) rfl (fun z114 e114 => ?_)
        have i114 := l_i e114 (i_rng z113)
        refine g_lmul 116 (gd rfl) rfl (fun z115 e115 => ?_)
        refine g_lsub 117 (gd rfl) rfl (fun z116 e116 => ?_)
        refine g_lstore_n 118 (gd rfl) rfl (Nat.le_of_ble_eq_true rfl) ?_
        refine g_iinc 121 (gd rfl) rfl rfl (Nat.le_of_ble_eq_true rfl) (fun z118 e118 => ?_)
        have i118 := in_add 1 32 e118 i82 (in_c 1 rfl) rfl rfl
        refine g_goto 76 (gd rfl) rfl ?_
        exact gg_w (by first | exact Nat.le_add_right _ _ | exact gw2 | exact gw3 | exact gwe rfl | exact gwf rfl | exact gwg rfl | exact gwh rfl | omega) (gg_f (gf_cons rfl (gf_cons rfl (gf_cons rfl (gf_cons rfl gf_nil)))) (ih76 sc76 z116 z118 hIc76 hFc76 (in_w 0 32 i118 rfl) (m_up mm76 (t_add e118 i82 (in_c 1 rfl) rfl) (in_w 1 1 (in_c 1 rfl) rfl))))
  have ct10 : ∀ (k10 : Nat) (sc10 : GS) (y10_2 : Int64) (y10_4 : Int32), Inv sc10 → Fr fm_112_86_32 s sc10 → (In y10_4 0 160) → 160 - (y10_4).toInt < (k10 : Int) → GG Z (d - 1) 112 post (gx xp) (29702 + k10 * 900) 10 (fun j => xlook j [(0, .ref (A 86)), (1, .ref (A 32)), (2, .long y10_2), (4, .int y10_4)]) [] (WW Z A sc10 ++ ex) 0 0 := by
    intro k10
    induction k10 with
    | zero => intro sc10 y10_2 y10_4 hIc10 hFc10 j10_4 mm10; exact m_no mm10 j10_4 rfl
    | succ k10 ih10 =>
      intro sc10 y10_2 y10_4 hIc10 hFc10 j10_4 mm10
      refine gg_w (M := 29702 + k10 * 900 + 900) gws ?_
      refine g_iload 12 (gd rfl) rfl rfl ?_
      refine g_aload_n 13 (gd rfl) rfl rfl ?_
      refine g_getI 16 (gd rfl) rfl rfl rfl (fun z13 e13 => ?_)
      have q13 : u_32_3 = z13 := (fr_F e_32_3 hFc10 rfl).trans e13.symm
      subst q13
      refine g_cmp_ge 19 73 (gd rfl) rfl rfl (fun c16 => ?_) (fun c16 => ?_)
      · skip
        refine g_iconst 0 74 (gd rfl) rfl rfl ?_
        refine g_istore 76 (gd rfl) rfl (Nat.le_of_ble_eq_true rfl) ?_
        exact gg_w (by first | exact Nat.le_add_right _ _ | exact gw2 | exact gw3 | exact gwe rfl | exact gwf rfl | exact gwg rfl | exact gwh rfl | omega) (gg_f (gf_cons rfl (gf_cons rfl (gf_cons rfl (gf_cons rfl gf_nil)))) (ct76 33 sc10 y10_2 (Int32.ofInt 0) hIc10 hFc10 (in_w 0 32 (in_c 0 rfl) rfl) (m_in 33 (in_w 0 32 (in_c 0 rfl) rfl) rfl)))
      · skip
        have i16 := r_lt1 0 159 c16 j10_4 ro_32_3 rfl
        have i16a := r_lt2 1 160 c16 j10_4 ro_32_3 rfl
        refine g_aload_n 20 (gd rfl) rfl rfl ?_
        refine g_iload 22 (gd rfl) rfl rfl ?_
        refine g_callv (X := _) (As := [.int y10_4]) (r := []) (b := A 32) (q := 32) 25 (gd rfl) rfl rfl rfl rfl rfl (ww_o rfl) (Nat.le_of_ble_eq_true rfl) (mc := 0) (ms := 0) (Nat.zero_le _) (Nat.zero_le _) (P := fun v u => _) ?_ (fun e u h => h) (fun v u h => h)
        intro po22 xx22 hp22 hx22
        refine g_enter2 (k := 97) (N := 300) (by first | exact dq1 hd rfl | exact dq0 hd rfl | exact dq2 hd rfl | exact dq3 hd rfl | omega) rfl (Nat.le_of_ble_eq_true rfl) ?_
        refine g_aload_n 1 (gd rfl) rfl rfl ?_
        refine g_getA (q2 := 34) 4 (gd rfl) rfl rfl rfl rfl ?_
        refine g_iload_n 5 (gd rfl) rfl rfl ?_
        refine g_iaload 6 (gd rfl) rfl (n := 160) rfl (in_ix i16 rfl) (fun z22x5 e22x5 => ?_)
        have i22x5 := inv_I hIc10 (n := 160) (t := 0) (-1) 31 rfl (in_ix i16 rfl) rfl e22x5
        refine g_iconst (-1) 7 (gd rfl) rfl rfl ?_
        refine g_cmp_eq 10 29 (gd rfl) rfl rfl (fun c22x7 => ?_) (fun c22x7 => ?_)
        · skip
          have i22x7 := r_eq1 (-1) (-1) c22x7 i22x5 (in_c (-1) rfl) rfl
          refine g_iconst 0 30 (gd rfl) rfl rfl ?_
          refine g_ireturn (gd rfl) rfl (nb01 (in_w 0 1 (in_c 0 rfl) rfl)) (hp22 _ _ ?_)
          show GG _ _ _ _ _ _ _ _ [.int (Int32.ofInt 0)] _ _ _
          refine g_if_eq 28 67 (gd rfl) rfl rfl (fun c25 => ?_) (fun c25 => ?_)
          · skip
            refine g_iinc 70 (gd rfl) rfl rfl (Nat.le_of_ble_eq_true rfl) (fun z67 e67 => ?_)
            have i67 := in_add 1 160 e67 i16 (in_c 1 rfl) rfl rfl
            refine g_goto 10 (gd rfl) rfl ?_
            exact gg_w (by first | exact Nat.le_add_right _ _ | exact gw2 | exact gw3 | exact gwe rfl | exact gwf rfl | exact gwg rfl | exact gwh rfl | omega) (gg_f (gf_cons rfl (gf_cons rfl (gf_cons rfl (gf_cons rfl gf_nil)))) (ih10 sc10 y10_2 z67 hIc10 hFc10 (in_w 0 160 i67 rfl) (m_up mm10 (t_add e67 i16 (in_c 1 rfl) rfl) (in_w 1 1 (in_c 1 rfl) rfl))))
          · skip
            exact zn_ne c25 (in_c 0 rfl) rfl
        · skip
          have i22x7 := r_ne1 0 31 c22x7 i22x5 (in_c (-1) rfl) rfl
          refine g_aload_n 11 (gd rfl) rfl rfl ?_
          refine g_getA (q2 := 34) 14 (gd rfl) rfl rfl rfl rfl ?_
          refine g_iload_n 15 (gd rfl) rfl rfl ?_
          refine g_iaload 16 (gd rfl) rfl (n := 160) rfl (in_ix i16 rfl) (fun z22x15 e22x15 => ?_)
          have q22x15 : z22x5 = z22x15 := (e22x5).trans e22x15.symm
          subst q22x15
          refine g_aload_n 17 (gd rfl) rfl rfl ?_
          refine g_getA (q2 := 35) 20 (gd rfl) rfl rfl rfl rfl ?_
          refine g_iload_n 21 (gd rfl) rfl rfl ?_
          refine g_iaload 22 (gd rfl) rfl (n := 160) rfl (in_ix i16 rfl) (fun z22x21 e22x21 => ?_)
          have i22x21 := inv_I hIc10 (n := 160) (t := 0) 0 31 rfl (in_ix i16 rfl) rfl e22x21
          refine g_cmp_eq 25 29 (gd rfl) rfl rfl (fun c22x22 => ?_) (fun c22x22 => ?_)
          · skip
            refine g_iconst 0 30 (gd rfl) rfl rfl ?_
            refine g_ireturn (gd rfl) rfl (nb01 (in_w 0 1 (in_c 0 rfl) rfl)) (hp22 _ _ ?_)
            show GG _ _ _ _ _ _ _ _ [.int (Int32.ofInt 0)] _ _ _
            refine g_if_eq 28 67 (gd rfl) rfl rfl (fun c25 => ?_) (fun c25 => ?_)
            · skip
              refine g_iinc 70 (gd rfl) rfl rfl (Nat.le_of_ble_eq_true rfl) (fun z67 e67 => ?_)
              have i67 := in_add 1 160 e67 i16 (in_c 1 rfl) rfl rfl
              refine g_goto 10 (gd rfl) rfl ?_
              exact gg_w (by first | exact Nat.le_add_right _ _ | exact gw2 | exact gw3 | exact gwe rfl | exact gwf rfl | exact gwg rfl | exact gwh rfl | omega) (gg_f (gf_cons rfl (gf_cons rfl (gf_cons rfl (gf_cons rfl gf_nil)))) (ih10 sc10 y10_2 z67 hIc10 hFc10 (in_w 0 160 i67 rfl) (m_up mm10 (t_add e67 i16 (in_c 1 rfl) rfl) (in_w 1 1 (in_c 1 rfl) rfl))))
            · skip
              exact zn_ne c25 (in_c 0 rfl) rfl
          · skip
            refine g_iconst 1 26 (gd rfl) rfl rfl ?_
            refine g_goto 30 (gd rfl) rfl ?_
            refine g_ireturn (gd rfl) rfl (nb01 (in_w 0 1 (in_c 1 rfl) rfl)) (hp22 _ _ ?_)
            show GG _ _ _ _ _ _ _ _ [.int (Int32.ofInt 1)] _ _ _
            refine g_if_eq 28 67 (gd rfl) rfl rfl (fun c25 => ?_) (fun c25 => ?_)
            · skip
              exact zn_eq c25 (in_c 1 rfl) rfl
            · skip
              refine g_aload_n 29 (gd rfl) rfl rfl ?_
              refine g_getA (q2 := 89) 32 (gd rfl) rfl rfl rfl rfl ?_
              refine g_aload_n 33 (gd rfl) rfl rfl ?_
              refine g_getA (q2 := 34) 36 (gd rfl) rfl rfl rfl rfl ?_
              refine g_iload 38 (gd rfl) rfl rfl ?_
              refine g_iaload 39 (gd rfl) rfl (n := 160) rfl (in_ix i16 rfl) (fun z38 e38 => ?_)
              have q38 : z22x5 = z38 := (e22x5).trans e38.symm
              subst q38
              refine g_iaload 40 (gd rfl) rfl (n := 32) rfl (in_ix i22x7 rfl) (fun z39 e39 => ?_)
              have i39 := inv_I hIc10 (n := 32) (t := 0) 0 31 rfl (in_ix i22x7 rfl) rfl e39
              refine g_aload_n 41 (gd rfl) rfl rfl ?_
              refine g_getA (q2 := 89) 44 (gd rfl) rfl rfl rfl rfl ?_
              refine g_aload_n 45 (gd rfl) rfl rfl ?_
              refine g_getA (q2 := 35) 48 (gd rfl) rfl rfl rfl rfl ?_
              refine g_iload 50 (gd rfl) rfl rfl ?_
              refine g_iaload 51 (gd rfl) rfl (n := 160) rfl (in_ix i16 rfl) (fun z50 e50 => ?_)
              have q50 : z22x21 = z50 := (e22x21).trans e50.symm
              subst q50
              refine g_iaload 52 (gd rfl) rfl (n := 32) rfl (in_ix i22x21 rfl) (fun z51 e51 => ?_)
              have i51 := inv_I hIc10 (n := 32) (t := 0) 0 31 rfl (in_ix i22x21 rfl) rfl e51
              refine g_cmp_ne 55 67 (gd rfl) rfl rfl (fun c52 => ?_) (fun c52 => ?_)
              · skip
                refine g_iinc 70 (gd rfl) rfl rfl (Nat.le_of_ble_eq_true rfl) (fun z67 e67 => ?_)
                have i67 := in_add 1 160 e67 i16 (in_c 1 rfl) rfl rfl
                refine g_goto 10 (gd rfl) rfl ?_
                exact gg_w (by first | exact Nat.le_add_right _ _ | exact gw2 | exact gw3 | exact gwe rfl | exact gwf rfl | exact gwg rfl | exact gwh rfl | omega) (gg_f (gf_cons rfl (gf_cons rfl (gf_cons rfl (gf_cons rfl gf_nil)))) (ih10 sc10 y10_2 z67 hIc10 hFc10 (in_w 0 160 i67 rfl) (m_up mm10 (t_add e67 i16 (in_c 1 rfl) rfl) (in_w 1 1 (in_c 1 rfl) rfl))))
              · skip
                refine g_lload_n 56 (gd rfl) rfl rfl ?_
                refine g_ldc2_w 4 59 (gd rfl) rfl rfl ?_
                refine g_aload_n 60 (gd rfl) rfl rfl ?_
                refine g_getI 63 (gd rfl) rfl rfl rfl (fun z60 e60 => ?_)
                have i60 := inv_F hIc10 0 160 rfl e60
                refine g_i2l 64 (gd rfl) rfl (fun z63 e63 => ?_)
                have i63 := l_i e63 i60
                refine g_lmul 65 (gd rfl) rfl (fun z64 e64 => ?_)
                have i64 := l_mulc 4 0 640 (Or.inl e64) i63 rfl
                refine g_ladd 66 (gd rfl) rfl (fun z65 e65 => ?_)
                refine g_lstore_n 67 (gd rfl) rfl (Nat.le_of_ble_eq_true rfl) ?_
                refine g_iinc 70 (gd rfl) rfl rfl (Nat.le_of_ble_eq_true rfl) (fun z67 e67 => ?_)
                have i67 := in_add 1 160 e67 i16 (in_c 1 rfl) rfl rfl
                refine g_goto 10 (gd rfl) rfl ?_
                exact gg_w (by first | exact Nat.le_add_right _ _ | exact gw2 | exact gw3 | exact gwe rfl | exact gwf rfl | exact gwg rfl | exact gwh rfl | omega) (gg_f (gf_cons rfl (gf_cons rfl (gf_cons rfl (gf_cons rfl gf_nil)))) (ih10 sc10 z65 z67 hIc10 hFc10 (in_w 0 160 i67 rfl) (m_up mm10 (t_add e67 i16 (in_c 1 rfl) rfl) (in_w 1 1 (in_c 1 rfl) rfl))))
  refine g_enter2 (k := 112) (N := 175502) (by first | exact dq1 hd rfl | exact dq0 hd rfl | exact dq2 hd rfl | exact dq3 hd rfl | omega) rfl (Nat.le_of_ble_eq_true rfl) ?_
  refine g_aload_n 1 (gd rfl) rfl rfl ?_
  refine g_aload_n 2 (gd rfl) rfl rfl ?_
  refine g_callv (X := _) (As := [.ref (A 32)]) (r := []) (b := A 86) (q := 86) 5 (gd rfl) rfl rfl rfl rfl rfl (ww_o rfl) (Nat.le_of_ble_eq_true rfl) (Nat.zero_le _) (Nat.zero_le _) (k_113_86_32 (by first | exact dq1 hd rfl | exact dq0 hd rfl | exact dq2 hd rfl | exact dq3 hd rfl | omega) hI ) (fun e u h => h) (fun v u h => ?_)
  obtain ⟨s2, hI2, hF2, rfl, rfl⟩ := h
  show GG _ _ _ _ _ _ _ _ [] _ _ _
  refine g_lconst 0 6 (gd rfl) rfl rfl ?_
  refine g_lstore_n 7 (gd rfl) rfl (Nat.le_of_ble_eq_true rfl) ?_
  refine g_iconst 0 8 (gd rfl) rfl rfl ?_
  refine g_istore 10 (gd rfl) rfl (Nat.le_of_ble_eq_true rfl) ?_
  exact gg_w (by first | exact Nat.le_of_ble_eq_true rfl | omega) (gg_f (gf_cons rfl (gf_cons rfl (gf_cons rfl (gf_cons rfl gf_nil)))) (ct10 161 s2 (Int64.ofInt 0) (Int32.ofInt 0) hI2 (fr_tr rfl fr_rf hF2) (in_w 0 160 (in_c 0 rfl) rfl) (m_in 161 (in_w 0 160 (in_c 0 rfl) rfl) rfl)))

def fm_206_49_2 : FM := ([9, 10, 11, 12, 13, 14, 15], [55], [(2, 4), (49, 8), (49, 9), (49, 10), (49, 11)], [])
/-- GraphHouse$Ways.arcOfShort -/
theorem k_206_49_2 {Z : AmZ} {A : Nat → Nat} {s : GS} {ex : va_W} {d : Nat} {X : AmX} {x2 : Int32} {x3 : Int32} {x4 : Int32} {x5 : Int32} (hd : 23 ≤ d) (hI : Inv s) (h2 : In x2 0 31) (h3 : In x3 0 31) (h4 : In x4 0 2147483647) (h5 : In x5 0 2147483647) : GC Z d 206 [.ref (A 49), .ref (A 2), .int x2, .int x3, .int x4, .int x5] (WW Z A s ++ ex) 0 0 (fun v u => ∃ t : GS, Inv t ∧ Fr fm_206_49_2 s t ∧ ∃ z : Int32, v = some (.int z) ∧ u = WW Z A t ++ ex ∧ In z (-2147483648) 2147483647) X := by
  intro post xp hP hX
  refine g_enter2 (k := 206) (N := 900) (by first | exact dq1 hd rfl | exact dq0 hd rfl | exact dq2 hd rfl | exact dq3 hd rfl | omega) rfl (Nat.le_of_ble_eq_true rfl) ?_
  refine g_aload_n 1 (gd rfl) rfl rfl ?_
  refine g_aload_n 2 (gd rfl) rfl rfl ?_
  refine g_iload_n 3 (gd rfl) rfl rfl ?_
  refine g_iload_n 4 (gd rfl) rfl rfl ?_
  refine g_callv (X := _) (As := [.ref (A 2), .int x2, .int x3]) (r := []) (b := A 49) (q := 49) 7 (gd rfl) rfl rfl rfl rfl rfl (ww_o rfl) (Nat.le_of_ble_eq_true rfl) (Nat.zero_le _) (Nat.zero_le _) (k_207_49_2 (by first | exact dq1 hd rfl | exact dq0 hd rfl | exact dq2 hd rfl | exact dq3 hd rfl | omega) hI (in_w 0 31 h2 rfl) (in_w 0 31 h3 rfl)) (fun e u h => h) (fun v u h => ?_)
  obtain ⟨s4, hI4, hF4, rfl, rfl⟩ := h
  show GG _ _ _ _ _ _ _ _ [] _ _ _
  refine g_aload_n 8 (gd rfl) rfl rfl ?_
  refine g_getI 11 (gd rfl) rfl rfl rfl (fun z8 e8 => ?_)
  have i8 := inv_F hI4 0 2001 rfl e8
  refine g_sipush 2000 14 (gd rfl) rfl rfl ?_
  refine g_cmp_gt 17 26 (gd rfl) rfl rfl (fun c14 => ?_) (fun c14 => ?_)
  · skip
    have i14 := r_lt2 2001 2001 c14 (in_c 2000 rfl) i8 rfl
    refine g_iconst (-1) 27 (gd rfl) rfl rfl ?_
    exact g_ireturn (gd rfl) rfl rfl (hP _ _ ⟨s4, hI4, (fr_tr rfl fr_rf hF4), (Int32.ofInt (-1)), rfl, rfl, in_w (-2147483648) 2147483647 (in_c (-1) rfl) rfl⟩)
  · skip
    have i14 := r_le1 0 2000 c14 i8 (in_c 2000 rfl) rfl
    refine g_iload 19 (gd rfl) rfl rfl ?_
    refine g_aload_n 20 (gd rfl) rfl rfl ?_
    refine g_getI 23 (gd rfl) rfl rfl rfl (fun z20 e20 => ?_)
    have q20 : z8 = z20 := (e8).trans e20.symm
    subst q20
    refine g_cmp_lt 26 28 (gd rfl) rfl rfl (fun c23 => ?_) (fun c23 => ?_)
    · skip
      have i23 := r_lt1 0 1999 c23 h4 i14 rfl
      have i23a := r_lt2 1 2000 c23 h4 i14 rfl
      refine g_aload_n 29 (gd rfl) rfl rfl ?_
      refine g_getA (q2 := 55) 32 (gd rfl) rfl rfl rfl rfl ?_
      refine g_iload 34 (gd rfl) rfl rfl ?_
      refine g_laload 35 (gd rfl) rfl (n := 2001) rfl (in_ix i23 rfl) (fun z34 e34 => ?_)
      refine g_lstore 37 (gd rfl) rfl (Nat.le_of_ble_eq_true rfl) ?_
      refine g_iload 39 (gd rfl) rfl rfl ?_
      refine g_lload 41 (gd rfl) rfl rfl ?_
      refine g_bipush 32 43 (gd rfl) rfl rfl ?_
      refine g_lshr 44 (gd rfl) rfl (fun z43 e43 => ?_)
      refine g_ldc2_w 7 47 (gd rfl) rfl rfl ?_
      refine g_land 48 (gd rfl) rfl (fun z47 e47 => ?_)
      have i47 := inl_and2 e47 (l_c 7 rfl) rfl
      refine g_l2i 49 (gd rfl) rfl (fun z48 e48 => ?_)
      refine g_cmp_lt 52 54 (gd rfl) rfl rfl (fun c49 => ?_) (fun c49 => ?_)
      · skip
        have i49 := r_lt1 0 2147483646 c49 h5 (i_rng z48) rfl
        have i49a := r_lt2 1 2147483647 c49 h5 (i_rng z48) rfl
        refine g_lload 56 (gd rfl) rfl rfl ?_
        refine g_bipush 24 58 (gd rfl) rfl rfl ?_
        refine g_bipush 8 60 (gd rfl) rfl rfl ?_
        refine g_iload 62 (gd rfl) rfl rfl ?_
        refine g_imul 63 (gd rfl) rfl (fun z62 e62 => ?_)
        refine g_isub 64 (gd rfl) rfl (fun z63 e63 => ?_)
        refine g_lshr 65 (gd rfl) rfl (fun z64 e64 => ?_)
        refine g_ldc2_w 255 68 (gd rfl) rfl rfl ?_
        refine g_land 69 (gd rfl) rfl (fun z68 e68 => ?_)
        have i68 := inl_and2 e68 (l_c 255 rfl) rfl
        refine g_l2i 70 (gd rfl) rfl (fun z69 e69 => ?_)
        exact g_ireturn (gd rfl) rfl rfl (hP _ _ ⟨s4, hI4, (fr_tr rfl fr_rf hF4), z69, rfl, rfl, in_w (-2147483648) 2147483647 (i_rng z69) rfl⟩)
      · skip
        refine g_iconst (-1) 53 (gd rfl) rfl rfl ?_
        exact g_ireturn (gd rfl) rfl rfl (hP _ _ ⟨s4, hI4, (fr_tr rfl fr_rf hF4), (Int32.ofInt (-1)), rfl, rfl, in_w (-2147483648) 2147483647 (in_c (-1) rfl) rfl⟩)
    · skip
      refine g_iconst (-1) 27 (gd rfl) rfl rfl ?_
      exact g_ireturn (gd rfl) rfl rfl (hP _ _ ⟨s4, hI4, (fr_tr rfl fr_rf hF4), (Int32.ofInt (-1)), rfl, rfl, in_w (-2147483648) 2147483647 (in_c (-1) rfl) rfl⟩)

def fm_206_49_32 : FM := ([39, 40, 41, 42, 43, 44, 45], [55], [(32, 4), (49, 8), (49, 9), (49, 10), (49, 11)], [])
/-- GraphHouse$Ways.arcOfShort -/
theorem k_206_49_32 {Z : AmZ} {A : Nat → Nat} {s : GS} {ex : va_W} {d : Nat} {X : AmX} {x2 : Int32} {x3 : Int32} {x4 : Int32} {x5 : Int32} (hd : 23 ≤ d) (hI : Inv s) (h2 : In x2 0 31) (h3 : In x3 0 31) (h4 : In x4 0 2147483647) (h5 : In x5 0 2147483647) : GC Z d 206 [.ref (A 49), .ref (A 32), .int x2, .int x3, .int x4, .int x5] (WW Z A s ++ ex) 0 0 (fun v u => ∃ t : GS, Inv t ∧ Fr fm_206_49_32 s t ∧ ∃ z : Int32, v = some (.int z) ∧ u = WW Z A t ++ ex ∧ In z (-2147483648) 2147483647) X := by
  intro post xp hP hX
  refine g_enter2 (k := 206) (N := 900) (by first | exact dq1 hd rfl | exact dq0 hd rfl | exact dq2 hd rfl | exact dq3 hd rfl | omega) rfl (Nat.le_of_ble_eq_true rfl) ?_
  refine g_aload_n 1 (gd rfl) rfl rfl ?_
  refine g_aload_n 2 (gd rfl) rfl rfl ?_
  refine g_iload_n 3 (gd rfl) rfl rfl ?_
  refine g_iload_n 4 (gd rfl) rfl rfl ?_
  refine g_callv (X := _) (As := [.ref (A 32), .int x2, .int x3]) (r := []) (b := A 49) (q := 49) 7 (gd rfl) rfl rfl rfl rfl rfl (ww_o rfl) (Nat.le_of_ble_eq_true rfl) (Nat.zero_le _) (Nat.zero_le _) (k_207_49_32 (by first | exact dq1 hd rfl | exact dq0 hd rfl | exact dq2 hd rfl | exact dq3 hd rfl | omega) hI (in_w 0 31 h2 rfl) (in_w 0 31 h3 rfl)) (fun e u h => h) (fun v u h => ?_)
  obtain ⟨s4, hI4, hF4, rfl, rfl⟩ := h
  show GG _ _ _ _ _ _ _ _ [] _ _ _
  refine g_aload_n 8 (gd rfl) rfl rfl ?_
  refine g_getI 11 (gd rfl) rfl rfl rfl (fun z8 e8 => ?_)
  have i8 := inv_F hI4 0 2001 rfl e8
  refine g_sipush 2000 14 (gd rfl) rfl rfl ?_
  refine g_cmp_gt 17 26 (gd rfl) rfl rfl (fun c14 => ?_) (fun c14 => ?_)
  · skip
    have i14 := r_lt2 2001 2001 c14 (in_c 2000 rfl) i8 rfl
    refine g_iconst (-1) 27 (gd rfl) rfl rfl ?_
    exact g_ireturn (gd rfl) rfl rfl (hP _ _ ⟨s4, hI4, (fr_tr rfl fr_rf hF4), (Int32.ofInt (-1)), rfl, rfl, in_w (-2147483648) 2147483647 (in_c (-1) rfl) rfl⟩)
  · skip
    have i14 := r_le1 0 2000 c14 i8 (in_c 2000 rfl) rfl
    refine g_iload 19 (gd rfl) rfl rfl ?_
    refine g_aload_n 20 (gd rfl) rfl rfl ?_
    refine g_getI 23 (gd rfl) rfl rfl rfl (fun z20 e20 => ?_)
    have q20 : z8 = z20 := (e8).trans e20.symm
    subst q20
    refine g_cmp_lt 26 28 (gd rfl) rfl rfl (fun c23 => ?_) (fun c23 => ?_)
    · skip
      have i23 := r_lt1 0 1999 c23 h4 i14 rfl
      have i23a := r_lt2 1 2000 c23 h4 i14 rfl
      refine g_aload_n 29 (gd rfl) rfl rfl ?_
      refine g_getA (q2 := 55) 32 (gd rfl) rfl rfl rfl rfl ?_
      refine g_iload 34 (gd rfl) rfl rfl ?_
      refine g_laload 35 (gd rfl) rfl (n := 2001) rfl (in_ix i23 rfl) (fun z34 e34 => ?_)
      refine g_lstore 37 (gd rfl) rfl (Nat.le_of_ble_eq_true rfl) ?_
      refine g_iload 39 (gd rfl) rfl rfl ?_
      refine g_lload 41 (gd rfl) rfl rfl ?_
      refine g_bipush 32 43 (gd rfl) rfl rfl ?_
      refine g_lshr 44 (gd rfl) rfl (fun z43 e43 => ?_)
      refine g_ldc2_w 7 47 (gd rfl) rfl rfl ?_
      refine g_land 48 (gd rfl) rfl (fun z47 e47 => ?_)
      have i47 := inl_and2 e47 (l_c 7 rfl) rfl
      refine g_l2i 49 (gd rfl) rfl (fun z48 e48 => ?_)
      refine g_cmp_lt 52 54 (gd rfl) rfl rfl (fun c49 => ?_) (fun c49 => ?_)
      · skip
        have i49 := r_lt1 0 2147483646 c49 h5 (i_rng z48) rfl
        have i49a := r_lt2 1 2147483647 c49 h5 (i_rng z48) rfl
        refine g_lload 56 (gd rfl) rfl rfl ?_
        refine g_bipush 24 58 (gd rfl) rfl rfl ?_
        refine g_bipush 8 60 (gd rfl) rfl rfl ?_
        refine g_iload 62 (gd rfl) rfl rfl ?_
        refine g_imul 63 (gd rfl) rfl (fun z62 e62 => ?_)
        refine g_isub 64 (gd rfl) rfl (fun z63 e63 => ?_)
        refine g_lshr 65 (gd rfl) rfl (fun z64 e64 => ?_)
        refine g_ldc2_w 255 68 (gd rfl) rfl rfl ?_
        refine g_land 69 (gd rfl) rfl (fun z68 e68 => ?_)
        have i68 := inl_and2 e68 (l_c 255 rfl) rfl
        refine g_l2i 70 (gd rfl) rfl (fun z69 e69 => ?_)
        exact g_ireturn (gd rfl) rfl rfl (hP _ _ ⟨s4, hI4, (fr_tr rfl fr_rf hF4), z69, rfl, rfl, in_w (-2147483648) 2147483647 (i_rng z69) rfl⟩)
      · skip
        refine g_iconst (-1) 53 (gd rfl) rfl rfl ?_
        exact g_ireturn (gd rfl) rfl rfl (hP _ _ ⟨s4, hI4, (fr_tr rfl fr_rf hF4), (Int32.ofInt (-1)), rfl, rfl, in_w (-2147483648) 2147483647 (in_c (-1) rfl) rfl⟩)
    · skip
      refine g_iconst (-1) 27 (gd rfl) rfl rfl ?_
      exact g_ireturn (gd rfl) rfl rfl (hP _ _ ⟨s4, hI4, (fr_tr rfl fr_rf hF4), (Int32.ofInt (-1)), rfl, rfl, in_w (-2147483648) 2147483647 (in_c (-1) rfl) rfl⟩)

def fm_233_0 : FM := ([9, 10, 11, 12, 13, 14, 15, 39, 40, 41, 42, 43, 44, 45], [55], [(2, 4), (32, 4), (49, 8), (49, 9), (49, 10), (49, 11)], [])
/-- GraphHouse.shortArc -/
theorem k_233_0 {Z : AmZ} {A : Nat → Nat} {s : GS} {ex : va_W} {d : Nat} {x1 : Int32} {x2 : Int32} {x3 : Int32} {x4 : Int32} (hd : 24 ≤ d) (hI : Inv s)  : GC Z d 233 [.ref (A 0), .int x1, .int x2, .int x3, .int x4] (WW Z A s ++ ex) 3 18 (fun v u => ∃ t : GS, Inv t ∧ Fr fm_233_0 s t ∧ ∃ z : Int32, v = some (.int z) ∧ u = WW Z A t ++ ex ∧ In z (-2147483648) 2147483647) (gE1 Z A ex fm_233_0 s) := by
  intro post xp hP hX
  obtain ⟨u_0_2, e_0_2⟩ : ∃ w, w = s.2.2.1 0 2 := ⟨_, rfl⟩
  have ro_0_2 := inv_F hI (-1) 4000 rfl e_0_2
  obtain ⟨u_2_1, e_2_1⟩ : ∃ w, w = s.2.2.1 2 1 := ⟨_, rfl⟩
  have ro_2_1 := inv_F hI 0 32 rfl e_2_1
  obtain ⟨u_32_1, e_32_1⟩ : ∃ w, w = s.2.2.1 32 1 := ⟨_, rfl⟩
  have ro_32_1 := inv_F hI 0 32 rfl e_32_1
  have ct29 : ∀ (sc29 : GS) , Inv sc29 → Fr fm_233_0 s sc29 → GG Z (d - 1) 233 post (gx xp) (901) 29 (fun j => xlook j [(0, .ref (A 0)), (1, .int x1), (2, .int x2), (3, .int x3), (4, .int x4)]) [] (WW Z A sc29 ++ ex) 3 18 := by
    intro sc29  hIc29 hFc29 
    refine g_iconst 0 30 (gd rfl) rfl rfl ?_
    refine g_thr (E := am_IA) (y := yX11_allow) 33 (gd rfl) rfl rfl (Or.inl ⟨rfl, rfl, rfl⟩) (by first | exact dq1 hd rfl | exact dq0 hd rfl | exact dq2 hd rfl | exact dq3 hd rfl | omega) (Nat.le_of_ble_eq_true rfl) (Nat.le_of_ble_eq_true rfl) (Nat.le_of_ble_eq_true rfl) (fun c30 => ?_) (fun c30 => ?_)
    · skip
      exact zn_ne c30 (in_c 0 rfl) rfl
    · skip
      exact (hX _ _ ⟨rfl, sc29, hIc29, hFc29, rfl⟩)
  refine g_enter2 (k := 233) (N := 1801) (by first | exact dq1 hd rfl | exact dq0 hd rfl | exact dq2 hd rfl | exact dq3 hd rfl | omega) rfl (Nat.le_of_ble_eq_true rfl) ?_
  refine g_aload_n 1 (gd rfl) rfl rfl ?_
  refine g_callv (X := _) (As := []) (r := []) (b := A 0) (q := 0) 4 (gd rfl) rfl rfl rfl rfl rfl (ww_o rfl) (Nat.le_of_ble_eq_true rfl) (mc := 0) (ms := 0) (Nat.zero_le _) (Nat.zero_le _) (P := fun v u => _) ?_ (fun e u h => h) (fun v u h => h)
  intro po1 xx1 hp1 hx1
  refine g_enter2 (k := 259) (N := 300) (by first | exact dq1 hd rfl | exact dq0 hd rfl | exact dq2 hd rfl | exact dq3 hd rfl | omega) rfl (Nat.le_of_ble_eq_true rfl) ?_
  refine g_aload_n 1 (gd rfl) rfl rfl ?_
  refine g_getI 4 (gd rfl) rfl rfl rfl (fun z1x1 e1x1 => ?_)
  have q1x1 : u_0_2 = z1x1 := (e_0_2).trans e1x1.symm
  subst q1x1
  refine g_iconst (-1) 5 (gd rfl) rfl rfl ?_
  refine g_cmp_ne 8 18 (gd rfl) rfl rfl (fun c1x5 => ?_) (fun c1x5 => ?_)
  · skip
    have i1x5 := r_ne1 0 4000 c1x5 ro_0_2 (in_c (-1) rfl) rfl
    refine g_aload_n 19 (gd rfl) rfl rfl ?_
    refine g_getA (q2 := 32) 22 (gd rfl) rfl rfl rfl rfl ?_
    refine g_areturn (gd rfl) rfl (hp1 _ _ ?_)
    show GG _ _ _ _ _ _ _ _ [.ref (A 32)] _ _ _
    refine g_astore 6 (gd rfl) rfl (Nat.le_of_ble_eq_true rfl) ?_
    refine g_aload 8 (gd rfl) rfl rfl ?_
    refine g_iload_n 9 (gd rfl) rfl rfl ?_
    refine g_iload_n 10 (gd rfl) rfl rfl ?_
    refine g_callv (X := _) (As := [.int x1, .int x2]) (r := []) (b := A 32) (q := 32) 13 (gd rfl) rfl rfl rfl rfl rfl (ww_o rfl) (Nat.le_of_ble_eq_true rfl) (mc := 0) (ms := 0) (Nat.zero_le _) (Nat.zero_le _) (P := fun v u => _) ?_ (fun e u h => h) (fun v u h => h)
    intro po10 xx10 hp10 hx10
    refine g_enter2 (k := 95) (N := 300) (by first | exact dq1 hd rfl | exact dq0 hd rfl | exact dq2 hd rfl | exact dq3 hd rfl | omega) rfl (Nat.le_of_ble_eq_true rfl) ?_
    refine g_aload_n 1 (gd rfl) rfl rfl ?_
    refine g_iload_n 2 (gd rfl) rfl rfl ?_
    refine g_callv (X := _) (As := [.int x1]) (r := []) (b := A 32) (q := 32) 5 (gd rfl) rfl rfl rfl rfl rfl (ww_o rfl) (Nat.le_of_ble_eq_true rfl) (mc := 0) (ms := 0) (Nat.zero_le _) (Nat.zero_le _) (P := fun v u => _) ?_ (fun e u h => h) (fun v u h => h)
    intro po10x2 xx10x2 hp10x2 hx10x2
    refine g_enter2 (k := 94) (N := 300) (by first | exact dq1 hd rfl | exact dq0 hd rfl | exact dq2 hd rfl | exact dq3 hd rfl | omega) rfl (Nat.le_of_ble_eq_true rfl) ?_
    refine g_iload_n 1 (gd rfl) rfl rfl ?_
    refine g_if_lt 4 16 (gd rfl) rfl rfl (fun c10x2x1 => ?_) (fun c10x2x1 => ?_)
    · skip
      have i10x2x1 := z_lt (-2147483648) (-1) c10x2x1 (i_rng x1) rfl
      refine g_iconst 0 17 (gd rfl) rfl rfl ?_
      refine g_ireturn (gd rfl) rfl (nb01 (in_w 0 1 (in_c 0 rfl) rfl)) (hp10x2 _ _ ?_)
      show GG _ _ _ _ _ _ _ _ [.int (Int32.ofInt 0)] _ _ _
      refine g_if_eq 8 25 (gd rfl) rfl rfl (fun c10x5 => ?_) (fun c10x5 => ?_)
      · skip
        refine g_iconst 0 26 (gd rfl) rfl rfl ?_
        refine g_ireturn (gd rfl) rfl (nb01 (in_w 0 1 (in_c 0 rfl) rfl)) (hp10 _ _ ?_)
        show GG _ _ _ _ _ _ _ _ [.int (Int32.ofInt 0)] _ _ _
        refine g_if_eq 16 29 (gd rfl) rfl rfl (fun c13 => ?_) (fun c13 => ?_)
        · skip
          exact gg_w (by first | exact Nat.le_of_ble_eq_true rfl | omega) (gg_f (gf_cons rfl (gf_cons rfl (gf_cons rfl (gf_cons rfl (gf_cons rfl gf_nil))))) (ct29 s  hI fr_rf ))
        · skip
          exact zn_ne c13 (in_c 0 rfl) rfl
      · skip
        exact zn_ne c10x5 (in_c 0 rfl) rfl
    · skip
      have i10x2x1 := z_ge 0 2147483647 c10x2x1 (i_rng x1) rfl
      refine g_iload_n 5 (gd rfl) rfl rfl ?_
      refine g_aload_n 6 (gd rfl) rfl rfl ?_
      refine g_getI 9 (gd rfl) rfl rfl rfl (fun z10x2x6 e10x2x6 => ?_)
      have q10x2x6 : u_32_1 = z10x2x6 := (e_32_1).trans e10x2x6.symm
      subst q10x2x6
      refine g_cmp_ge 12 16 (gd rfl) rfl rfl (fun c10x2x9 => ?_) (fun c10x2x9 => ?_)
      · skip
        refine g_iconst 0 17 (gd rfl) rfl rfl ?_
        refine g_ireturn (gd rfl) rfl (nb01 (in_w 0 1 (in_c 0 rfl) rfl)) (hp10x2 _ _ ?_)
        show GG _ _ _ _ _ _ _ _ [.int (Int32.ofInt 0)] _ _ _
        refine g_if_eq 8 25 (gd rfl) rfl rfl (fun c10x5 => ?_) (fun c10x5 => ?_)
        · skip
          refine g_iconst 0 26 (gd rfl) rfl rfl ?_
          refine g_ireturn (gd rfl) rfl (nb01 (in_w 0 1 (in_c 0 rfl) rfl)) (hp10 _ _ ?_)
          show GG _ _ _ _ _ _ _ _ [.int (Int32.ofInt 0)] _ _ _
          refine g_if_eq 16 29 (gd rfl) rfl rfl (fun c13 => ?_) (fun c13 => ?_)
          · skip
            exact gg_w (by first | exact Nat.le_of_ble_eq_true rfl | omega) (gg_f (gf_cons rfl (gf_cons rfl (gf_cons rfl (gf_cons rfl (gf_cons rfl gf_nil))))) (ct29 s  hI fr_rf ))
          · skip
            exact zn_ne c13 (in_c 0 rfl) rfl
        · skip
          exact zn_ne c10x5 (in_c 0 rfl) rfl
      · skip
        have i10x2x9 := r_lt1 0 31 c10x2x9 i10x2x1 ro_32_1 rfl
        have i10x2x9a := r_lt2 1 32 c10x2x9 i10x2x1 ro_32_1 rfl
        refine g_iconst 1 13 (gd rfl) rfl rfl ?_
        refine g_goto 17 (gd rfl) rfl ?_
        refine g_ireturn (gd rfl) rfl (nb01 (in_w 0 1 (in_c 1 rfl) rfl)) (hp10x2 _ _ ?_)
        show GG _ _ _ _ _ _ _ _ [.int (Int32.ofInt 1)] _ _ _
        refine g_if_eq 8 25 (gd rfl) rfl rfl (fun c10x5 => ?_) (fun c10x5 => ?_)
        · skip
          exact zn_eq c10x5 (in_c 1 rfl) rfl
        · skip
          refine g_aload_n 9 (gd rfl) rfl rfl ?_
          refine g_iload_n 10 (gd rfl) rfl rfl ?_
          refine g_callv (X := _) (As := [.int x2]) (r := []) (b := A 32) (q := 32) 13 (gd rfl) rfl rfl rfl rfl rfl (ww_o rfl) (Nat.le_of_ble_eq_true rfl) (mc := 0) (ms := 0) (Nat.zero_le _) (Nat.zero_le _) (P := fun v u => _) ?_ (fun e u h => h) (fun v u h => h)
          intro po10x10 xx10x10 hp10x10 hx10x10
          refine g_enter2 (k := 94) (N := 300) (by first | exact dq1 hd rfl | exact dq0 hd rfl | exact dq2 hd rfl | exact dq3 hd rfl | omega) rfl (Nat.le_of_ble_eq_true rfl) ?_
          refine g_iload_n 1 (gd rfl) rfl rfl ?_
          refine g_if_lt 4 16 (gd rfl) rfl rfl (fun c10x10x1 => ?_) (fun c10x10x1 => ?_)
          · skip
            have i10x10x1 := z_lt (-2147483648) (-1) c10x10x1 (i_rng x2) rfl
            refine g_iconst 0 17 (gd rfl) rfl rfl ?_
            refine g_ireturn (gd rfl) rfl (nb01 (in_w 0 1 (in_c 0 rfl) rfl)) (hp10x10 _ _ ?_)
            show GG _ _ _ _ _ _ _ _ [.int (Int32.ofInt 0)] _ _ _
            refine g_if_eq 16 25 (gd rfl) rfl rfl (fun c10x13 => ?_) (fun c10x13 => ?_)
            · skip
              refine g_iconst 0 26 (gd rfl) rfl rfl ?_
              refine g_ireturn (gd rfl) rfl (nb01 (in_w 0 1 (in_c 0 rfl) rfl)) (hp10 _ _ ?_)
              show GG _ _ _ _ _ _ _ _ [.int (Int32.ofInt 0)] _ _ _
              refine g_if_eq 16 29 (gd rfl) rfl rfl (fun c13 => ?_) (fun c13 => ?_)
              · skip
                exact gg_w (by first | exact Nat.le_of_ble_eq_true rfl | omega) (gg_f (gf_cons rfl (gf_cons rfl (gf_cons rfl (gf_cons rfl (gf_cons rfl gf_nil))))) (ct29 s  hI fr_rf ))
              · skip
                exact zn_ne c13 (in_c 0 rfl) rfl
            · skip
              exact zn_ne c10x13 (in_c 0 rfl) rfl
          · skip
            have i10x10x1 := z_ge 0 2147483647 c10x10x1 (i_rng x2) rfl
            refine g_iload_n 5 (gd rfl) rfl rfl ?_
            refine g_aload_n 6 (gd rfl) rfl rfl ?_
            refine g_getI 9 (gd rfl) rfl rfl rfl (fun z10x10x6 e10x10x6 => ?_)
            have q10x10x6 : u_32_1 = z10x10x6 := (e_32_1).trans e10x10x6.symm
            subst q10x10x6
            refine g_cmp_ge 12 16 (gd rfl) rfl rfl (fun c10x10x9 => ?_) (fun c10x10x9 => ?_)
            · skip
              have i10x10x9 := r_le2 1 2147483647 c10x10x9 i10x2x9a i10x10x1 rfl
              refine g_iconst 0 17 (gd rfl) rfl rfl ?_
              refine g_ireturn (gd rfl) rfl (nb01 (in_w 0 1 (in_c 0 rfl) rfl)) (hp10x10 _ _ ?_)
              show GG _ _ _ _ _ _ _ _ [.int (Int32.ofInt 0)] _ _ _
              refine g_if_eq 16 25 (gd rfl) rfl rfl (fun c10x13 => ?_) (fun c10x13 => ?_)
              · skip
                refine g_iconst 0 26 (gd rfl) rfl rfl ?_
                refine g_ireturn (gd rfl) rfl (nb01 (in_w 0 1 (in_c 0 rfl) rfl)) (hp10 _ _ ?_)
                show GG _ _ _ _ _ _ _ _ [.int (Int32.ofInt 0)] _ _ _
                refine g_if_eq 16 29 (gd rfl) rfl rfl (fun c13 => ?_) (fun c13 => ?_)
                · skip
                  exact gg_w (by first | exact Nat.le_of_ble_eq_true rfl | omega) (gg_f (gf_cons rfl (gf_cons rfl (gf_cons rfl (gf_cons rfl (gf_cons rfl gf_nil))))) (ct29 s  hI fr_rf ))
                · skip
                  exact zn_ne c13 (in_c 0 rfl) rfl
              · skip
                exact zn_ne c10x13 (in_c 0 rfl) rfl
            · skip
              have i10x10x9 := r_lt1 0 31 c10x10x9 i10x10x1 i10x2x9a rfl
              refine g_iconst 1 13 (gd rfl) rfl rfl ?_
              refine g_goto 17 (gd rfl) rfl ?_
              refine g_ireturn (gd rfl) rfl (nb01 (in_w 0 1 (in_c 1 rfl) rfl)) (hp10x10 _ _ ?_)
              show GG _ _ _ _ _ _ _ _ [.int (Int32.ofInt 1)] _ _ _
              refine g_if_eq 16 25 (gd rfl) rfl rfl (fun c10x13 => ?_) (fun c10x13 => ?_)
              · skip
                exact zn_eq c10x13 (in_c 1 rfl) rfl
              · skip
                refine g_iload_n 17 (gd rfl) rfl rfl ?_
                refine g_iload_n 18 (gd rfl) rfl rfl ?_
                refine g_cmp_eq 21 25 (gd rfl) rfl rfl (fun c10x18 => ?_) (fun c10x18 => ?_)
                · skip
                  refine g_iconst 0 26 (gd rfl) rfl rfl ?_
                  refine g_ireturn (gd rfl) rfl (nb01 (in_w 0 1 (in_c 0 rfl) rfl)) (hp10 _ _ ?_)
                  show GG _ _ _ _ _ _ _ _ [.int (Int32.ofInt 0)] _ _ _
                  refine g_if_eq 16 29 (gd rfl) rfl rfl (fun c13 => ?_) (fun c13 => ?_)
                  · skip
                    exact gg_w (by first | exact Nat.le_of_ble_eq_true rfl | omega) (gg_f (gf_cons rfl (gf_cons rfl (gf_cons rfl (gf_cons rfl (gf_cons rfl gf_nil))))) (ct29 s  hI fr_rf ))
                  · skip
                    exact zn_ne c13 (in_c 0 rfl) rfl
                · skip
                  refine g_iconst 1 22 (gd rfl) rfl rfl ?_
                  refine g_goto 26 (gd rfl) rfl ?_
                  refine g_ireturn (gd rfl) rfl (nb01 (in_w 0 1 (in_c 1 rfl) rfl)) (hp10 _ _ ?_)
                  show GG _ _ _ _ _ _ _ _ [.int (Int32.ofInt 1)] _ _ _
                  refine g_if_eq 16 29 (gd rfl) rfl rfl (fun c13 => ?_) (fun c13 => ?_)
                  · skip
                    exact zn_eq c13 (in_c 1 rfl) rfl
                  · skip
                    refine g_iload_n 17 (gd rfl) rfl rfl ?_
                    refine g_if_lt 20 29 (gd rfl) rfl rfl (fun c17 => ?_) (fun c17 => ?_)
                    · skip
                      have i17 := z_lt (-2147483648) (-1) c17 (i_rng x3) rfl
                      exact gg_w (by first | exact Nat.le_of_ble_eq_true rfl | omega) (gg_f (gf_cons rfl (gf_cons rfl (gf_cons rfl (gf_cons rfl (gf_cons rfl gf_nil))))) (ct29 s  hI fr_rf ))
                    · skip
                      have i17 := z_ge 0 2147483647 c17 (i_rng x3) rfl
                      refine g_iload 22 (gd rfl) rfl rfl ?_
                      refine g_if_lt 25 29 (gd rfl) rfl rfl (fun c22 => ?_) (fun c22 => ?_)
                      · skip
                        have i22 := z_lt (-2147483648) (-1) c22 (i_rng x4) rfl
                        exact gg_w (by first | exact Nat.le_of_ble_eq_true rfl | omega) (gg_f (gf_cons rfl (gf_cons rfl (gf_cons rfl (gf_cons rfl (gf_cons rfl gf_nil))))) (ct29 s  hI fr_rf ))
                      · skip
                        have i22 := z_ge 0 2147483647 c22 (i_rng x4) rfl
                        refine g_iconst 1 26 (gd rfl) rfl rfl ?_
                        refine g_goto 30 (gd rfl) rfl ?_
                        refine g_thr (E := am_IA) (y := yX11_allow) 33 (gd rfl) rfl rfl (Or.inl ⟨rfl, rfl, rfl⟩) (by first | exact dq1 hd rfl | exact dq0 hd rfl | exact dq2 hd rfl | exact dq3 hd rfl | omega) (Nat.le_of_ble_eq_true rfl) (Nat.le_of_ble_eq_true rfl) (Nat.le_of_ble_eq_true rfl) (fun c30 => ?_) (fun c30 => ?_)
                        · skip
                          refine g_aload_n 34 (gd rfl) rfl rfl ?_
                          refine g_getA (q2 := 49) 37 (gd rfl) rfl rfl rfl rfl ?_
                          refine g_aload 39 (gd rfl) rfl rfl ?_
                          refine g_iload_n 40 (gd rfl) rfl rfl ?_
                          refine g_iload_n 41 (gd rfl) rfl rfl ?_
                          refine g_iload_n 42 (gd rfl) rfl rfl ?_
                          refine g_iload 44 (gd rfl) rfl rfl ?_
                          refine g_callv (X := _) (As := [.ref (A 32), .int x1, .int x2, .int x3, .int x4]) (r := []) (b := A 49) (q := 49) 47 (gd rfl) rfl rfl rfl rfl rfl (ww_o rfl) (Nat.le_of_ble_eq_true rfl) (Nat.zero_le _) (Nat.zero_le _) (k_206_49_32 (by first | exact dq1 hd rfl | exact dq0 hd rfl | exact dq2 hd rfl | exact dq3 hd rfl | omega) hI (in_w 0 31 i10x2x9 rfl) (in_w 0 31 i10x10x9 rfl) (in_w 0 2147483647 i17 rfl) (in_w 0 2147483647 i22 rfl)) (fun e u h => h) (fun v u h => ?_)
                          obtain ⟨s44, hI44, hF44, z44, rfl, rfl, i44⟩ := h
                          show GG _ _ _ _ _ _ _ _ [.int z44] _ _ _
                          exact g_ireturn (gd rfl) rfl rfl (hP _ _ ⟨s44, hI44, (fr_tr rfl fr_rf hF44), z44, rfl, rfl, in_w (-2147483648) 2147483647 i44 rfl⟩)
                        · skip
                          exact zn_eq c30 (in_c 1 rfl) rfl
  · skip
    have i1x5 := r_eq1 (-1) (-1) c1x5 ro_0_2 (in_c (-1) rfl) rfl
    refine g_aload_n 9 (gd rfl) rfl rfl ?_
    refine g_getA (q2 := 1) 12 (gd rfl) rfl rfl rfl rfl ?_
    refine g_getA (q2 := 2) 15 (gd rfl) rfl rfl rfl rfl ?_
    refine g_goto 22 (gd rfl) rfl ?_
    refine g_areturn (gd rfl) rfl (hp1 _ _ ?_)
    show GG _ _ _ _ _ _ _ _ [.ref (A 2)] _ _ _
    refine g_astore 6 (gd rfl) rfl (Nat.le_of_ble_eq_true rfl) ?_
    refine g_aload 8 (gd rfl) rfl rfl ?_
    refine g_iload_n 9 (gd rfl) rfl rfl ?_
    refine g_iload_n 10 (gd rfl) rfl rfl ?_
    refine g_callv (X := _) (As := [.int x1, .int x2]) (r := []) (b := A 2) (q := 2) 13 (gd rfl) rfl rfl rfl rfl rfl (ww_o rfl) (Nat.le_of_ble_eq_true rfl) (mc := 0) (ms := 0) (Nat.zero_le _) (Nat.zero_le _) (P := fun v u => _) ?_ (fun e u h => h) (fun v u h => h)
    intro po10 xx10 hp10 hx10
    refine g_enter2 (k := 95) (N := 300) (by first | exact dq1 hd rfl | exact dq0 hd rfl | exact dq2 hd rfl | exact dq3 hd rfl | omega) rfl (Nat.le_of_ble_eq_true rfl) ?_
    refine g_aload_n 1 (gd rfl) rfl rfl ?_
    refine g_iload_n 2 (gd rfl) rfl rfl ?_
    refine g_callv (X := _) (As := [.int x1]) (r := []) (b := A 2) (q := 2) 5 (gd rfl) rfl rfl rfl rfl rfl (ww_o rfl) (Nat.le_of_ble_eq_true rfl) (mc := 0) (ms := 0) (Nat.zero_le _) (Nat.zero_le _) (P := fun v u => _) ?_ (fun e u h => h) (fun v u h => h)
    intro po10x2 xx10x2 hp10x2 hx10x2
    refine g_enter2 (k := 94) (N := 300) (by first | exact dq1 hd rfl | exact dq0 hd rfl | exact dq2 hd rfl | exact dq3 hd rfl | omega) rfl (Nat.le_of_ble_eq_true rfl) ?_
    refine g_iload_n 1 (gd rfl) rfl rfl ?_
    refine g_if_lt 4 16 (gd rfl) rfl rfl (fun c10x2x1 => ?_) (fun c10x2x1 => ?_)
    · skip
      have i10x2x1 := z_lt (-2147483648) (-1) c10x2x1 (i_rng x1) rfl
      refine g_iconst 0 17 (gd rfl) rfl rfl ?_
      refine g_ireturn (gd rfl) rfl (nb01 (in_w 0 1 (in_c 0 rfl) rfl)) (hp10x2 _ _ ?_)
      show GG _ _ _ _ _ _ _ _ [.int (Int32.ofInt 0)] _ _ _
      refine g_if_eq 8 25 (gd rfl) rfl rfl (fun c10x5 => ?_) (fun c10x5 => ?_)
      · skip
        refine g_iconst 0 26 (gd rfl) rfl rfl ?_
        refine g_ireturn (gd rfl) rfl (nb01 (in_w 0 1 (in_c 0 rfl) rfl)) (hp10 _ _ ?_)
        show GG _ _ _ _ _ _ _ _ [.int (Int32.ofInt 0)] _ _ _
        refine g_if_eq 16 29 (gd rfl) rfl rfl (fun c13 => ?_) (fun c13 => ?_)
        · skip
          exact gg_w (by first | exact Nat.le_of_ble_eq_true rfl | omega) (gg_f (gf_cons rfl (gf_cons rfl (gf_cons rfl (gf_cons rfl (gf_cons rfl gf_nil))))) (ct29 s  hI fr_rf ))
        · skip
          exact zn_ne c13 (in_c 0 rfl) rfl
      · skip
        exact zn_ne c10x5 (in_c 0 rfl) rfl
    · skip
      have i10x2x1 := z_ge 0 2147483647 c10x2x1 (i_rng x1) rfl
      refine g_iload_n 5 (gd rfl) rfl rfl ?_
      refine g_aload_n 6 (gd rfl) rfl rfl ?_
      refine g_getI 9 (gd rfl) rfl rfl rfl (fun z10x2x6 e10x2x6 => ?_)
      have q10x2x6 : u_2_1 = z10x2x6 := (e_2_1).trans e10x2x6.symm
      subst q10x2x6
      refine g_cmp_ge 12 16 (gd rfl) rfl rfl (fun c10x2x9 => ?_) (fun c10x2x9 => ?_)
      · skip
        refine g_iconst 0 17 (gd rfl) rfl rfl ?_
        refine g_ireturn (gd rfl) rfl (nb01 (in_w 0 1 (in_c 0 rfl) rfl)) (hp10x2 _ _ ?_)
        show GG _ _ _ _ _ _ _ _ [.int (Int32.ofInt 0)] _ _ _
        refine g_if_eq 8 25 (gd rfl) rfl rfl (fun c10x5 => ?_) (fun c10x5 => ?_)
        · skip
          refine g_iconst 0 26 (gd rfl) rfl rfl ?_
          refine g_ireturn (gd rfl) rfl (nb01 (in_w 0 1 (in_c 0 rfl) rfl)) (hp10 _ _ ?_)
          show GG _ _ _ _ _ _ _ _ [.int (Int32.ofInt 0)] _ _ _
          refine g_if_eq 16 29 (gd rfl) rfl rfl (fun c13 => ?_) (fun c13 => ?_)
          · skip
            exact gg_w (by first | exact Nat.le_of_ble_eq_true rfl | omega) (gg_f (gf_cons rfl (gf_cons rfl (gf_cons rfl (gf_cons rfl (gf_cons rfl gf_nil))))) (ct29 s  hI fr_rf ))
          · skip
            exact zn_ne c13 (in_c 0 rfl) rfl
        · skip
          exact zn_ne c10x5 (in_c 0 rfl) rfl
      · skip
        have i10x2x9 := r_lt1 0 31 c10x2x9 i10x2x1 ro_2_1 rfl
        have i10x2x9a := r_lt2 1 32 c10x2x9 i10x2x1 ro_2_1 rfl
        refine g_iconst 1 13 (gd rfl) rfl rfl ?_
        refine g_goto 17 (gd rfl) rfl ?_
        refine g_ireturn (gd rfl) rfl (nb01 (in_w 0 1 (in_c 1 rfl) rfl)) (hp10x2 _ _ ?_)
        show GG _ _ _ _ _ _ _ _ [.int (Int32.ofInt 1)] _ _ _
        refine g_if_eq 8 25 (gd rfl) rfl rfl (fun c10x5 => ?_) (fun c10x5 => ?_)
        · skip
          exact zn_eq c10x5 (in_c 1 rfl) rfl
        · skip
          refine g_aload_n 9 (gd rfl) rfl rfl ?_
          refine g_iload_n 10 (gd rfl) rfl rfl ?_
          refine g_callv (X := _) (As := [.int x2]) (r := []) (b := A 2) (q := 2) 13 (gd rfl) rfl rfl rfl rfl rfl (ww_o rfl) (Nat.le_of_ble_eq_true rfl) (mc := 0) (ms := 0) (Nat.zero_le _) (Nat.zero_le _) (P := fun v u => _) ?_ (fun e u h => h) (fun v u h => h)
          intro po10x10 xx10x10 hp10x10 hx10x10
          refine g_enter2 (k := 94) (N := 300) (by first | exact dq1 hd rfl | exact dq0 hd rfl | exact dq2 hd rfl | exact dq3 hd rfl | omega) rfl (Nat.le_of_ble_eq_true rfl) ?_
          refine g_iload_n 1 (gd rfl) rfl rfl ?_
          refine g_if_lt 4 16 (gd rfl) rfl rfl (fun c10x10x1 => ?_) (fun c10x10x1 => ?_)
          · skip
            have i10x10x1 := z_lt (-2147483648) (-1) c10x10x1 (i_rng x2) rfl
            refine g_iconst 0 17 (gd rfl) rfl rfl ?_
            refine g_ireturn (gd rfl) rfl (nb01 (in_w 0 1 (in_c 0 rfl) rfl)) (hp10x10 _ _ ?_)
            show GG _ _ _ _ _ _ _ _ [.int (Int32.ofInt 0)] _ _ _
            refine g_if_eq 16 25 (gd rfl) rfl rfl (fun c10x13 => ?_) (fun c10x13 => ?_)
            · skip
              refine g_iconst 0 26 (gd rfl) rfl rfl ?_
              refine g_ireturn (gd rfl) rfl (nb01 (in_w 0 1 (in_c 0 rfl) rfl)) (hp10 _ _ ?_)
              show GG _ _ _ _ _ _ _ _ [.int (Int32.ofInt 0)] _ _ _
              refine g_if_eq 16 29 (gd rfl) rfl rfl (fun c13 => ?_) (fun c13 => ?_)
              · skip
                exact gg_w (by first | exact Nat.le_of_ble_eq_true rfl | omega) (gg_f (gf_cons rfl (gf_cons rfl (gf_cons rfl (gf_cons rfl (gf_cons rfl gf_nil))))) (ct29 s  hI fr_rf ))
              · skip
                exact zn_ne c13 (in_c 0 rfl) rfl
            · skip
              exact zn_ne c10x13 (in_c 0 rfl) rfl
          · skip
            have i10x10x1 := z_ge 0 2147483647 c10x10x1 (i_rng x2) rfl
            refine g_iload_n 5 (gd rfl) rfl rfl ?_
            refine g_aload_n 6 (gd rfl) rfl rfl ?_
            refine g_getI 9 (gd rfl) rfl rfl rfl (fun z10x10x6 e10x10x6 => ?_)
            have q10x10x6 : u_2_1 = z10x10x6 := (e_2_1).trans e10x10x6.symm
            subst q10x10x6
            refine g_cmp_ge 12 16 (gd rfl) rfl rfl (fun c10x10x9 => ?_) (fun c10x10x9 => ?_)
            · skip
              have i10x10x9 := r_le2 1 2147483647 c10x10x9 i10x2x9a i10x10x1 rfl
              refine g_iconst 0 17 (gd rfl) rfl rfl ?_
              refine g_ireturn (gd rfl) rfl (nb01 (in_w 0 1 (in_c 0 rfl) rfl)) (hp10x10 _ _ ?_)
              show GG _ _ _ _ _ _ _ _ [.int (Int32.ofInt 0)] _ _ _
              refine g_if_eq 16 25 (gd rfl) rfl rfl (fun c10x13 => ?_) (fun c10x13 => ?_)
              · skip
                refine g_iconst 0 26 (gd rfl) rfl rfl ?_
                refine g_ireturn (gd rfl) rfl (nb01 (in_w 0 1 (in_c 0 rfl) rfl)) (hp10 _ _ ?_)
                show GG _ _ _ _ _ _ _ _ [.int (Int32.ofInt 0)] _ _ _
                refine g_if_eq 16 29 (gd rfl) rfl rfl (fun c13 => ?_) (fun c13 => ?_)
                · skip
                  exact gg_w (by first | exact Nat.le_of_ble_eq_true rfl | omega) (gg_f (gf_cons rfl (gf_cons rfl (gf_cons rfl (gf_cons rfl (gf_cons rfl gf_nil))))) (ct29 s  hI fr_rf ))
                · skip
                  exact zn_ne c13 (in_c 0 rfl) rfl
              · skip
                exact zn_ne c10x13 (in_c 0 rfl) rfl
            · skip
              have i10x10x9 := r_lt1 0 31 c10x10x9 i10x10x1 i10x2x9a rfl
              refine g_iconst 1 13 (gd rfl) rfl rfl ?_
              refine g_goto 17 (gd rfl) rfl ?_
              refine g_ireturn (gd rfl) rfl (nb01 (in_w 0 1 (in_c 1 rfl) rfl)) (hp10x10 _ _ ?_)
              show GG _ _ _ _ _ _ _ _ [.int (Int32.ofInt 1)] _ _ _
              refine g_if_eq 16 25 (gd rfl) rfl rfl (fun c10x13 => ?_) (fun c10x13 => ?_)
              · skip
                exact zn_eq c10x13 (in_c 1 rfl) rfl
              · skip
                refine g_iload_n 17 (gd rfl) rfl rfl ?_
                refine g_iload_n 18 (gd rfl) rfl rfl ?_
                refine g_cmp_eq 21 25 (gd rfl) rfl rfl (fun c10x18 => ?_) (fun c10x18 => ?_)
                · skip
                  refine g_iconst 0 26 (gd rfl) rfl rfl ?_
                  refine g_ireturn (gd rfl) rfl (nb01 (in_w 0 1 (in_c 0 rfl) rfl)) (hp10 _ _ ?_)
                  show GG _ _ _ _ _ _ _ _ [.int (Int32.ofInt 0)] _ _ _
                  refine g_if_eq 16 29 (gd rfl) rfl rfl (fun c13 => ?_) (fun c13 => ?_)
                  · skip
                    exact gg_w (by first | exact Nat.le_of_ble_eq_true rfl | omega) (gg_f (gf_cons rfl (gf_cons rfl (gf_cons rfl (gf_cons rfl (gf_cons rfl gf_nil))))) (ct29 s  hI fr_rf ))
                  · skip
                    exact zn_ne c13 (in_c 0 rfl) rfl
                · skip
                  refine g_iconst 1 22 (gd rfl) rfl rfl ?_
                  refine g_goto 26 (gd rfl) rfl ?_
                  refine g_ireturn (gd rfl) rfl (nb01 (in_w 0 1 (in_c 1 rfl) rfl)) (hp10 _ _ ?_)
                  show GG _ _ _ _ _ _ _ _ [.int (Int32.ofInt 1)] _ _ _
                  refine g_if_eq 16 29 (gd rfl) rfl rfl (fun c13 => ?_) (fun c13 => ?_)
                  · skip
                    exact zn_eq c13 (in_c 1 rfl) rfl
                  · skip
                    refine g_iload_n 17 (gd rfl) rfl rfl ?_
                    refine g_if_lt 20 29 (gd rfl) rfl rfl (fun c17 => ?_) (fun c17 => ?_)
                    · skip
                      have i17 := z_lt (-2147483648) (-1) c17 (i_rng x3) rfl
                      exact gg_w (by first | exact Nat.le_of_ble_eq_true rfl | omega) (gg_f (gf_cons rfl (gf_cons rfl (gf_cons rfl (gf_cons rfl (gf_cons rfl gf_nil))))) (ct29 s  hI fr_rf ))
                    · skip
                      have i17 := z_ge 0 2147483647 c17 (i_rng x3) rfl
                      refine g_iload 22 (gd rfl) rfl rfl ?_
                      refine g_if_lt 25 29 (gd rfl) rfl rfl (fun c22 => ?_) (fun c22 => ?_)
                      · skip
                        have i22 := z_lt (-2147483648) (-1) c22 (i_rng x4) rfl
                        exact gg_w (by first | exact Nat.le_of_ble_eq_true rfl | omega) (gg_f (gf_cons rfl (gf_cons rfl (gf_cons rfl (gf_cons rfl (gf_cons rfl gf_nil))))) (ct29 s  hI fr_rf ))
                      · skip
                        have i22 := z_ge 0 2147483647 c22 (i_rng x4) rfl
                        refine g_iconst 1 26 (gd rfl) rfl rfl ?_
                        refine g_goto 30 (gd rfl) rfl ?_
                        refine g_thr (E := am_IA) (y := yX11_allow) 33 (gd rfl) rfl rfl (Or.inl ⟨rfl, rfl, rfl⟩) (by first | exact dq1 hd rfl | exact dq0 hd rfl | exact dq2 hd rfl | exact dq3 hd rfl | omega) (Nat.le_of_ble_eq_true rfl) (Nat.le_of_ble_eq_true rfl) (Nat.le_of_ble_eq_true rfl) (fun c30 => ?_) (fun c30 => ?_)
                        · skip
                          refine g_aload_n 34 (gd rfl) rfl rfl ?_
                          refine g_getA (q2 := 49) 37 (gd rfl) rfl rfl rfl rfl ?_
                          refine g_aload 39 (gd rfl) rfl rfl ?_
                          refine g_iload_n 40 (gd rfl) rfl rfl ?_
                          refine g_iload_n 41 (gd rfl) rfl rfl ?_
                          refine g_iload_n 42 (gd rfl) rfl rfl ?_
                          refine g_iload 44 (gd rfl) rfl rfl ?_
                          refine g_callv (X := _) (As := [.ref (A 2), .int x1, .int x2, .int x3, .int x4]) (r := []) (b := A 49) (q := 49) 47 (gd rfl) rfl rfl rfl rfl rfl (ww_o rfl) (Nat.le_of_ble_eq_true rfl) (Nat.zero_le _) (Nat.zero_le _) (k_206_49_2 (by first | exact dq1 hd rfl | exact dq0 hd rfl | exact dq2 hd rfl | exact dq3 hd rfl | omega) hI (in_w 0 31 i10x2x9 rfl) (in_w 0 31 i10x10x9 rfl) (in_w 0 2147483647 i17 rfl) (in_w 0 2147483647 i22 rfl)) (fun e u h => h) (fun v u h => ?_)
                          obtain ⟨s44, hI44, hF44, z44, rfl, rfl, i44⟩ := h
                          show GG _ _ _ _ _ _ _ _ [.int z44] _ _ _
                          exact g_ireturn (gd rfl) rfl rfl (hP _ _ ⟨s44, hI44, (fr_tr rfl fr_rf hF44), z44, rfl, rfl, in_w (-2147483648) 2147483647 i44 rfl⟩)
                        · skip
                          exact zn_eq c30 (in_c 1 rfl) rfl

def fm_251_0 : FM := ([9, 10, 11, 12, 13, 14, 15, 39, 40, 41, 42, 43, 44, 45, 89, 90, 91, 92, 93], [], [(2, 4), (32, 4), (86, 4), (86, 5)], [])
/-- GraphHouse.gain -/
theorem k_251_0 {Z : AmZ} {A : Nat → Nat} {s : GS} {ex : va_W} {d : Nat} {X : AmX}  (hd : 8 ≤ d) (hI : Inv s)  : GC Z d 251 [.ref (A 0)] (WW Z A s ++ ex) 3 18 (fun v u => ∃ t : GS, Inv t ∧ Fr fm_251_0 s t ∧ ∃ z : Int64, v = some (.long z) ∧ u = WW Z A t ++ ex) X := by
  intro post xp hP hX
  obtain ⟨u_0_2, e_0_2⟩ : ∃ w, w = s.2.2.1 0 2 := ⟨_, rfl⟩
  have ro_0_2 := inv_F hI (-1) 4000 rfl e_0_2
  refine g_enter2 (k := 251) (N := 900) (by first | exact dq1 hd rfl | exact dq0 hd rfl | exact dq2 hd rfl | exact dq3 hd rfl | omega) rfl (Nat.le_of_ble_eq_true rfl) ?_
  refine g_aload_n 1 (gd rfl) rfl rfl ?_
  refine g_getA (q2 := 86) 4 (gd rfl) rfl rfl rfl rfl ?_
  refine g_aload_n 5 (gd rfl) rfl rfl ?_
  refine g_callv (X := _) (As := []) (r := [.ref (A 86)]) (b := A 0) (q := 0) 8 (gd rfl) rfl rfl rfl rfl rfl (ww_o rfl) (Nat.le_of_ble_eq_true rfl) (mc := 0) (ms := 0) (Nat.zero_le _) (Nat.zero_le _) (P := fun v u => _) ?_ (fun e u h => h) (fun v u h => h)
  intro po5 xx5 hp5 hx5
  refine g_enter2 (k := 259) (N := 300) (by first | exact dq1 hd rfl | exact dq0 hd rfl | exact dq2 hd rfl | exact dq3 hd rfl | omega) rfl (Nat.le_of_ble_eq_true rfl) ?_
  refine g_aload_n 1 (gd rfl) rfl rfl ?_
  refine g_getI 4 (gd rfl) rfl rfl rfl (fun z5x1 e5x1 => ?_)
  have q5x1 : u_0_2 = z5x1 := (e_0_2).trans e5x1.symm
  subst q5x1
  refine g_iconst (-1) 5 (gd rfl) rfl rfl ?_
  refine g_cmp_ne 8 18 (gd rfl) rfl rfl (fun c5x5 => ?_) (fun c5x5 => ?_)
  · skip
    have i5x5 := r_ne1 0 4000 c5x5 ro_0_2 (in_c (-1) rfl) rfl
    refine g_aload_n 19 (gd rfl) rfl rfl ?_
    refine g_getA (q2 := 32) 22 (gd rfl) rfl rfl rfl rfl ?_
    refine g_areturn (gd rfl) rfl (hp5 _ _ ?_)
    show GG _ _ _ _ _ _ _ _ [.ref (A 32), .ref (A 86)] _ _ _
    refine g_callv (X := _) (As := [.ref (A 32)]) (r := []) (b := A 86) (q := 86) 11 (gd rfl) rfl rfl rfl rfl rfl (ww_o rfl) (Nat.le_of_ble_eq_true rfl) (Nat.zero_le _) (Nat.zero_le _) (k_112_86_32 (by first | exact dq1 hd rfl | exact dq0 hd rfl | exact dq2 hd rfl | exact dq3 hd rfl | omega) hI ) (fun e u h => h) (fun v u h => ?_)
    obtain ⟨s8, hI8, hF8, z8, rfl, rfl⟩ := h
    show GG _ _ _ _ _ _ _ _ [.long z8] _ _ _
    exact g_lreturn (gd rfl) rfl (hP _ _ ⟨s8, hI8, (fr_tr rfl fr_rf hF8), z8, rfl, rfl⟩)
  · skip
    have i5x5 := r_eq1 (-1) (-1) c5x5 ro_0_2 (in_c (-1) rfl) rfl
    refine g_aload_n 9 (gd rfl) rfl rfl ?_
    refine g_getA (q2 := 1) 12 (gd rfl) rfl rfl rfl rfl ?_
    refine g_getA (q2 := 2) 15 (gd rfl) rfl rfl rfl rfl ?_
    refine g_goto 22 (gd rfl) rfl ?_
    refine g_areturn (gd rfl) rfl (hp5 _ _ ?_)
    show GG _ _ _ _ _ _ _ _ [.ref (A 2), .ref (A 86)] _ _ _
    refine g_callv (X := _) (As := [.ref (A 2)]) (r := []) (b := A 86) (q := 86) 11 (gd rfl) rfl rfl rfl rfl rfl (ww_o rfl) (Nat.le_of_ble_eq_true rfl) (Nat.zero_le _) (Nat.zero_le _) (k_112_86_2 (by first | exact dq1 hd rfl | exact dq0 hd rfl | exact dq2 hd rfl | exact dq3 hd rfl | omega) hI ) (fun e u h => h) (fun v u h => ?_)
    obtain ⟨s8, hI8, hF8, z8, rfl, rfl⟩ := h
    show GG _ _ _ _ _ _ _ _ [.long z8] _ _ _
    exact g_lreturn (gd rfl) rfl (hP _ _ ⟨s8, hI8, (fr_tr rfl fr_rf hF8), z8, rfl, rfl⟩)

def fm_255_0 : FM := ([103, 104], [], [(46, 2), (46, 3), (46, 4), (46, 5), (46, 6), (46, 7), (102, 1), (102, 2), (102, 4)], [])
/-- GraphHouse.program -/
theorem k_255_0 {Z : AmZ} {A : Nat → Nat} {s : GS} {ex : va_W} {d : Nat} {X : AmX}  (hd : 297 ≤ d) (hI : Inv s)  : GC Z d 255 [.ref (A 0)] (WW Z A s ++ ex) 3 18 (fun v u => ∃ t : GS, Inv t ∧ Fr fm_255_0 s t ∧ ∃ z : Int32, v = some (.int z) ∧ u = WW Z A t ++ ex ∧ In z (-4) 0) X := by
  intro post xp hP hX
  refine g_enter2 (k := 255) (N := 900) (by first | exact dq1 hd rfl | exact dq0 hd rfl | exact dq2 hd rfl | exact dq3 hd rfl | omega) rfl (Nat.le_of_ble_eq_true rfl) ?_
  refine g_aload_n 1 (gd rfl) rfl rfl ?_
  refine g_getA (q2 := 102) 4 (gd rfl) rfl rfl rfl rfl ?_
  refine g_aload_n 5 (gd rfl) rfl rfl ?_
  refine g_getA (q2 := 46) 8 (gd rfl) rfl rfl rfl rfl ?_
  refine g_callv (X := _) (As := [.ref (A 46)]) (r := []) (b := A 102) (q := 102) 11 (gd rfl) rfl rfl rfl rfl rfl (ww_o rfl) (Nat.le_of_ble_eq_true rfl) (Nat.zero_le _) (Nat.zero_le _) (k_56_102_46 (by first | exact dq1 hd rfl | exact dq0 hd rfl | exact dq2 hd rfl | exact dq3 hd rfl | omega) hI ) (fun e u h => h) (fun v u h => ?_)
  obtain ⟨s8, hI8, hF8, z8, rfl, rfl, i8⟩ := h
  show GG _ _ _ _ _ _ _ _ [.int z8] _ _ _
  refine g_if_eq 14 18 (gd rfl) rfl rfl (fun c11 => ?_) (fun c11 => ?_)
  · skip
    have i11 := z_eq 0 0 c11 i8 rfl
    refine g_bipush (-4) 20 (gd rfl) rfl rfl ?_
    exact g_ireturn (gd rfl) rfl rfl (hP _ _ ⟨s8, hI8, (fr_tr rfl fr_rf hF8), (Int32.ofInt (-4)), rfl, rfl, in_w (-4) 0 (in_c (-4) rfl) rfl⟩)
  · skip
    have i11 := z_ne 1 1 c11 i8 rfl
    refine g_iconst 0 15 (gd rfl) rfl rfl ?_
    refine g_goto 20 (gd rfl) rfl ?_
    exact g_ireturn (gd rfl) rfl rfl (hP _ _ ⟨s8, hI8, (fr_tr rfl fr_rf hF8), (Int32.ofInt 0), rfl, rfl, in_w (-4) 0 (in_c 0 rfl) rfl⟩)

def fm_302 : FM := ([110, 111, 112, 113, 114, 115, 116, 117, 118, 119, 120, 121, 122, 123, 124, 127, 128], [], [(109, 0), (109, 9), (109, 18), (109, 19), (109, 20), (109, 23), (109, 24), (109, 27), (109, 28), (109, 29), (109, 30), (109, 32)], [(109, 31)])
def fm_44_60_2 : FM := ([9, 10, 11, 12, 13, 14, 15, 61, 62, 63, 64], [], [(2, 4), (60, 0), (60, 1), (60, 3), (60, 7)], [])
def fm_44_60_32 : FM := ([39, 40, 41, 42, 43, 44, 45, 61, 62, 63, 64], [], [(32, 4), (60, 0), (60, 1), (60, 3), (60, 7)], [])
end
section
/-! methods, by vc.py -/
def fm_79_65_2 : FM := ([66, 67, 68, 69, 70, 71, 72, 73, 74], [75], [(65, 0), (65, 1), (65, 2), (65, 4), (65, 8)], [(65, 3)])
/-- GraphHouse$Flows.cheapest -/
theorem k_79_65_2 {Z : AmZ} {A : Nat → Nat} {s : GS} {ex : va_W} {d : Nat} {X : AmX} {x2 : Int32} {x3 : Int32} {x4 : Int32} (hd : 6 ≤ d) (hI : Inv s) (h2 : In x2 0 31) (h3 : In x3 0 31) (h4 : In x4 0 200000000) : GC Z d 79 [.ref (A 65), .ref (A 2), .int x2, .int x3, .int x4] (WW Z A s ++ ex) 0 0 (fun v u => ∃ t : GS, Inv t ∧ Fr fm_79_65_2 s t ∧ ∃ z : Int64, v = some (.long z) ∧ u = WW Z A t ++ ex) X := by
  intro post xp hP hX
  obtain ⟨u_2_1, e_2_1⟩ : ∃ w, w = s.2.2.1 2 1 := ⟨_, rfl⟩
  have ro_2_1 := inv_F hI 0 32 rfl e_2_1
  have ct94 : ∀ (k94 : Nat) (sc94 : GS) (y94_5 : Int64) (y94_7 : Int32) (y94_8 : Int32), Inv sc94 → Fr fm_79_65_2 s sc94 → (In y94_7 1 1048576) → (In y94_8 0 160) → 160 - (y94_8).toInt < (k94 : Int) → GG Z (d - 1) 79 post (gx xp) (1 + k94 * 900) 94 (fun j => xlook j [(0, .ref (A 65)), (1, .ref (A 2)), (2, .int x2), (3, .int x3), (4, .int x4), (5, .long y94_5), (7, .int y94_7), (8, .int y94_8)]) [] (WW Z A sc94 ++ ex) 0 0 := by
    intro k94
    induction k94 with
    | zero => intro sc94 y94_5 y94_7 y94_8 hIc94 hFc94 j94_7 j94_8 mm94; exact m_no mm94 j94_8 rfl
    | succ k94 ih94 =>
      intro sc94 y94_5 y94_7 y94_8 hIc94 hFc94 j94_7 j94_8 mm94
      refine gg_w (M := 1 + k94 * 900 + 900) gws ?_
      refine g_iload 96 (gd rfl) rfl rfl ?_
      refine g_aload_n 97 (gd rfl) rfl rfl ?_
      refine g_getI 100 (gd rfl) rfl rfl rfl (fun z97 e97 => ?_)
      have i97 := inv_F hIc94 0 160 rfl e97
      refine g_cmp_ge 103 131 (gd rfl) rfl rfl (fun c100 => ?_) (fun c100 => ?_)
      · skip
        refine g_lload 133 (gd rfl) rfl rfl ?_
        exact g_lreturn (gd rfl) rfl (hP _ _ ⟨sc94, hIc94, hFc94, y94_5, rfl, rfl⟩)
      · skip
        have i100 := r_lt1 0 159 c100 j94_8 i97 rfl
        have i100a := r_lt2 1 160 c100 j94_8 i97 rfl
        refine g_lload 105 (gd rfl) rfl rfl ?_
        refine g_aload_n 106 (gd rfl) rfl rfl ?_
        refine g_getA (q2 := 71) 109 (gd rfl) rfl rfl rfl rfl ?_
        refine g_iload 111 (gd rfl) rfl rfl ?_
        refine g_iaload 112 (gd rfl) rfl (n := 160) rfl (in_ix i100 rfl) (fun z111 e111 => ?_)
        have i111 := inv_I hIc94 (n := 160) (t := 0) (-1000000) 1000000 rfl (in_ix i100 rfl) rfl e111
        refine g_i2l 113 (gd rfl) rfl (fun z112 e112 => ?_)
        have i112 := l_i e112 i111
        refine g_aload_n 114 (gd rfl) rfl rfl ?_
        refine g_getA (q2 := 73) 117 (gd rfl) rfl rfl rfl rfl ?_
        refine g_iload 119 (gd rfl) rfl rfl ?_
        refine g_iaload 120 (gd rfl) rfl (n := 160) rfl (in_ix i100 rfl) (fun z119 e119 => ?_)
        refine g_i2l 121 (gd rfl) rfl (fun z120 e120 => ?_)
        have i120 := l_i e120 (i_rng z119)
        refine g_lmul 122 (gd rfl) rfl (fun z121 e121 => ?_)
        refine g_ladd 123 (gd rfl) rfl (fun z122 e122 => ?_)
        refine g_lstore 125 (gd rfl) rfl (Nat.le_of_ble_eq_true rfl) ?_
        refine g_iinc 128 (gd rfl) rfl rfl (Nat.le_of_ble_eq_true rfl) (fun z125 e125 => ?_)
        have i125 := in_add 1 160 e125 i100 (in_c 1 rfl) rfl rfl
        refine g_goto 94 (gd rfl) rfl ?_
        exact gg_w (by first | exact Nat.le_add_right _ _ | exact gw2 | exact gw3 | exact gwe rfl | exact gwf rfl | exact gwg rfl | exact gwh rfl | omega) (gg_f (gf_cons rfl (gf_cons rfl (gf_cons rfl (gf_cons rfl (gf_cons rfl (gf_cons rfl (gf_cons rfl (gf_cons rfl gf_nil)))))))) (ih94 sc94 z122 y94_7 z125 hIc94 hFc94 (in_w 1 1048576 j94_7 rfl) (in_w 0 160 i125 rfl) (m_up mm94 (t_add e125 i100 (in_c 1 rfl) rfl) (in_w 1 1 (in_c 1 rfl) rfl))))
  have ct50 : ∀ (k50 : Nat) (sc50 : GS) (y50_5 : Int64) (y50_7 : Int32) (y50_8 : Int32), Inv sc50 → Fr fm_79_65_2 s sc50 → (In y50_7 1 1048576) → (In y50_8 0 65536) → (y50_8).toInt < (k50 : Int) → GG Z (d - 1) 79 post (gx xp) (144902 + k50 * 900) 50 (fun j => xlook j [(0, .ref (A 65)), (1, .ref (A 2)), (2, .int x2), (3, .int x3), (4, .int x4), (5, .long y50_5), (7, .int y50_7), (8, .int y50_8)]) [] (WW Z A sc50 ++ ex) 0 0 := by
    intro k50
    induction k50 with
    | zero => intro sc50 y50_5 y50_7 y50_8 hIc50 hFc50 j50_7 j50_8 mm50; exfalso; (first | have a0 := oa3 h3 h2 ro_2_1 | ((first | have a0 := in_u h3 | (have a0 := h3; unfold In at a0)); (first | have a1 := in_u h2 | (have a1 := h2; unfold In at a1)); (first | have a2 := in_u ro_2_1 | (have a2 := ro_2_1; unfold In at a2)))); have a3 := j50_8; unfold In at a3; have a4 := j50_7; unfold In at a4; (first | have a5 := in_u h4 | (have a5 := h4; unfold In at a5)); omega
    | succ k50 ih50 =>
      intro sc50 y50_5 y50_7 y50_8 hIc50 hFc50 j50_7 j50_8 mm50
      refine gg_w (M := 144902 + k50 * 900 + 900) gws ?_
      refine g_iload 52 (gd rfl) rfl rfl ?_
      refine g_if_le 55 91 (gd rfl) rfl rfl (fun c52 => ?_) (fun c52 => ?_)
      · skip
        have i52 := z_le 0 0 c52 j50_8 rfl
        refine g_iconst 0 92 (gd rfl) rfl rfl ?_
        refine g_istore 94 (gd rfl) rfl (Nat.le_of_ble_eq_true rfl) ?_
        exact gg_w (by first | exact Nat.le_add_right _ _ | exact gw2 | exact gw3 | exact gwe rfl | exact gwf rfl | exact gwg rfl | exact gwh rfl | omega) (gg_f (gf_cons rfl (gf_cons rfl (gf_cons rfl (gf_cons rfl (gf_cons rfl (gf_cons rfl (gf_cons rfl (gf_cons rfl gf_nil)))))))) (ct94 161 sc50 y50_5 y50_7 (Int32.ofInt 0) hIc50 hFc50 (in_w 1 1048576 j50_7 rfl) (in_w 0 160 (in_c 0 rfl) rfl) (m_in 161 (in_w 0 160 (in_c 0 rfl) rfl) rfl)))
      · skip
        have i52 := z_gt 1 65536 c52 j50_8 rfl
        refine g_aload_n 56 (gd rfl) rfl rfl ?_
        refine g_aload_n 57 (gd rfl) rfl rfl ?_
        refine g_getI 60 (gd rfl) rfl rfl rfl (fun z57 e57 => ?_)
        have q57 : u_2_1 = z57 := (fr_F e_2_1 hFc50 rfl).trans e57.symm
        subst q57
        refine g_iload 62 (gd rfl) rfl rfl ?_
        refine g_iload 64 (gd rfl) rfl rfl ?_
        refine g_callv (X := _) (As := [.int u_2_1, .int y50_7, .int y50_8]) (r := []) (b := A 65) (q := 65) 67 (gd rfl) rfl rfl rfl rfl rfl (ww_o rfl) (Nat.le_of_ble_eq_true rfl) (Nat.zero_le _) (Nat.zero_le _) (k_81_65 (by first | exact dq1 hd rfl | exact dq0 hd rfl | exact dq2 hd rfl | exact dq3 hd rfl | omega) hIc50 (in_w 0 32 ro_2_1 rfl) (in_w 1 1048576 j50_7 rfl) (in_w 1 65536 i52 rfl)) (fun e u h => h) (fun v u h => ?_)
        obtain ⟨s64, hI64, hF64, rfl, rfl⟩ := h
        show GG _ _ _ _ _ _ _ _ [] _ _ _
        refine g_aload_n 68 (gd rfl) rfl rfl ?_
        refine g_aload_n 69 (gd rfl) rfl rfl ?_
        refine g_getI 72 (gd rfl) rfl rfl rfl (fun z69 e69 => ?_)
        have q69 : u_2_1 = z69 := (fr_F (fr_F e_2_1 hFc50 rfl) hF64 rfl).trans e69.symm
        subst q69
        refine g_iload 74 (gd rfl) rfl rfl ?_
        refine g_callv (X := _) (As := [.int u_2_1, .int y50_8]) (r := []) (b := A 65) (q := 65) 77 (gd rfl) rfl rfl rfl rfl rfl (ww_o rfl) (Nat.le_of_ble_eq_true rfl) (Nat.zero_le _) (Nat.zero_le _) (k_83_65 (by first | exact dq1 hd rfl | exact dq0 hd rfl | exact dq2 hd rfl | exact dq3 hd rfl | omega) hI64 (in_w 0 32 ro_2_1 rfl) (in_w 1 65536 i52 rfl)) (fun e u h => h) (fun v u h => ?_)
        obtain ⟨s74, hI74, hF74, rfl, rfl⟩ := h
        show GG _ _ _ _ _ _ _ _ [] _ _ _
        refine g_iload 79 (gd rfl) rfl rfl ?_
        refine g_istore 81 (gd rfl) rfl (Nat.le_of_ble_eq_true rfl) ?_
        refine g_iload 83 (gd rfl) rfl rfl ?_
        refine g_bipush 16 85 (gd rfl) rfl rfl ?_
        refine g_idiv 86 (gd rfl) rfl (by decide) (fun z85 e85 => ?_)
        have i85 := in_div 0 4096 e85 i52 rfl rfl
        refine g_istore 88 (gd rfl) rfl (Nat.le_of_ble_eq_true rfl) ?_
        refine g_goto 50 (gd rfl) rfl ?_
        have m50 : (z85).toInt < ((k50 : Nat) : Int) := by (first | have a0 := oa6 h3 h2 ro_2_1 i52 j50_7 i85 | ((first | have a0 := in_u h3 | (have a0 := h3; unfold In at a0)); (first | have a1 := in_u h2 | (have a1 := h2; unfold In at a1)); (first | have a2 := in_u ro_2_1 | (have a2 := ro_2_1; unfold In at a2)); (first | have a3 := in_u i52 | (have a3 := i52; unfold In at a3)); (first | have a4 := in_u j50_7 | (have a4 := j50_7; unfold In at a4)); (first | have a5 := in_u i85 | (have a5 := i85; unfold In at a5)))); have a6 := t_div e85 i52 rfl; (first | have a7 := in_u h4 | (have a7 := h4; unfold In at a7)); omega
        exact gg_w (by first | exact Nat.le_add_right _ _ | exact gw2 | exact gw3 | exact gwe rfl | exact gwf rfl | exact gwg rfl | exact gwh rfl | omega) (gg_f (gf_cons rfl (gf_cons rfl (gf_cons rfl (gf_cons rfl (gf_cons rfl (gf_cons rfl (gf_cons rfl (gf_cons rfl gf_nil)))))))) (ih50  s74 y50_5 y50_8 z85 hI74 (fr_tr rfl (fr_tr rfl hFc50 hF64) hF74) (in_w 1 1048576 i52 rfl) (in_w 0 65536 i85 rfl) m50))
  refine g_enter2 (k := 79) (N := 63145802) (by first | exact dq1 hd rfl | exact dq0 hd rfl | exact dq2 hd rfl | exact dq3 hd rfl | omega) rfl (Nat.le_of_ble_eq_true rfl) ?_
  refine g_iload 2 (gd rfl) rfl rfl ?_
  refine g_i2l 3 (gd rfl) rfl (fun z2 e2 => ?_)
  have i2 := l_i e2 h4
  refine g_aload_n 4 (gd rfl) rfl rfl ?_
  refine g_aload_n 5 (gd rfl) rfl rfl ?_
  refine g_iload_n 6 (gd rfl) rfl rfl ?_
  refine g_iload_n 7 (gd rfl) rfl rfl ?_
  refine g_callv (X := _) (As := [.ref (A 2), .int x2, .int x3]) (r := [.long z2]) (b := A 65) (q := 65) 10 (gd rfl) rfl rfl rfl rfl rfl (ww_o rfl) (Nat.le_of_ble_eq_true rfl) (Nat.zero_le _) (Nat.zero_le _) (k_75_65_2 (by first | exact dq1 hd rfl | exact dq0 hd rfl | exact dq2 hd rfl | exact dq3 hd rfl | omega) hI (in_w 0 31 h2 rfl) (in_w 0 31 h3 rfl)) (fun e u h => h) (fun v u h => ?_)
  obtain ⟨s7, hI7, hF7, z7, rfl, rfl⟩ := h
  show GG _ _ _ _ _ _ _ _ [.long z7, .long z2] _ _ _
  refine g_lcmp 11 (gd rfl) rfl (fun z10 e10 => ?_)
  have i10 := lc_in e10
  refine g_if_le 14 18 (gd rfl) rfl rfl (fun c11 => ?_) (fun c11 => ?_)
  · skip
    have i11 := z_le (-1) 0 c11 i10 rfl
    have c11a := lc_le e10 c11
    have i11a := lr_le2 0 9223372036854775807 c11a i2 (l_rng z7) rfl
    refine g_aload_n 19 (gd rfl) rfl rfl ?_
    refine g_aload_n 20 (gd rfl) rfl rfl ?_
    refine g_callv (X := _) (As := [.ref (A 2)]) (r := []) (b := A 65) (q := 65) 23 (gd rfl) rfl rfl rfl rfl rfl (ww_o rfl) (Nat.le_of_ble_eq_true rfl) (Nat.zero_le _) (Nat.zero_le _) (k_80_65_2 (by first | exact dq1 hd rfl | exact dq0 hd rfl | exact dq2 hd rfl | exact dq3 hd rfl | omega) hI7 ) (fun e u h => h) (fun v u h => ?_)
    obtain ⟨s20, hI20, hF20, z20, rfl, rfl⟩ := h
    show GG _ _ _ _ _ _ _ _ [.long z20] _ _ _
    refine g_lstore 25 (gd rfl) rfl (Nat.le_of_ble_eq_true rfl) ?_
    refine g_aload_n 26 (gd rfl) rfl rfl ?_
    refine g_getA (q2 := 74) 29 (gd rfl) rfl rfl rfl rfl ?_
    refine g_iload_n 30 (gd rfl) rfl rfl ?_
    refine g_iload 32 (gd rfl) rfl rfl ?_
    refine g_iastore 33 (gd rfl) rfl (n := 32) rfl (in_ix h2 rfl) ?_
    have hI32 := inv_sI (q := 74) (j := x2.toNatClampNeg) hI20 rfl (in_w (-2147483648) 2147483647 h4 rfl)
    refine g_aload_n 34 (gd rfl) rfl rfl ?_
    refine g_getA (q2 := 74) 37 (gd rfl) rfl rfl rfl rfl ?_
    refine g_iload_n 38 (gd rfl) rfl rfl ?_
    refine g_iload 40 (gd rfl) rfl rfl ?_
    refine g_ineg 41 (gd rfl) rfl (fun z40 e40 => ?_)
    have i40 := in_neg (-200000000) 0 e40 h4 rfl
    refine g_iastore 42 (gd rfl) rfl (n := 32) rfl (in_ix h3 rfl) ?_
    have hI41 := inv_sI (q := 74) (j := x3.toNatClampNeg) hI32 rfl (in_w (-2147483648) 2147483647 i40 rfl)
    refine g_ldc 1048576 44 (gd rfl) rfl rfl ?_
    refine g_istore 46 (gd rfl) rfl (Nat.le_of_ble_eq_true rfl) ?_
    refine g_ldc 65536 48 (gd rfl) rfl rfl ?_
    refine g_istore 50 (gd rfl) rfl (Nat.le_of_ble_eq_true rfl) ?_
    have m50 : ((Int32.ofInt 65536)).toInt < ((70000 : Nat) : Int) := by (first | have a0 := oa6 ro_2_1 h3 h2 ((in_c 65536 rfl)) ((in_c 1048576 rfl)) h4 | ((first | have a0 := in_u ro_2_1 | (have a0 := ro_2_1; unfold In at a0)); (first | have a1 := in_u h3 | (have a1 := h3; unfold In at a1)); (first | have a2 := in_u h2 | (have a2 := h2; unfold In at a2)); (first | have a3 := in_u ((in_c 65536 rfl)) | (have a3 := (in_c 65536 rfl); unfold In at a3)); (first | have a4 := in_u ((in_c 1048576 rfl)) | (have a4 := (in_c 1048576 rfl); unfold In at a4)); (first | have a5 := in_u h4 | (have a5 := h4; unfold In at a5)))); have a6 := tx_i2l e2; omega
    exact gg_w (by first | exact Nat.le_of_ble_eq_true rfl | omega) (gg_f (gf_cons rfl (gf_cons rfl (gf_cons rfl (gf_cons rfl (gf_cons rfl (gf_cons rfl (gf_cons rfl (gf_cons rfl gf_nil)))))))) (ct50 70000 (sI (sI s20 74 x2.toNatClampNeg x4) 74 x3.toNatClampNeg z40) z20 (Int32.ofInt 1048576) (Int32.ofInt 65536) hI41 (fr_sI rfl (fr_sI rfl (fr_tr rfl (fr_tr rfl fr_rf hF7) hF20))) (in_w 1 1048576 (in_c 1048576 rfl) rfl) (in_w 0 65536 (in_c 65536 rfl) rfl) m50))
  · skip
    have i11 := z_gt 1 1 c11 i10 rfl
    have c11a := lc_gt e10 c11
    have i11a := lr_lt1 (-9223372036854775808) 199999999 c11a (l_rng z7) i2 rfl
    refine g_ldc2_w 9000000000000000 17 (gd rfl) rfl rfl ?_
    exact g_lreturn (gd rfl) rfl (hP _ _ ⟨s7, hI7, (fr_tr rfl fr_rf hF7), (Int64.ofInt 9000000000000000), rfl, rfl⟩)

def fm_79_65_32 : FM := ([66, 67, 68, 69, 70, 71, 72, 73, 74], [75], [(65, 0), (65, 1), (65, 2), (65, 4), (65, 8)], [(65, 3)])
/-- GraphHouse$Flows.cheapest -/
theorem k_79_65_32 {Z : AmZ} {A : Nat → Nat} {s : GS} {ex : va_W} {d : Nat} {X : AmX} {x2 : Int32} {x3 : Int32} {x4 : Int32} (hd : 6 ≤ d) (hI : Inv s) (h2 : In x2 0 31) (h3 : In x3 0 31) (h4 : In x4 0 200000000) : GC Z d 79 [.ref (A 65), .ref (A 32), .int x2, .int x3, .int x4] (WW Z A s ++ ex) 0 0 (fun v u => ∃ t : GS, Inv t ∧ Fr fm_79_65_32 s t ∧ ∃ z : Int64, v = some (.long z) ∧ u = WW Z A t ++ ex) X := by
  intro post xp hP hX
  obtain ⟨u_32_1, e_32_1⟩ : ∃ w, w = s.2.2.1 32 1 := ⟨_, rfl⟩
  have ro_32_1 := inv_F hI 0 32 rfl e_32_1
  have ct94 : ∀ (k94 : Nat) (sc94 : GS) (y94_5 : Int64) (y94_7 : Int32) (y94_8 : Int32), Inv sc94 → Fr fm_79_65_32 s sc94 → (In y94_7 1 1048576) → (In y94_8 0 160) → 160 - (y94_8).toInt < (k94 : Int) → GG Z (d - 1) 79 post (gx xp) (1 + k94 * 900) 94 (fun j => xlook j [(0, .ref (A 65)), (1, .ref (A 32)), (2, .int x2), (3, .int x3), (4, .int x4), (5, .long y94_5), (7, .int y94_7), (8, .int y94_8)]) [] (WW Z A sc94 ++ ex) 0 0 := by
    intro k94
    induction k94 with
    | zero => intro sc94 y94_5 y94_7 y94_8 hIc94 hFc94 j94_7 j94_8 mm94; exact m_no mm94 j94_8 rfl
    | succ k94 ih94 =>
      intro sc94 y94_5 y94_7 y94_8 hIc94 hFc94 j94_7 j94_8 mm94
      refine gg_w (M := 1 + k94 * 900 + 900) gws ?_
      refine g_iload 96 (gd rfl) rfl rfl ?_
      refine g_aload_n 97 (gd rfl) rfl rfl ?_
      refine g_getI 100 (gd rfl) rfl rfl rfl (fun z97 e97 => ?_)
      have i97 := inv_F hIc94 0 160 rfl e97
      refine g_cmp_ge 103 131 (gd rfl) rfl rfl (fun c100 => ?_) (fun c100 => ?_)
      · skip
        refine g_lload 133 (gd rfl) rfl rfl ?_
        exact g_lreturn (gd rfl) rfl (hP _ _ ⟨sc94, hIc94, hFc94, y94_5, rfl, rfl⟩)
      · skip
        have i100 := r_lt1 0 159 c100 j94_8 i97 rfl
        have i100a := r_lt2 1 160 c100 j94_8 i97 rfl
        refine g_lload 105 (gd rfl) rfl rfl ?_
        refine g_aload_n 106 (gd rfl) rfl rfl ?_
        refine g_getA (q2 := 71) 109 (gd rfl) rfl rfl rfl rfl ?_
        refine g_iload 111 (gd rfl) rfl rfl ?_
        refine g_iaload 112 (gd rfl) rfl (n := 160) rfl (in_ix i100 rfl) (fun z111 e111 => ?_)
        have i111 := inv_I hIc94 (n := 160) (t := 0) (-1000000) 1000000 rfl (in_ix i100 rfl) rfl e111
        refine g_i2l 113 (gd rfl) rfl (fun z112 e112 => ?_)
        have i112 := l_i e112 i111
        refine g_aload_n 114 (gd rfl) rfl rfl ?_
        refine g_getA (q2 := 73) 117 (gd rfl) rfl rfl rfl rfl ?_
        refine g_iload 119 (gd rfl) rfl rfl ?_
        refine g_iaload 120 (gd rfl) rfl (n := 160) rfl (in_ix i100 rfl) (fun z119 e119 => ?_)
        refine g_i2l 121 (gd rfl) rfl (fun z120 e120 => ?_)
        have i120 := l_i e120 (i_rng z119)
        refine g_lmul 122 (gd rfl) rfl (fun z121 e121 => ?_)
        refine g_ladd 123 (gd rfl) rfl (fun z122 e122 => ?_)
        refine g_lstore 125 (gd rfl) rfl (Nat.le_of_ble_eq_true rfl) ?_
        refine g_iinc 128 (gd rfl) rfl rfl (Nat.le_of_ble_eq_true rfl) (fun z125 e125 => ?_)
        have i125 := in_add 1 160 e125 i100 (in_c 1 rfl) rfl rfl
        refine g_goto 94 (gd rfl) rfl ?_
        exact gg_w (by first | exact Nat.le_add_right _ _ | exact gw2 | exact gw3 | exact gwe rfl | exact gwf rfl | exact gwg rfl | exact gwh rfl | omega) (gg_f (gf_cons rfl (gf_cons rfl (gf_cons rfl (gf_cons rfl (gf_cons rfl (gf_cons rfl (gf_cons rfl (gf_cons rfl gf_nil)))))))) (ih94 sc94 z122 y94_7 z125 hIc94 hFc94 (in_w 1 1048576 j94_7 rfl) (in_w 0 160 i125 rfl) (m_up mm94 (t_add e125 i100 (in_c 1 rfl) rfl) (in_w 1 1 (in_c 1 rfl) rfl))))
  have ct50 : ∀ (k50 : Nat) (sc50 : GS) (y50_5 : Int64) (y50_7 : Int32) (y50_8 : Int32), Inv sc50 → Fr fm_79_65_32 s sc50 → (In y50_7 1 1048576) → (In y50_8 0 65536) → (y50_8).toInt < (k50 : Int) → GG Z (d - 1) 79 post (gx xp) (144902 + k50 * 900) 50 (fun j => xlook j [(0, .ref (A 65)), (1, .ref (A 32)), (2, .int x2), (3, .int x3), (4, .int x4), (5, .long y50_5), (7, .int y50_7), (8, .int y50_8)]) [] (WW Z A sc50 ++ ex) 0 0 := by
    intro k50
    induction k50 with
    | zero => intro sc50 y50_5 y50_7 y50_8 hIc50 hFc50 j50_7 j50_8 mm50; exfalso; (first | have a0 := oa3 h3 h2 ro_32_1 | ((first | have a0 := in_u h3 | (have a0 := h3; unfold In at a0)); (first | have a1 := in_u h2 | (have a1 := h2; unfold In at a1)); (first | have a2 := in_u ro_32_1 | (have a2 := ro_32_1; unfold In at a2)))); have a3 := j50_8; unfold In at a3; have a4 := j50_7; unfold In at a4; (first | have a5 := in_u h4 | (have a5 := h4; unfold In at a5)); omega
    | succ k50 ih50 =>
      intro sc50 y50_5 y50_7 y50_8 hIc50 hFc50 j50_7 j50_8 mm50
      refine gg_w (M := 144902 + k50 * 900 + 900) gws ?_
      refine g_iload 52 (gd rfl) rfl rfl ?_
      refine g_if_le 55 91 (gd rfl) rfl rfl (fun c52 => ?_) (fun c52 => ?_)
      · skip
        have i52 := z_le 0 0 c52 j50_8 rfl
        refine g_iconst 0 92 (gd rfl) rfl rfl ?_
        refine g_istore 94 (gd rfl) rfl (Nat.le_of_ble_eq_true rfl) ?_
        exact gg_w (by first | exact Nat.le_add_right _ _ | exact gw2 | exact gw3 | exact gwe rfl | exact gwf rfl | exact gwg rfl | exact gwh rfl | omega) (gg_f (gf_cons rfl (gf_cons rfl (gf_cons rfl (gf_cons rfl (gf_cons rfl (gf_cons rfl (gf_cons rfl (gf_cons rfl gf_nil)))))))) (ct94 161 sc50 y50_5 y50_7 (Int32.ofInt 0) hIc50 hFc50 (in_w 1 1048576 j50_7 rfl) (in_w 0 160 (in_c 0 rfl) rfl) (m_in 161 (in_w 0 160 (in_c 0 rfl) rfl) rfl)))
      · skip
        have i52 := z_gt 1 65536 c52 j50_8 rfl
        refine g_aload_n 56 (gd rfl) rfl rfl ?_
        refine g_aload_n 57 (gd rfl) rfl rfl ?_
        refine g_getI 60 (gd rfl) rfl rfl rfl (fun z57 e57 => ?_)
        have q57 : u_32_1 = z57 := (fr_F e_32_1 hFc50 rfl).trans e57.symm
        subst q57
        refine g_iload 62 (gd rfl) rfl rfl ?_
        refine g_iload 64 (gd rfl) rfl rfl ?_
        refine g_callv (X := _) (As := [.int u_32_1, .int y50_7, .int y50_8]) (r := []) (b := A 65) (q := 65) 67 (gd rfl) rfl rfl rfl rfl rfl (ww_o rfl) (Nat.le_of_ble_eq_true rfl) (Nat.zero_le _) (Nat.zero_le _) (k_81_65 (by first | exact dq1 hd rfl | exact dq0 hd rfl | exact dq2 hd rfl | exact dq3 hd rfl | omega) hIc50 (in_w 0 32 ro_32_1 rfl) (in_w 1 1048576 j50_7 rfl) (in_w 1 65536 i52 rfl)) (fun e u h => h) (fun v u h => ?_)
        obtain ⟨s64, hI64, hF64, rfl, rfl⟩ := h
        show GG _ _ _ _ _ _ _ _ [] _ _ _
        refine g_aload_n 68 (gd rfl) rfl rfl ?_
        refine g_aload_n 69 (gd rfl) rfl rfl ?_
        refine g_getI 72 (gd rfl) rfl rfl rfl (fun z69 e69 => ?_)
        have q69 : u_32_1 = z69 := (fr_F (fr_F e_32_1 hFc50 rfl) hF64 rfl).trans e69.symm
        subst q69
        refine g_iload 74 (gd rfl) rfl rfl ?_
        refine g_callv (X := _) (As := [.int u_32_1, .int y50_8]) (r := []) (b := A 65) (q := 65) 77 (gd rfl) rfl rfl rfl rfl rfl (ww_o rfl) (Nat.le_of_ble_eq_true rfl) (Nat.zero_le _) (Nat.zero_le _) (k_83_65 (by first | exact dq1 hd rfl | exact dq0 hd rfl | exact dq2 hd rfl | exact dq3 hd rfl | omega) hI64 (in_w 0 32 ro_32_1 rfl) (in_w 1 65536 i52 rfl)) (fun e u h => h) (fun v u h => ?_)
        obtain ⟨s74, hI74, hF74, rfl, rfl⟩ := h
        show GG _ _ _ _ _ _ _ _ [] _ _ _
        refine g_iload 79 (gd rfl) rfl rfl ?_
        refine g_istore 81 (gd rfl) rfl (Nat.le_of_ble_eq_true rfl) ?_
        refine g_iload 83 (gd rfl) rfl rfl ?_
        refine g_bipush 16 85 (gd rfl) rfl rfl ?_
        refine g_idiv 86 (gd rfl) rfl (by decide) (fun z85 e85 => ?_)
        have i85 := in_div 0 4096 e85 i52 rfl rfl
        refine g_istore 88 (gd rfl) rfl (Nat.le_of_ble_eq_true rfl) ?_
        refine g_goto 50 (gd rfl) rfl ?_
        have m50 : (z85).toInt < ((k50 : Nat) : Int) := by (first | have a0 := oa6 h3 h2 ro_32_1 i52 j50_7 i85 | ((first | have a0 := in_u h3 | (have a0 := h3; unfold In at a0)); (first | have a1 := in_u h2 | (have a1 := h2; unfold In at a1)); (first | have a2 := in_u ro_32_1 | (have a2 := ro_32_1; unfold In at a2)); (first | have a3 := in_u i52 | (have a3 := i52; unfold In at a3)); (first | have a4 := in_u j50_7 | (have a4 := j50_7; unfold In at a4)); (first | have a5 := in_u i85 | (have a5 := i85; unfold In at a5)))); have a6 := t_div e85 i52 rfl; (first | have a7 := in_u h4 | (have a7 := h4; unfold In at a7)); omega
        exact gg_w (by first | exact Nat.le_add_right _ _ | exact gw2 | exact gw3 | exact gwe rfl | exact gwf rfl | exact gwg rfl | exact gwh rfl | omega) (gg_f (gf_cons rfl (gf_cons rfl (gf_cons rfl (gf_cons rfl (gf_cons rfl (gf_cons rfl (gf_cons rfl (gf_cons rfl gf_nil)))))))) (ih50  s74 y50_5 y50_8 z85 hI74 (fr_tr rfl (fr_tr rfl hFc50 hF64) hF74) (in_w 1 1048576 i52 rfl) (in_w 0 65536 i85 rfl) m50))
  refine g_enter2 (k := 79) (N := 63145802) (by first | exact dq1 hd rfl | exact dq0 hd rfl | exact dq2 hd rfl | exact dq3 hd rfl | omega) rfl (Nat.le_of_ble_eq_true rfl) ?_
  refine g_iload 2 (gd rfl) rfl rfl ?_
  refine g_i2l 3 (gd rfl) rfl (fun z2 e2 => ?_)
  have i2 := l_i e2 h4
  refine g_aload_n 4 (gd rfl) rfl rfl ?_
  refine g_aload_n 5 (gd rfl) rfl rfl ?_
  refine g_iload_n 6 (gd rfl) rfl rfl ?_
  refine g_iload_n 7 (gd rfl) rfl rfl ?_
  refine g_callv (X := _) (As := [.ref (A 32), .int x2, .int x3]) (r := [.long z2]) (b := A 65) (q := 65) 10 (gd rfl) rfl rfl rfl rfl rfl (ww_o rfl) (Nat.le_of_ble_eq_true rfl) (Nat.zero_le _) (Nat.zero_le _) (k_75_65_32 (by first | exact dq1 hd rfl | exact dq0 hd rfl | exact dq2 hd rfl | exact dq3 hd rfl | omega) hI (in_w 0 31 h2 rfl) (in_w 0 31 h3 rfl)) (fun e u h => h) (fun v u h => ?_)
  obtain ⟨s7, hI7, hF7, z7, rfl, rfl⟩ := h
  show GG _ _ _ _ _ _ _ _ [.long z7, .long z2] _ _ _
  refine g_lcmp 11 (gd rfl) rfl (fun z10 e10 => ?_)
  have i10 := lc_in e10
  refine g_if_le 14 18 (gd rfl) rfl rfl (fun c11 => ?_) (fun c11 => ?_)
  · skip
    have i11 := z_le (-1) 0 c11 i10 rfl
    have c11a := lc_le e10 c11
    have i11a := lr_le2 0 9223372036854775807 c11a i2 (l_rng z7) rfl
    refine g_aload_n 19 (gd rfl) rfl rfl ?_
    refine g_aload_n 20 (gd rfl) rfl rfl ?_
    refine g_callv (X := _) (As := [.ref (A 32)]) (r := []) (b := A 65) (q := 65) 23 (gd rfl) rfl rfl rfl rfl rfl (ww_o rfl) (Nat.le_of_ble_eq_true rfl) (Nat.zero_le _) (Nat.zero_le _) (k_80_65_32 (by first | exact dq1 hd rfl | exact dq0 hd rfl | exact dq2 hd rfl | exact dq3 hd rfl | omega) hI7 ) (fun e u h => h) (fun v u h => ?_)
    obtain ⟨s20, hI20, hF20, z20, rfl, rfl⟩ := h
    show GG _ _ _ _ _ _ _ _ [.long z20] _ _ _
    refine g_lstore 25 (gd rfl) rfl (Nat.le_of_ble_eq_true rfl) ?_
    refine g_aload_n 26 (gd rfl) rfl rfl ?_
    refine g_getA (q2 := 74) 29 (gd rfl) rfl rfl rfl rfl ?_
    refine g_iload_n 30 (gd rfl) rfl rfl ?_
    refine g_iload 32 (gd rfl) rfl rfl ?_
    refine g_iastore 33 (gd rfl) rfl (n := 32) rfl (in_ix h2 rfl) ?_
    have hI32 := inv_sI (q := 74) (j := x2.toNatClampNeg) hI20 rfl (in_w (-2147483648) 2147483647 h4 rfl)
    refine g_aload_n 34 (gd rfl) rfl rfl ?_
    refine g_getA (q2 := 74) 37 (gd rfl) rfl rfl rfl rfl ?_
    refine g_iload_n 38 (gd rfl) rfl rfl ?_
    refine g_iload 40 (gd rfl) rfl rfl ?_
    refine g_ineg 41 (gd rfl) rfl (fun z40 e40 => ?_)
    have i40 := in_neg (-200000000) 0 e40 h4 rfl
    refine g_iastore 42 (gd rfl) rfl (n := 32) rfl (in_ix h3 rfl) ?_
    have hI41 := inv_sI (q := 74) (j := x3.toNatClampNeg) hI32 rfl (in_w (-2147483648) 2147483647 i40 rfl)
    refine g_ldc 1048576 44 (gd rfl) rfl rfl ?_
    refine g_istore 46 (gd rfl) rfl (Nat.le_of_ble_eq_true rfl) ?_
    refine g_ldc 65536 48 (gd rfl) rfl rfl ?_
    refine g_istore 50 (gd rfl) rfl (Nat.le_of_ble_eq_true rfl) ?_
    have m50 : ((Int32.ofInt 65536)).toInt < ((70000 : Nat) : Int) := by (first | have a0 := oa6 ro_32_1 h3 h2 ((in_c 65536 rfl)) ((in_c 1048576 rfl)) h4 | ((first | have a0 := in_u ro_32_1 | (have a0 := ro_32_1; unfold In at a0)); (first | have a1 := in_u h3 | (have a1 := h3; unfold In at a1)); (first | have a2 := in_u h2 | (have a2 := h2; unfold In at a2)); (first | have a3 := in_u ((in_c 65536 rfl)) | (have a3 := (in_c 65536 rfl); unfold In at a3)); (first | have a4 := in_u ((in_c 1048576 rfl)) | (have a4 := (in_c 1048576 rfl); unfold In at a4)); (first | have a5 := in_u h4 | (have a5 := h4; unfold In at a5)))); have a6 := tx_i2l e2; omega
    exact gg_w (by first | exact Nat.le_of_ble_eq_true rfl | omega) (gg_f (gf_cons rfl (gf_cons rfl (gf_cons rfl (gf_cons rfl (gf_cons rfl (gf_cons rfl (gf_cons rfl (gf_cons rfl gf_nil)))))))) (ct50 70000 (sI (sI s20 74 x2.toNatClampNeg x4) 74 x3.toNatClampNeg z40) z20 (Int32.ofInt 1048576) (Int32.ofInt 65536) hI41 (fr_sI rfl (fr_sI rfl (fr_tr rfl (fr_tr rfl fr_rf hF7) hF20))) (in_w 1 1048576 (in_c 1048576 rfl) rfl) (in_w 0 65536 (in_c 65536 rfl) rfl) m50))
  · skip
    have i11 := z_gt 1 1 c11 i10 rfl
    have c11a := lc_gt e10 c11
    have i11a := lr_lt1 (-9223372036854775808) 199999999 c11a (l_rng z7) i2 rfl
    refine g_ldc2_w 9000000000000000 17 (gd rfl) rfl rfl ?_
    exact g_lreturn (gd rfl) rfl (hP _ _ ⟨s7, hI7, (fr_tr rfl fr_rf hF7), (Int64.ofInt 9000000000000000), rfl, rfl⟩)

def fm_240_0 : FM := ([9, 10, 11, 12, 13, 14, 15, 39, 40, 41, 42, 43, 44, 45, 61, 62, 63, 64], [], [(2, 4), (32, 4), (60, 0), (60, 1), (60, 2), (60, 3), (60, 7)], [])
def fm_243_0 : FM := ([66, 67, 68, 69, 70, 71, 72, 73, 74], [75], [(65, 0), (65, 1), (65, 2), (65, 4), (65, 8)], [(65, 3)])
/-- GraphHouse.cost -/
theorem k_243_0 {Z : AmZ} {A : Nat → Nat} {s : GS} {ex : va_W} {d : Nat} {x1 : Int32} {x2 : Int32} {x3 : Int32} (hd : 7 ≤ d) (hI : Inv s)  : GC Z d 243 [.ref (A 0), .int x1, .int x2, .int x3] (WW Z A s ++ ex) 3 18 (fun v u => ∃ t : GS, Inv t ∧ Fr fm_243_0 s t ∧ ∃ z : Int64, v = some (.long z) ∧ u = WW Z A t ++ ex) (gE1 Z A ex fm_243_0 s) := by
  intro post xp hP hX
  obtain ⟨u_0_2, e_0_2⟩ : ∃ w, w = s.2.2.1 0 2 := ⟨_, rfl⟩
  have ro_0_2 := inv_F hI (-1) 4000 rfl e_0_2
  obtain ⟨u_2_1, e_2_1⟩ : ∃ w, w = s.2.2.1 2 1 := ⟨_, rfl⟩
  have ro_2_1 := inv_F hI 0 32 rfl e_2_1
  obtain ⟨u_32_1, e_32_1⟩ : ∃ w, w = s.2.2.1 32 1 := ⟨_, rfl⟩
  have ro_32_1 := inv_F hI 0 32 rfl e_32_1
  have ct31 : ∀ (sc31 : GS) , Inv sc31 → Fr fm_243_0 s sc31 → GG Z (d - 1) 243 post (gx xp) (901) 31 (fun j => xlook j [(0, .ref (A 0)), (1, .int x1), (2, .int x2), (3, .int x3)]) [] (WW Z A sc31 ++ ex) 3 18 := by
    intro sc31  hIc31 hFc31 
    refine g_iconst 0 32 (gd rfl) rfl rfl ?_
    refine g_thr (E := am_IA) (y := yX11_allow) 35 (gd rfl) rfl rfl (Or.inl ⟨rfl, rfl, rfl⟩) (by first | exact dq1 hd rfl | exact dq0 hd rfl | exact dq2 hd rfl | exact dq3 hd rfl | omega) (Nat.le_of_ble_eq_true rfl) (Nat.le_of_ble_eq_true rfl) (Nat.le_of_ble_eq_true rfl) (fun c32 => ?_) (fun c32 => ?_)
    · skip
      exact zn_ne c32 (in_c 0 rfl) rfl
    · skip
      exact (hX _ _ ⟨rfl, sc31, hIc31, hFc31, rfl⟩)
  refine g_enter2 (k := 243) (N := 1801) (by first | exact dq1 hd rfl | exact dq0 hd rfl | exact dq2 hd rfl | exact dq3 hd rfl | omega) rfl (Nat.le_of_ble_eq_true rfl) ?_
  refine g_aload_n 1 (gd rfl) rfl rfl ?_
  refine g_callv (X := _) (As := []) (r := []) (b := A 0) (q := 0) 4 (gd rfl) rfl rfl rfl rfl rfl (ww_o rfl) (Nat.le_of_ble_eq_true rfl) (mc := 0) (ms := 0) (Nat.zero_le _) (Nat.zero_le _) (P := fun v u => _) ?_ (fun e u h => h) (fun v u h => h)
  intro po1 xx1 hp1 hx1
  refine g_enter2 (k := 259) (N := 300) (by first | exact dq1 hd rfl | exact dq0 hd rfl | exact dq2 hd rfl | exact dq3 hd rfl | omega) rfl (Nat.le_of_ble_eq_true rfl) ?_
  refine g_aload_n 1 (gd rfl) rfl rfl ?_
  refine g_getI 4 (gd rfl) rfl rfl rfl (fun z1x1 e1x1 => ?_)
  have q1x1 : u_0_2 = z1x1 := (e_0_2).trans e1x1.symm
  subst q1x1
  refine g_iconst (-1) 5 (gd rfl) rfl rfl ?_
  refine g_cmp_ne 8 18 (gd rfl) rfl rfl (fun c1x5 => ?_) (fun c1x5 => ?_)
  · skip
    have i1x5 := r_ne1 0 4000 c1x5 ro_0_2 (in_c (-1) rfl) rfl
    refine g_aload_n 19 (gd rfl) rfl rfl ?_
    refine g_getA (q2 := 32) 22 (gd rfl) rfl rfl rfl rfl ?_
    refine g_areturn (gd rfl) rfl (hp1 _ _ ?_)
    show GG _ _ _ _ _ _ _ _ [.ref (A 32)] _ _ _
    refine g_astore 6 (gd rfl) rfl (Nat.le_of_ble_eq_true rfl) ?_
    refine g_aload 8 (gd rfl) rfl rfl ?_
    refine g_iload_n 9 (gd rfl) rfl rfl ?_
    refine g_iload_n 10 (gd rfl) rfl rfl ?_
    refine g_callv (X := _) (As := [.int x1, .int x2]) (r := []) (b := A 32) (q := 32) 13 (gd rfl) rfl rfl rfl rfl rfl (ww_o rfl) (Nat.le_of_ble_eq_true rfl) (mc := 0) (ms := 0) (Nat.zero_le _) (Nat.zero_le _) (P := fun v u => _) ?_ (fun e u h => h) (fun v u h => h)
    intro po10 xx10 hp10 hx10
    refine g_enter2 (k := 95) (N := 300) (by first | exact dq1 hd rfl | exact dq0 hd rfl | exact dq2 hd rfl | exact dq3 hd rfl | omega) rfl (Nat.le_of_ble_eq_true rfl) ?_
    refine g_aload_n 1 (gd rfl) rfl rfl ?_
    refine g_iload_n 2 (gd rfl) rfl rfl ?_
    refine g_callv (X := _) (As := [.int x1]) (r := []) (b := A 32) (q := 32) 5 (gd rfl) rfl rfl rfl rfl rfl (ww_o rfl) (Nat.le_of_ble_eq_true rfl) (mc := 0) (ms := 0) (Nat.zero_le _) (Nat.zero_le _) (P := fun v u => _) ?_ (fun e u h => h) (fun v u h => h)
    intro po10x2 xx10x2 hp10x2 hx10x2
    refine g_enter2 (k := 94) (N := 300) (by first | exact dq1 hd rfl | exact dq0 hd rfl | exact dq2 hd rfl | exact dq3 hd rfl | omega) rfl (Nat.le_of_ble_eq_true rfl) ?_
    refine g_iload_n 1 (gd rfl) rfl rfl ?_
    refine g_if_lt 4 16 (gd rfl) rfl rfl (fun c10x2x1 => ?_) (fun c10x2x1 => ?_)
    · skip
      have i10x2x1 := z_lt (-2147483648) (-1) c10x2x1 (i_rng x1) rfl
      refine g_iconst 0 17 (gd rfl) rfl rfl ?_
      refine g_ireturn (gd rfl) rfl (nb01 (in_w 0 1 (in_c 0 rfl) rfl)) (hp10x2 _ _ ?_)
      show GG _ _ _ _ _ _ _ _ [.int (Int32.ofInt 0)] _ _ _
      refine g_if_eq 8 25 (gd rfl) rfl rfl (fun c10x5 => ?_) (fun c10x5 => ?_)
      · skip
        refine g_iconst 0 26 (gd rfl) rfl rfl ?_
        refine g_ireturn (gd rfl) rfl (nb01 (in_w 0 1 (in_c 0 rfl) rfl)) (hp10 _ _ ?_)
        show GG _ _ _ _ _ _ _ _ [.int (Int32.ofInt 0)] _ _ _
        refine g_if_eq 16 31 (gd rfl) rfl rfl (fun c13 => ?_) (fun c13 => ?_)
        · skip
          exact gg_w (by first | exact Nat.le_of_ble_eq_true rfl | omega) (gg_f (gf_cons rfl (gf_cons rfl (gf_cons rfl (gf_cons rfl gf_nil)))) (ct31 s  hI fr_rf ))
        · skip
          exact zn_ne c13 (in_c 0 rfl) rfl
      · skip
        exact zn_ne c10x5 (in_c 0 rfl) rfl
    · skip
      have i10x2x1 := z_ge 0 2147483647 c10x2x1 (i_rng x1) rfl
      refine g_iload_n 5 (gd rfl) rfl rfl ?_
      refine g_aload_n 6 (gd rfl) rfl rfl ?_
      refine g_getI 9 (gd rfl) rfl rfl rfl (fun z10x2x6 e10x2x6 => ?_)
      have q10x2x6 : u_32_1 = z10x2x6 := (e_32_1).trans e10x2x6.symm
      subst q10x2x6
      refine g_cmp_ge 12 16 (gd rfl) rfl rfl (fun c10x2x9 => ?_) (fun c10x2x9 => ?_)
      · skip
        refine g_iconst 0 17 (gd rfl) rfl rfl ?_
        refine g_ireturn (gd rfl) rfl (nb01 (in_w 0 1 (in_c 0 rfl) rfl)) (hp10x2 _ _ ?_)
        show GG _ _ _ _ _ _ _ _ [.int (Int32.ofInt 0)] _ _ _
        refine g_if_eq 8 25 (gd rfl) rfl rfl (fun c10x5 => ?_) (fun c10x5 => ?_)
        · skip
          refine g_iconst 0 26 (gd rfl) rfl rfl ?_
          refine g_ireturn (gd rfl) rfl (nb01 (in_w 0 1 (in_c 0 rfl) rfl)) (hp10 _ _ ?_)
          show GG _ _ _ _ _ _ _ _ [.int (Int32.ofInt 0)] _ _ _
          refine g_if_eq 16 31 (gd rfl) rfl rfl (fun c13 => ?_) (fun c13 => ?_)
          · skip
            exact gg_w (by first | exact Nat.le_of_ble_eq_true rfl | omega) (gg_f (gf_cons rfl (gf_cons rfl (gf_cons rfl (gf_cons rfl gf_nil)))) (ct31 s  hI fr_rf ))
          · skip
            exact zn_ne c13 (in_c 0 rfl) rfl
        · skip
          exact zn_ne c10x5 (in_c 0 rfl) rfl
      · skip
        have i10x2x9 := r_lt1 0 31 c10x2x9 i10x2x1 ro_32_1 rfl
        have i10x2x9a := r_lt2 1 32 c10x2x9 i10x2x1 ro_32_1 rfl
        refine g_iconst 1 13 (gd rfl) rfl rfl ?_
        refine g_goto 17 (gd rfl) rfl ?_
        refine g_ireturn (gd rfl) rfl (nb01 (in_w 0 1 (in_c 1 rfl) rfl)) (hp10x2 _ _ ?_)
        show GG _ _ _ _ _ _ _ _ [.int (Int32.ofInt 1)] _ _ _
        refine g_if_eq 8 25 (gd rfl) rfl rfl (fun c10x5 => ?_) (fun c10x5 => ?_)
        · skip
          exact zn_eq c10x5 (in_c 1 rfl) rfl
        · skip
          refine g_aload_n 9 (gd rfl) rfl rfl ?_
          refine g_iload_n 10 (gd rfl) rfl rfl ?_
          refine g_callv (X := _) (As := [.int x2]) (r := []) (b := A 32) (q := 32) 13 (gd rfl) rfl rfl rfl rfl rfl (ww_o rfl) (Nat.le_of_ble_eq_true rfl) (mc := 0) (ms := 0) (Nat.zero_le _) (Nat.zero_le _) (P := fun v u => _) ?_ (fun e u h => h) (fun v u h => h)
          intro po10x10 xx10x10 hp10x10 hx10x10
          refine g_enter2 (k := 94) (N := 300) (by first | exact dq1 hd rfl | exact dq0 hd rfl | exact dq2 hd rfl | exact dq3 hd rfl | omega) rfl (Nat.le_of_ble_eq_true rfl) ?_
          refine g_iload_n 1 (gd rfl) rfl rfl ?_
          refine g_if_lt 4 16 (gd rfl) rfl rfl (fun c10x10x1 => ?_) (fun c10x10x1 => ?_)
          · skip
            have i10x10x1 := z_lt (-2147483648) (-1) c10x10x1 (i_rng x2) rfl
            refine g_iconst 0 17 (gd rfl) rfl rfl ?_
            refine g_ireturn (gd rfl) rfl (nb01 (in_w 0 1 (in_c 0 rfl) rfl)) (hp10x10 _ _ ?_)
            show GG _ _ _ _ _ _ _ _ [.int (Int32.ofInt 0)] _ _ _
            refine g_if_eq 16 25 (gd rfl) rfl rfl (fun c10x13 => ?_) (fun c10x13 => ?_)
            · skip
              refine g_iconst 0 26 (gd rfl) rfl rfl ?_
              refine g_ireturn (gd rfl) rfl (nb01 (in_w 0 1 (in_c 0 rfl) rfl)) (hp10 _ _ ?_)
              show GG _ _ _ _ _ _ _ _ [.int (Int32.ofInt 0)] _ _ _
              refine g_if_eq 16 31 (gd rfl) rfl rfl (fun c13 => ?_) (fun c13 => ?_)
              · skip
                exact gg_w (by first | exact Nat.le_of_ble_eq_true rfl | omega) (gg_f (gf_cons rfl (gf_cons rfl (gf_cons rfl (gf_cons rfl gf_nil)))) (ct31 s  hI fr_rf ))
              · skip
                exact zn_ne c13 (in_c 0 rfl) rfl
            · skip
              exact zn_ne c10x13 (in_c 0 rfl) rfl
          · skip
            have i10x10x1 := z_ge 0 2147483647 c10x10x1 (i_rng x2) rfl
            refine g_iload_n 5 (gd rfl) rfl rfl ?_
            refine g_aload_n 6 (gd rfl) rfl rfl ?_
            refine g_getI 9 (gd rfl) rfl rfl rfl (fun z10x10x6 e10x10x6 => ?_)
            have q10x10x6 : u_32_1 = z10x10x6 := (e_32_1).trans e10x10x6.symm
            subst q10x10x6
            refine g_cmp_ge 12 16 (gd rfl) rfl rfl (fun c10x10x9 => ?_) (fun c10x10x9 => ?_)
            · skip
              have i10x10x9 := r_le2 1 2147483647 c10x10x9 i10x2x9a i10x10x1 rfl
              refine g_iconst 0 17 (gd rfl) rfl rfl ?_
              refine g_ireturn (gd rfl) rfl (nb01 (in_w 0 1 (in_c 0 rfl) rfl)) (hp10x10 _ _ ?_)
              show GG _ _ _ _ _ _ _ _ [.int (Int32.ofInt 0)] _ _ _
              refine g_if_eq 16 25 (gd rfl) rfl rfl (fun c10x13 => ?_) (fun c10x13 => ?_)
              · skip
                refine g_iconst 0 26 (gd rfl) rfl rfl ?_
                refine g_ireturn (gd rfl) rfl (nb01 (in_w 0 1 (in_c 0 rfl) rfl)) (hp10 _ _ ?_)
                show GG _ _ _ _ _ _ _ _ [.int (Int32.ofInt 0)] _ _ _
                refine g_if_eq 16 31 (gd rfl) rfl rfl (fun c13 => ?_) (fun c13 => ?_)
                · skip
                  exact gg_w (by first | exact Nat.le_of_ble_eq_true rfl | omega) (gg_f (gf_cons rfl (gf_cons rfl (gf_cons rfl (gf_cons rfl gf_nil)))) (ct31 s  hI fr_rf ))
                · skip
                  exact zn_ne c13 (in_c 0 rfl) rfl
              · skip
                exact zn_ne c10x13 (in_c 0 rfl) rfl
            · skip
              have i10x10x9 := r_lt1 0 31 c10x10x9 i10x10x1 i10x2x9a rfl
              refine g_iconst 1 13 (gd rfl) rfl rfl ?_
              refine g_goto 17 (gd rfl) rfl ?_
              refine g_ireturn (gd rfl) rfl (nb01 (in_w 0 1 (in_c 1 rfl) rfl)) (hp10x10 _ _ ?_)
              show GG _ _ _ _ _ _ _ _ [.int (Int32.ofInt 1)] _ _ _
              refine g_if_eq 16 25 (gd rfl) rfl rfl (fun c10x13 => ?_) (fun c10x13 => ?_)
              · skip
                exact zn_eq c10x13 (in_c 1 rfl) rfl
              · skip
                refine g_iload_n 17 (gd rfl) rfl rfl ?_
                refine g_iload_n 18 (gd rfl) rfl rfl ?_
                refine g_cmp_eq 21 25 (gd rfl) rfl rfl (fun c10x18 => ?_) (fun c10x18 => ?_)
                · skip
                  refine g_iconst 0 26 (gd rfl) rfl rfl ?_
                  refine g_ireturn (gd rfl) rfl (nb01 (in_w 0 1 (in_c 0 rfl) rfl)) (hp10 _ _ ?_)
                  show GG _ _ _ _ _ _ _ _ [.int (Int32.ofInt 0)] _ _ _
                  refine g_if_eq 16 31 (gd rfl) rfl rfl (fun c13 => ?_) (fun c13 => ?_)
                  · skip
                    exact gg_w (by first | exact Nat.le_of_ble_eq_true rfl | omega) (gg_f (gf_cons rfl (gf_cons rfl (gf_cons rfl (gf_cons rfl gf_nil)))) (ct31 s  hI fr_rf ))
                  · skip
                    exact zn_ne c13 (in_c 0 rfl) rfl
                · skip
                  refine g_iconst 1 22 (gd rfl) rfl rfl ?_
                  refine g_goto 26 (gd rfl) rfl ?_
                  refine g_ireturn (gd rfl) rfl (nb01 (in_w 0 1 (in_c 1 rfl) rfl)) (hp10 _ _ ?_)
                  show GG _ _ _ _ _ _ _ _ [.int (Int32.ofInt 1)] _ _ _
                  refine g_if_eq 16 31 (gd rfl) rfl rfl (fun c13 => ?_) (fun c13 => ?_)
                  · skip
                    exact zn_eq c13 (in_c 1 rfl) rfl
                  · skip
                    refine g_iload_n 17 (gd rfl) rfl rfl ?_
                    refine g_if_lt 20 31 (gd rfl) rfl rfl (fun c17 => ?_) (fun c17 => ?_)
                    · skip
                      have i17 := z_lt (-2147483648) (-1) c17 (i_rng x3) rfl
                      exact gg_w (by first | exact Nat.le_of_ble_eq_true rfl | omega) (gg_f (gf_cons rfl (gf_cons rfl (gf_cons rfl (gf_cons rfl gf_nil)))) (ct31 s  hI fr_rf ))
                    · skip
                      have i17 := z_ge 0 2147483647 c17 (i_rng x3) rfl
                      refine g_iload_n 21 (gd rfl) rfl rfl ?_
                      refine g_ldc_w 200000000 24 (gd rfl) rfl rfl ?_
                      refine g_cmp_gt 27 31 (gd rfl) rfl rfl (fun c24 => ?_) (fun c24 => ?_)
                      · skip
                        have i24 := r_lt2 200000001 2147483647 c24 (in_c 200000000 rfl) i17 rfl
                        exact gg_w (by first | exact Nat.le_of_ble_eq_true rfl | omega) (gg_f (gf_cons rfl (gf_cons rfl (gf_cons rfl (gf_cons rfl gf_nil)))) (ct31 s  hI fr_rf ))
                      · skip
                        have i24 := r_le1 0 200000000 c24 i17 (in_c 200000000 rfl) rfl
                        refine g_iconst 1 28 (gd rfl) rfl rfl ?_
                        refine g_goto 32 (gd rfl) rfl ?_
                        refine g_thr (E := am_IA) (y := yX11_allow) 35 (gd rfl) rfl rfl (Or.inl ⟨rfl, rfl, rfl⟩) (by first | exact dq1 hd rfl | exact dq0 hd rfl | exact dq2 hd rfl | exact dq3 hd rfl | omega) (Nat.le_of_ble_eq_true rfl) (Nat.le_of_ble_eq_true rfl) (Nat.le_of_ble_eq_true rfl) (fun c32 => ?_) (fun c32 => ?_)
                        · skip
                          refine g_aload_n 36 (gd rfl) rfl rfl ?_
                          refine g_getA (q2 := 65) 39 (gd rfl) rfl rfl rfl rfl ?_
                          refine g_aload 41 (gd rfl) rfl rfl ?_
                          refine g_iload_n 42 (gd rfl) rfl rfl ?_
                          refine g_iload_n 43 (gd rfl) rfl rfl ?_
                          refine g_iload_n 44 (gd rfl) rfl rfl ?_
                          refine g_callv (X := _) (As := [.ref (A 32), .int x1, .int x2, .int x3]) (r := []) (b := A 65) (q := 65) 47 (gd rfl) rfl rfl rfl rfl rfl (ww_o rfl) (Nat.le_of_ble_eq_true rfl) (Nat.zero_le _) (Nat.zero_le _) (k_79_65_32 (by first | exact dq1 hd rfl | exact dq0 hd rfl | exact dq2 hd rfl | exact dq3 hd rfl | omega) hI (in_w 0 31 i10x2x9 rfl) (in_w 0 31 i10x10x9 rfl) (in_w 0 200000000 i24 rfl)) (fun e u h => h) (fun v u h => ?_)
                          obtain ⟨s44, hI44, hF44, z44, rfl, rfl⟩ := h
                          show GG _ _ _ _ _ _ _ _ [.long z44] _ _ _
                          exact g_lreturn (gd rfl) rfl (hP _ _ ⟨s44, hI44, (fr_tr rfl fr_rf hF44), z44, rfl, rfl⟩)
                        · skip
                          exact zn_eq c32 (in_c 1 rfl) rfl
  · skip
    have i1x5 := r_eq1 (-1) (-1) c1x5 ro_0_2 (in_c (-1) rfl) rfl
    refine g_aload_n 9 (gd rfl) rfl rfl ?_
    refine g_getA (q2 := 1) 12 (gd rfl) rfl rfl rfl rfl ?_
    refine g_getA (q2 := 2) 15 (gd rfl) rfl rfl rfl rfl ?_
    refine g_goto 22 (gd rfl) rfl ?_
    refine g_areturn (gd rfl) rfl (hp1 _ _ ?_)
    show GG _ _ _ _ _ _ _ _ [.ref (A 2)] _ _ _
    refine g_astore 6 (gd rfl) rfl (Nat.le_of_ble_eq_true rfl) ?_
    refine g_aload 8 (gd rfl) rfl rfl ?_
    refine g_iload_n 9 (gd rfl) rfl rfl ?_
    refine g_iload_n 10 (gd rfl) rfl rfl ?_
    refine g_callv (X := _) (As := [.int x1, .int x2]) (r := []) (b := A 2) (q := 2) 13 (gd rfl) rfl rfl rfl rfl rfl (ww_o rfl) (Nat.le_of_ble_eq_true rfl) (mc := 0) (ms := 0) (Nat.zero_le _) (Nat.zero_le _) (P := fun v u => _) ?_ (fun e u h => h) (fun v u h => h)
    intro po10 xx10 hp10 hx10
    refine g_enter2 (k := 95) (N := 300) (by first | exact dq1 hd rfl | exact dq0 hd rfl | exact dq2 hd rfl | exact dq3 hd rfl | omega) rfl (Nat.le_of_ble_eq_true rfl) ?_
    refine g_aload_n 1 (gd rfl) rfl rfl ?_
    refine g_iload_n 2 (gd rfl) rfl rfl ?_
    refine g_callv (X := _) (As := [.int x1]) (r := []) (b := A 2) (q := 2) 5 (gd rfl) rfl rfl rfl rfl rfl (ww_o rfl) (Nat.le_of_ble_eq_true rfl) (mc := 0) (ms := 0) (Nat.zero_le _) (Nat.zero_le _) (P := fun v u => _) ?_ (fun e u h => h) (fun v u h => h)
    intro po10x2 xx10x2 hp10x2 hx10x2
    refine g_enter2 (k := 94) (N := 300) (by first | exact dq1 hd rfl | exact dq0 hd rfl | exact dq2 hd rfl | exact dq3 hd rfl | omega) rfl (Nat.le_of_ble_eq_true rfl) ?_
    refine g_iload_n 1 (gd rfl) rfl rfl ?_
    refine g_if_lt 4 16 (gd rfl) rfl rfl (fun c10x2x1 => ?_) (fun c10x2x1 => ?_)
    · skip
      have i10x2x1 := z_lt (-2147483648) (-1) c10x2x1 (i_rng x1) rfl
      refine g_iconst 0 17 (gd rfl) rfl rfl ?_
      refine g_ireturn (gd rfl) rfl (nb01 (in_w 0 1 (in_c 0 rfl) rfl)) (hp10x2 _ _ ?_)
      show GG _ _ _ _ _ _ _ _ [.int (Int32.ofInt 0)] _ _ _
      refine g_if_eq 8 25 (gd rfl) rfl rfl (fun c10x5 => ?_) (fun c10x5 => ?_)
      · skip
        refine g_iconst 0 26 (gd rfl) rfl rfl ?_
        refine g_ireturn (gd rfl) rfl (nb01 (in_w 0 1 (in_c 0 rfl) rfl)) (hp10 _ _ ?_)
        show GG _ _ _ _ _ _ _ _ [.int (Int32.ofInt 0)] _ _ _
        refine g_if_eq 16 31 (gd rfl) rfl rfl (fun c13 => ?_) (fun c13 => ?_)
        · skip
          exact gg_w (by first | exact Nat.le_of_ble_eq_true rfl | omega) (gg_f (gf_cons rfl (gf_cons rfl (gf_cons rfl (gf_cons rfl gf_nil)))) (ct31 s  hI fr_rf ))
        · skip
          exact zn_ne c13 (in_c 0 rfl) rfl
      · skip
        exact zn_ne c10x5 (in_c 0 rfl) rfl
    · skip
      have i10x2x1 := z_ge 0 2147483647 c10x2x1 (i_rng x1) rfl
      refine g_iload_n 5 (gd rfl) rfl rfl ?_
      refine g_aload_n 6 (gd rfl) rfl rfl ?_
      refine g_getI 9 (gd rfl) rfl rfl rfl (fun z10x2x6 e10x2x6 => ?_)
      have q10x2x6 : u_2_1 = z10x2x6 := (e_2_1).trans e10x2x6.symm
      subst q10x2x6
      refine g_cmp_ge 12 16 (gd rfl) rfl rfl (fun c10x2x9 => ?_) (fun c10x2x9 => ?_)
      · skip
        refine g_iconst 0 17 (gd rfl) rfl rfl ?_
        refine g_ireturn (gd rfl) rfl (nb01 (in_w 0 1 (in_c 0 rfl) rfl)) (hp10x2 _ _ ?_)
        show GG _ _ _ _ _ _ _ _ [.int (Int32.ofInt 0)] _ _ _
        refine g_if_eq 8 25 (gd rfl) rfl rfl (fun c10x5 => ?_) (fun c10x5 => ?_)
        · skip
          refine g_iconst 0 26 (gd rfl) rfl rfl ?_
          refine g_ireturn (gd rfl) rfl (nb01 (in_w 0 1 (in_c 0 rfl) rfl)) (hp10 _ _ ?_)
          show GG _ _ _ _ _ _ _ _ [.int (Int32.ofInt 0)] _ _ _
          refine g_if_eq 16 31 (gd rfl) rfl rfl (fun c13 => ?_) (fun c13 => ?_)
          · skip
            exact gg_w (by first | exact Nat.le_of_ble_eq_true rfl | omega) (gg_f (gf_cons rfl (gf_cons rfl (gf_cons rfl (gf_cons rfl gf_nil)))) (ct31 s  hI fr_rf ))
          · skip
            exact zn_ne c13 (in_c 0 rfl) rfl
        · skip
          exact zn_ne c10x5 (in_c 0 rfl) rfl
      · skip
        have i10x2x9 := r_lt1 0 31 c10x2x9 i10x2x1 ro_2_1 rfl
        have i10x2x9a := r_lt2 1 32 c10x2x9 i10x2x1 ro_2_1 rfl
        refine g_iconst 1 13 (gd rfl) rfl rfl ?_
        refine g_goto 17 (gd rfl) rfl ?_
        refine g_ireturn (gd rfl) rfl (nb01 (in_w 0 1 (in_c 1 rfl) rfl)) (hp10x2 _ _ ?_)
        show GG _ _ _ _ _ _ _ _ [.int (Int32.ofInt 1)] _ _ _
        refine g_if_eq 8 25 (gd rfl) rfl rfl (fun c10x5 => ?_) (fun c10x5 => ?_)
        · skip
          exact zn_eq c10x5 (in_c 1 rfl) rfl
        · skip
          refine g_aload_n 9 (gd rfl) rfl rfl ?_
          refine g_iload_n 10 (gd rfl) rfl rfl ?_
          refine g_callv (X := _) (As := [.int x2]) (r := []) (b := A 2) (q := 2) 13 (gd rfl) rfl rfl rfl rfl rfl (ww_o rfl) (Nat.le_of_ble_eq_true rfl) (mc := 0) (ms := 0) (Nat.zero_le _) (Nat.zero_le _) (P := fun v u => _) ?_ (fun e u h => h) (fun v u h => h)
          intro po10x10 xx10x10 hp10x10 hx10x10
          refine g_enter2 (k := 94) (N := 300) (by first | exact dq1 hd rfl | exact dq0 hd rfl | exact dq2 hd rfl | exact dq3 hd rfl | omega) rfl (Nat.le_of_ble_eq_true rfl) ?_
          refine g_iload_n 1 (gd rfl) rfl rfl ?_
          refine g_if_lt 4 16 (gd rfl) rfl rfl (fun c10x10x1 => ?_) (fun c10x10x1 => ?_)
          · skip
            have i10x10x1 := z_lt (-2147483648) (-1) c10x10x1 (i_rng x2) rfl
            refine g_iconst 0 17 (gd rfl) rfl rfl ?_
            refine g_ireturn (gd rfl) rfl (nb01 (in_w 0 1 (in_c 0 rfl) rfl)) (hp10x10 _ _ ?_)
            show GG _ _ _ _ _ _ _ _ [.int (Int32.ofInt 0)] _ _ _
            refine g_if_eq 16 25 (gd rfl) rfl rfl (fun c10x13 => ?_) (fun c10x13 => ?_)
            · skip
              refine g_iconst 0 26 (gd rfl) rfl rfl ?_
              refine g_ireturn (gd rfl) rfl (nb01 (in_w 0 1 (in_c 0 rfl) rfl)) (hp10 _ _ ?_)
              show GG _ _ _ _ _ _ _ _ [.int (Int32.ofInt 0)] _ _ _
              refine g_if_eq 16 31 (gd rfl) rfl rfl (fun c13 => ?_) (fun c13 => ?_)
              · skip
                exact gg_w (by first | exact Nat.le_of_ble_eq_true rfl | omega) (gg_f (gf_cons rfl (gf_cons rfl (gf_cons rfl (gf_cons rfl gf_nil)))) (ct31 s  hI fr_rf ))
              · skip
                exact zn_ne c13 (in_c 0 rfl) rfl
            · skip
              exact zn_ne c10x13 (in_c 0 rfl) rfl
          · skip
            have i10x10x1 := z_ge 0 2147483647 c10x10x1 (i_rng x2) rfl
            refine g_iload_n 5 (gd rfl) rfl rfl ?_
            refine g_aload_n 6 (gd rfl) rfl rfl ?_
            refine g_getI 9 (gd rfl) rfl rfl rfl (fun z10x10x6 e10x10x6 => ?_)
            have q10x10x6 : u_2_1 = z10x10x6 := (e_2_1).trans e10x10x6.symm
            subst q10x10x6
            refine g_cmp_ge 12 16 (gd rfl) rfl rfl (fun c10x10x9 => ?_) (fun c10x10x9 => ?_)
            · skip
              have i10x10x9 := r_le2 1 2147483647 c10x10x9 i10x2x9a i10x10x1 rfl
              refine g_iconst 0 17 (gd rfl) rfl rfl ?_
              refine g_ireturn (gd rfl) rfl (nb01 (in_w 0 1 (in_c 0 rfl) rfl)) (hp10x10 _ _ ?_)
              show GG _ _ _ _ _ _ _ _ [.int (Int32.ofInt 0)] _ _ _
              refine g_if_eq 16 25 (gd rfl) rfl rfl (fun c10x13 => ?_) (fun c10x13 => ?_)
              · skip
                refine g_iconst 0 26 (gd rfl) rfl rfl ?_
                refine g_ireturn (gd rfl) rfl (nb01 (in_w 0 1 (in_c 0 rfl) rfl)) (hp10 _ _ ?_)
                show GG _ _ _ _ _ _ _ _ [.int (Int32.ofInt 0)] _ _ _
                refine g_if_eq 16 31 (gd rfl) rfl rfl (fun c13 => ?_) (fun c13 => ?_)
                · skip
                  exact gg_w (by first | exact Nat.le_of_ble_eq_true rfl | omega) (gg_f (gf_cons rfl (gf_cons rfl (gf_cons rfl (gf_cons rfl gf_nil)))) (ct31 s  hI fr_rf ))
                · skip
                  exact zn_ne c13 (in_c 0 rfl) rfl
              · skip
                exact zn_ne c10x13 (in_c 0 rfl) rfl
            · skip
              have i10x10x9 := r_lt1 0 31 c10x10x9 i10x10x1 i10x2x9a rfl
              refine g_iconst 1 13 (gd rfl) rfl rfl ?_
              refine g_goto 17 (gd rfl) rfl ?_
              refine g_ireturn (gd rfl) rfl (nb01 (in_w 0 1 (in_c 1 rfl) rfl)) (hp10x10 _ _ ?_)
              show GG _ _ _ _ _ _ _ _ [.int (Int32.ofInt 1)] _ _ _
              refine g_if_eq 16 25 (gd rfl) rfl rfl (fun c10x13 => ?_) (fun c10x13 => ?_)
              · skip
                exact zn_eq c10x13 (in_c 1 rfl) rfl
              · skip
                refine g_iload_n 17 (gd rfl) rfl rfl ?_
                refine g_iload_n 18 (gd rfl) rfl rfl ?_
                refine g_cmp_eq 21 25 (gd rfl) rfl rfl (fun c10x18 => ?_) (fun c10x18 => ?_)
                · skip
                  refine g_iconst 0 26 (gd rfl) rfl rfl ?_
                  refine g_ireturn (gd rfl) rfl (nb01 (in_w 0 1 (in_c 0 rfl) rfl)) (hp10 _ _ ?_)
                  show GG _ _ _ _ _ _ _ _ [.int (Int32.ofInt 0)] _ _ _
                  refine g_if_eq 16 31 (gd rfl) rfl rfl (fun c13 => ?_) (fun c13 => ?_)
                  · skip
                    exact gg_w (by first | exact Nat.le_of_ble_eq_true rfl | omega) (gg_f (gf_cons rfl (gf_cons rfl (gf_cons rfl (gf_cons rfl gf_nil)))) (ct31 s  hI fr_rf ))
                  · skip
                    exact zn_ne c13 (in_c 0 rfl) rfl
                · skip
                  refine g_iconst 1 22 (gd rfl) rfl rfl ?_
                  refine g_goto 26 (gd rfl) rfl ?_
                  refine g_ireturn (gd rfl) rfl (nb01 (in_w 0 1 (in_c 1 rfl) rfl)) (hp10 _ _ ?_)
                  show GG _ _ _ _ _ _ _ _ [.int (Int32.ofInt 1)] _ _ _
                  refine g_if_eq 16 31 (gd rfl) rfl rfl (fun c13 => ?_) (fun c13 => ?_)
                  · skip
                    exact zn_eq c13 (in_c 1 rfl) rfl
                  · skip
                    refine g_iload_n 17 (gd rfl) rfl rfl ?_
                    refine g_if_lt 20 31 (gd rfl) rfl rfl (fun c17 => ?_) (fun c17 => ?_)
                    · skip
                      have i17 := z_lt (-2147483648) (-1) c17 (i_rng x3) rfl
                      exact gg_w (by first | exact Nat.le_of_ble_eq_true rfl | omega) (gg_f (gf_cons rfl (gf_cons rfl (gf_cons rfl (gf_cons rfl gf_nil)))) (ct31 s  hI fr_rf ))
                    · skip
                      have i17 := z_ge 0 2147483647 c17 (i_rng x3) rfl
                      refine g_iload_n 21 (gd rfl) rfl rfl ?_
                      refine g_ldc_w 200000000 24 (gd rfl) rfl rfl ?_
                      refine g_cmp_gt 27 31 (gd rfl) rfl rfl (fun c24 => ?_) (fun c24 => ?_)
                      · skip
                        have i24 := r_lt2 200000001 2147483647 c24 (in_c 200000000 rfl) i17 rfl
                        exact gg_w (by first | exact Nat.le_of_ble_eq_true rfl | omega) (gg_f (gf_cons rfl (gf_cons rfl (gf_cons rfl (gf_cons rfl gf_nil)))) (ct31 s  hI fr_rf ))
                      · skip
                        have i24 := r_le1 0 200000000 c24 i17 (in_c 200000000 rfl) rfl
                        refine g_iconst 1 28 (gd rfl) rfl rfl ?_
                        refine g_goto 32 (gd rfl) rfl ?_
                        refine g_thr (E := am_IA) (y := yX11_allow) 35 (gd rfl) rfl rfl (Or.inl ⟨rfl, rfl, rfl⟩) (by first | exact dq1 hd rfl | exact dq0 hd rfl | exact dq2 hd rfl | exact dq3 hd rfl | omega) (Nat.le_of_ble_eq_true rfl) (Nat.le_of_ble_eq_true rfl) (Nat.le_of_ble_eq_true rfl) (fun c32 => ?_) (fun c32 => ?_)
                        · skip
                          refine g_aload_n 36 (gd rfl) rfl rfl ?_
                          refine g_getA (q2 := 65) 39 (gd rfl) rfl rfl rfl rfl ?_
                          refine g_aload 41 (gd rfl) rfl rfl ?_
                          refine g_iload_n 42 (gd rfl) rfl rfl ?_
                          refine g_iload_n 43 (gd rfl) rfl rfl ?_
                          refine g_iload_n 44 (gd rfl) rfl rfl ?_
                          refine g_callv (X := _) (As := [.ref (A 2), .int x1, .int x2, .int x3]) (r := []) (b := A 65) (q := 65) 47 (gd rfl) rfl rfl rfl rfl rfl (ww_o rfl) (Nat.le_of_ble_eq_true rfl) (Nat.zero_le _) (Nat.zero_le _) (k_79_65_2 (by first | exact dq1 hd rfl | exact dq0 hd rfl | exact dq2 hd rfl | exact dq3 hd rfl | omega) hI (in_w 0 31 i10x2x9 rfl) (in_w 0 31 i10x10x9 rfl) (in_w 0 200000000 i24 rfl)) (fun e u h => h) (fun v u h => ?_)
                          obtain ⟨s44, hI44, hF44, z44, rfl, rfl⟩ := h
                          show GG _ _ _ _ _ _ _ _ [.long z44] _ _ _
                          exact g_lreturn (gd rfl) rfl (hP _ _ ⟨s44, hI44, (fr_tr rfl fr_rf hF44), z44, rfl, rfl⟩)
                        · skip
                          exact zn_eq c32 (in_c 1 rfl) rfl
end
