/-! methods, by vc.py -/
def fm_374 : FM := ([169, 170, 171], [], [(109, 80)], [])
/-- GraphHouseModel.findGroups -/
theorem k_374 {Z : AmZ} {A : Nat → Nat} {s : GS} {ex : va_W} {d : Nat} {X : AmX}  (hd : 5 ≤ d) (hI : Inv s)  : GC Z d 374 [.ref (A 109)] (WW Z A s ++ ex) 0 0 (fun v u => ∃ t : GS, Inv t ∧ Fr fm_374 s t ∧ v = none ∧ u = WW Z A t ++ ex) X := by
  intro post xp hP hX
  obtain ⟨u_109_19, e_109_19⟩ : ∃ w, w = s.2.2.1 109 19 := ⟨_, rfl⟩
  have ro_109_19 := inv_F hI 0 160 rfl e_109_19
  obtain ⟨u_109_20, e_109_20⟩ : ∃ w, w = s.2.2.1 109 20 := ⟨_, rfl⟩
  have ro_109_20 := inv_F hI 0 32 rfl e_109_20
  have ct204 : ∀ (k204 : Nat) (sc204 : GS) (y204_1 : Int32) (y204_2 : Int32), Inv sc204 → Fr fm_374 s sc204 → (In y204_1 0 1) → (In y204_2 0 20) → 20 - (y204_2).toInt < (k204 : Int) → GG Z (d - 1) 374 post (gx xp) (1 + k204 * 32401) 204 (fun j => xlook j [(0, .ref (A 109)), (1, .int y204_1), (2, .int y204_2)]) [] (WW Z A sc204 ++ ex) 0 0 := by
    intro k204
    induction k204 with
    | zero => intro sc204 y204_1 y204_2 hIc204 hFc204 j204_1 j204_2 mm204; exact m_no mm204 j204_2 rfl
    | succ k204 ih204 =>
      intro sc204 y204_1 y204_2 hIc204 hFc204 j204_1 j204_2 mm204
      refine gg_w (M := 1 + k204 * 32401 + 32401) (by omega) ?_
      have ct218 : ∀ (k218 : Nat) (sc218 : GS) (y218_1 : Int32) (y218_3 : Int32), Inv sc218 → Fr fm_374 s sc218 → (In y218_1 0 1) → (In y204_2 0 19) → (In y218_3 0 32) → 32 - (y218_3).toInt < (k218 : Int) → GG Z (d - 1) 374 post (gx xp) (1 + k204 * 32401 + 1 + k218 * 900) 218 (fun j => xlook j [(0, .ref (A 109)), (1, .int y218_1), (2, .int y204_2), (3, .int y218_3)]) [] (WW Z A sc218 ++ ex) 0 0 := by
        intro k218
        induction k218 with
        | zero => intro sc218 y218_1 y218_3 hIc218 hFc218 j218_1 j218_2 j218_3 mm218; exact m_no mm218 j218_3 rfl
        | succ k218 ih218 =>
          intro sc218 y218_1 y218_3 hIc218 hFc218 j218_1 j218_2 j218_3 mm218
          refine gg_w (M := 1 + k204 * 32401 + 1 + k218 * 900 + 900) (by omega) ?_
          refine g_iload_n 219 (gd rfl) rfl rfl ?_
          refine g_aload_n 220 (gd rfl) rfl rfl ?_
          refine g_getI 223 (gd rfl) rfl rfl rfl (fun z220 e220 => ?_)
          have q220 : u_109_20 = z220 := (fr_F e_109_20 hFc218 rfl).trans e220.symm
          subst q220
          refine g_cmp_ge 226 268 (gd rfl) rfl rfl (fun c223 => ?_) (fun c223 => ?_)
          · skip
            refine g_iinc 271 (gd rfl) rfl rfl (Nat.le_of_ble_eq_true rfl) (fun z268 e268 => ?_)
            have i268 := in_add 1 20 e268 j218_2 (in_c 1 rfl) rfl rfl
            refine g_goto 204 (gd rfl) rfl ?_
            exact gg_w (by omega) (gg_f (gf_cons rfl (gf_cons rfl (gf_cons rfl gf_nil))) (ih204 sc218 y218_1 z268 hIc218 hFc218 (in_w 0 1 j218_1 rfl) (in_w 0 20 i268 rfl) (m_up mm204 (t_add e268 j218_2 (in_c 1 rfl) rfl) (in_w 1 1 (in_c 1 rfl) rfl))))
          · skip
            have i223 := r_lt1 0 31 c223 j218_3 ro_109_20 rfl
            have i223a := r_lt2 1 32 c223 j218_3 ro_109_20 rfl
            refine g_aload_n 227 (gd rfl) rfl rfl ?_
            refine g_iload_n 228 (gd rfl) rfl rfl ?_
            refine g_callv (X := _) (As := [.int y218_3]) (r := []) (b := A 109) (q := 109) 231 (gd rfl) rfl rfl rfl rfl rfl (ww_o rfl) (Nat.le_of_ble_eq_true rfl) (Nat.zero_le _) (Nat.zero_le _) (k_376 (by omega) hIc218 (in_w 0 31 i223 rfl)) (fun e u h => h) (fun v u h => ?_)
            obtain ⟨z228, rfl, rfl, i228⟩ := h
            show GG _ _ _ _ _ _ _ _ [.int z228] _ _ _
            refine g_istore 233 (gd rfl) rfl (Nat.le_of_ble_eq_true rfl) ?_
            refine g_iload_n 234 (gd rfl) rfl rfl ?_
            refine g_if_ne 237 248 (gd rfl) rfl rfl (fun c234 => ?_) (fun c234 => ?_)
            · skip
              have i234 := z_ne 1 1 c234 j218_1 rfl
              refine g_iconst 1 249 (gd rfl) rfl rfl ?_
              refine g_goto 253 (gd rfl) rfl ?_
              refine g_istore_n 254 (gd rfl) rfl (Nat.le_of_ble_eq_true rfl) ?_
              refine g_aload_n 255 (gd rfl) rfl rfl ?_
              refine g_getA (q2 := 169) 258 (gd rfl) rfl rfl rfl rfl ?_
              refine g_iload_n 259 (gd rfl) rfl rfl ?_
              refine g_iload 261 (gd rfl) rfl rfl ?_
              refine g_iastore 262 (gd rfl) rfl (n := 32) rfl (in_ix i223 rfl) ?_
              have hI261 := inv_sI (q := 169) (j := y218_3.toNatClampNeg) hIc218 rfl (in_w (-2147483648) 2147483647 i228 rfl)
              refine g_iinc 265 (gd rfl) rfl rfl (Nat.le_of_ble_eq_true rfl) (fun z262 e262 => ?_)
              have i262 := in_add 1 32 e262 i223 (in_c 1 rfl) rfl rfl
              refine g_goto 218 (gd rfl) rfl ?_
              exact gg_w (by omega) (gg_f (gf_cons rfl (gf_cons rfl (gf_cons rfl (gf_cons rfl gf_nil)))) (ih218 (sI sc218 169 y218_3.toNatClampNeg z228) (Int32.ofInt 1) z262 hI261 (fr_sI rfl hFc218) (in_w 0 1 (in_c 1 rfl) rfl) (in_w 0 19 j218_2 rfl) (in_w 0 32 i262 rfl) (m_up mm218 (t_add e262 i223 (in_c 1 rfl) rfl) (in_w 1 1 (in_c 1 rfl) rfl))))
            · skip
              have i234 := z_eq 0 0 c234 j218_1 rfl
              refine g_iload 239 (gd rfl) rfl rfl ?_
              refine g_aload_n 240 (gd rfl) rfl rfl ?_
              refine g_getA (q2 := 169) 243 (gd rfl) rfl rfl rfl rfl ?_
              refine g_iload_n 244 (gd rfl) rfl rfl ?_
              refine g_iaload 245 (gd rfl) rfl (n := 32) rfl (in_ix i223 rfl) (fun z244 e244 => ?_)
              refine g_cmp_eq 248 252 (gd rfl) rfl rfl (fun c245 => ?_) (fun c245 => ?_)
              · skip
                refine g_iconst 0 253 (gd rfl) rfl rfl ?_
                refine g_istore_n 254 (gd rfl) rfl (Nat.le_of_ble_eq_true rfl) ?_
                refine g_aload_n 255 (gd rfl) rfl rfl ?_
                refine g_getA (q2 := 169) 258 (gd rfl) rfl rfl rfl rfl ?_
                refine g_iload_n 259 (gd rfl) rfl rfl ?_
                refine g_iload 261 (gd rfl) rfl rfl ?_
                refine g_iastore 262 (gd rfl) rfl (n := 32) rfl (in_ix i223 rfl) ?_
                have hI261 := inv_sI (q := 169) (j := y218_3.toNatClampNeg) hIc218 rfl (in_w (-2147483648) 2147483647 i228 rfl)
                refine g_iinc 265 (gd rfl) rfl rfl (Nat.le_of_ble_eq_true rfl) (fun z262 e262 => ?_)
                have i262 := in_add 1 32 e262 i223 (in_c 1 rfl) rfl rfl
                refine g_goto 218 (gd rfl) rfl ?_
                exact gg_w (by omega) (gg_f (gf_cons rfl (gf_cons rfl (gf_cons rfl (gf_cons rfl gf_nil)))) (ih218 (sI sc218 169 y218_3.toNatClampNeg z228) (Int32.ofInt 0) z262 hI261 (fr_sI rfl hFc218) (in_w 0 1 (in_c 0 rfl) rfl) (in_w 0 19 j218_2 rfl) (in_w 0 32 i262 rfl) (m_up mm218 (t_add e262 i223 (in_c 1 rfl) rfl) (in_w 1 1 (in_c 1 rfl) rfl))))
              · skip
                refine g_iconst 1 249 (gd rfl) rfl rfl ?_
                refine g_goto 253 (gd rfl) rfl ?_
                refine g_istore_n 254 (gd rfl) rfl (Nat.le_of_ble_eq_true rfl) ?_
                refine g_aload_n 255 (gd rfl) rfl rfl ?_
                refine g_getA (q2 := 169) 258 (gd rfl) rfl rfl rfl rfl ?_
                refine g_iload_n 259 (gd rfl) rfl rfl ?_
                refine g_iload 261 (gd rfl) rfl rfl ?_
                refine g_iastore 262 (gd rfl) rfl (n := 32) rfl (in_ix i223 rfl) ?_
                have hI261 := inv_sI (q := 169) (j := y218_3.toNatClampNeg) hIc218 rfl (in_w (-2147483648) 2147483647 i228 rfl)
                refine g_iinc 265 (gd rfl) rfl rfl (Nat.le_of_ble_eq_true rfl) (fun z262 e262 => ?_)
                have i262 := in_add 1 32 e262 i223 (in_c 1 rfl) rfl rfl
                refine g_goto 218 (gd rfl) rfl ?_
                exact gg_w (by omega) (gg_f (gf_cons rfl (gf_cons rfl (gf_cons rfl (gf_cons rfl gf_nil)))) (ih218 (sI sc218 169 y218_3.toNatClampNeg z228) (Int32.ofInt 1) z262 hI261 (fr_sI rfl hFc218) (in_w 0 1 (in_c 1 rfl) rfl) (in_w 0 19 j218_2 rfl) (in_w 0 32 i262 rfl) (m_up mm218 (t_add e262 i223 (in_c 1 rfl) rfl) (in_w 1 1 (in_c 1 rfl) rfl))))
      refine g_iload_n 205 (gd rfl) rfl rfl ?_
      refine g_bipush 20 207 (gd rfl) rfl rfl ?_
      refine g_cmp_ge 210 274 (gd rfl) rfl rfl (fun c207 => ?_) (fun c207 => ?_)
      · skip
        have i207 := r_le2 20 20 c207 (in_c 20 rfl) j204_2 rfl
        exact g_return (gd rfl) rfl (hP _ _ ⟨sc204, hIc204, hFc204, rfl, rfl⟩)
      · skip
        have i207 := r_lt1 0 19 c207 j204_2 (in_c 20 rfl) rfl
        refine g_iload_n 211 (gd rfl) rfl rfl ?_
        refine g_if_eq 214 274 (gd rfl) rfl rfl (fun c211 => ?_) (fun c211 => ?_)
        · skip
          have i211 := z_eq 0 0 c211 j204_1 rfl
          exact g_return (gd rfl) rfl (hP _ _ ⟨sc204, hIc204, hFc204, rfl, rfl⟩)
        · skip
          have i211 := z_ne 1 1 c211 j204_1 rfl
          refine g_iconst 0 215 (gd rfl) rfl rfl ?_
          refine g_istore_n 216 (gd rfl) rfl (Nat.le_of_ble_eq_true rfl) ?_
          refine g_iconst 0 217 (gd rfl) rfl rfl ?_
          refine g_istore_n 218 (gd rfl) rfl (Nat.le_of_ble_eq_true rfl) ?_
          exact gg_w (by omega) (gg_f (gf_cons rfl (gf_cons rfl (gf_cons rfl (gf_cons rfl gf_nil)))) (ct218 33 sc204 (Int32.ofInt 0) (Int32.ofInt 0) hIc204 hFc204 (in_w 0 1 (in_c 0 rfl) rfl) (in_w 0 19 i207 rfl) (in_w 0 32 (in_c 0 rfl) rfl) (m_in 33 (in_w 0 32 (in_c 0 rfl) rfl) rfl)))
  have ct59 : ∀ (k59 : Nat) (sc59 : GS) (y59_1 : Int32) (w59_109_80 : Int32), Inv sc59 → Fr fm_374 s sc59 → (In y59_1 0 160) → (w59_109_80 = sc59.2.2.1 109 80) → ((w59_109_80).toInt ≤ (y59_1).toInt) → 160 - (y59_1).toInt < (k59 : Int) → GG Z (d - 1) 374 post (gx xp) (680423 + k59 * 900) 59 (fun j => xlook j [(0, .ref (A 109)), (1, .int y59_1)]) [] (WW Z A sc59 ++ ex) 0 0 := by
    intro k59
    induction k59 with
    | zero => intro sc59 y59_1 w59_109_80 hIc59 hFc59 j59_1 v59_109_80 n59_0 mm59; exact m_no mm59 j59_1 rfl
    | succ k59 ih59 =>
      intro sc59 y59_1 w59_109_80 hIc59 hFc59 j59_1 v59_109_80 n59_0 mm59
      refine gg_w (M := 680423 + k59 * 900 + 900) (by omega) ?_
      refine g_iload_n 60 (gd rfl) rfl rfl ?_
      refine g_sipush 160 63 (gd rfl) rfl rfl ?_
      refine g_cmp_ge 66 200 (gd rfl) rfl rfl (fun c63 => ?_) (fun c63 => ?_)
      · skip
        have i63 := r_le2 160 160 c63 (in_c 160 rfl) j59_1 rfl
        refine g_iconst 1 201 (gd rfl) rfl rfl ?_
        refine g_istore_n 202 (gd rfl) rfl (Nat.le_of_ble_eq_true rfl) ?_
        refine g_iconst 0 203 (gd rfl) rfl rfl ?_
        refine g_istore_n 204 (gd rfl) rfl (Nat.le_of_ble_eq_true rfl) ?_
        exact gg_w (by omega) (gg_f (gf_cons rfl (gf_cons rfl (gf_cons rfl gf_nil))) (ct204 21 sc59 (Int32.ofInt 1) (Int32.ofInt 0) hIc59 hFc59 (in_w 0 1 (in_c 1 rfl) rfl) (in_w 0 20 (in_c 0 rfl) rfl) (m_in 21 (in_w 0 20 (in_c 0 rfl) rfl) rfl)))
      · skip
        have i63 := r_lt1 0 159 c63 j59_1 (in_c 160 rfl) rfl
        refine g_aload_n 67 (gd rfl) rfl rfl ?_
        refine g_iload_n 68 (gd rfl) rfl rfl ?_
        refine g_callv (X := _) (As := [.int y59_1]) (r := []) (b := A 109) (q := 109) 71 (gd rfl) rfl rfl rfl rfl rfl (ww_o rfl) (Nat.le_of_ble_eq_true rfl) (mc := 0) (ms := 0) (Nat.zero_le _) (Nat.zero_le _) (P := fun v u => _) ?_ (fun e u h => h) (fun v u h => h)
        intro po68 xx68 hp68 hx68
        refine g_enter2 (k := 288) (N := 300) (by omega) rfl (Nat.le_of_ble_eq_true rfl) ?_
        refine g_aload_n 1 (gd rfl) rfl rfl ?_
        refine g_getA (q2 := 112) 4 (gd rfl) rfl rfl rfl rfl ?_
        refine g_aload_n 5 (gd rfl) rfl rfl ?_
        refine g_getI 8 (gd rfl) rfl rfl rfl (fun z68x5 e68x5 => ?_)
        have q68x5 : u_109_19 = z68x5 := (fr_F e_109_19 hFc59 rfl).trans e68x5.symm
        subst q68x5
        refine g_iload_n 9 (gd rfl) rfl rfl ?_
        refine g_iadd 10 (gd rfl) rfl (fun z68x9 e68x9 => ?_)
        have i68x9 := in_add 0 319 e68x9 ro_109_19 i63 rfl rfl
        refine g_baload 11 (gd rfl) rfl (n := 480) rfl (in_ix i68x9 rfl) (fun z68x10 e68x10 => ?_)
        have i68x10 := inv_I hIc59 (n := 480) (t := 3) 0 1 rfl (in_ix i68x9 rfl) rfl e68x10
        refine g_if_eq 14 43 (gd rfl) rfl rfl (fun c68x11 => ?_) (fun c68x11 => ?_)
        · skip
          have i68x11 := z_eq 0 0 c68x11 i68x10 rfl
          refine g_iconst 0 44 (gd rfl) rfl rfl ?_
          refine g_ireturn (gd rfl) rfl (nb01 (in_w 0 1 (in_c 0 rfl) rfl)) (hp68 _ _ ?_)
          show GG _ _ _ _ _ _ _ _ [.int (Int32.ofInt 0)] _ _ _
          refine g_if_eq 74 194 (gd rfl) rfl rfl (fun c71 => ?_) (fun c71 => ?_)
          · skip
            refine g_iinc 197 (gd rfl) rfl rfl (Nat.le_of_ble_eq_true rfl) (fun z194 e194 => ?_)
            have i194 := in_add 1 160 e194 i63 (in_c 1 rfl) rfl rfl
            refine g_goto 59 (gd rfl) rfl ?_
            have n59 : (w59_109_80).toInt ≤ (z194).toInt := by have a0 := ro_109_20; unfold In at a0; have a1 := ro_109_19; unfold In at a1; have a2 := (inv_F hIc59 0 160 rfl v59_109_80); unfold In at a2; have a3 := i63; unfold In at a3; have a4 := i194; unfold In at a4; have a5 := t_add e194 i63 (in_c 1 rfl) rfl; have a6 := (in_c 1 rfl); unfold In at a6; have a7 := i68x9; unfold In at a7; have a8 := t_add e68x9 ro_109_19 i63 rfl; omega
            exact gg_w (by omega) (gg_f (gf_cons rfl (gf_cons rfl gf_nil)) (ih59 sc59 z194 w59_109_80 hIc59 hFc59 (in_w 0 160 i194 rfl) v59_109_80 n59 (m_up mm59 (t_add e194 i63 (in_c 1 rfl) rfl) (in_w 1 1 (in_c 1 rfl) rfl))))
          · skip
            exact zn_ne c71 (in_c 0 rfl) rfl
        · skip
          have i68x11 := z_ne 1 1 c68x11 i68x10 rfl
          refine g_aload_n 15 (gd rfl) rfl rfl ?_
          refine g_getA (q2 := 113) 18 (gd rfl) rfl rfl rfl rfl ?_
          refine g_aload_n 19 (gd rfl) rfl rfl ?_
          refine g_getI 22 (gd rfl) rfl rfl rfl (fun z68x19 e68x19 => ?_)
          have q68x19 : u_109_19 = z68x19 := (fr_F e_109_19 hFc59 rfl).trans e68x19.symm
          subst q68x19
          refine g_iload_n 23 (gd rfl) rfl rfl ?_
          refine g_iadd 24 (gd rfl) rfl (fun z68x23 e68x23 => ?_)
          have i68x23 := in_add 0 319 e68x23 ro_109_19 i63 rfl rfl
          refine g_iaload 25 (gd rfl) rfl (n := 480) rfl (in_ix i68x23 rfl) (fun z68x24 e68x24 => ?_)
          have i68x24 := inv_I hIc59 (n := 480) (t := 0) 0 31 rfl (in_ix i68x23 rfl) rfl e68x24
          refine g_aload_n 26 (gd rfl) rfl rfl ?_
          refine g_getA (q2 := 114) 29 (gd rfl) rfl rfl rfl rfl ?_
          refine g_aload_n 30 (gd rfl) rfl rfl ?_
          refine g_getI 33 (gd rfl) rfl rfl rfl (fun z68x30 e68x30 => ?_)
          have q68x30 : u_109_19 = z68x30 := (fr_F e_109_19 hFc59 rfl).trans e68x30.symm
          subst q68x30
          refine g_iload_n 34 (gd rfl) rfl rfl ?_
          refine g_iadd 35 (gd rfl) rfl (fun z68x34 e68x34 => ?_)
          have i68x34 := in_add 0 319 e68x34 ro_109_19 i63 rfl rfl
          refine g_iaload 36 (gd rfl) rfl (n := 480) rfl (in_ix i68x34 rfl) (fun z68x35 e68x35 => ?_)
          have i68x35 := inv_I hIc59 (n := 480) (t := 0) 0 31 rfl (in_ix i68x34 rfl) rfl e68x35
          refine g_cmp_eq 39 43 (gd rfl) rfl rfl (fun c68x36 => ?_) (fun c68x36 => ?_)
          · skip
            refine g_iconst 0 44 (gd rfl) rfl rfl ?_
            refine g_ireturn (gd rfl) rfl (nb01 (in_w 0 1 (in_c 0 rfl) rfl)) (hp68 _ _ ?_)
            show GG _ _ _ _ _ _ _ _ [.int (Int32.ofInt 0)] _ _ _
            refine g_if_eq 74 194 (gd rfl) rfl rfl (fun c71 => ?_) (fun c71 => ?_)
            · skip
              refine g_iinc 197 (gd rfl) rfl rfl (Nat.le_of_ble_eq_true rfl) (fun z194 e194 => ?_)
              have i194 := in_add 1 160 e194 i63 (in_c 1 rfl) rfl rfl
              refine g_goto 59 (gd rfl) rfl ?_
              have n59 : (w59_109_80).toInt ≤ (z194).toInt := by have a0 := ro_109_20; unfold In at a0; have a1 := ro_109_19; unfold In at a1; have a2 := (inv_F hIc59 0 160 rfl v59_109_80); unfold In at a2; have a3 := i63; unfold In at a3; have a4 := i194; unfold In at a4; have a5 := t_add e194 i63 (in_c 1 rfl) rfl; have a6 := (in_c 1 rfl); unfold In at a6; have a7 := i68x34; unfold In at a7; have a8 := t_add e68x34 ro_109_19 i63 rfl; have a9 := i68x23; unfold In at a9; have a10 := t_add e68x23 ro_109_19 i63 rfl; have a11 := i68x9; unfold In at a11; have a12 := t_add e68x9 ro_109_19 i63 rfl; omega
              exact gg_w (by omega) (gg_f (gf_cons rfl (gf_cons rfl gf_nil)) (ih59 sc59 z194 w59_109_80 hIc59 hFc59 (in_w 0 160 i194 rfl) v59_109_80 n59 (m_up mm59 (t_add e194 i63 (in_c 1 rfl) rfl) (in_w 1 1 (in_c 1 rfl) rfl))))
            · skip
              exact zn_ne c71 (in_c 0 rfl) rfl
          · skip
            refine g_iconst 1 40 (gd rfl) rfl rfl ?_
            refine g_goto 44 (gd rfl) rfl ?_
            refine g_ireturn (gd rfl) rfl (nb01 (in_w 0 1 (in_c 1 rfl) rfl)) (hp68 _ _ ?_)
            show GG _ _ _ _ _ _ _ _ [.int (Int32.ofInt 1)] _ _ _
            refine g_if_eq 74 194 (gd rfl) rfl rfl (fun c71 => ?_) (fun c71 => ?_)
            · skip
              exact zn_eq c71 (in_c 1 rfl) rfl
            · skip
              refine g_aload_n 75 (gd rfl) rfl rfl ?_
              refine g_dup 76 (gd rfl) rfl rfl ?_
              refine g_getI 79 (gd rfl) rfl rfl rfl (fun z76 e76 => ?_)
              have q76 : w59_109_80 = z76 := (v59_109_80).trans e76.symm
              subst q76
              refine g_iconst 1 80 (gd rfl) rfl rfl ?_
              refine g_iadd 81 (gd rfl) rfl (fun z80 e80 => ?_)
              have i80 := in_add 1 161 e80 (inv_F hIc59 0 160 rfl v59_109_80) (in_c 1 rfl) rfl rfl
              have i81 : In z80 0 160 := by have a0 := ro_109_20; unfold In at a0; have a1 := ro_109_19; unfold In at a1; have a2 := (inv_F hIc59 0 160 rfl v59_109_80); unfold In at a2; have a3 := i63; unfold In at a3; have a4 := i80; unfold In at a4; have a5 := t_add e80 (inv_F hIc59 0 160 rfl v59_109_80) (in_c 1 rfl) rfl; have a6 := (in_c 1 rfl); unfold In at a6; have a7 := i68x34; unfold In at a7; have a8 := t_add e68x34 ro_109_19 i63 rfl; have a9 := i68x23; unfold In at a9; have a10 := t_add e68x23 ro_109_19 i63 rfl; have a11 := i68x9; unfold In at a11; have a12 := t_add e68x9 ro_109_19 i63 rfl; exact ⟨by omega, by omega⟩
              refine g_putI 84 (gd rfl) rfl rfl rfl rfl ?_
              have hI81 := inv_sF (q := 109) (j := 80) hIc59 rfl (in_w 0 160 i81 rfl)
              refine g_aload_n 85 (gd rfl) rfl rfl ?_
              refine g_getA (q2 := 170) 88 (gd rfl) rfl rfl rfl rfl ?_
              refine g_aload_n 89 (gd rfl) rfl rfl ?_
              refine g_getA (q2 := 113) 92 (gd rfl) rfl rfl rfl rfl ?_
              refine g_aload_n 93 (gd rfl) rfl rfl ?_
              refine g_getI 96 (gd rfl) rfl rfl rfl (fun z93 e93 => ?_)
              have q93 : u_109_19 = z93 := (sF_ne rfl (fr_F e_109_19 hFc59 rfl)).trans e93.symm
              subst q93
              refine g_iload_n 97 (gd rfl) rfl rfl ?_
              refine g_iadd 98 (gd rfl) rfl (fun z97 e97 => ?_)
              have i97 := in_add 0 319 e97 ro_109_19 i63 rfl rfl
              refine g_iaload 99 (gd rfl) rfl (n := 480) rfl (in_ix i97 rfl) (fun z98 e98 => ?_)
              have i98 := inv_I hI81 (n := 480) (t := 0) 0 31 rfl (in_ix i97 rfl) rfl e98
              refine g_dup2 100 (gd rfl) rfl rfl rfl ?_
              refine g_iaload 101 (gd rfl) rfl (n := 32) rfl (in_ix i98 rfl) (fun z100 e100 => ?_)
              refine g_iconst 1 102 (gd rfl) rfl rfl ?_
              refine g_iadd 103 (gd rfl) rfl (fun z102 e102 => ?_)
              refine g_iastore 104 (gd rfl) rfl (n := 32) rfl (in_ix i98 rfl) ?_
              have hI103 := inv_sI (q := 170) (j := z98.toNatClampNeg) hI81 rfl (in_w (-2147483648) 2147483647 (i_rng z102) rfl)
              refine g_aload_n 105 (gd rfl) rfl rfl ?_
              refine g_getA (q2 := 170) 108 (gd rfl) rfl rfl rfl rfl ?_
              refine g_aload_n 109 (gd rfl) rfl rfl ?_
              refine g_getA (q2 := 114) 112 (gd rfl) rfl rfl rfl rfl ?_
              refine g_aload_n 113 (gd rfl) rfl rfl ?_
              refine g_getI 116 (gd rfl) rfl rfl rfl (fun z113 e113 => ?_)
              have q113 : u_109_19 = z113 := (sI_F (sF_ne rfl (fr_F e_109_19 hFc59 rfl))).trans e113.symm
              subst q113
              refine g_iload_n 117 (gd rfl) rfl rfl ?_
              refine g_iadd 118 (gd rfl) rfl (fun z117 e117 => ?_)
              have i117 := in_add 0 319 e117 ro_109_19 i63 rfl rfl
              refine g_iaload 119 (gd rfl) rfl (n := 480) rfl (in_ix i117 rfl) (fun z118 e118 => ?_)
              have i118 := inv_I hI103 (n := 480) (t := 0) 0 31 rfl (in_ix i117 rfl) rfl e118
              refine g_dup2 120 (gd rfl) rfl rfl rfl ?_
              refine g_iaload 121 (gd rfl) rfl (n := 32) rfl (in_ix i118 rfl) (fun z120 e120 => ?_)
              refine g_iconst 1 122 (gd rfl) rfl rfl ?_
              refine g_iadd 123 (gd rfl) rfl (fun z122 e122 => ?_)
              refine g_iastore 124 (gd rfl) rfl (n := 32) rfl (in_ix i118 rfl) ?_
              have hI123 := inv_sI (q := 170) (j := z118.toNatClampNeg) hI103 rfl (in_w (-2147483648) 2147483647 (i_rng z122) rfl)
              refine g_aload_n 125 (gd rfl) rfl rfl ?_
              refine g_getA (q2 := 171) 128 (gd rfl) rfl rfl rfl rfl ?_
              refine g_bipush 32 130 (gd rfl) rfl rfl ?_
              refine g_aload_n 131 (gd rfl) rfl rfl ?_
              refine g_getA (q2 := 113) 134 (gd rfl) rfl rfl rfl rfl ?_
              refine g_aload_n 135 (gd rfl) rfl rfl ?_
              refine g_getI 138 (gd rfl) rfl rfl rfl (fun z135 e135 => ?_)
              have q135 : u_109_19 = z135 := (sI_F (sI_F (sF_ne rfl (fr_F e_109_19 hFc59 rfl)))).trans e135.symm
              subst q135
              refine g_iload_n 139 (gd rfl) rfl rfl ?_
              refine g_iadd 140 (gd rfl) rfl (fun z139 e139 => ?_)
              have i139 := in_add 0 319 e139 ro_109_19 i63 rfl rfl
              refine g_iaload 141 (gd rfl) rfl (n := 480) rfl (in_ix i139 rfl) (fun z140 e140 => ?_)
              have i140 := inv_I hI123 (n := 480) (t := 0) 0 31 rfl (in_ix i139 rfl) rfl e140
              refine g_imul 142 (gd rfl) rfl (fun z141 e141 => ?_)
              have i141 := in_mulc 32 0 992 (Or.inl e141) i140 rfl rfl
              refine g_aload_n 143 (gd rfl) rfl rfl ?_
              refine g_getA (q2 := 114) 146 (gd rfl) rfl rfl rfl rfl ?_
              refine g_aload_n 147 (gd rfl) rfl rfl ?_
              refine g_getI 150 (gd rfl) rfl rfl rfl (fun z147 e147 => ?_)
              have q147 : u_109_19 = z147 := (sI_F (sI_F (sF_ne rfl (fr_F e_109_19 hFc59 rfl)))).trans e147.symm
              subst q147
              refine g_iload_n 151 (gd rfl) rfl rfl ?_
              refine g_iadd 152 (gd rfl) rfl (fun z151 e151 => ?_)
              have i151 := in_add 0 319 e151 ro_109_19 i63 rfl rfl
              refine g_iaload 153 (gd rfl) rfl (n := 480) rfl (in_ix i151 rfl) (fun z152 e152 => ?_)
              have i152 := inv_I hI123 (n := 480) (t := 0) 0 31 rfl (in_ix i151 rfl) rfl e152
              refine g_iadd 154 (gd rfl) rfl (fun z153 e153 => ?_)
              have i153 := in_add 0 1023 e153 i141 i152 rfl rfl
              refine g_dup2 155 (gd rfl) rfl rfl rfl ?_
              refine g_iaload 156 (gd rfl) rfl (n := 1024) rfl (in_ix i153 rfl) (fun z155 e155 => ?_)
              refine g_iconst 1 157 (gd rfl) rfl rfl ?_
              refine g_iadd 158 (gd rfl) rfl (fun z157 e157 => ?_)
              refine g_iastore 159 (gd rfl) rfl (n := 1024) rfl (in_ix i153 rfl) ?_
              have hI158 := inv_sI (q := 171) (j := z153.toNatClampNeg) hI123 rfl (in_w (-2147483648) 2147483647 (i_rng z157) rfl)
              refine g_aload_n 160 (gd rfl) rfl rfl ?_
              refine g_getA (q2 := 171) 163 (gd rfl) rfl rfl rfl rfl ?_
              refine g_bipush 32 165 (gd rfl) rfl rfl ?_
              refine g_aload_n 166 (gd rfl) rfl rfl ?_
              refine g_getA (q2 := 114) 169 (gd rfl) rfl rfl rfl rfl ?_
              refine g_aload_n 170 (gd rfl) rfl rfl ?_
              refine g_getI 173 (gd rfl) rfl rfl rfl (fun z170 e170 => ?_)
              have q170 : u_109_19 = z170 := (sI_F (sI_F (sI_F (sF_ne rfl (fr_F e_109_19 hFc59 rfl))))).trans e170.symm
              subst q170
              refine g_iload_n 174 (gd rfl) rfl rfl ?_
              refine g_iadd 175 (gd rfl) rfl (fun z174 e174 => ?_)
              have i174 := in_add 0 319 e174 ro_109_19 i63 rfl rfl
              refine g_iaload 176 (gd rfl) rfl (n := 480) rfl (in_ix i174 rfl) (fun z175 e175 => ?_)
              have i175 := inv_I hI158 (n := 480) (t := 0) 0 31 rfl (in_ix i174 rfl) rfl e175
              refine g_imul 177 (gd rfl) rfl (fun z176 e176 => ?_)
              have i176 := in_mulc 32 0 992 (Or.inl e176) i175 rfl rfl
              refine g_aload_n 178 (gd rfl) rfl rfl ?_
              refine g_getA (q2 := 113) 181 (gd rfl) rfl rfl rfl rfl ?_
              refine g_aload_n 182 (gd rfl) rfl rfl ?_
              refine g_getI 185 (gd rfl) rfl rfl rfl (fun z182 e182 => ?_)
              have q182 : u_109_19 = z182 := (sI_F (sI_F (sI_F (sF_ne rfl (fr_F e_109_19 hFc59 rfl))))).trans e182.symm
              subst q182
              refine g_iload_n 186 (gd rfl) rfl rfl ?_
              refine g_iadd 187 (gd rfl) rfl (fun z186 e186 => ?_)
              have i186 := in_add 0 319 e186 ro_109_19 i63 rfl rfl
              refine g_iaload 188 (gd rfl) rfl (n := 480) rfl (in_ix i186 rfl) (fun z187 e187 => ?_)
              have i187 := inv_I hI158 (n := 480) (t := 0) 0 31 rfl (in_ix i186 rfl) rfl e187
              refine g_iadd 189 (gd rfl) rfl (fun z188 e188 => ?_)
              have i188 := in_add 0 1023 e188 i176 i187 rfl rfl
              refine g_dup2 190 (gd rfl) rfl rfl rfl ?_
              refine g_iaload 191 (gd rfl) rfl (n := 1024) rfl (in_ix i188 rfl) (fun z190 e190 => ?_)
              refine g_iconst 1 192 (gd rfl) rfl rfl ?_
              refine g_iadd 193 (gd rfl) rfl (fun z192 e192 => ?_)
              refine g_iastore 194 (gd rfl) rfl (n := 1024) rfl (in_ix i188 rfl) ?_
              have hI193 := inv_sI (q := 171) (j := z188.toNatClampNeg) hI158 rfl (in_w (-2147483648) 2147483647 (i_rng z192) rfl)
              refine g_iinc 197 (gd rfl) rfl rfl (Nat.le_of_ble_eq_true rfl) (fun z194 e194 => ?_)
              have i194 := in_add 1 160 e194 i63 (in_c 1 rfl) rfl rfl
              refine g_goto 59 (gd rfl) rfl ?_
              have v59 : z80 = (sI (sI (sI (sI (sF sc59 109 80 z80) 170 z98.toNatClampNeg z102) 170 z118.toNatClampNeg z122) 171 z153.toNatClampNeg z157) 171 z188.toNatClampNeg z192).2.2.1 109 80 := sI_F (sI_F (sI_F (sI_F (sF_get))))
              have n59 : (z80).toInt ≤ (z194).toInt := by have a0 := ro_109_20; unfold In at a0; have a1 := ro_109_19; unfold In at a1; have a2 := (inv_F hIc59 0 160 rfl v59_109_80); unfold In at a2; have a3 := i63; unfold In at a3; have a4 := i194; unfold In at a4; have a5 := t_add e194 i63 (in_c 1 rfl) rfl; have a6 := (in_c 1 rfl); unfold In at a6; have a7 := i81; unfold In at a7; have a8 := t_add e80 (inv_F hIc59 0 160 rfl v59_109_80) (in_c 1 rfl) rfl; have a9 := i188; unfold In at a9; have a10 := t_add e188 i176 i187 rfl; have a11 := i187; unfold In at a11; have a12 := i176; unfold In at a12; have a13 := (t_mulc 32 (Or.inl e176) i175 rfl).1; have a14 := i175; unfold In at a14; have a15 := i186; unfold In at a15; have a16 := t_add e186 ro_109_19 i63 rfl; have a17 := i174; unfold In at a17; have a18 := t_add e174 ro_109_19 i63 rfl; have a19 := i153; unfold In at a19; have a20 := t_add e153 i141 i152 rfl; have a21 := i152; unfold In at a21; have a22 := i141; unfold In at a22; have a23 := (t_mulc 32 (Or.inl e141) i140 rfl).1; have a24 := i140; unfold In at a24; have a25 := i151; unfold In at a25; have a26 := t_add e151 ro_109_19 i63 rfl; have a27 := i139; unfold In at a27; have a28 := t_add e139 ro_109_19 i63 rfl; have a29 := i117; unfold In at a29; have a30 := t_add e117 ro_109_19 i63 rfl; have a31 := i97; unfold In at a31; have a32 := t_add e97 ro_109_19 i63 rfl; have a33 := i68x34; unfold In at a33; have a34 := t_add e68x34 ro_109_19 i63 rfl; have a35 := i68x23; unfold In at a35; have a36 := t_add e68x23 ro_109_19 i63 rfl; have a37 := i68x9; unfold In at a37; have a38 := t_add e68x9 ro_109_19 i63 rfl; omega
              exact gg_w (by omega) (gg_f (gf_cons rfl (gf_cons rfl gf_nil)) (ih59 (sI (sI (sI (sI (sF sc59 109 80 z80) 170 z98.toNatClampNeg z102) 170 z118.toNatClampNeg z122) 171 z153.toNatClampNeg z157) 171 z188.toNatClampNeg z192) z194 z80 hI193 (fr_sI rfl (fr_sI rfl (fr_sI rfl (fr_sI rfl (fr_sF rfl hFc59))))) (in_w 0 160 i194 rfl) v59 n59 (m_up mm59 (t_add e194 i63 (in_c 1 rfl) rfl) (in_w 1 1 (in_c 1 rfl) rfl))))
  have ct29 : ∀ (k29 : Nat) (sc29 : GS) (y29_1 : Int32) (w29_109_80 : Int32), Inv sc29 → Fr fm_374 s sc29 → (In y29_1 0 32) → (w29_109_80 = sc29.2.2.1 109 80) → ((w29_109_80).toInt = 0) → 32 - (y29_1).toInt < (k29 : Int) → GG Z (d - 1) 374 post (gx xp) (825324 + k29 * 900) 29 (fun j => xlook j [(0, .ref (A 109)), (1, .int y29_1)]) [] (WW Z A sc29 ++ ex) 0 0 := by
    intro k29
    induction k29 with
    | zero => intro sc29 y29_1 w29_109_80 hIc29 hFc29 j29_1 v29_109_80 n29_0 mm29; exact m_no mm29 j29_1 rfl
    | succ k29 ih29 =>
      intro sc29 y29_1 w29_109_80 hIc29 hFc29 j29_1 v29_109_80 n29_0 mm29
      refine gg_w (M := 825324 + k29 * 900 + 900) (by omega) ?_
      refine g_iload_n 30 (gd rfl) rfl rfl ?_
      refine g_aload_n 31 (gd rfl) rfl rfl ?_
      refine g_getI 34 (gd rfl) rfl rfl rfl (fun z31 e31 => ?_)
      have q31 : u_109_20 = z31 := (fr_F e_109_20 hFc29 rfl).trans e31.symm
      subst q31
      refine g_cmp_ge 37 57 (gd rfl) rfl rfl (fun c34 => ?_) (fun c34 => ?_)
      · skip
        refine g_iconst 0 58 (gd rfl) rfl rfl ?_
        refine g_istore_n 59 (gd rfl) rfl (Nat.le_of_ble_eq_true rfl) ?_
        have n59 : (w29_109_80).toInt ≤ ((Int32.ofInt 0)).toInt := by have a0 := ro_109_20; unfold In at a0; have a1 := ro_109_19; unfold In at a1; have a2 := (inv_F hIc29 0 160 rfl v29_109_80); unfold In at a2; have a3 := j29_1; unfold In at a3; have a4 := (in_c 0 rfl); unfold In at a4; omega
        exact gg_w (by omega) (gg_f (gf_cons rfl (gf_cons rfl gf_nil)) (ct59 161 sc29 (Int32.ofInt 0) w29_109_80 hIc29 hFc29 (in_w 0 160 (in_c 0 rfl) rfl) v29_109_80 n59 (m_in 161 (in_w 0 160 (in_c 0 rfl) rfl) rfl)))
      · skip
        have i34 := r_lt1 0 31 c34 j29_1 ro_109_20 rfl
        have i34a := r_lt2 1 32 c34 j29_1 ro_109_20 rfl
        refine g_aload_n 38 (gd rfl) rfl rfl ?_
        refine g_getA (q2 := 170) 41 (gd rfl) rfl rfl rfl rfl ?_
        refine g_iload_n 42 (gd rfl) rfl rfl ?_
        refine g_iconst 0 43 (gd rfl) rfl rfl ?_
        refine g_iastore 44 (gd rfl) rfl (n := 32) rfl (in_ix i34 rfl) ?_
        have hI43 := inv_sI (q := 170) (j := y29_1.toNatClampNeg) hIc29 rfl (in_w (-2147483648) 2147483647 (in_c 0 rfl) rfl)
        refine g_aload_n 45 (gd rfl) rfl rfl ?_
        refine g_getA (q2 := 169) 48 (gd rfl) rfl rfl rfl rfl ?_
        refine g_iload_n 49 (gd rfl) rfl rfl ?_
        refine g_iload_n 50 (gd rfl) rfl rfl ?_
        refine g_iastore 51 (gd rfl) rfl (n := 32) rfl (in_ix i34 rfl) ?_
        have hI50 := inv_sI (q := 169) (j := y29_1.toNatClampNeg) hI43 rfl (in_w (-2147483648) 2147483647 i34 rfl)
        refine g_iinc 54 (gd rfl) rfl rfl (Nat.le_of_ble_eq_true rfl) (fun z51 e51 => ?_)
        have i51 := in_add 1 32 e51 i34 (in_c 1 rfl) rfl rfl
        refine g_goto 29 (gd rfl) rfl ?_
        have v29 : w29_109_80 = (sI (sI sc29 170 y29_1.toNatClampNeg (Int32.ofInt 0)) 169 y29_1.toNatClampNeg y29_1).2.2.1 109 80 := sI_F (sI_F (v29_109_80))
        have n29 : (w29_109_80).toInt = 0 := by have a0 := i34a; unfold In at a0; have a1 := ro_109_19; unfold In at a1; have a2 := (inv_F hIc29 0 160 rfl v29_109_80); unfold In at a2; have a3 := i34; unfold In at a3; have a4 := i51; unfold In at a4; have a5 := t_add e51 i34 (in_c 1 rfl) rfl; have a6 := (in_c 1 rfl); unfold In at a6; omega
        exact gg_w (by omega) (gg_f (gf_cons rfl (gf_cons rfl gf_nil)) (ih29 (sI (sI sc29 170 y29_1.toNatClampNeg (Int32.ofInt 0)) 169 y29_1.toNatClampNeg y29_1) z51 w29_109_80 hI50 (fr_sI rfl (fr_sI rfl hFc29)) (in_w 0 32 i51 rfl) v29 n29 (m_up mm29 (t_add e51 i34 (in_c 1 rfl) rfl) (in_w 1 1 (in_c 1 rfl) rfl))))
  have ct7 : ∀ (k7 : Nat) (sc7 : GS) (y7_1 : Int32) (w7_109_80 : Int32), Inv sc7 → Fr fm_374 s sc7 → (In y7_1 0 1024) → (w7_109_80 = sc7.2.2.1 109 80) → ((w7_109_80).toInt = 0) → 1024 - (y7_1).toInt < (k7 : Int) → GG Z (d - 1) 374 post (gx xp) (855025 + k7 * 900) 7 (fun j => xlook j [(0, .ref (A 109)), (1, .int y7_1)]) [] (WW Z A sc7 ++ ex) 0 0 := by
    intro k7
    induction k7 with
    | zero => intro sc7 y7_1 w7_109_80 hIc7 hFc7 j7_1 v7_109_80 n7_0 mm7; exact m_no mm7 j7_1 rfl
    | succ k7 ih7 =>
      intro sc7 y7_1 w7_109_80 hIc7 hFc7 j7_1 v7_109_80 n7_0 mm7
      refine gg_w (M := 855025 + k7 * 900 + 900) (by omega) ?_
      refine g_iload_n 8 (gd rfl) rfl rfl ?_
      refine g_sipush 1024 11 (gd rfl) rfl rfl ?_
      refine g_cmp_ge 14 27 (gd rfl) rfl rfl (fun c11 => ?_) (fun c11 => ?_)
      · skip
        have i11 := r_le2 1024 1024 c11 (in_c 1024 rfl) j7_1 rfl
        refine g_iconst 0 28 (gd rfl) rfl rfl ?_
        refine g_istore_n 29 (gd rfl) rfl (Nat.le_of_ble_eq_true rfl) ?_
        have n29 : (w7_109_80).toInt = 0 := by have a0 := ro_109_20; unfold In at a0; have a1 := ro_109_19; unfold In at a1; have a2 := (inv_F hIc7 0 160 rfl v7_109_80); unfold In at a2; have a3 := i11; unfold In at a3; have a4 := (in_c 0 rfl); unfold In at a4; omega
        exact gg_w (by omega) (gg_f (gf_cons rfl (gf_cons rfl gf_nil)) (ct29 33 sc7 (Int32.ofInt 0) w7_109_80 hIc7 hFc7 (in_w 0 32 (in_c 0 rfl) rfl) v7_109_80 n29 (m_in 33 (in_w 0 32 (in_c 0 rfl) rfl) rfl)))
      · skip
        have i11 := r_lt1 0 1023 c11 j7_1 (in_c 1024 rfl) rfl
        refine g_aload_n 15 (gd rfl) rfl rfl ?_
        refine g_getA (q2 := 171) 18 (gd rfl) rfl rfl rfl rfl ?_
        refine g_iload_n 19 (gd rfl) rfl rfl ?_
        refine g_iconst 0 20 (gd rfl) rfl rfl ?_
        refine g_iastore 21 (gd rfl) rfl (n := 1024) rfl (in_ix i11 rfl) ?_
        have hI20 := inv_sI (q := 171) (j := y7_1.toNatClampNeg) hIc7 rfl (in_w (-2147483648) 2147483647 (in_c 0 rfl) rfl)
        refine g_iinc 24 (gd rfl) rfl rfl (Nat.le_of_ble_eq_true rfl) (fun z21 e21 => ?_)
        have i21 := in_add 1 1024 e21 i11 (in_c 1 rfl) rfl rfl
        refine g_goto 7 (gd rfl) rfl ?_
        have v7 : w7_109_80 = (sI sc7 171 y7_1.toNatClampNeg (Int32.ofInt 0)).2.2.1 109 80 := sI_F (v7_109_80)
        have n7 : (w7_109_80).toInt = 0 := by have a0 := ro_109_20; unfold In at a0; have a1 := ro_109_19; unfold In at a1; have a2 := (inv_F hIc7 0 160 rfl v7_109_80); unfold In at a2; have a3 := i11; unfold In at a3; have a4 := i21; unfold In at a4; have a5 := t_add e21 i11 (in_c 1 rfl) rfl; have a6 := (in_c 1 rfl); unfold In at a6; omega
        exact gg_w (by omega) (gg_f (gf_cons rfl (gf_cons rfl gf_nil)) (ih7 (sI sc7 171 y7_1.toNatClampNeg (Int32.ofInt 0)) z21 w7_109_80 hI20 (fr_sI rfl hFc7) (in_w 0 1024 i21 rfl) v7 n7 (m_up mm7 (t_add e21 i11 (in_c 1 rfl) rfl) (in_w 1 1 (in_c 1 rfl) rfl))))
  refine g_enter2 (k := 374) (N := 1778425) (by omega) rfl (Nat.le_of_ble_eq_true rfl) ?_
  refine g_aload_n 1 (gd rfl) rfl rfl ?_
  refine g_iconst 0 2 (gd rfl) rfl rfl ?_
  refine g_putI 5 (gd rfl) rfl rfl rfl rfl ?_
  have hI2 := inv_sF (q := 109) (j := 80) hI rfl (in_w 0 160 (in_c 0 rfl) rfl)
  refine g_iconst 0 6 (gd rfl) rfl rfl ?_
  refine g_istore_n 7 (gd rfl) rfl (Nat.le_of_ble_eq_true rfl) ?_
  have v7 : (Int32.ofInt 0) = (sF s 109 80 (Int32.ofInt 0)).2.2.1 109 80 := sF_get
  have n7 : ((Int32.ofInt 0)).toInt = 0 := by have a0 := ro_109_20; unfold In at a0; have a1 := ro_109_19; unfold In at a1; have a2 := (in_c 0 rfl); unfold In at a2; omega
  exact gg_w (by omega) (gg_f (gf_cons rfl (gf_cons rfl gf_nil)) (ct7 1025 (sF s 109 80 (Int32.ofInt 0)) (Int32.ofInt 0) (Int32.ofInt 0) hI2 (fr_sF rfl fr_rf) (in_w 0 1024 (in_c 0 rfl) rfl) v7 n7 (m_in 1025 (in_w 0 1024 (in_c 0 rfl) rfl) rfl)))

def fm_378 : FM := ([169, 170, 171], [], [(109, 0), (109, 80)], [])
/-- GraphHouseModel.group -/
theorem k_378 {Z : AmZ} {A : Nat → Nat} {s : GS} {ex : va_W} {d : Nat} {X : AmX} {x1 : Int32} (hd : 6 ≤ d) (hI : Inv s)  : GC Z d 378 [.ref (A 109), .int x1] (WW Z A s ++ ex) 0 0 (fun v u => ∃ t : GS, Inv t ∧ Fr fm_378 s t ∧ ∃ z : Int32, v = some (.int z) ∧ u = WW Z A t ++ ex ∧ In z 0 40) X := by
  intro post xp hP hX
  obtain ⟨u_109_20, e_109_20⟩ : ∃ w, w = s.2.2.1 109 20 := ⟨_, rfl⟩
  have ro_109_20 := inv_F hI 0 32 rfl e_109_20
  refine g_enter2 (k := 378) (N := 900) (by omega) rfl (Nat.le_of_ble_eq_true rfl) ?_
  refine g_aload_n 1 (gd rfl) rfl rfl ?_
  refine g_aload_n 2 (gd rfl) rfl rfl ?_
  refine g_iload_n 3 (gd rfl) rfl rfl ?_
  refine g_callv (X := _) (As := [.int x1]) (r := [.ref (A 109)]) (b := A 109) (q := 109) 6 (gd rfl) rfl rfl rfl rfl rfl (ww_o rfl) (Nat.le_of_ble_eq_true rfl) (mc := 0) (ms := 0) (Nat.zero_le _) (Nat.zero_le _) (P := fun v u => _) ?_ (fun e u h => h) (fun v u h => h)
  intro po3 xx3 hp3 hx3
  refine g_enter2 (k := 272) (N := 300) (by omega) rfl (Nat.le_of_ble_eq_true rfl) ?_
  refine g_iload_n 1 (gd rfl) rfl rfl ?_
  refine g_if_lt 4 16 (gd rfl) rfl rfl (fun c3x1 => ?_) (fun c3x1 => ?_)
  · skip
    have i3x1 := z_lt (-2147483648) (-1) c3x1 (i_rng x1) rfl
    refine g_iconst 0 17 (gd rfl) rfl rfl ?_
    refine g_ireturn (gd rfl) rfl (nb01 (in_w 0 1 (in_c 0 rfl) rfl)) (hp3 _ _ ?_)
    show GG _ _ _ _ _ _ _ _ [.int (Int32.ofInt 0), .ref (A 109)] _ _ _
    refine g_callv (X := _) (As := [.int (Int32.ofInt 0)]) (r := []) (b := A 109) (q := 109) 9 (gd rfl) rfl rfl rfl rfl rfl (ww_o rfl) (Nat.le_of_ble_eq_true rfl) (mc := 0) (ms := 0) (Nat.zero_le _) (Nat.zero_le _) (P := fun v u => _) ?_ (fun e u h => h) (fun v u h => h)
    intro po6 xx6 hp6 hx6
    refine g_enter2 (k := 271) (N := 300) (by omega) rfl (Nat.le_of_ble_eq_true rfl) ?_
    refine g_aload_n 1 (gd rfl) rfl rfl ?_
    refine g_iload_n 2 (gd rfl) rfl rfl ?_
    refine g_iconst 1 3 (gd rfl) rfl rfl ?_
    refine g_callv (X := _) (As := [.int (Int32.ofInt 0), .int (Int32.ofInt 1)]) (r := []) (b := A 109) (q := 109) 6 (gd rfl) rfl rfl rfl rfl rfl (ww_o rfl) (Nat.le_of_ble_eq_true rfl) (mc := 0) (ms := 0) (Nat.zero_le _) (Nat.zero_le _) (P := fun v u => _) ?_ (fun e u h => h) (fun v u h => h)
    intro po6x3 xx6x3 hp6x3 hx6x3
    refine g_enter2 (k := 270) (N := 300) (by omega) rfl (Nat.le_of_ble_eq_true rfl) ?_
    refine g_aload_n 1 (gd rfl) rfl rfl ?_
    refine g_iload_n 2 (gd rfl) rfl rfl ?_
    refine g_if_ne 5 9 (gd rfl) rfl rfl (fun c6x3x2 => ?_) (fun c6x3x2 => ?_)
    · skip
      exact zn_ne c6x3x2 (in_c 0 rfl) rfl
    · skip
      refine g_iconst 1 6 (gd rfl) rfl rfl ?_
      refine g_goto 18 (gd rfl) rfl ?_
      refine g_putI 21 (gd rfl) rfl rfl rfl rfl ?_
      have hI6x3x18 := inv_sF (q := 109) (j := 0) hI rfl (in_w 0 2 (in_c 1 rfl) rfl)
      refine g_aload_n 22 (gd rfl) rfl rfl ?_
      refine g_getI 25 (gd rfl) rfl rfl rfl (fun z6x3x22 e6x3x22 => ?_)
      have q6x3x22 : (Int32.ofInt 1) = z6x3x22 := (sF_get).trans e6x3x22.symm
      subst q6x3x22
      refine g_if_le 28 32 (gd rfl) rfl rfl (fun c6x3x25 => ?_) (fun c6x3x25 => ?_)
      · skip
        exact zn_le c6x3x25 (in_c 1 rfl) rfl
      · skip
        refine g_iconst 1 29 (gd rfl) rfl rfl ?_
        refine g_goto 33 (gd rfl) rfl ?_
        refine g_ireturn (gd rfl) rfl (nb01 (in_w 0 1 (in_c 1 rfl) rfl)) (hp6x3 _ _ ?_)
        show GG _ _ _ _ _ _ _ _ [.int (Int32.ofInt 1)] _ _ _
        refine g_ireturn (gd rfl) rfl (nb01 (in_w 0 1 (in_c 1 rfl) rfl)) (hp6 _ _ ?_)
        show GG _ _ _ _ _ _ _ _ [.int (Int32.ofInt 1)] _ _ _
        refine g_if_eq 12 14 (gd rfl) rfl rfl (fun c9 => ?_) (fun c9 => ?_)
        · skip
          exact zn_eq c9 (in_c 1 rfl) rfl
        · skip
          refine g_iconst 0 13 (gd rfl) rfl rfl ?_
          exact g_ireturn (gd rfl) rfl rfl (hP _ _ ⟨(sF s 109 0 (Int32.ofInt 1)), hI6x3x18, (fr_sF rfl fr_rf), (Int32.ofInt 0), rfl, rfl, in_w 0 40 (in_c 0 rfl) rfl⟩)
  · skip
    have i3x1 := z_ge 0 2147483647 c3x1 (i_rng x1) rfl
    refine g_iload_n 5 (gd rfl) rfl rfl ?_
    refine g_aload_n 6 (gd rfl) rfl rfl ?_
    refine g_getI 9 (gd rfl) rfl rfl rfl (fun z3x6 e3x6 => ?_)
    have q3x6 : u_109_20 = z3x6 := (e_109_20).trans e3x6.symm
    subst q3x6
    refine g_cmp_ge 12 16 (gd rfl) rfl rfl (fun c3x9 => ?_) (fun c3x9 => ?_)
    · skip
      refine g_iconst 0 17 (gd rfl) rfl rfl ?_
      refine g_ireturn (gd rfl) rfl (nb01 (in_w 0 1 (in_c 0 rfl) rfl)) (hp3 _ _ ?_)
      show GG _ _ _ _ _ _ _ _ [.int (Int32.ofInt 0), .ref (A 109)] _ _ _
      refine g_callv (X := _) (As := [.int (Int32.ofInt 0)]) (r := []) (b := A 109) (q := 109) 9 (gd rfl) rfl rfl rfl rfl rfl (ww_o rfl) (Nat.le_of_ble_eq_true rfl) (mc := 0) (ms := 0) (Nat.zero_le _) (Nat.zero_le _) (P := fun v u => _) ?_ (fun e u h => h) (fun v u h => h)
      intro po6 xx6 hp6 hx6
      refine g_enter2 (k := 271) (N := 300) (by omega) rfl (Nat.le_of_ble_eq_true rfl) ?_
      refine g_aload_n 1 (gd rfl) rfl rfl ?_
      refine g_iload_n 2 (gd rfl) rfl rfl ?_
      refine g_iconst 1 3 (gd rfl) rfl rfl ?_
      refine g_callv (X := _) (As := [.int (Int32.ofInt 0), .int (Int32.ofInt 1)]) (r := []) (b := A 109) (q := 109) 6 (gd rfl) rfl rfl rfl rfl rfl (ww_o rfl) (Nat.le_of_ble_eq_true rfl) (mc := 0) (ms := 0) (Nat.zero_le _) (Nat.zero_le _) (P := fun v u => _) ?_ (fun e u h => h) (fun v u h => h)
      intro po6x3 xx6x3 hp6x3 hx6x3
      refine g_enter2 (k := 270) (N := 300) (by omega) rfl (Nat.le_of_ble_eq_true rfl) ?_
      refine g_aload_n 1 (gd rfl) rfl rfl ?_
      refine g_iload_n 2 (gd rfl) rfl rfl ?_
      refine g_if_ne 5 9 (gd rfl) rfl rfl (fun c6x3x2 => ?_) (fun c6x3x2 => ?_)
      · skip
        exact zn_ne c6x3x2 (in_c 0 rfl) rfl
      · skip
        refine g_iconst 1 6 (gd rfl) rfl rfl ?_
        refine g_goto 18 (gd rfl) rfl ?_
        refine g_putI 21 (gd rfl) rfl rfl rfl rfl ?_
        have hI6x3x18 := inv_sF (q := 109) (j := 0) hI rfl (in_w 0 2 (in_c 1 rfl) rfl)
        refine g_aload_n 22 (gd rfl) rfl rfl ?_
        refine g_getI 25 (gd rfl) rfl rfl rfl (fun z6x3x22 e6x3x22 => ?_)
        have q6x3x22 : (Int32.ofInt 1) = z6x3x22 := (sF_get).trans e6x3x22.symm
        subst q6x3x22
        refine g_if_le 28 32 (gd rfl) rfl rfl (fun c6x3x25 => ?_) (fun c6x3x25 => ?_)
        · skip
          exact zn_le c6x3x25 (in_c 1 rfl) rfl
        · skip
          refine g_iconst 1 29 (gd rfl) rfl rfl ?_
          refine g_goto 33 (gd rfl) rfl ?_
          refine g_ireturn (gd rfl) rfl (nb01 (in_w 0 1 (in_c 1 rfl) rfl)) (hp6x3 _ _ ?_)
          show GG _ _ _ _ _ _ _ _ [.int (Int32.ofInt 1)] _ _ _
          refine g_ireturn (gd rfl) rfl (nb01 (in_w 0 1 (in_c 1 rfl) rfl)) (hp6 _ _ ?_)
          show GG _ _ _ _ _ _ _ _ [.int (Int32.ofInt 1)] _ _ _
          refine g_if_eq 12 14 (gd rfl) rfl rfl (fun c9 => ?_) (fun c9 => ?_)
          · skip
            exact zn_eq c9 (in_c 1 rfl) rfl
          · skip
            refine g_iconst 0 13 (gd rfl) rfl rfl ?_
            exact g_ireturn (gd rfl) rfl rfl (hP _ _ ⟨(sF s 109 0 (Int32.ofInt 1)), hI6x3x18, (fr_sF rfl fr_rf), (Int32.ofInt 0), rfl, rfl, in_w 0 40 (in_c 0 rfl) rfl⟩)
    · skip
      have i3x9 := r_lt1 0 31 c3x9 i3x1 ro_109_20 rfl
      have i3x9a := r_lt2 1 32 c3x9 i3x1 ro_109_20 rfl
      refine g_iconst 1 13 (gd rfl) rfl rfl ?_
      refine g_goto 17 (gd rfl) rfl ?_
      refine g_ireturn (gd rfl) rfl (nb01 (in_w 0 1 (in_c 1 rfl) rfl)) (hp3 _ _ ?_)
      show GG _ _ _ _ _ _ _ _ [.int (Int32.ofInt 1), .ref (A 109)] _ _ _
      refine g_callv (X := _) (As := [.int (Int32.ofInt 1)]) (r := []) (b := A 109) (q := 109) 9 (gd rfl) rfl rfl rfl rfl rfl (ww_o rfl) (Nat.le_of_ble_eq_true rfl) (mc := 0) (ms := 0) (Nat.zero_le _) (Nat.zero_le _) (P := fun v u => _) ?_ (fun e u h => h) (fun v u h => h)
      intro po6 xx6 hp6 hx6
      refine g_enter2 (k := 271) (N := 300) (by omega) rfl (Nat.le_of_ble_eq_true rfl) ?_
      refine g_aload_n 1 (gd rfl) rfl rfl ?_
      refine g_iload_n 2 (gd rfl) rfl rfl ?_
      refine g_iconst 1 3 (gd rfl) rfl rfl ?_
      refine g_callv (X := _) (As := [.int (Int32.ofInt 1), .int (Int32.ofInt 1)]) (r := []) (b := A 109) (q := 109) 6 (gd rfl) rfl rfl rfl rfl rfl (ww_o rfl) (Nat.le_of_ble_eq_true rfl) (mc := 0) (ms := 0) (Nat.zero_le _) (Nat.zero_le _) (P := fun v u => _) ?_ (fun e u h => h) (fun v u h => h)
      intro po6x3 xx6x3 hp6x3 hx6x3
      refine g_enter2 (k := 270) (N := 300) (by omega) rfl (Nat.le_of_ble_eq_true rfl) ?_
      refine g_aload_n 1 (gd rfl) rfl rfl ?_
      refine g_iload_n 2 (gd rfl) rfl rfl ?_
      refine g_if_ne 5 9 (gd rfl) rfl rfl (fun c6x3x2 => ?_) (fun c6x3x2 => ?_)
      · skip
        refine g_iload_n 10 (gd rfl) rfl rfl ?_
        refine g_if_ne 13 17 (gd rfl) rfl rfl (fun c6x3x10 => ?_) (fun c6x3x10 => ?_)
        · skip
          refine g_iconst 0 18 (gd rfl) rfl rfl ?_
          refine g_putI 21 (gd rfl) rfl rfl rfl rfl ?_
          have hI6x3x18 := inv_sF (q := 109) (j := 0) hI rfl (in_w 0 2 (in_c 0 rfl) rfl)
          refine g_aload_n 22 (gd rfl) rfl rfl ?_
          refine g_getI 25 (gd rfl) rfl rfl rfl (fun z6x3x22 e6x3x22 => ?_)
          have q6x3x22 : (Int32.ofInt 0) = z6x3x22 := (sF_get).trans e6x3x22.symm
          subst q6x3x22
          refine g_if_le 28 32 (gd rfl) rfl rfl (fun c6x3x25 => ?_) (fun c6x3x25 => ?_)
          · skip
            refine g_iconst 0 33 (gd rfl) rfl rfl ?_
            refine g_ireturn (gd rfl) rfl (nb01 (in_w 0 1 (in_c 0 rfl) rfl)) (hp6x3 _ _ ?_)
            show GG _ _ _ _ _ _ _ _ [.int (Int32.ofInt 0)] _ _ _
            refine g_ireturn (gd rfl) rfl (nb01 (in_w 0 1 (in_c 0 rfl) rfl)) (hp6 _ _ ?_)
            show GG _ _ _ _ _ _ _ _ [.int (Int32.ofInt 0)] _ _ _
            refine g_if_eq 12 14 (gd rfl) rfl rfl (fun c9 => ?_) (fun c9 => ?_)
            · skip
              refine g_aload_n 15 (gd rfl) rfl rfl ?_
              refine g_callv (X := _) (As := []) (r := []) (b := A 109) (q := 109) 18 (gd rfl) rfl rfl rfl rfl rfl (ww_o rfl) (Nat.le_of_ble_eq_true rfl) (Nat.zero_le _) (Nat.zero_le _) (k_374 (by omega) hI6x3x18 ) (fun e u h => h) (fun v u h => ?_)
              obtain ⟨s15, hI15, hF15, rfl, rfl⟩ := h
              show GG _ _ _ _ _ _ _ _ [] _ _ _
              refine g_aload_n 19 (gd rfl) rfl rfl ?_
              refine g_aload_n 20 (gd rfl) rfl rfl ?_
              refine g_getA (q2 := 169) 23 (gd rfl) rfl rfl rfl rfl ?_
              refine g_iload_n 24 (gd rfl) rfl rfl ?_
              refine g_iaload 25 (gd rfl) rfl (n := 32) rfl (in_ix i3x9 rfl) (fun z24 e24 => ?_)
              refine g_iconst (-1) 26 (gd rfl) rfl rfl ?_
              refine g_callv (X := _) (As := [.int z24, .int (Int32.ofInt (-1))]) (r := []) (b := A 109) (q := 109) 29 (gd rfl) rfl rfl rfl rfl rfl (ww_o rfl) (Nat.le_of_ble_eq_true rfl) (Nat.zero_le _) (Nat.zero_le _) (k_375 (by omega) hI15 (in_w (-1) 31 (in_c (-1) rfl) rfl)) (fun e u h => h) (fun v u h => ?_)
              obtain ⟨z26, rfl, rfl, i26, p26⟩ := h
              show GG _ _ _ _ _ _ _ _ [.int z26] _ _ _
              exact g_ireturn (gd rfl) rfl rfl (hP _ _ ⟨s15, hI15, (fr_tr rfl (fr_sF rfl fr_rf) hF15), z26, rfl, rfl, in_w 0 40 i26 rfl⟩)
            · skip
              exact zn_ne c9 (in_c 0 rfl) rfl
          · skip
            exact zn_gt c6x3x25 (in_c 0 rfl) rfl
        · skip
          exact zn_eq c6x3x10 (in_c 1 rfl) rfl
      · skip
        exact zn_eq c6x3x2 (in_c 1 rfl) rfl

def fm_379 : FM := ([169, 170, 171], [], [(109, 0), (109, 80)], [])
/-- GraphHouseModel.gain -/
theorem k_379 {Z : AmZ} {A : Nat → Nat} {s : GS} {ex : va_W} {d : Nat} {X : AmX}  (hd : 6 ≤ d) (hI : Inv s)  : GC Z d 379 [.ref (A 109)] (WW Z A s ++ ex) 0 0 (fun v u => ∃ t : GS, Inv t ∧ Fr fm_379 s t ∧ ∃ z : Int64, v = some (.long z) ∧ u = WW Z A t ++ ex) X := by
  intro post xp hP hX
  obtain ⟨u_109_20, e_109_20⟩ : ∃ w, w = s.2.2.1 109 20 := ⟨_, rfl⟩
  have ro_109_20 := inv_F hI 0 32 rfl e_109_20
  have ct13 : ∀ (k13 : Nat) (sc13 : GS) (y13_1 : Int64) (y13_3 : Int32), Inv sc13 → Fr fm_379 s sc13 → (In y13_3 0 32) → 32 - (y13_3).toInt < (k13 : Int) → GG Z (d - 1) 379 post (gx xp) (1 + k13 * 900) 13 (fun j => xlook j [(0, .ref (A 109)), (1, .long y13_1), (3, .int y13_3)]) [] (WW Z A sc13 ++ ex) 0 0 := by
    intro k13
    induction k13 with
    | zero => intro sc13 y13_1 y13_3 hIc13 hFc13 j13_3 mm13; exact m_no mm13 j13_3 rfl
    | succ k13 ih13 =>
      intro sc13 y13_1 y13_3 hIc13 hFc13 j13_3 mm13
      refine gg_w (M := 1 + k13 * 900 + 900) (by omega) ?_
      refine g_iload_n 14 (gd rfl) rfl rfl ?_
      refine g_aload_n 15 (gd rfl) rfl rfl ?_
      refine g_getI 18 (gd rfl) rfl rfl rfl (fun z15 e15 => ?_)
      have q15 : u_109_20 = z15 := (fr_F e_109_20 hFc13 rfl).trans e15.symm
      subst q15
      refine g_cmp_ge 21 41 (gd rfl) rfl rfl (fun c18 => ?_) (fun c18 => ?_)
      · skip
        refine g_lload_n 42 (gd rfl) rfl rfl ?_
        exact g_lreturn (gd rfl) rfl (hP _ _ ⟨sc13, hIc13, hFc13, y13_1, rfl, rfl⟩)
      · skip
        have i18 := r_lt1 0 31 c18 j13_3 ro_109_20 rfl
        have i18a := r_lt2 1 32 c18 j13_3 ro_109_20 rfl
        refine g_lload_n 22 (gd rfl) rfl rfl ?_
        refine g_aload_n 23 (gd rfl) rfl rfl ?_
        refine g_iload_n 24 (gd rfl) rfl rfl ?_
        refine g_aload_n 25 (gd rfl) rfl rfl ?_
        refine g_getA (q2 := 169) 28 (gd rfl) rfl rfl rfl rfl ?_
        refine g_iload_n 29 (gd rfl) rfl rfl ?_
        refine g_iaload 30 (gd rfl) rfl (n := 32) rfl (in_ix i18 rfl) (fun z29 e29 => ?_)
        refine g_callv (X := _) (As := [.int y13_3, .int z29]) (r := [.long y13_1]) (b := A 109) (q := 109) 33 (gd rfl) rfl rfl rfl rfl rfl (ww_o rfl) (Nat.le_of_ble_eq_true rfl) (Nat.zero_le _) (Nat.zero_le _) (k_373 (by omega) hIc13 (in_w 0 31 i18 rfl)) (fun e u h => h) (fun v u h => ?_)
        obtain ⟨z30, rfl, rfl⟩ := h
        show GG _ _ _ _ _ _ _ _ [.long z30, .long y13_1] _ _ _
        refine g_ladd 34 (gd rfl) rfl (fun z33 e33 => ?_)
        refine g_lstore_n 35 (gd rfl) rfl (Nat.le_of_ble_eq_true rfl) ?_
        refine g_iinc 38 (gd rfl) rfl rfl (Nat.le_of_ble_eq_true rfl) (fun z35 e35 => ?_)
        have i35 := in_add 1 32 e35 i18 (in_c 1 rfl) rfl rfl
        refine g_goto 13 (gd rfl) rfl ?_
        exact gg_w (by omega) (gg_f (gf_cons rfl (gf_cons rfl (gf_cons rfl gf_nil))) (ih13 sc13 z33 z35 hIc13 hFc13 (in_w 0 32 i35 rfl) (m_up mm13 (t_add e35 i18 (in_c 1 rfl) rfl) (in_w 1 1 (in_c 1 rfl) rfl))))
  refine g_enter2 (k := 379) (N := 30601) (by omega) rfl (Nat.le_of_ble_eq_true rfl) ?_
  refine g_aload_n 1 (gd rfl) rfl rfl ?_
  refine g_iconst 0 2 (gd rfl) rfl rfl ?_
  refine g_putI 5 (gd rfl) rfl rfl rfl rfl ?_
  have hI2 := inv_sF (q := 109) (j := 0) hI rfl (in_w 0 2 (in_c 0 rfl) rfl)
  refine g_aload_n 6 (gd rfl) rfl rfl ?_
  refine g_callv (X := _) (As := []) (r := []) (b := A 109) (q := 109) 9 (gd rfl) rfl rfl rfl rfl rfl (ww_o rfl) (Nat.le_of_ble_eq_true rfl) (Nat.zero_le _) (Nat.zero_le _) (k_374 (by omega) hI2 ) (fun e u h => h) (fun v u h => ?_)
  obtain ⟨s6, hI6, hF6, rfl, rfl⟩ := h
  show GG _ _ _ _ _ _ _ _ [] _ _ _
  refine g_lconst 0 10 (gd rfl) rfl rfl ?_
  refine g_lstore_n 11 (gd rfl) rfl (Nat.le_of_ble_eq_true rfl) ?_
  refine g_iconst 0 12 (gd rfl) rfl rfl ?_
  refine g_istore_n 13 (gd rfl) rfl (Nat.le_of_ble_eq_true rfl) ?_
  exact gg_w (by omega) (gg_f (gf_cons rfl (gf_cons rfl (gf_cons rfl gf_nil))) (ct13 33 s6 (Int64.ofInt 0) (Int32.ofInt 0) hI6 (fr_tr rfl (fr_sF rfl fr_rf) hF6) (in_w 0 32 (in_c 0 rfl) rfl) (m_in 33 (in_w 0 32 (in_c 0 rfl) rfl) rfl)))

def fm_386 : FM := ([172, 174, 176, 177, 180], [173, 175, 178, 179, 181, 182], [(109, 0), (109, 23), (109, 24), (109, 81), (109, 84), (109, 96), (109, 97), (109, 98), (109, 99)], [(109, 85), (109, 86), (109, 100), (109, 101)])
/-- GraphHouseModel.pattern -/
theorem k_386 {Z : AmZ} {A : Nat → Nat} {s : GS} {ex : va_W} {d : Nat} {X : AmX}  (hd : 5 ≤ d) (hI : Inv s)  : GC Z d 386 [.ref (A 109)] (WW Z A s ++ ex) 0 0 (fun v u => ∃ t : GS, Inv t ∧ Fr fm_386 s t ∧ ∃ z : Int32, v = some (.int z) ∧ u = WW Z A t ++ ex ∧ In z (-4) 0) X := by
  intro post xp hP hX
  obtain ⟨u_109_22, e_109_22⟩ : ∃ w, w = s.2.2.1 109 22 := ⟨_, rfl⟩
  have ro_109_22 := inv_F hI 0 1000 rfl e_109_22
  have ct226 : ∀ (k226 : Nat) (sc226 : GS) (y226_1 : Int32) (y226_2 : Int32), Inv sc226 → Fr fm_386 s sc226 → (In y226_1 0 60) → (In y226_2 0 60) → 60 - (y226_2).toInt < (k226 : Int) → GG Z (d - 1) 386 post (gx xp) (1 + k226 * 900) 226 (fun j => xlook j [(0, .ref (A 109)), (1, .int y226_1), (2, .int y226_2)]) [] (WW Z A sc226 ++ ex) 0 0 := by
    intro k226
    induction k226 with
    | zero => intro sc226 y226_1 y226_2 hIc226 hFc226 j226_1 j226_2 mm226; exact m_no mm226 j226_2 rfl
    | succ k226 ih226 =>
      intro sc226 y226_1 y226_2 hIc226 hFc226 j226_1 j226_2 mm226
      refine gg_w (M := 1 + k226 * 900 + 900) (by omega) ?_
      refine g_iload_n 227 (gd rfl) rfl rfl ?_
      refine g_bipush 60 229 (gd rfl) rfl rfl ?_
      refine g_cmp_ge 232 262 (gd rfl) rfl rfl (fun c229 => ?_) (fun c229 => ?_)
      · skip
        have i229 := r_le2 60 60 c229 (in_c 60 rfl) j226_2 rfl
        refine g_iconst 0 263 (gd rfl) rfl rfl ?_
        exact g_ireturn (gd rfl) rfl rfl (hP _ _ ⟨sc226, hIc226, hFc226, (Int32.ofInt 0), rfl, rfl, in_w (-4) 0 (in_c 0 rfl) rfl⟩)
      · skip
        have i229 := r_lt1 0 59 c229 j226_2 (in_c 60 rfl) rfl
        refine g_aload_n 233 (gd rfl) rfl rfl ?_
        refine g_getA (q2 := 172) 236 (gd rfl) rfl rfl rfl rfl ?_
        refine g_iload_n 237 (gd rfl) rfl rfl ?_
        refine g_aload_n 238 (gd rfl) rfl rfl ?_
        refine g_getA (q2 := 174) 241 (gd rfl) rfl rfl rfl rfl ?_
        refine g_iload_n 242 (gd rfl) rfl rfl ?_
        refine g_iaload 243 (gd rfl) rfl (n := 60) rfl (in_ix i229 rfl) (fun z242 e242 => ?_)
        have i242 := inv_I hIc226 (n := 60) (t := 0) 0 26 rfl (in_ix i229 rfl) rfl e242
        refine g_iastore 244 (gd rfl) rfl (n := 60) rfl (in_ix i229 rfl) ?_
        have hI243 := inv_sI (q := 172) (j := y226_2.toNatClampNeg) hIc226 rfl (in_w 0 26 i242 rfl)
        refine g_aload_n 245 (gd rfl) rfl rfl ?_
        refine g_getA (q2 := 173) 248 (gd rfl) rfl rfl rfl rfl ?_
        refine g_iload_n 249 (gd rfl) rfl rfl ?_
        refine g_aload_n 250 (gd rfl) rfl rfl ?_
        refine g_getA (q2 := 175) 253 (gd rfl) rfl rfl rfl rfl ?_
        refine g_iload_n 254 (gd rfl) rfl rfl ?_
        refine g_laload 255 (gd rfl) rfl (n := 60) rfl (in_ix i229 rfl) (fun z254 e254 => ?_)
        refine g_lastore 256 (gd rfl) rfl (n := 60) rfl (in_ix i229 rfl) ?_
        have hI255 := inv_sL (q := 173) (j := y226_2.toNatClampNeg) (x := z254) hI243 rfl (l_rng z254)
        refine g_iinc 259 (gd rfl) rfl rfl (Nat.le_of_ble_eq_true rfl) (fun z256 e256 => ?_)
        have i256 := in_add 1 60 e256 i229 (in_c 1 rfl) rfl rfl
        refine g_goto 226 (gd rfl) rfl ?_
        exact gg_w (by omega) (gg_f (gf_cons rfl (gf_cons rfl (gf_cons rfl gf_nil))) (ih226 (sL (sI sc226 172 y226_2.toNatClampNeg z242) 173 y226_2.toNatClampNeg z254) y226_1 z256 hI255 (fr_sL rfl (fr_sI rfl hFc226)) (in_w 0 60 j226_1 rfl) (in_w 0 60 i256 rfl) (m_up mm226 (t_add e256 i229 (in_c 1 rfl) rfl) (in_w 1 1 (in_c 1 rfl) rfl))))
  have ct63 : ∀ (k63 : Nat) (sc63 : GS) (y63_1 : Int32) (y63_2 : Int32), Inv sc63 → Fr fm_386 s sc63 → (In y63_1 0 60) → (In y63_2 0 60) → ((u_109_22).toInt ≤ 60) → ((y63_1).toInt ≤ (y63_2).toInt) → 60 - (y63_2).toInt < (k63 : Int) → GG Z (d - 1) 386 post (gx xp) (54902 + k63 * 900) 63 (fun j => xlook j [(0, .ref (A 109)), (1, .int y63_1), (2, .int y63_2)]) [] (WW Z A sc63 ++ ex) 0 0 := by
    intro k63
    induction k63 with
    | zero => intro sc63 y63_1 y63_2 hIc63 hFc63 j63_1 j63_2 n63_0 n63_1 mm63; exact m_no mm63 j63_2 rfl
    | succ k63 ih63 =>
      intro sc63 y63_1 y63_2 hIc63 hFc63 j63_1 j63_2 n63_0 n63_1 mm63
      refine gg_w (M := 54902 + k63 * 900 + 900) (by omega) ?_
      refine g_iload_n 64 (gd rfl) rfl rfl ?_
      refine g_aload_n 65 (gd rfl) rfl rfl ?_
      refine g_getI 68 (gd rfl) rfl rfl rfl (fun z65 e65 => ?_)
      have q65 : u_109_22 = z65 := (fr_F e_109_22 hFc63 rfl).trans e65.symm
      subst q65
      refine g_cmp_ge 71 152 (gd rfl) rfl rfl (fun c68 => ?_) (fun c68 => ?_)
      · skip
        have i68 := r_le1 0 60 c68 ro_109_22 j63_2 rfl
        refine g_aload_n 153 (gd rfl) rfl rfl ?_
        refine g_getI 156 (gd rfl) rfl rfl rfl (fun z153 e153 => ?_)
        have i153 := inv_F hIc63 0 9 rfl e153
        refine g_if_ne 159 175 (gd rfl) rfl rfl (fun c156 => ?_) (fun c156 => ?_)
        · skip
          have i156 := z_ne 1 9 c156 i153 rfl
          refine g_aload_n 176 (gd rfl) rfl rfl ?_
          refine g_getI 179 (gd rfl) rfl rfl rfl (fun z176 e176 => ?_)
          have q176 : z153 = z176 := (e153).trans e176.symm
          subst q176
          refine g_if_le 182 185 (gd rfl) rfl rfl (fun c179 => ?_) (fun c179 => ?_)
          · skip
            exact zn_le c179 i156 rfl
          · skip
            refine g_bipush (-4) 184 (gd rfl) rfl rfl ?_
            exact g_ireturn (gd rfl) rfl rfl (hP _ _ ⟨sc63, hIc63, hFc63, (Int32.ofInt (-4)), rfl, rfl, in_w (-4) 0 (in_c (-4) rfl) rfl⟩)
        · skip
          have i156 := z_eq 0 0 c156 i153 rfl
          refine g_aload_n 160 (gd rfl) rfl rfl ?_
          refine g_getI 163 (gd rfl) rfl rfl rfl (fun z160 e160 => ?_)
          have i160 := inv_F hIc63 0 10 rfl e160
          refine g_if_le 166 175 (gd rfl) rfl rfl (fun c163 => ?_) (fun c163 => ?_)
          · skip
            have i163 := z_le 0 0 c163 i160 rfl
            refine g_aload_n 176 (gd rfl) rfl rfl ?_
            refine g_getI 179 (gd rfl) rfl rfl rfl (fun z176 e176 => ?_)
            have q176 : z153 = z176 := (e153).trans e176.symm
            subst q176
            refine g_if_le 182 185 (gd rfl) rfl rfl (fun c179 => ?_) (fun c179 => ?_)
            · skip
              refine g_aload_n 186 (gd rfl) rfl rfl ?_
              refine g_callv (X := _) (As := []) (r := []) (b := A 109) (q := 109) 189 (gd rfl) rfl rfl rfl rfl rfl (ww_o rfl) (Nat.le_of_ble_eq_true rfl) (Nat.zero_le _) (Nat.zero_le _) (k_385 (by omega) hIc63 ) (fun e u h => h) (fun v u h => ?_)
              obtain ⟨s186, hI186, hF186, rfl, rfl⟩ := h
              show GG _ _ _ _ _ _ _ _ [] _ _ _
              refine g_aload_n 190 (gd rfl) rfl rfl ?_
              refine g_iload_n 191 (gd rfl) rfl rfl ?_
              refine g_putI 194 (gd rfl) rfl rfl rfl rfl ?_
              have hI191 := inv_sF (q := 109) (j := 81) hI186 rfl (in_w 0 60 j63_1 rfl)
              refine g_aload_n 195 (gd rfl) rfl rfl ?_
              refine g_aload_n 196 (gd rfl) rfl rfl ?_
              refine g_getA (q2 := 177) 199 (gd rfl) rfl rfl rfl rfl ?_
              refine g_iconst 0 200 (gd rfl) rfl rfl ?_
              refine g_baload 201 (gd rfl) rfl (n := 12) rfl (in_ix (in_c 0 rfl) rfl) (fun z200 e200 => ?_)
              have i200 := inv_I hI191 (n := 12) (t := 3) 0 1 rfl (in_ix (in_c 0 rfl) rfl) rfl e200
              refine g_putZ 204 (gd rfl) rfl rfl rfl rfl (in01 (in_w 0 1 i200 rfl)) ?_
              have hI201 := inv_sF (q := 109) (j := 84) hI191 rfl (in_w 0 1 i200 rfl)
              refine g_aload_n 205 (gd rfl) rfl rfl ?_
              refine g_aload_n 206 (gd rfl) rfl rfl ?_
              refine g_getA (q2 := 178) 209 (gd rfl) rfl rfl rfl rfl ?_
              refine g_iconst 0 210 (gd rfl) rfl rfl ?_
              refine g_laload 211 (gd rfl) rfl (n := 12) rfl (in_ix (in_c 0 rfl) rfl) (fun z210 e210 => ?_)
              refine g_putL 214 (gd rfl) rfl rfl rfl rfl ?_
              have hI211 := inv_sG (q := 109) (j := 85) (x := z210) hI201 rfl (l_rng z210)
              refine g_aload_n 215 (gd rfl) rfl rfl ?_
              refine g_aload_n 216 (gd rfl) rfl rfl ?_
              refine g_getA (q2 := 179) 219 (gd rfl) rfl rfl rfl rfl ?_
              refine g_iconst 0 220 (gd rfl) rfl rfl ?_
              refine g_laload 221 (gd rfl) rfl (n := 12) rfl (in_ix (in_c 0 rfl) rfl) (fun z220 e220 => ?_)
              refine g_putL 224 (gd rfl) rfl rfl rfl rfl ?_
              have hI221 := inv_sG (q := 109) (j := 86) (x := z220) hI211 rfl (l_rng z220)
              refine g_iconst 0 225 (gd rfl) rfl rfl ?_
              refine g_istore_n 226 (gd rfl) rfl (Nat.le_of_ble_eq_true rfl) ?_
              exact gg_w (by omega) (gg_f (gf_cons rfl (gf_cons rfl (gf_cons rfl gf_nil))) (ct226 61 (sG (sG (sF (sF s186 109 81 y63_1) 109 84 z200) 109 85 z210) 109 86 z220) y63_1 (Int32.ofInt 0) hI221 (fr_sG rfl (fr_sG rfl (fr_sF rfl (fr_sF rfl (fr_tr rfl hFc63 hF186))))) (in_w 0 60 j63_1 rfl) (in_w 0 60 (in_c 0 rfl) rfl) (m_in 61 (in_w 0 60 (in_c 0 rfl) rfl) rfl)))
            · skip
              exact zn_gt c179 i156 rfl
          · skip
            have i163 := z_gt 1 10 c163 i160 rfl
            refine g_aload_n 167 (gd rfl) rfl rfl ?_
            refine g_iconst 2 168 (gd rfl) rfl rfl ?_
            refine g_aload_n 169 (gd rfl) rfl rfl ?_
            refine g_getI 172 (gd rfl) rfl rfl rfl (fun z169 e169 => ?_)
            have q169 : u_109_22 = z169 := (fr_F e_109_22 hFc63 rfl).trans e169.symm
            subst q169
            refine g_callv (X := _) (As := [.int (Int32.ofInt 2), .int u_109_22]) (r := []) (b := A 109) (q := 109) 175 (gd rfl) rfl rfl rfl rfl rfl (ww_o rfl) (Nat.le_of_ble_eq_true rfl) (Nat.zero_le _) (Nat.zero_le _) (k_298 (by omega) hIc63 (in_w 1 5 (in_c 2 rfl) rfl)) (fun e u h => h) (fun v u h => ?_)
            obtain ⟨s172, hI172, hF172, n172, rfl, rfl⟩ := h
            obtain ⟨z172a, e172⟩ : ∃ w, w = s172.2.2.1 109 23 := ⟨_, rfl⟩
            have i172a := inv_F hI172 0 9 rfl e172
            rw [← (show z172a = s172.2.2.1 109 23 from e172)] at n172
            show GG _ _ _ _ _ _ _ _ [] _ _ _
            refine g_aload_n 176 (gd rfl) rfl rfl ?_
            refine g_getI 179 (gd rfl) rfl rfl rfl (fun z176 e176 => ?_)
            have q176 : z172a = z176 := (e172).trans e176.symm
            subst q176
            refine g_if_le 182 185 (gd rfl) rfl rfl (fun c179 => ?_) (fun c179 => ?_)
            · skip
              have i179 := z_le 0 0 c179 i172a rfl
              refine g_aload_n 186 (gd rfl) rfl rfl ?_
              refine g_callv (X := _) (As := []) (r := []) (b := A 109) (q := 109) 189 (gd rfl) rfl rfl rfl rfl rfl (ww_o rfl) (Nat.le_of_ble_eq_true rfl) (Nat.zero_le _) (Nat.zero_le _) (k_385 (by omega) hI172 ) (fun e u h => h) (fun v u h => ?_)
              obtain ⟨s186, hI186, hF186, rfl, rfl⟩ := h
              show GG _ _ _ _ _ _ _ _ [] _ _ _
              refine g_aload_n 190 (gd rfl) rfl rfl ?_
              refine g_iload_n 191 (gd rfl) rfl rfl ?_
              refine g_putI 194 (gd rfl) rfl rfl rfl rfl ?_
              have hI191 := inv_sF (q := 109) (j := 81) hI186 rfl (in_w 0 60 j63_1 rfl)
              refine g_aload_n 195 (gd rfl) rfl rfl ?_
              refine g_aload_n 196 (gd rfl) rfl rfl ?_
              refine g_getA (q2 := 177) 199 (gd rfl) rfl rfl rfl rfl ?_
              refine g_iconst 0 200 (gd rfl) rfl rfl ?_
              refine g_baload 201 (gd rfl) rfl (n := 12) rfl (in_ix (in_c 0 rfl) rfl) (fun z200 e200 => ?_)
              have i200 := inv_I hI191 (n := 12) (t := 3) 0 1 rfl (in_ix (in_c 0 rfl) rfl) rfl e200
              refine g_putZ 204 (gd rfl) rfl rfl rfl rfl (in01 (in_w 0 1 i200 rfl)) ?_
              have hI201 := inv_sF (q := 109) (j := 84) hI191 rfl (in_w 0 1 i200 rfl)
              refine g_aload_n 205 (gd rfl) rfl rfl ?_
              refine g_aload_n 206 (gd rfl) rfl rfl ?_
              refine g_getA (q2 := 178) 209 (gd rfl) rfl rfl rfl rfl ?_
              refine g_iconst 0 210 (gd rfl) rfl rfl ?_
              refine g_laload 211 (gd rfl) rfl (n := 12) rfl (in_ix (in_c 0 rfl) rfl) (fun z210 e210 => ?_)
              refine g_putL 214 (gd rfl) rfl rfl rfl rfl ?_
              have hI211 := inv_sG (q := 109) (j := 85) (x := z210) hI201 rfl (l_rng z210)
              refine g_aload_n 215 (gd rfl) rfl rfl ?_
              refine g_aload_n 216 (gd rfl) rfl rfl ?_
              refine g_getA (q2 := 179) 219 (gd rfl) rfl rfl rfl rfl ?_
              refine g_iconst 0 220 (gd rfl) rfl rfl ?_
              refine g_laload 221 (gd rfl) rfl (n := 12) rfl (in_ix (in_c 0 rfl) rfl) (fun z220 e220 => ?_)
              refine g_putL 224 (gd rfl) rfl rfl rfl rfl ?_
              have hI221 := inv_sG (q := 109) (j := 86) (x := z220) hI211 rfl (l_rng z220)
              refine g_iconst 0 225 (gd rfl) rfl rfl ?_
              refine g_istore_n 226 (gd rfl) rfl (Nat.le_of_ble_eq_true rfl) ?_
              exact gg_w (by omega) (gg_f (gf_cons rfl (gf_cons rfl (gf_cons rfl gf_nil))) (ct226 61 (sG (sG (sF (sF s186 109 81 y63_1) 109 84 z200) 109 85 z210) 109 86 z220) y63_1 (Int32.ofInt 0) hI221 (fr_sG rfl (fr_sG rfl (fr_sF rfl (fr_sF rfl (fr_tr rfl (fr_tr rfl hFc63 hF172) hF186))))) (in_w 0 60 j63_1 rfl) (in_w 0 60 (in_c 0 rfl) rfl) (m_in 61 (in_w 0 60 (in_c 0 rfl) rfl) rfl)))
            · skip
              have i179 := z_gt 1 9 c179 i172a rfl
              refine g_bipush (-4) 184 (gd rfl) rfl rfl ?_
              exact g_ireturn (gd rfl) rfl rfl (hP _ _ ⟨s172, hI172, (fr_tr rfl hFc63 hF172), (Int32.ofInt (-4)), rfl, rfl, in_w (-4) 0 (in_c (-4) rfl) rfl⟩)
      · skip
        have i68 := r_lt2 1 1000 c68 j63_2 ro_109_22 rfl
        refine g_aload_n 72 (gd rfl) rfl rfl ?_
        refine g_getI 75 (gd rfl) rfl rfl rfl (fun z72 e72 => ?_)
        have i72 := inv_F hIc63 0 9 rfl e72
        refine g_if_ne 78 152 (gd rfl) rfl rfl (fun c75 => ?_) (fun c75 => ?_)
        · skip
          have i75 := z_ne 1 9 c75 i72 rfl
          refine g_aload_n 153 (gd rfl) rfl rfl ?_
          refine g_getI 156 (gd rfl) rfl rfl rfl (fun z153 e153 => ?_)
          have q153 : z72 = z153 := (e72).trans e153.symm
          subst q153
          refine g_if_ne 159 175 (gd rfl) rfl rfl (fun c156 => ?_) (fun c156 => ?_)
          · skip
            refine g_aload_n 176 (gd rfl) rfl rfl ?_
            refine g_getI 179 (gd rfl) rfl rfl rfl (fun z176 e176 => ?_)
            have q176 : z72 = z176 := (e72).trans e176.symm
            subst q176
            refine g_if_le 182 185 (gd rfl) rfl rfl (fun c179 => ?_) (fun c179 => ?_)
            · skip
              exact zn_le c179 i75 rfl
            · skip
              refine g_bipush (-4) 184 (gd rfl) rfl rfl ?_
              exact g_ireturn (gd rfl) rfl rfl (hP _ _ ⟨sc63, hIc63, hFc63, (Int32.ofInt (-4)), rfl, rfl, in_w (-4) 0 (in_c (-4) rfl) rfl⟩)
          · skip
            exact zn_eq c156 i75 rfl
        · skip
          have i75 := z_eq 0 0 c75 i72 rfl
          refine g_aload_n 79 (gd rfl) rfl rfl ?_
          refine g_getA (q2 := 125) 82 (gd rfl) rfl rfl rfl rfl ?_
          refine g_iload_n 83 (gd rfl) rfl rfl ?_
          refine g_iaload 84 (gd rfl) rfl (n := 1000) rfl (in_ix j63_2 rfl) (fun z83 e83 => ?_)
          have i83 := inv_I hIc63 (n := 1000) (t := 0) 0 126 rfl (in_ix j63_2 rfl) rfl e83
          refine g_istore_n 85 (gd rfl) rfl (Nat.le_of_ble_eq_true rfl) ?_
          refine g_iload_n 86 (gd rfl) rfl rfl ?_
          refine g_calls (As := [.int z83]) (r := []) 89 (gd rfl) rfl rfl rfl rfl rfl (Nat.le_of_ble_eq_true rfl) (mc := 0) (ms := 0) (Nat.zero_le _) (Nat.zero_le _) (P := fun v u => _) ?_ (fun v u h => h)
          intro po86 xx86 hp86 hx86
          refine g_enter2 (k := 296) (N := 300) (by omega) rfl (Nat.le_of_ble_eq_true rfl) ?_
          refine g_iload_n 1 (gd rfl) rfl rfl ?_
          refine g_bipush 97 3 (gd rfl) rfl rfl ?_
          refine g_cmp_lt 6 16 (gd rfl) rfl rfl (fun c86x3 => ?_) (fun c86x3 => ?_)
          · skip
            have i86x3 := r_lt1 0 96 c86x3 i83 (in_c 97 rfl) rfl
            refine g_iconst 0 17 (gd rfl) rfl rfl ?_
            refine g_ireturn (gd rfl) rfl (nb01 (in_w 0 1 (in_c 0 rfl) rfl)) (hp86 _ _ ?_)
            show GG _ _ _ _ _ _ _ _ [.int (Int32.ofInt 0)] _ _ _
            refine g_if_ne 92 98 (gd rfl) rfl rfl (fun c89 => ?_) (fun c89 => ?_)
            · skip
              exact zn_ne c89 (in_c 0 rfl) rfl
            · skip
              refine g_iload_n 93 (gd rfl) rfl rfl ?_
              refine g_bipush 46 95 (gd rfl) rfl rfl ?_
              refine g_cmp_ne 98 140 (gd rfl) rfl rfl (fun c95 => ?_) (fun c95 => ?_)
              · skip
                refine g_aload_n 141 (gd rfl) rfl rfl ?_
                refine g_iload_n 142 (gd rfl) rfl rfl ?_
                refine g_iload_n 143 (gd rfl) rfl rfl ?_
                refine g_callv (X := _) (As := [.int z83, .int y63_2]) (r := []) (b := A 109) (q := 109) 146 (gd rfl) rfl rfl rfl rfl rfl (ww_o rfl) (Nat.le_of_ble_eq_true rfl) (Nat.zero_le _) (Nat.zero_le _) (k_388 (by omega) hIc63 (in_w 0 126 i86x3 rfl) (in_w 0 60 j63_2 rfl)) (fun e u h => h) (fun v u h => ?_)
                obtain ⟨s143, hI143, hF143, rfl, rfl⟩ := h
                show GG _ _ _ _ _ _ _ _ [] _ _ _
                refine g_iinc 149 (gd rfl) rfl rfl (Nat.le_of_ble_eq_true rfl) (fun z146 e146 => ?_)
                have i146 := in_add 1 61 e146 j63_2 (in_c 1 rfl) rfl rfl
                refine g_goto 63 (gd rfl) rfl ?_
                have i63 : In z146 0 60 := by exact ⟨by have a0 := i68; unfold In at a0; have a1 := j63_2; unfold In at a1; have a2 := j63_1; unfold In at a2; have a3 := i86x3; unfold In at a3; have a4 := i146; unfold In at a4; have a5 := t_add e146 j63_2 (in_c 1 rfl) rfl; have a6 := (in_c 1 rfl); unfold In at a6; omega, by have a0 := i68; unfold In at a0; have a1 := j63_2; unfold In at a1; have a2 := j63_1; unfold In at a2; have a3 := i86x3; unfold In at a3; have a4 := i146; unfold In at a4; have a5 := t_add e146 j63_2 (in_c 1 rfl) rfl; have a6 := (in_c 1 rfl); unfold In at a6; omega⟩
                have n63 : (u_109_22).toInt ≤ 60 := by have a0 := i68; unfold In at a0; have a1 := j63_2; unfold In at a1; have a2 := j63_1; unfold In at a2; have a3 := i86x3; unfold In at a3; have a4 := i63; unfold In at a4; have a5 := t_add e146 j63_2 (in_c 1 rfl) rfl; have a6 := (in_c 1 rfl); unfold In at a6; omega
                have n63a : (y63_1).toInt ≤ (z146).toInt := by have a0 := i68; unfold In at a0; have a1 := j63_2; unfold In at a1; have a2 := j63_1; unfold In at a2; have a3 := i86x3; unfold In at a3; have a4 := i63; unfold In at a4; have a5 := t_add e146 j63_2 (in_c 1 rfl) rfl; have a6 := (in_c 1 rfl); unfold In at a6; omega
                exact gg_w (by omega) (gg_f (gf_cons rfl (gf_cons rfl (gf_cons rfl gf_nil))) (ih63 s143 y63_1 z146 hI143 (fr_tr rfl hFc63 hF143) (in_w 0 60 j63_1 rfl) i63 n63 n63a (m_up mm63 (t_add e146 j63_2 (in_c 1 rfl) rfl) (in_w 1 1 (in_c 1 rfl) rfl))))
              · skip
                have i95 := r_eq1 46 46 c95 i86x3 (in_c 46 rfl) rfl
                refine g_aload_n 99 (gd rfl) rfl rfl ?_
                refine g_callv (X := _) (As := []) (r := []) (b := A 109) (q := 109) 102 (gd rfl) rfl rfl rfl rfl rfl (ww_o rfl) (Nat.le_of_ble_eq_true rfl) (Nat.zero_le _) (Nat.zero_le _) (k_384 (by omega) hIc63 ) (fun e u h => h) (fun v u h => ?_)
                obtain ⟨s99, hI99, hF99, rfl, rfl⟩ := h
                show GG _ _ _ _ _ _ _ _ [] _ _ _
                refine g_aload_n 103 (gd rfl) rfl rfl ?_
                refine g_getA (q2 := 174) 106 (gd rfl) rfl rfl rfl rfl ?_
                refine g_iload_n 107 (gd rfl) rfl rfl ?_
                refine g_iload_n 108 (gd rfl) rfl rfl ?_
                refine g_bipush 46 110 (gd rfl) rfl rfl ?_
                refine g_cmp_ne 113 118 (gd rfl) rfl rfl (fun c110 => ?_) (fun c110 => ?_)
                · skip
                  exact n_ne c110 i95 (in_c 46 rfl) rfl
                · skip
                  refine g_bipush 26 115 (gd rfl) rfl rfl ?_
                  refine g_goto 122 (gd rfl) rfl ?_
                  have i122 : In y63_1 0 59 := by have a0 := i68; unfold In at a0; have a1 := j63_2; unfold In at a1; have a2 := j63_1; unfold In at a2; have a3 := i95; unfold In at a3; have a4 := i75; unfold In at a4; exact ⟨by omega, by omega⟩
                  refine g_iastore 123 (gd rfl) rfl (n := 60) rfl (in_ix i122 rfl) ?_
                  have hI122 := inv_sI (q := 174) (j := y63_1.toNatClampNeg) hI99 rfl (in_w 0 26 (in_c 26 rfl) rfl)
                  refine g_aload_n 124 (gd rfl) rfl rfl ?_
                  refine g_iconst 0 125 (gd rfl) rfl rfl ?_
                  refine g_lconst 1 126 (gd rfl) rfl rfl ?_
                  refine g_iload_n 127 (gd rfl) rfl rfl ?_
                  refine g_lshl 128 (gd rfl) rfl (fun z127 e127 => ?_)
                  have i127 := l_shl 59 e127 i122 rfl
                  refine g_lconst 1 129 (gd rfl) rfl rfl ?_
                  refine g_iload_n 130 (gd rfl) rfl rfl ?_
                  refine g_lshl 131 (gd rfl) rfl (fun z130 e130 => ?_)
                  have i130 := l_shl 59 e130 i122 rfl
                  refine g_callv (X := _) (As := [.int (Int32.ofInt 0), .long z127, .long z130]) (r := []) (b := A 109) (q := 109) 134 (gd rfl) rfl rfl rfl rfl rfl (ww_o rfl) (Nat.le_of_ble_eq_true rfl) (mc := 0) (ms := 0) (Nat.zero_le _) (Nat.zero_le _) (P := fun v u => _) ?_ (fun e u h => h) (fun v u h => h)
                  intro po131 xx131 hp131 hx131
                  refine g_enter2 (k := 387) (N := 300) (by omega) rfl (Nat.le_of_ble_eq_true rfl) ?_
                  refine g_aload_n 1 (gd rfl) rfl rfl ?_
                  refine g_iconst 1 2 (gd rfl) rfl rfl ?_
                  refine g_putZ 5 (gd rfl) rfl rfl rfl rfl (in01 (in_w 0 1 (in_c 1 rfl) rfl)) ?_
                  have hI131x2 := inv_sF (q := 109) (j := 97) hI122 rfl (in_w 0 1 (in_c 1 rfl) rfl)
                  refine g_aload_n 6 (gd rfl) rfl rfl ?_
                  refine g_iconst 1 7 (gd rfl) rfl rfl ?_
                  refine g_putZ 10 (gd rfl) rfl rfl rfl rfl (in01 (in_w 0 1 (in_c 1 rfl) rfl)) ?_
                  have hI131x7 := inv_sF (q := 109) (j := 98) hI131x2 rfl (in_w 0 1 (in_c 1 rfl) rfl)
                  refine g_aload_n 11 (gd rfl) rfl rfl ?_
                  refine g_iload_n 12 (gd rfl) rfl rfl ?_
                  refine g_putZ 15 (gd rfl) rfl rfl rfl rfl (in01 (in_w 0 1 (in_c 0 rfl) rfl)) ?_
                  have hI131x12 := inv_sF (q := 109) (j := 99) hI131x7 rfl (in_w 0 1 (in_c 0 rfl) rfl)
                  refine g_aload_n 16 (gd rfl) rfl rfl ?_
                  refine g_lload_n 17 (gd rfl) rfl rfl ?_
                  refine g_putL 20 (gd rfl) rfl rfl rfl rfl ?_
                  have hI131x17 := inv_sG (q := 109) (j := 100) (x := z127) hI131x12 rfl (l_rng z127)
                  refine g_aload_n 21 (gd rfl) rfl rfl ?_
                  refine g_lload 23 (gd rfl) rfl rfl ?_
                  refine g_putL 26 (gd rfl) rfl rfl rfl rfl ?_
                  have hI131x23 := inv_sG (q := 109) (j := 101) (x := z130) hI131x17 rfl (l_rng z130)
                  refine g_return (gd rfl) rfl (hp131 _ _ ?_)
                  show GG _ _ _ _ _ _ _ _ [] _ _ _
                  refine g_iinc 137 (gd rfl) rfl rfl (Nat.le_of_ble_eq_true rfl) (fun z134 e134 => ?_)
                  have i134 := in_add 1 60 e134 i122 (in_c 1 rfl) rfl rfl
                  refine g_goto 146 (gd rfl) rfl ?_
                  refine g_iinc 149 (gd rfl) rfl rfl (Nat.le_of_ble_eq_true rfl) (fun z146 e146 => ?_)
                  have i146 := in_add 1 61 e146 j63_2 (in_c 1 rfl) rfl rfl
                  refine g_goto 63 (gd rfl) rfl ?_
                  have i63 : In z146 0 60 := by exact ⟨by have a0 := i68; unfold In at a0; have a1 := j63_2; unfold In at a1; have a2 := i122; unfold In at a2; have a3 := i95; unfold In at a3; have a4 := i146; unfold In at a4; have a5 := t_add e146 j63_2 (in_c 1 rfl) rfl; have a6 := (in_c 1 rfl); unfold In at a6; have a7 := i134; unfold In at a7; have a8 := t_add e134 i122 (in_c 1 rfl) rfl; have a9 := (in_c 0 rfl); unfold In at a9; have a10 := i75; unfold In at a10; omega, by have a0 := i68; unfold In at a0; have a1 := j63_2; unfold In at a1; have a2 := i122; unfold In at a2; have a3 := i95; unfold In at a3; have a4 := i146; unfold In at a4; have a5 := t_add e146 j63_2 (in_c 1 rfl) rfl; have a6 := (in_c 1 rfl); unfold In at a6; have a7 := i134; unfold In at a7; have a8 := t_add e134 i122 (in_c 1 rfl) rfl; have a9 := (in_c 0 rfl); unfold In at a9; have a10 := i75; unfold In at a10; omega⟩
                  have n63 : (u_109_22).toInt ≤ 60 := by have a0 := i68; unfold In at a0; have a1 := j63_2; unfold In at a1; have a2 := i122; unfold In at a2; have a3 := i95; unfold In at a3; have a4 := i63; unfold In at a4; have a5 := t_add e146 j63_2 (in_c 1 rfl) rfl; have a6 := (in_c 1 rfl); unfold In at a6; have a7 := i134; unfold In at a7; have a8 := t_add e134 i122 (in_c 1 rfl) rfl; have a9 := (in_c 0 rfl); unfold In at a9; have a10 := i75; unfold In at a10; omega
                  have n63a : (z134).toInt ≤ (z146).toInt := by have a0 := i68; unfold In at a0; have a1 := j63_2; unfold In at a1; have a2 := i122; unfold In at a2; have a3 := i95; unfold In at a3; have a4 := i63; unfold In at a4; have a5 := t_add e146 j63_2 (in_c 1 rfl) rfl; have a6 := (in_c 1 rfl); unfold In at a6; have a7 := i134; unfold In at a7; have a8 := t_add e134 i122 (in_c 1 rfl) rfl; have a9 := (in_c 0 rfl); unfold In at a9; have a10 := i75; unfold In at a10; omega
                  exact gg_w (by omega) (gg_f (gf_cons rfl (gf_cons rfl (gf_cons rfl gf_nil))) (ih63 (sG (sG (sF (sF (sF (sI s99 174 y63_1.toNatClampNeg (Int32.ofInt 26)) 109 97 (Int32.ofInt 1)) 109 98 (Int32.ofInt 1)) 109 99 (Int32.ofInt 0)) 109 100 z127) 109 101 z130) z134 z146 hI131x23 (fr_sG rfl (fr_sG rfl (fr_sF rfl (fr_sF rfl (fr_sF rfl (fr_sI rfl (fr_tr rfl hFc63 hF99))))))) (in_w 0 60 i134 rfl) i63 n63 n63a (m_up mm63 (t_add e146 j63_2 (in_c 1 rfl) rfl) (in_w 1 1 (in_c 1 rfl) rfl))))
          · skip
            have i86x3 := r_le2 97 126 c86x3 (in_c 97 rfl) i83 rfl
            refine g_iload_n 7 (gd rfl) rfl rfl ?_
            refine g_bipush 122 9 (gd rfl) rfl rfl ?_
            refine g_cmp_gt 12 16 (gd rfl) rfl rfl (fun c86x9 => ?_) (fun c86x9 => ?_)
            · skip
              have i86x9 := r_lt2 123 126 c86x9 (in_c 122 rfl) i86x3 rfl
              refine g_iconst 0 17 (gd rfl) rfl rfl ?_
              refine g_ireturn (gd rfl) rfl (nb01 (in_w 0 1 (in_c 0 rfl) rfl)) (hp86 _ _ ?_)
              show GG _ _ _ _ _ _ _ _ [.int (Int32.ofInt 0)] _ _ _
              refine g_if_ne 92 98 (gd rfl) rfl rfl (fun c89 => ?_) (fun c89 => ?_)
              · skip
                exact zn_ne c89 (in_c 0 rfl) rfl
              · skip
                refine g_iload_n 93 (gd rfl) rfl rfl ?_
                refine g_bipush 46 95 (gd rfl) rfl rfl ?_
                refine g_cmp_ne 98 140 (gd rfl) rfl rfl (fun c95 => ?_) (fun c95 => ?_)
                · skip
                  refine g_aload_n 141 (gd rfl) rfl rfl ?_
                  refine g_iload_n 142 (gd rfl) rfl rfl ?_
                  refine g_iload_n 143 (gd rfl) rfl rfl ?_
                  refine g_callv (X := _) (As := [.int z83, .int y63_2]) (r := []) (b := A 109) (q := 109) 146 (gd rfl) rfl rfl rfl rfl rfl (ww_o rfl) (Nat.le_of_ble_eq_true rfl) (Nat.zero_le _) (Nat.zero_le _) (k_388 (by omega) hIc63 (in_w 0 126 i86x9 rfl) (in_w 0 60 j63_2 rfl)) (fun e u h => h) (fun v u h => ?_)
                  obtain ⟨s143, hI143, hF143, rfl, rfl⟩ := h
                  show GG _ _ _ _ _ _ _ _ [] _ _ _
                  refine g_iinc 149 (gd rfl) rfl rfl (Nat.le_of_ble_eq_true rfl) (fun z146 e146 => ?_)
                  have i146 := in_add 1 61 e146 j63_2 (in_c 1 rfl) rfl rfl
                  refine g_goto 63 (gd rfl) rfl ?_
                  have i63 : In z146 0 60 := by exact ⟨by have a0 := i68; unfold In at a0; have a1 := j63_2; unfold In at a1; have a2 := j63_1; unfold In at a2; have a3 := i86x9; unfold In at a3; have a4 := i146; unfold In at a4; have a5 := t_add e146 j63_2 (in_c 1 rfl) rfl; have a6 := (in_c 1 rfl); unfold In at a6; omega, by have a0 := i68; unfold In at a0; have a1 := j63_2; unfold In at a1; have a2 := j63_1; unfold In at a2; have a3 := i86x9; unfold In at a3; have a4 := i146; unfold In at a4; have a5 := t_add e146 j63_2 (in_c 1 rfl) rfl; have a6 := (in_c 1 rfl); unfold In at a6; omega⟩
                  have n63 : (u_109_22).toInt ≤ 60 := by have a0 := i68; unfold In at a0; have a1 := j63_2; unfold In at a1; have a2 := j63_1; unfold In at a2; have a3 := i86x9; unfold In at a3; have a4 := i63; unfold In at a4; have a5 := t_add e146 j63_2 (in_c 1 rfl) rfl; have a6 := (in_c 1 rfl); unfold In at a6; omega
                  have n63a : (y63_1).toInt ≤ (z146).toInt := by have a0 := i68; unfold In at a0; have a1 := j63_2; unfold In at a1; have a2 := j63_1; unfold In at a2; have a3 := i86x9; unfold In at a3; have a4 := i63; unfold In at a4; have a5 := t_add e146 j63_2 (in_c 1 rfl) rfl; have a6 := (in_c 1 rfl); unfold In at a6; omega
                  exact gg_w (by omega) (gg_f (gf_cons rfl (gf_cons rfl (gf_cons rfl gf_nil))) (ih63 s143 y63_1 z146 hI143 (fr_tr rfl hFc63 hF143) (in_w 0 60 j63_1 rfl) i63 n63 n63a (m_up mm63 (t_add e146 j63_2 (in_c 1 rfl) rfl) (in_w 1 1 (in_c 1 rfl) rfl))))
                · skip
                  exact n_eq c95 i86x9 (in_c 46 rfl) rfl
            · skip
              have i86x9 := r_le1 97 122 c86x9 i86x3 (in_c 122 rfl) rfl
              refine g_iconst 1 13 (gd rfl) rfl rfl ?_
              refine g_goto 17 (gd rfl) rfl ?_
              refine g_ireturn (gd rfl) rfl (nb01 (in_w 0 1 (in_c 1 rfl) rfl)) (hp86 _ _ ?_)
              show GG _ _ _ _ _ _ _ _ [.int (Int32.ofInt 1)] _ _ _
              refine g_if_ne 92 98 (gd rfl) rfl rfl (fun c89 => ?_) (fun c89 => ?_)
              · skip
                refine g_aload_n 99 (gd rfl) rfl rfl ?_
                refine g_callv (X := _) (As := []) (r := []) (b := A 109) (q := 109) 102 (gd rfl) rfl rfl rfl rfl rfl (ww_o rfl) (Nat.le_of_ble_eq_true rfl) (Nat.zero_le _) (Nat.zero_le _) (k_384 (by omega) hIc63 ) (fun e u h => h) (fun v u h => ?_)
                obtain ⟨s99, hI99, hF99, rfl, rfl⟩ := h
                show GG _ _ _ _ _ _ _ _ [] _ _ _
                refine g_aload_n 103 (gd rfl) rfl rfl ?_
                refine g_getA (q2 := 174) 106 (gd rfl) rfl rfl rfl rfl ?_
                refine g_iload_n 107 (gd rfl) rfl rfl ?_
                refine g_iload_n 108 (gd rfl) rfl rfl ?_
                refine g_bipush 46 110 (gd rfl) rfl rfl ?_
                refine g_cmp_ne 113 118 (gd rfl) rfl rfl (fun c110 => ?_) (fun c110 => ?_)
                · skip
                  refine g_iload_n 119 (gd rfl) rfl rfl ?_
                  refine g_bipush 97 121 (gd rfl) rfl rfl ?_
                  refine g_isub 122 (gd rfl) rfl (fun z121 e121 => ?_)
                  have i121 := in_sub 0 25 e121 i86x9 (in_c 97 rfl) rfl rfl
                  have i122 : In y63_1 0 59 := by have a0 := i68; unfold In at a0; have a1 := j63_2; unfold In at a1; have a2 := j63_1; unfold In at a2; have a3 := i86x9; unfold In at a3; have a4 := i75; unfold In at a4; have a5 := i121; unfold In at a5; have a6 := t_sub e121 i86x9 (in_c 97 rfl) rfl; have a7 := (in_c 97 rfl); unfold In at a7; exact ⟨by omega, by omega⟩
                  refine g_iastore 123 (gd rfl) rfl (n := 60) rfl (in_ix i122 rfl) ?_
                  have hI122 := inv_sI (q := 174) (j := y63_1.toNatClampNeg) hI99 rfl (in_w 0 26 i121 rfl)
                  refine g_aload_n 124 (gd rfl) rfl rfl ?_
                  refine g_iconst 0 125 (gd rfl) rfl rfl ?_
                  refine g_lconst 1 126 (gd rfl) rfl rfl ?_
                  refine g_iload_n 127 (gd rfl) rfl rfl ?_
                  refine g_lshl 128 (gd rfl) rfl (fun z127 e127 => ?_)
                  have i127 := l_shl 59 e127 i122 rfl
                  refine g_lconst 1 129 (gd rfl) rfl rfl ?_
                  refine g_iload_n 130 (gd rfl) rfl rfl ?_
                  refine g_lshl 131 (gd rfl) rfl (fun z130 e130 => ?_)
                  have i130 := l_shl 59 e130 i122 rfl
                  refine g_callv (X := _) (As := [.int (Int32.ofInt 0), .long z127, .long z130]) (r := []) (b := A 109) (q := 109) 134 (gd rfl) rfl rfl rfl rfl rfl (ww_o rfl) (Nat.le_of_ble_eq_true rfl) (mc := 0) (ms := 0) (Nat.zero_le _) (Nat.zero_le _) (P := fun v u => _) ?_ (fun e u h => h) (fun v u h => h)
                  intro po131 xx131 hp131 hx131
                  refine g_enter2 (k := 387) (N := 300) (by omega) rfl (Nat.le_of_ble_eq_true rfl) ?_
                  refine g_aload_n 1 (gd rfl) rfl rfl ?_
                  refine g_iconst 1 2 (gd rfl) rfl rfl ?_
                  refine g_putZ 5 (gd rfl) rfl rfl rfl rfl (in01 (in_w 0 1 (in_c 1 rfl) rfl)) ?_
                  have hI131x2 := inv_sF (q := 109) (j := 97) hI122 rfl (in_w 0 1 (in_c 1 rfl) rfl)
                  refine g_aload_n 6 (gd rfl) rfl rfl ?_
                  refine g_iconst 1 7 (gd rfl) rfl rfl ?_
                  refine g_putZ 10 (gd rfl) rfl rfl rfl rfl (in01 (in_w 0 1 (in_c 1 rfl) rfl)) ?_
                  have hI131x7 := inv_sF (q := 109) (j := 98) hI131x2 rfl (in_w 0 1 (in_c 1 rfl) rfl)
                  refine g_aload_n 11 (gd rfl) rfl rfl ?_
                  refine g_iload_n 12 (gd rfl) rfl rfl ?_
                  refine g_putZ 15 (gd rfl) rfl rfl rfl rfl (in01 (in_w 0 1 (in_c 0 rfl) rfl)) ?_
                  have hI131x12 := inv_sF (q := 109) (j := 99) hI131x7 rfl (in_w 0 1 (in_c 0 rfl) rfl)
                  refine g_aload_n 16 (gd rfl) rfl rfl ?_
                  refine g_lload_n 17 (gd rfl) rfl rfl ?_
                  refine g_putL 20 (gd rfl) rfl rfl rfl rfl ?_
                  have hI131x17 := inv_sG (q := 109) (j := 100) (x := z127) hI131x12 rfl (l_rng z127)
                  refine g_aload_n 21 (gd rfl) rfl rfl ?_
                  refine g_lload 23 (gd rfl) rfl rfl ?_
                  refine g_putL 26 (gd rfl) rfl rfl rfl rfl ?_
                  have hI131x23 := inv_sG (q := 109) (j := 101) (x := z130) hI131x17 rfl (l_rng z130)
                  refine g_return (gd rfl) rfl (hp131 _ _ ?_)
                  show GG _ _ _ _ _ _ _ _ [] _ _ _
                  refine g_iinc 137 (gd rfl) rfl rfl (Nat.le_of_ble_eq_true rfl) (fun z134 e134 => ?_)
                  have i134 := in_add 1 60 e134 i122 (in_c 1 rfl) rfl rfl
                  refine g_goto 146 (gd rfl) rfl ?_
                  refine g_iinc 149 (gd rfl) rfl rfl (Nat.le_of_ble_eq_true rfl) (fun z146 e146 => ?_)
                  have i146 := in_add 1 61 e146 j63_2 (in_c 1 rfl) rfl rfl
                  refine g_goto 63 (gd rfl) rfl ?_
                  have i63 : In z146 0 60 := by exact ⟨by have a0 := i68; unfold In at a0; have a1 := j63_2; unfold In at a1; have a2 := i122; unfold In at a2; have a3 := i86x9; unfold In at a3; have a4 := i146; unfold In at a4; have a5 := t_add e146 j63_2 (in_c 1 rfl) rfl; have a6 := (in_c 1 rfl); unfold In at a6; have a7 := i134; unfold In at a7; have a8 := t_add e134 i122 (in_c 1 rfl) rfl; have a9 := (in_c 0 rfl); unfold In at a9; have a10 := i75; unfold In at a10; have a11 := i121; unfold In at a11; have a12 := t_sub e121 i86x9 (in_c 97 rfl) rfl; have a13 := (in_c 97 rfl); unfold In at a13; omega, by have a0 := i68; unfold In at a0; have a1 := j63_2; unfold In at a1; have a2 := i122; unfold In at a2; have a3 := i86x9; unfold In at a3; have a4 := i146; unfold In at a4; have a5 := t_add e146 j63_2 (in_c 1 rfl) rfl; have a6 := (in_c 1 rfl); unfold In at a6; have a7 := i134; unfold In at a7; have a8 := t_add e134 i122 (in_c 1 rfl) rfl; have a9 := (in_c 0 rfl); unfold In at a9; have a10 := i75; unfold In at a10; have a11 := i121; unfold In at a11; have a12 := t_sub e121 i86x9 (in_c 97 rfl) rfl; have a13 := (in_c 97 rfl); unfold In at a13; omega⟩
                  have n63 : (u_109_22).toInt ≤ 60 := by have a0 := i68; unfold In at a0; have a1 := j63_2; unfold In at a1; have a2 := i122; unfold In at a2; have a3 := i86x9; unfold In at a3; have a4 := i63; unfold In at a4; have a5 := t_add e146 j63_2 (in_c 1 rfl) rfl; have a6 := (in_c 1 rfl); unfold In at a6; have a7 := i134; unfold In at a7; have a8 := t_add e134 i122 (in_c 1 rfl) rfl; have a9 := (in_c 0 rfl); unfold In at a9; have a10 := i75; unfold In at a10; have a11 := i121; unfold In at a11; have a12 := t_sub e121 i86x9 (in_c 97 rfl) rfl; have a13 := (in_c 97 rfl); unfold In at a13; omega
                  have n63a : (z134).toInt ≤ (z146).toInt := by have a0 := i68; unfold In at a0; have a1 := j63_2; unfold In at a1; have a2 := i122; unfold In at a2; have a3 := i86x9; unfold In at a3; have a4 := i63; unfold In at a4; have a5 := t_add e146 j63_2 (in_c 1 rfl) rfl; have a6 := (in_c 1 rfl); unfold In at a6; have a7 := i134; unfold In at a7; have a8 := t_add e134 i122 (in_c 1 rfl) rfl; have a9 := (in_c 0 rfl); unfold In at a9; have a10 := i75; unfold In at a10; have a11 := i121; unfold In at a11; have a12 := t_sub e121 i86x9 (in_c 97 rfl) rfl; have a13 := (in_c 97 rfl); unfold In at a13; omega
                  exact gg_w (by omega) (gg_f (gf_cons rfl (gf_cons rfl (gf_cons rfl gf_nil))) (ih63 (sG (sG (sF (sF (sF (sI s99 174 y63_1.toNatClampNeg z121) 109 97 (Int32.ofInt 1)) 109 98 (Int32.ofInt 1)) 109 99 (Int32.ofInt 0)) 109 100 z127) 109 101 z130) z134 z146 hI131x23 (fr_sG rfl (fr_sG rfl (fr_sF rfl (fr_sF rfl (fr_sF rfl (fr_sI rfl (fr_tr rfl hFc63 hF99))))))) (in_w 0 60 i134 rfl) i63 n63 n63a (m_up mm63 (t_add e146 j63_2 (in_c 1 rfl) rfl) (in_w 1 1 (in_c 1 rfl) rfl))))
                · skip
                  exact n_eq c110 i86x9 (in_c 46 rfl) rfl
              · skip
                exact zn_eq c89 (in_c 1 rfl) rfl
  have ct33 : ∀ (k33 : Nat) (sc33 : GS) (y33_1 : Int32) (y33_2 : Int32), Inv sc33 → Fr fm_386 s sc33 → (In y33_1 0 0) → (In y33_2 0 60) → ((u_109_22).toInt ≤ 60) → 60 - (y33_2).toInt < (k33 : Int) → GG Z (d - 1) 386 post (gx xp) (109803 + k33 * 900) 33 (fun j => xlook j [(0, .ref (A 109)), (1, .int y33_1), (2, .int y33_2)]) [] (WW Z A sc33 ++ ex) 0 0 := by
    intro k33
    induction k33 with
    | zero => intro sc33 y33_1 y33_2 hIc33 hFc33 j33_1 j33_2 n33_0 mm33; exact m_no mm33 j33_2 rfl
    | succ k33 ih33 =>
      intro sc33 y33_1 y33_2 hIc33 hFc33 j33_1 j33_2 n33_0 mm33
      refine gg_w (M := 109803 + k33 * 900 + 900) (by omega) ?_
      refine g_iload_n 34 (gd rfl) rfl rfl ?_
      refine g_bipush 60 36 (gd rfl) rfl rfl ?_
      refine g_cmp_ge 39 52 (gd rfl) rfl rfl (fun c36 => ?_) (fun c36 => ?_)
      · skip
        have i36 := r_le2 60 60 c36 (in_c 60 rfl) j33_2 rfl
        refine g_aload_n 53 (gd rfl) rfl rfl ?_
        refine g_iconst 0 54 (gd rfl) rfl rfl ?_
        refine g_putI 57 (gd rfl) rfl rfl rfl rfl ?_
        have hI54 := inv_sF (q := 109) (j := 96) hIc33 rfl (in_w 0 10 (in_c 0 rfl) rfl)
        refine g_aload_n 58 (gd rfl) rfl rfl ?_
        refine g_callv (X := _) (As := []) (r := []) (b := A 109) (q := 109) 61 (gd rfl) rfl rfl rfl rfl rfl (ww_o rfl) (Nat.le_of_ble_eq_true rfl) (mc := 0) (ms := 0) (Nat.zero_le _) (Nat.zero_le _) (P := fun v u => _) ?_ (fun e u h => h) (fun v u h => h)
        intro po58 xx58 hp58 hx58
        refine g_enter2 (k := 381) (N := 300) (by omega) rfl (Nat.le_of_ble_eq_true rfl) ?_
        refine g_aload_n 1 (gd rfl) rfl rfl ?_
        refine g_getA (q2 := 176) 4 (gd rfl) rfl rfl rfl rfl ?_
        refine g_aload_n 5 (gd rfl) rfl rfl ?_
        refine g_getI 8 (gd rfl) rfl rfl rfl (fun z58x5 e58x5 => ?_)
        have q58x5 : (Int32.ofInt 0) = z58x5 := (sF_get).trans e58x5.symm
        subst q58x5
        refine g_iconst 0 9 (gd rfl) rfl rfl ?_
        refine g_bastore 10 (gd rfl) rfl (n := 12) rfl (in_ix (in_c 0 rfl) rfl) ?_
        have hI58x9 := inv_sI (q := 176) (j := (Int32.ofInt 0).toNatClampNeg) hI54 rfl (in_w 0 1 (nar01 (in_w 0 1 (in_c 0 rfl) rfl)) rfl)
        refine g_aload_n 11 (gd rfl) rfl rfl ?_
        refine g_getA (q2 := 177) 14 (gd rfl) rfl rfl rfl rfl ?_
        refine g_aload_n 15 (gd rfl) rfl rfl ?_
        refine g_getI 18 (gd rfl) rfl rfl rfl (fun z58x15 e58x15 => ?_)
        have q58x15 : (Int32.ofInt 0) = z58x15 := (sI_F (sF_get)).trans e58x15.symm
        subst q58x15
        refine g_iconst 0 19 (gd rfl) rfl rfl ?_
        refine g_bastore 20 (gd rfl) rfl (n := 12) rfl (in_ix (in_c 0 rfl) rfl) ?_
        have hI58x19 := inv_sI (q := 177) (j := (Int32.ofInt 0).toNatClampNeg) hI58x9 rfl (in_w 0 1 (nar01 (in_w 0 1 (in_c 0 rfl) rfl)) rfl)
        refine g_aload_n 21 (gd rfl) rfl rfl ?_
        refine g_getA (q2 := 178) 24 (gd rfl) rfl rfl rfl rfl ?_
        refine g_aload_n 25 (gd rfl) rfl rfl ?_
        refine g_getI 28 (gd rfl) rfl rfl rfl (fun z58x25 e58x25 => ?_)
        have q58x25 : (Int32.ofInt 0) = z58x25 := (sI_F (sI_F (sF_get))).trans e58x25.symm
        subst q58x25
        refine g_lconst 0 29 (gd rfl) rfl rfl ?_
        refine g_lastore 30 (gd rfl) rfl (n := 12) rfl (in_ix (in_c 0 rfl) rfl) ?_
        have hI58x29 := inv_sL (q := 178) (j := (Int32.ofInt 0).toNatClampNeg) (x := (Int64.ofInt 0)) hI58x19 rfl (l_rng (Int64.ofInt 0))
        refine g_aload_n 31 (gd rfl) rfl rfl ?_
        refine g_getA (q2 := 179) 34 (gd rfl) rfl rfl rfl rfl ?_
        refine g_aload_n 35 (gd rfl) rfl rfl ?_
        refine g_getI 38 (gd rfl) rfl rfl rfl (fun z58x35 e58x35 => ?_)
        have q58x35 : (Int32.ofInt 0) = z58x35 := (sL_F (sI_F (sI_F (sF_get)))).trans e58x35.symm
        subst q58x35
        refine g_lconst 0 39 (gd rfl) rfl rfl ?_
        refine g_lastore 40 (gd rfl) rfl (n := 12) rfl (in_ix (in_c 0 rfl) rfl) ?_
        have hI58x39 := inv_sL (q := 179) (j := (Int32.ofInt 0).toNatClampNeg) (x := (Int64.ofInt 0)) hI58x29 rfl (l_rng (Int64.ofInt 0))
        refine g_aload_n 41 (gd rfl) rfl rfl ?_
        refine g_callv (X := _) (As := []) (r := []) (b := A 109) (q := 109) 44 (gd rfl) rfl rfl rfl rfl rfl (ww_o rfl) (Nat.le_of_ble_eq_true rfl) (mc := 0) (ms := 0) (Nat.zero_le _) (Nat.zero_le _) (P := fun v u => _) ?_ (fun e u h => h) (fun v u h => h)
        intro po58x41 xx58x41 hp58x41 hx58x41
        refine g_enter2 (k := 382) (N := 300) (by omega) rfl (Nat.le_of_ble_eq_true rfl) ?_
        refine g_aload_n 1 (gd rfl) rfl rfl ?_
        refine g_getA (q2 := 180) 4 (gd rfl) rfl rfl rfl rfl ?_
        refine g_aload_n 5 (gd rfl) rfl rfl ?_
        refine g_getI 8 (gd rfl) rfl rfl rfl (fun z58x41x5 e58x41x5 => ?_)
        have q58x41x5 : (Int32.ofInt 0) = z58x41x5 := (sL_F (sL_F (sI_F (sI_F (sF_get))))).trans e58x41x5.symm
        subst q58x41x5
        refine g_iconst 1 9 (gd rfl) rfl rfl ?_
        refine g_bastore 10 (gd rfl) rfl (n := 12) rfl (in_ix (in_c 0 rfl) rfl) ?_
        have hI58x41x9 := inv_sI (q := 180) (j := (Int32.ofInt 0).toNatClampNeg) hI58x39 rfl (in_w 0 1 (nar01 (in_w 0 1 (in_c 1 rfl) rfl)) rfl)
        refine g_aload_n 11 (gd rfl) rfl rfl ?_
        refine g_getA (q2 := 181) 14 (gd rfl) rfl rfl rfl rfl ?_
        refine g_aload_n 15 (gd rfl) rfl rfl ?_
        refine g_getI 18 (gd rfl) rfl rfl rfl (fun z58x41x15 e58x41x15 => ?_)
        have q58x41x15 : (Int32.ofInt 0) = z58x41x15 := (sI_F (sL_F (sL_F (sI_F (sI_F (sF_get)))))).trans e58x41x15.symm
        subst q58x41x15
        refine g_lconst 0 19 (gd rfl) rfl rfl ?_
        refine g_lastore 20 (gd rfl) rfl (n := 12) rfl (in_ix (in_c 0 rfl) rfl) ?_
        have hI58x41x19 := inv_sL (q := 181) (j := (Int32.ofInt 0).toNatClampNeg) (x := (Int64.ofInt 0)) hI58x41x9 rfl (l_rng (Int64.ofInt 0))
        refine g_aload_n 21 (gd rfl) rfl rfl ?_
        refine g_getA (q2 := 182) 24 (gd rfl) rfl rfl rfl rfl ?_
        refine g_aload_n 25 (gd rfl) rfl rfl ?_
        refine g_getI 28 (gd rfl) rfl rfl rfl (fun z58x41x25 e58x41x25 => ?_)
        have q58x41x25 : (Int32.ofInt 0) = z58x41x25 := (sL_F (sI_F (sL_F (sL_F (sI_F (sI_F (sF_get))))))).trans e58x41x25.symm
        subst q58x41x25
        refine g_lconst 0 29 (gd rfl) rfl rfl ?_
        refine g_lastore 30 (gd rfl) rfl (n := 12) rfl (in_ix (in_c 0 rfl) rfl) ?_
        have hI58x41x29 := inv_sL (q := 182) (j := (Int32.ofInt 0).toNatClampNeg) (x := (Int64.ofInt 0)) hI58x41x19 rfl (l_rng (Int64.ofInt 0))
        refine g_aload_n 31 (gd rfl) rfl rfl ?_
        refine g_iconst 0 32 (gd rfl) rfl rfl ?_
        refine g_putZ 35 (gd rfl) rfl rfl rfl rfl (in01 (in_w 0 1 (in_c 0 rfl) rfl)) ?_
        have hI58x41x32 := inv_sF (q := 109) (j := 97) hI58x41x29 rfl (in_w 0 1 (in_c 0 rfl) rfl)
        refine g_aload_n 36 (gd rfl) rfl rfl ?_
        refine g_iconst 0 37 (gd rfl) rfl rfl ?_
        refine g_putZ 40 (gd rfl) rfl rfl rfl rfl (in01 (in_w 0 1 (in_c 0 rfl) rfl)) ?_
        have hI58x41x37 := inv_sF (q := 109) (j := 98) hI58x41x32 rfl (in_w 0 1 (in_c 0 rfl) rfl)
        refine g_return (gd rfl) rfl (hp58x41 _ _ ?_)
        show GG _ _ _ _ _ _ _ _ [] _ _ _
        refine g_return (gd rfl) rfl (hp58 _ _ ?_)
        show GG _ _ _ _ _ _ _ _ [] _ _ _
        refine g_iconst 0 62 (gd rfl) rfl rfl ?_
        refine g_istore_n 63 (gd rfl) rfl (Nat.le_of_ble_eq_true rfl) ?_
        have n63 : (u_109_22).toInt ≤ 60 := by have a0 := ro_109_22; unfold In at a0; have a1 := i36; unfold In at a1; have a2 := j33_1; unfold In at a2; have a3 := (in_c 0 rfl); unfold In at a3; omega
        have n63a : (y33_1).toInt ≤ ((Int32.ofInt 0)).toInt := by have a0 := ro_109_22; unfold In at a0; have a1 := i36; unfold In at a1; have a2 := j33_1; unfold In at a2; have a3 := (in_c 0 rfl); unfold In at a3; omega
        exact gg_w (by omega) (gg_f (gf_cons rfl (gf_cons rfl (gf_cons rfl gf_nil))) (ct63 61 (sF (sF (sL (sL (sI (sL (sL (sI (sI (sF sc33 109 96 (Int32.ofInt 0)) 176 (Int32.ofInt 0).toNatClampNeg (vp_nar .boolean (Int32.ofInt 0))) 177 (Int32.ofInt 0).toNatClampNeg (vp_nar .boolean (Int32.ofInt 0))) 178 (Int32.ofInt 0).toNatClampNeg (Int64.ofInt 0)) 179 (Int32.ofInt 0).toNatClampNeg (Int64.ofInt 0)) 180 (Int32.ofInt 0).toNatClampNeg (vp_nar .boolean (Int32.ofInt 1))) 181 (Int32.ofInt 0).toNatClampNeg (Int64.ofInt 0)) 182 (Int32.ofInt 0).toNatClampNeg (Int64.ofInt 0)) 109 97 (Int32.ofInt 0)) 109 98 (Int32.ofInt 0)) y33_1 (Int32.ofInt 0) hI58x41x37 (fr_sF rfl (fr_sF rfl (fr_sL rfl (fr_sL rfl (fr_sI rfl (fr_sL rfl (fr_sL rfl (fr_sI rfl (fr_sI rfl (fr_sF rfl hFc33)))))))))) (in_w 0 60 j33_1 rfl) (in_w 0 60 (in_c 0 rfl) rfl) n63 n63a (m_in 61 (in_w 0 60 (in_c 0 rfl) rfl) rfl)))
      · skip
        have i36 := r_lt1 0 59 c36 j33_2 (in_c 60 rfl) rfl
        refine g_aload_n 40 (gd rfl) rfl rfl ?_
        refine g_getA (q2 := 175) 43 (gd rfl) rfl rfl rfl rfl ?_
        refine g_iload_n 44 (gd rfl) rfl rfl ?_
        refine g_lconst 0 45 (gd rfl) rfl rfl ?_
        refine g_lastore 46 (gd rfl) rfl (n := 60) rfl (in_ix i36 rfl) ?_
        have hI45 := inv_sL (q := 175) (j := y33_2.toNatClampNeg) (x := (Int64.ofInt 0)) hIc33 rfl (l_rng (Int64.ofInt 0))
        refine g_iinc 49 (gd rfl) rfl rfl (Nat.le_of_ble_eq_true rfl) (fun z46 e46 => ?_)
        have i46 := in_add 1 60 e46 i36 (in_c 1 rfl) rfl rfl
        refine g_goto 33 (gd rfl) rfl ?_
        have n33 : (u_109_22).toInt ≤ 60 := by have a0 := ro_109_22; unfold In at a0; have a1 := i36; unfold In at a1; have a2 := j33_1; unfold In at a2; have a3 := i46; unfold In at a3; have a4 := t_add e46 i36 (in_c 1 rfl) rfl; have a5 := (in_c 1 rfl); unfold In at a5; omega
        exact gg_w (by omega) (gg_f (gf_cons rfl (gf_cons rfl (gf_cons rfl gf_nil))) (ih33 (sL sc33 175 y33_2.toNatClampNeg (Int64.ofInt 0)) y33_1 z46 hI45 (fr_sL rfl hFc33) (in_w 0 0 j33_1 rfl) (in_w 0 60 i46 rfl) n33 (m_up mm33 (t_add e46 i36 (in_c 1 rfl) rfl) (in_w 1 1 (in_c 1 rfl) rfl))))
  refine g_enter2 (k := 386) (N := 165603) (by omega) rfl (Nat.le_of_ble_eq_true rfl) ?_
  refine g_aload_n 1 (gd rfl) rfl rfl ?_
  refine g_iconst 0 2 (gd rfl) rfl rfl ?_
  refine g_putI 5 (gd rfl) rfl rfl rfl rfl ?_
  have hI2 := inv_sF (q := 109) (j := 0) hI rfl (in_w 0 2 (in_c 0 rfl) rfl)
  refine g_aload_n 6 (gd rfl) rfl rfl ?_
  refine g_iconst 0 7 (gd rfl) rfl rfl ?_
  refine g_putI 10 (gd rfl) rfl rfl rfl rfl ?_
  have hI7 := inv_sF (q := 109) (j := 23) hI2 rfl (in_w 0 9 (in_c 0 rfl) rfl)
  refine g_aload_n 11 (gd rfl) rfl rfl ?_
  refine g_getI 14 (gd rfl) rfl rfl rfl (fun z11 e11 => ?_)
  have q11 : u_109_22 = z11 := (sF_ne rfl (sF_ne rfl (e_109_22))).trans e11.symm
  subst q11
  refine g_bipush 60 16 (gd rfl) rfl rfl ?_
  refine g_cmp_le 19 29 (gd rfl) rfl rfl (fun c16 => ?_) (fun c16 => ?_)
  · skip
    have i16 := r_le1 0 60 c16 ro_109_22 (in_c 60 rfl) rfl
    refine g_iconst 0 30 (gd rfl) rfl rfl ?_
    refine g_istore_n 31 (gd rfl) rfl (Nat.le_of_ble_eq_true rfl) ?_
    refine g_iconst 0 32 (gd rfl) rfl rfl ?_
    refine g_istore_n 33 (gd rfl) rfl (Nat.le_of_ble_eq_true rfl) ?_
    have n33 : (u_109_22).toInt ≤ 60 := by have a0 := i16; unfold In at a0; have a1 := (in_c 0 rfl); unfold In at a1; omega
    exact gg_w (by omega) (gg_f (gf_cons rfl (gf_cons rfl (gf_cons rfl gf_nil))) (ct33 61 (sF (sF s 109 0 (Int32.ofInt 0)) 109 23 (Int32.ofInt 0)) (Int32.ofInt 0) (Int32.ofInt 0) hI7 (fr_sF rfl (fr_sF rfl fr_rf)) (in_w 0 0 (in_c 0 rfl) rfl) (in_w 0 60 (in_c 0 rfl) rfl) n33 (m_in 61 (in_w 0 60 (in_c 0 rfl) rfl) rfl)))
  · skip
    have i16 := r_lt2 61 1000 c16 (in_c 60 rfl) ro_109_22 rfl
    refine g_aload_n 20 (gd rfl) rfl rfl ?_
    refine g_iconst 2 21 (gd rfl) rfl rfl ?_
    refine g_bipush 60 23 (gd rfl) rfl rfl ?_
    refine g_callv (X := _) (As := [.int (Int32.ofInt 2), .int (Int32.ofInt 60)]) (r := []) (b := A 109) (q := 109) 26 (gd rfl) rfl rfl rfl rfl rfl (ww_o rfl) (Nat.le_of_ble_eq_true rfl) (Nat.zero_le _) (Nat.zero_le _) (k_298 (by omega) hI7 (in_w 1 5 (in_c 2 rfl) rfl)) (fun e u h => h) (fun v u h => ?_)
    obtain ⟨s23, hI23, hF23, n23, rfl, rfl⟩ := h
    obtain ⟨z23a, e23⟩ : ∃ w, w = s23.2.2.1 109 23 := ⟨_, rfl⟩
    have i23a := inv_F hI23 0 9 rfl e23
    rw [← (show z23a = s23.2.2.1 109 23 from e23)] at n23
    show GG _ _ _ _ _ _ _ _ [] _ _ _
    refine g_bipush (-4) 28 (gd rfl) rfl rfl ?_
    exact g_ireturn (gd rfl) rfl rfl (hP _ _ ⟨s23, hI23, (fr_tr rfl (fr_sF rfl (fr_sF rfl fr_rf)) hF23), (Int32.ofInt (-4)), rfl, rfl, in_w (-4) 0 (in_c (-4) rfl) rfl⟩)

def fm_53_60_2 : FM := ([61, 62, 63], [], [(60, 7)], [])
/-- GraphHouse$Colours.lessen -/
theorem k_53_60_2 {Z : AmZ} {A : Nat → Nat} {s : GS} {ex : va_W} {d : Nat} {X : AmX} {x2 : Int32} {x3 : Int32} (hd : 382 ≤ d) (hI : Inv s) (h2 : In x2 0 31) (h3 : In x3 0 31) : GC Z d 53 [.ref (A 60), .ref (A 2), .int x2, .int x3] (WW Z A s ++ ex) 0 0 (fun v u => ∃ t : GS, Inv t ∧ Fr fm_53_60_2 s t ∧ ∃ z : Int32, v = some (.int z) ∧ u = WW Z A t ++ ex ∧ In z 0 31 ∧ ((z).toInt ≤ (x3).toInt)) X := by
  intro post xp hP hX
  have ct49 : ∀ (k49 : Nat) (sc49 : GS) (y49_4 : Int32) (y49_5 : Int32), Inv sc49 → Fr fm_53_60_2 s sc49 → (In y49_4 0 31) → (In y49_5 0 32) → ((y49_4).toInt ≤ (x3).toInt) → (0 ≤ (y49_5).toInt) → 32 - (y49_5).toInt < (k49 : Int) → GG Z (d - 1) 53 post (gx xp) (1 + k49 * 900) 49 (fun j => xlook j [(0, .ref (A 60)), (1, .ref (A 2)), (2, .int x2), (3, .int x3), (4, .int y49_4), (5, .int y49_5)]) [] (WW Z A sc49 ++ ex) 0 0 := by
    intro k49
    induction k49 with
    | zero => intro sc49 y49_4 y49_5 hIc49 hFc49 j49_4 j49_5 n49_0 n49_1 mm49; exfalso; have a0 := h3; unfold In at a0; have a1 := h2; unfold In at a1; have a2 := j49_5; unfold In at a2; have a3 := j49_4; unfold In at a3; omega
    | succ k49 ih49 =>
      intro sc49 y49_4 y49_5 hIc49 hFc49 j49_4 j49_5 n49_0 n49_1 mm49
      refine gg_w (M := 1 + k49 * 900 + 900) (by omega) ?_
      refine g_iload 51 (gd rfl) rfl rfl ?_
      refine g_iload 53 (gd rfl) rfl rfl ?_
      refine g_cmp_ge 56 79 (gd rfl) rfl rfl (fun c53 => ?_) (fun c53 => ?_)
      · skip
        refine g_iload 81 (gd rfl) rfl rfl ?_
        have n81 : (y49_4).toInt ≤ (x3).toInt := by have a0 := h3; unfold In at a0; have a1 := h2; unfold In at a1; have a2 := j49_5; unfold In at a2; have a3 := j49_4; unfold In at a3; omega
        exact g_ireturn (gd rfl) rfl rfl (hP _ _ ⟨sc49, hIc49, hFc49, y49_4, rfl, rfl, in_w 0 31 j49_4 rfl, n81⟩)
      · skip
        have i53 := r_lt1 0 30 c53 j49_5 j49_4 rfl
        have i53a := r_lt2 1 31 c53 j49_5 j49_4 rfl
        refine g_aload_n 57 (gd rfl) rfl rfl ?_
        refine g_aload_n 58 (gd rfl) rfl rfl ?_
        refine g_iload_n 59 (gd rfl) rfl rfl ?_
        refine g_iload 61 (gd rfl) rfl rfl ?_
        refine g_iload 63 (gd rfl) rfl rfl ?_
        refine g_callv (X := _) (As := [.ref (A 2), .int x2, .int y49_5, .int y49_4]) (r := []) (b := A 60) (q := 60) 66 (gd rfl) rfl rfl rfl rfl rfl (ww_o rfl) (Nat.le_of_ble_eq_true rfl) (Nat.zero_le _) (Nat.zero_le _) (k_54_60_2 (by omega) hIc49 (in_w 0 31 h2 rfl) (in_w 0 31 i53 rfl) (in_w 0 31 i53a rfl)) (fun e u h => h) (fun v u h => ?_)
        obtain ⟨s63, hI63, hF63, z63, rfl, rfl, i63⟩ := h
        show GG _ _ _ _ _ _ _ _ [.int z63] _ _ _
        refine g_if_eq 69 73 (gd rfl) rfl rfl (fun c66 => ?_) (fun c66 => ?_)
        · skip
          have i66 := z_eq 0 0 c66 i63 rfl
          refine g_iinc 76 (gd rfl) rfl rfl (Nat.le_of_ble_eq_true rfl) (fun z73 e73 => ?_)
          have i73 := in_add 1 31 e73 i53 (in_c 1 rfl) rfl rfl
          refine g_goto 49 (gd rfl) rfl ?_
          have n49 : (y49_4).toInt ≤ (x3).toInt := by have a0 := h3; unfold In at a0; have a1 := h2; unfold In at a1; have a2 := i53; unfold In at a2; have a3 := i53a; unfold In at a3; have a4 := i73; unfold In at a4; have a5 := t_add e73 i53 (in_c 1 rfl) rfl; have a6 := (in_c 1 rfl); unfold In at a6; omega
          have n49a : 0 ≤ (z73).toInt := by have a0 := h3; unfold In at a0; have a1 := h2; unfold In at a1; have a2 := i53; unfold In at a2; have a3 := i53a; unfold In at a3; have a4 := i73; unfold In at a4; have a5 := t_add e73 i53 (in_c 1 rfl) rfl; have a6 := (in_c 1 rfl); unfold In at a6; omega
          have m49 : 32 - (z73).toInt < ((k49 : Nat) : Int) := by have a0 := h3; unfold In at a0; have a1 := h2; unfold In at a1; have a2 := i53; unfold In at a2; have a3 := i53a; unfold In at a3; have a4 := i73; unfold In at a4; have a5 := t_add e73 i53 (in_c 1 rfl) rfl; have a6 := (in_c 1 rfl); unfold In at a6; omega
          exact gg_w (by omega) (gg_f (gf_cons rfl (gf_cons rfl (gf_cons rfl (gf_cons rfl (gf_cons rfl (gf_cons rfl gf_nil)))))) (ih49  s63 y49_4 z73 hI63 (fr_tr rfl hFc49 hF63) (in_w 0 31 i53a rfl) (in_w 0 32 i73 rfl) n49 n49a m49))
        · skip
          have i66 := z_ne 1 1 c66 i63 rfl
          refine g_iload 71 (gd rfl) rfl rfl ?_
          refine g_istore 73 (gd rfl) rfl (Nat.le_of_ble_eq_true rfl) ?_
          refine g_iinc 76 (gd rfl) rfl rfl (Nat.le_of_ble_eq_true rfl) (fun z73 e73 => ?_)
          have i73 := in_add 1 31 e73 i53 (in_c 1 rfl) rfl rfl
          refine g_goto 49 (gd rfl) rfl ?_
          have n49 : (y49_5).toInt ≤ (x3).toInt := by have a0 := h3; unfold In at a0; have a1 := h2; unfold In at a1; have a2 := i53; unfold In at a2; have a3 := i53a; unfold In at a3; have a4 := i73; unfold In at a4; have a5 := t_add e73 i53 (in_c 1 rfl) rfl; have a6 := (in_c 1 rfl); unfold In at a6; omega
          have n49a : 0 ≤ (z73).toInt := by have a0 := h3; unfold In at a0; have a1 := h2; unfold In at a1; have a2 := i53; unfold In at a2; have a3 := i53a; unfold In at a3; have a4 := i73; unfold In at a4; have a5 := t_add e73 i53 (in_c 1 rfl) rfl; have a6 := (in_c 1 rfl); unfold In at a6; omega
          have m49 : 32 - (z73).toInt < ((k49 : Nat) : Int) := by have a0 := h3; unfold In at a0; have a1 := h2; unfold In at a1; have a2 := i53; unfold In at a2; have a3 := i53a; unfold In at a3; have a4 := i73; unfold In at a4; have a5 := t_add e73 i53 (in_c 1 rfl) rfl; have a6 := (in_c 1 rfl); unfold In at a6; omega
          exact gg_w (by omega) (gg_f (gf_cons rfl (gf_cons rfl (gf_cons rfl (gf_cons rfl (gf_cons rfl (gf_cons rfl gf_nil)))))) (ih49  s63 y49_5 z73 hI63 (fr_tr rfl hFc49 hF63) (in_w 0 31 i53 rfl) (in_w 0 32 i73 rfl) n49 n49a m49))
  refine g_enter2 (k := 53) (N := 30601) (by omega) rfl (Nat.le_of_ble_eq_true rfl) ?_
  refine g_aload_n 1 (gd rfl) rfl rfl ?_
  refine g_iload_n 2 (gd rfl) rfl rfl ?_
  refine g_callv (X := _) (As := [.int x2]) (r := []) (b := A 60) (q := 60) 5 (gd rfl) rfl rfl rfl rfl rfl (ww_o rfl) (Nat.le_of_ble_eq_true rfl) (Nat.zero_le _) (Nat.zero_le _) (k_45_60 (by omega) hI (in_w 0 31 h2 rfl)) (fun e u h => h) (fun v u h => ?_)
  obtain ⟨z2, rfl, rfl, i2⟩ := h
  show GG _ _ _ _ _ _ _ _ [.int z2] _ _ _
  refine g_istore 7 (gd rfl) rfl (Nat.le_of_ble_eq_true rfl) ?_
  refine g_iload 9 (gd rfl) rfl rfl ?_
  refine g_iload_n 10 (gd rfl) rfl rfl ?_
  refine g_cmp_le 13 46 (gd rfl) rfl rfl (fun c10 => ?_) (fun c10 => ?_)
  · skip
    refine g_iconst 0 47 (gd rfl) rfl rfl ?_
    refine g_istore 49 (gd rfl) rfl (Nat.le_of_ble_eq_true rfl) ?_
    have n49 : (z2).toInt ≤ (x3).toInt := by have a0 := h3; unfold In at a0; have a1 := h2; unfold In at a1; have a2 := (in_c 0 rfl); unfold In at a2; have a3 := i2; unfold In at a3; omega
    have n49a : 0 ≤ ((Int32.ofInt 0)).toInt := by have a0 := h3; unfold In at a0; have a1 := h2; unfold In at a1; have a2 := (in_c 0 rfl); unfold In at a2; have a3 := i2; unfold In at a3; omega
    have m49 : 32 - ((Int32.ofInt 0)).toInt < ((33 : Nat) : Int) := by have a0 := h3; unfold In at a0; have a1 := h2; unfold In at a1; have a2 := (in_c 0 rfl); unfold In at a2; have a3 := i2; unfold In at a3; omega
    exact gg_w (by omega) (gg_f (gf_cons rfl (gf_cons rfl (gf_cons rfl (gf_cons rfl (gf_cons rfl (gf_cons rfl gf_nil)))))) (ct49 33 s z2 (Int32.ofInt 0) hI fr_rf (in_w 0 31 i2 rfl) (in_w 0 32 (in_c 0 rfl) rfl) n49 n49a m49))
  · skip
    have i10 := r_lt1 0 30 c10 h3 i2 rfl
    have i10a := r_lt2 1 31 c10 h3 i2 rfl
    refine g_aload_n 14 (gd rfl) rfl rfl ?_
    refine g_getA (q2 := 61) 17 (gd rfl) rfl rfl rfl rfl ?_
    refine g_iload 19 (gd rfl) rfl rfl ?_
    refine g_iaload 20 (gd rfl) rfl (n := 32) rfl (in_ix i10a rfl) (fun z19 e19 => ?_)
    refine g_istore 22 (gd rfl) rfl (Nat.le_of_ble_eq_true rfl) ?_
    refine g_aload_n 23 (gd rfl) rfl rfl ?_
    refine g_getA (q2 := 61) 26 (gd rfl) rfl rfl rfl rfl ?_
    refine g_iload 28 (gd rfl) rfl rfl ?_
    refine g_aload_n 29 (gd rfl) rfl rfl ?_
    refine g_getA (q2 := 61) 32 (gd rfl) rfl rfl rfl rfl ?_
    refine g_iload_n 33 (gd rfl) rfl rfl ?_
    refine g_iaload 34 (gd rfl) rfl (n := 32) rfl (in_ix i10 rfl) (fun z33 e33 => ?_)
    refine g_iastore 35 (gd rfl) rfl (n := 32) rfl (in_ix i10a rfl) ?_
    have hI34 := inv_sI (q := 61) (j := z2.toNatClampNeg) hI rfl (in_w (-2147483648) 2147483647 (i_rng z33) rfl)
    refine g_aload_n 36 (gd rfl) rfl rfl ?_
    refine g_getA (q2 := 61) 39 (gd rfl) rfl rfl rfl rfl ?_
    refine g_iload_n 40 (gd rfl) rfl rfl ?_
    refine g_iload 42 (gd rfl) rfl rfl ?_
    refine g_iastore 43 (gd rfl) rfl (n := 32) rfl (in_ix i10 rfl) ?_
    have hI42 := inv_sI (q := 61) (j := x3.toNatClampNeg) hI34 rfl (in_w (-2147483648) 2147483647 (i_rng z19) rfl)
    refine g_iload_n 44 (gd rfl) rfl rfl ?_
    refine g_istore 46 (gd rfl) rfl (Nat.le_of_ble_eq_true rfl) ?_
    refine g_iconst 0 47 (gd rfl) rfl rfl ?_
    refine g_istore 49 (gd rfl) rfl (Nat.le_of_ble_eq_true rfl) ?_
    have n49 : (x3).toInt ≤ (x3).toInt := by have a0 := i10; unfold In at a0; have a1 := h2; unfold In at a1; have a2 := (in_c 0 rfl); unfold In at a2; omega
    have n49a : 0 ≤ ((Int32.ofInt 0)).toInt := by have a0 := i10; unfold In at a0; have a1 := h2; unfold In at a1; have a2 := (in_c 0 rfl); unfold In at a2; omega
    have m49 : 32 - ((Int32.ofInt 0)).toInt < ((33 : Nat) : Int) := by have a0 := i10; unfold In at a0; have a1 := h2; unfold In at a1; have a2 := (in_c 0 rfl); unfold In at a2; omega
    exact gg_w (by omega) (gg_f (gf_cons rfl (gf_cons rfl (gf_cons rfl (gf_cons rfl (gf_cons rfl (gf_cons rfl gf_nil)))))) (ct49 33 (sI (sI s 61 z2.toNatClampNeg z33) 61 x3.toNatClampNeg z19) x3 (Int32.ofInt 0) hI42 (fr_sI rfl (fr_sI rfl fr_rf)) (in_w 0 31 i10 rfl) (in_w 0 32 (in_c 0 rfl) rfl) n49 n49a m49))

def fm_53_60_32 : FM := ([61, 62, 63], [], [(60, 7)], [])
/-- GraphHouse$Colours.lessen -/
theorem k_53_60_32 {Z : AmZ} {A : Nat → Nat} {s : GS} {ex : va_W} {d : Nat} {X : AmX} {x2 : Int32} {x3 : Int32} (hd : 382 ≤ d) (hI : Inv s) (h2 : In x2 0 31) (h3 : In x3 0 31) : GC Z d 53 [.ref (A 60), .ref (A 32), .int x2, .int x3] (WW Z A s ++ ex) 0 0 (fun v u => ∃ t : GS, Inv t ∧ Fr fm_53_60_32 s t ∧ ∃ z : Int32, v = some (.int z) ∧ u = WW Z A t ++ ex ∧ In z 0 31 ∧ ((z).toInt ≤ (x3).toInt)) X := by
  intro post xp hP hX
  have ct49 : ∀ (k49 : Nat) (sc49 : GS) (y49_4 : Int32) (y49_5 : Int32), Inv sc49 → Fr fm_53_60_32 s sc49 → (In y49_4 0 31) → (In y49_5 0 32) → ((y49_4).toInt ≤ (x3).toInt) → (0 ≤ (y49_5).toInt) → 32 - (y49_5).toInt < (k49 : Int) → GG Z (d - 1) 53 post (gx xp) (1 + k49 * 900) 49 (fun j => xlook j [(0, .ref (A 60)), (1, .ref (A 32)), (2, .int x2), (3, .int x3), (4, .int y49_4), (5, .int y49_5)]) [] (WW Z A sc49 ++ ex) 0 0 := by
    intro k49
    induction k49 with
    | zero => intro sc49 y49_4 y49_5 hIc49 hFc49 j49_4 j49_5 n49_0 n49_1 mm49; exfalso; have a0 := h3; unfold In at a0; have a1 := h2; unfold In at a1; have a2 := j49_5; unfold In at a2; have a3 := j49_4; unfold In at a3; omega
    | succ k49 ih49 =>
      intro sc49 y49_4 y49_5 hIc49 hFc49 j49_4 j49_5 n49_0 n49_1 mm49
      refine gg_w (M := 1 + k49 * 900 + 900) (by omega) ?_
      refine g_iload 51 (gd rfl) rfl rfl ?_
      refine g_iload 53 (gd rfl) rfl rfl ?_
      refine g_cmp_ge 56 79 (gd rfl) rfl rfl (fun c53 => ?_) (fun c53 => ?_)
      · skip
        refine g_iload 81 (gd rfl) rfl rfl ?_
        have n81 : (y49_4).toInt ≤ (x3).toInt := by have a0 := h3; unfold In at a0; have a1 := h2; unfold In at a1; have a2 := j49_5; unfold In at a2; have a3 := j49_4; unfold In at a3; omega
        exact g_ireturn (gd rfl) rfl rfl (hP _ _ ⟨sc49, hIc49, hFc49, y49_4, rfl, rfl, in_w 0 31 j49_4 rfl, n81⟩)
      · skip
        have i53 := r_lt1 0 30 c53 j49_5 j49_4 rfl
        have i53a := r_lt2 1 31 c53 j49_5 j49_4 rfl
        refine g_aload_n 57 (gd rfl) rfl rfl ?_
        refine g_aload_n 58 (gd rfl) rfl rfl ?_
        refine g_iload_n 59 (gd rfl) rfl rfl ?_
        refine g_iload 61 (gd rfl) rfl rfl ?_
        refine g_iload 63 (gd rfl) rfl rfl ?_
        refine g_callv (X := _) (As := [.ref (A 32), .int x2, .int y49_5, .int y49_4]) (r := []) (b := A 60) (q := 60) 66 (gd rfl) rfl rfl rfl rfl rfl (ww_o rfl) (Nat.le_of_ble_eq_true rfl) (Nat.zero_le _) (Nat.zero_le _) (k_54_60_32 (by omega) hIc49 (in_w 0 31 h2 rfl) (in_w 0 31 i53 rfl) (in_w 0 31 i53a rfl)) (fun e u h => h) (fun v u h => ?_)
        obtain ⟨s63, hI63, hF63, z63, rfl, rfl, i63⟩ := h
        show GG _ _ _ _ _ _ _ _ [.int z63] _ _ _
        refine g_if_eq 69 73 (gd rfl) rfl rfl (fun c66 => ?_) (fun c66 => ?_)
        · skip
          have i66 := z_eq 0 0 c66 i63 rfl
          refine g_iinc 76 (gd rfl) rfl rfl (Nat.le_of_ble_eq_true rfl) (fun z73 e73 => ?_)
          have i73 := in_add 1 31 e73 i53 (in_c 1 rfl) rfl rfl
          refine g_goto 49 (gd rfl) rfl ?_
          have n49 : (y49_4).toInt ≤ (x3).toInt := by have a0 := h3; unfold In at a0; have a1 := h2; unfold In at a1; have a2 := i53; unfold In at a2; have a3 := i53a; unfold In at a3; have a4 := i73; unfold In at a4; have a5 := t_add e73 i53 (in_c 1 rfl) rfl; have a6 := (in_c 1 rfl); unfold In at a6; omega
          have n49a : 0 ≤ (z73).toInt := by have a0 := h3; unfold In at a0; have a1 := h2; unfold In at a1; have a2 := i53; unfold In at a2; have a3 := i53a; unfold In at a3; have a4 := i73; unfold In at a4; have a5 := t_add e73 i53 (in_c 1 rfl) rfl; have a6 := (in_c 1 rfl); unfold In at a6; omega
          have m49 : 32 - (z73).toInt < ((k49 : Nat) : Int) := by have a0 := h3; unfold In at a0; have a1 := h2; unfold In at a1; have a2 := i53; unfold In at a2; have a3 := i53a; unfold In at a3; have a4 := i73; unfold In at a4; have a5 := t_add e73 i53 (in_c 1 rfl) rfl; have a6 := (in_c 1 rfl); unfold In at a6; omega
          exact gg_w (by omega) (gg_f (gf_cons rfl (gf_cons rfl (gf_cons rfl (gf_cons rfl (gf_cons rfl (gf_cons rfl gf_nil)))))) (ih49  s63 y49_4 z73 hI63 (fr_tr rfl hFc49 hF63) (in_w 0 31 i53a rfl) (in_w 0 32 i73 rfl) n49 n49a m49))
        · skip
          have i66 := z_ne 1 1 c66 i63 rfl
          refine g_iload 71 (gd rfl) rfl rfl ?_
          refine g_istore 73 (gd rfl) rfl (Nat.le_of_ble_eq_true rfl) ?_
          refine g_iinc 76 (gd rfl) rfl rfl (Nat.le_of_ble_eq_true rfl) (fun z73 e73 => ?_)
          have i73 := in_add 1 31 e73 i53 (in_c 1 rfl) rfl rfl
          refine g_goto 49 (gd rfl) rfl ?_
          have n49 : (y49_5).toInt ≤ (x3).toInt := by have a0 := h3; unfold In at a0; have a1 := h2; unfold In at a1; have a2 := i53; unfold In at a2; have a3 := i53a; unfold In at a3; have a4 := i73; unfold In at a4; have a5 := t_add e73 i53 (in_c 1 rfl) rfl; have a6 := (in_c 1 rfl); unfold In at a6; omega
          have n49a : 0 ≤ (z73).toInt := by have a0 := h3; unfold In at a0; have a1 := h2; unfold In at a1; have a2 := i53; unfold In at a2; have a3 := i53a; unfold In at a3; have a4 := i73; unfold In at a4; have a5 := t_add e73 i53 (in_c 1 rfl) rfl; have a6 := (in_c 1 rfl); unfold In at a6; omega
          have m49 : 32 - (z73).toInt < ((k49 : Nat) : Int) := by have a0 := h3; unfold In at a0; have a1 := h2; unfold In at a1; have a2 := i53; unfold In at a2; have a3 := i53a; unfold In at a3; have a4 := i73; unfold In at a4; have a5 := t_add e73 i53 (in_c 1 rfl) rfl; have a6 := (in_c 1 rfl); unfold In at a6; omega
          exact gg_w (by omega) (gg_f (gf_cons rfl (gf_cons rfl (gf_cons rfl (gf_cons rfl (gf_cons rfl (gf_cons rfl gf_nil)))))) (ih49  s63 y49_5 z73 hI63 (fr_tr rfl hFc49 hF63) (in_w 0 31 i53 rfl) (in_w 0 32 i73 rfl) n49 n49a m49))
  refine g_enter2 (k := 53) (N := 30601) (by omega) rfl (Nat.le_of_ble_eq_true rfl) ?_
  refine g_aload_n 1 (gd rfl) rfl rfl ?_
  refine g_iload_n 2 (gd rfl) rfl rfl ?_
  refine g_callv (X := _) (As := [.int x2]) (r := []) (b := A 60) (q := 60) 5 (gd rfl) rfl rfl rfl rfl rfl (ww_o rfl) (Nat.le_of_ble_eq_true rfl) (Nat.zero_le _) (Nat.zero_le _) (k_45_60 (by omega) hI (in_w 0 31 h2 rfl)) (fun e u h => h) (fun v u h => ?_)
  obtain ⟨z2, rfl, rfl, i2⟩ := h
  show GG _ _ _ _ _ _ _ _ [.int z2] _ _ _
  refine g_istore 7 (gd rfl) rfl (Nat.le_of_ble_eq_true rfl) ?_
  refine g_iload 9 (gd rfl) rfl rfl ?_
  refine g_iload_n 10 (gd rfl) rfl rfl ?_
  refine g_cmp_le 13 46 (gd rfl) rfl rfl (fun c10 => ?_) (fun c10 => ?_)
  · skip
    refine g_iconst 0 47 (gd rfl) rfl rfl ?_
    refine g_istore 49 (gd rfl) rfl (Nat.le_of_ble_eq_true rfl) ?_
    have n49 : (z2).toInt ≤ (x3).toInt := by have a0 := h3; unfold In at a0; have a1 := h2; unfold In at a1; have a2 := (in_c 0 rfl); unfold In at a2; have a3 := i2; unfold In at a3; omega
    have n49a : 0 ≤ ((Int32.ofInt 0)).toInt := by have a0 := h3; unfold In at a0; have a1 := h2; unfold In at a1; have a2 := (in_c 0 rfl); unfold In at a2; have a3 := i2; unfold In at a3; omega
    have m49 : 32 - ((Int32.ofInt 0)).toInt < ((33 : Nat) : Int) := by have a0 := h3; unfold In at a0; have a1 := h2; unfold In at a1; have a2 := (in_c 0 rfl); unfold In at a2; have a3 := i2; unfold In at a3; omega
    exact gg_w (by omega) (gg_f (gf_cons rfl (gf_cons rfl (gf_cons rfl (gf_cons rfl (gf_cons rfl (gf_cons rfl gf_nil)))))) (ct49 33 s z2 (Int32.ofInt 0) hI fr_rf (in_w 0 31 i2 rfl) (in_w 0 32 (in_c 0 rfl) rfl) n49 n49a m49))
  · skip
    have i10 := r_lt1 0 30 c10 h3 i2 rfl
    have i10a := r_lt2 1 31 c10 h3 i2 rfl
    refine g_aload_n 14 (gd rfl) rfl rfl ?_
    refine g_getA (q2 := 61) 17 (gd rfl) rfl rfl rfl rfl ?_
    refine g_iload 19 (gd rfl) rfl rfl ?_
    refine g_iaload 20 (gd rfl) rfl (n := 32) rfl (in_ix i10a rfl) (fun z19 e19 => ?_)
    refine g_istore 22 (gd rfl) rfl (Nat.le_of_ble_eq_true rfl) ?_
    refine g_aload_n 23 (gd rfl) rfl rfl ?_
    refine g_getA (q2 := 61) 26 (gd rfl) rfl rfl rfl rfl ?_
    refine g_iload 28 (gd rfl) rfl rfl ?_
    refine g_aload_n 29 (gd rfl) rfl rfl ?_
    refine g_getA (q2 := 61) 32 (gd rfl) rfl rfl rfl rfl ?_
    refine g_iload_n 33 (gd rfl) rfl rfl ?_
    refine g_iaload 34 (gd rfl) rfl (n := 32) rfl (in_ix i10 rfl) (fun z33 e33 => ?_)
    refine g_iastore 35 (gd rfl) rfl (n := 32) rfl (in_ix i10a rfl) ?_
    have hI34 := inv_sI (q := 61) (j := z2.toNatClampNeg) hI rfl (in_w (-2147483648) 2147483647 (i_rng z33) rfl)
    refine g_aload_n 36 (gd rfl) rfl rfl ?_
    refine g_getA (q2 := 61) 39 (gd rfl) rfl rfl rfl rfl ?_
    refine g_iload_n 40 (gd rfl) rfl rfl ?_
    refine g_iload 42 (gd rfl) rfl rfl ?_
    refine g_iastore 43 (gd rfl) rfl (n := 32) rfl (in_ix i10 rfl) ?_
    have hI42 := inv_sI (q := 61) (j := x3.toNatClampNeg) hI34 rfl (in_w (-2147483648) 2147483647 (i_rng z19) rfl)
    refine g_iload_n 44 (gd rfl) rfl rfl ?_
    refine g_istore 46 (gd rfl) rfl (Nat.le_of_ble_eq_true rfl) ?_
    refine g_iconst 0 47 (gd rfl) rfl rfl ?_
    refine g_istore 49 (gd rfl) rfl (Nat.le_of_ble_eq_true rfl) ?_
    have n49 : (x3).toInt ≤ (x3).toInt := by have a0 := i10; unfold In at a0; have a1 := h2; unfold In at a1; have a2 := (in_c 0 rfl); unfold In at a2; omega
    have n49a : 0 ≤ ((Int32.ofInt 0)).toInt := by have a0 := i10; unfold In at a0; have a1 := h2; unfold In at a1; have a2 := (in_c 0 rfl); unfold In at a2; omega
    have m49 : 32 - ((Int32.ofInt 0)).toInt < ((33 : Nat) : Int) := by have a0 := i10; unfold In at a0; have a1 := h2; unfold In at a1; have a2 := (in_c 0 rfl); unfold In at a2; omega
    exact gg_w (by omega) (gg_f (gf_cons rfl (gf_cons rfl (gf_cons rfl (gf_cons rfl (gf_cons rfl (gf_cons rfl gf_nil)))))) (ct49 33 (sI (sI s 61 z2.toNatClampNeg z33) 61 x3.toNatClampNeg z19) x3 (Int32.ofInt 0) hI42 (fr_sI rfl (fr_sI rfl fr_rf)) (in_w 0 31 i10 rfl) (in_w 0 32 (in_c 0 rfl) rfl) n49 n49a m49))

def fm_83_65 : FM := ([68, 73, 74], [75], [], [])
/-- GraphHouse$Flows.carryAll -/
theorem k_83_65 {Z : AmZ} {A : Nat → Nat} {s : GS} {ex : va_W} {d : Nat} {X : AmX} {x1 : Int32} {x2 : Int32} (hd : 4 ≤ d) (hI : Inv s) (h1 : In x1 0 32) (h2 : In x2 1 65536) : GC Z d 83 [.ref (A 65), .int x1, .int x2] (WW Z A s ++ ex) 0 0 (fun v u => ∃ t : GS, Inv t ∧ Fr fm_83_65 s t ∧ v = none ∧ u = WW Z A t ++ ex) X := by
  intro post xp hP hX
  have ct2 : ∀ (k2 : Nat) (sc2 : GS) (y2_3 : Int32), Inv sc2 → Fr fm_83_65 s sc2 → (In y2_3 0 2147483647) → 2147483647 - (y2_3).toInt < (k2 : Int) → GG Z (d - 1) 83 post (gx xp) (1 + k2 * 900) 2 (fun j => xlook j [(0, .ref (A 65)), (1, .int x1), (2, .int x2), (3, .int y2_3)]) [] (WW Z A sc2 ++ ex) 0 0 := by
    intro k2
    induction k2 with
    | zero => intro sc2 y2_3 hIc2 hFc2 j2_3 mm2; exact m_no mm2 j2_3 rfl
    | succ k2 ih2 =>
      intro sc2 y2_3 hIc2 hFc2 j2_3 mm2
      refine gg_w (M := 1 + k2 * 900 + 900) (by omega) ?_
      refine g_iload_n 3 (gd rfl) rfl rfl ?_
      refine g_ldc 1000000 5 (gd rfl) rfl rfl ?_
      refine g_cmp_ge 8 36 (gd rfl) rfl rfl (fun c5 => ?_) (fun c5 => ?_)
      · skip
        have i5 := r_le2 1000000 2147483647 c5 (in_c 1000000 rfl) j2_3 rfl
        exact g_return (gd rfl) rfl (hP _ _ ⟨sc2, hIc2, hFc2, rfl, rfl⟩)
      · skip
        have i5 := r_lt1 0 999999 c5 j2_3 (in_c 1000000 rfl) rfl
        refine g_aload_n 9 (gd rfl) rfl rfl ?_
        refine g_iload_n 10 (gd rfl) rfl rfl ?_
        refine g_iload_n 11 (gd rfl) rfl rfl ?_
        refine g_callv (X := _) (As := [.int x1, .int x2]) (r := []) (b := A 65) (q := 65) 14 (gd rfl) rfl rfl rfl rfl rfl (ww_o rfl) (Nat.le_of_ble_eq_true rfl) (Nat.zero_le _) (Nat.zero_le _) (k_85_65 (by omega) hIc2 (in_w 0 32 h1 rfl) (in_w 1 65536 h2 rfl)) (fun e u h => h) (fun v u h => ?_)
        obtain ⟨s11, hI11, hF11, z11, rfl, rfl, i11⟩ := h
        show GG _ _ _ _ _ _ _ _ [.int z11] _ _ _
        refine g_istore 16 (gd rfl) rfl (Nat.le_of_ble_eq_true rfl) ?_
        refine g_iload 18 (gd rfl) rfl rfl ?_
        refine g_iconst (-1) 19 (gd rfl) rfl rfl ?_
        refine g_cmp_ne 22 23 (gd rfl) rfl rfl (fun c19 => ?_) (fun c19 => ?_)
        · skip
          have i19 := r_ne1 0 31 c19 i11 (in_c (-1) rfl) rfl
          refine g_aload_n 24 (gd rfl) rfl rfl ?_
          refine g_iload 26 (gd rfl) rfl rfl ?_
          refine g_callv (X := _) (As := [.int z11]) (r := []) (b := A 65) (q := 65) 29 (gd rfl) rfl rfl rfl rfl rfl (ww_o rfl) (Nat.le_of_ble_eq_true rfl) (Nat.zero_le _) (Nat.zero_le _) (k_88_65 (by omega) hI11 (in_w 0 31 i19 rfl)) (fun e u h => h) (fun v u h => ?_)
          obtain ⟨s26, hI26, hF26, z26, rfl, rfl⟩ := h
          show GG _ _ _ _ _ _ _ _ [.long z26] _ _ _
          refine g_pop2 30 (gd rfl) rfl rfl ?_
          refine g_iinc 33 (gd rfl) rfl rfl (Nat.le_of_ble_eq_true rfl) (fun z30 e30 => ?_)
          have i30 := in_add 1 1000000 e30 i5 (in_c 1 rfl) rfl rfl
          refine g_goto 2 (gd rfl) rfl ?_
          exact gg_w (by omega) (gg_f (gf_cons rfl (gf_cons rfl (gf_cons rfl (gf_cons rfl gf_nil)))) (ih2 s26 z30 hI26 (fr_tr rfl (fr_tr rfl hFc2 hF11) hF26) (in_w 0 2147483647 i30 rfl) (m_up mm2 (t_add e30 i5 (in_c 1 rfl) rfl) (in_w 1 1 (in_c 1 rfl) rfl))))
        · skip
          have i19 := r_eq1 (-1) (-1) c19 i11 (in_c (-1) rfl) rfl
          exact g_return (gd rfl) rfl (hP _ _ ⟨s11, hI11, (fr_tr rfl hFc2 hF11), rfl, rfl⟩)
  refine g_enter2 (k := 83) (N := 1932735284101) (by omega) rfl (Nat.le_of_ble_eq_true rfl) ?_
  refine g_iconst 0 1 (gd rfl) rfl rfl ?_
  refine g_istore_n 2 (gd rfl) rfl (Nat.le_of_ble_eq_true rfl) ?_
  exact gg_w (by omega) (gg_f (gf_cons rfl (gf_cons rfl (gf_cons rfl (gf_cons rfl gf_nil)))) (ct2 2147483648 s (Int32.ofInt 0) hI fr_rf (in_w 0 2147483647 (in_c 0 rfl) rfl) (m_in 2147483648 (in_w 0 2147483647 (in_c 0 rfl) rfl) rfl)))

def fm_112_86_2 : FM := ([9, 10, 11, 12, 13, 14, 15, 89, 90, 91, 92, 93], [], [(2, 4), (86, 4), (86, 5)], [])
/-- GraphHouse$Groups.totalGain -/
theorem k_112_86_2 {Z : AmZ} {A : Nat → Nat} {s : GS} {ex : va_W} {d : Nat} {X : AmX}  (hd : 7 ≤ d) (hI : Inv s)  : GC Z d 112 [.ref (A 86), .ref (A 2)] (WW Z A s ++ ex) 0 0 (fun v u => ∃ t : GS, Inv t ∧ Fr fm_112_86_2 s t ∧ ∃ z : Int64, v = some (.long z) ∧ u = WW Z A t ++ ex) X := by
  intro post xp hP hX
  obtain ⟨u_2_1, e_2_1⟩ : ∃ w, w = s.2.2.1 2 1 := ⟨_, rfl⟩
  have ro_2_1 := inv_F hI 0 32 rfl e_2_1
  obtain ⟨u_2_3, e_2_3⟩ : ∃ w, w = s.2.2.1 2 3 := ⟨_, rfl⟩
  have ro_2_3 := inv_F hI 0 160 rfl e_2_3
  have ct76 : ∀ (k76 : Nat) (sc76 : GS) (y76_2 : Int64) (y76_4 : Int32), Inv sc76 → Fr fm_112_86_2 s sc76 → (In y76_4 0 32) → 32 - (y76_4).toInt < (k76 : Int) → GG Z (d - 1) 112 post (gx xp) (1 + k76 * 900) 76 (fun j => xlook j [(0, .ref (A 86)), (1, .ref (A 2)), (2, .long y76_2), (4, .int y76_4)]) [] (WW Z A sc76 ++ ex) 0 0 := by
    intro k76
    induction k76 with
    | zero => intro sc76 y76_2 y76_4 hIc76 hFc76 j76_4 mm76; exact m_no mm76 j76_4 rfl
    | succ k76 ih76 =>
      intro sc76 y76_2 y76_4 hIc76 hFc76 j76_4 mm76
      refine gg_w (M := 1 + k76 * 900 + 900) (by omega) ?_
      refine g_iload 78 (gd rfl) rfl rfl ?_
      refine g_aload_n 79 (gd rfl) rfl rfl ?_
      refine g_getI 82 (gd rfl) rfl rfl rfl (fun z79 e79 => ?_)
      have q79 : u_2_1 = z79 := (fr_F e_2_1 hFc76 rfl).trans e79.symm
      subst q79
      refine g_cmp_ge 85 124 (gd rfl) rfl rfl (fun c82 => ?_) (fun c82 => ?_)
      · skip
        refine g_lload_n 125 (gd rfl) rfl rfl ?_
        exact g_lreturn (gd rfl) rfl (hP _ _ ⟨sc76, hIc76, hFc76, y76_2, rfl, rfl⟩)
      · skip
        have i82 := r_lt1 0 31 c82 j76_4 ro_2_1 rfl
        have i82a := r_lt2 1 32 c82 j76_4 ro_2_1 rfl
        refine g_lload_n 86 (gd rfl) rfl rfl ?_
        refine g_aload_n 87 (gd rfl) rfl rfl ?_
        refine g_getA (q2 := 91) 90 (gd rfl) rfl rfl rfl rfl ?_
        refine g_iload 92 (gd rfl) rfl rfl ?_
        refine g_iaload 93 (gd rfl) rfl (n := 32) rfl (in_ix i82 rfl) (fun z92 e92 => ?_)
        refine g_i2l 94 (gd rfl) rfl (fun z93 e93 => ?_)
        have i93 := l_i e93 (i_rng z92)
        refine g_aload_n 95 (gd rfl) rfl rfl ?_
        refine g_getA (q2 := 92) 98 (gd rfl) rfl rfl rfl rfl ?_
        refine g_aload_n 99 (gd rfl) rfl rfl ?_
        refine g_getA (q2 := 89) 102 (gd rfl) rfl rfl rfl rfl ?_
        refine g_iload 104 (gd rfl) rfl rfl ?_
        refine g_iaload 105 (gd rfl) rfl (n := 32) rfl (in_ix i82 rfl) (fun z104 e104 => ?_)
        have i104 := inv_I hIc76 (n := 32) (t := 0) 0 31 rfl (in_ix i82 rfl) rfl e104
        refine g_iaload 106 (gd rfl) rfl (n := 32) rfl (in_ix i104 rfl) (fun z105 e105 => ?_)
        refine g_aload_n 107 (gd rfl) rfl rfl ?_
        refine g_getA (q2 := 91) 110 (gd rfl) rfl rfl rfl rfl ?_
        refine g_iload 112 (gd rfl) rfl rfl ?_
        refine g_iaload 113 (gd rfl) rfl (n := 32) rfl (in_ix i82 rfl) (fun z112 e112 => ?_)
        have q112 : z92 = z112 := (e92).trans e112.symm
        subst q112
        refine g_isub 114 (gd rfl) rfl (fun z113 e113 => ?_)
        refine g_i2l 115 (gd rfl) rfl (fun z114 e114 => ?_)
        have i114 := l_i e114 (i_rng z113)
        refine g_lmul 116 (gd rfl) rfl (fun z115 e115 => ?_)
        refine g_lsub 117 (gd rfl) rfl (fun z116 e116 => ?_)
        refine g_lstore_n 118 (gd rfl) rfl (Nat.le_of_ble_eq_true rfl) ?_
        refine g_iinc 121 (gd rfl) rfl rfl (Nat.le_of_ble_eq_true rfl) (fun z118 e118 => ?_)
        have i118 := in_add 1 32 e118 i82 (in_c 1 rfl) rfl rfl
        refine g_goto 76 (gd rfl) rfl ?_
        exact gg_w (by omega) (gg_f (gf_cons rfl (gf_cons rfl (gf_cons rfl (gf_cons rfl gf_nil)))) (ih76 sc76 z116 z118 hIc76 hFc76 (in_w 0 32 i118 rfl) (m_up mm76 (t_add e118 i82 (in_c 1 rfl) rfl) (in_w 1 1 (in_c 1 rfl) rfl))))
  have ct10 : ∀ (k10 : Nat) (sc10 : GS) (y10_2 : Int64) (y10_4 : Int32), Inv sc10 → Fr fm_112_86_2 s sc10 → (In y10_4 0 160) → 160 - (y10_4).toInt < (k10 : Int) → GG Z (d - 1) 112 post (gx xp) (29702 + k10 * 900) 10 (fun j => xlook j [(0, .ref (A 86)), (1, .ref (A 2)), (2, .long y10_2), (4, .int y10_4)]) [] (WW Z A sc10 ++ ex) 0 0 := by
    intro k10
    induction k10 with
    | zero => intro sc10 y10_2 y10_4 hIc10 hFc10 j10_4 mm10; exact m_no mm10 j10_4 rfl
    | succ k10 ih10 =>
      intro sc10 y10_2 y10_4 hIc10 hFc10 j10_4 mm10
      refine gg_w (M := 29702 + k10 * 900 + 900) (by omega) ?_
      refine g_iload 12 (gd rfl) rfl rfl ?_
      refine g_aload_n 13 (gd rfl) rfl rfl ?_
      refine g_getI 16 (gd rfl) rfl rfl rfl (fun z13 e13 => ?_)
      have q13 : u_2_3 = z13 := (fr_F e_2_3 hFc10 rfl).trans e13.symm
      subst q13
      refine g_cmp_ge 19 73 (gd rfl) rfl rfl (fun c16 => ?_) (fun c16 => ?_)
      · skip
        refine g_iconst 0 74 (gd rfl) rfl rfl ?_
        refine g_istore 76 (gd rfl) rfl (Nat.le_of_ble_eq_true rfl) ?_
        exact gg_w (by omega) (gg_f (gf_cons rfl (gf_cons rfl (gf_cons rfl (gf_cons rfl gf_nil)))) (ct76 33 sc10 y10_2 (Int32.ofInt 0) hIc10 hFc10 (in_w 0 32 (in_c 0 rfl) rfl) (m_in 33 (in_w 0 32 (in_c 0 rfl) rfl) rfl)))
      · skip
        have i16 := r_lt1 0 159 c16 j10_4 ro_2_3 rfl
        have i16a := r_lt2 1 160 c16 j10_4 ro_2_3 rfl
        refine g_aload_n 20 (gd rfl) rfl rfl ?_
        refine g_iload 22 (gd rfl) rfl rfl ?_
        refine g_callv (X := _) (As := [.int y10_4]) (r := []) (b := A 2) (q := 2) 25 (gd rfl) rfl rfl rfl rfl rfl (ww_o rfl) (Nat.le_of_ble_eq_true rfl) (mc := 0) (ms := 0) (Nat.zero_le _) (Nat.zero_le _) (P := fun v u => _) ?_ (fun e u h => h) (fun v u h => h)
        intro po22 xx22 hp22 hx22
        refine g_enter2 (k := 97) (N := 300) (by omega) rfl (Nat.le_of_ble_eq_true rfl) ?_
        refine g_aload_n 1 (gd rfl) rfl rfl ?_
        refine g_getA (q2 := 4) 4 (gd rfl) rfl rfl rfl rfl ?_
        refine g_iload_n 5 (gd rfl) rfl rfl ?_
        refine g_iaload 6 (gd rfl) rfl (n := 160) rfl (in_ix i16 rfl) (fun z22x5 e22x5 => ?_)
        have i22x5 := inv_I hIc10 (n := 160) (t := 0) (-1) 31 rfl (in_ix i16 rfl) rfl e22x5
        refine g_iconst (-1) 7 (gd rfl) rfl rfl ?_
        refine g_cmp_eq 10 29 (gd rfl) rfl rfl (fun c22x7 => ?_) (fun c22x7 => ?_)
        · skip
          have i22x7 := r_eq1 (-1) (-1) c22x7 i22x5 (in_c (-1) rfl) rfl
          refine g_iconst 0 30 (gd rfl) rfl rfl ?_
          refine g_ireturn (gd rfl) rfl (nb01 (in_w 0 1 (in_c 0 rfl) rfl)) (hp22 _ _ ?_)
          show GG _ _ _ _ _ _ _ _ [.int (Int32.ofInt 0)] _ _ _
          refine g_if_eq 28 67 (gd rfl) rfl rfl (fun c25 => ?_) (fun c25 => ?_)
          · skip
            refine g_iinc 70 (gd rfl) rfl rfl (Nat.le_of_ble_eq_true rfl) (fun z67 e67 => ?_)
            have i67 := in_add 1 160 e67 i16 (in_c 1 rfl) rfl rfl
            refine g_goto 10 (gd rfl) rfl ?_
            exact gg_w (by omega) (gg_f (gf_cons rfl (gf_cons rfl (gf_cons rfl (gf_cons rfl gf_nil)))) (ih10 sc10 y10_2 z67 hIc10 hFc10 (in_w 0 160 i67 rfl) (m_up mm10 (t_add e67 i16 (in_c 1 rfl) rfl) (in_w 1 1 (in_c 1 rfl) rfl))))
          · skip
            exact zn_ne c25 (in_c 0 rfl) rfl
        · skip
          have i22x7 := r_ne1 0 31 c22x7 i22x5 (in_c (-1) rfl) rfl
          refine g_aload_n 11 (gd rfl) rfl rfl ?_
          refine g_getA (q2 := 4) 14 (gd rfl) rfl rfl rfl rfl ?_
          refine g_iload_n 15 (gd rfl) rfl rfl ?_
          refine g_iaload 16 (gd rfl) rfl (n := 160) rfl (in_ix i16 rfl) (fun z22x15 e22x15 => ?_)
          have q22x15 : z22x5 = z22x15 := (e22x5).trans e22x15.symm
          subst q22x15
          refine g_aload_n 17 (gd rfl) rfl rfl ?_
          refine g_getA (q2 := 5) 20 (gd rfl) rfl rfl rfl rfl ?_
          refine g_iload_n 21 (gd rfl) rfl rfl ?_
          refine g_iaload 22 (gd rfl) rfl (n := 160) rfl (in_ix i16 rfl) (fun z22x21 e22x21 => ?_)
          have i22x21 := inv_I hIc10 (n := 160) (t := 0) 0 31 rfl (in_ix i16 rfl) rfl e22x21
          refine g_cmp_eq 25 29 (gd rfl) rfl rfl (fun c22x22 => ?_) (fun c22x22 => ?_)
          · skip
            refine g_iconst 0 30 (gd rfl) rfl rfl ?_
            refine g_ireturn (gd rfl) rfl (nb01 (in_w 0 1 (in_c 0 rfl) rfl)) (hp22 _ _ ?_)
            show GG _ _ _ _ _ _ _ _ [.int (Int32.ofInt 0)] _ _ _
            refine g_if_eq 28 67 (gd rfl) rfl rfl (fun c25 => ?_) (fun c25 => ?_)
            · skip
              refine g_iinc 70 (gd rfl) rfl rfl (Nat.le_of_ble_eq_true rfl) (fun z67 e67 => ?_)
              have i67 := in_add 1 160 e67 i16 (in_c 1 rfl) rfl rfl
              refine g_goto 10 (gd rfl) rfl ?_
              exact gg_w (by omega) (gg_f (gf_cons rfl (gf_cons rfl (gf_cons rfl (gf_cons rfl gf_nil)))) (ih10 sc10 y10_2 z67 hIc10 hFc10 (in_w 0 160 i67 rfl) (m_up mm10 (t_add e67 i16 (in_c 1 rfl) rfl) (in_w 1 1 (in_c 1 rfl) rfl))))
            · skip
              exact zn_ne c25 (in_c 0 rfl) rfl
          · skip
            refine g_iconst 1 26 (gd rfl) rfl rfl ?_
            refine g_goto 30 (gd rfl) rfl ?_
            refine g_ireturn (gd rfl) rfl (nb01 (in_w 0 1 (in_c 1 rfl) rfl)) (hp22 _ _ ?_)
            show GG _ _ _ _ _ _ _ _ [.int (Int32.ofInt 1)] _ _ _
            refine g_if_eq 28 67 (gd rfl) rfl rfl (fun c25 => ?_) (fun c25 => ?_)
            · skip
              exact zn_eq c25 (in_c 1 rfl) rfl
            · skip
              refine g_aload_n 29 (gd rfl) rfl rfl ?_
              refine g_getA (q2 := 89) 32 (gd rfl) rfl rfl rfl rfl ?_
              refine g_aload_n 33 (gd rfl) rfl rfl ?_
              refine g_getA (q2 := 4) 36 (gd rfl) rfl rfl rfl rfl ?_
              refine g_iload 38 (gd rfl) rfl rfl ?_
              refine g_iaload 39 (gd rfl) rfl (n := 160) rfl (in_ix i16 rfl) (fun z38 e38 => ?_)
              have q38 : z22x5 = z38 := (e22x5).trans e38.symm
              subst q38
              refine g_iaload 40 (gd rfl) rfl (n := 32) rfl (in_ix i22x7 rfl) (fun z39 e39 => ?_)
              have i39 := inv_I hIc10 (n := 32) (t := 0) 0 31 rfl (in_ix i22x7 rfl) rfl e39
              refine g_aload_n 41 (gd rfl) rfl rfl ?_
              refine g_getA (q2 := 89) 44 (gd rfl) rfl rfl rfl rfl ?_
              refine g_aload_n 45 (gd rfl) rfl rfl ?_
              refine g_getA (q2 := 5) 48 (gd rfl) rfl rfl rfl rfl ?_
              refine g_iload 50 (gd rfl) rfl rfl ?_
              refine g_iaload 51 (gd rfl) rfl (n := 160) rfl (in_ix i16 rfl) (fun z50 e50 => ?_)
              have q50 : z22x21 = z50 := (e22x21).trans e50.symm
              subst q50
              refine g_iaload 52 (gd rfl) rfl (n := 32) rfl (in_ix i22x21 rfl) (fun z51 e51 => ?_)
              have i51 := inv_I hIc10 (n := 32) (t := 0) 0 31 rfl (in_ix i22x21 rfl) rfl e51
              refine g_cmp_ne 55 67 (gd rfl) rfl rfl (fun c52 => ?_) (fun c52 => ?_)
              · skip
                refine g_iinc 70 (gd rfl) rfl rfl (Nat.le_of_ble_eq_true rfl) (fun z67 e67 => ?_)
                have i67 := in_add 1 160 e67 i16 (in_c 1 rfl) rfl rfl
                refine g_goto 10 (gd rfl) rfl ?_
                exact gg_w (by omega) (gg_f (gf_cons rfl (gf_cons rfl (gf_cons rfl (gf_cons rfl gf_nil)))) (ih10 sc10 y10_2 z67 hIc10 hFc10 (in_w 0 160 i67 rfl) (m_up mm10 (t_add e67 i16 (in_c 1 rfl) rfl) (in_w 1 1 (in_c 1 rfl) rfl))))
              · skip
                refine g_lload_n 56 (gd rfl) rfl rfl ?_
                refine g_ldc2_w 4 59 (gd rfl) rfl rfl ?_
                refine g_aload_n 60 (gd rfl) rfl rfl ?_
                refine g_getI 63 (gd rfl) rfl rfl rfl (fun z60 e60 => ?_)
                have i60 := inv_F hIc10 0 160 rfl e60
                refine g_i2l 64 (gd rfl) rfl (fun z63 e63 => ?_)
                have i63 := l_i e63 i60
                refine g_lmul 65 (gd rfl) rfl (fun z64 e64 => ?_)
                have i64 := l_mulc 4 0 640 (Or.inl e64) i63 rfl
                refine g_ladd 66 (gd rfl) rfl (fun z65 e65 => ?_)
                refine g_lstore_n 67 (gd rfl) rfl (Nat.le_of_ble_eq_true rfl) ?_
                refine g_iinc 70 (gd rfl) rfl rfl (Nat.le_of_ble_eq_true rfl) (fun z67 e67 => ?_)
                have i67 := in_add 1 160 e67 i16 (in_c 1 rfl) rfl rfl
                refine g_goto 10 (gd rfl) rfl ?_
                exact gg_w (by omega) (gg_f (gf_cons rfl (gf_cons rfl (gf_cons rfl (gf_cons rfl gf_nil)))) (ih10 sc10 z65 z67 hIc10 hFc10 (in_w 0 160 i67 rfl) (m_up mm10 (t_add e67 i16 (in_c 1 rfl) rfl) (in_w 1 1 (in_c 1 rfl) rfl))))
  refine g_enter2 (k := 112) (N := 175502) (by omega) rfl (Nat.le_of_ble_eq_true rfl) ?_
  refine g_aload_n 1 (gd rfl) rfl rfl ?_
  refine g_aload_n 2 (gd rfl) rfl rfl ?_
  refine g_callv (X := _) (As := [.ref (A 2)]) (r := []) (b := A 86) (q := 86) 5 (gd rfl) rfl rfl rfl rfl rfl (ww_o rfl) (Nat.le_of_ble_eq_true rfl) (Nat.zero_le _) (Nat.zero_le _) (k_113_86_2 (by omega) hI ) (fun e u h => h) (fun v u h => ?_)
  obtain ⟨s2, hI2, hF2, rfl, rfl⟩ := h
  show GG _ _ _ _ _ _ _ _ [] _ _ _
  refine g_lconst 0 6 (gd rfl) rfl rfl ?_
  refine g_lstore_n 7 (gd rfl) rfl (Nat.le_of_ble_eq_true rfl) ?_
  refine g_iconst 0 8 (gd rfl) rfl rfl ?_
  refine g_istore 10 (gd rfl) rfl (Nat.le_of_ble_eq_true rfl) ?_
  exact gg_w (by omega) (gg_f (gf_cons rfl (gf_cons rfl (gf_cons rfl (gf_cons rfl gf_nil)))) (ct10 161 s2 (Int64.ofInt 0) (Int32.ofInt 0) hI2 (fr_tr rfl fr_rf hF2) (in_w 0 160 (in_c 0 rfl) rfl) (m_in 161 (in_w 0 160 (in_c 0 rfl) rfl) rfl)))

def fm_112_86_32 : FM := ([39, 40, 41, 42, 43, 44, 45, 89, 90, 91, 92, 93], [], [(32, 4), (86, 4), (86, 5)], [])
/-- GraphHouse$Groups.totalGain -/
theorem k_112_86_32 {Z : AmZ} {A : Nat → Nat} {s : GS} {ex : va_W} {d : Nat} {X : AmX}  (hd : 7 ≤ d) (hI : Inv s)  : GC Z d 112 [.ref (A 86), .ref (A 32)] (WW Z A s ++ ex) 0 0 (fun v u => ∃ t : GS, Inv t ∧ Fr fm_112_86_32 s t ∧ ∃ z : Int64, v = some (.long z) ∧ u = WW Z A t ++ ex) X := by
  intro post xp hP hX
  obtain ⟨u_32_1, e_32_1⟩ : ∃ w, w = s.2.2.1 32 1 := ⟨_, rfl⟩
  have ro_32_1 := inv_F hI 0 32 rfl e_32_1
  obtain ⟨u_32_3, e_32_3⟩ : ∃ w, w = s.2.2.1 32 3 := ⟨_, rfl⟩
  have ro_32_3 := inv_F hI 0 160 rfl e_32_3
  have ct76 : ∀ (k76 : Nat) (sc76 : GS) (y76_2 : Int64) (y76_4 : Int32), Inv sc76 → Fr fm_112_86_32 s sc76 → (In y76_4 0 32) → 32 - (y76_4).toInt < (k76 : Int) → GG Z (d - 1) 112 post (gx xp) (1 + k76 * 900) 76 (fun j => xlook j [(0, .ref (A 86)), (1, .ref (A 32)), (2, .long y76_2), (4, .int y76_4)]) [] (WW Z A sc76 ++ ex) 0 0 := by
    intro k76
    induction k76 with
    | zero => intro sc76 y76_2 y76_4 hIc76 hFc76 j76_4 mm76; exact m_no mm76 j76_4 rfl
    | succ k76 ih76 =>
      intro sc76 y76_2 y76_4 hIc76 hFc76 j76_4 mm76
      refine gg_w (M := 1 + k76 * 900 + 900) (by omega) ?_
      refine g_iload 78 (gd rfl) rfl rfl ?_
      refine g_aload_n 79 (gd rfl) rfl rfl ?_
      refine g_getI 82 (gd rfl) rfl rfl rfl (fun z79 e79 => ?_)
      have q79 : u_32_1 = z79 := (fr_F e_32_1 hFc76 rfl).trans e79.symm
      subst q79
      refine g_cmp_ge 85 124 (gd rfl) rfl rfl (fun c82 => ?_) (fun c82 => ?_)
      · skip
        refine g_lload_n 125 (gd rfl) rfl rfl ?_
        exact g_lreturn (gd rfl) rfl (hP _ _ ⟨sc76, hIc76, hFc76, y76_2, rfl, rfl⟩)
      · skip
        have i82 := r_lt1 0 31 c82 j76_4 ro_32_1 rfl
        have i82a := r_lt2 1 32 c82 j76_4 ro_32_1 rfl
        refine g_lload_n 86 (gd rfl) rfl rfl ?_
        refine g_aload_n 87 (gd rfl) rfl rfl ?_
        refine g_getA (q2 := 91) 90 (gd rfl) rfl rfl rfl rfl ?_
        refine g_iload 92 (gd rfl) rfl rfl ?_
        refine g_iaload 93 (gd rfl) rfl (n := 32) rfl (in_ix i82 rfl) (fun z92 e92 => ?_)
        refine g_i2l 94 (gd rfl) rfl (fun z93 e93 => ?_)
        have i93 := l_i e93 (i_rng z92)
        refine g_aload_n 95 (gd rfl) rfl rfl ?_
        refine g_getA (q2 := 92) 98 (gd rfl) rfl rfl rfl rfl ?_
        refine g_aload_n 99 (gd rfl) rfl rfl ?_
        refine g_getA (q2 := 89) 102 (gd rfl) rfl rfl rfl rfl ?_
        refine g_iload 104 (gd rfl) rfl rfl ?_
        refine g_iaload 105 (gd rfl) rfl (n := 32) rfl (in_ix i82 rfl) (fun z104 e104 => ?_)
        have i104 := inv_I hIc76 (n := 32) (t := 0) 0 31 rfl (in_ix i82 rfl) rfl e104
        refine g_iaload 106 (gd rfl) rfl (n := 32) rfl (in_ix i104 rfl) (fun z105 e105 => ?_)
        refine g_aload_n 107 (gd rfl) rfl rfl ?_
        refine g_getA (q2 := 91) 110 (gd rfl) rfl rfl rfl rfl ?_
        refine g_iload 112 (gd rfl) rfl rfl ?_
        refine g_iaload 113 (gd rfl) rfl (n := 32) rfl (in_ix i82 rfl) (fun z112 e112 => ?_)
        have q112 : z92 = z112 := (e92).trans e112.symm
        subst q112
        refine g_isub 114 (gd rfl) rfl (fun z113 e113 => ?_)
        refine g_i2l 115 (gd rfl) rfl (fun z114 e114 => ?_)
        have i114 := l_i e114 (i_rng z113)
        refine g_lmul 116 (gd rfl) rfl (fun z115 e115 => ?_)
        refine g_lsub 117 (gd rfl) rfl (fun z116 e116 => ?_)
        refine g_lstore_n 118 (gd rfl) rfl (Nat.le_of_ble_eq_true rfl) ?_
        refine g_iinc 121 (gd rfl) rfl rfl (Nat.le_of_ble_eq_true rfl) (fun z118 e118 => ?_)
        have i118 := in_add 1 32 e118 i82 (in_c 1 rfl) rfl rfl
        refine g_goto 76 (gd rfl) rfl ?_
        exact gg_w (by omega) (gg_f (gf_cons rfl (gf_cons rfl (gf_cons rfl (gf_cons rfl gf_nil)))) (ih76 sc76 z116 z118 hIc76 hFc76 (in_w 0 32 i118 rfl) (m_up mm76 (t_add e118 i82 (in_c 1 rfl) rfl) (in_w 1 1 (in_c 1 rfl) rfl))))
  have ct10 : ∀ (k10 : Nat) (sc10 : GS) (y10_2 : Int64) (y10_4 : Int32), Inv sc10 → Fr fm_112_86_32 s sc10 → (In y10_4 0 160) → 160 - (y10_4).toInt < (k10 : Int) → GG Z (d - 1) 112 post (gx xp) (29702 + k10 * 900) 10 (fun j => xlook j [(0, .ref (A 86)), (1, .ref (A 32)), (2, .long y10_2), (4, .int y10_4)]) [] (WW Z A sc10 ++ ex) 0 0 := by
    intro k10
    induction k10 with
    | zero => intro sc10 y10_2 y10_4 hIc10 hFc10 j10_4 mm10; exact m_no mm10 j10_4 rfl
    | succ k10 ih10 =>
      intro sc10 y10_2 y10_4 hIc10 hFc10 j10_4 mm10
      refine gg_w (M := 29702 + k10 * 900 + 900) (by omega) ?_
      refine g_iload 12 (gd rfl) rfl rfl ?_
      refine g_aload_n 13 (gd rfl) rfl rfl ?_
      refine g_getI 16 (gd rfl) rfl rfl rfl (fun z13 e13 => ?_)
      have q13 : u_32_3 = z13 := (fr_F e_32_3 hFc10 rfl).trans e13.symm
      subst q13
      refine g_cmp_ge 19 73 (gd rfl) rfl rfl (fun c16 => ?_) (fun c16 => ?_)
      · skip
        refine g_iconst 0 74 (gd rfl) rfl rfl ?_
        refine g_istore 76 (gd rfl) rfl (Nat.le_of_ble_eq_true rfl) ?_
        exact gg_w (by omega) (gg_f (gf_cons rfl (gf_cons rfl (gf_cons rfl (gf_cons rfl gf_nil)))) (ct76 33 sc10 y10_2 (Int32.ofInt 0) hIc10 hFc10 (in_w 0 32 (in_c 0 rfl) rfl) (m_in 33 (in_w 0 32 (in_c 0 rfl) rfl) rfl)))
      · skip
        have i16 := r_lt1 0 159 c16 j10_4 ro_32_3 rfl
        have i16a := r_lt2 1 160 c16 j10_4 ro_32_3 rfl
        refine g_aload_n 20 (gd rfl) rfl rfl ?_
        refine g_iload 22 (gd rfl) rfl rfl ?_
        refine g_callv (X := _) (As := [.int y10_4]) (r := []) (b := A 32) (q := 32) 25 (gd rfl) rfl rfl rfl rfl rfl (ww_o rfl) (Nat.le_of_ble_eq_true rfl) (mc := 0) (ms := 0) (Nat.zero_le _) (Nat.zero_le _) (P := fun v u => _) ?_ (fun e u h => h) (fun v u h => h)
        intro po22 xx22 hp22 hx22
        refine g_enter2 (k := 97) (N := 300) (by omega) rfl (Nat.le_of_ble_eq_true rfl) ?_
        refine g_aload_n 1 (gd rfl) rfl rfl ?_
        refine g_getA (q2 := 34) 4 (gd rfl) rfl rfl rfl rfl ?_
        refine g_iload_n 5 (gd rfl) rfl rfl ?_
        refine g_iaload 6 (gd rfl) rfl (n := 160) rfl (in_ix i16 rfl) (fun z22x5 e22x5 => ?_)
        have i22x5 := inv_I hIc10 (n := 160) (t := 0) (-1) 31 rfl (in_ix i16 rfl) rfl e22x5
        refine g_iconst (-1) 7 (gd rfl) rfl rfl ?_
        refine g_cmp_eq 10 29 (gd rfl) rfl rfl (fun c22x7 => ?_) (fun c22x7 => ?_)
        · skip
          have i22x7 := r_eq1 (-1) (-1) c22x7 i22x5 (in_c (-1) rfl) rfl
          refine g_iconst 0 30 (gd rfl) rfl rfl ?_
          refine g_ireturn (gd rfl) rfl (nb01 (in_w 0 1 (in_c 0 rfl) rfl)) (hp22 _ _ ?_)
          show GG _ _ _ _ _ _ _ _ [.int (Int32.ofInt 0)] _ _ _
          refine g_if_eq 28 67 (gd rfl) rfl rfl (fun c25 => ?_) (fun c25 => ?_)
          · skip
            refine g_iinc 70 (gd rfl) rfl rfl (Nat.le_of_ble_eq_true rfl) (fun z67 e67 => ?_)
            have i67 := in_add 1 160 e67 i16 (in_c 1 rfl) rfl rfl
            refine g_goto 10 (gd rfl) rfl ?_
            exact gg_w (by omega) (gg_f (gf_cons rfl (gf_cons rfl (gf_cons rfl (gf_cons rfl gf_nil)))) (ih10 sc10 y10_2 z67 hIc10 hFc10 (in_w 0 160 i67 rfl) (m_up mm10 (t_add e67 i16 (in_c 1 rfl) rfl) (in_w 1 1 (in_c 1 rfl) rfl))))
          · skip
            exact zn_ne c25 (in_c 0 rfl) rfl
        · skip
          have i22x7 := r_ne1 0 31 c22x7 i22x5 (in_c (-1) rfl) rfl
          refine g_aload_n 11 (gd rfl) rfl rfl ?_
          refine g_getA (q2 := 34) 14 (gd rfl) rfl rfl rfl rfl ?_
          refine g_iload_n 15 (gd rfl) rfl rfl ?_
          refine g_iaload 16 (gd rfl) rfl (n := 160) rfl (in_ix i16 rfl) (fun z22x15 e22x15 => ?_)
          have q22x15 : z22x5 = z22x15 := (e22x5).trans e22x15.symm
          subst q22x15
          refine g_aload_n 17 (gd rfl) rfl rfl ?_
          refine g_getA (q2 := 35) 20 (gd rfl) rfl rfl rfl rfl ?_
          refine g_iload_n 21 (gd rfl) rfl rfl ?_
          refine g_iaload 22 (gd rfl) rfl (n := 160) rfl (in_ix i16 rfl) (fun z22x21 e22x21 => ?_)
          have i22x21 := inv_I hIc10 (n := 160) (t := 0) 0 31 rfl (in_ix i16 rfl) rfl e22x21
          refine g_cmp_eq 25 29 (gd rfl) rfl rfl (fun c22x22 => ?_) (fun c22x22 => ?_)
          · skip
            refine g_iconst 0 30 (gd rfl) rfl rfl ?_
            refine g_ireturn (gd rfl) rfl (nb01 (in_w 0 1 (in_c 0 rfl) rfl)) (hp22 _ _ ?_)
            show GG _ _ _ _ _ _ _ _ [.int (Int32.ofInt 0)] _ _ _
            refine g_if_eq 28 67 (gd rfl) rfl rfl (fun c25 => ?_) (fun c25 => ?_)
            · skip
              refine g_iinc 70 (gd rfl) rfl rfl (Nat.le_of_ble_eq_true rfl) (fun z67 e67 => ?_)
              have i67 := in_add 1 160 e67 i16 (in_c 1 rfl) rfl rfl
              refine g_goto 10 (gd rfl) rfl ?_
              exact gg_w (by omega) (gg_f (gf_cons rfl (gf_cons rfl (gf_cons rfl (gf_cons rfl gf_nil)))) (ih10 sc10 y10_2 z67 hIc10 hFc10 (in_w 0 160 i67 rfl) (m_up mm10 (t_add e67 i16 (in_c 1 rfl) rfl) (in_w 1 1 (in_c 1 rfl) rfl))))
            · skip
              exact zn_ne c25 (in_c 0 rfl) rfl
          · skip
            refine g_iconst 1 26 (gd rfl) rfl rfl ?_
            refine g_goto 30 (gd rfl) rfl ?_
            refine g_ireturn (gd rfl) rfl (nb01 (in_w 0 1 (in_c 1 rfl) rfl)) (hp22 _ _ ?_)
            show GG _ _ _ _ _ _ _ _ [.int (Int32.ofInt 1)] _ _ _
            refine g_if_eq 28 67 (gd rfl) rfl rfl (fun c25 => ?_) (fun c25 => ?_)
            · skip
              exact zn_eq c25 (in_c 1 rfl) rfl
            · skip
              refine g_aload_n 29 (gd rfl) rfl rfl ?_
              refine g_getA (q2 := 89) 32 (gd rfl) rfl rfl rfl rfl ?_
              refine g_aload_n 33 (gd rfl) rfl rfl ?_
              refine g_getA (q2 := 34) 36 (gd rfl) rfl rfl rfl rfl ?_
              refine g_iload 38 (gd rfl) rfl rfl ?_
              refine g_iaload 39 (gd rfl) rfl (n := 160) rfl (in_ix i16 rfl) (fun z38 e38 => ?_)
              have q38 : z22x5 = z38 := (e22x5).trans e38.symm
              subst q38
              refine g_iaload 40 (gd rfl) rfl (n := 32) rfl (in_ix i22x7 rfl) (fun z39 e39 => ?_)
              have i39 := inv_I hIc10 (n := 32) (t := 0) 0 31 rfl (in_ix i22x7 rfl) rfl e39
              refine g_aload_n 41 (gd rfl) rfl rfl ?_
              refine g_getA (q2 := 89) 44 (gd rfl) rfl rfl rfl rfl ?_
              refine g_aload_n 45 (gd rfl) rfl rfl ?_
              refine g_getA (q2 := 35) 48 (gd rfl) rfl rfl rfl rfl ?_
              refine g_iload 50 (gd rfl) rfl rfl ?_
              refine g_iaload 51 (gd rfl) rfl (n := 160) rfl (in_ix i16 rfl) (fun z50 e50 => ?_)
              have q50 : z22x21 = z50 := (e22x21).trans e50.symm
              subst q50
              refine g_iaload 52 (gd rfl) rfl (n := 32) rfl (in_ix i22x21 rfl) (fun z51 e51 => ?_)
              have i51 := inv_I hIc10 (n := 32) (t := 0) 0 31 rfl (in_ix i22x21 rfl) rfl e51
              refine g_cmp_ne 55 67 (gd rfl) rfl rfl (fun c52 => ?_) (fun c52 => ?_)
              · skip
                refine g_iinc 70 (gd rfl) rfl rfl (Nat.le_of_ble_eq_true rfl) (fun z67 e67 => ?_)
                have i67 := in_add 1 160 e67 i16 (in_c 1 rfl) rfl rfl
                refine g_goto 10 (gd rfl) rfl ?_
                exact gg_w (by omega) (gg_f (gf_cons rfl (gf_cons rfl (gf_cons rfl (gf_cons rfl gf_nil)))) (ih10 sc10 y10_2 z67 hIc10 hFc10 (in_w 0 160 i67 rfl) (m_up mm10 (t_add e67 i16 (in_c 1 rfl) rfl) (in_w 1 1 (in_c 1 rfl) rfl))))
              · skip
                refine g_lload_n 56 (gd rfl) rfl rfl ?_
                refine g_ldc2_w 4 59 (gd rfl) rfl rfl ?_
                refine g_aload_n 60 (gd rfl) rfl rfl ?_
                refine g_getI 63 (gd rfl) rfl rfl rfl (fun z60 e60 => ?_)
                have i60 := inv_F hIc10 0 160 rfl e60
                refine g_i2l 64 (gd rfl) rfl (fun z63 e63 => ?_)
                have i63 := l_i e63 i60
                refine g_lmul 65 (gd rfl) rfl (fun z64 e64 => ?_)
                have i64 := l_mulc 4 0 640 (Or.inl e64) i63 rfl
                refine g_ladd 66 (gd rfl) rfl (fun z65 e65 => ?_)
                refine g_lstore_n 67 (gd rfl) rfl (Nat.le_of_ble_eq_true rfl) ?_
                refine g_iinc 70 (gd rfl) rfl rfl (Nat.le_of_ble_eq_true rfl) (fun z67 e67 => ?_)
                have i67 := in_add 1 160 e67 i16 (in_c 1 rfl) rfl rfl
                refine g_goto 10 (gd rfl) rfl ?_
                exact gg_w (by omega) (gg_f (gf_cons rfl (gf_cons rfl (gf_cons rfl (gf_cons rfl gf_nil)))) (ih10 sc10 z65 z67 hIc10 hFc10 (in_w 0 160 i67 rfl) (m_up mm10 (t_add e67 i16 (in_c 1 rfl) rfl) (in_w 1 1 (in_c 1 rfl) rfl))))
  refine g_enter2 (k := 112) (N := 175502) (by omega) rfl (Nat.le_of_ble_eq_true rfl) ?_
  refine g_aload_n 1 (gd rfl) rfl rfl ?_
  refine g_aload_n 2 (gd rfl) rfl rfl ?_
  refine g_callv (X := _) (As := [.ref (A 32)]) (r := []) (b := A 86) (q := 86) 5 (gd rfl) rfl rfl rfl rfl rfl (ww_o rfl) (Nat.le_of_ble_eq_true rfl) (Nat.zero_le _) (Nat.zero_le _) (k_113_86_32 (by omega) hI ) (fun e u h => h) (fun v u h => ?_)
  obtain ⟨s2, hI2, hF2, rfl, rfl⟩ := h
  show GG _ _ _ _ _ _ _ _ [] _ _ _
  refine g_lconst 0 6 (gd rfl) rfl rfl ?_
  refine g_lstore_n 7 (gd rfl) rfl (Nat.le_of_ble_eq_true rfl) ?_
  refine g_iconst 0 8 (gd rfl) rfl rfl ?_
  refine g_istore 10 (gd rfl) rfl (Nat.le_of_ble_eq_true rfl) ?_
  exact gg_w (by omega) (gg_f (gf_cons rfl (gf_cons rfl (gf_cons rfl (gf_cons rfl gf_nil)))) (ct10 161 s2 (Int64.ofInt 0) (Int32.ofInt 0) hI2 (fr_tr rfl fr_rf hF2) (in_w 0 160 (in_c 0 rfl) rfl) (m_in 161 (in_w 0 160 (in_c 0 rfl) rfl) rfl)))

def fm_206_49_2 : FM := ([9, 10, 11, 12, 13, 14, 15], [55], [(2, 4), (49, 8), (49, 9), (49, 10), (49, 11)], [])
/-- GraphHouse$Ways.arcOfShort -/
theorem k_206_49_2 {Z : AmZ} {A : Nat → Nat} {s : GS} {ex : va_W} {d : Nat} {X : AmX} {x2 : Int32} {x3 : Int32} {x4 : Int32} {x5 : Int32} (hd : 23 ≤ d) (hI : Inv s) (h2 : In x2 0 31) (h3 : In x3 0 31) (h4 : In x4 0 2147483647) (h5 : In x5 0 2147483647) : GC Z d 206 [.ref (A 49), .ref (A 2), .int x2, .int x3, .int x4, .int x5] (WW Z A s ++ ex) 0 0 (fun v u => ∃ t : GS, Inv t ∧ Fr fm_206_49_2 s t ∧ ∃ z : Int32, v = some (.int z) ∧ u = WW Z A t ++ ex ∧ In z (-2147483648) 2147483647) X := by
  intro post xp hP hX
  refine g_enter2 (k := 206) (N := 900) (by omega) rfl (Nat.le_of_ble_eq_true rfl) ?_
  refine g_aload_n 1 (gd rfl) rfl rfl ?_
  refine g_aload_n 2 (gd rfl) rfl rfl ?_
  refine g_iload_n 3 (gd rfl) rfl rfl ?_
  refine g_iload_n 4 (gd rfl) rfl rfl ?_
  refine g_callv (X := _) (As := [.ref (A 2), .int x2, .int x3]) (r := []) (b := A 49) (q := 49) 7 (gd rfl) rfl rfl rfl rfl rfl (ww_o rfl) (Nat.le_of_ble_eq_true rfl) (Nat.zero_le _) (Nat.zero_le _) (k_207_49_2 (by omega) hI (in_w 0 31 h2 rfl) (in_w 0 31 h3 rfl)) (fun e u h => h) (fun v u h => ?_)
  obtain ⟨s4, hI4, hF4, rfl, rfl⟩ := h
  show GG _ _ _ _ _ _ _ _ [] _ _ _
  refine g_aload_n 8 (gd rfl) rfl rfl ?_
  refine g_getI 11 (gd rfl) rfl rfl rfl (fun z8 e8 => ?_)
  have i8 := inv_F hI4 0 2001 rfl e8
  refine g_sipush 2000 14 (gd rfl) rfl rfl ?_
  refine g_cmp_gt 17 26 (gd rfl) rfl rfl (fun c14 => ?_) (fun c14 => ?_)
  · skip
    have i14 := r_lt2 2001 2001 c14 (in_c 2000 rfl) i8 rfl
    refine g_iconst (-1) 27 (gd rfl) rfl rfl ?_
    exact g_ireturn (gd rfl) rfl rfl (hP _ _ ⟨s4, hI4, (fr_tr rfl fr_rf hF4), (Int32.ofInt (-1)), rfl, rfl, in_w (-2147483648) 2147483647 (in_c (-1) rfl) rfl⟩)
  · skip
    have i14 := r_le1 0 2000 c14 i8 (in_c 2000 rfl) rfl
    refine g_iload 19 (gd rfl) rfl rfl ?_
    refine g_aload_n 20 (gd rfl) rfl rfl ?_
    refine g_getI 23 (gd rfl) rfl rfl rfl (fun z20 e20 => ?_)
    have q20 : z8 = z20 := (e8).trans e20.symm
    subst q20
    refine g_cmp_lt 26 28 (gd rfl) rfl rfl (fun c23 => ?_) (fun c23 => ?_)
    · skip
      have i23 := r_lt1 0 1999 c23 h4 i14 rfl
      have i23a := r_lt2 1 2000 c23 h4 i14 rfl
      refine g_aload_n 29 (gd rfl) rfl rfl ?_
      refine g_getA (q2 := 55) 32 (gd rfl) rfl rfl rfl rfl ?_
      refine g_iload 34 (gd rfl) rfl rfl ?_
      refine g_laload 35 (gd rfl) rfl (n := 2001) rfl (in_ix i23 rfl) (fun z34 e34 => ?_)
      refine g_lstore 37 (gd rfl) rfl (Nat.le_of_ble_eq_true rfl) ?_
      refine g_iload 39 (gd rfl) rfl rfl ?_
      refine g_lload 41 (gd rfl) rfl rfl ?_
      refine g_bipush 32 43 (gd rfl) rfl rfl ?_
      refine g_lshr 44 (gd rfl) rfl (fun z43 e43 => ?_)
      refine g_ldc2_w 7 47 (gd rfl) rfl rfl ?_
      refine g_land 48 (gd rfl) rfl (fun z47 e47 => ?_)
      have i47 := inl_and2 e47 (l_c 7 rfl) rfl
      refine g_l2i 49 (gd rfl) rfl (fun z48 e48 => ?_)
      refine g_cmp_lt 52 54 (gd rfl) rfl rfl (fun c49 => ?_) (fun c49 => ?_)
      · skip
        have i49 := r_lt1 0 2147483646 c49 h5 (i_rng z48) rfl
        have i49a := r_lt2 1 2147483647 c49 h5 (i_rng z48) rfl
        refine g_lload 56 (gd rfl) rfl rfl ?_
        refine g_bipush 24 58 (gd rfl) rfl rfl ?_
        refine g_bipush 8 60 (gd rfl) rfl rfl ?_
        refine g_iload 62 (gd rfl) rfl rfl ?_
        refine g_imul 63 (gd rfl) rfl (fun z62 e62 => ?_)
        refine g_isub 64 (gd rfl) rfl (fun z63 e63 => ?_)
        refine g_lshr 65 (gd rfl) rfl (fun z64 e64 => ?_)
        refine g_ldc2_w 255 68 (gd rfl) rfl rfl ?_
        refine g_land 69 (gd rfl) rfl (fun z68 e68 => ?_)
        have i68 := inl_and2 e68 (l_c 255 rfl) rfl
        refine g_l2i 70 (gd rfl) rfl (fun z69 e69 => ?_)
        exact g_ireturn (gd rfl) rfl rfl (hP _ _ ⟨s4, hI4, (fr_tr rfl fr_rf hF4), z69, rfl, rfl, in_w (-2147483648) 2147483647 (i_rng z69) rfl⟩)
      · skip
        refine g_iconst (-1) 53 (gd rfl) rfl rfl ?_
        exact g_ireturn (gd rfl) rfl rfl (hP _ _ ⟨s4, hI4, (fr_tr rfl fr_rf hF4), (Int32.ofInt (-1)), rfl, rfl, in_w (-2147483648) 2147483647 (in_c (-1) rfl) rfl⟩)
    · skip
      refine g_iconst (-1) 27 (gd rfl) rfl rfl ?_
      exact g_ireturn (gd rfl) rfl rfl (hP _ _ ⟨s4, hI4, (fr_tr rfl fr_rf hF4), (Int32.ofInt (-1)), rfl, rfl, in_w (-2147483648) 2147483647 (in_c (-1) rfl) rfl⟩)

def fm_206_49_32 : FM := ([39, 40, 41, 42, 43, 44, 45], [55], [(32, 4), (49, 8), (49, 9), (49, 10), (49, 11)], [])
/-- GraphHouse$Ways.arcOfShort -/
theorem k_206_49_32 {Z : AmZ} {A : Nat → Nat} {s : GS} {ex : va_W} {d : Nat} {X : AmX} {x2 : Int32} {x3 : Int32} {x4 : Int32} {x5 : Int32} (hd : 23 ≤ d) (hI : Inv s) (h2 : In x2 0 31) (h3 : In x3 0 31) (h4 : In x4 0 2147483647) (h5 : In x5 0 2147483647) : GC Z d 206 [.ref (A 49), .ref (A 32), .int x2, .int x3, .int x4, .int x5] (WW Z A s ++ ex) 0 0 (fun v u => ∃ t : GS, Inv t ∧ Fr fm_206_49_32 s t ∧ ∃ z : Int32, v = some (.int z) ∧ u = WW Z A t ++ ex ∧ In z (-2147483648) 2147483647) X := by
  intro post xp hP hX
  refine g_enter2 (k := 206) (N := 900) (by omega) rfl (Nat.le_of_ble_eq_true rfl) ?_
  refine g_aload_n 1 (gd rfl) rfl rfl ?_
  refine g_aload_n 2 (gd rfl) rfl rfl ?_
  refine g_iload_n 3 (gd rfl) rfl rfl ?_
  refine g_iload_n 4 (gd rfl) rfl rfl ?_
  refine g_callv (X := _) (As := [.ref (A 32), .int x2, .int x3]) (r := []) (b := A 49) (q := 49) 7 (gd rfl) rfl rfl rfl rfl rfl (ww_o rfl) (Nat.le_of_ble_eq_true rfl) (Nat.zero_le _) (Nat.zero_le _) (k_207_49_32 (by omega) hI (in_w 0 31 h2 rfl) (in_w 0 31 h3 rfl)) (fun e u h => h) (fun v u h => ?_)
  obtain ⟨s4, hI4, hF4, rfl, rfl⟩ := h
  show GG _ _ _ _ _ _ _ _ [] _ _ _
  refine g_aload_n 8 (gd rfl) rfl rfl ?_
  refine g_getI 11 (gd rfl) rfl rfl rfl (fun z8 e8 => ?_)
  have i8 := inv_F hI4 0 2001 rfl e8
  refine g_sipush 2000 14 (gd rfl) rfl rfl ?_
  refine g_cmp_gt 17 26 (gd rfl) rfl rfl (fun c14 => ?_) (fun c14 => ?_)
  · skip
    have i14 := r_lt2 2001 2001 c14 (in_c 2000 rfl) i8 rfl
    refine g_iconst (-1) 27 (gd rfl) rfl rfl ?_
    exact g_ireturn (gd rfl) rfl rfl (hP _ _ ⟨s4, hI4, (fr_tr rfl fr_rf hF4), (Int32.ofInt (-1)), rfl, rfl, in_w (-2147483648) 2147483647 (in_c (-1) rfl) rfl⟩)
  · skip
    have i14 := r_le1 0 2000 c14 i8 (in_c 2000 rfl) rfl
    refine g_iload 19 (gd rfl) rfl rfl ?_
    refine g_aload_n 20 (gd rfl) rfl rfl ?_
    refine g_getI 23 (gd rfl) rfl rfl rfl (fun z20 e20 => ?_)
    have q20 : z8 = z20 := (e8).trans e20.symm
    subst q20
    refine g_cmp_lt 26 28 (gd rfl) rfl rfl (fun c23 => ?_) (fun c23 => ?_)
    · skip
      have i23 := r_lt1 0 1999 c23 h4 i14 rfl
      have i23a := r_lt2 1 2000 c23 h4 i14 rfl
      refine g_aload_n 29 (gd rfl) rfl rfl ?_
      refine g_getA (q2 := 55) 32 (gd rfl) rfl rfl rfl rfl ?_
      refine g_iload 34 (gd rfl) rfl rfl ?_
      refine g_laload 35 (gd rfl) rfl (n := 2001) rfl (in_ix i23 rfl) (fun z34 e34 => ?_)
      refine g_lstore 37 (gd rfl) rfl (Nat.le_of_ble_eq_true rfl) ?_
      refine g_iload 39 (gd rfl) rfl rfl ?_
      refine g_lload 41 (gd rfl) rfl rfl ?_
      refine g_bipush 32 43 (gd rfl) rfl rfl ?_
      refine g_lshr 44 (gd rfl) rfl (fun z43 e43 => ?_)
      refine g_ldc2_w 7 47 (gd rfl) rfl rfl ?_
      refine g_land 48 (gd rfl) rfl (fun z47 e47 => ?_)
      have i47 := inl_and2 e47 (l_c 7 rfl) rfl
      refine g_l2i 49 (gd rfl) rfl (fun z48 e48 => ?_)
      refine g_cmp_lt 52 54 (gd rfl) rfl rfl (fun c49 => ?_) (fun c49 => ?_)
      · skip
        have i49 := r_lt1 0 2147483646 c49 h5 (i_rng z48) rfl
        have i49a := r_lt2 1 2147483647 c49 h5 (i_rng z48) rfl
        refine g_lload 56 (gd rfl) rfl rfl ?_
        refine g_bipush 24 58 (gd rfl) rfl rfl ?_
        refine g_bipush 8 60 (gd rfl) rfl rfl ?_
        refine g_iload 62 (gd rfl) rfl rfl ?_
        refine g_imul 63 (gd rfl) rfl (fun z62 e62 => ?_)
        refine g_isub 64 (gd rfl) rfl (fun z63 e63 => ?_)
        refine g_lshr 65 (gd rfl) rfl (fun z64 e64 => ?_)
        refine g_ldc2_w 255 68 (gd rfl) rfl rfl ?_
        refine g_land 69 (gd rfl) rfl (fun z68 e68 => ?_)
        have i68 := inl_and2 e68 (l_c 255 rfl) rfl
        refine g_l2i 70 (gd rfl) rfl (fun z69 e69 => ?_)
        exact g_ireturn (gd rfl) rfl rfl (hP _ _ ⟨s4, hI4, (fr_tr rfl fr_rf hF4), z69, rfl, rfl, in_w (-2147483648) 2147483647 (i_rng z69) rfl⟩)
      · skip
        refine g_iconst (-1) 53 (gd rfl) rfl rfl ?_
        exact g_ireturn (gd rfl) rfl rfl (hP _ _ ⟨s4, hI4, (fr_tr rfl fr_rf hF4), (Int32.ofInt (-1)), rfl, rfl, in_w (-2147483648) 2147483647 (in_c (-1) rfl) rfl⟩)
    · skip
      refine g_iconst (-1) 27 (gd rfl) rfl rfl ?_
      exact g_ireturn (gd rfl) rfl rfl (hP _ _ ⟨s4, hI4, (fr_tr rfl fr_rf hF4), (Int32.ofInt (-1)), rfl, rfl, in_w (-2147483648) 2147483647 (in_c (-1) rfl) rfl⟩)

def fm_233_0 : FM := ([9, 10, 11, 12, 13, 14, 15, 39, 40, 41, 42, 43, 44, 45], [55], [(2, 4), (32, 4), (49, 8), (49, 9), (49, 10), (49, 11)], [])
/-- GraphHouse.shortArc -/
theorem k_233_0 {Z : AmZ} {A : Nat → Nat} {s : GS} {ex : va_W} {d : Nat} {x1 : Int32} {x2 : Int32} {x3 : Int32} {x4 : Int32} (hd : 24 ≤ d) (hI : Inv s)  : GC Z d 233 [.ref (A 0), .int x1, .int x2, .int x3, .int x4] (WW Z A s ++ ex) 3 18 (fun v u => ∃ t : GS, Inv t ∧ Fr fm_233_0 s t ∧ ∃ z : Int32, v = some (.int z) ∧ u = WW Z A t ++ ex ∧ In z (-2147483648) 2147483647) (gE1 Z A ex fm_233_0 s) := by
  intro post xp hP hX
  obtain ⟨u_0_2, e_0_2⟩ : ∃ w, w = s.2.2.1 0 2 := ⟨_, rfl⟩
  have ro_0_2 := inv_F hI (-1) 4000 rfl e_0_2
  obtain ⟨u_2_1, e_2_1⟩ : ∃ w, w = s.2.2.1 2 1 := ⟨_, rfl⟩
  have ro_2_1 := inv_F hI 0 32 rfl e_2_1
  obtain ⟨u_32_1, e_32_1⟩ : ∃ w, w = s.2.2.1 32 1 := ⟨_, rfl⟩
  have ro_32_1 := inv_F hI 0 32 rfl e_32_1
  have ct29 : ∀ (sc29 : GS) , Inv sc29 → Fr fm_233_0 s sc29 → GG Z (d - 1) 233 post (gx xp) (901) 29 (fun j => xlook j [(0, .ref (A 0)), (1, .int x1), (2, .int x2), (3, .int x3), (4, .int x4)]) [] (WW Z A sc29 ++ ex) 3 18 := by
    intro sc29  hIc29 hFc29 
    refine g_iconst 0 30 (gd rfl) rfl rfl ?_
    refine g_thr (E := am_IA) (y := yX11_allow) 33 (gd rfl) rfl rfl (Or.inl ⟨rfl, rfl, rfl⟩) (by omega) (Nat.le_of_ble_eq_true rfl) (Nat.le_of_ble_eq_true rfl) (Nat.le_of_ble_eq_true rfl) (fun c30 => ?_) (fun c30 => ?_)
    · skip
      exact zn_ne c30 (in_c 0 rfl) rfl
    · skip
      exact (hX _ _ ⟨rfl, sc29, hIc29, hFc29, rfl⟩)
  refine g_enter2 (k := 233) (N := 1801) (by omega) rfl (Nat.le_of_ble_eq_true rfl) ?_
  refine g_aload_n 1 (gd rfl) rfl rfl ?_
  refine g_callv (X := _) (As := []) (r := []) (b := A 0) (q := 0) 4 (gd rfl) rfl rfl rfl rfl rfl (ww_o rfl) (Nat.le_of_ble_eq_true rfl) (mc := 0) (ms := 0) (Nat.zero_le _) (Nat.zero_le _) (P := fun v u => _) ?_ (fun e u h => h) (fun v u h => h)
  intro po1 xx1 hp1 hx1
  refine g_enter2 (k := 259) (N := 300) (by omega) rfl (Nat.le_of_ble_eq_true rfl) ?_
  refine g_aload_n 1 (gd rfl) rfl rfl ?_
  refine g_getI 4 (gd rfl) rfl rfl rfl (fun z1x1 e1x1 => ?_)
  have q1x1 : u_0_2 = z1x1 := (e_0_2).trans e1x1.symm
  subst q1x1
  refine g_iconst (-1) 5 (gd rfl) rfl rfl ?_
  refine g_cmp_ne 8 18 (gd rfl) rfl rfl (fun c1x5 => ?_) (fun c1x5 => ?_)
  · skip
    have i1x5 := r_ne1 0 4000 c1x5 ro_0_2 (in_c (-1) rfl) rfl
    refine g_aload_n 19 (gd rfl) rfl rfl ?_
    refine g_getA (q2 := 32) 22 (gd rfl) rfl rfl rfl rfl ?_
    refine g_areturn (gd rfl) rfl (hp1 _ _ ?_)
    show GG _ _ _ _ _ _ _ _ [.ref (A 32)] _ _ _
    refine g_astore 6 (gd rfl) rfl (Nat.le_of_ble_eq_true rfl) ?_
    refine g_aload 8 (gd rfl) rfl rfl ?_
    refine g_iload_n 9 (gd rfl) rfl rfl ?_
    refine g_iload_n 10 (gd rfl) rfl rfl ?_
    refine g_callv (X := _) (As := [.int x1, .int x2]) (r := []) (b := A 32) (q := 32) 13 (gd rfl) rfl rfl rfl rfl rfl (ww_o rfl) (Nat.le_of_ble_eq_true rfl) (mc := 0) (ms := 0) (Nat.zero_le _) (Nat.zero_le _) (P := fun v u => _) ?_ (fun e u h => h) (fun v u h => h)
    intro po10 xx10 hp10 hx10
    refine g_enter2 (k := 95) (N := 300) (by omega) rfl (Nat.le_of_ble_eq_true rfl) ?_
    refine g_aload_n 1 (gd rfl) rfl rfl ?_
    refine g_iload_n 2 (gd rfl) rfl rfl ?_
    refine g_callv (X := _) (As := [.int x1]) (r := []) (b := A 32) (q := 32) 5 (gd rfl) rfl rfl rfl rfl rfl (ww_o rfl) (Nat.le_of_ble_eq_true rfl) (mc := 0) (ms := 0) (Nat.zero_le _) (Nat.zero_le _) (P := fun v u => _) ?_ (fun e u h => h) (fun v u h => h)
    intro po10x2 xx10x2 hp10x2 hx10x2
    refine g_enter2 (k := 94) (N := 300) (by omega) rfl (Nat.le_of_ble_eq_true rfl) ?_
    refine g_iload_n 1 (gd rfl) rfl rfl ?_
    refine g_if_lt 4 16 (gd rfl) rfl rfl (fun c10x2x1 => ?_) (fun c10x2x1 => ?_)
    · skip
      have i10x2x1 := z_lt (-2147483648) (-1) c10x2x1 (i_rng x1) rfl
      refine g_iconst 0 17 (gd rfl) rfl rfl ?_
      refine g_ireturn (gd rfl) rfl (nb01 (in_w 0 1 (in_c 0 rfl) rfl)) (hp10x2 _ _ ?_)
      show GG _ _ _ _ _ _ _ _ [.int (Int32.ofInt 0)] _ _ _
      refine g_if_eq 8 25 (gd rfl) rfl rfl (fun c10x5 => ?_) (fun c10x5 => ?_)
      · skip
        refine g_iconst 0 26 (gd rfl) rfl rfl ?_
        refine g_ireturn (gd rfl) rfl (nb01 (in_w 0 1 (in_c 0 rfl) rfl)) (hp10 _ _ ?_)
        show GG _ _ _ _ _ _ _ _ [.int (Int32.ofInt 0)] _ _ _
        refine g_if_eq 16 29 (gd rfl) rfl rfl (fun c13 => ?_) (fun c13 => ?_)
        · skip
          exact gg_w (by omega) (gg_f (gf_cons rfl (gf_cons rfl (gf_cons rfl (gf_cons rfl (gf_cons rfl gf_nil))))) (ct29 s  hI fr_rf ))
        · skip
          exact zn_ne c13 (in_c 0 rfl) rfl
      · skip
        exact zn_ne c10x5 (in_c 0 rfl) rfl
    · skip
      have i10x2x1 := z_ge 0 2147483647 c10x2x1 (i_rng x1) rfl
      refine g_iload_n 5 (gd rfl) rfl rfl ?_
      refine g_aload_n 6 (gd rfl) rfl rfl ?_
      refine g_getI 9 (gd rfl) rfl rfl rfl (fun z10x2x6 e10x2x6 => ?_)
      have q10x2x6 : u_32_1 = z10x2x6 := (e_32_1).trans e10x2x6.symm
      subst q10x2x6
      refine g_cmp_ge 12 16 (gd rfl) rfl rfl (fun c10x2x9 => ?_) (fun c10x2x9 => ?_)
      · skip
        refine g_iconst 0 17 (gd rfl) rfl rfl ?_
        refine g_ireturn (gd rfl) rfl (nb01 (in_w 0 1 (in_c 0 rfl) rfl)) (hp10x2 _ _ ?_)
        show GG _ _ _ _ _ _ _ _ [.int (Int32.ofInt 0)] _ _ _
        refine g_if_eq 8 25 (gd rfl) rfl rfl (fun c10x5 => ?_) (fun c10x5 => ?_)
        · skip
          refine g_iconst 0 26 (gd rfl) rfl rfl ?_
          refine g_ireturn (gd rfl) rfl (nb01 (in_w 0 1 (in_c 0 rfl) rfl)) (hp10 _ _ ?_)
          show GG _ _ _ _ _ _ _ _ [.int (Int32.ofInt 0)] _ _ _
          refine g_if_eq 16 29 (gd rfl) rfl rfl (fun c13 => ?_) (fun c13 => ?_)
          · skip
            exact gg_w (by omega) (gg_f (gf_cons rfl (gf_cons rfl (gf_cons rfl (gf_cons rfl (gf_cons rfl gf_nil))))) (ct29 s  hI fr_rf ))
          · skip
            exact zn_ne c13 (in_c 0 rfl) rfl
        · skip
          exact zn_ne c10x5 (in_c 0 rfl) rfl
      · skip
        have i10x2x9 := r_lt1 0 31 c10x2x9 i10x2x1 ro_32_1 rfl
        have i10x2x9a := r_lt2 1 32 c10x2x9 i10x2x1 ro_32_1 rfl
        refine g_iconst 1 13 (gd rfl) rfl rfl ?_
        refine g_goto 17 (gd rfl) rfl ?_
        refine g_ireturn (gd rfl) rfl (nb01 (in_w 0 1 (in_c 1 rfl) rfl)) (hp10x2 _ _ ?_)
        show GG _ _ _ _ _ _ _ _ [.int (Int32.ofInt 1)] _ _ _
        refine g_if_eq 8 25 (gd rfl) rfl rfl (fun c10x5 => ?_) (fun c10x5 => ?_)
        · skip
          exact zn_eq c10x5 (in_c 1 rfl) rfl
        · skip
          refine g_aload_n 9 (gd rfl) rfl rfl ?_
          refine g_iload_n 10 (gd rfl) rfl rfl ?_
          refine g_callv (X := _) (As := [.int x2]) (r := []) (b := A 32) (q := 32) 13 (gd rfl) rfl rfl rfl rfl rfl (ww_o rfl) (Nat.le_of_ble_eq_true rfl) (mc := 0) (ms := 0) (Nat.zero_le _) (Nat.zero_le _) (P := fun v u => _) ?_ (fun e u h => h) (fun v u h => h)
          intro po10x10 xx10x10 hp10x10 hx10x10
          refine g_enter2 (k := 94) (N := 300) (by omega) rfl (Nat.le_of_ble_eq_true rfl) ?_
          refine g_iload_n 1 (gd rfl) rfl rfl ?_
          refine g_if_lt 4 16 (gd rfl) rfl rfl (fun c10x10x1 => ?_) (fun c10x10x1 => ?_)
          · skip
            have i10x10x1 := z_lt (-2147483648) (-1) c10x10x1 (i_rng x2) rfl
            refine g_iconst 0 17 (gd rfl) rfl rfl ?_
            refine g_ireturn (gd rfl) rfl (nb01 (in_w 0 1 (in_c 0 rfl) rfl)) (hp10x10 _ _ ?_)
            show GG _ _ _ _ _ _ _ _ [.int (Int32.ofInt 0)] _ _ _
            refine g_if_eq 16 25 (gd rfl) rfl rfl (fun c10x13 => ?_) (fun c10x13 => ?_)
            · skip
              refine g_iconst 0 26 (gd rfl) rfl rfl ?_
              refine g_ireturn (gd rfl) rfl (nb01 (in_w 0 1 (in_c 0 rfl) rfl)) (hp10 _ _ ?_)
              show GG _ _ _ _ _ _ _ _ [.int (Int32.ofInt 0)] _ _ _
              refine g_if_eq 16 29 (gd rfl) rfl rfl (fun c13 => ?_) (fun c13 => ?_)
              · skip
                exact gg_w (by omega) (gg_f (gf_cons rfl (gf_cons rfl (gf_cons rfl (gf_cons rfl (gf_cons rfl gf_nil))))) (ct29 s  hI fr_rf ))
              · skip
                exact zn_ne c13 (in_c 0 rfl) rfl
            · skip
              exact zn_ne c10x13 (in_c 0 rfl) rfl
          · skip
            have i10x10x1 := z_ge 0 2147483647 c10x10x1 (i_rng x2) rfl
            refine g_iload_n 5 (gd rfl) rfl rfl ?_
            refine g_aload_n 6 (gd rfl) rfl rfl ?_
            refine g_getI 9 (gd rfl) rfl rfl rfl (fun z10x10x6 e10x10x6 => ?_)
            have q10x10x6 : u_32_1 = z10x10x6 := (e_32_1).trans e10x10x6.symm
            subst q10x10x6
            refine g_cmp_ge 12 16 (gd rfl) rfl rfl (fun c10x10x9 => ?_) (fun c10x10x9 => ?_)
            · skip
              have i10x10x9 := r_le2 1 2147483647 c10x10x9 i10x2x9a i10x10x1 rfl
              refine g_iconst 0 17 (gd rfl) rfl rfl ?_
              refine g_ireturn (gd rfl) rfl (nb01 (in_w 0 1 (in_c 0 rfl) rfl)) (hp10x10 _ _ ?_)
              show GG _ _ _ _ _ _ _ _ [.int (Int32.ofInt 0)] _ _ _
              refine g_if_eq 16 25 (gd rfl) rfl rfl (fun c10x13 => ?_) (fun c10x13 => ?_)
              · skip
                refine g_iconst 0 26 (gd rfl) rfl rfl ?_
                refine g_ireturn (gd rfl) rfl (nb01 (in_w 0 1 (in_c 0 rfl) rfl)) (hp10 _ _ ?_)
                show GG _ _ _ _ _ _ _ _ [.int (Int32.ofInt 0)] _ _ _
                refine g_if_eq 16 29 (gd rfl) rfl rfl (fun c13 => ?_) (fun c13 => ?_)
                · skip
                  exact gg_w (by omega) (gg_f (gf_cons rfl (gf_cons rfl (gf_cons rfl (gf_cons rfl (gf_cons rfl gf_nil))))) (ct29 s  hI fr_rf ))
                · skip
                  exact zn_ne c13 (in_c 0 rfl) rfl
              · skip
                exact zn_ne c10x13 (in_c 0 rfl) rfl
            · skip
              have i10x10x9 := r_lt1 0 31 c10x10x9 i10x10x1 i10x2x9a rfl
              refine g_iconst 1 13 (gd rfl) rfl rfl ?_
              refine g_goto 17 (gd rfl) rfl ?_
              refine g_ireturn (gd rfl) rfl (nb01 (in_w 0 1 (in_c 1 rfl) rfl)) (hp10x10 _ _ ?_)
              show GG _ _ _ _ _ _ _ _ [.int (Int32.ofInt 1)] _ _ _
              refine g_if_eq 16 25 (gd rfl) rfl rfl (fun c10x13 => ?_) (fun c10x13 => ?_)
              · skip
                exact zn_eq c10x13 (in_c 1 rfl) rfl
              · skip
                refine g_iload_n 17 (gd rfl) rfl rfl ?_
                refine g_iload_n 18 (gd rfl) rfl rfl ?_
                refine g_cmp_eq 21 25 (gd rfl) rfl rfl (fun c10x18 => ?_) (fun c10x18 => ?_)
                · skip
                  refine g_iconst 0 26 (gd rfl) rfl rfl ?_
                  refine g_ireturn (gd rfl) rfl (nb01 (in_w 0 1 (in_c 0 rfl) rfl)) (hp10 _ _ ?_)
                  show GG _ _ _ _ _ _ _ _ [.int (Int32.ofInt 0)] _ _ _
                  refine g_if_eq 16 29 (gd rfl) rfl rfl (fun c13 => ?_) (fun c13 => ?_)
                  · skip
                    exact gg_w (by omega) (gg_f (gf_cons rfl (gf_cons rfl (gf_cons rfl (gf_cons rfl (gf_cons rfl gf_nil))))) (ct29 s  hI fr_rf ))
                  · skip
                    exact zn_ne c13 (in_c 0 rfl) rfl
                · skip
                  refine g_iconst 1 22 (gd rfl) rfl rfl ?_
                  refine g_goto 26 (gd rfl) rfl ?_
                  refine g_ireturn (gd rfl) rfl (nb01 (in_w 0 1 (in_c 1 rfl) rfl)) (hp10 _ _ ?_)
                  show GG _ _ _ _ _ _ _ _ [.int (Int32.ofInt 1)] _ _ _
                  refine g_if_eq 16 29 (gd rfl) rfl rfl (fun c13 => ?_) (fun c13 => ?_)
                  · skip
                    exact zn_eq c13 (in_c 1 rfl) rfl
                  · skip
                    refine g_iload_n 17 (gd rfl) rfl rfl ?_
                    refine g_if_lt 20 29 (gd rfl) rfl rfl (fun c17 => ?_) (fun c17 => ?_)
                    · skip
                      have i17 := z_lt (-2147483648) (-1) c17 (i_rng x3) rfl
                      exact gg_w (by omega) (gg_f (gf_cons rfl (gf_cons rfl (gf_cons rfl (gf_cons rfl (gf_cons rfl gf_nil))))) (ct29 s  hI fr_rf ))
                    · skip
                      have i17 := z_ge 0 2147483647 c17 (i_rng x3) rfl
                      refine g_iload 22 (gd rfl) rfl rfl ?_
                      refine g_if_lt 25 29 (gd rfl) rfl rfl (fun c22 => ?_) (fun c22 => ?_)
                      · skip
                        have i22 := z_lt (-2147483648) (-1) c22 (i_rng x4) rfl
                        exact gg_w (by omega) (gg_f (gf_cons rfl (gf_cons rfl (gf_cons rfl (gf_cons rfl (gf_cons rfl gf_nil))))) (ct29 s  hI fr_rf ))
                      · skip
                        have i22 := z_ge 0 2147483647 c22 (i_rng x4) rfl
                        refine g_iconst 1 26 (gd rfl) rfl rfl ?_
                        refine g_goto 30 (gd rfl) rfl ?_
                        refine g_thr (E := am_IA) (y := yX11_allow) 33 (gd rfl) rfl rfl (Or.inl ⟨rfl, rfl, rfl⟩) (by omega) (Nat.le_of_ble_eq_true rfl) (Nat.le_of_ble_eq_true rfl) (Nat.le_of_ble_eq_true rfl) (fun c30 => ?_) (fun c30 => ?_)
                        · skip
                          refine g_aload_n 34 (gd rfl) rfl rfl ?_
                          refine g_getA (q2 := 49) 37 (gd rfl) rfl rfl rfl rfl ?_
                          refine g_aload 39 (gd rfl) rfl rfl ?_
                          refine g_iload_n 40 (gd rfl) rfl rfl ?_
                          refine g_iload_n 41 (gd rfl) rfl rfl ?_
                          refine g_iload_n 42 (gd rfl) rfl rfl ?_
                          refine g_iload 44 (gd rfl) rfl rfl ?_
                          refine g_callv (X := _) (As := [.ref (A 32), .int x1, .int x2, .int x3, .int x4]) (r := []) (b := A 49) (q := 49) 47 (gd rfl) rfl rfl rfl rfl rfl (ww_o rfl) (Nat.le_of_ble_eq_true rfl) (Nat.zero_le _) (Nat.zero_le _) (k_206_49_32 (by omega) hI (in_w 0 31 i10x2x9 rfl) (in_w 0 31 i10x10x9 rfl) (in_w 0 2147483647 i17 rfl) (in_w 0 2147483647 i22 rfl)) (fun e u h => h) (fun v u h => ?_)
                          obtain ⟨s44, hI44, hF44, z44, rfl, rfl, i44⟩ := h
                          show GG _ _ _ _ _ _ _ _ [.int z44] _ _ _
                          exact g_ireturn (gd rfl) rfl rfl (hP _ _ ⟨s44, hI44, (fr_tr rfl fr_rf hF44), z44, rfl, rfl, in_w (-2147483648) 2147483647 i44 rfl⟩)
                        · skip
                          exact zn_eq c30 (in_c 1 rfl) rfl
  · skip
    have i1x5 := r_eq1 (-1) (-1) c1x5 ro_0_2 (in_c (-1) rfl) rfl
    refine g_aload_n 9 (gd rfl) rfl rfl ?_
    refine g_getA (q2 := 1) 12 (gd rfl) rfl rfl rfl rfl ?_
    refine g_getA (q2 := 2) 15 (gd rfl) rfl rfl rfl rfl ?_
    refine g_goto 22 (gd rfl) rfl ?_
    refine g_areturn (gd rfl) rfl (hp1 _ _ ?_)
    show GG _ _ _ _ _ _ _ _ [.ref (A 2)] _ _ _
    refine g_astore 6 (gd rfl) rfl (Nat.le_of_ble_eq_true rfl) ?_
    refine g_aload 8 (gd rfl) rfl rfl ?_
    refine g_iload_n 9 (gd rfl) rfl rfl ?_
    refine g_iload_n 10 (gd rfl) rfl rfl ?_
    refine g_callv (X := _) (As := [.int x1, .int x2]) (r := []) (b := A 2) (q := 2) 13 (gd rfl) rfl rfl rfl rfl rfl (ww_o rfl) (Nat.le_of_ble_eq_true rfl) (mc := 0) (ms := 0) (Nat.zero_le _) (Nat.zero_le _) (P := fun v u => _) ?_ (fun e u h => h) (fun v u h => h)
    intro po10 xx10 hp10 hx10
    refine g_enter2 (k := 95) (N := 300) (by omega) rfl (Nat.le_of_ble_eq_true rfl) ?_
    refine g_aload_n 1 (gd rfl) rfl rfl ?_
    refine g_iload_n 2 (gd rfl) rfl rfl ?_
    refine g_callv (X := _) (As := [.int x1]) (r := []) (b := A 2) (q := 2) 5 (gd rfl) rfl rfl rfl rfl rfl (ww_o rfl) (Nat.le_of_ble_eq_true rfl) (mc := 0) (ms := 0) (Nat.zero_le _) (Nat.zero_le _) (P := fun v u => _) ?_ (fun e u h => h) (fun v u h => h)
    intro po10x2 xx10x2 hp10x2 hx10x2
    refine g_enter2 (k := 94) (N := 300) (by omega) rfl (Nat.le_of_ble_eq_true rfl) ?_
    refine g_iload_n 1 (gd rfl) rfl rfl ?_
    refine g_if_lt 4 16 (gd rfl) rfl rfl (fun c10x2x1 => ?_) (fun c10x2x1 => ?_)
    · skip
      have i10x2x1 := z_lt (-2147483648) (-1) c10x2x1 (i_rng x1) rfl
      refine g_iconst 0 17 (gd rfl) rfl rfl ?_
      refine g_ireturn (gd rfl) rfl (nb01 (in_w 0 1 (in_c 0 rfl) rfl)) (hp10x2 _ _ ?_)
      show GG _ _ _ _ _ _ _ _ [.int (Int32.ofInt 0)] _ _ _
      refine g_if_eq 8 25 (gd rfl) rfl rfl (fun c10x5 => ?_) (fun c10x5 => ?_)
      · skip
        refine g_iconst 0 26 (gd rfl) rfl rfl ?_
        refine g_ireturn (gd rfl) rfl (nb01 (in_w 0 1 (in_c 0 rfl) rfl)) (hp10 _ _ ?_)
        show GG _ _ _ _ _ _ _ _ [.int (Int32.ofInt 0)] _ _ _
        refine g_if_eq 16 29 (gd rfl) rfl rfl (fun c13 => ?_) (fun c13 => ?_)
        · skip
          exact gg_w (by omega) (gg_f (gf_cons rfl (gf_cons rfl (gf_cons rfl (gf_cons rfl (gf_cons rfl gf_nil))))) (ct29 s  hI fr_rf ))
        · skip
          exact zn_ne c13 (in_c 0 rfl) rfl
      · skip
        exact zn_ne c10x5 (in_c 0 rfl) rfl
    · skip
      have i10x2x1 := z_ge 0 2147483647 c10x2x1 (i_rng x1) rfl
      refine g_iload_n 5 (gd rfl) rfl rfl ?_
      refine g_aload_n 6 (gd rfl) rfl rfl ?_
      refine g_getI 9 (gd rfl) rfl rfl rfl (fun z10x2x6 e10x2x6 => ?_)
      have q10x2x6 : u_2_1 = z10x2x6 := (e_2_1).trans e10x2x6.symm
      subst q10x2x6
      refine g_cmp_ge 12 16 (gd rfl) rfl rfl (fun c10x2x9 => ?_) (fun c10x2x9 => ?_)
      · skip
        refine g_iconst 0 17 (gd rfl) rfl rfl ?_
        refine g_ireturn (gd rfl) rfl (nb01 (in_w 0 1 (in_c 0 rfl) rfl)) (hp10x2 _ _ ?_)
        show GG _ _ _ _ _ _ _ _ [.int (Int32.ofInt 0)] _ _ _
        refine g_if_eq 8 25 (gd rfl) rfl rfl (fun c10x5 => ?_) (fun c10x5 => ?_)
        · skip
          refine g_iconst 0 26 (gd rfl) rfl rfl ?_
          refine g_ireturn (gd rfl) rfl (nb01 (in_w 0 1 (in_c 0 rfl) rfl)) (hp10 _ _ ?_)
          show GG _ _ _ _ _ _ _ _ [.int (Int32.ofInt 0)] _ _ _
          refine g_if_eq 16 29 (gd rfl) rfl rfl (fun c13 => ?_) (fun c13 => ?_)
          · skip
            exact gg_w (by omega) (gg_f (gf_cons rfl (gf_cons rfl (gf_cons rfl (gf_cons rfl (gf_cons rfl gf_nil))))) (ct29 s  hI fr_rf ))
          · skip
            exact zn_ne c13 (in_c 0 rfl) rfl
        · skip
          exact zn_ne c10x5 (in_c 0 rfl) rfl
      · skip
        have i10x2x9 := r_lt1 0 31 c10x2x9 i10x2x1 ro_2_1 rfl
        have i10x2x9a := r_lt2 1 32 c10x2x9 i10x2x1 ro_2_1 rfl
        refine g_iconst 1 13 (gd rfl) rfl rfl ?_
        refine g_goto 17 (gd rfl) rfl ?_
        refine g_ireturn (gd rfl) rfl (nb01 (in_w 0 1 (in_c 1 rfl) rfl)) (hp10x2 _ _ ?_)
        show GG _ _ _ _ _ _ _ _ [.int (Int32.ofInt 1)] _ _ _
        refine g_if_eq 8 25 (gd rfl) rfl rfl (fun c10x5 => ?_) (fun c10x5 => ?_)
        · skip
          exact zn_eq c10x5 (in_c 1 rfl) rfl
        · skip
          refine g_aload_n 9 (gd rfl) rfl rfl ?_
          refine g_iload_n 10 (gd rfl) rfl rfl ?_
          refine g_callv (X := _) (As := [.int x2]) (r := []) (b := A 2) (q := 2) 13 (gd rfl) rfl rfl rfl rfl rfl (ww_o rfl) (Nat.le_of_ble_eq_true rfl) (mc := 0) (ms := 0) (Nat.zero_le _) (Nat.zero_le _) (P := fun v u => _) ?_ (fun e u h => h) (fun v u h => h)
          intro po10x10 xx10x10 hp10x10 hx10x10
          refine g_enter2 (k := 94) (N := 300) (by omega) rfl (Nat.le_of_ble_eq_true rfl) ?_
          refine g_iload_n 1 (gd rfl) rfl rfl ?_
          refine g_if_lt 4 16 (gd rfl) rfl rfl (fun c10x10x1 => ?_) (fun c10x10x1 => ?_)
          · skip
            have i10x10x1 := z_lt (-2147483648) (-1) c10x10x1 (i_rng x2) rfl
            refine g_iconst 0 17 (gd rfl) rfl rfl ?_
            refine g_ireturn (gd rfl) rfl (nb01 (in_w 0 1 (in_c 0 rfl) rfl)) (hp10x10 _ _ ?_)
            show GG _ _ _ _ _ _ _ _ [.int (Int32.ofInt 0)] _ _ _
            refine g_if_eq 16 25 (gd rfl) rfl rfl (fun c10x13 => ?_) (fun c10x13 => ?_)
            · skip
              refine g_iconst 0 26 (gd rfl) rfl rfl ?_
              refine g_ireturn (gd rfl) rfl (nb01 (in_w 0 1 (in_c 0 rfl) rfl)) (hp10 _ _ ?_)
              show GG _ _ _ _ _ _ _ _ [.int (Int32.ofInt 0)] _ _ _
              refine g_if_eq 16 29 (gd rfl) rfl rfl (fun c13 => ?_) (fun c13 => ?_)
              · skip
                exact gg_w (by omega) (gg_f (gf_cons rfl (gf_cons rfl (gf_cons rfl (gf_cons rfl (gf_cons rfl gf_nil))))) (ct29 s  hI fr_rf ))
              · skip
                exact zn_ne c13 (in_c 0 rfl) rfl
            · skip
              exact zn_ne c10x13 (in_c 0 rfl) rfl
          · skip
            have i10x10x1 := z_ge 0 2147483647 c10x10x1 (i_rng x2) rfl
            refine g_iload_n 5 (gd rfl) rfl rfl ?_
            refine g_aload_n 6 (gd rfl) rfl rfl ?_
            refine g_getI 9 (gd rfl) rfl rfl rfl (fun z10x10x6 e10x10x6 => ?_)
            have q10x10x6 : u_2_1 = z10x10x6 := (e_2_1).trans e10x10x6.symm
            subst q10x10x6
            refine g_cmp_ge 12 16 (gd rfl) rfl rfl (fun c10x10x9 => ?_) (fun c10x10x9 => ?_)
            · skip
              have i10x10x9 := r_le2 1 2147483647 c10x10x9 i10x2x9a i10x10x1 rfl
              refine g_iconst 0 17 (gd rfl) rfl rfl ?_
              refine g_ireturn (gd rfl) rfl (nb01 (in_w 0 1 (in_c 0 rfl) rfl)) (hp10x10 _ _ ?_)
              show GG _ _ _ _ _ _ _ _ [.int (Int32.ofInt 0)] _ _ _
              refine g_if_eq 16 25 (gd rfl) rfl rfl (fun c10x13 => ?_) (fun c10x13 => ?_)
              · skip
                refine g_iconst 0 26 (gd rfl) rfl rfl ?_
                refine g_ireturn (gd rfl) rfl (nb01 (in_w 0 1 (in_c 0 rfl) rfl)) (hp10 _ _ ?_)
                show GG _ _ _ _ _ _ _ _ [.int (Int32.ofInt 0)] _ _ _
                refine g_if_eq 16 29 (gd rfl) rfl rfl (fun c13 => ?_) (fun c13 => ?_)
                · skip
                  exact gg_w (by omega) (gg_f (gf_cons rfl (gf_cons rfl (gf_cons rfl (gf_cons rfl (gf_cons rfl gf_nil))))) (ct29 s  hI fr_rf ))
                · skip
                  exact zn_ne c13 (in_c 0 rfl) rfl
              · skip
                exact zn_ne c10x13 (in_c 0 rfl) rfl
            · skip
              have i10x10x9 := r_lt1 0 31 c10x10x9 i10x10x1 i10x2x9a rfl
              refine g_iconst 1 13 (gd rfl) rfl rfl ?_
              refine g_goto 17 (gd rfl) rfl ?_
              refine g_ireturn (gd rfl) rfl (nb01 (in_w 0 1 (in_c 1 rfl) rfl)) (hp10x10 _ _ ?_)
              show GG _ _ _ _ _ _ _ _ [.int (Int32.ofInt 1)] _ _ _
              refine g_if_eq 16 25 (gd rfl) rfl rfl (fun c10x13 => ?_) (fun c10x13 => ?_)
              · skip
                exact zn_eq c10x13 (in_c 1 rfl) rfl
              · skip
                refine g_iload_n 17 (gd rfl) rfl rfl ?_
                refine g_iload_n 18 (gd rfl) rfl rfl ?_
                refine g_cmp_eq 21 25 (gd rfl) rfl rfl (fun c10x18 => ?_) (fun c10x18 => ?_)
                · skip
                  refine g_iconst 0 26 (gd rfl) rfl rfl ?_
                  refine g_ireturn (gd rfl) rfl (nb01 (in_w 0 1 (in_c 0 rfl) rfl)) (hp10 _ _ ?_)
                  show GG _ _ _ _ _ _ _ _ [.int (Int32.ofInt 0)] _ _ _
                  refine g_if_eq 16 29 (gd rfl) rfl rfl (fun c13 => ?_) (fun c13 => ?_)
                  · skip
                    exact gg_w (by omega) (gg_f (gf_cons rfl (gf_cons rfl (gf_cons rfl (gf_cons rfl (gf_cons rfl gf_nil))))) (ct29 s  hI fr_rf ))
                  · skip
                    exact zn_ne c13 (in_c 0 rfl) rfl
                · skip
                  refine g_iconst 1 22 (gd rfl) rfl rfl ?_
                  refine g_goto 26 (gd rfl) rfl ?_
                  refine g_ireturn (gd rfl) rfl (nb01 (in_w 0 1 (in_c 1 rfl) rfl)) (hp10 _ _ ?_)
                  show GG _ _ _ _ _ _ _ _ [.int (Int32.ofInt 1)] _ _ _
                  refine g_if_eq 16 29 (gd rfl) rfl rfl (fun c13 => ?_) (fun c13 => ?_)
                  · skip
                    exact zn_eq c13 (in_c 1 rfl) rfl
                  · skip
                    refine g_iload_n 17 (gd rfl) rfl rfl ?_
                    refine g_if_lt 20 29 (gd rfl) rfl rfl (fun c17 => ?_) (fun c17 => ?_)
                    · skip
                      have i17 := z_lt (-2147483648) (-1) c17 (i_rng x3) rfl
                      exact gg_w (by omega) (gg_f (gf_cons rfl (gf_cons rfl (gf_cons rfl (gf_cons rfl (gf_cons rfl gf_nil))))) (ct29 s  hI fr_rf ))
                    · skip
                      have i17 := z_ge 0 2147483647 c17 (i_rng x3) rfl
                      refine g_iload 22 (gd rfl) rfl rfl ?_
                      refine g_if_lt 25 29 (gd rfl) rfl rfl (fun c22 => ?_) (fun c22 => ?_)
                      · skip
                        have i22 := z_lt (-2147483648) (-1) c22 (i_rng x4) rfl
                        exact gg_w (by omega) (gg_f (gf_cons rfl (gf_cons rfl (gf_cons rfl (gf_cons rfl (gf_cons rfl gf_nil))))) (ct29 s  hI fr_rf ))
                      · skip
                        have i22 := z_ge 0 2147483647 c22 (i_rng x4) rfl
                        refine g_iconst 1 26 (gd rfl) rfl rfl ?_
                        refine g_goto 30 (gd rfl) rfl ?_
                        refine g_thr (E := am_IA) (y := yX11_allow) 33 (gd rfl) rfl rfl (Or.inl ⟨rfl, rfl, rfl⟩) (by omega) (Nat.le_of_ble_eq_true rfl) (Nat.le_of_ble_eq_true rfl) (Nat.le_of_ble_eq_true rfl) (fun c30 => ?_) (fun c30 => ?_)
                        · skip
                          refine g_aload_n 34 (gd rfl) rfl rfl ?_
                          refine g_getA (q2 := 49) 37 (gd rfl) rfl rfl rfl rfl ?_
                          refine g_aload 39 (gd rfl) rfl rfl ?_
                          refine g_iload_n 40 (gd rfl) rfl rfl ?_
                          refine g_iload_n 41 (gd rfl) rfl rfl ?_
                          refine g_iload_n 42 (gd rfl) rfl rfl ?_
                          refine g_iload 44 (gd rfl) rfl rfl ?_
                          refine g_callv (X := _) (As := [.ref (A 2), .int x1, .int x2, .int x3, .int x4]) (r := []) (b := A 49) (q := 49) 47 (gd rfl) rfl rfl rfl rfl rfl (ww_o rfl) (Nat.le_of_ble_eq_true rfl) (Nat.zero_le _) (Nat.zero_le _) (k_206_49_2 (by omega) hI (in_w 0 31 i10x2x9 rfl) (in_w 0 31 i10x10x9 rfl) (in_w 0 2147483647 i17 rfl) (in_w 0 2147483647 i22 rfl)) (fun e u h => h) (fun v u h => ?_)
                          obtain ⟨s44, hI44, hF44, z44, rfl, rfl, i44⟩ := h
                          show GG _ _ _ _ _ _ _ _ [.int z44] _ _ _
                          exact g_ireturn (gd rfl) rfl rfl (hP _ _ ⟨s44, hI44, (fr_tr rfl fr_rf hF44), z44, rfl, rfl, in_w (-2147483648) 2147483647 i44 rfl⟩)
                        · skip
                          exact zn_eq c30 (in_c 1 rfl) rfl

def fm_251_0 : FM := ([9, 10, 11, 12, 13, 14, 15, 39, 40, 41, 42, 43, 44, 45, 89, 90, 91, 92, 93], [], [(2, 4), (32, 4), (86, 4), (86, 5)], [])
/-- GraphHouse.gain -/
theorem k_251_0 {Z : AmZ} {A : Nat → Nat} {s : GS} {ex : va_W} {d : Nat} {X : AmX}  (hd : 8 ≤ d) (hI : Inv s)  : GC Z d 251 [.ref (A 0)] (WW Z A s ++ ex) 3 18 (fun v u => ∃ t : GS, Inv t ∧ Fr fm_251_0 s t ∧ ∃ z : Int64, v = some (.long z) ∧ u = WW Z A t ++ ex) X := by
  intro post xp hP hX
  obtain ⟨u_0_2, e_0_2⟩ : ∃ w, w = s.2.2.1 0 2 := ⟨_, rfl⟩
  have ro_0_2 := inv_F hI (-1) 4000 rfl e_0_2
  refine g_enter2 (k := 251) (N := 900) (by omega) rfl (Nat.le_of_ble_eq_true rfl) ?_
  refine g_aload_n 1 (gd rfl) rfl rfl ?_
  refine g_getA (q2 := 86) 4 (gd rfl) rfl rfl rfl rfl ?_
  refine g_aload_n 5 (gd rfl) rfl rfl ?_
  refine g_callv (X := _) (As := []) (r := [.ref (A 86)]) (b := A 0) (q := 0) 8 (gd rfl) rfl rfl rfl rfl rfl (ww_o rfl) (Nat.le_of_ble_eq_true rfl) (mc := 0) (ms := 0) (Nat.zero_le _) (Nat.zero_le _) (P := fun v u => _) ?_ (fun e u h => h) (fun v u h => h)
  intro po5 xx5 hp5 hx5
  refine g_enter2 (k := 259) (N := 300) (by omega) rfl (Nat.le_of_ble_eq_true rfl) ?_
  refine g_aload_n 1 (gd rfl) rfl rfl ?_
  refine g_getI 4 (gd rfl) rfl rfl rfl (fun z5x1 e5x1 => ?_)
  have q5x1 : u_0_2 = z5x1 := (e_0_2).trans e5x1.symm
  subst q5x1
  refine g_iconst (-1) 5 (gd rfl) rfl rfl ?_
  refine g_cmp_ne 8 18 (gd rfl) rfl rfl (fun c5x5 => ?_) (fun c5x5 => ?_)
  · skip
    have i5x5 := r_ne1 0 4000 c5x5 ro_0_2 (in_c (-1) rfl) rfl
    refine g_aload_n 19 (gd rfl) rfl rfl ?_
    refine g_getA (q2 := 32) 22 (gd rfl) rfl rfl rfl rfl ?_
    refine g_areturn (gd rfl) rfl (hp5 _ _ ?_)
    show GG _ _ _ _ _ _ _ _ [.ref (A 32), .ref (A 86)] _ _ _
    refine g_callv (X := _) (As := [.ref (A 32)]) (r := []) (b := A 86) (q := 86) 11 (gd rfl) rfl rfl rfl rfl rfl (ww_o rfl) (Nat.le_of_ble_eq_true rfl) (Nat.zero_le _) (Nat.zero_le _) (k_112_86_32 (by omega) hI ) (fun e u h => h) (fun v u h => ?_)
    obtain ⟨s8, hI8, hF8, z8, rfl, rfl⟩ := h
    show GG _ _ _ _ _ _ _ _ [.long z8] _ _ _
    exact g_lreturn (gd rfl) rfl (hP _ _ ⟨s8, hI8, (fr_tr rfl fr_rf hF8), z8, rfl, rfl⟩)
  · skip
    have i5x5 := r_eq1 (-1) (-1) c5x5 ro_0_2 (in_c (-1) rfl) rfl
    refine g_aload_n 9 (gd rfl) rfl rfl ?_
    refine g_getA (q2 := 1) 12 (gd rfl) rfl rfl rfl rfl ?_
    refine g_getA (q2 := 2) 15 (gd rfl) rfl rfl rfl rfl ?_
    refine g_goto 22 (gd rfl) rfl ?_
    refine g_areturn (gd rfl) rfl (hp5 _ _ ?_)
    show GG _ _ _ _ _ _ _ _ [.ref (A 2), .ref (A 86)] _ _ _
    refine g_callv (X := _) (As := [.ref (A 2)]) (r := []) (b := A 86) (q := 86) 11 (gd rfl) rfl rfl rfl rfl rfl (ww_o rfl) (Nat.le_of_ble_eq_true rfl) (Nat.zero_le _) (Nat.zero_le _) (k_112_86_2 (by omega) hI ) (fun e u h => h) (fun v u h => ?_)
    obtain ⟨s8, hI8, hF8, z8, rfl, rfl⟩ := h
    show GG _ _ _ _ _ _ _ _ [.long z8] _ _ _
    exact g_lreturn (gd rfl) rfl (hP _ _ ⟨s8, hI8, (fr_tr rfl fr_rf hF8), z8, rfl, rfl⟩)

def fm_44_60_2 : FM := ([9, 10, 11, 12, 13, 14, 15, 61, 62, 63, 64], [], [(2, 4), (60, 0), (60, 1), (60, 3), (60, 7)], [])
/-- GraphHouse$Colours.makeColours -/
theorem k_44_60_2 {Z : AmZ} {A : Nat → Nat} {s : GS} {ex : va_W} {d : Nat} {X : AmX}  (hd : 383 ≤ d) (hI : Inv s)  : GC Z d 44 [.ref (A 60), .ref (A 2)] (WW Z A s ++ ex) 0 0 (fun v u => ∃ t : GS, Inv t ∧ Fr fm_44_60_2 s t ∧ v = none ∧ u = WW Z A t ++ ex) X := by
  intro post xp hP hX
  obtain ⟨u_2_0, e_2_0⟩ : ∃ w, w = s.2.2.1 2 0 := ⟨_, rfl⟩
  have ro_2_0 := inv_F hI 0 4000 rfl e_2_0
  obtain ⟨u_2_1, e_2_1⟩ : ∃ w, w = s.2.2.1 2 1 := ⟨_, rfl⟩
  have ro_2_1 := inv_F hI 0 32 rfl e_2_1
  have ct75 : ∀ (k75 : Nat) (sc75 : GS) (y75_2 : Int32) (y75_3 : Int32), Inv sc75 → Fr fm_44_60_2 s sc75 → (In y75_2 0 32) → (In y75_3 0 32) → ((y75_2).toInt ≤ (y75_3).toInt) → (0 ≤ (y75_2).toInt) → 32 - (y75_3).toInt < (k75 : Int) → GG Z (d - 1) 44 post (gx xp) (1 + k75 * 900) 75 (fun j => xlook j [(0, .ref (A 60)), (1, .ref (A 2)), (2, .int y75_2), (3, .int y75_3)]) [] (WW Z A sc75 ++ ex) 0 0 := by
    intro k75
    induction k75 with
    | zero => intro sc75 y75_2 y75_3 hIc75 hFc75 j75_2 j75_3 n75_0 n75_1 mm75; exact m_no mm75 j75_3 rfl
    | succ k75 ih75 =>
      intro sc75 y75_2 y75_3 hIc75 hFc75 j75_2 j75_3 n75_0 n75_1 mm75
      refine gg_w (M := 1 + k75 * 900 + 900) (by omega) ?_
      refine g_iload_n 76 (gd rfl) rfl rfl ?_
      refine g_aload_n 77 (gd rfl) rfl rfl ?_
      refine g_getI 80 (gd rfl) rfl rfl rfl (fun z77 e77 => ?_)
      have q77 : u_2_1 = z77 := (fr_F e_2_1 hFc75 rfl).trans e77.symm
      subst q77
      refine g_cmp_ge 83 115 (gd rfl) rfl rfl (fun c80 => ?_) (fun c80 => ?_)
      · skip
        exact g_return (gd rfl) rfl (hP _ _ ⟨sc75, hIc75, hFc75, rfl, rfl⟩)
      · skip
        have i80 := r_lt1 0 31 c80 j75_3 ro_2_1 rfl
        have i80a := r_lt2 1 32 c80 j75_3 ro_2_1 rfl
        refine g_aload_n 84 (gd rfl) rfl rfl ?_
        refine g_getA (q2 := 64) 87 (gd rfl) rfl rfl rfl rfl ?_
        refine g_iload_n 88 (gd rfl) rfl rfl ?_
        have i88 : In y75_2 0 31 := by exact ⟨by have a0 := i80a; unfold In at a0; have a1 := ro_2_0; unfold In at a1; have a2 := i80; unfold In at a2; have a3 := j75_2; unfold In at a3; omega, by have a0 := i80a; unfold In at a0; have a1 := ro_2_0; unfold In at a1; have a2 := i80; unfold In at a2; have a3 := j75_2; unfold In at a3; omega⟩
        refine g_aload_n 89 (gd rfl) rfl rfl ?_
        refine g_aload_n 90 (gd rfl) rfl rfl ?_
        refine g_iload_n 91 (gd rfl) rfl rfl ?_
        refine g_iload_n 92 (gd rfl) rfl rfl ?_
        refine g_callv (X := _) (As := [.ref (A 2), .int y75_3, .int y75_2]) (r := [.int y75_3, .ref (A 64)]) (b := A 60) (q := 60) 95 (gd rfl) rfl rfl rfl rfl rfl (ww_o rfl) (Nat.le_of_ble_eq_true rfl) (Nat.zero_le _) (Nat.zero_le _) (k_53_60_2 (by omega) hIc75 (in_w 0 31 i80 rfl) (in_w 0 31 i88 rfl)) (fun e u h => h) (fun v u h => ?_)
        obtain ⟨s92, hI92, hF92, z92, rfl, rfl, i92, p92⟩ := h
        show GG _ _ _ _ _ _ _ _ [.int z92, .int y75_3, .ref (A 64)] _ _ _
        refine g_iastore 96 (gd rfl) rfl (n := 32) rfl (in_ix i80 rfl) ?_
        have hI95 := inv_sI (q := 64) (j := y75_3.toNatClampNeg) hI92 rfl (in_w 0 31 i92 rfl)
        refine g_iload_n 97 (gd rfl) rfl rfl ?_
        refine g_aload_n 98 (gd rfl) rfl rfl ?_
        refine g_getA (q2 := 64) 101 (gd rfl) rfl rfl rfl rfl ?_
        refine g_iload_n 102 (gd rfl) rfl rfl ?_
        refine g_iaload 103 (gd rfl) rfl (n := 32) rfl (in_ix i80 rfl) (fun z102 e102 => ?_)
        have q102 : z92 = z102 := (sI_get).trans e102.symm
        subst q102
        refine g_iconst 1 104 (gd rfl) rfl rfl ?_
        refine g_iadd 105 (gd rfl) rfl (fun z104 e104 => ?_)
        have i104 := in_add 1 32 e104 i92 (in_c 1 rfl) rfl rfl
        refine g_calls (As := [.int y75_2, .int z104]) (r := []) 108 (gd rfl) rfl rfl rfl rfl rfl (Nat.le_of_ble_eq_true rfl) (mc := 0) (ms := 0) (Nat.zero_le _) (Nat.zero_le _) (P := fun v u => _) ?_ (fun v u h => h)
        intro po105 xx105 hp105 hx105
        refine g_enter2 (k := 422) (N := 300) (by omega) rfl (Nat.le_of_ble_eq_true rfl) ?_
        refine g_iload_n 1 (gd rfl) rfl rfl ?_
        refine g_iload_n 2 (gd rfl) rfl rfl ?_
        refine g_cmp_lt 5 9 (gd rfl) rfl rfl (fun c105x2 => ?_) (fun c105x2 => ?_)
        · skip
          refine g_iload_n 10 (gd rfl) rfl rfl ?_
          refine g_ireturn (gd rfl) rfl rfl (hp105 _ _ ?_)
          show GG _ _ _ _ _ _ _ _ [.int z104] _ _ _
          refine g_istore_n 109 (gd rfl) rfl (Nat.le_of_ble_eq_true rfl) ?_
          refine g_iinc 112 (gd rfl) rfl rfl (Nat.le_of_ble_eq_true rfl) (fun z109 e109 => ?_)
          have i109 := in_add 1 32 e109 i80 (in_c 1 rfl) rfl rfl
          refine g_goto 75 (gd rfl) rfl ?_
          have n75 : (z104).toInt ≤ (z109).toInt := by have a0 := i80a; unfold In at a0; have a1 := ro_2_0; unfold In at a1; have a2 := i80; unfold In at a2; have a3 := i88; unfold In at a3; have a4 := i109; unfold In at a4; have a5 := t_add e109 i80 (in_c 1 rfl) rfl; have a6 := (in_c 1 rfl); unfold In at a6; have a7 := i104; unfold In at a7; have a8 := t_add e104 i92 (in_c 1 rfl) rfl; have a9 := i92; unfold In at a9; omega
          have n75a : 0 ≤ (z104).toInt := by have a0 := i80a; unfold In at a0; have a1 := ro_2_0; unfold In at a1; have a2 := i80; unfold In at a2; have a3 := i88; unfold In at a3; have a4 := i109; unfold In at a4; have a5 := t_add e109 i80 (in_c 1 rfl) rfl; have a6 := (in_c 1 rfl); unfold In at a6; have a7 := i104; unfold In at a7; have a8 := t_add e104 i92 (in_c 1 rfl) rfl; have a9 := i92; unfold In at a9; omega
          exact gg_w (by omega) (gg_f (gf_cons rfl (gf_cons rfl (gf_cons rfl (gf_cons rfl gf_nil)))) (ih75 (sI s92 64 y75_3.toNatClampNeg z92) z104 z109 hI95 (fr_sI rfl (fr_tr rfl hFc75 hF92)) (in_w 0 32 i104 rfl) (in_w 0 32 i109 rfl) n75 n75a (m_up mm75 (t_add e109 i80 (in_c 1 rfl) rfl) (in_w 1 1 (in_c 1 rfl) rfl))))
        · skip
          have i105x2 := r_le1 1 31 c105x2 i104 i88 rfl
          have i105x2a := r_le2 1 31 c105x2 i104 i88 rfl
          refine g_iload_n 6 (gd rfl) rfl rfl ?_
          refine g_goto 10 (gd rfl) rfl ?_
          refine g_ireturn (gd rfl) rfl rfl (hp105 _ _ ?_)
          show GG _ _ _ _ _ _ _ _ [.int y75_2] _ _ _
          refine g_istore_n 109 (gd rfl) rfl (Nat.le_of_ble_eq_true rfl) ?_
          refine g_iinc 112 (gd rfl) rfl rfl (Nat.le_of_ble_eq_true rfl) (fun z109 e109 => ?_)
          have i109 := in_add 1 32 e109 i80 (in_c 1 rfl) rfl rfl
          refine g_goto 75 (gd rfl) rfl ?_
          have n75 : (y75_2).toInt ≤ (z109).toInt := by have a0 := i80a; unfold In at a0; have a1 := ro_2_0; unfold In at a1; have a2 := i80; unfold In at a2; have a3 := i105x2a; unfold In at a3; have a4 := i109; unfold In at a4; have a5 := t_add e109 i80 (in_c 1 rfl) rfl; have a6 := (in_c 1 rfl); unfold In at a6; have a7 := i105x2; unfold In at a7; have a8 := t_add e104 i92 (in_c 1 rfl) rfl; have a9 := i92; unfold In at a9; omega
          have n75a : 0 ≤ (y75_2).toInt := by have a0 := i80a; unfold In at a0; have a1 := ro_2_0; unfold In at a1; have a2 := i80; unfold In at a2; have a3 := i105x2a; unfold In at a3; have a4 := i109; unfold In at a4; have a5 := t_add e109 i80 (in_c 1 rfl) rfl; have a6 := (in_c 1 rfl); unfold In at a6; have a7 := i105x2; unfold In at a7; have a8 := t_add e104 i92 (in_c 1 rfl) rfl; have a9 := i92; unfold In at a9; omega
          exact gg_w (by omega) (gg_f (gf_cons rfl (gf_cons rfl (gf_cons rfl (gf_cons rfl gf_nil)))) (ih75 (sI s92 64 y75_3.toNatClampNeg z92) y75_2 z109 hI95 (fr_sI rfl (fr_tr rfl hFc75 hF92)) (in_w 0 32 i105x2a rfl) (in_w 0 32 i109 rfl) n75 n75a (m_up mm75 (t_add e109 i80 (in_c 1 rfl) rfl) (in_w 1 1 (in_c 1 rfl) rfl))))
  have ct33 : ∀ (k33 : Nat) (sc33 : GS) (w33_60_3 : Int32), Inv sc33 → Fr fm_44_60_2 s sc33 → (w33_60_3 = sc33.2.2.1 60 3) → 33 - (w33_60_3).toInt < (k33 : Int) → GG Z (d - 1) 44 post (gx xp) (29702 + k33 * 900) 33 (fun j => xlook j [(0, .ref (A 60)), (1, .ref (A 2))]) [] (WW Z A sc33 ++ ex) 0 0 := by
    intro k33
    induction k33 with
    | zero => intro sc33 w33_60_3 hIc33 hFc33 v33_60_3 mm33; exfalso; have a0 := ro_2_1; unfold In at a0; have a1 := ro_2_0; unfold In at a1; have a2 := (inv_F hIc33 0 32 rfl v33_60_3); unfold In at a2; omega
    | succ k33 ih33 =>
      intro sc33 w33_60_3 hIc33 hFc33 v33_60_3 mm33
      refine gg_w (M := 29702 + k33 * 900 + 900) (by omega) ?_
      refine g_aload_n 34 (gd rfl) rfl rfl ?_
      refine g_getI 37 (gd rfl) rfl rfl rfl (fun z34 e34 => ?_)
      have q34 : w33_60_3 = z34 := (v33_60_3).trans e34.symm
      subst q34
      refine g_bipush 32 39 (gd rfl) rfl rfl ?_
      refine g_cmp_ge 42 71 (gd rfl) rfl rfl (fun c39 => ?_) (fun c39 => ?_)
      · skip
        have i39 := r_le2 32 32 c39 (in_c 32 rfl) (inv_F hIc33 0 32 rfl v33_60_3) rfl
        refine g_iconst 0 72 (gd rfl) rfl rfl ?_
        refine g_istore_n 73 (gd rfl) rfl (Nat.le_of_ble_eq_true rfl) ?_
        refine g_iconst 0 74 (gd rfl) rfl rfl ?_
        refine g_istore_n 75 (gd rfl) rfl (Nat.le_of_ble_eq_true rfl) ?_
        have n75 : ((Int32.ofInt 0)).toInt ≤ ((Int32.ofInt 0)).toInt := by have a0 := ro_2_1; unfold In at a0; have a1 := ro_2_0; unfold In at a1; have a2 := i39; unfold In at a2; have a3 := (in_c 0 rfl); unfold In at a3; omega
        have n75a : 0 ≤ ((Int32.ofInt 0)).toInt := by have a0 := ro_2_1; unfold In at a0; have a1 := ro_2_0; unfold In at a1; have a2 := i39; unfold In at a2; have a3 := (in_c 0 rfl); unfold In at a3; omega
        exact gg_w (by omega) (gg_f (gf_cons rfl (gf_cons rfl (gf_cons rfl (gf_cons rfl gf_nil)))) (ct75 33 sc33 (Int32.ofInt 0) (Int32.ofInt 0) hIc33 hFc33 (in_w 0 32 (in_c 0 rfl) rfl) (in_w 0 32 (in_c 0 rfl) rfl) n75 n75a (m_in 33 (in_w 0 32 (in_c 0 rfl) rfl) rfl)))
      · skip
        have i39 := r_lt1 0 31 c39 (inv_F hIc33 0 32 rfl v33_60_3) (in_c 32 rfl) rfl
        refine g_aload_n 43 (gd rfl) rfl rfl ?_
        refine g_aload_n 44 (gd rfl) rfl rfl ?_
        refine g_getA (q2 := 9) 47 (gd rfl) rfl rfl rfl rfl ?_
        refine g_aload_n 48 (gd rfl) rfl rfl ?_
        refine g_callv (X := _) (As := []) (r := [.ref (A 9), .ref (A 60)]) (b := A 2) (q := 2) 51 (gd rfl) rfl rfl rfl rfl rfl (ww_o rfl) (Nat.le_of_ble_eq_true rfl) (mc := 0) (ms := 0) (Nat.zero_le _) (Nat.zero_le _) (P := fun v u => _) ?_ (fun e u h => h) (fun v u h => h)
        intro po48 xx48 hp48 hx48
        refine g_enter2 (k := 102) (N := 300) (by omega) rfl (Nat.le_of_ble_eq_true rfl) ?_
        refine g_aload_n 1 (gd rfl) rfl rfl ?_
        refine g_getI 4 (gd rfl) rfl rfl rfl (fun z48x1 e48x1 => ?_)
        have q48x1 : u_2_1 = z48x1 := (fr_F e_2_1 hFc33 rfl).trans e48x1.symm
        subst q48x1
        refine g_bipush 32 6 (gd rfl) rfl rfl ?_
        refine g_cmp_lt 9 13 (gd rfl) rfl rfl (fun c48x6 => ?_) (fun c48x6 => ?_)
        · skip
          have i48x6 := r_lt1 0 31 c48x6 ro_2_1 (in_c 32 rfl) rfl
          refine g_iconst 1 14 (gd rfl) rfl rfl ?_
          refine g_aload_n 15 (gd rfl) rfl rfl ?_
          refine g_getI 18 (gd rfl) rfl rfl rfl (fun z48x15 e48x15 => ?_)
          have q48x15 : u_2_1 = z48x15 := (fr_F e_2_1 hFc33 rfl).trans e48x15.symm
          subst q48x15
          refine g_ishl 19 (gd rfl) rfl (fun z48x18 e48x18 => ?_)
          refine g_iconst 1 20 (gd rfl) rfl rfl ?_
          refine g_isub 21 (gd rfl) rfl (fun z48x20 e48x20 => ?_)
          refine g_ireturn (gd rfl) rfl rfl (hp48 _ _ ?_)
          show GG _ _ _ _ _ _ _ _ [.int z48x20, .ref (A 9), .ref (A 60)] _ _ _
          refine g_iconst 0 52 (gd rfl) rfl rfl ?_
          refine g_callv (X := _) (As := [.ref (A 9), .int z48x20, .int (Int32.ofInt 0)]) (r := []) (b := A 60) (q := 60) 55 (gd rfl) rfl rfl rfl rfl rfl (ww_o rfl) (Nat.le_of_ble_eq_true rfl) (Nat.zero_le _) (Nat.zero_le _) (k_46_60_9 (by omega) hIc33 (in_w 0 33 (in_c 0 rfl) rfl)) (fun e u h => h) (fun v u h => ?_)
          obtain ⟨s52, hI52, hF52, z52, rfl, rfl, i52⟩ := h
          show GG _ _ _ _ _ _ _ _ [.int z52] _ _ _
          refine g_if_ne 58 71 (gd rfl) rfl rfl (fun c55 => ?_) (fun c55 => ?_)
          · skip
            have i55 := z_ne 1 1 c55 i52 rfl
            refine g_iconst 0 72 (gd rfl) rfl rfl ?_
            refine g_istore_n 73 (gd rfl) rfl (Nat.le_of_ble_eq_true rfl) ?_
            refine g_iconst 0 74 (gd rfl) rfl rfl ?_
            refine g_istore_n 75 (gd rfl) rfl (Nat.le_of_ble_eq_true rfl) ?_
            have n75 : ((Int32.ofInt 0)).toInt ≤ ((Int32.ofInt 0)).toInt := by have a0 := i48x6; unfold In at a0; have a1 := ro_2_0; unfold In at a1; have a2 := i39; unfold In at a2; have a3 := (in_c 0 rfl); unfold In at a3; omega
            have n75a : 0 ≤ ((Int32.ofInt 0)).toInt := by have a0 := i48x6; unfold In at a0; have a1 := ro_2_0; unfold In at a1; have a2 := i39; unfold In at a2; have a3 := (in_c 0 rfl); unfold In at a3; omega
            exact gg_w (by omega) (gg_f (gf_cons rfl (gf_cons rfl (gf_cons rfl (gf_cons rfl gf_nil)))) (ct75 33 s52 (Int32.ofInt 0) (Int32.ofInt 0) hI52 (fr_tr rfl hFc33 hF52) (in_w 0 32 (in_c 0 rfl) rfl) (in_w 0 32 (in_c 0 rfl) rfl) n75 n75a (m_in 33 (in_w 0 32 (in_c 0 rfl) rfl) rfl)))
          · skip
            have i55 := z_eq 0 0 c55 i52 rfl
            refine g_aload_n 59 (gd rfl) rfl rfl ?_
            refine g_dup 60 (gd rfl) rfl rfl ?_
            refine g_getI 63 (gd rfl) rfl rfl rfl (fun z60 e60 => ?_)
            have q60 : w33_60_3 = z60 := (fr_F (v33_60_3) hF52 rfl).trans e60.symm
            subst q60
            refine g_iconst 1 64 (gd rfl) rfl rfl ?_
            refine g_iadd 65 (gd rfl) rfl (fun z64 e64 => ?_)
            have i64 := in_add 1 32 e64 i39 (in_c 1 rfl) rfl rfl
            refine g_putI 68 (gd rfl) rfl rfl rfl rfl ?_
            have hI65 := inv_sF (q := 60) (j := 3) hI52 rfl (in_w 0 32 i64 rfl)
            refine g_goto 33 (gd rfl) rfl ?_
            have v33 : z64 = (sF s52 60 3 z64).2.2.1 60 3 := sF_get
            have m33 : 33 - (z64).toInt < ((k33 : Nat) : Int) := by have a0 := i48x6; unfold In at a0; have a1 := ro_2_0; unfold In at a1; have a2 := i39; unfold In at a2; have a3 := i64; unfold In at a3; have a4 := t_add e64 i39 (in_c 1 rfl) rfl; have a5 := (in_c 1 rfl); unfold In at a5; omega
            exact gg_w (by omega) (gg_f (gf_cons rfl (gf_cons rfl gf_nil)) (ih33  (sF s52 60 3 z64) z64 hI65 (fr_sF rfl (fr_tr rfl hFc33 hF52)) v33 m33))
        · skip
          have i48x6 := r_le2 32 32 c48x6 (in_c 32 rfl) ro_2_1 rfl
          refine g_iconst (-1) 10 (gd rfl) rfl rfl ?_
          refine g_goto 21 (gd rfl) rfl ?_
          refine g_ireturn (gd rfl) rfl rfl (hp48 _ _ ?_)
          show GG _ _ _ _ _ _ _ _ [.int (Int32.ofInt (-1)), .ref (A 9), .ref (A 60)] _ _ _
          refine g_iconst 0 52 (gd rfl) rfl rfl ?_
          refine g_callv (X := _) (As := [.ref (A 9), .int (Int32.ofInt (-1)), .int (Int32.ofInt 0)]) (r := []) (b := A 60) (q := 60) 55 (gd rfl) rfl rfl rfl rfl rfl (ww_o rfl) (Nat.le_of_ble_eq_true rfl) (Nat.zero_le _) (Nat.zero_le _) (k_46_60_9 (by omega) hIc33 (in_w 0 33 (in_c 0 rfl) rfl)) (fun e u h => h) (fun v u h => ?_)
          obtain ⟨s52, hI52, hF52, z52, rfl, rfl, i52⟩ := h
          show GG _ _ _ _ _ _ _ _ [.int z52] _ _ _
          refine g_if_ne 58 71 (gd rfl) rfl rfl (fun c55 => ?_) (fun c55 => ?_)
          · skip
            have i55 := z_ne 1 1 c55 i52 rfl
            refine g_iconst 0 72 (gd rfl) rfl rfl ?_
            refine g_istore_n 73 (gd rfl) rfl (Nat.le_of_ble_eq_true rfl) ?_
            refine g_iconst 0 74 (gd rfl) rfl rfl ?_
            refine g_istore_n 75 (gd rfl) rfl (Nat.le_of_ble_eq_true rfl) ?_
            have n75 : ((Int32.ofInt 0)).toInt ≤ ((Int32.ofInt 0)).toInt := by have a0 := i48x6; unfold In at a0; have a1 := ro_2_0; unfold In at a1; have a2 := i39; unfold In at a2; have a3 := (in_c 0 rfl); unfold In at a3; omega
            have n75a : 0 ≤ ((Int32.ofInt 0)).toInt := by have a0 := i48x6; unfold In at a0; have a1 := ro_2_0; unfold In at a1; have a2 := i39; unfold In at a2; have a3 := (in_c 0 rfl); unfold In at a3; omega
            exact gg_w (by omega) (gg_f (gf_cons rfl (gf_cons rfl (gf_cons rfl (gf_cons rfl gf_nil)))) (ct75 33 s52 (Int32.ofInt 0) (Int32.ofInt 0) hI52 (fr_tr rfl hFc33 hF52) (in_w 0 32 (in_c 0 rfl) rfl) (in_w 0 32 (in_c 0 rfl) rfl) n75 n75a (m_in 33 (in_w 0 32 (in_c 0 rfl) rfl) rfl)))
          · skip
            have i55 := z_eq 0 0 c55 i52 rfl
            refine g_aload_n 59 (gd rfl) rfl rfl ?_
            refine g_dup 60 (gd rfl) rfl rfl ?_
            refine g_getI 63 (gd rfl) rfl rfl rfl (fun z60 e60 => ?_)
            have q60 : w33_60_3 = z60 := (fr_F (v33_60_3) hF52 rfl).trans e60.symm
            subst q60
            refine g_iconst 1 64 (gd rfl) rfl rfl ?_
            refine g_iadd 65 (gd rfl) rfl (fun z64 e64 => ?_)
            have i64 := in_add 1 32 e64 i39 (in_c 1 rfl) rfl rfl
            refine g_putI 68 (gd rfl) rfl rfl rfl rfl ?_
            have hI65 := inv_sF (q := 60) (j := 3) hI52 rfl (in_w 0 32 i64 rfl)
            refine g_goto 33 (gd rfl) rfl ?_
            have v33 : z64 = (sF s52 60 3 z64).2.2.1 60 3 := sF_get
            have m33 : 33 - (z64).toInt < ((k33 : Nat) : Int) := by have a0 := i48x6; unfold In at a0; have a1 := ro_2_0; unfold In at a1; have a2 := i39; unfold In at a2; have a3 := i64; unfold In at a3; have a4 := t_add e64 i39 (in_c 1 rfl) rfl; have a5 := (in_c 1 rfl); unfold In at a5; omega
            exact gg_w (by omega) (gg_f (gf_cons rfl (gf_cons rfl gf_nil)) (ih33  (sF s52 60 3 z64) z64 hI65 (fr_sF rfl (fr_tr rfl hFc33 hF52)) v33 m33))
  refine g_enter2 (k := 44) (N := 66602) (by omega) rfl (Nat.le_of_ble_eq_true rfl) ?_
  refine g_aload_n 1 (gd rfl) rfl rfl ?_
  refine g_callv (X := _) (As := []) (r := []) (b := A 2) (q := 2) 4 (gd rfl) rfl rfl rfl rfl rfl (ww_o rfl) (Nat.le_of_ble_eq_true rfl) (Nat.zero_le _) (Nat.zero_le _) (k_106_2 (by omega) hI ) (fun e u h => h) (fun v u h => ?_)
  obtain ⟨s1, hI1, hF1, n1, rfl, rfl⟩ := h
  obtain ⟨z1a, e1⟩ : ∃ w, w = s1.2.2.1 2 4 := ⟨_, rfl⟩
  have i1a := inv_F hI1 (-1) 4000 rfl e1
  rw [← (show z1a = s1.2.2.1 2 4 from e1)] at n1
  rw [← (show u_2_0 = s1.2.2.1 2 0 from fr_F (e_2_0) hF1 rfl)] at n1
  show GG _ _ _ _ _ _ _ _ [] _ _ _
  refine g_aload_n 5 (gd rfl) rfl rfl ?_
  refine g_iconst 1 6 (gd rfl) rfl rfl ?_
  refine g_aload_n 7 (gd rfl) rfl rfl ?_
  refine g_aload_n 8 (gd rfl) rfl rfl ?_
  refine g_callv (X := _) (As := [.ref (A 2)]) (r := [.int (Int32.ofInt 1), .ref (A 60)]) (b := A 60) (q := 60) 11 (gd rfl) rfl rfl rfl rfl rfl (ww_o rfl) (Nat.le_of_ble_eq_true rfl) (mc := 0) (ms := 0) (Nat.zero_le _) (Nat.zero_le _) (P := fun v u => _) ?_ (fun e u h => h) (fun v u h => h)
  intro po8 xx8 hp8 hx8
  refine g_enter2 (k := 41) (N := 300) (by omega) rfl (Nat.le_of_ble_eq_true rfl) ?_
  refine g_aload_n 1 (gd rfl) rfl rfl ?_
  refine g_getI 4 (gd rfl) rfl rfl rfl (fun z8x1 e8x1 => ?_)
  have i8x1 := inv_F hI1 (-1) 4000 rfl e8x1
  refine g_aload_n 5 (gd rfl) rfl rfl ?_
  refine g_getI 8 (gd rfl) rfl rfl rfl (fun z8x5 e8x5 => ?_)
  have q8x5 : u_2_0 = z8x5 := (fr_F (e_2_0) hF1 rfl).trans e8x5.symm
  subst q8x5
  refine g_cmp_eq 11 42 (gd rfl) rfl rfl (fun c8x8 => ?_) (fun c8x8 => ?_)
  · skip
    have i8x8 := r_eq1 0 4000 c8x8 i8x1 ro_2_0 rfl
    refine g_aload_n 43 (gd rfl) rfl rfl ?_
    refine g_getI 46 (gd rfl) rfl rfl rfl (fun z8x43 e8x43 => ?_)
    refine g_ireturn (gd rfl) rfl rfl (hp8 _ _ ?_)
    show GG _ _ _ _ _ _ _ _ [.int z8x43, .int (Int32.ofInt 1), .ref (A 60)] _ _ _
    refine g_calls (As := [.int z8x43]) (r := [.int (Int32.ofInt 1), .ref (A 60)]) 14 (gd rfl) rfl rfl rfl rfl rfl (Nat.le_of_ble_eq_true rfl) (Nat.zero_le _) (Nat.zero_le _) (k_414b (by omega) hI1 ) (fun v u h => ?_)
    obtain ⟨z11, rfl, rfl, i11⟩ := h
    show GG _ _ _ _ _ _ _ _ [.int z11, .int (Int32.ofInt 1), .ref (A 60)] _ _ _
    refine g_calls (As := [.int (Int32.ofInt 1), .int z11]) (r := [.ref (A 60)]) 17 (gd rfl) rfl rfl rfl rfl rfl (Nat.le_of_ble_eq_true rfl) (mc := 0) (ms := 0) (Nat.zero_le _) (Nat.zero_le _) (P := fun v u => _) ?_ (fun v u h => h)
    intro po14 xx14 hp14 hx14
    refine g_enter2 (k := 422) (N := 300) (by omega) rfl (Nat.le_of_ble_eq_true rfl) ?_
    refine g_iload_n 1 (gd rfl) rfl rfl ?_
    refine g_iload_n 2 (gd rfl) rfl rfl ?_
    refine g_cmp_lt 5 9 (gd rfl) rfl rfl (fun c14x2 => ?_) (fun c14x2 => ?_)
    · skip
      have i14x2 := r_lt2 2 32 c14x2 (in_c 1 rfl) i11 rfl
      refine g_iload_n 10 (gd rfl) rfl rfl ?_
      refine g_ireturn (gd rfl) rfl rfl (hp14 _ _ ?_)
      show GG _ _ _ _ _ _ _ _ [.int z11, .ref (A 60)] _ _ _
      refine g_putI 20 (gd rfl) rfl rfl rfl rfl ?_
      have hI17 := inv_sF (q := 60) (j := 3) hI1 rfl (in_w 0 32 i14x2 rfl)
      refine g_aload_n 21 (gd rfl) rfl rfl ?_
      refine g_iconst 0 22 (gd rfl) rfl rfl ?_
      refine g_putI 25 (gd rfl) rfl rfl rfl rfl ?_
      have hI22 := inv_sF (q := 60) (j := 7) hI17 rfl (in_w 0 32 (in_c 0 rfl) rfl)
      refine g_aload_n 26 (gd rfl) rfl rfl ?_
      refine g_getA (q2 := 61) 29 (gd rfl) rfl rfl rfl rfl ?_
      refine g_iconst 0 30 (gd rfl) rfl rfl ?_
      refine g_calls (As := [.ref (A 61), .int (Int32.ofInt 0)]) (r := []) 33 (gd rfl) rfl rfl rfl rfl rfl (Nat.le_of_ble_eq_true rfl) (Nat.zero_le _) (Nat.zero_le _) (k_fillI 61 (by omega) hI22 (in_c 0 rfl) (n := 32) rfl rfl rfl rfl) (fun v u h => ?_)
      obtain ⟨s30, hI30, hF30, rfl, rfl, fl30⟩ := h
      show GG _ _ _ _ _ _ _ _ [] _ _ _
      have v33 : z11 = s30.2.2.1 60 3 := fr_F (s := (sF (sF s1 60 3 z11) 60 7 (Int32.ofInt 0))) (sF_ne rfl (sF_get)) hF30 rfl
      have m33 : 33 - (z11).toInt < ((40 : Nat) : Int) := by have a0 := ro_2_1; unfold In at a0; have a1 := ro_2_0; unfold In at a1; have a2 := (in_c 0 rfl); unfold In at a2; have a3 := i14x2; unfold In at a3; have a4 := i8x8; unfold In at a4; have a5 := i1a; unfold In at a5; omega
      exact gg_w (by omega) (gg_f (gf_cons rfl (gf_cons rfl gf_nil)) (ct33 40 s30 z11 hI30 (fr_tr rfl (fr_sF rfl (fr_sF rfl (fr_tr rfl fr_rf hF1))) hF30) v33 m33))
    · skip
      have i14x2 := r_le1 0 1 c14x2 i11 (in_c 1 rfl) rfl
      refine g_iload_n 6 (gd rfl) rfl rfl ?_
      refine g_goto 10 (gd rfl) rfl ?_
      refine g_ireturn (gd rfl) rfl rfl (hp14 _ _ ?_)
      show GG _ _ _ _ _ _ _ _ [.int (Int32.ofInt 1), .ref (A 60)] _ _ _
      refine g_putI 20 (gd rfl) rfl rfl rfl rfl ?_
      have hI17 := inv_sF (q := 60) (j := 3) hI1 rfl (in_w 0 32 (in_c 1 rfl) rfl)
      refine g_aload_n 21 (gd rfl) rfl rfl ?_
      refine g_iconst 0 22 (gd rfl) rfl rfl ?_
      refine g_putI 25 (gd rfl) rfl rfl rfl rfl ?_
      have hI22 := inv_sF (q := 60) (j := 7) hI17 rfl (in_w 0 32 (in_c 0 rfl) rfl)
      refine g_aload_n 26 (gd rfl) rfl rfl ?_
      refine g_getA (q2 := 61) 29 (gd rfl) rfl rfl rfl rfl ?_
      refine g_iconst 0 30 (gd rfl) rfl rfl ?_
      refine g_calls (As := [.ref (A 61), .int (Int32.ofInt 0)]) (r := []) 33 (gd rfl) rfl rfl rfl rfl rfl (Nat.le_of_ble_eq_true rfl) (Nat.zero_le _) (Nat.zero_le _) (k_fillI 61 (by omega) hI22 (in_c 0 rfl) (n := 32) rfl rfl rfl rfl) (fun v u h => ?_)
      obtain ⟨s30, hI30, hF30, rfl, rfl, fl30⟩ := h
      show GG _ _ _ _ _ _ _ _ [] _ _ _
      have v33 : (Int32.ofInt 1) = s30.2.2.1 60 3 := fr_F (s := (sF (sF s1 60 3 (Int32.ofInt 1)) 60 7 (Int32.ofInt 0))) (sF_ne rfl (sF_get)) hF30 rfl
      have m33 : 33 - ((Int32.ofInt 1)).toInt < ((40 : Nat) : Int) := by have a0 := ro_2_1; unfold In at a0; have a1 := ro_2_0; unfold In at a1; have a2 := (in_c 0 rfl); unfold In at a2; have a3 := (in_c 1 rfl); unfold In at a3; have a4 := i8x8; unfold In at a4; have a5 := i1a; unfold In at a5; omega
      exact gg_w (by omega) (gg_f (gf_cons rfl (gf_cons rfl gf_nil)) (ct33 40 s30 (Int32.ofInt 1) hI30 (fr_tr rfl (fr_sF rfl (fr_sF rfl (fr_tr rfl fr_rf hF1))) hF30) v33 m33))
  · skip
    refine g_aload_n 12 (gd rfl) rfl rfl ?_
    refine g_aload_n 13 (gd rfl) rfl rfl ?_
    refine g_getI 16 (gd rfl) rfl rfl rfl (fun z8x13 e8x13 => ?_)
    have q8x13 : u_2_0 = z8x13 := (fr_F (e_2_0) hF1 rfl).trans e8x13.symm
    subst q8x13
    refine g_putI 19 (gd rfl) rfl rfl rfl rfl ?_
    have hI8x16 := inv_sF (q := 60) (j := 0) hI1 rfl (in_w (-1) 4000 ro_2_0 rfl)
    refine g_aload_n 20 (gd rfl) rfl rfl ?_
    refine g_callv (X := _) (As := []) (r := []) (b := A 2) (q := 2) 23 (gd rfl) rfl rfl rfl rfl rfl (ww_o rfl) (Nat.le_of_ble_eq_true rfl) (Nat.zero_le _) (Nat.zero_le _) (k_106_2 (by omega) hI8x16 ) (fun e u h => h) (fun v u h => ?_)
    obtain ⟨s8x20, hI8x20, hF8x20, n8x20, rfl, rfl⟩ := h
    obtain ⟨z8x20a, e8x20⟩ : ∃ w, w = s8x20.2.2.1 2 4 := ⟨_, rfl⟩
    have i8x20a := inv_F hI8x20 (-1) 4000 rfl e8x20
    rw [← (show z8x20a = s8x20.2.2.1 2 4 from e8x20)] at n8x20
    rw [← (show u_2_0 = s8x20.2.2.1 2 0 from fr_F (s := (sF s1 60 0 u_2_0)) (sF_ne rfl (fr_F (e_2_0) hF1 rfl)) hF8x20 rfl)] at n8x20
    show GG _ _ _ _ _ _ _ _ [] _ _ _
    refine g_aload_n 24 (gd rfl) rfl rfl ?_
    refine g_iconst 0 25 (gd rfl) rfl rfl ?_
    refine g_putI 28 (gd rfl) rfl rfl rfl rfl ?_
    have hI8x25 := inv_sF (q := 60) (j := 1) hI8x20 rfl (in_w (-2147483648) 2147483647 (in_c 0 rfl) rfl)
    refine g_aload_n 29 (gd rfl) rfl rfl ?_
    refine g_aload_n 30 (gd rfl) rfl rfl ?_
    refine g_getA (q2 := 9) 33 (gd rfl) rfl rfl rfl rfl ?_
    refine g_iconst 0 34 (gd rfl) rfl rfl ?_
    refine g_aload_n 35 (gd rfl) rfl rfl ?_
    refine g_callv (X := _) (As := []) (r := [.int (Int32.ofInt 0), .ref (A 9), .ref (A 60)]) (b := A 2) (q := 2) 38 (gd rfl) rfl rfl rfl rfl rfl (ww_o rfl) (Nat.le_of_ble_eq_true rfl) (mc := 0) (ms := 0) (Nat.zero_le _) (Nat.zero_le _) (P := fun v u => _) ?_ (fun e u h => h) (fun v u h => h)
    intro po8x35 xx8x35 hp8x35 hx8x35
    refine g_enter2 (k := 102) (N := 300) (by omega) rfl (Nat.le_of_ble_eq_true rfl) ?_
    refine g_aload_n 1 (gd rfl) rfl rfl ?_
    refine g_getI 4 (gd rfl) rfl rfl rfl (fun z8x35x1 e8x35x1 => ?_)
    have q8x35x1 : u_2_1 = z8x35x1 := (sF_ne rfl (fr_F (s := (sF s1 60 0 u_2_0)) (sF_ne rfl (fr_F (e_2_1) hF1 rfl)) hF8x20 rfl)).trans e8x35x1.symm
    subst q8x35x1
    refine g_bipush 32 6 (gd rfl) rfl rfl ?_
    refine g_cmp_lt 9 13 (gd rfl) rfl rfl (fun c8x35x6 => ?_) (fun c8x35x6 => ?_)
    · skip
      have i8x35x6 := r_lt1 0 31 c8x35x6 ro_2_1 (in_c 32 rfl) rfl
      refine g_iconst 1 14 (gd rfl) rfl rfl ?_
      refine g_aload_n 15 (gd rfl) rfl rfl ?_
      refine g_getI 18 (gd rfl) rfl rfl rfl (fun z8x35x15 e8x35x15 => ?_)
      have q8x35x15 : u_2_1 = z8x35x15 := (sF_ne rfl (fr_F (s := (sF s1 60 0 u_2_0)) (sF_ne rfl (fr_F (e_2_1) hF1 rfl)) hF8x20 rfl)).trans e8x35x15.symm
      subst q8x35x15
      refine g_ishl 19 (gd rfl) rfl (fun z8x35x18 e8x35x18 => ?_)
      refine g_iconst 1 20 (gd rfl) rfl rfl ?_
      refine g_isub 21 (gd rfl) rfl (fun z8x35x20 e8x35x20 => ?_)
      refine g_ireturn (gd rfl) rfl rfl (hp8x35 _ _ ?_)
      show GG _ _ _ _ _ _ _ _ [.int z8x35x20, .int (Int32.ofInt 0), .ref (A 9), .ref (A 60)] _ _ _
      refine g_iconst 0 39 (gd rfl) rfl rfl ?_
      refine g_callv (X := _) (As := [.ref (A 9), .int (Int32.ofInt 0), .int z8x35x20, .int (Int32.ofInt 0)]) (r := []) (b := A 60) (q := 60) 42 (gd rfl) rfl rfl rfl rfl rfl (ww_o rfl) (Nat.le_of_ble_eq_true rfl) (Nat.zero_le _) (Nat.zero_le _) (k_42_60_9 (by omega) hI8x25 (in_w 0 32 (in_c 0 rfl) rfl)) (fun e u h => h) (fun v u h => ?_)
      obtain ⟨s8x39, hI8x39, hF8x39, rfl, rfl⟩ := h
      show GG _ _ _ _ _ _ _ _ [] _ _ _
      refine g_aload_n 43 (gd rfl) rfl rfl ?_
      refine g_getI 46 (gd rfl) rfl rfl rfl (fun z8x43 e8x43 => ?_)
      refine g_ireturn (gd rfl) rfl rfl (hp8 _ _ ?_)
      show GG _ _ _ _ _ _ _ _ [.int z8x43, .int (Int32.ofInt 1), .ref (A 60)] _ _ _
      refine g_calls (As := [.int z8x43]) (r := [.int (Int32.ofInt 1), .ref (A 60)]) 14 (gd rfl) rfl rfl rfl rfl rfl (Nat.le_of_ble_eq_true rfl) (Nat.zero_le _) (Nat.zero_le _) (k_414b (by omega) hI8x39 ) (fun v u h => ?_)
      obtain ⟨z11, rfl, rfl, i11⟩ := h
      show GG _ _ _ _ _ _ _ _ [.int z11, .int (Int32.ofInt 1), .ref (A 60)] _ _ _
      refine g_calls (As := [.int (Int32.ofInt 1), .int z11]) (r := [.ref (A 60)]) 17 (gd rfl) rfl rfl rfl rfl rfl (Nat.le_of_ble_eq_true rfl) (mc := 0) (ms := 0) (Nat.zero_le _) (Nat.zero_le _) (P := fun v u => _) ?_ (fun v u h => h)
      intro po14 xx14 hp14 hx14
      refine g_enter2 (k := 422) (N := 300) (by omega) rfl (Nat.le_of_ble_eq_true rfl) ?_
      refine g_iload_n 1 (gd rfl) rfl rfl ?_
      refine g_iload_n 2 (gd rfl) rfl rfl ?_
      refine g_cmp_lt 5 9 (gd rfl) rfl rfl (fun c14x2 => ?_) (fun c14x2 => ?_)
      · skip
        have i14x2 := r_lt2 2 32 c14x2 (in_c 1 rfl) i11 rfl
        refine g_iload_n 10 (gd rfl) rfl rfl ?_
        refine g_ireturn (gd rfl) rfl rfl (hp14 _ _ ?_)
        show GG _ _ _ _ _ _ _ _ [.int z11, .ref (A 60)] _ _ _
        refine g_putI 20 (gd rfl) rfl rfl rfl rfl ?_
        have hI17 := inv_sF (q := 60) (j := 3) hI8x39 rfl (in_w 0 32 i14x2 rfl)
        refine g_aload_n 21 (gd rfl) rfl rfl ?_
        refine g_iconst 0 22 (gd rfl) rfl rfl ?_
        refine g_putI 25 (gd rfl) rfl rfl rfl rfl ?_
        have hI22 := inv_sF (q := 60) (j := 7) hI17 rfl (in_w 0 32 (in_c 0 rfl) rfl)
        refine g_aload_n 26 (gd rfl) rfl rfl ?_
        refine g_getA (q2 := 61) 29 (gd rfl) rfl rfl rfl rfl ?_
        refine g_iconst 0 30 (gd rfl) rfl rfl ?_
        refine g_calls (As := [.ref (A 61), .int (Int32.ofInt 0)]) (r := []) 33 (gd rfl) rfl rfl rfl rfl rfl (Nat.le_of_ble_eq_true rfl) (Nat.zero_le _) (Nat.zero_le _) (k_fillI 61 (by omega) hI22 (in_c 0 rfl) (n := 32) rfl rfl rfl rfl) (fun v u h => ?_)
        obtain ⟨s30, hI30, hF30, rfl, rfl, fl30⟩ := h
        show GG _ _ _ _ _ _ _ _ [] _ _ _
        have v33 : z11 = s30.2.2.1 60 3 := fr_F (s := (sF (sF s8x39 60 3 z11) 60 7 (Int32.ofInt 0))) (sF_ne rfl (sF_get)) hF30 rfl
        have m33 : 33 - (z11).toInt < ((40 : Nat) : Int) := by have a0 := i8x35x6; unfold In at a0; have a1 := ro_2_0; unfold In at a1; have a2 := (in_c 0 rfl); unfold In at a2; have a3 := i14x2; unfold In at a3; have a4 := i8x20a; unfold In at a4; omega
        exact gg_w (by omega) (gg_f (gf_cons rfl (gf_cons rfl gf_nil)) (ct33 40 s30 z11 hI30 (fr_tr rfl (fr_sF rfl (fr_sF rfl (fr_tr rfl (fr_sF rfl (fr_tr rfl (fr_sF rfl (fr_tr rfl fr_rf hF1)) hF8x20)) hF8x39))) hF30) v33 m33))
      · skip
        have i14x2 := r_le1 0 1 c14x2 i11 (in_c 1 rfl) rfl
        refine g_iload_n 6 (gd rfl) rfl rfl ?_
        refine g_goto 10 (gd rfl) rfl ?_
        refine g_ireturn (gd rfl) rfl rfl (hp14 _ _ ?_)
        show GG _ _ _ _ _ _ _ _ [.int (Int32.ofInt 1), .ref (A 60)] _ _ _
        refine g_putI 20 (gd rfl) rfl rfl rfl rfl ?_
        have hI17 := inv_sF (q := 60) (j := 3) hI8x39 rfl (in_w 0 32 (in_c 1 rfl) rfl)
        refine g_aload_n 21 (gd rfl) rfl rfl ?_
        refine g_iconst 0 22 (gd rfl) rfl rfl ?_
        refine g_putI 25 (gd rfl) rfl rfl rfl rfl ?_
        have hI22 := inv_sF (q := 60) (j := 7) hI17 rfl (in_w 0 32 (in_c 0 rfl) rfl)
        refine g_aload_n 26 (gd rfl) rfl rfl ?_
        refine g_getA (q2 := 61) 29 (gd rfl) rfl rfl rfl rfl ?_
        refine g_iconst 0 30 (gd rfl) rfl rfl ?_
        refine g_calls (As := [.ref (A 61), .int (Int32.ofInt 0)]) (r := []) 33 (gd rfl) rfl rfl rfl rfl rfl (Nat.le_of_ble_eq_true rfl) (Nat.zero_le _) (Nat.zero_le _) (k_fillI 61 (by omega) hI22 (in_c 0 rfl) (n := 32) rfl rfl rfl rfl) (fun v u h => ?_)
        obtain ⟨s30, hI30, hF30, rfl, rfl, fl30⟩ := h
        show GG _ _ _ _ _ _ _ _ [] _ _ _
        have v33 : (Int32.ofInt 1) = s30.2.2.1 60 3 := fr_F (s := (sF (sF s8x39 60 3 (Int32.ofInt 1)) 60 7 (Int32.ofInt 0))) (sF_ne rfl (sF_get)) hF30 rfl
        have m33 : 33 - ((Int32.ofInt 1)).toInt < ((40 : Nat) : Int) := by have a0 := i8x35x6; unfold In at a0; have a1 := ro_2_0; unfold In at a1; have a2 := (in_c 0 rfl); unfold In at a2; have a3 := (in_c 1 rfl); unfold In at a3; have a4 := i8x20a; unfold In at a4; omega
        exact gg_w (by omega) (gg_f (gf_cons rfl (gf_cons rfl gf_nil)) (ct33 40 s30 (Int32.ofInt 1) hI30 (fr_tr rfl (fr_sF rfl (fr_sF rfl (fr_tr rfl (fr_sF rfl (fr_tr rfl (fr_sF rfl (fr_tr rfl fr_rf hF1)) hF8x20)) hF8x39))) hF30) v33 m33))
    · skip
      have i8x35x6 := r_le2 32 32 c8x35x6 (in_c 32 rfl) ro_2_1 rfl
      refine g_iconst (-1) 10 (gd rfl) rfl rfl ?_
      refine g_goto 21 (gd rfl) rfl ?_
      refine g_ireturn (gd rfl) rfl rfl (hp8x35 _ _ ?_)
      show GG _ _ _ _ _ _ _ _ [.int (Int32.ofInt (-1)), .int (Int32.ofInt 0), .ref (A 9), .ref (A 60)] _ _ _
      refine g_iconst 0 39 (gd rfl) rfl rfl ?_
      refine g_callv (X := _) (As := [.ref (A 9), .int (Int32.ofInt 0), .int (Int32.ofInt (-1)), .int (Int32.ofInt 0)]) (r := []) (b := A 60) (q := 60) 42 (gd rfl) rfl rfl rfl rfl rfl (ww_o rfl) (Nat.le_of_ble_eq_true rfl) (Nat.zero_le _) (Nat.zero_le _) (k_42_60_9 (by omega) hI8x25 (in_w 0 32 (in_c 0 rfl) rfl)) (fun e u h => h) (fun v u h => ?_)
      obtain ⟨s8x39, hI8x39, hF8x39, rfl, rfl⟩ := h
      show GG _ _ _ _ _ _ _ _ [] _ _ _
      refine g_aload_n 43 (gd rfl) rfl rfl ?_
      refine g_getI 46 (gd rfl) rfl rfl rfl (fun z8x43 e8x43 => ?_)
      refine g_ireturn (gd rfl) rfl rfl (hp8 _ _ ?_)
      show GG _ _ _ _ _ _ _ _ [.int z8x43, .int (Int32.ofInt 1), .ref (A 60)] _ _ _
      refine g_calls (As := [.int z8x43]) (r := [.int (Int32.ofInt 1), .ref (A 60)]) 14 (gd rfl) rfl rfl rfl rfl rfl (Nat.le_of_ble_eq_true rfl) (Nat.zero_le _) (Nat.zero_le _) (k_414b (by omega) hI8x39 ) (fun v u h => ?_)
      obtain ⟨z11, rfl, rfl, i11⟩ := h
      show GG _ _ _ _ _ _ _ _ [.int z11, .int (Int32.ofInt 1), .ref (A 60)] _ _ _
      refine g_calls (As := [.int (Int32.ofInt 1), .int z11]) (r := [.ref (A 60)]) 17 (gd rfl) rfl rfl rfl rfl rfl (Nat.le_of_ble_eq_true rfl) (mc := 0) (ms := 0) (Nat.zero_le _) (Nat.zero_le _) (P := fun v u => _) ?_ (fun v u h => h)
      intro po14 xx14 hp14 hx14
      refine g_enter2 (k := 422) (N := 300) (by omega) rfl (Nat.le_of_ble_eq_true rfl) ?_
      refine g_iload_n 1 (gd rfl) rfl rfl ?_
      refine g_iload_n 2 (gd rfl) rfl rfl ?_
      refine g_cmp_lt 5 9 (gd rfl) rfl rfl (fun c14x2 => ?_) (fun c14x2 => ?_)
      · skip
        have i14x2 := r_lt2 2 32 c14x2 (in_c 1 rfl) i11 rfl
        refine g_iload_n 10 (gd rfl) rfl rfl ?_
        refine g_ireturn (gd rfl) rfl rfl (hp14 _ _ ?_)
        show GG _ _ _ _ _ _ _ _ [.int z11, .ref (A 60)] _ _ _
        refine g_putI 20 (gd rfl) rfl rfl rfl rfl ?_
        have hI17 := inv_sF (q := 60) (j := 3) hI8x39 rfl (in_w 0 32 i14x2 rfl)
        refine g_aload_n 21 (gd rfl) rfl rfl ?_
        refine g_iconst 0 22 (gd rfl) rfl rfl ?_
        refine g_putI 25 (gd rfl) rfl rfl rfl rfl ?_
        have hI22 := inv_sF (q := 60) (j := 7) hI17 rfl (in_w 0 32 (in_c 0 rfl) rfl)
        refine g_aload_n 26 (gd rfl) rfl rfl ?_
        refine g_getA (q2 := 61) 29 (gd rfl) rfl rfl rfl rfl ?_
        refine g_iconst 0 30 (gd rfl) rfl rfl ?_
        refine g_calls (As := [.ref (A 61), .int (Int32.ofInt 0)]) (r := []) 33 (gd rfl) rfl rfl rfl rfl rfl (Nat.le_of_ble_eq_true rfl) (Nat.zero_le _) (Nat.zero_le _) (k_fillI 61 (by omega) hI22 (in_c 0 rfl) (n := 32) rfl rfl rfl rfl) (fun v u h => ?_)
        obtain ⟨s30, hI30, hF30, rfl, rfl, fl30⟩ := h
        show GG _ _ _ _ _ _ _ _ [] _ _ _
        have v33 : z11 = s30.2.2.1 60 3 := fr_F (s := (sF (sF s8x39 60 3 z11) 60 7 (Int32.ofInt 0))) (sF_ne rfl (sF_get)) hF30 rfl
        have m33 : 33 - (z11).toInt < ((40 : Nat) : Int) := by have a0 := i8x35x6; unfold In at a0; have a1 := ro_2_0; unfold In at a1; have a2 := (in_c 0 rfl); unfold In at a2; have a3 := i14x2; unfold In at a3; have a4 := i8x20a; unfold In at a4; omega
        exact gg_w (by omega) (gg_f (gf_cons rfl (gf_cons rfl gf_nil)) (ct33 40 s30 z11 hI30 (fr_tr rfl (fr_sF rfl (fr_sF rfl (fr_tr rfl (fr_sF rfl (fr_tr rfl (fr_sF rfl (fr_tr rfl fr_rf hF1)) hF8x20)) hF8x39))) hF30) v33 m33))
      · skip
        have i14x2 := r_le1 0 1 c14x2 i11 (in_c 1 rfl) rfl
        refine g_iload_n 6 (gd rfl) rfl rfl ?_
        refine g_goto 10 (gd rfl) rfl ?_
        refine g_ireturn (gd rfl) rfl rfl (hp14 _ _ ?_)
        show GG _ _ _ _ _ _ _ _ [.int (Int32.ofInt 1), .ref (A 60)] _ _ _
        refine g_putI 20 (gd rfl) rfl rfl rfl rfl ?_
        have hI17 := inv_sF (q := 60) (j := 3) hI8x39 rfl (in_w 0 32 (in_c 1 rfl) rfl)
        refine g_aload_n 21 (gd rfl) rfl rfl ?_
        refine g_iconst 0 22 (gd rfl) rfl rfl ?_
        refine g_putI 25 (gd rfl) rfl rfl rfl rfl ?_
        have hI22 := inv_sF (q := 60) (j := 7) hI17 rfl (in_w 0 32 (in_c 0 rfl) rfl)
        refine g_aload_n 26 (gd rfl) rfl rfl ?_
        refine g_getA (q2 := 61) 29 (gd rfl) rfl rfl rfl rfl ?_
        refine g_iconst 0 30 (gd rfl) rfl rfl ?_
        refine g_calls (As := [.ref (A 61), .int (Int32.ofInt 0)]) (r := []) 33 (gd rfl) rfl rfl rfl rfl rfl (Nat.le_of_ble_eq_true rfl) (Nat.zero_le _) (Nat.zero_le _) (k_fillI 61 (by omega) hI22 (in_c 0 rfl) (n := 32) rfl rfl rfl rfl) (fun v u h => ?_)
        obtain ⟨s30, hI30, hF30, rfl, rfl, fl30⟩ := h
        show GG _ _ _ _ _ _ _ _ [] _ _ _
        have v33 : (Int32.ofInt 1) = s30.2.2.1 60 3 := fr_F (s := (sF (sF s8x39 60 3 (Int32.ofInt 1)) 60 7 (Int32.ofInt 0))) (sF_ne rfl (sF_get)) hF30 rfl
        have m33 : 33 - ((Int32.ofInt 1)).toInt < ((40 : Nat) : Int) := by have a0 := i8x35x6; unfold In at a0; have a1 := ro_2_0; unfold In at a1; have a2 := (in_c 0 rfl); unfold In at a2; have a3 := (in_c 1 rfl); unfold In at a3; have a4 := i8x20a; unfold In at a4; omega
        exact gg_w (by omega) (gg_f (gf_cons rfl (gf_cons rfl gf_nil)) (ct33 40 s30 (Int32.ofInt 1) hI30 (fr_tr rfl (fr_sF rfl (fr_sF rfl (fr_tr rfl (fr_sF rfl (fr_tr rfl (fr_sF rfl (fr_tr rfl fr_rf hF1)) hF8x20)) hF8x39))) hF30) v33 m33))
