/-! methods, by vc.py -/
def fm_389 : FM := ([132, 183], [], [(109, 0)], [])
/-- GraphHouseModel.fits -/
theorem k_389 {Z : AmZ} {A : Nat → Nat} {s : GS} {ex : va_W} {d : Nat} {X : AmX} {x1 : Int32} {x2 : Int32} (hd : 4 ≤ d) (hI : Inv s)  : GC Z d 389 [.ref (A 109), .int x1, .int x2] (WW Z A s ++ ex) 0 0 (fun v u => ∃ t : GS, Inv t ∧ Fr fm_389 s t ∧ ∃ z : Int32, v = some (.int z) ∧ u = WW Z A t ++ ex ∧ In z (-2147483648) 2147483647) X := by
  intro post xp hP hX
  obtain ⟨u_109_19, e_109_19⟩ : ∃ w, w = s.2.2.1 109 19 := ⟨_, rfl⟩
  have ro_109_19 := inv_F hI 0 160 rfl e_109_19
  obtain ⟨u_109_20, e_109_20⟩ : ∃ w, w = s.2.2.1 109 20 := ⟨_, rfl⟩
  have ro_109_20 := inv_F hI 0 32 rfl e_109_20
  obtain ⟨u_109_84, e_109_84⟩ : ∃ w, w = s.2.2.1 109 84 := ⟨_, rfl⟩
  have ro_109_84 := inv_F hI 0 1 rfl e_109_84
  have ct77 : ∀ (k77 : Nat) (sc77 : GS) (y77_3 : Int32) (y77_4 : Int32), Inv sc77 → Fr fm_389 s sc77 → (In x1 0 31) → (In x2 0 31) → (In y77_3 0 2000) → (In y77_4 0 2000) → ((y77_3).toInt ≤ (y77_4).toInt) → (QI sc77 (y77_4).toInt) → 2000 - (y77_3).toInt < (k77 : Int) → GG Z (d - 1) 389 post (gx xp) (1 + k77 * 363601) 77 (fun j => xlook j [(0, .ref (A 109)), (1, .int x1), (2, .int x2), (3, .int y77_3), (4, .int y77_4)]) [] (WW Z A sc77 ++ ex) 0 0 := by
    intro k77
    induction k77 with
    | zero => intro sc77 y77_3 y77_4 hIc77 hFc77 j77_1 j77_2 j77_3 j77_4 n77_0 g77_0 mm77; exfalso; have a0 := j77_2; unfold In at a0; have a1 := j77_1; unfold In at a1; have a2 := ro_109_84; unfold In at a2; have a3 := ro_109_20; unfold In at a3; have a4 := ro_109_19; unfold In at a4; have a5 := j77_4; unfold In at a5; have a6 := j77_3; unfold In at a6; omega
    | succ k77 ih77 =>
      intro sc77 y77_3 y77_4 hIc77 hFc77 j77_1 j77_2 j77_3 j77_4 n77_0 g77_0 mm77
      refine gg_w (M := 1 + k77 * 363601 + 363601) (by omega) ?_
      have ct189 : ∀ (k189 : Nat) (sc189 : GS) (y189_3 : Int32) (y189_4 : Int32) (y189_5 : Int32) (y189_6 : Int32) (y189_7 : Int32) (y189_8 : Int32) (y189_9 : Int64) (y189_11 : Int32), Inv sc189 → Fr fm_389 s sc189 → (In y189_3 1 2000) → (In y189_4 0 2000) → (In y189_5 0 1951) → (In y189_6 0 31) → (In y189_7 (-1) 59) → (In y189_8 0 1) → (In y189_11 0 400) → ((y189_3).toInt = y77_3.toInt + 1) → ((y189_3).toInt ≤ (y189_4).toInt) → (QI sc189 (y189_4).toInt) → (y189_5 = sc189.1 132 y77_3.toNatClampNeg) → 400 - (y189_11).toInt < (k189 : Int) → GG Z (d - 1) 389 post (gx xp) (1 + k77 * 363601 + 1 + k189 * 900) 189 (fun j => xlook j [(0, .ref (A 109)), (1, .int x1), (2, .int x2), (3, .int y189_3), (4, .int y189_4), (5, .int y189_5), (6, .int y189_6), (7, .int y189_7), (8, .int y189_8), (9, .long y189_9), (11, .int y189_11)]) [] (WW Z A sc189 ++ ex) 0 0 := by
        intro k189
        induction k189 with
        | zero => intro sc189 y189_3 y189_4 y189_5 y189_6 y189_7 y189_8 y189_9 y189_11 hIc189 hFc189 j189_3 j189_4 j189_5 j189_6 j189_7 j189_8 j189_11 n189_0 n189_1 g189_0 g189_1 mm189; exact m_no mm189 j189_11 rfl
        | succ k189 ih189 =>
          intro sc189 y189_3 y189_4 y189_5 y189_6 y189_7 y189_8 y189_9 y189_11 hIc189 hFc189 j189_3 j189_4 j189_5 j189_6 j189_7 j189_8 j189_11 n189_0 n189_1 g189_0 g189_1 mm189
          refine gg_w (M := 1 + k77 * 363601 + 1 + k189 * 900 + 900) (by omega) (g_iload 191 (gd rfl) rfl rfl (g_aload_n 192 (gd rfl) rfl rfl (g_getIv (y := u_109_19) 195 (gd rfl) rfl rfl rfl (fr_F e_109_19 hFc189 rfl) (g_sipush 160 198 (gd rfl) rfl rfl (g_iadd 199 (gd rfl) rfl (fun z198 e198 => have i198 := in_add 160 320 e198 ro_109_19 (in_c 160 rfl) rfl rfl; g_cmp_ge 202 251 (gd rfl) rfl rfl (fun c199 => ?_) (fun c199 => ?_)))))))
          · skip
            have i199 := r_le2 160 400 c199 i198 j189_11 rfl
            refine g_goto 77 (gd rfl) rfl ?_
            have n77 : (y189_3).toInt ≤ (y189_4).toInt := by exact (have a0 := in_u j77_2; have a1 := in_u j77_1; have a2 := in_u ro_109_84; have a3 := in_u ro_109_20; have a4 := in_u ro_109_19; have a5 := in_u i199; have a6 := in_u j189_8; have a7 := in_u j189_7; have a8 := in_u j189_6; have a9 := in_u j189_5; have a10 := in_u j189_4; have a11 := in_u j189_3; have a12 := in_u i198; have a13 := t_add e198 ro_109_19 (in_c 160 rfl) rfl; have a14 := in_u ((in_c 160 rfl)); by omega)
            have n77a : QI sc189 (y189_4).toInt := by first | exact g189_0 | (have hz : z74 = z65 := (by rw [e74, e65]); have hw : ((Int32.ofInt 1)).toInt = 0 + 1 := rfl; rw [hw]; exact qi_push (m := 0) (y := z65) (v := Int32.ofInt 0) (qi_0 sc32) rfl (by rw [sI_p rfl, sI_q]; rfl) (by rw [sI_q, sI_p rfl, hz]) i65 rfl (by rw [g32_0 z65.toNatClampNeg (by show ((z65.toInt.toNat : Nat) : Int) < _; exact (have a0 := in_u j77_2; have a1 := in_u j77_1; have a2 := in_u ro_109_84; have a3 := in_u ro_109_20; have a4 := in_u ro_109_19; have a5 := in_u i199; have a6 := in_u j189_8; have a7 := in_u j189_7; have a8 := in_u j189_6; have a9 := in_u j189_5; have a10 := in_u j189_4; have a11 := in_u j189_3; have a12 := in_u i198; have a13 := t_add e198 ro_109_19 (in_c 160 rfl) rfl; have a14 := in_u ((in_c 160 rfl)); by omega))]; decide) (by decide) (by decide))
            have m77 : 2000 - (y189_3).toInt < ((k77 : Nat) : Int) := by exact (have a0 := in_u j77_2; have a1 := in_u j77_1; have a2 := in_u ro_109_84; have a3 := in_u ro_109_20; have a4 := in_u ro_109_19; have a5 := in_u i199; have a6 := in_u j189_8; have a7 := in_u j189_7; have a8 := in_u j189_6; have a9 := in_u j189_5; have a10 := in_u j189_4; have a11 := in_u j189_3; have a12 := in_u i198; have a13 := t_add e198 ro_109_19 (in_c 160 rfl) rfl; have a14 := in_u ((in_c 160 rfl)); by omega)
            exact gg_w (by omega) (gg_f (gf_cons rfl (gf_cons rfl (gf_cons rfl (gf_cons rfl (gf_cons rfl gf_nil))))) (ih77  sc189 y189_3 y189_4 hIc189 hFc189 (in_w 0 31 j77_1 rfl) (in_w 0 31 j77_2 rfl) (in_w 0 2000 j189_3 rfl) (in_w 0 2000 j189_4 rfl) n77 n77a m77))
          · skip
            have i199 := r_lt1 0 319 c199 j189_11 i198 rfl
            refine g_aload_n 203 (gd rfl) rfl rfl (g_getA (q2 := 112) 206 (gd rfl) rfl rfl rfl rfl (g_iload 208 (gd rfl) rfl rfl (g_baload 209 (gd rfl) rfl (n := 480) rfl (in_ix i199 rfl) (fun z208 e208 => have i208 := inv_I hIc189 (n := 480) (t := 3) 0 1 rfl (in_ix i199 rfl) rfl e208; g_if_eq 212 245 (gd rfl) rfl rfl (fun c209 => ?_) (fun c209 => ?_)))))
            · skip
              have i209 := z_eq 0 0 c209 i208 rfl
              refine g_iinc 248 (gd rfl) rfl rfl (Nat.le_of_ble_eq_true rfl) (fun z245 e245 => have i245 := in_add 1 320 e245 i199 (in_c 1 rfl) rfl rfl; g_goto 189 (gd rfl) rfl ?_)
              have n189 : (y189_3).toInt = y77_3.toInt + 1 := by exact (have a0 := in_u j77_2; have a1 := in_u j77_1; have a2 := in_u ro_109_84; have a3 := in_u ro_109_20; have a4 := in_u ro_109_19; have a5 := in_u i199; have a6 := in_u j189_8; have a7 := in_u j189_7; have a8 := in_u j189_6; have a9 := in_u j189_5; have a10 := in_u j189_4; have a11 := in_u j189_3; have a12 := in_u i245; have a13 := t_add e245 i199 (in_c 1 rfl) rfl; have a14 := in_u ((in_c 1 rfl)); have a15 := in_u i198; have a16 := t_add e198 ro_109_19 (in_c 160 rfl) rfl; have a17 := in_u ((in_c 160 rfl)); by omega)
              have n189a : (y189_3).toInt ≤ (y189_4).toInt := by exact (have a0 := in_u j77_2; have a1 := in_u j77_1; have a2 := in_u ro_109_84; have a3 := in_u ro_109_20; have a4 := in_u ro_109_19; have a5 := in_u i199; have a6 := in_u j189_8; have a7 := in_u j189_7; have a8 := in_u j189_6; have a9 := in_u j189_5; have a10 := in_u j189_4; have a11 := in_u j189_3; have a12 := in_u i245; have a13 := t_add e245 i199 (in_c 1 rfl) rfl; have a14 := in_u ((in_c 1 rfl)); have a15 := in_u i198; have a16 := t_add e198 ro_109_19 (in_c 160 rfl) rfl; have a17 := in_u ((in_c 160 rfl)); by omega)
              have n189b : QI sc189 (y189_4).toInt := by first | exact g77_0 | exact g189_0 | exact p240b
              have n189c : y189_5 = sc189.1 132 y77_3.toNatClampNeg := by first | exact e88 | exact g189_1 | (rw [p240d _ (by show ((y77_3.toInt.toNat : Nat) : Int) < _; exact (have a0 := in_u j77_2; have a1 := in_u j77_1; have a2 := in_u ro_109_84; have a3 := in_u ro_109_20; have a4 := in_u ro_109_19; have a5 := in_u i199; have a6 := in_u j189_8; have a7 := in_u j189_7; have a8 := in_u j189_6; have a9 := in_u j189_5; have a10 := in_u j189_4; have a11 := in_u j189_3; have a12 := in_u i245; have a13 := t_add e245 i199 (in_c 1 rfl) rfl; have a14 := in_u ((in_c 1 rfl)); have a15 := in_u i198; have a16 := t_add e198 ro_109_19 (in_c 160 rfl) rfl; have a17 := in_u ((in_c 160 rfl)); by omega))]; exact g189_1)
              exact gg_w (by omega) (gg_f (gf_cons rfl (gf_cons rfl (gf_cons rfl (gf_cons rfl (gf_cons rfl (gf_cons rfl (gf_cons rfl (gf_cons rfl (gf_cons rfl (gf_cons rfl (gf_cons rfl gf_nil))))))))))) (ih189 sc189 y189_3 y189_4 y189_5 y189_6 y189_7 y189_8 y189_9 z245 hIc189 hFc189 (in_w 1 2000 j189_3 rfl) (in_w 0 2000 j189_4 rfl) (in_w 0 1951 j189_5 rfl) (in_w 0 31 j189_6 rfl) (in_w (-1) 59 j189_7 rfl) (in_w 0 1 j189_8 rfl) (in_w 0 400 i245 rfl) n189 n189a n189b n189c (m_up mm189 (t_add e245 i199 (in_c 1 rfl) rfl) (in_w 1 1 (in_c 1 rfl) rfl))))
            · skip
              have i209 := z_ne 1 1 c209 i208 rfl
              refine g_aload_n 213 (gd rfl) rfl rfl (g_getA (q2 := 113) 216 (gd rfl) rfl rfl rfl rfl (g_iload 218 (gd rfl) rfl rfl (g_iaload 219 (gd rfl) rfl (n := 480) rfl (in_ix i199 rfl) (fun z218 e218 => have i218 := inv_I hIc189 (n := 480) (t := 0) 0 31 rfl (in_ix i199 rfl) rfl e218; g_iload 221 (gd rfl) rfl rfl (g_cmp_ne 224 245 (gd rfl) rfl rfl (fun c221 => ?_) (fun c221 => ?_))))))
              · skip
                refine g_iinc 248 (gd rfl) rfl rfl (Nat.le_of_ble_eq_true rfl) (fun z245 e245 => have i245 := in_add 1 320 e245 i199 (in_c 1 rfl) rfl rfl; g_goto 189 (gd rfl) rfl ?_)
                have n189 : (y189_3).toInt = y77_3.toInt + 1 := by exact (have a0 := in_u j77_2; have a1 := in_u j77_1; have a2 := in_u ro_109_84; have a3 := in_u ro_109_20; have a4 := in_u ro_109_19; have a5 := in_u i199; have a6 := in_u j189_8; have a7 := in_u j189_7; have a8 := in_u j189_6; have a9 := in_u j189_5; have a10 := in_u j189_4; have a11 := in_u j189_3; have a12 := in_u i245; have a13 := t_add e245 i199 (in_c 1 rfl) rfl; have a14 := in_u ((in_c 1 rfl)); have a15 := in_u i198; have a16 := t_add e198 ro_109_19 (in_c 160 rfl) rfl; have a17 := in_u ((in_c 160 rfl)); by omega)
                have n189a : (y189_3).toInt ≤ (y189_4).toInt := by exact (have a0 := in_u j77_2; have a1 := in_u j77_1; have a2 := in_u ro_109_84; have a3 := in_u ro_109_20; have a4 := in_u ro_109_19; have a5 := in_u i199; have a6 := in_u j189_8; have a7 := in_u j189_7; have a8 := in_u j189_6; have a9 := in_u j189_5; have a10 := in_u j189_4; have a11 := in_u j189_3; have a12 := in_u i245; have a13 := t_add e245 i199 (in_c 1 rfl) rfl; have a14 := in_u ((in_c 1 rfl)); have a15 := in_u i198; have a16 := t_add e198 ro_109_19 (in_c 160 rfl) rfl; have a17 := in_u ((in_c 160 rfl)); by omega)
                have n189b : QI sc189 (y189_4).toInt := by first | exact g77_0 | exact g189_0 | exact p240b
                have n189c : y189_5 = sc189.1 132 y77_3.toNatClampNeg := by first | exact e88 | exact g189_1 | (rw [p240d _ (by show ((y77_3.toInt.toNat : Nat) : Int) < _; exact (have a0 := in_u j77_2; have a1 := in_u j77_1; have a2 := in_u ro_109_84; have a3 := in_u ro_109_20; have a4 := in_u ro_109_19; have a5 := in_u i199; have a6 := in_u j189_8; have a7 := in_u j189_7; have a8 := in_u j189_6; have a9 := in_u j189_5; have a10 := in_u j189_4; have a11 := in_u j189_3; have a12 := in_u i245; have a13 := t_add e245 i199 (in_c 1 rfl) rfl; have a14 := in_u ((in_c 1 rfl)); have a15 := in_u i198; have a16 := t_add e198 ro_109_19 (in_c 160 rfl) rfl; have a17 := in_u ((in_c 160 rfl)); by omega))]; exact g189_1)
                exact gg_w (by omega) (gg_f (gf_cons rfl (gf_cons rfl (gf_cons rfl (gf_cons rfl (gf_cons rfl (gf_cons rfl (gf_cons rfl (gf_cons rfl (gf_cons rfl (gf_cons rfl (gf_cons rfl gf_nil))))))))))) (ih189 sc189 y189_3 y189_4 y189_5 y189_6 y189_7 y189_8 y189_9 z245 hIc189 hFc189 (in_w 1 2000 j189_3 rfl) (in_w 0 2000 j189_4 rfl) (in_w 0 1951 j189_5 rfl) (in_w 0 31 j189_6 rfl) (in_w (-1) 59 j189_7 rfl) (in_w 0 1 j189_8 rfl) (in_w 0 400 i245 rfl) n189 n189a n189b n189c (m_up mm189 (t_add e245 i199 (in_c 1 rfl) rfl) (in_w 1 1 (in_c 1 rfl) rfl))))
              · skip
                refine g_aload_n 225 (gd rfl) rfl rfl (g_iload 227 (gd rfl) rfl rfl (g_lload 229 (gd rfl) rfl rfl (g_aload_n 230 (gd rfl) rfl rfl (g_getA (q2 := 183) 233 (gd rfl) rfl rfl rfl rfl (g_iload 235 (gd rfl) rfl rfl (g_iaload 236 (gd rfl) rfl (n := 2000) rfl (in_ix j189_5 rfl) (fun z235 e235 => ?_)))))))
                have i236 : In z235 0 1999 := by have h := g189_0.2.2 y77_3.toNatClampNeg (by show ((y77_3.toInt.toNat : Nat) : Int) < _; exact (have a0 := in_u j77_2; have a1 := in_u j77_1; have a2 := in_u ro_109_84; have a3 := in_u ro_109_20; have a4 := in_u ro_109_19; have a5 := in_u i199; have a6 := in_u j189_8; have a7 := in_u j189_7; have a8 := in_u j189_6; have a9 := in_u j189_5; have a10 := in_u j189_4; have a11 := in_u j189_3; have a12 := in_u i198; have a13 := t_add e198 ro_109_19 (in_c 160 rfl) rfl; have a14 := in_u ((in_c 160 rfl)); by omega)); rw [← g189_1, ← e235] at h; have h2 : ((y77_3.toNatClampNeg : Nat) : Int) = y77_3.toInt := (by show ((y77_3.toInt.toNat : Nat) : Int) = _; exact (have a0 := in_u j77_2; have a1 := in_u j77_1; have a2 := in_u ro_109_84; have a3 := in_u ro_109_20; have a4 := in_u ro_109_19; have a5 := in_u i199; have a6 := in_u j189_8; have a7 := in_u j189_7; have a8 := in_u j189_6; have a9 := in_u j189_5; have a10 := in_u j189_4; have a11 := in_u j189_3; have a12 := in_u i198; have a13 := t_add e198 ro_109_19 (in_c 160 rfl) rfl; have a14 := in_u ((in_c 160 rfl)); by omega)); exact ⟨h.1, by exact (have a0 := in_u j77_2; have a1 := in_u j77_1; have a2 := in_u ro_109_84; have a3 := in_u ro_109_20; have a4 := in_u ro_109_19; have a5 := in_u i199; have a6 := in_u j189_8; have a7 := in_u j189_7; have a8 := in_u j189_6; have a9 := in_u j189_5; have a10 := in_u j189_4; have a11 := in_u j189_3; have a12 := in_u i198; have a13 := t_add e198 ro_109_19 (in_c 160 rfl) rfl; have a14 := in_u ((in_c 160 rfl)); by omega)⟩
                have hle : (z235).toInt ≤ y77_3.toInt := (by have h := g189_0.2.2 y77_3.toNatClampNeg (by show ((y77_3.toInt.toNat : Nat) : Int) < _; exact (have a0 := in_u j77_2; have a1 := in_u j77_1; have a2 := in_u ro_109_84; have a3 := in_u ro_109_20; have a4 := in_u ro_109_19; have a5 := in_u i199; have a6 := in_u j189_8; have a7 := in_u j189_7; have a8 := in_u j189_6; have a9 := in_u j189_5; have a10 := in_u j189_4; have a11 := in_u j189_3; have a12 := in_u i198; have a13 := t_add e198 ro_109_19 (in_c 160 rfl) rfl; have a14 := in_u ((in_c 160 rfl)); by omega)); rw [← g189_1, ← e235] at h; have h2 : ((y77_3.toNatClampNeg : Nat) : Int) = y77_3.toInt := (by show ((y77_3.toInt.toNat : Nat) : Int) = _; exact (have a0 := in_u j77_2; have a1 := in_u j77_1; have a2 := in_u ro_109_84; have a3 := in_u ro_109_20; have a4 := in_u ro_109_19; have a5 := in_u i199; have a6 := in_u j189_8; have a7 := in_u j189_7; have a8 := in_u j189_6; have a9 := in_u j189_5; have a10 := in_u j189_4; have a11 := in_u j189_3; have a12 := in_u i198; have a13 := t_add e198 ro_109_19 (in_c 160 rfl) rfl; have a14 := in_u ((in_c 160 rfl)); by omega)); omega)
                refine g_iconst 1 237 (gd rfl) rfl rfl (g_iadd 238 (gd rfl) rfl (fun z237 e237 => have i237 := in_add 1 2000 e237 i236 (in_c 1 rfl) rfl rfl; g_iload 240 (gd rfl) rfl rfl ?_))
                have p240 : QI sc189 (y189_4).toInt := by exact g189_0
                have p240a : 0 ≤ (z237).toInt ∧ (z237).toInt ≤ (y189_4).toInt := by exact ⟨by exact (have a0 := in_u j77_2; have a1 := in_u j77_1; have a2 := in_u ro_109_84; have a3 := in_u ro_109_20; have a4 := in_u ro_109_19; have a5 := in_u i199; have a6 := in_u j189_8; have a7 := in_u j189_7; have a8 := in_u j189_6; have a9 := in_u j189_5; have a10 := in_u j189_4; have a11 := in_u j189_3; have a12 := in_u i237; have a13 := t_add e237 i236 (in_c 1 rfl) rfl; have a14 := in_u ((in_c 1 rfl)); have a15 := in_u i236; have a16 := in_u i198; have a17 := t_add e198 ro_109_19 (in_c 160 rfl) rfl; have a18 := in_u ((in_c 160 rfl)); by omega), by exact (have a0 := in_u j77_2; have a1 := in_u j77_1; have a2 := in_u ro_109_84; have a3 := in_u ro_109_20; have a4 := in_u ro_109_19; have a5 := in_u i199; have a6 := in_u j189_8; have a7 := in_u j189_7; have a8 := in_u j189_6; have a9 := in_u j189_5; have a10 := in_u j189_4; have a11 := in_u j189_3; have a12 := in_u i237; have a13 := t_add e237 i236 (in_c 1 rfl) rfl; have a14 := in_u ((in_c 1 rfl)); have a15 := in_u i236; have a16 := in_u i198; have a17 := t_add e198 ro_109_19 (in_c 160 rfl) rfl; have a18 := in_u ((in_c 160 rfl)); by omega)⟩
                refine g_callv (X := _) (As := [.int y189_11, .long y189_9, .int z237, .int y189_4]) (r := []) (b := A 109) (q := 109) 243 (gd rfl) rfl rfl rfl rfl rfl (ww_o rfl) (Nat.le_of_ble_eq_true rfl) (Nat.zero_le _) (Nat.zero_le _) (k_390 (by omega) hIc189 (in_w 0 319 i199 rfl) (in_w 0 2000 i237 rfl) (in_w 0 2000 j189_4 rfl) p240 p240a) (fun e u h => h) (fun v u h => ?_)
                obtain ⟨s240, hI240, hF240, z240, rfl, rfl, i240, p240b, p240c, p240d⟩ := h
                show GG _ _ _ _ _ _ _ _ [.int z240] _ _ _
                refine g_istore 245 (gd rfl) rfl (Nat.le_of_ble_eq_true rfl) (g_iinc 248 (gd rfl) rfl rfl (Nat.le_of_ble_eq_true rfl) (fun z245 e245 => have i245 := in_add 1 320 e245 i199 (in_c 1 rfl) rfl rfl; g_goto 189 (gd rfl) rfl ?_))
                have n189 : (y189_3).toInt = y77_3.toInt + 1 := by exact (have a0 := in_u j77_2; have a1 := in_u j77_1; have a2 := in_u ro_109_84; have a3 := in_u ro_109_20; have a4 := in_u ro_109_19; have a5 := in_u i199; have a6 := in_u j189_8; have a7 := in_u j189_7; have a8 := in_u j189_6; have a9 := in_u j189_5; have a10 := in_u j189_4; have a11 := in_u j189_3; have a12 := in_u i245; have a13 := t_add e245 i199 (in_c 1 rfl) rfl; have a14 := in_u ((in_c 1 rfl)); have a15 := in_u i240; have a16 := in_u i237; have a17 := t_add e237 i236 (in_c 1 rfl) rfl; have a18 := in_u i236; have a19 := in_u i198; have a20 := t_add e198 ro_109_19 (in_c 160 rfl) rfl; have a21 := in_u ((in_c 160 rfl)); by omega)
                have n189a : (y189_3).toInt ≤ (z240).toInt := by exact (have a0 := in_u j77_2; have a1 := in_u j77_1; have a2 := in_u ro_109_84; have a3 := in_u ro_109_20; have a4 := in_u ro_109_19; have a5 := in_u i199; have a6 := in_u j189_8; have a7 := in_u j189_7; have a8 := in_u j189_6; have a9 := in_u j189_5; have a10 := in_u j189_4; have a11 := in_u j189_3; have a12 := in_u i245; have a13 := t_add e245 i199 (in_c 1 rfl) rfl; have a14 := in_u ((in_c 1 rfl)); have a15 := in_u i240; have a16 := in_u i237; have a17 := t_add e237 i236 (in_c 1 rfl) rfl; have a18 := in_u i236; have a19 := in_u i198; have a20 := t_add e198 ro_109_19 (in_c 160 rfl) rfl; have a21 := in_u ((in_c 160 rfl)); by omega)
                have n189b : QI s240 (z240).toInt := by first | exact g77_0 | exact g189_0 | exact p240b
                have n189c : y189_5 = s240.1 132 y77_3.toNatClampNeg := by first | exact e88 | exact g189_1 | (rw [p240d _ (by show ((y77_3.toInt.toNat : Nat) : Int) < _; exact (have a0 := in_u j77_2; have a1 := in_u j77_1; have a2 := in_u ro_109_84; have a3 := in_u ro_109_20; have a4 := in_u ro_109_19; have a5 := in_u i199; have a6 := in_u j189_8; have a7 := in_u j189_7; have a8 := in_u j189_6; have a9 := in_u j189_5; have a10 := in_u j189_4; have a11 := in_u j189_3; have a12 := in_u i245; have a13 := t_add e245 i199 (in_c 1 rfl) rfl; have a14 := in_u ((in_c 1 rfl)); have a15 := in_u i240; have a16 := in_u i237; have a17 := t_add e237 i236 (in_c 1 rfl) rfl; have a18 := in_u i236; have a19 := in_u i198; have a20 := t_add e198 ro_109_19 (in_c 160 rfl) rfl; have a21 := in_u ((in_c 160 rfl)); by omega))]; exact g189_1)
                exact gg_w (by omega) (gg_f (gf_cons rfl (gf_cons rfl (gf_cons rfl (gf_cons rfl (gf_cons rfl (gf_cons rfl (gf_cons rfl (gf_cons rfl (gf_cons rfl (gf_cons rfl (gf_cons rfl gf_nil))))))))))) (ih189 s240 y189_3 z240 y189_5 y189_6 y189_7 y189_8 y189_9 z245 hI240 (fr_tr rfl hFc189 hF240) (in_w 1 2000 j189_3 rfl) (in_w 0 2000 i240 rfl) (in_w 0 1951 j189_5 rfl) (in_w 0 31 j189_6 rfl) (in_w (-1) 59 j189_7 rfl) (in_w 0 1 j189_8 rfl) (in_w 0 400 i245 rfl) n189 n189a n189b n189c (m_up mm189 (t_add e245 i199 (in_c 1 rfl) rfl) (in_w 1 1 (in_c 1 rfl) rfl))))
      refine g_iload_n 78 (gd rfl) rfl rfl (g_iload 80 (gd rfl) rfl rfl (g_cmp_ge 83 254 (gd rfl) rfl rfl (fun c80 => ?_) (fun c80 => ?_)))
      · skip
        exact g_iconst (-1) 255 (gd rfl) rfl rfl (g_ireturn (gd rfl) rfl rfl (hP _ _ ⟨sc77, hIc77, hFc77, (Int32.ofInt (-1)), rfl, rfl, in_w (-2147483648) 2147483647 (in_c (-1) rfl) rfl⟩))
      · skip
        have i80 := r_lt1 0 1999 c80 j77_3 j77_4 rfl
        have i80a := r_lt2 1 2000 c80 j77_3 j77_4 rfl
        refine g_aload_n 84 (gd rfl) rfl rfl (g_getA (q2 := 132) 87 (gd rfl) rfl rfl rfl rfl (g_iload_n 88 (gd rfl) rfl rfl (g_iaload 89 (gd rfl) rfl (n := 4000) rfl (in_ix i80 rfl) (fun z88 e88 => have i88 := inv_I hIc77 (n := 4000) (t := 0) 0 1951 rfl (in_ix i80 rfl) rfl e88; g_istore 91 (gd rfl) rfl (Nat.le_of_ble_eq_true rfl) (g_iinc 94 (gd rfl) rfl rfl (Nat.le_of_ble_eq_true rfl) (fun z91 e91 => have i91 := in_add 1 2000 e91 i80 (in_c 1 rfl) rfl rfl; g_iload 96 (gd rfl) rfl rfl (g_bipush 61 98 (gd rfl) rfl rfl (g_idiv 99 (gd rfl) rfl (by decide) (fun z98 e98 => have i98 := in_div 0 31 e98 i88 rfl rfl; g_istore 101 (gd rfl) rfl (Nat.le_of_ble_eq_true rfl) (g_iload 103 (gd rfl) rfl rfl (g_bipush 61 105 (gd rfl) rfl rfl (g_irem 106 (gd rfl) rfl (by decide) (fun z105 e105 => have i105 := in_rem 60 e105 i88 rfl rfl; g_iconst 1 107 (gd rfl) rfl rfl (g_isub 108 (gd rfl) rfl (fun z107 e107 => have i107 := in_sub (-1) 59 e107 i105 (in_c 1 rfl) rfl rfl; g_istore 110 (gd rfl) rfl (Nat.le_of_ble_eq_true rfl) (g_iload 112 (gd rfl) rfl rfl (g_if_ge 115 122 (gd rfl) rfl rfl (fun c112 => ?_) (fun c112 => ?_))))))))))))))))))
        · skip
          have i112 := z_ge 0 59 c112 i107 rfl
          refine g_aload_n 123 (gd rfl) rfl rfl (g_getL 126 (gd rfl) rfl rfl rfl (fun z123 e123 => g_iload 128 (gd rfl) rfl rfl (g_lshr 129 (gd rfl) rfl (fun z128 e128 => g_lconst 1 130 (gd rfl) rfl rfl (g_land 131 (gd rfl) rfl (fun z130 e130 => have i130 := inl_and2 e130 (l_c 1 rfl) rfl; g_lconst 1 132 (gd rfl) rfl rfl (g_lcmp 133 (gd rfl) rfl (fun z132 e132 => have i132 := lc_in e132; g_if_ne 136 140 (gd rfl) rfl rfl (fun c133 => ?_) (fun c133 => ?_)))))))))
          · skip
            have c133a := lc_ne e132 c133
            have i133 := lr_ne1 0 0 c133a i130 (l_c 1 rfl) rfl
            refine g_iconst 0 141 (gd rfl) rfl rfl (g_istore 143 (gd rfl) rfl (Nat.le_of_ble_eq_true rfl) (g_iload 145 (gd rfl) rfl rfl (g_iload_n 146 (gd rfl) rfl rfl (g_cmp_ne 149 162 (gd rfl) rfl rfl (fun c146 => ?_) (fun c146 => ?_)))))
            · skip
              refine g_iload 164 (gd rfl) rfl rfl (g_if_ge 167 174 (gd rfl) rfl rfl (fun c164 => ?_) (fun c164 => ?_))
              · skip
                refine g_aload_n 175 (gd rfl) rfl rfl (g_getA (q2 := 173) 178 (gd rfl) rfl rfl rfl rfl (g_iload 180 (gd rfl) rfl rfl (g_laload 181 (gd rfl) rfl (n := 60) rfl (in_ix i112 rfl) (fun z180 e180 => g_lstore 183 (gd rfl) rfl (Nat.le_of_ble_eq_true rfl) (g_aload_n 184 (gd rfl) rfl rfl (g_getIv (y := u_109_19) 187 (gd rfl) rfl rfl rfl (fr_F e_109_19 hFc77 rfl) (g_istore 189 (gd rfl) rfl (Nat.le_of_ble_eq_true rfl) ?_)))))))
                have n189 : (z91).toInt = y77_3.toInt + 1 := by exact (have a0 := in_u j77_2; have a1 := in_u j77_1; have a2 := in_u ro_109_84; have a3 := in_u ro_109_20; have a4 := in_u ro_109_19; have a5 := in_u i80a; have a6 := in_u i80; have a7 := in_u ((in_c 0 rfl)); have a8 := in_u i112; have a9 := t_sub e107 i105 (in_c 1 rfl) rfl; have a10 := in_u ((in_c 1 rfl)); have a11 := in_u i105; have a12 := in_u i98; have a13 := t_div e98 i88 rfl; have a14 := in_u i88; have a15 := in_u i91; have a16 := t_add e91 i80 (in_c 1 rfl) rfl; by omega)
                have n189a : (z91).toInt ≤ (y77_4).toInt := by exact (have a0 := in_u j77_2; have a1 := in_u j77_1; have a2 := in_u ro_109_84; have a3 := in_u ro_109_20; have a4 := in_u ro_109_19; have a5 := in_u i80a; have a6 := in_u i80; have a7 := in_u ((in_c 0 rfl)); have a8 := in_u i112; have a9 := t_sub e107 i105 (in_c 1 rfl) rfl; have a10 := in_u ((in_c 1 rfl)); have a11 := in_u i105; have a12 := in_u i98; have a13 := t_div e98 i88 rfl; have a14 := in_u i88; have a15 := in_u i91; have a16 := t_add e91 i80 (in_c 1 rfl) rfl; by omega)
                have n189b : QI sc77 (y77_4).toInt := by first | exact g77_0 | exact g189_0 | exact p240b
                have n189c : z88 = sc77.1 132 y77_3.toNatClampNeg := by first | exact e88 | exact g189_1 | (rw [p240d _ (by show ((y77_3.toInt.toNat : Nat) : Int) < _; exact (have a0 := in_u j77_2; have a1 := in_u j77_1; have a2 := in_u ro_109_84; have a3 := in_u ro_109_20; have a4 := in_u ro_109_19; have a5 := in_u i80a; have a6 := in_u i80; have a7 := in_u ((in_c 0 rfl)); have a8 := in_u i112; have a9 := t_sub e107 i105 (in_c 1 rfl) rfl; have a10 := in_u ((in_c 1 rfl)); have a11 := in_u i105; have a12 := in_u i98; have a13 := t_div e98 i88 rfl; have a14 := in_u i88; have a15 := in_u i91; have a16 := t_add e91 i80 (in_c 1 rfl) rfl; by omega))]; exact g189_1)
                exact gg_w (by omega) (gg_f (gf_cons rfl (gf_cons rfl (gf_cons rfl (gf_cons rfl (gf_cons rfl (gf_cons rfl (gf_cons rfl (gf_cons rfl (gf_cons rfl (gf_cons rfl (gf_cons rfl gf_nil))))))))))) (ct189 401 sc77 z91 y77_4 z88 z98 z107 (Int32.ofInt 0) z180 u_109_19 hIc77 hFc77 (in_w 1 2000 i91 rfl) (in_w 0 2000 i80a rfl) (in_w 0 1951 i88 rfl) (in_w 0 31 i98 rfl) (in_w (-1) 59 i112 rfl) (in_w 0 1 (in_c 0 rfl) rfl) (in_w 0 400 ro_109_19 rfl) n189 n189a n189b n189c (m_in 401 (in_w 0 400 ro_109_19 rfl) rfl)))
              · skip
                exact zn_lt c164 i112 rfl
            · skip
              refine g_iload 151 (gd rfl) rfl rfl (g_if_eq 154 162 (gd rfl) rfl rfl (fun c151 => ?_) (fun c151 => ?_))
              · skip
                refine g_iload 164 (gd rfl) rfl rfl (g_if_ge 167 174 (gd rfl) rfl rfl (fun c164 => ?_) (fun c164 => ?_))
                · skip
                  refine g_aload_n 175 (gd rfl) rfl rfl (g_getA (q2 := 173) 178 (gd rfl) rfl rfl rfl rfl (g_iload 180 (gd rfl) rfl rfl (g_laload 181 (gd rfl) rfl (n := 60) rfl (in_ix i112 rfl) (fun z180 e180 => g_lstore 183 (gd rfl) rfl (Nat.le_of_ble_eq_true rfl) (g_aload_n 184 (gd rfl) rfl rfl (g_getIv (y := u_109_19) 187 (gd rfl) rfl rfl rfl (fr_F e_109_19 hFc77 rfl) (g_istore 189 (gd rfl) rfl (Nat.le_of_ble_eq_true rfl) ?_)))))))
                  have n189 : (z91).toInt = y77_3.toInt + 1 := by exact (have a0 := in_u j77_2; have a1 := in_u j77_1; have a2 := in_u ro_109_84; have a3 := in_u ro_109_20; have a4 := in_u ro_109_19; have a5 := in_u i80a; have a6 := in_u i80; have a7 := in_u ((in_c 0 rfl)); have a8 := in_u i112; have a9 := t_sub e107 i105 (in_c 1 rfl) rfl; have a10 := in_u ((in_c 1 rfl)); have a11 := in_u i105; have a12 := in_u i98; have a13 := t_div e98 i88 rfl; have a14 := in_u i88; have a15 := in_u i91; have a16 := t_add e91 i80 (in_c 1 rfl) rfl; by omega)
                  have n189a : (z91).toInt ≤ (y77_4).toInt := by exact (have a0 := in_u j77_2; have a1 := in_u j77_1; have a2 := in_u ro_109_84; have a3 := in_u ro_109_20; have a4 := in_u ro_109_19; have a5 := in_u i80a; have a6 := in_u i80; have a7 := in_u ((in_c 0 rfl)); have a8 := in_u i112; have a9 := t_sub e107 i105 (in_c 1 rfl) rfl; have a10 := in_u ((in_c 1 rfl)); have a11 := in_u i105; have a12 := in_u i98; have a13 := t_div e98 i88 rfl; have a14 := in_u i88; have a15 := in_u i91; have a16 := t_add e91 i80 (in_c 1 rfl) rfl; by omega)
                  have n189b : QI sc77 (y77_4).toInt := by first | exact g77_0 | exact g189_0 | exact p240b
                  have n189c : z88 = sc77.1 132 y77_3.toNatClampNeg := by first | exact e88 | exact g189_1 | (rw [p240d _ (by show ((y77_3.toInt.toNat : Nat) : Int) < _; exact (have a0 := in_u j77_2; have a1 := in_u j77_1; have a2 := in_u ro_109_84; have a3 := in_u ro_109_20; have a4 := in_u ro_109_19; have a5 := in_u i80a; have a6 := in_u i80; have a7 := in_u ((in_c 0 rfl)); have a8 := in_u i112; have a9 := t_sub e107 i105 (in_c 1 rfl) rfl; have a10 := in_u ((in_c 1 rfl)); have a11 := in_u i105; have a12 := in_u i98; have a13 := t_div e98 i88 rfl; have a14 := in_u i88; have a15 := in_u i91; have a16 := t_add e91 i80 (in_c 1 rfl) rfl; by omega))]; exact g189_1)
                  exact gg_w (by omega) (gg_f (gf_cons rfl (gf_cons rfl (gf_cons rfl (gf_cons rfl (gf_cons rfl (gf_cons rfl (gf_cons rfl (gf_cons rfl (gf_cons rfl (gf_cons rfl (gf_cons rfl gf_nil))))))))))) (ct189 401 sc77 z91 y77_4 z88 z98 z107 (Int32.ofInt 0) z180 u_109_19 hIc77 hFc77 (in_w 1 2000 i91 rfl) (in_w 0 2000 i80a rfl) (in_w 0 1951 i88 rfl) (in_w 0 31 i98 rfl) (in_w (-1) 59 i112 rfl) (in_w 0 1 (in_c 0 rfl) rfl) (in_w 0 400 ro_109_19 rfl) n189 n189a n189b n189c (m_in 401 (in_w 0 400 ro_109_19 rfl) rfl)))
                · skip
                  exact zn_lt c164 i112 rfl
              · skip
                exact zn_ne c151 (in_c 0 rfl) rfl
          · skip
            have i133 := z_eq 0 0 c133 i132 rfl
            have c133a := lc_eq e132 c133
            have i133a := lr_eq1 1 1 c133a i130 (l_c 1 rfl) rfl
            refine g_iconst 1 137 (gd rfl) rfl rfl (g_goto 141 (gd rfl) rfl (g_istore 143 (gd rfl) rfl (Nat.le_of_ble_eq_true rfl) (g_iload 145 (gd rfl) rfl rfl (g_iload_n 146 (gd rfl) rfl rfl (g_cmp_ne 149 162 (gd rfl) rfl rfl (fun c146 => ?_) (fun c146 => ?_))))))
            · skip
              refine g_iload 164 (gd rfl) rfl rfl (g_if_ge 167 174 (gd rfl) rfl rfl (fun c164 => ?_) (fun c164 => ?_))
              · skip
                refine g_aload_n 175 (gd rfl) rfl rfl (g_getA (q2 := 173) 178 (gd rfl) rfl rfl rfl rfl (g_iload 180 (gd rfl) rfl rfl (g_laload 181 (gd rfl) rfl (n := 60) rfl (in_ix i112 rfl) (fun z180 e180 => g_lstore 183 (gd rfl) rfl (Nat.le_of_ble_eq_true rfl) (g_aload_n 184 (gd rfl) rfl rfl (g_getIv (y := u_109_19) 187 (gd rfl) rfl rfl rfl (fr_F e_109_19 hFc77 rfl) (g_istore 189 (gd rfl) rfl (Nat.le_of_ble_eq_true rfl) ?_)))))))
                have n189 : (z91).toInt = y77_3.toInt + 1 := by exact (have a0 := in_u j77_2; have a1 := in_u j77_1; have a2 := in_u ro_109_84; have a3 := in_u ro_109_20; have a4 := in_u ro_109_19; have a5 := in_u i80a; have a6 := in_u i80; have a7 := in_u ((in_c 1 rfl)); have a8 := in_u i112; have a9 := t_sub e107 i105 (in_c 1 rfl) rfl; have a10 := in_u i105; have a11 := in_u i98; have a12 := t_div e98 i88 rfl; have a13 := in_u i88; have a14 := in_u i91; have a15 := t_add e91 i80 (in_c 1 rfl) rfl; by omega)
                have n189a : (z91).toInt ≤ (y77_4).toInt := by exact (have a0 := in_u j77_2; have a1 := in_u j77_1; have a2 := in_u ro_109_84; have a3 := in_u ro_109_20; have a4 := in_u ro_109_19; have a5 := in_u i80a; have a6 := in_u i80; have a7 := in_u ((in_c 1 rfl)); have a8 := in_u i112; have a9 := t_sub e107 i105 (in_c 1 rfl) rfl; have a10 := in_u i105; have a11 := in_u i98; have a12 := t_div e98 i88 rfl; have a13 := in_u i88; have a14 := in_u i91; have a15 := t_add e91 i80 (in_c 1 rfl) rfl; by omega)
                have n189b : QI sc77 (y77_4).toInt := by first | exact g77_0 | exact g189_0 | exact p240b
                have n189c : z88 = sc77.1 132 y77_3.toNatClampNeg := by first | exact e88 | exact g189_1 | (rw [p240d _ (by show ((y77_3.toInt.toNat : Nat) : Int) < _; exact (have a0 := in_u j77_2; have a1 := in_u j77_1; have a2 := in_u ro_109_84; have a3 := in_u ro_109_20; have a4 := in_u ro_109_19; have a5 := in_u i80a; have a6 := in_u i80; have a7 := in_u ((in_c 1 rfl)); have a8 := in_u i112; have a9 := t_sub e107 i105 (in_c 1 rfl) rfl; have a10 := in_u i105; have a11 := in_u i98; have a12 := t_div e98 i88 rfl; have a13 := in_u i88; have a14 := in_u i91; have a15 := t_add e91 i80 (in_c 1 rfl) rfl; by omega))]; exact g189_1)
                exact gg_w (by omega) (gg_f (gf_cons rfl (gf_cons rfl (gf_cons rfl (gf_cons rfl (gf_cons rfl (gf_cons rfl (gf_cons rfl (gf_cons rfl (gf_cons rfl (gf_cons rfl (gf_cons rfl gf_nil))))))))))) (ct189 401 sc77 z91 y77_4 z88 z98 z107 (Int32.ofInt 1) z180 u_109_19 hIc77 hFc77 (in_w 1 2000 i91 rfl) (in_w 0 2000 i80a rfl) (in_w 0 1951 i88 rfl) (in_w 0 31 i98 rfl) (in_w (-1) 59 i112 rfl) (in_w 0 1 (in_c 1 rfl) rfl) (in_w 0 400 ro_109_19 rfl) n189 n189a n189b n189c (m_in 401 (in_w 0 400 ro_109_19 rfl) rfl)))
              · skip
                exact zn_lt c164 i112 rfl
            · skip
              refine g_iload 151 (gd rfl) rfl rfl (g_if_eq 154 162 (gd rfl) rfl rfl (fun c151 => ?_) (fun c151 => ?_))
              · skip
                exact zn_eq c151 (in_c 1 rfl) rfl
              · skip
                exact g_aload_n 155 (gd rfl) rfl rfl (g_getA (q2 := 183) 158 (gd rfl) rfl rfl rfl rfl (g_iload 160 (gd rfl) rfl rfl (g_iaload 161 (gd rfl) rfl (n := 2000) rfl (in_ix i88 rfl) (fun z160 e160 => g_ireturn (gd rfl) rfl rfl (hP _ _ ⟨sc77, hIc77, hFc77, z160, rfl, rfl, in_w (-2147483648) 2147483647 (i_rng z160) rfl⟩)))))
        · skip
          have i112 := z_lt (-1) (-1) c112 i107 rfl
          refine g_aload_n 116 (gd rfl) rfl rfl (g_getZv (y := u_109_84) 119 (gd rfl) rfl rfl rfl (fr_F e_109_84 hFc77 rfl) (g_goto 141 (gd rfl) rfl (g_istore 143 (gd rfl) rfl (Nat.le_of_ble_eq_true rfl) (g_iload 145 (gd rfl) rfl rfl (g_iload_n 146 (gd rfl) rfl rfl (g_cmp_ne 149 162 (gd rfl) rfl rfl (fun c146 => ?_) (fun c146 => ?_)))))))
          · skip
            refine g_iload 164 (gd rfl) rfl rfl (g_if_ge 167 174 (gd rfl) rfl rfl (fun c164 => ?_) (fun c164 => ?_))
            · skip
              exact zn_ge c164 i112 rfl
            · skip
              refine g_aload_n 168 (gd rfl) rfl rfl (g_getL 171 (gd rfl) rfl rfl rfl (fun z168 e168 => g_goto 181 (gd rfl) rfl (g_lstore 183 (gd rfl) rfl (Nat.le_of_ble_eq_true rfl) (g_aload_n 184 (gd rfl) rfl rfl (g_getIv (y := u_109_19) 187 (gd rfl) rfl rfl rfl (fr_F e_109_19 hFc77 rfl) (g_istore 189 (gd rfl) rfl (Nat.le_of_ble_eq_true rfl) ?_))))))
              have n189 : (z91).toInt = y77_3.toInt + 1 := by exact (have a0 := in_u j77_2; have a1 := in_u j77_1; have a2 := in_u ro_109_84; have a3 := in_u ro_109_20; have a4 := in_u ro_109_19; have a5 := in_u i80a; have a6 := in_u i80; have a7 := in_u i112; have a8 := t_sub e107 i105 (in_c 1 rfl) rfl; have a9 := in_u ((in_c 1 rfl)); have a10 := in_u i105; have a11 := in_u i98; have a12 := t_div e98 i88 rfl; have a13 := in_u i88; have a14 := in_u i91; have a15 := t_add e91 i80 (in_c 1 rfl) rfl; by omega)
              have n189a : (z91).toInt ≤ (y77_4).toInt := by exact (have a0 := in_u j77_2; have a1 := in_u j77_1; have a2 := in_u ro_109_84; have a3 := in_u ro_109_20; have a4 := in_u ro_109_19; have a5 := in_u i80a; have a6 := in_u i80; have a7 := in_u i112; have a8 := t_sub e107 i105 (in_c 1 rfl) rfl; have a9 := in_u ((in_c 1 rfl)); have a10 := in_u i105; have a11 := in_u i98; have a12 := t_div e98 i88 rfl; have a13 := in_u i88; have a14 := in_u i91; have a15 := t_add e91 i80 (in_c 1 rfl) rfl; by omega)
              have n189b : QI sc77 (y77_4).toInt := by first | exact g77_0 | exact g189_0 | exact p240b
              have n189c : z88 = sc77.1 132 y77_3.toNatClampNeg := by first | exact e88 | exact g189_1 | (rw [p240d _ (by show ((y77_3.toInt.toNat : Nat) : Int) < _; exact (have a0 := in_u j77_2; have a1 := in_u j77_1; have a2 := in_u ro_109_84; have a3 := in_u ro_109_20; have a4 := in_u ro_109_19; have a5 := in_u i80a; have a6 := in_u i80; have a7 := in_u i112; have a8 := t_sub e107 i105 (in_c 1 rfl) rfl; have a9 := in_u ((in_c 1 rfl)); have a10 := in_u i105; have a11 := in_u i98; have a12 := t_div e98 i88 rfl; have a13 := in_u i88; have a14 := in_u i91; have a15 := t_add e91 i80 (in_c 1 rfl) rfl; by omega))]; exact g189_1)
              exact gg_w (by omega) (gg_f (gf_cons rfl (gf_cons rfl (gf_cons rfl (gf_cons rfl (gf_cons rfl (gf_cons rfl (gf_cons rfl (gf_cons rfl (gf_cons rfl (gf_cons rfl (gf_cons rfl gf_nil))))))))))) (ct189 401 sc77 z91 y77_4 z88 z98 z107 u_109_84 z168 u_109_19 hIc77 hFc77 (in_w 1 2000 i91 rfl) (in_w 0 2000 i80a rfl) (in_w 0 1951 i88 rfl) (in_w 0 31 i98 rfl) (in_w (-1) 59 i112 rfl) (in_w 0 1 ro_109_84 rfl) (in_w 0 400 ro_109_19 rfl) n189 n189a n189b n189c (m_in 401 (in_w 0 400 ro_109_19 rfl) rfl)))
          · skip
            refine g_iload 151 (gd rfl) rfl rfl (g_if_eq 154 162 (gd rfl) rfl rfl (fun c151 => ?_) (fun c151 => ?_))
            · skip
              have i151 := z_eq 0 0 c151 ro_109_84 rfl
              refine g_iload 164 (gd rfl) rfl rfl (g_if_ge 167 174 (gd rfl) rfl rfl (fun c164 => ?_) (fun c164 => ?_))
              · skip
                exact zn_ge c164 i112 rfl
              · skip
                refine g_aload_n 168 (gd rfl) rfl rfl (g_getL 171 (gd rfl) rfl rfl rfl (fun z168 e168 => g_goto 181 (gd rfl) rfl (g_lstore 183 (gd rfl) rfl (Nat.le_of_ble_eq_true rfl) (g_aload_n 184 (gd rfl) rfl rfl (g_getIv (y := u_109_19) 187 (gd rfl) rfl rfl rfl (fr_F e_109_19 hFc77 rfl) (g_istore 189 (gd rfl) rfl (Nat.le_of_ble_eq_true rfl) ?_))))))
                have n189 : (z91).toInt = y77_3.toInt + 1 := by exact (have a0 := in_u j77_2; have a1 := in_u j77_1; have a2 := in_u i151; have a3 := in_u ro_109_20; have a4 := in_u ro_109_19; have a5 := in_u i80a; have a6 := in_u i80; have a7 := in_u i112; have a8 := t_sub e107 i105 (in_c 1 rfl) rfl; have a9 := in_u ((in_c 1 rfl)); have a10 := in_u i105; have a11 := in_u i98; have a12 := t_div e98 i88 rfl; have a13 := in_u i88; have a14 := in_u i91; have a15 := t_add e91 i80 (in_c 1 rfl) rfl; by omega)
                have n189a : (z91).toInt ≤ (y77_4).toInt := by exact (have a0 := in_u j77_2; have a1 := in_u j77_1; have a2 := in_u i151; have a3 := in_u ro_109_20; have a4 := in_u ro_109_19; have a5 := in_u i80a; have a6 := in_u i80; have a7 := in_u i112; have a8 := t_sub e107 i105 (in_c 1 rfl) rfl; have a9 := in_u ((in_c 1 rfl)); have a10 := in_u i105; have a11 := in_u i98; have a12 := t_div e98 i88 rfl; have a13 := in_u i88; have a14 := in_u i91; have a15 := t_add e91 i80 (in_c 1 rfl) rfl; by omega)
                have n189b : QI sc77 (y77_4).toInt := by first | exact g77_0 | exact g189_0 | exact p240b
                have n189c : z88 = sc77.1 132 y77_3.toNatClampNeg := by first | exact e88 | exact g189_1 | (rw [p240d _ (by show ((y77_3.toInt.toNat : Nat) : Int) < _; exact (have a0 := in_u j77_2; have a1 := in_u j77_1; have a2 := in_u i151; have a3 := in_u ro_109_20; have a4 := in_u ro_109_19; have a5 := in_u i80a; have a6 := in_u i80; have a7 := in_u i112; have a8 := t_sub e107 i105 (in_c 1 rfl) rfl; have a9 := in_u ((in_c 1 rfl)); have a10 := in_u i105; have a11 := in_u i98; have a12 := t_div e98 i88 rfl; have a13 := in_u i88; have a14 := in_u i91; have a15 := t_add e91 i80 (in_c 1 rfl) rfl; by omega))]; exact g189_1)
                exact gg_w (by omega) (gg_f (gf_cons rfl (gf_cons rfl (gf_cons rfl (gf_cons rfl (gf_cons rfl (gf_cons rfl (gf_cons rfl (gf_cons rfl (gf_cons rfl (gf_cons rfl (gf_cons rfl gf_nil))))))))))) (ct189 401 sc77 z91 y77_4 z88 z98 z107 u_109_84 z168 u_109_19 hIc77 hFc77 (in_w 1 2000 i91 rfl) (in_w 0 2000 i80a rfl) (in_w 0 1951 i88 rfl) (in_w 0 31 i98 rfl) (in_w (-1) 59 i112 rfl) (in_w 0 1 i151 rfl) (in_w 0 400 ro_109_19 rfl) n189 n189a n189b n189c (m_in 401 (in_w 0 400 ro_109_19 rfl) rfl)))
            · skip
              have i151 := z_ne 1 1 c151 ro_109_84 rfl
              exact g_aload_n 155 (gd rfl) rfl rfl (g_getA (q2 := 183) 158 (gd rfl) rfl rfl rfl rfl (g_iload 160 (gd rfl) rfl rfl (g_iaload 161 (gd rfl) rfl (n := 2000) rfl (in_ix i88 rfl) (fun z160 e160 => g_ireturn (gd rfl) rfl rfl (hP _ _ ⟨sc77, hIc77, hFc77, z160, rfl, rfl, in_w (-2147483648) 2147483647 (i_rng z160) rfl⟩)))))
  have ct32 : ∀ (k32 : Nat) (sc32 : GS) (y32_3 : Int32), Inv sc32 → Fr fm_389 s sc32 → (In x1 0 31) → (In x2 0 31) → (In y32_3 0 2000) → (∀ k : Nat, (k : Int) < (y32_3).toInt → sc32.1 183 k = Int32.ofInt (-1)) → 2000 - (y32_3).toInt < (k32 : Int) → GG Z (d - 1) 389 post (gx xp) (727565603 + k32 * 900) 32 (fun j => xlook j [(0, .ref (A 109)), (1, .int x1), (2, .int x2), (3, .int y32_3)]) [] (WW Z A sc32 ++ ex) 0 0 := by
    intro k32
    induction k32 with
    | zero => intro sc32 y32_3 hIc32 hFc32 j32_1 j32_2 j32_3 g32_0 mm32; exact m_no mm32 j32_3 rfl
    | succ k32 ih32 =>
      intro sc32 y32_3 hIc32 hFc32 j32_1 j32_2 j32_3 g32_0 mm32
      refine gg_w (M := 727565603 + k32 * 900 + 900) (by omega) (g_iload_n 33 (gd rfl) rfl rfl (g_sipush 2000 36 (gd rfl) rfl rfl (g_cmp_ge 39 52 (gd rfl) rfl rfl (fun c36 => ?_) (fun c36 => ?_))))
      · skip
        have i36 := r_le2 2000 2000 c36 (in_c 2000 rfl) j32_3 rfl
        refine g_iconst 0 53 (gd rfl) rfl rfl (g_istore_n 54 (gd rfl) rfl (Nat.le_of_ble_eq_true rfl) (g_iconst 1 55 (gd rfl) rfl rfl (g_istore 57 (gd rfl) rfl (Nat.le_of_ble_eq_true rfl) (g_aload_n 58 (gd rfl) rfl rfl (g_getA (q2 := 132) 61 (gd rfl) rfl rfl rfl rfl (g_iconst 0 62 (gd rfl) rfl rfl (g_bipush 61 64 (gd rfl) rfl rfl (g_iload_n 65 (gd rfl) rfl rfl (g_imul 66 (gd rfl) rfl (fun z65 e65 => have i65 := in_mulc 61 0 1891 (Or.inl e65) j32_1 rfl rfl; g_iastore 67 (gd rfl) rfl (n := 4000) rfl (in_ix (in_c 0 rfl) rfl) (have hI66 := inv_sI (q := 132) (j := (Int32.ofInt 0).toNatClampNeg) hIc32 rfl (in_w 0 1951 i65 rfl); g_aload_n 68 (gd rfl) rfl rfl (g_getA (q2 := 183) 71 (gd rfl) rfl rfl rfl rfl (g_bipush 61 73 (gd rfl) rfl rfl (g_iload_n 74 (gd rfl) rfl rfl (g_imul 75 (gd rfl) rfl (fun z74 e74 => have i74 := in_mulc 61 0 1891 (Or.inl e74) j32_1 rfl rfl; g_iconst 0 76 (gd rfl) rfl rfl (g_iastore 77 (gd rfl) rfl (n := 2000) rfl (in_ix i74 rfl) ?_)))))))))))))))))
        have hI76 := inv_sI (q := 183) (j := z74.toNatClampNeg) hI66 rfl (in_w (-2147483648) 2147483647 (in_c 0 rfl) rfl)
        have n77 : ((Int32.ofInt 0)).toInt ≤ ((Int32.ofInt 1)).toInt := by exact (have a0 := in_u j32_2; have a1 := in_u j32_1; have a2 := in_u ro_109_84; have a3 := in_u ro_109_20; have a4 := in_u ro_109_19; have a5 := in_u i36; have a6 := in_u ((in_c 1 rfl)); have a7 := in_u ((in_c 0 rfl)); have a8 := in_u i74; have a9 := (t_mulc 61 (Or.inl e74) j32_1 rfl).1; have a10 := in_u i65; have a11 := (t_mulc 61 (Or.inl e65) j32_1 rfl).1; by omega)
        have n77a : QI (sI (sI sc32 132 (Int32.ofInt 0).toNatClampNeg z65) 183 z74.toNatClampNeg (Int32.ofInt 0)) ((Int32.ofInt 1)).toInt := by first | exact g189_0 | (have hz : z74 = z65 := (by rw [e74, e65]); have hw : ((Int32.ofInt 1)).toInt = 0 + 1 := rfl; rw [hw]; exact qi_push (m := 0) (y := z65) (v := Int32.ofInt 0) (qi_0 sc32) rfl (by rw [sI_p rfl, sI_q]; rfl) (by rw [sI_q, sI_p rfl, hz]) i65 rfl (by rw [g32_0 z65.toNatClampNeg (by show ((z65.toInt.toNat : Nat) : Int) < _; exact (have a0 := in_u j32_2; have a1 := in_u j32_1; have a2 := in_u ro_109_84; have a3 := in_u ro_109_20; have a4 := in_u ro_109_19; have a5 := in_u i36; have a6 := in_u ((in_c 1 rfl)); have a7 := in_u ((in_c 0 rfl)); have a8 := in_u i74; have a9 := (t_mulc 61 (Or.inl e74) j32_1 rfl).1; have a10 := in_u i65; have a11 := (t_mulc 61 (Or.inl e65) j32_1 rfl).1; by omega))]; decide) (by decide) (by decide))
        have m77 : 2000 - ((Int32.ofInt 0)).toInt < ((2001 : Nat) : Int) := by exact (have a0 := in_u j32_2; have a1 := in_u j32_1; have a2 := in_u ro_109_84; have a3 := in_u ro_109_20; have a4 := in_u ro_109_19; have a5 := in_u i36; have a6 := in_u ((in_c 1 rfl)); have a7 := in_u ((in_c 0 rfl)); have a8 := in_u i74; have a9 := (t_mulc 61 (Or.inl e74) j32_1 rfl).1; have a10 := in_u i65; have a11 := (t_mulc 61 (Or.inl e65) j32_1 rfl).1; by omega)
        exact gg_w (by omega) (gg_f (gf_cons rfl (gf_cons rfl (gf_cons rfl (gf_cons rfl (gf_cons rfl gf_nil))))) (ct77 2001 (sI (sI sc32 132 (Int32.ofInt 0).toNatClampNeg z65) 183 z74.toNatClampNeg (Int32.ofInt 0)) (Int32.ofInt 0) (Int32.ofInt 1) hI76 (fr_sI rfl (fr_sI rfl hFc32)) (in_w 0 31 j32_1 rfl) (in_w 0 31 j32_2 rfl) (in_w 0 2000 (in_c 0 rfl) rfl) (in_w 0 2000 (in_c 1 rfl) rfl) n77 n77a m77))
      · skip
        have i36 := r_lt1 0 1999 c36 j32_3 (in_c 2000 rfl) rfl
        refine g_aload_n 40 (gd rfl) rfl rfl (g_getA (q2 := 183) 43 (gd rfl) rfl rfl rfl rfl (g_iload_n 44 (gd rfl) rfl rfl (g_iconst (-1) 45 (gd rfl) rfl rfl (g_iastore 46 (gd rfl) rfl (n := 2000) rfl (in_ix i36 rfl) (have hI45 := inv_sI (q := 183) (j := y32_3.toNatClampNeg) hIc32 rfl (in_w (-2147483648) 2147483647 (in_c (-1) rfl) rfl); g_iinc 49 (gd rfl) rfl rfl (Nat.le_of_ble_eq_true rfl) (fun z46 e46 => have i46 := in_add 1 2000 e46 i36 (in_c 1 rfl) rfl rfl; g_goto 32 (gd rfl) rfl ?_))))))
        have n32 : ∀ k : Nat, (k : Int) < (z46).toInt → (sI sc32 183 y32_3.toNatClampNeg (Int32.ofInt (-1))).1 183 k = Int32.ofInt (-1) := by first | (intro k hk; exfalso; have h0 : (Int32.ofInt 0).toInt = 0 := rfl; omega) | (intro k hk; rw [sI_q]; unfold upd; have e3 : y32_3.toNatClampNeg = y32_3.toInt.toNat := rfl; by_cases c : k = y32_3.toNatClampNeg; rw [if_pos c]; (rw [if_neg c]; exact g32_0 k (by exact (have a0 := in_u j32_2; have a1 := in_u j32_1; have a2 := in_u ro_109_84; have a3 := in_u ro_109_20; have a4 := in_u ro_109_19; have a5 := in_u i36; have a6 := in_u i46; have a7 := t_add e46 i36 (in_c 1 rfl) rfl; have a8 := in_u ((in_c 1 rfl)); by omega))))
        exact gg_w (by omega) (gg_f (gf_cons rfl (gf_cons rfl (gf_cons rfl (gf_cons rfl gf_nil)))) (ih32 (sI sc32 183 y32_3.toNatClampNeg (Int32.ofInt (-1))) z46 hI45 (fr_sI rfl hFc32) (in_w 0 31 j32_1 rfl) (in_w 0 31 j32_2 rfl) (in_w 0 2000 i46 rfl) n32 (m_up mm32 (t_add e46 i36 (in_c 1 rfl) rfl) (in_w 1 1 (in_c 1 rfl) rfl))))
  refine g_enter2 (k := 389) (N := 729367403) (by omega) rfl (Nat.le_of_ble_eq_true rfl) (g_aload_n 1 (gd rfl) rfl rfl (g_aload_n 2 (gd rfl) rfl rfl (g_iload_n 3 (gd rfl) rfl rfl ?_)))
  refine g_callv (X := _) (As := [.int x1]) (r := [.ref (A 109)]) (b := A 109) (q := 109) 6 (gd rfl) rfl rfl rfl rfl rfl (ww_o rfl) (Nat.le_of_ble_eq_true rfl) (mc := 0) (ms := 0) (Nat.zero_le _) (Nat.zero_le _) (P := fun v u => _) ?_ (fun e u h => h) (fun v u h => h)
  intro po3 xx3 hp3 hx3
  refine g_enter2 (k := 272) (N := 300) (by omega) rfl (Nat.le_of_ble_eq_true rfl) (g_iload_n 1 (gd rfl) rfl rfl (g_if_lt 4 16 (gd rfl) rfl rfl (fun c3x1 => ?_) (fun c3x1 => ?_)))
  · skip
    have i3x1 := z_lt (-2147483648) (-1) c3x1 (i_rng x1) rfl
    refine g_iconst 0 17 (gd rfl) rfl rfl ?_
    refine g_ireturn (gd rfl) rfl (nb01 (in_w 0 1 (in_c 0 rfl) rfl)) (hp3 _ _ ?_)
    show GG _ _ _ _ _ _ _ _ [.int (Int32.ofInt 0), .ref (A 109)] _ _ _
    refine g_if_eq 9 21 (gd rfl) rfl rfl (fun c6 => ?_) (fun c6 => ?_)
    · skip
      refine g_iconst 0 22 (gd rfl) rfl rfl ?_
      refine g_callv (X := _) (As := [.int (Int32.ofInt 0)]) (r := []) (b := A 109) (q := 109) 25 (gd rfl) rfl rfl rfl rfl rfl (ww_o rfl) (Nat.le_of_ble_eq_true rfl) (mc := 0) (ms := 0) (Nat.zero_le _) (Nat.zero_le _) (P := fun v u => _) ?_ (fun e u h => h) (fun v u h => h)
      intro po22 xx22 hp22 hx22
      refine g_enter2 (k := 271) (N := 300) (by omega) rfl (Nat.le_of_ble_eq_true rfl) (g_aload_n 1 (gd rfl) rfl rfl (g_iload_n 2 (gd rfl) rfl rfl (g_iconst 1 3 (gd rfl) rfl rfl ?_)))
      refine g_callv (X := _) (As := [.int (Int32.ofInt 0), .int (Int32.ofInt 1)]) (r := []) (b := A 109) (q := 109) 6 (gd rfl) rfl rfl rfl rfl rfl (ww_o rfl) (Nat.le_of_ble_eq_true rfl) (mc := 0) (ms := 0) (Nat.zero_le _) (Nat.zero_le _) (P := fun v u => _) ?_ (fun e u h => h) (fun v u h => h)
      intro po22x3 xx22x3 hp22x3 hx22x3
      refine g_enter2 (k := 270) (N := 300) (by omega) rfl (Nat.le_of_ble_eq_true rfl) (g_aload_n 1 (gd rfl) rfl rfl (g_iload_n 2 (gd rfl) rfl rfl (g_if_ne 5 9 (gd rfl) rfl rfl (fun c22x3x2 => ?_) (fun c22x3x2 => ?_))))
      · skip
        exact zn_ne c22x3x2 (in_c 0 rfl) rfl
      · skip
        refine g_iconst 1 6 (gd rfl) rfl rfl (g_goto 18 (gd rfl) rfl (g_putI 21 (gd rfl) rfl rfl rfl rfl (have hI22x3x18 := inv_sF (q := 109) (j := 0) hI rfl (in_w 0 2 (in_c 1 rfl) rfl); g_aload_n 22 (gd rfl) rfl rfl (g_getIv (y := (Int32.ofInt 1)) 25 (gd rfl) rfl rfl rfl (sF_get) (g_if_le 28 32 (gd rfl) rfl rfl (fun c22x3x25 => ?_) (fun c22x3x25 => ?_))))))
        · skip
          exact zn_le c22x3x25 (in_c 1 rfl) rfl
        · skip
          refine g_iconst 1 29 (gd rfl) rfl rfl (g_goto 33 (gd rfl) rfl ?_)
          refine g_ireturn (gd rfl) rfl (nb01 (in_w 0 1 (in_c 1 rfl) rfl)) (hp22x3 _ _ ?_)
          show GG _ _ _ _ _ _ _ _ [.int (Int32.ofInt 1)] _ _ _
          refine g_ireturn (gd rfl) rfl (nb01 (in_w 0 1 (in_c 1 rfl) rfl)) (hp22 _ _ ?_)
          show GG _ _ _ _ _ _ _ _ [.int (Int32.ofInt 1)] _ _ _
          refine g_if_eq 28 30 (gd rfl) rfl rfl (fun c25 => ?_) (fun c25 => ?_)
          · skip
            exact zn_eq c25 (in_c 1 rfl) rfl
          · skip
            exact g_iconst 0 29 (gd rfl) rfl rfl (g_ireturn (gd rfl) rfl rfl (hP _ _ ⟨(sF s 109 0 (Int32.ofInt 1)), hI22x3x18, (fr_sF rfl fr_rf), (Int32.ofInt 0), rfl, rfl, in_w (-2147483648) 2147483647 (in_c 0 rfl) rfl⟩))
    · skip
      exact zn_ne c6 (in_c 0 rfl) rfl
  · skip
    have i3x1 := z_ge 0 2147483647 c3x1 (i_rng x1) rfl
    refine g_iload_n 5 (gd rfl) rfl rfl (g_aload_n 6 (gd rfl) rfl rfl (g_getIv (y := u_109_20) 9 (gd rfl) rfl rfl rfl (e_109_20) (g_cmp_ge 12 16 (gd rfl) rfl rfl (fun c3x9 => ?_) (fun c3x9 => ?_))))
    · skip
      refine g_iconst 0 17 (gd rfl) rfl rfl ?_
      refine g_ireturn (gd rfl) rfl (nb01 (in_w 0 1 (in_c 0 rfl) rfl)) (hp3 _ _ ?_)
      show GG _ _ _ _ _ _ _ _ [.int (Int32.ofInt 0), .ref (A 109)] _ _ _
      refine g_if_eq 9 21 (gd rfl) rfl rfl (fun c6 => ?_) (fun c6 => ?_)
      · skip
        refine g_iconst 0 22 (gd rfl) rfl rfl ?_
        refine g_callv (X := _) (As := [.int (Int32.ofInt 0)]) (r := []) (b := A 109) (q := 109) 25 (gd rfl) rfl rfl rfl rfl rfl (ww_o rfl) (Nat.le_of_ble_eq_true rfl) (mc := 0) (ms := 0) (Nat.zero_le _) (Nat.zero_le _) (P := fun v u => _) ?_ (fun e u h => h) (fun v u h => h)
        intro po22 xx22 hp22 hx22
        refine g_enter2 (k := 271) (N := 300) (by omega) rfl (Nat.le_of_ble_eq_true rfl) (g_aload_n 1 (gd rfl) rfl rfl (g_iload_n 2 (gd rfl) rfl rfl (g_iconst 1 3 (gd rfl) rfl rfl ?_)))
        refine g_callv (X := _) (As := [.int (Int32.ofInt 0), .int (Int32.ofInt 1)]) (r := []) (b := A 109) (q := 109) 6 (gd rfl) rfl rfl rfl rfl rfl (ww_o rfl) (Nat.le_of_ble_eq_true rfl) (mc := 0) (ms := 0) (Nat.zero_le _) (Nat.zero_le _) (P := fun v u => _) ?_ (fun e u h => h) (fun v u h => h)
        intro po22x3 xx22x3 hp22x3 hx22x3
        refine g_enter2 (k := 270) (N := 300) (by omega) rfl (Nat.le_of_ble_eq_true rfl) (g_aload_n 1 (gd rfl) rfl rfl (g_iload_n 2 (gd rfl) rfl rfl (g_if_ne 5 9 (gd rfl) rfl rfl (fun c22x3x2 => ?_) (fun c22x3x2 => ?_))))
        · skip
          exact zn_ne c22x3x2 (in_c 0 rfl) rfl
        · skip
          refine g_iconst 1 6 (gd rfl) rfl rfl (g_goto 18 (gd rfl) rfl (g_putI 21 (gd rfl) rfl rfl rfl rfl (have hI22x3x18 := inv_sF (q := 109) (j := 0) hI rfl (in_w 0 2 (in_c 1 rfl) rfl); g_aload_n 22 (gd rfl) rfl rfl (g_getIv (y := (Int32.ofInt 1)) 25 (gd rfl) rfl rfl rfl (sF_get) (g_if_le 28 32 (gd rfl) rfl rfl (fun c22x3x25 => ?_) (fun c22x3x25 => ?_))))))
          · skip
            exact zn_le c22x3x25 (in_c 1 rfl) rfl
          · skip
            refine g_iconst 1 29 (gd rfl) rfl rfl (g_goto 33 (gd rfl) rfl ?_)
            refine g_ireturn (gd rfl) rfl (nb01 (in_w 0 1 (in_c 1 rfl) rfl)) (hp22x3 _ _ ?_)
            show GG _ _ _ _ _ _ _ _ [.int (Int32.ofInt 1)] _ _ _
            refine g_ireturn (gd rfl) rfl (nb01 (in_w 0 1 (in_c 1 rfl) rfl)) (hp22 _ _ ?_)
            show GG _ _ _ _ _ _ _ _ [.int (Int32.ofInt 1)] _ _ _
            refine g_if_eq 28 30 (gd rfl) rfl rfl (fun c25 => ?_) (fun c25 => ?_)
            · skip
              exact zn_eq c25 (in_c 1 rfl) rfl
            · skip
              exact g_iconst 0 29 (gd rfl) rfl rfl (g_ireturn (gd rfl) rfl rfl (hP _ _ ⟨(sF s 109 0 (Int32.ofInt 1)), hI22x3x18, (fr_sF rfl fr_rf), (Int32.ofInt 0), rfl, rfl, in_w (-2147483648) 2147483647 (in_c 0 rfl) rfl⟩))
      · skip
        exact zn_ne c6 (in_c 0 rfl) rfl
    · skip
      have i3x9 := r_lt1 0 31 c3x9 i3x1 ro_109_20 rfl
      have i3x9a := r_lt2 1 32 c3x9 i3x1 ro_109_20 rfl
      refine g_iconst 1 13 (gd rfl) rfl rfl (g_goto 17 (gd rfl) rfl ?_)
      refine g_ireturn (gd rfl) rfl (nb01 (in_w 0 1 (in_c 1 rfl) rfl)) (hp3 _ _ ?_)
      show GG _ _ _ _ _ _ _ _ [.int (Int32.ofInt 1), .ref (A 109)] _ _ _
      refine g_if_eq 9 21 (gd rfl) rfl rfl (fun c6 => ?_) (fun c6 => ?_)
      · skip
        exact zn_eq c6 (in_c 1 rfl) rfl
      · skip
        refine g_aload_n 10 (gd rfl) rfl rfl (g_iload_n 11 (gd rfl) rfl rfl ?_)
        refine g_callv (X := _) (As := [.int x2]) (r := [.ref (A 109)]) (b := A 109) (q := 109) 14 (gd rfl) rfl rfl rfl rfl rfl (ww_o rfl) (Nat.le_of_ble_eq_true rfl) (mc := 0) (ms := 0) (Nat.zero_le _) (Nat.zero_le _) (P := fun v u => _) ?_ (fun e u h => h) (fun v u h => h)
        intro po11 xx11 hp11 hx11
        refine g_enter2 (k := 272) (N := 300) (by omega) rfl (Nat.le_of_ble_eq_true rfl) (g_iload_n 1 (gd rfl) rfl rfl (g_if_lt 4 16 (gd rfl) rfl rfl (fun c11x1 => ?_) (fun c11x1 => ?_)))
        · skip
          have i11x1 := z_lt (-2147483648) (-1) c11x1 (i_rng x2) rfl
          refine g_iconst 0 17 (gd rfl) rfl rfl ?_
          refine g_ireturn (gd rfl) rfl (nb01 (in_w 0 1 (in_c 0 rfl) rfl)) (hp11 _ _ ?_)
          show GG _ _ _ _ _ _ _ _ [.int (Int32.ofInt 0), .ref (A 109)] _ _ _
          refine g_if_eq 17 21 (gd rfl) rfl rfl (fun c14 => ?_) (fun c14 => ?_)
          · skip
            refine g_iconst 0 22 (gd rfl) rfl rfl ?_
            refine g_callv (X := _) (As := [.int (Int32.ofInt 0)]) (r := []) (b := A 109) (q := 109) 25 (gd rfl) rfl rfl rfl rfl rfl (ww_o rfl) (Nat.le_of_ble_eq_true rfl) (mc := 0) (ms := 0) (Nat.zero_le _) (Nat.zero_le _) (P := fun v u => _) ?_ (fun e u h => h) (fun v u h => h)
            intro po22 xx22 hp22 hx22
            refine g_enter2 (k := 271) (N := 300) (by omega) rfl (Nat.le_of_ble_eq_true rfl) (g_aload_n 1 (gd rfl) rfl rfl (g_iload_n 2 (gd rfl) rfl rfl (g_iconst 1 3 (gd rfl) rfl rfl ?_)))
            refine g_callv (X := _) (As := [.int (Int32.ofInt 0), .int (Int32.ofInt 1)]) (r := []) (b := A 109) (q := 109) 6 (gd rfl) rfl rfl rfl rfl rfl (ww_o rfl) (Nat.le_of_ble_eq_true rfl) (mc := 0) (ms := 0) (Nat.zero_le _) (Nat.zero_le _) (P := fun v u => _) ?_ (fun e u h => h) (fun v u h => h)
            intro po22x3 xx22x3 hp22x3 hx22x3
            refine g_enter2 (k := 270) (N := 300) (by omega) rfl (Nat.le_of_ble_eq_true rfl) (g_aload_n 1 (gd rfl) rfl rfl (g_iload_n 2 (gd rfl) rfl rfl (g_if_ne 5 9 (gd rfl) rfl rfl (fun c22x3x2 => ?_) (fun c22x3x2 => ?_))))
            · skip
              exact zn_ne c22x3x2 (in_c 0 rfl) rfl
            · skip
              refine g_iconst 1 6 (gd rfl) rfl rfl (g_goto 18 (gd rfl) rfl (g_putI 21 (gd rfl) rfl rfl rfl rfl (have hI22x3x18 := inv_sF (q := 109) (j := 0) hI rfl (in_w 0 2 (in_c 1 rfl) rfl); g_aload_n 22 (gd rfl) rfl rfl (g_getIv (y := (Int32.ofInt 1)) 25 (gd rfl) rfl rfl rfl (sF_get) (g_if_le 28 32 (gd rfl) rfl rfl (fun c22x3x25 => ?_) (fun c22x3x25 => ?_))))))
              · skip
                exact zn_le c22x3x25 (in_c 1 rfl) rfl
              · skip
                refine g_iconst 1 29 (gd rfl) rfl rfl (g_goto 33 (gd rfl) rfl ?_)
                refine g_ireturn (gd rfl) rfl (nb01 (in_w 0 1 (in_c 1 rfl) rfl)) (hp22x3 _ _ ?_)
                show GG _ _ _ _ _ _ _ _ [.int (Int32.ofInt 1)] _ _ _
                refine g_ireturn (gd rfl) rfl (nb01 (in_w 0 1 (in_c 1 rfl) rfl)) (hp22 _ _ ?_)
                show GG _ _ _ _ _ _ _ _ [.int (Int32.ofInt 1)] _ _ _
                refine g_if_eq 28 30 (gd rfl) rfl rfl (fun c25 => ?_) (fun c25 => ?_)
                · skip
                  exact zn_eq c25 (in_c 1 rfl) rfl
                · skip
                  exact g_iconst 0 29 (gd rfl) rfl rfl (g_ireturn (gd rfl) rfl rfl (hP _ _ ⟨(sF s 109 0 (Int32.ofInt 1)), hI22x3x18, (fr_sF rfl fr_rf), (Int32.ofInt 0), rfl, rfl, in_w (-2147483648) 2147483647 (in_c 0 rfl) rfl⟩))
          · skip
            exact zn_ne c14 (in_c 0 rfl) rfl
        · skip
          have i11x1 := z_ge 0 2147483647 c11x1 (i_rng x2) rfl
          refine g_iload_n 5 (gd rfl) rfl rfl (g_aload_n 6 (gd rfl) rfl rfl (g_getIv (y := u_109_20) 9 (gd rfl) rfl rfl rfl (e_109_20) (g_cmp_ge 12 16 (gd rfl) rfl rfl (fun c11x9 => ?_) (fun c11x9 => ?_))))
          · skip
            have i11x9 := r_le2 1 2147483647 c11x9 i3x9a i11x1 rfl
            refine g_iconst 0 17 (gd rfl) rfl rfl ?_
            refine g_ireturn (gd rfl) rfl (nb01 (in_w 0 1 (in_c 0 rfl) rfl)) (hp11 _ _ ?_)
            show GG _ _ _ _ _ _ _ _ [.int (Int32.ofInt 0), .ref (A 109)] _ _ _
            refine g_if_eq 17 21 (gd rfl) rfl rfl (fun c14 => ?_) (fun c14 => ?_)
            · skip
              refine g_iconst 0 22 (gd rfl) rfl rfl ?_
              refine g_callv (X := _) (As := [.int (Int32.ofInt 0)]) (r := []) (b := A 109) (q := 109) 25 (gd rfl) rfl rfl rfl rfl rfl (ww_o rfl) (Nat.le_of_ble_eq_true rfl) (mc := 0) (ms := 0) (Nat.zero_le _) (Nat.zero_le _) (P := fun v u => _) ?_ (fun e u h => h) (fun v u h => h)
              intro po22 xx22 hp22 hx22
              refine g_enter2 (k := 271) (N := 300) (by omega) rfl (Nat.le_of_ble_eq_true rfl) (g_aload_n 1 (gd rfl) rfl rfl (g_iload_n 2 (gd rfl) rfl rfl (g_iconst 1 3 (gd rfl) rfl rfl ?_)))
              refine g_callv (X := _) (As := [.int (Int32.ofInt 0), .int (Int32.ofInt 1)]) (r := []) (b := A 109) (q := 109) 6 (gd rfl) rfl rfl rfl rfl rfl (ww_o rfl) (Nat.le_of_ble_eq_true rfl) (mc := 0) (ms := 0) (Nat.zero_le _) (Nat.zero_le _) (P := fun v u => _) ?_ (fun e u h => h) (fun v u h => h)
              intro po22x3 xx22x3 hp22x3 hx22x3
              refine g_enter2 (k := 270) (N := 300) (by omega) rfl (Nat.le_of_ble_eq_true rfl) (g_aload_n 1 (gd rfl) rfl rfl (g_iload_n 2 (gd rfl) rfl rfl (g_if_ne 5 9 (gd rfl) rfl rfl (fun c22x3x2 => ?_) (fun c22x3x2 => ?_))))
              · skip
                exact zn_ne c22x3x2 (in_c 0 rfl) rfl
              · skip
                refine g_iconst 1 6 (gd rfl) rfl rfl (g_goto 18 (gd rfl) rfl (g_putI 21 (gd rfl) rfl rfl rfl rfl (have hI22x3x18 := inv_sF (q := 109) (j := 0) hI rfl (in_w 0 2 (in_c 1 rfl) rfl); g_aload_n 22 (gd rfl) rfl rfl (g_getIv (y := (Int32.ofInt 1)) 25 (gd rfl) rfl rfl rfl (sF_get) (g_if_le 28 32 (gd rfl) rfl rfl (fun c22x3x25 => ?_) (fun c22x3x25 => ?_))))))
                · skip
                  exact zn_le c22x3x25 (in_c 1 rfl) rfl
                · skip
                  refine g_iconst 1 29 (gd rfl) rfl rfl (g_goto 33 (gd rfl) rfl ?_)
                  refine g_ireturn (gd rfl) rfl (nb01 (in_w 0 1 (in_c 1 rfl) rfl)) (hp22x3 _ _ ?_)
                  show GG _ _ _ _ _ _ _ _ [.int (Int32.ofInt 1)] _ _ _
                  refine g_ireturn (gd rfl) rfl (nb01 (in_w 0 1 (in_c 1 rfl) rfl)) (hp22 _ _ ?_)
                  show GG _ _ _ _ _ _ _ _ [.int (Int32.ofInt 1)] _ _ _
                  refine g_if_eq 28 30 (gd rfl) rfl rfl (fun c25 => ?_) (fun c25 => ?_)
                  · skip
                    exact zn_eq c25 (in_c 1 rfl) rfl
                  · skip
                    exact g_iconst 0 29 (gd rfl) rfl rfl (g_ireturn (gd rfl) rfl rfl (hP _ _ ⟨(sF s 109 0 (Int32.ofInt 1)), hI22x3x18, (fr_sF rfl fr_rf), (Int32.ofInt 0), rfl, rfl, in_w (-2147483648) 2147483647 (in_c 0 rfl) rfl⟩))
            · skip
              exact zn_ne c14 (in_c 0 rfl) rfl
          · skip
            have i11x9 := r_lt1 0 31 c11x9 i11x1 i3x9a rfl
            refine g_iconst 1 13 (gd rfl) rfl rfl (g_goto 17 (gd rfl) rfl ?_)
            refine g_ireturn (gd rfl) rfl (nb01 (in_w 0 1 (in_c 1 rfl) rfl)) (hp11 _ _ ?_)
            show GG _ _ _ _ _ _ _ _ [.int (Int32.ofInt 1), .ref (A 109)] _ _ _
            refine g_if_eq 17 21 (gd rfl) rfl rfl (fun c14 => ?_) (fun c14 => ?_)
            · skip
              exact zn_eq c14 (in_c 1 rfl) rfl
            · skip
              refine g_iconst 1 18 (gd rfl) rfl rfl (g_goto 22 (gd rfl) rfl ?_)
              refine g_callv (X := _) (As := [.int (Int32.ofInt 1)]) (r := []) (b := A 109) (q := 109) 25 (gd rfl) rfl rfl rfl rfl rfl (ww_o rfl) (Nat.le_of_ble_eq_true rfl) (mc := 0) (ms := 0) (Nat.zero_le _) (Nat.zero_le _) (P := fun v u => _) ?_ (fun e u h => h) (fun v u h => h)
              intro po22 xx22 hp22 hx22
              refine g_enter2 (k := 271) (N := 300) (by omega) rfl (Nat.le_of_ble_eq_true rfl) (g_aload_n 1 (gd rfl) rfl rfl (g_iload_n 2 (gd rfl) rfl rfl (g_iconst 1 3 (gd rfl) rfl rfl ?_)))
              refine g_callv (X := _) (As := [.int (Int32.ofInt 1), .int (Int32.ofInt 1)]) (r := []) (b := A 109) (q := 109) 6 (gd rfl) rfl rfl rfl rfl rfl (ww_o rfl) (Nat.le_of_ble_eq_true rfl) (mc := 0) (ms := 0) (Nat.zero_le _) (Nat.zero_le _) (P := fun v u => _) ?_ (fun e u h => h) (fun v u h => h)
              intro po22x3 xx22x3 hp22x3 hx22x3
              refine g_enter2 (k := 270) (N := 300) (by omega) rfl (Nat.le_of_ble_eq_true rfl) (g_aload_n 1 (gd rfl) rfl rfl (g_iload_n 2 (gd rfl) rfl rfl (g_if_ne 5 9 (gd rfl) rfl rfl (fun c22x3x2 => ?_) (fun c22x3x2 => ?_))))
              · skip
                refine g_iload_n 10 (gd rfl) rfl rfl (g_if_ne 13 17 (gd rfl) rfl rfl (fun c22x3x10 => ?_) (fun c22x3x10 => ?_))
                · skip
                  refine g_iconst 0 18 (gd rfl) rfl rfl (g_putI 21 (gd rfl) rfl rfl rfl rfl (have hI22x3x18 := inv_sF (q := 109) (j := 0) hI rfl (in_w 0 2 (in_c 0 rfl) rfl); g_aload_n 22 (gd rfl) rfl rfl (g_getIv (y := (Int32.ofInt 0)) 25 (gd rfl) rfl rfl rfl (sF_get) (g_if_le 28 32 (gd rfl) rfl rfl (fun c22x3x25 => ?_) (fun c22x3x25 => ?_)))))
                  · skip
                    refine g_iconst 0 33 (gd rfl) rfl rfl ?_
                    refine g_ireturn (gd rfl) rfl (nb01 (in_w 0 1 (in_c 0 rfl) rfl)) (hp22x3 _ _ ?_)
                    show GG _ _ _ _ _ _ _ _ [.int (Int32.ofInt 0)] _ _ _
                    refine g_ireturn (gd rfl) rfl (nb01 (in_w 0 1 (in_c 0 rfl) rfl)) (hp22 _ _ ?_)
                    show GG _ _ _ _ _ _ _ _ [.int (Int32.ofInt 0)] _ _ _
                    refine g_if_eq 28 30 (gd rfl) rfl rfl (fun c25 => ?_) (fun c25 => ?_)
                    · skip
                      refine g_iconst 0 31 (gd rfl) rfl rfl (g_istore_n 32 (gd rfl) rfl (Nat.le_of_ble_eq_true rfl) ?_)
                      have n32 : ∀ k : Nat, (k : Int) < ((Int32.ofInt 0)).toInt → (sF s 109 0 (Int32.ofInt 0)).1 183 k = Int32.ofInt (-1) := by first | (intro k hk; exfalso; have h0 : (Int32.ofInt 0).toInt = 0 := rfl; omega) | (intro k hk; rw [sI_q]; unfold upd; have e3 : y32_3.toNatClampNeg = y32_3.toInt.toNat := rfl; by_cases c : k = y32_3.toNatClampNeg; rw [if_pos c]; (rw [if_neg c]; exact g32_0 k (by exact (have a0 := in_u i11x9; have a1 := in_u i3x9; have a2 := in_u ro_109_84; have a3 := in_u i3x9a; have a4 := in_u ro_109_19; have a5 := in_u ((in_c 0 rfl)); by omega))))
                      exact gg_w (by omega) (gg_f (gf_cons rfl (gf_cons rfl (gf_cons rfl (gf_cons rfl gf_nil)))) (ct32 2001 (sF s 109 0 (Int32.ofInt 0)) (Int32.ofInt 0) hI22x3x18 (fr_sF rfl fr_rf) (in_w 0 31 i3x9 rfl) (in_w 0 31 i11x9 rfl) (in_w 0 2000 (in_c 0 rfl) rfl) n32 (m_in 2001 (in_w 0 2000 (in_c 0 rfl) rfl) rfl)))
                    · skip
                      exact zn_ne c25 (in_c 0 rfl) rfl
                  · skip
                    exact zn_gt c22x3x25 (in_c 0 rfl) rfl
                · skip
                  exact zn_eq c22x3x10 (in_c 1 rfl) rfl
              · skip
                exact zn_eq c22x3x2 (in_c 1 rfl) rfl
