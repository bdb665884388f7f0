/-! methods, by vc.py -/
def fm_304 : FM := ([110, 112, 127, 128], [], [(109, 23), (109, 24), (109, 27), (109, 28), (109, 29), (109, 30), (109, 32)], [(109, 31)])
def fm_320 : FM := ([134], [135], [(109, 40)], [])
/-- GraphHouseModel.findShorts -/
theorem k_320 {Z : AmZ} {A : Nat → Nat} {s : GS} {ex : va_W} {d : Nat} {X : AmX} {x1 : Int32} {x2 : Int32} (hd : 6 ≤ d) (hI : Inv s) (h1 : In x1 0 31) (h2 : In x2 0 31) : GC Z d 320 [.ref (A 109), .int x1, .int x2] (WW Z A s ++ ex) 0 0 (fun v u => ∃ t : GS, Inv t ∧ Fr fm_320 s t ∧ v = none ∧ u = WW Z A t ++ ex) X := by
  intro post xp hP hX
  obtain ⟨u_109_19, e_109_19⟩ : ∃ w, w = s.2.2.1 109 19 := ⟨_, rfl⟩
  have ro_109_19 := inv_F hI 0 160 rfl e_109_19
  have ct7 : ∀ (k7 : Nat) (sc7 : GS) (y7_3 : Int32), Inv sc7 → Fr fm_320 s sc7 → (In y7_3 0 160) → 160 - (y7_3).toInt < (k7 : Int) → GG Z (d - 1) 320 post (gx xp) (1 + k7 * 900) 7 (fun j => xlook j [(0, .ref (A 109)), (1, .int x1), (2, .int x2), (3, .int y7_3)]) [] (WW Z A sc7 ++ ex) 0 0 := by
    intro k7
    induction k7 with
    | zero => intro sc7 y7_3 hIc7 hFc7 j7_3 mm7; exact m_no mm7 j7_3 rfl
    | succ k7 ih7 =>
      intro sc7 y7_3 hIc7 hFc7 j7_3 mm7
      refine gg_w (M := 1 + k7 * 900 + 900) (by omega) (g_iload_n 8 (gd rfl) rfl rfl (g_sipush 160 11 (gd rfl) rfl rfl (g_cmp_ge 14 89 (gd rfl) rfl rfl (fun c11 => ?_) (fun c11 => ?_))))
      · skip
        have i11 := r_le2 160 160 c11 (in_c 160 rfl) j7_3 rfl
        exact g_return (gd rfl) rfl (hP _ _ ⟨sc7, hIc7, hFc7, rfl, rfl⟩)
      · skip
        have i11 := r_lt1 0 159 c11 j7_3 (in_c 160 rfl) rfl
        refine g_aload_n 15 (gd rfl) rfl rfl (g_getI 18 (gd rfl) rfl rfl rfl (fun z15 e15 => have i15 := inv_F hIc7 0 2001 rfl e15; g_sipush 2000 21 (gd rfl) rfl rfl (g_cmp_gt 24 89 (gd rfl) rfl rfl (fun c21 => ?_) (fun c21 => ?_))))
        · skip
          have i21 := r_lt2 2001 2001 c21 (in_c 2000 rfl) i15 rfl
          exact g_return (gd rfl) rfl (hP _ _ ⟨sc7, hIc7, hFc7, rfl, rfl⟩)
        · skip
          have i21 := r_le1 0 2000 c21 i15 (in_c 2000 rfl) rfl
          refine g_aload_n 25 (gd rfl) rfl rfl (g_iload_n 26 (gd rfl) rfl rfl (g_iload_n 27 (gd rfl) rfl rfl (g_iconst 1 28 (gd rfl) rfl rfl (g_iload_n 29 (gd rfl) rfl rfl (g_ishl 30 (gd rfl) rfl (fun z29 e29 => ?_))))))
          refine g_callv (X := _) (As := [.int y7_3, .int x1, .int z29]) (r := []) (b := A 109) (q := 109) 33 (gd rfl) rfl rfl rfl rfl rfl (ww_o rfl) (Nat.le_of_ble_eq_true rfl) (mc := 0) (ms := 0) (Nat.zero_le _) (Nat.zero_le _) (P := fun v u => _) ?_ (fun e u h => h) (fun v u h => h)
          intro po30 xx30 hp30 hx30
          refine g_enter2 (k := 319) (N := 300) (by omega) rfl (Nat.le_of_ble_eq_true rfl) (g_aload_n 1 (gd rfl) rfl rfl (g_getA (q2 := 112) 4 (gd rfl) rfl rfl rfl rfl (g_aload_n 5 (gd rfl) rfl rfl (g_getIv (y := u_109_19) 8 (gd rfl) rfl rfl rfl (fr_F e_109_19 hFc7 rfl) (g_iload_n 9 (gd rfl) rfl rfl (g_iadd 10 (gd rfl) rfl (fun z30x9 e30x9 => have i30x9 := in_add 0 319 e30x9 ro_109_19 i11 rfl rfl; g_baload 11 (gd rfl) rfl (n := 480) rfl (in_ix i30x9 rfl) (fun z30x10 e30x10 => have i30x10 := inv_I hIc7 (n := 480) (t := 3) 0 1 rfl (in_ix i30x9 rfl) rfl e30x10; g_if_eq 14 51 (gd rfl) rfl rfl (fun c30x11 => ?_) (fun c30x11 => ?_)))))))))
          · skip
            have i30x11 := z_eq 0 0 c30x11 i30x10 rfl
            refine g_iconst 0 52 (gd rfl) rfl rfl ?_
            refine g_ireturn (gd rfl) rfl (nb01 (in_w 0 1 (in_c 0 rfl) rfl)) (hp30 _ _ ?_)
            show GG _ _ _ _ _ _ _ _ [.int (Int32.ofInt 0)] _ _ _
            refine g_if_eq 36 83 (gd rfl) rfl rfl (fun c33 => ?_) (fun c33 => ?_)
            · skip
              exact g_iinc 86 (gd rfl) rfl rfl (Nat.le_of_ble_eq_true rfl) (fun z83 e83 => have i83 := in_add 1 160 e83 i11 (in_c 1 rfl) rfl rfl; g_goto 7 (gd rfl) rfl (gg_w (by omega) (gg_f (gf_cons rfl (gf_cons rfl (gf_cons rfl (gf_cons rfl gf_nil)))) (ih7 sc7 z83 hIc7 hFc7 (in_w 0 160 i83 rfl) (m_up mm7 (t_add e83 i11 (in_c 1 rfl) rfl) (in_w 1 1 (in_c 1 rfl) rfl))))))
            · skip
              exact zn_ne c33 (in_c 0 rfl) rfl
          · skip
            have i30x11 := z_ne 1 1 c30x11 i30x10 rfl
            refine g_aload_n 15 (gd rfl) rfl rfl (g_getA (q2 := 113) 18 (gd rfl) rfl rfl rfl rfl (g_aload_n 19 (gd rfl) rfl rfl (g_getIv (y := u_109_19) 22 (gd rfl) rfl rfl rfl (fr_F e_109_19 hFc7 rfl) (g_iload_n 23 (gd rfl) rfl rfl (g_iadd 24 (gd rfl) rfl (fun z30x23 e30x23 => have i30x23 := in_add 0 319 e30x23 ro_109_19 i11 rfl rfl; g_iaload 25 (gd rfl) rfl (n := 480) rfl (in_ix i30x23 rfl) (fun z30x24 e30x24 => have i30x24 := inv_I hIc7 (n := 480) (t := 0) 0 31 rfl (in_ix i30x23 rfl) rfl e30x24; g_iload_n 26 (gd rfl) rfl rfl (g_cmp_ne 29 51 (gd rfl) rfl rfl (fun c30x26 => ?_) (fun c30x26 => ?_)))))))))
            · skip
              refine g_iconst 0 52 (gd rfl) rfl rfl ?_
              refine g_ireturn (gd rfl) rfl (nb01 (in_w 0 1 (in_c 0 rfl) rfl)) (hp30 _ _ ?_)
              show GG _ _ _ _ _ _ _ _ [.int (Int32.ofInt 0)] _ _ _
              refine g_if_eq 36 83 (gd rfl) rfl rfl (fun c33 => ?_) (fun c33 => ?_)
              · skip
                exact g_iinc 86 (gd rfl) rfl rfl (Nat.le_of_ble_eq_true rfl) (fun z83 e83 => have i83 := in_add 1 160 e83 i11 (in_c 1 rfl) rfl rfl; g_goto 7 (gd rfl) rfl (gg_w (by omega) (gg_f (gf_cons rfl (gf_cons rfl (gf_cons rfl (gf_cons rfl gf_nil)))) (ih7 sc7 z83 hIc7 hFc7 (in_w 0 160 i83 rfl) (m_up mm7 (t_add e83 i11 (in_c 1 rfl) rfl) (in_w 1 1 (in_c 1 rfl) rfl))))))
              · skip
                exact zn_ne c33 (in_c 0 rfl) rfl
            · skip
              refine g_iload_n 30 (gd rfl) rfl rfl (g_aload_n 31 (gd rfl) rfl rfl (g_getA (q2 := 114) 34 (gd rfl) rfl rfl rfl rfl (g_aload_n 35 (gd rfl) rfl rfl (g_getIv (y := u_109_19) 38 (gd rfl) rfl rfl rfl (fr_F e_109_19 hFc7 rfl) (g_iload_n 39 (gd rfl) rfl rfl (g_iadd 40 (gd rfl) rfl (fun z30x39 e30x39 => have i30x39 := in_add 0 319 e30x39 ro_109_19 i11 rfl rfl; g_iaload 41 (gd rfl) rfl (n := 480) rfl (in_ix i30x39 rfl) (fun z30x40 e30x40 => ?_))))))))
              have i30x40 := inv_I hIc7 (n := 480) (t := 0) 0 31 rfl (in_ix i30x39 rfl) rfl e30x40
              refine g_calls (As := [.int z29, .int z30x40]) (r := []) 44 (gd rfl) rfl rfl rfl rfl rfl (Nat.le_of_ble_eq_true rfl) (mc := 0) (ms := 0) (Nat.zero_le _) (Nat.zero_le _) (P := fun v u => _) ?_ (fun v u h => h)
              intro po30x41 xx30x41 hp30x41 hx30x41
              refine g_enter2 (k := 311) (N := 300) (by omega) rfl (Nat.le_of_ble_eq_true rfl) (g_iload_n 1 (gd rfl) rfl rfl (g_iload_n 2 (gd rfl) rfl rfl (g_ishr 3 (gd rfl) rfl (fun z30x41x2 e30x41x2 => g_iconst 1 4 (gd rfl) rfl rfl (g_iand 5 (gd rfl) rfl (fun z30x41x4 e30x41x4 => have i30x41x4 := in_and2 e30x41x4 (in_c 1 rfl) rfl; g_iconst 1 6 (gd rfl) rfl rfl (g_cmp_ne 9 13 (gd rfl) rfl rfl (fun c30x41x6 => ?_) (fun c30x41x6 => ?_))))))))
              · skip
                have i30x41x6 := r_ne1 0 0 c30x41x6 i30x41x4 (in_c 1 rfl) rfl
                refine g_iconst 0 14 (gd rfl) rfl rfl ?_
                refine g_ireturn (gd rfl) rfl (nb01 (in_w 0 1 (in_c 0 rfl) rfl)) (hp30x41 _ _ ?_)
                show GG _ _ _ _ _ _ _ _ [.int (Int32.ofInt 0)] _ _ _
                refine g_if_ne 47 51 (gd rfl) rfl rfl (fun c30x44 => ?_) (fun c30x44 => ?_)
                · skip
                  exact zn_ne c30x44 (in_c 0 rfl) rfl
                · skip
                  refine g_iconst 1 48 (gd rfl) rfl rfl (g_goto 52 (gd rfl) rfl ?_)
                  refine g_ireturn (gd rfl) rfl (nb01 (in_w 0 1 (in_c 1 rfl) rfl)) (hp30 _ _ ?_)
                  show GG _ _ _ _ _ _ _ _ [.int (Int32.ofInt 1)] _ _ _
                  refine g_if_eq 36 83 (gd rfl) rfl rfl (fun c33 => ?_) (fun c33 => ?_)
                  · skip
                    exact zn_eq c33 (in_c 1 rfl) rfl
                  · skip
                    refine g_aload_n 37 (gd rfl) rfl rfl (g_getA (q2 := 114) 40 (gd rfl) rfl rfl rfl rfl (g_aload_n 41 (gd rfl) rfl rfl (g_getIv (y := u_109_19) 44 (gd rfl) rfl rfl rfl (fr_F e_109_19 hFc7 rfl) (g_iload_n 45 (gd rfl) rfl rfl (g_iadd 46 (gd rfl) rfl (fun z45 e45 => have i45 := in_add 0 319 e45 ro_109_19 i11 rfl rfl; g_iaload 47 (gd rfl) rfl (n := 480) rfl (in_ix i45 rfl) (fun z46 e46 => have i46 := inv_I hIc7 (n := 480) (t := 0) 0 31 rfl (in_ix i45 rfl) rfl e46; g_istore 49 (gd rfl) rfl (Nat.le_of_ble_eq_true rfl) (g_iload 51 (gd rfl) rfl rfl (g_iload_n 52 (gd rfl) rfl rfl (g_cmp_ne 55 67 (gd rfl) rfl rfl (fun c52 => ?_) (fun c52 => ?_)))))))))))
                    · skip
                      refine g_aload_n 68 (gd rfl) rfl rfl (g_iload_n 69 (gd rfl) rfl rfl (g_iload 71 (gd rfl) rfl rfl (g_iconst 1 72 (gd rfl) rfl rfl (g_iload_n 73 (gd rfl) rfl rfl (g_ishl 74 (gd rfl) rfl (fun z73 e73 => g_iconst 1 75 (gd rfl) rfl rfl (g_iload 77 (gd rfl) rfl rfl (g_ishl 78 (gd rfl) rfl (fun z77 e77 => g_ior 79 (gd rfl) rfl (fun z78 e78 => g_iload_n 80 (gd rfl) rfl rfl (g_callv (X := _) (As := [.int y7_3, .int z46, .int z78, .int x2]) (r := []) (b := A 109) (q := 109) 83 (gd rfl) rfl rfl rfl rfl rfl (ww_o rfl) (Nat.le_of_ble_eq_true rfl) (Nat.zero_le _) (Nat.zero_le _) (k_321 (by omega) hIc7 (in_w 0 159 i11 rfl) (in_w 0 31 i46 rfl) (in_w 0 31 h2 rfl)) (fun e u h => h) (fun v u h => ?_))))))))))))
                      obtain ⟨s80, hI80, hF80, rfl, rfl⟩ := h
                      show GG _ _ _ _ _ _ _ _ [] _ _ _
                      exact g_iinc 86 (gd rfl) rfl rfl (Nat.le_of_ble_eq_true rfl) (fun z83 e83 => have i83 := in_add 1 160 e83 i11 (in_c 1 rfl) rfl rfl; g_goto 7 (gd rfl) rfl (gg_w (by omega) (gg_f (gf_cons rfl (gf_cons rfl (gf_cons rfl (gf_cons rfl gf_nil)))) (ih7 s80 z83 hI80 (fr_tr rfl hFc7 hF80) (in_w 0 160 i83 rfl) (m_up mm7 (t_add e83 i11 (in_c 1 rfl) rfl) (in_w 1 1 (in_c 1 rfl) rfl))))))
                    · skip
                      refine g_aload_n 56 (gd rfl) rfl rfl (g_iconst 1 57 (gd rfl) rfl rfl (g_iload_n 58 (gd rfl) rfl rfl (g_iconst 0 59 (gd rfl) rfl rfl (g_iconst 0 60 (gd rfl) rfl rfl (g_iconst 0 61 (gd rfl) rfl rfl (g_callv (X := _) (As := [.int (Int32.ofInt 1), .int y7_3, .int (Int32.ofInt 0), .int (Int32.ofInt 0), .int (Int32.ofInt 0)]) (r := []) (b := A 109) (q := 109) 64 (gd rfl) rfl rfl rfl rfl rfl (ww_o rfl) (Nat.le_of_ble_eq_true rfl) (Nat.zero_le _) (Nat.zero_le _) (k_318 (by omega) hIc7 (in_w 1 4 (in_c 1 rfl) rfl) (in_w 0 159 i11 rfl) (in_w 0 159 (in_c 0 rfl) rfl) (in_w 0 159 (in_c 0 rfl) rfl) (in_w 0 159 (in_c 0 rfl) rfl)) (fun e u h => h) (fun v u h => ?_)))))))
                      obtain ⟨s61, hI61, hF61, rfl, rfl⟩ := h
                      show GG _ _ _ _ _ _ _ _ [] _ _ _
                      exact g_goto 83 (gd rfl) rfl (g_iinc 86 (gd rfl) rfl rfl (Nat.le_of_ble_eq_true rfl) (fun z83 e83 => have i83 := in_add 1 160 e83 i11 (in_c 1 rfl) rfl rfl; g_goto 7 (gd rfl) rfl (gg_w (by omega) (gg_f (gf_cons rfl (gf_cons rfl (gf_cons rfl (gf_cons rfl gf_nil)))) (ih7 s61 z83 hI61 (fr_tr rfl hFc7 hF61) (in_w 0 160 i83 rfl) (m_up mm7 (t_add e83 i11 (in_c 1 rfl) rfl) (in_w 1 1 (in_c 1 rfl) rfl)))))))
              · skip
                have i30x41x6 := r_eq1 1 1 c30x41x6 i30x41x4 (in_c 1 rfl) rfl
                refine g_iconst 1 10 (gd rfl) rfl rfl (g_goto 14 (gd rfl) rfl ?_)
                refine g_ireturn (gd rfl) rfl (nb01 (in_w 0 1 (in_c 1 rfl) rfl)) (hp30x41 _ _ ?_)
                show GG _ _ _ _ _ _ _ _ [.int (Int32.ofInt 1)] _ _ _
                refine g_if_ne 47 51 (gd rfl) rfl rfl (fun c30x44 => ?_) (fun c30x44 => ?_)
                · skip
                  refine g_iconst 0 52 (gd rfl) rfl rfl ?_
                  refine g_ireturn (gd rfl) rfl (nb01 (in_w 0 1 (in_c 0 rfl) rfl)) (hp30 _ _ ?_)
                  show GG _ _ _ _ _ _ _ _ [.int (Int32.ofInt 0)] _ _ _
                  refine g_if_eq 36 83 (gd rfl) rfl rfl (fun c33 => ?_) (fun c33 => ?_)
                  · skip
                    exact g_iinc 86 (gd rfl) rfl rfl (Nat.le_of_ble_eq_true rfl) (fun z83 e83 => have i83 := in_add 1 160 e83 i11 (in_c 1 rfl) rfl rfl; g_goto 7 (gd rfl) rfl (gg_w (by omega) (gg_f (gf_cons rfl (gf_cons rfl (gf_cons rfl (gf_cons rfl gf_nil)))) (ih7 sc7 z83 hIc7 hFc7 (in_w 0 160 i83 rfl) (m_up mm7 (t_add e83 i11 (in_c 1 rfl) rfl) (in_w 1 1 (in_c 1 rfl) rfl))))))
                  · skip
                    exact zn_ne c33 (in_c 0 rfl) rfl
                · skip
                  exact zn_eq c30x44 (in_c 1 rfl) rfl
  exact g_enter2 (k := 320) (N := 145801) (by omega) rfl (Nat.le_of_ble_eq_true rfl) (g_aload_n 1 (gd rfl) rfl rfl (g_iconst 0 2 (gd rfl) rfl rfl (g_putI 5 (gd rfl) rfl rfl rfl rfl (have hI2 := inv_sF (q := 109) (j := 40) hI rfl (in_w 0 2001 (in_c 0 rfl) rfl); g_iconst 0 6 (gd rfl) rfl rfl (g_istore_n 7 (gd rfl) rfl (Nat.le_of_ble_eq_true rfl) (gg_w (by omega) (gg_f (gf_cons rfl (gf_cons rfl (gf_cons rfl (gf_cons rfl gf_nil)))) (ct7 161 (sF s 109 40 (Int32.ofInt 0)) (Int32.ofInt 0) hI2 (fr_sF rfl fr_rf) (in_w 0 160 (in_c 0 rfl) rfl) (m_in 161 (in_w 0 160 (in_c 0 rfl) rfl) rfl)))))))))
