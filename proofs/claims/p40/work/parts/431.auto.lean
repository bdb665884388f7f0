/-! methods, by vc.py -/
def fm_392 : FM := ([], [], [(109, 23), (109, 24), (109, 27), (109, 28), (109, 29), (109, 30)], [(109, 31)])
/-- GraphHouseModel.nextOfProgram -/
theorem k_392 {Z : AmZ} {A : Nat → Nat} {s : GS} {ex : va_W} {d : Nat} {X : AmX} {u_109_27 : Int32} {u_109_22 : Int32} (hd : 4 ≤ d) (hI : Inv s) (e_109_27 : u_109_27 = s.2.2.1 109 27) (e_109_22 : u_109_22 = s.2.2.1 109 22) (p_0 : (u_109_27).toInt ≤ (u_109_22).toInt) : GC Z d 392 [.ref (A 109)] (WW Z A s ++ ex) 0 0 (fun v u => ∃ t : GS, Inv t ∧ Fr fm_392 s t ∧ ((t.2.2.1 109 27).toInt ≤ (t.2.2.1 109 22).toInt) ∧ ((s.2.2.1 109 27).toInt ≤ (t.2.2.1 109 27).toInt) ∧ ((t.2.2.1 109 28).toInt ≠ 0 → (s.2.2.1 109 27).toInt + 1 ≤ (t.2.2.1 109 27).toInt) ∧ v = none ∧ u = WW Z A t ++ ex) X := by
  intro post xp hP hX
  have ro_109_22 := inv_F hI 0 1000 rfl e_109_22
  have ct0 : ∀ (k0 : Nat) (sc0 : GS) (w0_109_27 : Int32), Inv sc0 → Fr fm_392 s sc0 → (w0_109_27 = sc0.2.2.1 109 27) → ((w0_109_27).toInt ≤ (u_109_22).toInt) → ((u_109_27).toInt ≤ (w0_109_27).toInt) → (u_109_22).toInt - (w0_109_27).toInt < (k0 : Int) → GG Z (d - 1) 392 post (gx xp) (1 + k0 * 900) 0 (fun j => xlook j [(0, .ref (A 109))]) [] (WW Z A sc0 ++ ex) 0 0 := by
    intro k0
    induction k0 with
    | zero => intro sc0 w0_109_27 hIc0 hFc0 v0_109_27 n0_0 n0_1 mm0; exfalso; have a0 := in_u ro_109_22; have a1 := in_u ((inv_F hIc0 0 1000 rfl v0_109_27)); omega
    | succ k0 ih0 =>
      intro sc0 w0_109_27 hIc0 hFc0 v0_109_27 n0_0 n0_1 mm0
      refine gg_w (M := 1 + k0 * 900 + 900) gws ?_
      refine g_aload_n 1 (gd rfl) rfl rfl ?_
      refine g_getI 4 (gd rfl) rfl rfl rfl (fun z1 e1 => ?_)
      have q1 : w0_109_27 = z1 := (v0_109_27).trans e1.symm
      subst q1
      refine g_aload_n 5 (gd rfl) rfl rfl ?_
      refine g_getI 8 (gd rfl) rfl rfl rfl (fun z5 e5 => ?_)
      have q5 : u_109_22 = z5 := (fr_F e_109_22 hFc0 rfl).trans e5.symm
      subst q5
      refine g_cmp_ge 11 38 (gd rfl) rfl rfl (fun c8 => ?_) (fun c8 => ?_)
      · skip
        refine g_aload_n 39 (gd rfl) rfl rfl ?_
        refine g_aload_n 40 (gd rfl) rfl rfl ?_
        refine g_getI 43 (gd rfl) rfl rfl rfl (fun z40 e40 => ?_)
        have q40 : w0_109_27 = z40 := (v0_109_27).trans e40.symm
        subst q40
        refine g_putI 46 (gd rfl) rfl rfl rfl rfl ?_
        have hI43 := inv_sF (q := 109) (j := 29) hIc0 rfl (in_w 0 1000 (inv_F hIc0 0 1000 rfl v0_109_27) rfl)
        refine g_aload_n 47 (gd rfl) rfl rfl ?_
        refine g_getI 50 (gd rfl) rfl rfl rfl (fun z47 e47 => ?_)
        have q47 : w0_109_27 = z47 := (sF_ne rfl (v0_109_27)).trans e47.symm
        subst q47
        refine g_aload_n 51 (gd rfl) rfl rfl ?_
        refine g_getI 54 (gd rfl) rfl rfl rfl (fun z51 e51 => ?_)
        have q51 : u_109_22 = z51 := (sF_ne rfl (fr_F e_109_22 hFc0 rfl)).trans e51.symm
        subst q51
        refine g_cmp_ne 57 63 (gd rfl) rfl rfl (fun c54 => ?_) (fun c54 => ?_)
        · skip
          refine g_aload_n 64 (gd rfl) rfl rfl ?_
          refine g_getA (q2 := 125) 67 (gd rfl) rfl rfl rfl rfl ?_
          refine g_aload_n 68 (gd rfl) rfl rfl ?_
          refine g_getI 71 (gd rfl) rfl rfl rfl (fun z68 e68 => ?_)
          have q68 : w0_109_27 = z68 := (sF_ne rfl (v0_109_27)).trans e68.symm
          subst q68
          have i71 : In w0_109_27 0 999 := by have a0 := in_u ro_109_22; have a1 := in_u ((inv_F hIc0 0 1000 rfl v0_109_27)); exact ⟨by omega, by omega⟩
          refine g_iaload 72 (gd rfl) rfl (n := 1000) rfl (in_ix i71 rfl) (fun z71 e71 => ?_)
          have i71a := inv_I hI43 (n := 1000) (t := 0) 0 126 rfl (in_ix i71 rfl) rfl e71
          refine g_istore_n 73 (gd rfl) rfl (Nat.le_of_ble_eq_true rfl) ?_
          refine g_aload_n 74 (gd rfl) rfl rfl ?_
          refine g_iload_n 75 (gd rfl) rfl rfl ?_
          refine g_putI 78 (gd rfl) rfl rfl rfl rfl ?_
          have hI75 := inv_sF (q := 109) (j := 30) hI43 rfl (in_w (-2147483648) 2147483647 i71a rfl)
          refine g_iload_n 79 (gd rfl) rfl rfl ?_
          refine g_calls (As := [.int z71]) (r := []) 82 (gd rfl) rfl rfl rfl rfl rfl (Nat.le_of_ble_eq_true rfl) (mc := 0) (ms := 0) (Nat.zero_le _) (Nat.zero_le _) (P := fun v u => _) ?_ (fun v u h => h)
          intro po79 xx79 hp79 hx79
          refine g_enter2 (k := 297) (N := 300) (by first | exact dq1 hd rfl | exact dq0 hd rfl | exact dq2 hd rfl | exact dq3 hd rfl | omega) rfl (Nat.le_of_ble_eq_true rfl) ?_
          refine g_iload_n 1 (gd rfl) rfl rfl ?_
          refine g_bipush 48 3 (gd rfl) rfl rfl ?_
          refine g_cmp_lt 6 16 (gd rfl) rfl rfl (fun c79x3 => ?_) (fun c79x3 => ?_)
          · skip
            have i79x3 := r_lt1 0 47 c79x3 i71a (in_c 48 rfl) rfl
            refine g_iconst 0 17 (gd rfl) rfl rfl ?_
            refine g_ireturn (gd rfl) rfl (nb01 (in_w 0 1 (in_c 0 rfl) rfl)) (hp79 _ _ ?_)
            show GG _ _ _ _ _ _ _ _ [.int (Int32.ofInt 0)] _ _ _
            refine g_if_eq 85 97 (gd rfl) rfl rfl (fun c82 => ?_) (fun c82 => ?_)
            · skip
              refine g_aload_n 98 (gd rfl) rfl rfl ?_
              refine g_iload_n 99 (gd rfl) rfl rfl ?_
              refine g_calls (As := [.int z71]) (r := [.ref (A 109)]) 102 (gd rfl) rfl rfl rfl rfl rfl (Nat.le_of_ble_eq_true rfl) (mc := 0) (ms := 0) (Nat.zero_le _) (Nat.zero_le _) (P := fun v u => _) ?_ (fun v u h => h)
              intro po99 xx99 hp99 hx99
              refine g_enter2 (k := 296) (N := 300) (by first | exact dq1 hd rfl | exact dq0 hd rfl | exact dq2 hd rfl | exact dq3 hd rfl | omega) rfl (Nat.le_of_ble_eq_true rfl) ?_
              refine g_iload_n 1 (gd rfl) rfl rfl ?_
              refine g_bipush 97 3 (gd rfl) rfl rfl ?_
              refine g_cmp_lt 6 16 (gd rfl) rfl rfl (fun c99x3 => ?_) (fun c99x3 => ?_)
              · skip
                refine g_iconst 0 17 (gd rfl) rfl rfl ?_
                refine g_ireturn (gd rfl) rfl (nb01 (in_w 0 1 (in_c 0 rfl) rfl)) (hp99 _ _ ?_)
                show GG _ _ _ _ _ _ _ _ [.int (Int32.ofInt 0), .ref (A 109)] _ _ _
                refine g_if_eq 105 109 (gd rfl) rfl rfl (fun c102 => ?_) (fun c102 => ?_)
                · skip
                  refine g_iconst 3 110 (gd rfl) rfl rfl ?_
                  refine g_putI 113 (gd rfl) rfl rfl rfl rfl ?_
                  have hI110 := inv_sF (q := 109) (j := 28) hI75 rfl (in_w (-2147483648) 2147483647 (in_c 3 rfl) rfl)
                  refine g_aload_n 114 (gd rfl) rfl rfl ?_
                  refine g_dup 115 (gd rfl) rfl rfl ?_
                  refine g_getI 118 (gd rfl) rfl rfl rfl (fun z115 e115 => ?_)
                  have q115 : w0_109_27 = z115 := (sF_ne rfl (sF_ne rfl (sF_ne rfl (v0_109_27)))).trans e115.symm
                  subst q115
                  refine g_iconst 1 119 (gd rfl) rfl rfl ?_
                  refine g_iadd 120 (gd rfl) rfl (fun z119 e119 => ?_)
                  have i119 := in_add 1 1000 e119 i71 (in_c 1 rfl) rfl rfl
                  refine g_putI 123 (gd rfl) rfl rfl rfl rfl ?_
                  have hI120 := inv_sF (q := 109) (j := 27) hI110 rfl (in_w 0 1000 i119 rfl)
                  refine g_iload_n 124 (gd rfl) rfl rfl ?_
                  refine g_bipush 59 126 (gd rfl) rfl rfl ?_
                  refine g_cmp_eq 129 171 (gd rfl) rfl rfl (fun c126 => ?_) (fun c126 => ?_)
                  · skip
                    exact n_eq c126 i79x3 (in_c 59 rfl) rfl
                  · skip
                    refine g_iload_n 130 (gd rfl) rfl rfl ?_
                    refine g_bipush 60 132 (gd rfl) rfl rfl ?_
                    refine g_cmp_eq 135 171 (gd rfl) rfl rfl (fun c132 => ?_) (fun c132 => ?_)
                    · skip
                      exact n_eq c132 i79x3 (in_c 60 rfl) rfl
                    · skip
                      refine g_iload_n 136 (gd rfl) rfl rfl ?_
                      refine g_bipush 61 138 (gd rfl) rfl rfl ?_
                      refine g_cmp_eq 141 171 (gd rfl) rfl rfl (fun c138 => ?_) (fun c138 => ?_)
                      · skip
                        exact n_eq c138 i79x3 (in_c 61 rfl) rfl
                      · skip
                        refine g_iload_n 142 (gd rfl) rfl rfl ?_
                        refine g_bipush 43 144 (gd rfl) rfl rfl ?_
                        refine g_cmp_eq 147 171 (gd rfl) rfl rfl (fun c144 => ?_) (fun c144 => ?_)
                        · skip
                          have i144 := r_eq1 43 43 c144 i79x3 (in_c 43 rfl) rfl
                          refine g_iconst 1 172 (gd rfl) rfl rfl ?_
                          refine g_goto 176 (gd rfl) rfl ?_
                          refine g_istore_n 177 (gd rfl) rfl (Nat.le_of_ble_eq_true rfl) ?_
                          refine g_aload_n 178 (gd rfl) rfl rfl ?_
                          refine g_getI 181 (gd rfl) rfl rfl rfl (fun z178 e178 => ?_)
                          have q178 : (Int32.ofInt 3) = z178 := (sF_ne rfl (sF_get)).trans e178.symm
                          subst q178
                          refine g_iconst 3 182 (gd rfl) rfl rfl ?_
                          refine g_cmp_ne 185 198 (gd rfl) rfl rfl (fun c182 => ?_) (fun c182 => ?_)
                          · skip
                            exact n_ne c182 (in_c 3 rfl) (in_c 3 rfl) rfl
                          · skip
                            refine g_iload_n 186 (gd rfl) rfl rfl ?_
                            refine g_if_ne 189 198 (gd rfl) rfl rfl (fun c186 => ?_) (fun c186 => ?_)
                            · skip
                              have n198 : (z119).toInt ≤ (u_109_22).toInt := by have a0 := in_u ro_109_22; have a1 := in_u i71; have a2 := in_u ((in_c 1 rfl)); have a3 := in_u i144; have a4 := in_u i119; have a5 := t_add e119 i71 (in_c 1 rfl) rfl; have a6 := in_u ((in_c 3 rfl)); omega
                              have n198a : ((sF (sF (sF (sF sc0 109 29 w0_109_27) 109 30 z71) 109 28 (Int32.ofInt 3)) 109 27 z119).2.2.1 109 27).toInt ≤ ((sF (sF (sF (sF sc0 109 29 w0_109_27) 109 30 z71) 109 28 (Int32.ofInt 3)) 109 27 z119).2.2.1 109 22).toInt := by have b0 : z119 = (sF (sF (sF (sF sc0 109 29 w0_109_27) 109 30 z71) 109 28 (Int32.ofInt 3)) 109 27 z119).2.2.1 109 27 := sF_get; have b1 : u_109_22 = (sF (sF (sF (sF sc0 109 29 w0_109_27) 109 30 z71) 109 28 (Int32.ofInt 3)) 109 27 z119).2.2.1 109 22 := sF_ne rfl (sF_ne rfl (sF_ne rfl (sF_ne rfl (fr_F e_109_22 hFc0 rfl)))); rw [← b0, ← b1]; exact n198
                              have n198b : (u_109_27).toInt ≤ (z119).toInt := by have a0 := in_u ro_109_22; have a1 := in_u i71; have a2 := in_u ((in_c 1 rfl)); have a3 := in_u i144; have a4 := in_u i119; have a5 := t_add e119 i71 (in_c 1 rfl) rfl; have a6 := in_u ((in_c 3 rfl)); omega
                              have n198c : (s.2.2.1 109 27).toInt ≤ ((sF (sF (sF (sF sc0 109 29 w0_109_27) 109 30 z71) 109 28 (Int32.ofInt 3)) 109 27 z119).2.2.1 109 27).toInt := by have b0 : z119 = (sF (sF (sF (sF sc0 109 29 w0_109_27) 109 30 z71) 109 28 (Int32.ofInt 3)) 109 27 z119).2.2.1 109 27 := sF_get; first | (rw [← b0, ← e_109_27]; exact n198b) | (rw [← b0]; exact n198b)
                              have n198d : ((Int32.ofInt 3)).toInt ≠ 0 → (u_109_27).toInt + 1 ≤ (z119).toInt := by have a0 := in_u ro_109_22; have a1 := in_u i71; have a2 := in_u ((in_c 1 rfl)); have a3 := in_u i144; have a4 := in_u i119; have a5 := t_add e119 i71 (in_c 1 rfl) rfl; have a6 := in_u ((in_c 3 rfl)); omega
                              have n198e : ((sF (sF (sF (sF sc0 109 29 w0_109_27) 109 30 z71) 109 28 (Int32.ofInt 3)) 109 27 z119).2.2.1 109 28).toInt ≠ 0 → (s.2.2.1 109 27).toInt + 1 ≤ ((sF (sF (sF (sF sc0 109 29 w0_109_27) 109 30 z71) 109 28 (Int32.ofInt 3)) 109 27 z119).2.2.1 109 27).toInt := by have b0 : (Int32.ofInt 3) = (sF (sF (sF (sF sc0 109 29 w0_109_27) 109 30 z71) 109 28 (Int32.ofInt 3)) 109 27 z119).2.2.1 109 28 := sF_ne rfl (sF_get); have b1 : z119 = (sF (sF (sF (sF sc0 109 29 w0_109_27) 109 30 z71) 109 28 (Int32.ofInt 3)) 109 27 z119).2.2.1 109 27 := sF_get; first | (rw [← b0, ← b1, ← e_109_27]; exact n198d) | (rw [← b0, ← b1]; exact n198d)
                              exact g_return (gd rfl) rfl (hP _ _ ⟨(sF (sF (sF (sF sc0 109 29 w0_109_27) 109 30 z71) 109 28 (Int32.ofInt 3)) 109 27 z119), hI120, (fr_sF rfl (fr_sF rfl (fr_sF rfl (fr_sF rfl hFc0)))), n198a, n198c, n198e, rfl, rfl⟩)
                            · skip
                              exact zn_eq c186 (in_c 1 rfl) rfl
                        · skip
                          refine g_iload_n 148 (gd rfl) rfl rfl ?_
                          refine g_bipush 45 150 (gd rfl) rfl rfl ?_
                          refine g_cmp_eq 153 171 (gd rfl) rfl rfl (fun c150 => ?_) (fun c150 => ?_)
                          · skip
                            have i150 := r_eq1 45 45 c150 i79x3 (in_c 45 rfl) rfl
                            refine g_iconst 1 172 (gd rfl) rfl rfl ?_
                            refine g_goto 176 (gd rfl) rfl ?_
                            refine g_istore_n 177 (gd rfl) rfl (Nat.le_of_ble_eq_true rfl) ?_
                            refine g_aload_n 178 (gd rfl) rfl rfl ?_
                            refine g_getI 181 (gd rfl) rfl rfl rfl (fun z178 e178 => ?_)
                            have q178 : (Int32.ofInt 3) = z178 := (sF_ne rfl (sF_get)).trans e178.symm
                            subst q178
                            refine g_iconst 3 182 (gd rfl) rfl rfl ?_
                            refine g_cmp_ne 185 198 (gd rfl) rfl rfl (fun c182 => ?_) (fun c182 => ?_)
                            · skip
                              exact n_ne c182 (in_c 3 rfl) (in_c 3 rfl) rfl
                            · skip
                              refine g_iload_n 186 (gd rfl) rfl rfl ?_
                              refine g_if_ne 189 198 (gd rfl) rfl rfl (fun c186 => ?_) (fun c186 => ?_)
                              · skip
                                have n198 : (z119).toInt ≤ (u_109_22).toInt := by have a0 := in_u ro_109_22; have a1 := in_u i71; have a2 := in_u ((in_c 1 rfl)); have a3 := in_u i150; have a4 := in_u i119; have a5 := t_add e119 i71 (in_c 1 rfl) rfl; have a6 := in_u ((in_c 3 rfl)); omega
                                have n198a : ((sF (sF (sF (sF sc0 109 29 w0_109_27) 109 30 z71) 109 28 (Int32.ofInt 3)) 109 27 z119).2.2.1 109 27).toInt ≤ ((sF (sF (sF (sF sc0 109 29 w0_109_27) 109 30 z71) 109 28 (Int32.ofInt 3)) 109 27 z119).2.2.1 109 22).toInt := by have b0 : z119 = (sF (sF (sF (sF sc0 109 29 w0_109_27) 109 30 z71) 109 28 (Int32.ofInt 3)) 109 27 z119).2.2.1 109 27 := sF_get; have b1 : u_109_22 = (sF (sF (sF (sF sc0 109 29 w0_109_27) 109 30 z71) 109 28 (Int32.ofInt 3)) 109 27 z119).2.2.1 109 22 := sF_ne rfl (sF_ne rfl (sF_ne rfl (sF_ne rfl (fr_F e_109_22 hFc0 rfl)))); rw [← b0, ← b1]; exact n198
                                have n198b : (u_109_27).toInt ≤ (z119).toInt := by have a0 := in_u ro_109_22; have a1 := in_u i71; have a2 := in_u ((in_c 1 rfl)); have a3 := in_u i150; have a4 := in_u i119; have a5 := t_add e119 i71 (in_c 1 rfl) rfl; have a6 := in_u ((in_c 3 rfl)); omega
                                have n198c : (s.2.2.1 109 27).toInt ≤ ((sF (sF (sF (sF sc0 109 29 w0_109_27) 109 30 z71) 109 28 (Int32.ofInt 3)) 109 27 z119).2.2.1 109 27).toInt := by have b0 : z119 = (sF (sF (sF (sF sc0 109 29 w0_109_27) 109 30 z71) 109 28 (Int32.ofInt 3)) 109 27 z119).2.2.1 109 27 := sF_get; first | (rw [← b0, ← e_109_27]; exact n198b) | (rw [← b0]; exact n198b)
                                have n198d : ((Int32.ofInt 3)).toInt ≠ 0 → (u_109_27).toInt + 1 ≤ (z119).toInt := by have a0 := in_u ro_109_22; have a1 := in_u i71; have a2 := in_u ((in_c 1 rfl)); have a3 := in_u i150; have a4 := in_u i119; have a5 := t_add e119 i71 (in_c 1 rfl) rfl; have a6 := in_u ((in_c 3 rfl)); omega
                                have n198e : ((sF (sF (sF (sF sc0 109 29 w0_109_27) 109 30 z71) 109 28 (Int32.ofInt 3)) 109 27 z119).2.2.1 109 28).toInt ≠ 0 → (s.2.2.1 109 27).toInt + 1 ≤ ((sF (sF (sF (sF sc0 109 29 w0_109_27) 109 30 z71) 109 28 (Int32.ofInt 3)) 109 27 z119).2.2.1 109 27).toInt := by have b0 : (Int32.ofInt 3) = (sF (sF (sF (sF sc0 109 29 w0_109_27) 109 30 z71) 109 28 (Int32.ofInt 3)) 109 27 z119).2.2.1 109 28 := sF_ne rfl (sF_get); have b1 : z119 = (sF (sF (sF (sF sc0 109 29 w0_109_27) 109 30 z71) 109 28 (Int32.ofInt 3)) 109 27 z119).2.2.1 109 27 := sF_get; first | (rw [← b0, ← b1, ← e_109_27]; exact n198d) | (rw [← b0, ← b1]; exact n198d)
                                exact g_return (gd rfl) rfl (hP _ _ ⟨(sF (sF (sF (sF sc0 109 29 w0_109_27) 109 30 z71) 109 28 (Int32.ofInt 3)) 109 27 z119), hI120, (fr_sF rfl (fr_sF rfl (fr_sF rfl (fr_sF rfl hFc0)))), n198a, n198c, n198e, rfl, rfl⟩)
                              · skip
                                exact zn_eq c186 (in_c 1 rfl) rfl
                          · skip
                            refine g_iload_n 154 (gd rfl) rfl rfl ?_
                            refine g_bipush 42 156 (gd rfl) rfl rfl ?_
                            refine g_cmp_eq 159 171 (gd rfl) rfl rfl (fun c156 => ?_) (fun c156 => ?_)
                            · skip
                              have i156 := r_eq1 42 42 c156 i79x3 (in_c 42 rfl) rfl
                              refine g_iconst 1 172 (gd rfl) rfl rfl ?_
                              refine g_goto 176 (gd rfl) rfl ?_
                              refine g_istore_n 177 (gd rfl) rfl (Nat.le_of_ble_eq_true rfl) ?_
                              refine g_aload_n 178 (gd rfl) rfl rfl ?_
                              refine g_getI 181 (gd rfl) rfl rfl rfl (fun z178 e178 => ?_)
                              have q178 : (Int32.ofInt 3) = z178 := (sF_ne rfl (sF_get)).trans e178.symm
                              subst q178
                              refine g_iconst 3 182 (gd rfl) rfl rfl ?_
                              refine g_cmp_ne 185 198 (gd rfl) rfl rfl (fun c182 => ?_) (fun c182 => ?_)
                              · skip
                                exact n_ne c182 (in_c 3 rfl) (in_c 3 rfl) rfl
                              · skip
                                refine g_iload_n 186 (gd rfl) rfl rfl ?_
                                refine g_if_ne 189 198 (gd rfl) rfl rfl (fun c186 => ?_) (fun c186 => ?_)
                                · skip
                                  have n198 : (z119).toInt ≤ (u_109_22).toInt := by have a0 := in_u ro_109_22; have a1 := in_u i71; have a2 := in_u ((in_c 1 rfl)); have a3 := in_u i156; have a4 := in_u i119; have a5 := t_add e119 i71 (in_c 1 rfl) rfl; have a6 := in_u ((in_c 3 rfl)); omega
                                  have n198a : ((sF (sF (sF (sF sc0 109 29 w0_109_27) 109 30 z71) 109 28 (Int32.ofInt 3)) 109 27 z119).2.2.1 109 27).toInt ≤ ((sF (sF (sF (sF sc0 109 29 w0_109_27) 109 30 z71) 109 28 (Int32.ofInt 3)) 109 27 z119).2.2.1 109 22).toInt := by have b0 : z119 = (sF (sF (sF (sF sc0 109 29 w0_109_27) 109 30 z71) 109 28 (Int32.ofInt 3)) 109 27 z119).2.2.1 109 27 := sF_get; have b1 : u_109_22 = (sF (sF (sF (sF sc0 109 29 w0_109_27) 109 30 z71) 109 28 (Int32.ofInt 3)) 109 27 z119).2.2.1 109 22 := sF_ne rfl (sF_ne rfl (sF_ne rfl (sF_ne rfl (fr_F e_109_22 hFc0 rfl)))); rw [← b0, ← b1]; exact n198
                                  have n198b : (u_109_27).toInt ≤ (z119).toInt := by have a0 := in_u ro_109_22; have a1 := in_u i71; have a2 := in_u ((in_c 1 rfl)); have a3 := in_u i156; have a4 := in_u i119; have a5 := t_add e119 i71 (in_c 1 rfl) rfl; have a6 := in_u ((in_c 3 rfl)); omega
                                  have n198c : (s.2.2.1 109 27).toInt ≤ ((sF (sF (sF (sF sc0 109 29 w0_109_27) 109 30 z71) 109 28 (Int32.ofInt 3)) 109 27 z119).2.2.1 109 27).toInt := by have b0 : z119 = (sF (sF (sF (sF sc0 109 29 w0_109_27) 109 30 z71) 109 28 (Int32.ofInt 3)) 109 27 z119).2.2.1 109 27 := sF_get; first | (rw [← b0, ← e_109_27]; exact n198b) | (rw [← b0]; exact n198b)
                                  have n198d : ((Int32.ofInt 3)).toInt ≠ 0 → (u_109_27).toInt + 1 ≤ (z119).toInt := by have a0 := in_u ro_109_22; have a1 := in_u i71; have a2 := in_u ((in_c 1 rfl)); have a3 := in_u i156; have a4 := in_u i119; have a5 := t_add e119 i71 (in_c 1 rfl) rfl; have a6 := in_u ((in_c 3 rfl)); omega
                                  have n198e : ((sF (sF (sF (sF sc0 109 29 w0_109_27) 109 30 z71) 109 28 (Int32.ofInt 3)) 109 27 z119).2.2.1 109 28).toInt ≠ 0 → (s.2.2.1 109 27).toInt + 1 ≤ ((sF (sF (sF (sF sc0 109 29 w0_109_27) 109 30 z71) 109 28 (Int32.ofInt 3)) 109 27 z119).2.2.1 109 27).toInt := by have b0 : (Int32.ofInt 3) = (sF (sF (sF (sF sc0 109 29 w0_109_27) 109 30 z71) 109 28 (Int32.ofInt 3)) 109 27 z119).2.2.1 109 28 := sF_ne rfl (sF_get); have b1 : z119 = (sF (sF (sF (sF sc0 109 29 w0_109_27) 109 30 z71) 109 28 (Int32.ofInt 3)) 109 27 z119).2.2.1 109 27 := sF_get; first | (rw [← b0, ← b1, ← e_109_27]; exact n198d) | (rw [← b0, ← b1]; exact n198d)
                                  exact g_return (gd rfl) rfl (hP _ _ ⟨(sF (sF (sF (sF sc0 109 29 w0_109_27) 109 30 z71) 109 28 (Int32.ofInt 3)) 109 27 z119), hI120, (fr_sF rfl (fr_sF rfl (fr_sF rfl (fr_sF rfl hFc0)))), n198a, n198c, n198e, rfl, rfl⟩)
                                · skip
                                  exact zn_eq c186 (in_c 1 rfl) rfl
                            · skip
                              refine g_iload_n 160 (gd rfl) rfl rfl ?_
                              refine g_bipush 40 162 (gd rfl) rfl rfl ?_
                              refine g_cmp_eq 165 171 (gd rfl) rfl rfl (fun c162 => ?_) (fun c162 => ?_)
                              · skip
                                have i162 := r_eq1 40 40 c162 i79x3 (in_c 40 rfl) rfl
                                refine g_iconst 1 172 (gd rfl) rfl rfl ?_
                                refine g_goto 176 (gd rfl) rfl ?_
                                refine g_istore_n 177 (gd rfl) rfl (Nat.le_of_ble_eq_true rfl) ?_
                                refine g_aload_n 178 (gd rfl) rfl rfl ?_
                                refine g_getI 181 (gd rfl) rfl rfl rfl (fun z178 e178 => ?_)
                                have q178 : (Int32.ofInt 3) = z178 := (sF_ne rfl (sF_get)).trans e178.symm
                                subst q178
                                refine g_iconst 3 182 (gd rfl) rfl rfl ?_
                                refine g_cmp_ne 185 198 (gd rfl) rfl rfl (fun c182 => ?_) (fun c182 => ?_)
                                · skip
                                  exact n_ne c182 (in_c 3 rfl) (in_c 3 rfl) rfl
                                · skip
                                  refine g_iload_n 186 (gd rfl) rfl rfl ?_
                                  refine g_if_ne 189 198 (gd rfl) rfl rfl (fun c186 => ?_) (fun c186 => ?_)
                                  · skip
                                    have n198 : (z119).toInt ≤ (u_109_22).toInt := by have a0 := in_u ro_109_22; have a1 := in_u i71; have a2 := in_u ((in_c 1 rfl)); have a3 := in_u i162; have a4 := in_u i119; have a5 := t_add e119 i71 (in_c 1 rfl) rfl; have a6 := in_u ((in_c 3 rfl)); omega
                                    have n198a : ((sF (sF (sF (sF sc0 109 29 w0_109_27) 109 30 z71) 109 28 (Int32.ofInt 3)) 109 27 z119).2.2.1 109 27).toInt ≤ ((sF (sF (sF (sF sc0 109 29 w0_109_27) 109 30 z71) 109 28 (Int32.ofInt 3)) 109 27 z119).2.2.1 109 22).toInt := by have b0 : z119 = (sF (sF (sF (sF sc0 109 29 w0_109_27) 109 30 z71) 109 28 (Int32.ofInt 3)) 109 27 z119).2.2.1 109 27 := sF_get; have b1 : u_109_22 = (sF (sF (sF (sF sc0 109 29 w0_109_27) 109 30 z71) 109 28 (Int32.ofInt 3)) 109 27 z119).2.2.1 109 22 := sF_ne rfl (sF_ne rfl (sF_ne rfl (sF_ne rfl (fr_F e_109_22 hFc0 rfl)))); rw [← b0, ← b1]; exact n198
                                    have n198b : (u_109_27).toInt ≤ (z119).toInt := by have a0 := in_u ro_109_22; have a1 := in_u i71; have a2 := in_u ((in_c 1 rfl)); have a3 := in_u i162; have a4 := in_u i119; have a5 := t_add e119 i71 (in_c 1 rfl) rfl; have a6 := in_u ((in_c 3 rfl)); omega
                                    have n198c : (s.2.2.1 109 27).toInt ≤ ((sF (sF (sF (sF sc0 109 29 w0_109_27) 109 30 z71) 109 28 (Int32.ofInt 3)) 109 27 z119).2.2.1 109 27).toInt := by have b0 : z119 = (sF (sF (sF (sF sc0 109 29 w0_109_27) 109 30 z71) 109 28 (Int32.ofInt 3)) 109 27 z119).2.2.1 109 27 := sF_get; first | (rw [← b0, ← e_109_27]; exact n198b) | (rw [← b0]; exact n198b)
                                    have n198d : ((Int32.ofInt 3)).toInt ≠ 0 → (u_109_27).toInt + 1 ≤ (z119).toInt := by have a0 := in_u ro_109_22; have a1 := in_u i71; have a2 := in_u ((in_c 1 rfl)); have a3 := in_u i162; have a4 := in_u i119; have a5 := t_add e119 i71 (in_c 1 rfl) rfl; have a6 := in_u ((in_c 3 rfl)); omega
                                    have n198e : ((sF (sF (sF (sF sc0 109 29 w0_109_27) 109 30 z71) 109 28 (Int32.ofInt 3)) 109 27 z119).2.2.1 109 28).toInt ≠ 0 → (s.2.2.1 109 27).toInt + 1 ≤ ((sF (sF (sF (sF sc0 109 29 w0_109_27) 109 30 z71) 109 28 (Int32.ofInt 3)) 109 27 z119).2.2.1 109 27).toInt := by have b0 : (Int32.ofInt 3) = (sF (sF (sF (sF sc0 109 29 w0_109_27) 109 30 z71) 109 28 (Int32.ofInt 3)) 109 27 z119).2.2.1 109 28 := sF_ne rfl (sF_get); have b1 : z119 = (sF (sF (sF (sF sc0 109 29 w0_109_27) 109 30 z71) 109 28 (Int32.ofInt 3)) 109 27 z119).2.2.1 109 27 := sF_get; first | (rw [← b0, ← b1, ← e_109_27]; exact n198d) | (rw [← b0, ← b1]; exact n198d)
                                    exact g_return (gd rfl) rfl (hP _ _ ⟨(sF (sF (sF (sF sc0 109 29 w0_109_27) 109 30 z71) 109 28 (Int32.ofInt 3)) 109 27 z119), hI120, (fr_sF rfl (fr_sF rfl (fr_sF rfl (fr_sF rfl hFc0)))), n198a, n198c, n198e, rfl, rfl⟩)
                                  · skip
                                    exact zn_eq c186 (in_c 1 rfl) rfl
                              · skip
                                refine g_iload_n 166 (gd rfl) rfl rfl ?_
                                refine g_bipush 41 168 (gd rfl) rfl rfl ?_
                                refine g_cmp_ne 171 175 (gd rfl) rfl rfl (fun c168 => ?_) (fun c168 => ?_)
                                · skip
                                  refine g_iconst 0 176 (gd rfl) rfl rfl ?_
                                  refine g_istore_n 177 (gd rfl) rfl (Nat.le_of_ble_eq_true rfl) ?_
                                  refine g_aload_n 178 (gd rfl) rfl rfl ?_
                                  refine g_getI 181 (gd rfl) rfl rfl rfl (fun z178 e178 => ?_)
                                  have q178 : (Int32.ofInt 3) = z178 := (sF_ne rfl (sF_get)).trans e178.symm
                                  subst q178
                                  refine g_iconst 3 182 (gd rfl) rfl rfl ?_
                                  refine g_cmp_ne 185 198 (gd rfl) rfl rfl (fun c182 => ?_) (fun c182 => ?_)
                                  · skip
                                    exact n_ne c182 (in_c 3 rfl) (in_c 3 rfl) rfl
                                  · skip
                                    refine g_iload_n 186 (gd rfl) rfl rfl ?_
                                    refine g_if_ne 189 198 (gd rfl) rfl rfl (fun c186 => ?_) (fun c186 => ?_)
                                    · skip
                                      exact zn_ne c186 (in_c 0 rfl) rfl
                                    · skip
                                      refine g_aload_n 190 (gd rfl) rfl rfl ?_
                                      refine g_iconst 1 191 (gd rfl) rfl rfl ?_
                                      refine g_aload_n 192 (gd rfl) rfl rfl ?_
                                      refine g_getI 195 (gd rfl) rfl rfl rfl (fun z192 e192 => ?_)
                                      have q192 : w0_109_27 = z192 := (sF_ne rfl (sF_ne rfl (sF_ne rfl (sF_get)))).trans e192.symm
                                      subst q192
                                      refine g_callv (X := _) (As := [.int (Int32.ofInt 1), .int w0_109_27]) (r := []) (b := A 109) (q := 109) 198 (gd rfl) rfl rfl rfl rfl rfl (ww_o rfl) (Nat.le_of_ble_eq_true rfl) (Nat.zero_le _) (Nat.zero_le _) (k_298 (by first | exact dq1 hd rfl | exact dq0 hd rfl | exact dq2 hd rfl | exact dq3 hd rfl | omega) hI120 (in_w 1 5 (in_c 1 rfl) rfl)) (fun e u h => h) (fun v u h => ?_)
                                      obtain ⟨s195, hI195, hF195, n195, rfl, rfl⟩ := h
                                      obtain ⟨z195a, e195⟩ : ∃ w, w = s195.2.2.1 109 23 := ⟨_, rfl⟩
                                      have i195a := inv_F hI195 0 9 rfl e195
                                      rw [← (show z195a = s195.2.2.1 109 23 from e195)] at n195
                                      show GG _ _ _ _ _ _ _ _ [] _ _ _
                                      have n198 : (z119).toInt ≤ (u_109_22).toInt := by have a0 := in_u ro_109_22; have a1 := in_u i71; have a2 := in_u ((in_c 0 rfl)); have a3 := in_u i79x3; have a4 := in_u i195a; have a5 := in_u i119; have a6 := t_add e119 i71 (in_c 1 rfl) rfl; have a7 := in_u ((in_c 1 rfl)); have a8 := in_u ((in_c 3 rfl)); omega
                                      have n198a : (s195.2.2.1 109 27).toInt ≤ (s195.2.2.1 109 22).toInt := by have b0 : z119 = s195.2.2.1 109 27 := fr_F (s := (sF (sF (sF (sF sc0 109 29 w0_109_27) 109 30 z71) 109 28 (Int32.ofInt 3)) 109 27 z119)) (sF_get) hF195 rfl; have b1 : u_109_22 = s195.2.2.1 109 22 := fr_F (s := (sF (sF (sF (sF sc0 109 29 w0_109_27) 109 30 z71) 109 28 (Int32.ofInt 3)) 109 27 z119)) (sF_ne rfl (sF_ne rfl (sF_ne rfl (sF_ne rfl (fr_F e_109_22 hFc0 rfl))))) hF195 rfl; rw [← b0, ← b1]; exact n198
                                      have n198b : (u_109_27).toInt ≤ (z119).toInt := by have a0 := in_u ro_109_22; have a1 := in_u i71; have a2 := in_u ((in_c 0 rfl)); have a3 := in_u i79x3; have a4 := in_u i195a; have a5 := in_u i119; have a6 := t_add e119 i71 (in_c 1 rfl) rfl; have a7 := in_u ((in_c 1 rfl)); have a8 := in_u ((in_c 3 rfl)); omega
                                      have n198c : (s.2.2.1 109 27).toInt ≤ (s195.2.2.1 109 27).toInt := by have b0 : z119 = s195.2.2.1 109 27 := fr_F (s := (sF (sF (sF (sF sc0 109 29 w0_109_27) 109 30 z71) 109 28 (Int32.ofInt 3)) 109 27 z119)) (sF_get) hF195 rfl; first | (rw [← b0, ← e_109_27]; exact n198b) | (rw [← b0]; exact n198b)
                                      have n198d : ((Int32.ofInt 3)).toInt ≠ 0 → (u_109_27).toInt + 1 ≤ (z119).toInt := by have a0 := in_u ro_109_22; have a1 := in_u i71; have a2 := in_u ((in_c 0 rfl)); have a3 := in_u i79x3; have a4 := in_u i195a; have a5 := in_u i119; have a6 := t_add e119 i71 (in_c 1 rfl) rfl; have a7 := in_u ((in_c 1 rfl)); have a8 := in_u ((in_c 3 rfl)); omega
                                      have n198e : (s195.2.2.1 109 28).toInt ≠ 0 → (s.2.2.1 109 27).toInt + 1 ≤ (s195.2.2.1 109 27).toInt := by have b0 : (Int32.ofInt 3) = s195.2.2.1 109 28 := fr_F (s := (sF (sF (sF (sF sc0 109 29 w0_109_27) 109 30 z71) 109 28 (Int32.ofInt 3)) 109 27 z119)) (sF_ne rfl (sF_get)) hF195 rfl; have b1 : z119 = s195.2.2.1 109 27 := fr_F (s := (sF (sF (sF (sF sc0 109 29 w0_109_27) 109 30 z71) 109 28 (Int32.ofInt 3)) 109 27 z119)) (sF_get) hF195 rfl; first | (rw [← b0, ← b1, ← e_109_27]; exact n198d) | (rw [← b0, ← b1]; exact n198d)
                                      exact g_return (gd rfl) rfl (hP _ _ ⟨s195, hI195, (fr_tr rfl (fr_sF rfl (fr_sF rfl (fr_sF rfl (fr_sF rfl hFc0)))) hF195), n198a, n198c, n198e, rfl, rfl⟩)
                                · skip
                                  have i168 := r_eq1 41 41 c168 i79x3 (in_c 41 rfl) rfl
                                  refine g_iconst 1 172 (gd rfl) rfl rfl ?_
                                  refine g_goto 176 (gd rfl) rfl ?_
                                  refine g_istore_n 177 (gd rfl) rfl (Nat.le_of_ble_eq_true rfl) ?_
                                  refine g_aload_n 178 (gd rfl) rfl rfl ?_
                                  refine g_getI 181 (gd rfl) rfl rfl rfl (fun z178 e178 => ?_)
                                  have q178 : (Int32.ofInt 3) = z178 := (sF_ne rfl (sF_get)).trans e178.symm
                                  subst q178
                                  refine g_iconst 3 182 (gd rfl) rfl rfl ?_
                                  refine g_cmp_ne 185 198 (gd rfl) rfl rfl (fun c182 => ?_) (fun c182 => ?_)
                                  · skip
                                    exact n_ne c182 (in_c 3 rfl) (in_c 3 rfl) rfl
                                  · skip
                                    refine g_iload_n 186 (gd rfl) rfl rfl ?_
                                    refine g_if_ne 189 198 (gd rfl) rfl rfl (fun c186 => ?_) (fun c186 => ?_)
                                    · skip
                                      have n198 : (z119).toInt ≤ (u_109_22).toInt := by have a0 := in_u ro_109_22; have a1 := in_u i71; have a2 := in_u ((in_c 1 rfl)); have a3 := in_u i168; have a4 := in_u i119; have a5 := t_add e119 i71 (in_c 1 rfl) rfl; have a6 := in_u ((in_c 3 rfl)); omega
                                      have n198a : ((sF (sF (sF (sF sc0 109 29 w0_109_27) 109 30 z71) 109 28 (Int32.ofInt 3)) 109 27 z119).2.2.1 109 27).toInt ≤ ((sF (sF (sF (sF sc0 109 29 w0_109_27) 109 30 z71) 109 28 (Int32.ofInt 3)) 109 27 z119).2.2.1 109 22).toInt := by have b0 : z119 = (sF (sF (sF (sF sc0 109 29 w0_109_27) 109 30 z71) 109 28 (Int32.ofInt 3)) 109 27 z119).2.2.1 109 27 := sF_get; have b1 : u_109_22 = (sF (sF (sF (sF sc0 109 29 w0_109_27) 109 30 z71) 109 28 (Int32.ofInt 3)) 109 27 z119).2.2.1 109 22 := sF_ne rfl (sF_ne rfl (sF_ne rfl (sF_ne rfl (fr_F e_109_22 hFc0 rfl)))); rw [← b0, ← b1]; exact n198
                                      have n198b : (u_109_27).toInt ≤ (z119).toInt := by have a0 := in_u ro_109_22; have a1 := in_u i71; have a2 := in_u ((in_c 1 rfl)); have a3 := in_u i168; have a4 := in_u i119; have a5 := t_add e119 i71 (in_c 1 rfl) rfl; have a6 := in_u ((in_c 3 rfl)); omega
                                      have n198c : (s.2.2.1 109 27).toInt ≤ ((sF (sF (sF (sF sc0 109 29 w0_109_27) 109 30 z71) 109 28 (Int32.ofInt 3)) 109 27 z119).2.2.1 109 27).toInt := by have b0 : z119 = (sF (sF (sF (sF sc0 109 29 w0_109_27) 109 30 z71) 109 28 (Int32.ofInt 3)) 109 27 z119).2.2.1 109 27 := sF_get; first | (rw [← b0, ← e_109_27]; exact n198b) | (rw [← b0]; exact n198b)
                                      have n198d : ((Int32.ofInt 3)).toInt ≠ 0 → (u_109_27).toInt + 1 ≤ (z119).toInt := by have a0 := in_u ro_109_22; have a1 := in_u i71; have a2 := in_u ((in_c 1 rfl)); have a3 := in_u i168; have a4 := in_u i119; have a5 := t_add e119 i71 (in_c 1 rfl) rfl; have a6 := in_u ((in_c 3 rfl)); omega
                                      have n198e : ((sF (sF (sF (sF sc0 109 29 w0_109_27) 109 30 z71) 109 28 (Int32.ofInt 3)) 109 27 z119).2.2.1 109 28).toInt ≠ 0 → (s.2.2.1 109 27).toInt + 1 ≤ ((sF (sF (sF (sF sc0 109 29 w0_109_27) 109 30 z71) 109 28 (Int32.ofInt 3)) 109 27 z119).2.2.1 109 27).toInt := by have b0 : (Int32.ofInt 3) = (sF (sF (sF (sF sc0 109 29 w0_109_27) 109 30 z71) 109 28 (Int32.ofInt 3)) 109 27 z119).2.2.1 109 28 := sF_ne rfl (sF_get); have b1 : z119 = (sF (sF (sF (sF sc0 109 29 w0_109_27) 109 30 z71) 109 28 (Int32.ofInt 3)) 109 27 z119).2.2.1 109 27 := sF_get; first | (rw [← b0, ← b1, ← e_109_27]; exact n198d) | (rw [← b0, ← b1]; exact n198d)
                                      exact g_return (gd rfl) rfl (hP _ _ ⟨(sF (sF (sF (sF sc0 109 29 w0_109_27) 109 30 z71) 109 28 (Int32.ofInt 3)) 109 27 z119), hI120, (fr_sF rfl (fr_sF rfl (fr_sF rfl (fr_sF rfl hFc0)))), n198a, n198c, n198e, rfl, rfl⟩)
                                    · skip
                                      exact zn_eq c186 (in_c 1 rfl) rfl
                · skip
                  exact zn_ne c102 (in_c 0 rfl) rfl
              · skip
                exact n_le c99x3 (in_c 97 rfl) i79x3 rfl
            · skip
              exact zn_ne c82 (in_c 0 rfl) rfl
          · skip
            have i79x3 := r_le2 48 126 c79x3 (in_c 48 rfl) i71a rfl
            refine g_iload_n 7 (gd rfl) rfl rfl ?_
            refine g_bipush 57 9 (gd rfl) rfl rfl ?_
            refine g_cmp_gt 12 16 (gd rfl) rfl rfl (fun c79x9 => ?_) (fun c79x9 => ?_)
            · skip
              have i79x9 := r_lt2 58 126 c79x9 (in_c 57 rfl) i79x3 rfl
              refine g_iconst 0 17 (gd rfl) rfl rfl ?_
              refine g_ireturn (gd rfl) rfl (nb01 (in_w 0 1 (in_c 0 rfl) rfl)) (hp79 _ _ ?_)
              show GG _ _ _ _ _ _ _ _ [.int (Int32.ofInt 0)] _ _ _
              refine g_if_eq 85 97 (gd rfl) rfl rfl (fun c82 => ?_) (fun c82 => ?_)
              · skip
                refine g_aload_n 98 (gd rfl) rfl rfl ?_
                refine g_iload_n 99 (gd rfl) rfl rfl ?_
                refine g_calls (As := [.int z71]) (r := [.ref (A 109)]) 102 (gd rfl) rfl rfl rfl rfl rfl (Nat.le_of_ble_eq_true rfl) (mc := 0) (ms := 0) (Nat.zero_le _) (Nat.zero_le _) (P := fun v u => _) ?_ (fun v u h => h)
                intro po99 xx99 hp99 hx99
                refine g_enter2 (k := 296) (N := 300) (by first | exact dq1 hd rfl | exact dq0 hd rfl | exact dq2 hd rfl | exact dq3 hd rfl | omega) rfl (Nat.le_of_ble_eq_true rfl) ?_
                refine g_iload_n 1 (gd rfl) rfl rfl ?_
                refine g_bipush 97 3 (gd rfl) rfl rfl ?_
                refine g_cmp_lt 6 16 (gd rfl) rfl rfl (fun c99x3 => ?_) (fun c99x3 => ?_)
                · skip
                  have i99x3 := r_lt1 58 96 c99x3 i79x9 (in_c 97 rfl) rfl
                  refine g_iconst 0 17 (gd rfl) rfl rfl ?_
                  refine g_ireturn (gd rfl) rfl (nb01 (in_w 0 1 (in_c 0 rfl) rfl)) (hp99 _ _ ?_)
                  show GG _ _ _ _ _ _ _ _ [.int (Int32.ofInt 0), .ref (A 109)] _ _ _
                  refine g_if_eq 105 109 (gd rfl) rfl rfl (fun c102 => ?_) (fun c102 => ?_)
                  · skip
                    refine g_iconst 3 110 (gd rfl) rfl rfl ?_
                    refine g_putI 113 (gd rfl) rfl rfl rfl rfl ?_
                    have hI110 := inv_sF (q := 109) (j := 28) hI75 rfl (in_w (-2147483648) 2147483647 (in_c 3 rfl) rfl)
                    refine g_aload_n 114 (gd rfl) rfl rfl ?_
                    refine g_dup 115 (gd rfl) rfl rfl ?_
                    refine g_getI 118 (gd rfl) rfl rfl rfl (fun z115 e115 => ?_)
                    have q115 : w0_109_27 = z115 := (sF_ne rfl (sF_ne rfl (sF_ne rfl (v0_109_27)))).trans e115.symm
                    subst q115
                    refine g_iconst 1 119 (gd rfl) rfl rfl ?_
                    refine g_iadd 120 (gd rfl) rfl (fun z119 e119 => ?_)
                    have i119 := in_add 1 1000 e119 i71 (in_c 1 rfl) rfl rfl
                    refine g_putI 123 (gd rfl) rfl rfl rfl rfl ?_
                    have hI120 := inv_sF (q := 109) (j := 27) hI110 rfl (in_w 0 1000 i119 rfl)
                    refine g_iload_n 124 (gd rfl) rfl rfl ?_
                    refine g_bipush 59 126 (gd rfl) rfl rfl ?_
                    refine g_cmp_eq 129 171 (gd rfl) rfl rfl (fun c126 => ?_) (fun c126 => ?_)
                    · skip
                      have i126 := r_eq1 59 59 c126 i99x3 (in_c 59 rfl) rfl
                      refine g_iconst 1 172 (gd rfl) rfl rfl ?_
                      refine g_goto 176 (gd rfl) rfl ?_
                      refine g_istore_n 177 (gd rfl) rfl (Nat.le_of_ble_eq_true rfl) ?_
                      refine g_aload_n 178 (gd rfl) rfl rfl ?_
                      refine g_getI 181 (gd rfl) rfl rfl rfl (fun z178 e178 => ?_)
                      have q178 : (Int32.ofInt 3) = z178 := (sF_ne rfl (sF_get)).trans e178.symm
                      subst q178
                      refine g_iconst 3 182 (gd rfl) rfl rfl ?_
                      refine g_cmp_ne 185 198 (gd rfl) rfl rfl (fun c182 => ?_) (fun c182 => ?_)
                      · skip
                        exact n_ne c182 (in_c 3 rfl) (in_c 3 rfl) rfl
                      · skip
                        refine g_iload_n 186 (gd rfl) rfl rfl ?_
                        refine g_if_ne 189 198 (gd rfl) rfl rfl (fun c186 => ?_) (fun c186 => ?_)
                        · skip
                          have n198 : (z119).toInt ≤ (u_109_22).toInt := by have a0 := in_u ro_109_22; have a1 := in_u i71; have a2 := in_u ((in_c 1 rfl)); have a3 := in_u i126; have a4 := in_u i119; have a5 := t_add e119 i71 (in_c 1 rfl) rfl; have a6 := in_u ((in_c 3 rfl)); omega
                          have n198a : ((sF (sF (sF (sF sc0 109 29 w0_109_27) 109 30 z71) 109 28 (Int32.ofInt 3)) 109 27 z119).2.2.1 109 27).toInt ≤ ((sF (sF (sF (sF sc0 109 29 w0_109_27) 109 30 z71) 109 28 (Int32.ofInt 3)) 109 27 z119).2.2.1 109 22).toInt := by have b0 : z119 = (sF (sF (sF (sF sc0 109 29 w0_109_27) 109 30 z71) 109 28 (Int32.ofInt 3)) 109 27 z119).2.2.1 109 27 := sF_get; have b1 : u_109_22 = (sF (sF (sF (sF sc0 109 29 w0_109_27) 109 30 z71) 109 28 (Int32.ofInt 3)) 109 27 z119).2.2.1 109 22 := sF_ne rfl (sF_ne rfl (sF_ne rfl (sF_ne rfl (fr_F e_109_22 hFc0 rfl)))); rw [← b0, ← b1]; exact n198
                          have n198b : (u_109_27).toInt ≤ (z119).toInt := by have a0 := in_u ro_109_22; have a1 := in_u i71; have a2 := in_u ((in_c 1 rfl)); have a3 := in_u i126; have a4 := in_u i119; have a5 := t_add e119 i71 (in_c 1 rfl) rfl; have a6 := in_u ((in_c 3 rfl)); omega
                          have n198c : (s.2.2.1 109 27).toInt ≤ ((sF (sF (sF (sF sc0 109 29 w0_109_27) 109 30 z71) 109 28 (Int32.ofInt 3)) 109 27 z119).2.2.1 109 27).toInt := by have b0 : z119 = (sF (sF (sF (sF sc0 109 29 w0_109_27) 109 30 z71) 109 28 (Int32.ofInt 3)) 109 27 z119).2.2.1 109 27 := sF_get; first | (rw [← b0, ← e_109_27]; exact n198b) | (rw [← b0]; exact n198b)
                          have n198d : ((Int32.ofInt 3)).toInt ≠ 0 → (u_109_27).toInt + 1 ≤ (z119).toInt := by have a0 := in_u ro_109_22; have a1 := in_u i71; have a2 := in_u ((in_c 1 rfl)); have a3 := in_u i126; have a4 := in_u i119; have a5 := t_add e119 i71 (in_c 1 rfl) rfl; have a6 := in_u ((in_c 3 rfl)); omega
                          have n198e : ((sF (sF (sF (sF sc0 109 29 w0_109_27) 109 30 z71) 109 28 (Int32.ofInt 3)) 109 27 z119).2.2.1 109 28).toInt ≠ 0 → (s.2.2.1 109 27).toInt + 1 ≤ ((sF (sF (sF (sF sc0 109 29 w0_109_27) 109 30 z71) 109 28 (Int32.ofInt 3)) 109 27 z119).2.2.1 109 27).toInt := by have b0 : (Int32.ofInt 3) = (sF (sF (sF (sF sc0 109 29 w0_109_27) 109 30 z71) 109 28 (Int32.ofInt 3)) 109 27 z119).2.2.1 109 28 := sF_ne rfl (sF_get); have b1 : z119 = (sF (sF (sF (sF sc0 109 29 w0_109_27) 109 30 z71) 109 28 (Int32.ofInt 3)) 109 27 z119).2.2.1 109 27 := sF_get; first | (rw [← b0, ← b1, ← e_109_27]; exact n198d) | (rw [← b0, ← b1]; exact n198d)
                          exact g_return (gd rfl) rfl (hP _ _ ⟨(sF (sF (sF (sF sc0 109 29 w0_109_27) 109 30 z71) 109 28 (Int32.ofInt 3)) 109 27 z119), hI120, (fr_sF rfl (fr_sF rfl (fr_sF rfl (fr_sF rfl hFc0)))), n198a, n198c, n198e, rfl, rfl⟩)
                        · skip
                          exact zn_eq c186 (in_c 1 rfl) rfl
                    · skip
                      refine g_iload_n 130 (gd rfl) rfl rfl ?_
                      refine g_bipush 60 132 (gd rfl) rfl rfl ?_
                      refine g_cmp_eq 135 171 (gd rfl) rfl rfl (fun c132 => ?_) (fun c132 => ?_)
                      · skip
                        have i132 := r_eq1 60 60 c132 i99x3 (in_c 60 rfl) rfl
                        refine g_iconst 1 172 (gd rfl) rfl rfl ?_
                        refine g_goto 176 (gd rfl) rfl ?_
                        refine g_istore_n 177 (gd rfl) rfl (Nat.le_of_ble_eq_true rfl) ?_
                        refine g_aload_n 178 (gd rfl) rfl rfl ?_
                        refine g_getI 181 (gd rfl) rfl rfl rfl (fun z178 e178 => ?_)
                        have q178 : (Int32.ofInt 3) = z178 := (sF_ne rfl (sF_get)).trans e178.symm
                        subst q178
                        refine g_iconst 3 182 (gd rfl) rfl rfl ?_
                        refine g_cmp_ne 185 198 (gd rfl) rfl rfl (fun c182 => ?_) (fun c182 => ?_)
                        · skip
                          exact n_ne c182 (in_c 3 rfl) (in_c 3 rfl) rfl
                        · skip
                          refine g_iload_n 186 (gd rfl) rfl rfl ?_
                          refine g_if_ne 189 198 (gd rfl) rfl rfl (fun c186 => ?_) (fun c186 => ?_)
                          · skip
                            have n198 : (z119).toInt ≤ (u_109_22).toInt := by have a0 := in_u ro_109_22; have a1 := in_u i71; have a2 := in_u ((in_c 1 rfl)); have a3 := in_u i132; have a4 := in_u i119; have a5 := t_add e119 i71 (in_c 1 rfl) rfl; have a6 := in_u ((in_c 3 rfl)); omega
                            have n198a : ((sF (sF (sF (sF sc0 109 29 w0_109_27) 109 30 z71) 109 28 (Int32.ofInt 3)) 109 27 z119).2.2.1 109 27).toInt ≤ ((sF (sF (sF (sF sc0 109 29 w0_109_27) 109 30 z71) 109 28 (Int32.ofInt 3)) 109 27 z119).2.2.1 109 22).toInt := by have b0 : z119 = (sF (sF (sF (sF sc0 109 29 w0_109_27) 109 30 z71) 109 28 (Int32.ofInt 3)) 109 27 z119).2.2.1 109 27 := sF_get; have b1 : u_109_22 = (sF (sF (sF (sF sc0 109 29 w0_109_27) 109 30 z71) 109 28 (Int32.ofInt 3)) 109 27 z119).2.2.1 109 22 := sF_ne rfl (sF_ne rfl (sF_ne rfl (sF_ne rfl (fr_F e_109_22 hFc0 rfl)))); rw [← b0, ← b1]; exact n198
                            have n198b : (u_109_27).toInt ≤ (z119).toInt := by have a0 := in_u ro_109_22; have a1 := in_u i71; have a2 := in_u ((in_c 1 rfl)); have a3 := in_u i132; have a4 := in_u i119; have a5 := t_add e119 i71 (in_c 1 rfl) rfl; have a6 := in_u ((in_c 3 rfl)); omega
                            have n198c : (s.2.2.1 109 27).toInt ≤ ((sF (sF (sF (sF sc0 109 29 w0_109_27) 109 30 z71) 109 28 (Int32.ofInt 3)) 109 27 z119).2.2.1 109 27).toInt := by have b0 : z119 = (sF (sF (sF (sF sc0 109 29 w0_109_27) 109 30 z71) 109 28 (Int32.ofInt 3)) 109 27 z119).2.2.1 109 27 := sF_get; first | (rw [← b0, ← e_109_27]; exact n198b) | (rw [← b0]; exact n198b)
                            have n198d : ((Int32.ofInt 3)).toInt ≠ 0 → (u_109_27).toInt + 1 ≤ (z119).toInt := by have a0 := in_u ro_109_22; have a1 := in_u i71; have a2 := in_u ((in_c 1 rfl)); have a3 := in_u i132; have a4 := in_u i119; have a5 := t_add e119 i71 (in_c 1 rfl) rfl; have a6 := in_u ((in_c 3 rfl)); omega
                            have n198e : ((sF (sF (sF (sF sc0 109 29 w0_109_27) 109 30 z71) 109 28 (Int32.ofInt 3)) 109 27 z119).2.2.1 109 28).toInt ≠ 0 → (s.2.2.1 109 27).toInt + 1 ≤ ((sF (sF (sF (sF sc0 109 29 w0_109_27) 109 30 z71) 109 28 (Int32.ofInt 3)) 109 27 z119).2.2.1 109 27).toInt := by have b0 : (Int32.ofInt 3) = (sF (sF (sF (sF sc0 109 29 w0_109_27) 109 30 z71) 109 28 (Int32.ofInt 3)) 109 27 z119).2.2.1 109 28 := sF_ne rfl (sF_get); have b1 : z119 = (sF (sF (sF (sF sc0 109 29 w0_109_27) 109 30 z71) 109 28 (Int32.ofInt 3)) 109 27 z119).2.2.1 109 27 := sF_get; first | (rw [← b0, ← b1, ← e_109_27]; exact n198d) | (rw [← b0, ← b1]; exact n198d)
                            exact g_return (gd rfl) rfl (hP _ _ ⟨(sF (sF (sF (sF sc0 109 29 w0_109_27) 109 30 z71) 109 28 (Int32.ofInt 3)) 109 27 z119), hI120, (fr_sF rfl (fr_sF rfl (fr_sF rfl (fr_sF rfl hFc0)))), n198a, n198c, n198e, rfl, rfl⟩)
                          · skip
                            exact zn_eq c186 (in_c 1 rfl) rfl
                      · skip
                        refine g_iload_n 136 (gd rfl) rfl rfl ?_
                        refine g_bipush 61 138 (gd rfl) rfl rfl ?_
                        refine g_cmp_eq 141 171 (gd rfl) rfl rfl (fun c138 => ?_) (fun c138 => ?_)
                        · skip
                          have i138 := r_eq1 61 61 c138 i99x3 (in_c 61 rfl) rfl
                          refine g_iconst 1 172 (gd rfl) rfl rfl ?_
                          refine g_goto 176 (gd rfl) rfl ?_
                          refine g_istore_n 177 (gd rfl) rfl (Nat.le_of_ble_eq_true rfl) ?_
                          refine g_aload_n 178 (gd rfl) rfl rfl ?_
                          refine g_getI 181 (gd rfl) rfl rfl rfl (fun z178 e178 => ?_)
                          have q178 : (Int32.ofInt 3) = z178 := (sF_ne rfl (sF_get)).trans e178.symm
                          subst q178
                          refine g_iconst 3 182 (gd rfl) rfl rfl ?_
                          refine g_cmp_ne 185 198 (gd rfl) rfl rfl (fun c182 => ?_) (fun c182 => ?_)
                          · skip
                            exact n_ne c182 (in_c 3 rfl) (in_c 3 rfl) rfl
                          · skip
                            refine g_iload_n 186 (gd rfl) rfl rfl ?_
                            refine g_if_ne 189 198 (gd rfl) rfl rfl (fun c186 => ?_) (fun c186 => ?_)
                            · skip
                              have n198 : (z119).toInt ≤ (u_109_22).toInt := by have a0 := in_u ro_109_22; have a1 := in_u i71; have a2 := in_u ((in_c 1 rfl)); have a3 := in_u i138; have a4 := in_u i119; have a5 := t_add e119 i71 (in_c 1 rfl) rfl; have a6 := in_u ((in_c 3 rfl)); omega
                              have n198a : ((sF (sF (sF (sF sc0 109 29 w0_109_27) 109 30 z71) 109 28 (Int32.ofInt 3)) 109 27 z119).2.2.1 109 27).toInt ≤ ((sF (sF (sF (sF sc0 109 29 w0_109_27) 109 30 z71) 109 28 (Int32.ofInt 3)) 109 27 z119).2.2.1 109 22).toInt := by have b0 : z119 = (sF (sF (sF (sF sc0 109 29 w0_109_27) 109 30 z71) 109 28 (Int32.ofInt 3)) 109 27 z119).2.2.1 109 27 := sF_get; have b1 : u_109_22 = (sF (sF (sF (sF sc0 109 29 w0_109_27) 109 30 z71) 109 28 (Int32.ofInt 3)) 109 27 z119).2.2.1 109 22 := sF_ne rfl (sF_ne rfl (sF_ne rfl (sF_ne rfl (fr_F e_109_22 hFc0 rfl)))); rw [← b0, ← b1]; exact n198
                              have n198b : (u_109_27).toInt ≤ (z119).toInt := by have a0 := in_u ro_109_22; have a1 := in_u i71; have a2 := in_u ((in_c 1 rfl)); have a3 := in_u i138; have a4 := in_u i119; have a5 := t_add e119 i71 (in_c 1 rfl) rfl; have a6 := in_u ((in_c 3 rfl)); omega
                              have n198c : (s.2.2.1 109 27).toInt ≤ ((sF (sF (sF (sF sc0 109 29 w0_109_27) 109 30 z71) 109 28 (Int32.ofInt 3)) 109 27 z119).2.2.1 109 27).toInt := by have b0 : z119 = (sF (sF (sF (sF sc0 109 29 w0_109_27) 109 30 z71) 109 28 (Int32.ofInt 3)) 109 27 z119).2.2.1 109 27 := sF_get; first | (rw [← b0, ← e_109_27]; exact n198b) | (rw [← b0]; exact n198b)
                              have n198d : ((Int32.ofInt 3)).toInt ≠ 0 → (u_109_27).toInt + 1 ≤ (z119).toInt := by have a0 := in_u ro_109_22; have a1 := in_u i71; have a2 := in_u ((in_c 1 rfl)); have a3 := in_u i138; have a4 := in_u i119; have a5 := t_add e119 i71 (in_c 1 rfl) rfl; have a6 := in_u ((in_c 3 rfl)); omega
                              have n198e : ((sF (sF (sF (sF sc0 109 29 w0_109_27) 109 30 z71) 109 28 (Int32.ofInt 3)) 109 27 z119).2.2.1 109 28).toInt ≠ 0 → (s.2.2.1 109 27).toInt + 1 ≤ ((sF (sF (sF (sF sc0 109 29 w0_109_27) 109 30 z71) 109 28 (Int32.ofInt 3)) 109 27 z119).2.2.1 109 27).toInt := by have b0 : (Int32.ofInt 3) = (sF (sF (sF (sF sc0 109 29 w0_109_27) 109 30 z71) 109 28 (Int32.ofInt 3)) 109 27 z119).2.2.1 109 28 := sF_ne rfl (sF_get); have b1 : z119 = (sF (sF (sF (sF sc0 109 29 w0_109_27) 109 30 z71) 109 28 (Int32.ofInt 3)) 109 27 z119).2.2.1 109 27 := sF_get; first | (rw [← b0, ← b1, ← e_109_27]; exact n198d) | (rw [← b0, ← b1]; exact n198d)
                              exact g_return (gd rfl) rfl (hP _ _ ⟨(sF (sF (sF (sF sc0 109 29 w0_109_27) 109 30 z71) 109 28 (Int32.ofInt 3)) 109 27 z119), hI120, (fr_sF rfl (fr_sF rfl (fr_sF rfl (fr_sF rfl hFc0)))), n198a, n198c, n198e, rfl, rfl⟩)
                            · skip
                              exact zn_eq c186 (in_c 1 rfl) rfl
                        · skip
                          refine g_iload_n 142 (gd rfl) rfl rfl ?_
                          refine g_bipush 43 144 (gd rfl) rfl rfl ?_
                          refine g_cmp_eq 147 171 (gd rfl) rfl rfl (fun c144 => ?_) (fun c144 => ?_)
                          · skip
                            exact n_eq c144 i99x3 (in_c 43 rfl) rfl
                          · skip
                            refine g_iload_n 148 (gd rfl) rfl rfl ?_
                            refine g_bipush 45 150 (gd rfl) rfl rfl ?_
                            refine g_cmp_eq 153 171 (gd rfl) rfl rfl (fun c150 => ?_) (fun c150 => ?_)
                            · skip
                              exact n_eq c150 i99x3 (in_c 45 rfl) rfl
                            · skip
                              refine g_iload_n 154 (gd rfl) rfl rfl ?_
                              refine g_bipush 42 156 (gd rfl) rfl rfl ?_
                              refine g_cmp_eq 159 171 (gd rfl) rfl rfl (fun c156 => ?_) (fun c156 => ?_)
                              · skip
                                exact n_eq c156 i99x3 (in_c 42 rfl) rfl
                              · skip
                                refine g_iload_n 160 (gd rfl) rfl rfl ?_
                                refine g_bipush 40 162 (gd rfl) rfl rfl ?_
                                refine g_cmp_eq 165 171 (gd rfl) rfl rfl (fun c162 => ?_) (fun c162 => ?_)
                                · skip
                                  exact n_eq c162 i99x3 (in_c 40 rfl) rfl
                                · skip
                                  refine g_iload_n 166 (gd rfl) rfl rfl ?_
                                  refine g_bipush 41 168 (gd rfl) rfl rfl ?_
                                  refine g_cmp_ne 171 175 (gd rfl) rfl rfl (fun c168 => ?_) (fun c168 => ?_)
                                  · skip
                                    refine g_iconst 0 176 (gd rfl) rfl rfl ?_
                                    refine g_istore_n 177 (gd rfl) rfl (Nat.le_of_ble_eq_true rfl) ?_
                                    refine g_aload_n 178 (gd rfl) rfl rfl ?_
                                    refine g_getI 181 (gd rfl) rfl rfl rfl (fun z178 e178 => ?_)
                                    have q178 : (Int32.ofInt 3) = z178 := (sF_ne rfl (sF_get)).trans e178.symm
                                    subst q178
                                    refine g_iconst 3 182 (gd rfl) rfl rfl ?_
                                    refine g_cmp_ne 185 198 (gd rfl) rfl rfl (fun c182 => ?_) (fun c182 => ?_)
                                    · skip
                                      exact n_ne c182 (in_c 3 rfl) (in_c 3 rfl) rfl
                                    · skip
                                      refine g_iload_n 186 (gd rfl) rfl rfl ?_
                                      refine g_if_ne 189 198 (gd rfl) rfl rfl (fun c186 => ?_) (fun c186 => ?_)
                                      · skip
                                        exact zn_ne c186 (in_c 0 rfl) rfl
                                      · skip
                                        refine g_aload_n 190 (gd rfl) rfl rfl ?_
                                        refine g_iconst 1 191 (gd rfl) rfl rfl ?_
                                        refine g_aload_n 192 (gd rfl) rfl rfl ?_
                                        refine g_getI 195 (gd rfl) rfl rfl rfl (fun z192 e192 => ?_)
                                        have q192 : w0_109_27 = z192 := (sF_ne rfl (sF_ne rfl (sF_ne rfl (sF_get)))).trans e192.symm
                                        subst q192
                                        refine g_callv (X := _) (As := [.int (Int32.ofInt 1), .int w0_109_27]) (r := []) (b := A 109) (q := 109) 198 (gd rfl) rfl rfl rfl rfl rfl (ww_o rfl) (Nat.le_of_ble_eq_true rfl) (Nat.zero_le _) (Nat.zero_le _) (k_298 (by first | exact dq1 hd rfl | exact dq0 hd rfl | exact dq2 hd rfl | exact dq3 hd rfl | omega) hI120 (in_w 1 5 (in_c 1 rfl) rfl)) (fun e u h => h) (fun v u h => ?_)
                                        obtain ⟨s195, hI195, hF195, n195, rfl, rfl⟩ := h
                                        obtain ⟨z195a, e195⟩ : ∃ w, w = s195.2.2.1 109 23 := ⟨_, rfl⟩
                                        have i195a := inv_F hI195 0 9 rfl e195
                                        rw [← (show z195a = s195.2.2.1 109 23 from e195)] at n195
                                        show GG _ _ _ _ _ _ _ _ [] _ _ _
                                        have n198 : (z119).toInt ≤ (u_109_22).toInt := by have a0 := in_u ro_109_22; have a1 := in_u i71; have a2 := in_u ((in_c 0 rfl)); have a3 := in_u i99x3; have a4 := in_u i195a; have a5 := in_u i119; have a6 := t_add e119 i71 (in_c 1 rfl) rfl; have a7 := in_u ((in_c 1 rfl)); have a8 := in_u ((in_c 3 rfl)); omega
                                        have n198a : (s195.2.2.1 109 27).toInt ≤ (s195.2.2.1 109 22).toInt := by have b0 : z119 = s195.2.2.1 109 27 := fr_F (s := (sF (sF (sF (sF sc0 109 29 w0_109_27) 109 30 z71) 109 28 (Int32.ofInt 3)) 109 27 z119)) (sF_get) hF195 rfl; have b1 : u_109_22 = s195.2.2.1 109 22 := fr_F (s := (sF (sF (sF (sF sc0 109 29 w0_109_27) 109 30 z71) 109 28 (Int32.ofInt 3)) 109 27 z119)) (sF_ne rfl (sF_ne rfl (sF_ne rfl (sF_ne rfl (fr_F e_109_22 hFc0 rfl))))) hF195 rfl; rw [← b0, ← b1]; exact n198
                                        have n198b : (u_109_27).toInt ≤ (z119).toInt := by have a0 := in_u ro_109_22; have a1 := in_u i71; have a2 := in_u ((in_c 0 rfl)); have a3 := in_u i99x3; have a4 := in_u i195a; have a5 := in_u i119; have a6 := t_add e119 i71 (in_c 1 rfl) rfl; have a7 := in_u ((in_c 1 rfl)); have a8 := in_u ((in_c 3 rfl)); omega
                                        have n198c : (s.2.2.1 109 27).toInt ≤ (s195.2.2.1 109 27).toInt := by have b0 : z119 = s195.2.2.1 109 27 := fr_F (s := (sF (sF (sF (sF sc0 109 29 w0_109_27) 109 30 z71) 109 28 (Int32.ofInt 3)) 109 27 z119)) (sF_get) hF195 rfl; first | (rw [← b0, ← e_109_27]; exact n198b) | (rw [← b0]; exact n198b)
                                        have n198d : ((Int32.ofInt 3)).toInt ≠ 0 → (u_109_27).toInt + 1 ≤ (z119).toInt := by have a0 := in_u ro_109_22; have a1 := in_u i71; have a2 := in_u ((in_c 0 rfl)); have a3 := in_u i99x3; have a4 := in_u i195a; have a5 := in_u i119; have a6 := t_add e119 i71 (in_c 1 rfl) rfl; have a7 := in_u ((in_c 1 rfl)); have a8 := in_u ((in_c 3 rfl)); omega
                                        have n198e : (s195.2.2.1 109 28).toInt ≠ 0 → (s.2.2.1 109 27).toInt + 1 ≤ (s195.2.2.1 109 27).toInt := by have b0 : (Int32.ofInt 3) = s195.2.2.1 109 28 := fr_F (s := (sF (sF (sF (sF sc0 109 29 w0_109_27) 109 30 z71) 109 28 (Int32.ofInt 3)) 109 27 z119)) (sF_ne rfl (sF_get)) hF195 rfl; have b1 : z119 = s195.2.2.1 109 27 := fr_F (s := (sF (sF (sF (sF sc0 109 29 w0_109_27) 109 30 z71) 109 28 (Int32.ofInt 3)) 109 27 z119)) (sF_get) hF195 rfl; first | (rw [← b0, ← b1, ← e_109_27]; exact n198d) | (rw [← b0, ← b1]; exact n198d)
                                        exact g_return (gd rfl) rfl (hP _ _ ⟨s195, hI195, (fr_tr rfl (fr_sF rfl (fr_sF rfl (fr_sF rfl (fr_sF rfl hFc0)))) hF195), n198a, n198c, n198e, rfl, rfl⟩)
                                  · skip
                                    exact n_eq c168 i99x3 (in_c 41 rfl) rfl
                  · skip
                    exact zn_ne c102 (in_c 0 rfl) rfl
                · skip
                  have i99x3 := r_le2 97 126 c99x3 (in_c 97 rfl) i79x9 rfl
                  refine g_iload_n 7 (gd rfl) rfl rfl ?_
                  refine g_bipush 122 9 (gd rfl) rfl rfl ?_
                  refine g_cmp_gt 12 16 (gd rfl) rfl rfl (fun c99x9 => ?_) (fun c99x9 => ?_)
                  · skip
                    have i99x9 := r_lt2 123 126 c99x9 (in_c 122 rfl) i99x3 rfl
                    refine g_iconst 0 17 (gd rfl) rfl rfl ?_
                    refine g_ireturn (gd rfl) rfl (nb01 (in_w 0 1 (in_c 0 rfl) rfl)) (hp99 _ _ ?_)
                    show GG _ _ _ _ _ _ _ _ [.int (Int32.ofInt 0), .ref (A 109)] _ _ _
                    refine g_if_eq 105 109 (gd rfl) rfl rfl (fun c102 => ?_) (fun c102 => ?_)
                    · skip
                      refine g_iconst 3 110 (gd rfl) rfl rfl ?_
                      refine g_putI 113 (gd rfl) rfl rfl rfl rfl ?_
                      have hI110 := inv_sF (q := 109) (j := 28) hI75 rfl (in_w (-2147483648) 2147483647 (in_c 3 rfl) rfl)
                      refine g_aload_n 114 (gd rfl) rfl rfl ?_
                      refine g_dup 115 (gd rfl) rfl rfl ?_
                      refine g_getI 118 (gd rfl) rfl rfl rfl (fun z115 e115 => ?_)
                      have q115 : w0_109_27 = z115 := (sF_ne rfl (sF_ne rfl (sF_ne rfl (v0_109_27)))).trans e115.symm
                      subst q115
                      refine g_iconst 1 119 (gd rfl) rfl rfl ?_
                      refine g_iadd 120 (gd rfl) rfl (fun z119 e119 => ?_)
                      have i119 := in_add 1 1000 e119 i71 (in_c 1 rfl) rfl rfl
                      refine g_putI 123 (gd rfl) rfl rfl rfl rfl ?_
                      have hI120 := inv_sF (q := 109) (j := 27) hI110 rfl (in_w 0 1000 i119 rfl)
                      refine g_iload_n 124 (gd rfl) rfl rfl ?_
                      refine g_bipush 59 126 (gd rfl) rfl rfl ?_
                      refine g_cmp_eq 129 171 (gd rfl) rfl rfl (fun c126 => ?_) (fun c126 => ?_)
                      · skip
                        exact n_eq c126 i99x9 (in_c 59 rfl) rfl
                      · skip
                        refine g_iload_n 130 (gd rfl) rfl rfl ?_
                        refine g_bipush 60 132 (gd rfl) rfl rfl ?_
                        refine g_cmp_eq 135 171 (gd rfl) rfl rfl (fun c132 => ?_) (fun c132 => ?_)
                        · skip
                          exact n_eq c132 i99x9 (in_c 60 rfl) rfl
                        · skip
                          refine g_iload_n 136 (gd rfl) rfl rfl ?_
                          refine g_bipush 61 138 (gd rfl) rfl rfl ?_
                          refine g_cmp_eq 141 171 (gd rfl) rfl rfl (fun c138 => ?_) (fun c138 => ?_)
                          · skip
                            exact n_eq c138 i99x9 (in_c 61 rfl) rfl
                          · skip
                            refine g_iload_n 142 (gd rfl) rfl rfl ?_
                            refine g_bipush 43 144 (gd rfl) rfl rfl ?_
                            refine g_cmp_eq 147 171 (gd rfl) rfl rfl (fun c144 => ?_) (fun c144 => ?_)
                            · skip
                              exact n_eq c144 i99x9 (in_c 43 rfl) rfl
                            · skip
                              refine g_iload_n 148 (gd rfl) rfl rfl ?_
                              refine g_bipush 45 150 (gd rfl) rfl rfl ?_
                              refine g_cmp_eq 153 171 (gd rfl) rfl rfl (fun c150 => ?_) (fun c150 => ?_)
                              · skip
                                exact n_eq c150 i99x9 (in_c 45 rfl) rfl
                              · skip
                                refine g_iload_n 154 (gd rfl) rfl rfl ?_
                                refine g_bipush 42 156 (gd rfl) rfl rfl ?_
                                refine g_cmp_eq 159 171 (gd rfl) rfl rfl (fun c156 => ?_) (fun c156 => ?_)
                                · skip
                                  exact n_eq c156 i99x9 (in_c 42 rfl) rfl
                                · skip
                                  refine g_iload_n 160 (gd rfl) rfl rfl ?_
                                  refine g_bipush 40 162 (gd rfl) rfl rfl ?_
                                  refine g_cmp_eq 165 171 (gd rfl) rfl rfl (fun c162 => ?_) (fun c162 => ?_)
                                  · skip
                                    exact n_eq c162 i99x9 (in_c 40 rfl) rfl
                                  · skip
                                    refine g_iload_n 166 (gd rfl) rfl rfl ?_
                                    refine g_bipush 41 168 (gd rfl) rfl rfl ?_
                                    refine g_cmp_ne 171 175 (gd rfl) rfl rfl (fun c168 => ?_) (fun c168 => ?_)
                                    · skip
                                      refine g_iconst 0 176 (gd rfl) rfl rfl ?_
                                      refine g_istore_n 177 (gd rfl) rfl (Nat.le_of_ble_eq_true rfl) ?_
                                      refine g_aload_n 178 (gd rfl) rfl rfl ?_
                                      refine g_getI 181 (gd rfl) rfl rfl rfl (fun z178 e178 => ?_)
                                      have q178 : (Int32.ofInt 3) = z178 := (sF_ne rfl (sF_get)).trans e178.symm
                                      subst q178
                                      refine g_iconst 3 182 (gd rfl) rfl rfl ?_
                                      refine g_cmp_ne 185 198 (gd rfl) rfl rfl (fun c182 => ?_) (fun c182 => ?_)
                                      · skip
                                        exact n_ne c182 (in_c 3 rfl) (in_c 3 rfl) rfl
                                      · skip
                                        refine g_iload_n 186 (gd rfl) rfl rfl ?_
                                        refine g_if_ne 189 198 (gd rfl) rfl rfl (fun c186 => ?_) (fun c186 => ?_)
                                        · skip
                                          exact zn_ne c186 (in_c 0 rfl) rfl
                                        · skip
                                          refine g_aload_n 190 (gd rfl) rfl rfl ?_
                                          refine g_iconst 1 191 (gd rfl) rfl rfl ?_
                                          refine g_aload_n 192 (gd rfl) rfl rfl ?_
                                          refine g_getI 195 (gd rfl) rfl rfl rfl (fun z192 e192 => ?_)
                                          have q192 : w0_109_27 = z192 := (sF_ne rfl (sF_ne rfl (sF_ne rfl (sF_get)))).trans e192.symm
                                          subst q192
                                          refine g_callv (X := _) (As := [.int (Int32.ofInt 1), .int w0_109_27]) (r := []) (b := A 109) (q := 109) 198 (gd rfl) rfl rfl rfl rfl rfl (ww_o rfl) (Nat.le_of_ble_eq_true rfl) (Nat.zero_le _) (Nat.zero_le _) (k_298 (by first | exact dq1 hd rfl | exact dq0 hd rfl | exact dq2 hd rfl | exact dq3 hd rfl | omega) hI120 (in_w 1 5 (in_c 1 rfl) rfl)) (fun e u h => h) (fun v u h => ?_)
                                          obtain ⟨s195, hI195, hF195, n195, rfl, rfl⟩ := h
                                          obtain ⟨z195a, e195⟩ : ∃ w, w = s195.2.2.1 109 23 := ⟨_, rfl⟩
                                          have i195a := inv_F hI195 0 9 rfl e195
                                          rw [← (show z195a = s195.2.2.1 109 23 from e195)] at n195
                                          show GG _ _ _ _ _ _ _ _ [] _ _ _
                                          have n198 : (z119).toInt ≤ (u_109_22).toInt := by have a0 := in_u ro_109_22; have a1 := in_u i71; have a2 := in_u ((in_c 0 rfl)); have a3 := in_u i99x9; have a4 := in_u i195a; have a5 := in_u i119; have a6 := t_add e119 i71 (in_c 1 rfl) rfl; have a7 := in_u ((in_c 1 rfl)); have a8 := in_u ((in_c 3 rfl)); omega
                                          have n198a : (s195.2.2.1 109 27).toInt ≤ (s195.2.2.1 109 22).toInt := by have b0 : z119 = s195.2.2.1 109 27 := fr_F (s := (sF (sF (sF (sF sc0 109 29 w0_109_27) 109 30 z71) 109 28 (Int32.ofInt 3)) 109 27 z119)) (sF_get) hF195 rfl; have b1 : u_109_22 = s195.2.2.1 109 22 := fr_F (s := (sF (sF (sF (sF sc0 109 29 w0_109_27) 109 30 z71) 109 28 (Int32.ofInt 3)) 109 27 z119)) (sF_ne rfl (sF_ne rfl (sF_ne rfl (sF_ne rfl (fr_F e_109_22 hFc0 rfl))))) hF195 rfl; rw [← b0, ← b1]; exact n198
                                          have n198b : (u_109_27).toInt ≤ (z119).toInt := by have a0 := in_u ro_109_22; have a1 := in_u i71; have a2 := in_u ((in_c 0 rfl)); have a3 := in_u i99x9; have a4 := in_u i195a; have a5 := in_u i119; have a6 := t_add e119 i71 (in_c 1 rfl) rfl; have a7 := in_u ((in_c 1 rfl)); have a8 := in_u ((in_c 3 rfl)); omega
                                          have n198c : (s.2.2.1 109 27).toInt ≤ (s195.2.2.1 109 27).toInt := by have b0 : z119 = s195.2.2.1 109 27 := fr_F (s := (sF (sF (sF (sF sc0 109 29 w0_109_27) 109 30 z71) 109 28 (Int32.ofInt 3)) 109 27 z119)) (sF_get) hF195 rfl; first | (rw [← b0, ← e_109_27]; exact n198b) | (rw [← b0]; exact n198b)
                                          have n198d : ((Int32.ofInt 3)).toInt ≠ 0 → (u_109_27).toInt + 1 ≤ (z119).toInt := by have a0 := in_u ro_109_22; have a1 := in_u i71; have a2 := in_u ((in_c 0 rfl)); have a3 := in_u i99x9; have a4 := in_u i195a; have a5 := in_u i119; have a6 := t_add e119 i71 (in_c 1 rfl) rfl; have a7 := in_u ((in_c 1 rfl)); have a8 := in_u ((in_c 3 rfl)); omega
                                          have n198e : (s195.2.2.1 109 28).toInt ≠ 0 → (s.2.2.1 109 27).toInt + 1 ≤ (s195.2.2.1 109 27).toInt := by have b0 : (Int32.ofInt 3) = s195.2.2.1 109 28 := fr_F (s := (sF (sF (sF (sF sc0 109 29 w0_109_27) 109 30 z71) 109 28 (Int32.ofInt 3)) 109 27 z119)) (sF_ne rfl (sF_get)) hF195 rfl; have b1 : z119 = s195.2.2.1 109 27 := fr_F (s := (sF (sF (sF (sF sc0 109 29 w0_109_27) 109 30 z71) 109 28 (Int32.ofInt 3)) 109 27 z119)) (sF_get) hF195 rfl; first | (rw [← b0, ← b1, ← e_109_27]; exact n198d) | (rw [← b0, ← b1]; exact n198d)
                                          exact g_return (gd rfl) rfl (hP _ _ ⟨s195, hI195, (fr_tr rfl (fr_sF rfl (fr_sF rfl (fr_sF rfl (fr_sF rfl hFc0)))) hF195), n198a, n198c, n198e, rfl, rfl⟩)
                                    · skip
                                      exact n_eq c168 i99x9 (in_c 41 rfl) rfl
                    · skip
                      exact zn_ne c102 (in_c 0 rfl) rfl
                  · skip
                    have i99x9 := r_le1 97 122 c99x9 i99x3 (in_c 122 rfl) rfl
                    refine g_iconst 1 13 (gd rfl) rfl rfl ?_
                    refine g_goto 17 (gd rfl) rfl ?_
                    refine g_ireturn (gd rfl) rfl (nb01 (in_w 0 1 (in_c 1 rfl) rfl)) (hp99 _ _ ?_)
                    show GG _ _ _ _ _ _ _ _ [.int (Int32.ofInt 1), .ref (A 109)] _ _ _
                    refine g_if_eq 105 109 (gd rfl) rfl rfl (fun c102 => ?_) (fun c102 => ?_)
                    · skip
                      exact zn_eq c102 (in_c 1 rfl) rfl
                    · skip
                      refine g_iconst 1 106 (gd rfl) rfl rfl ?_
                      refine g_goto 110 (gd rfl) rfl ?_
                      refine g_putI 113 (gd rfl) rfl rfl rfl rfl ?_
                      have hI110 := inv_sF (q := 109) (j := 28) hI75 rfl (in_w (-2147483648) 2147483647 (in_c 1 rfl) rfl)
                      refine g_aload_n 114 (gd rfl) rfl rfl ?_
                      refine g_dup 115 (gd rfl) rfl rfl ?_
                      refine g_getI 118 (gd rfl) rfl rfl rfl (fun z115 e115 => ?_)
                      have q115 : w0_109_27 = z115 := (sF_ne rfl (sF_ne rfl (sF_ne rfl (v0_109_27)))).trans e115.symm
                      subst q115
                      refine g_iconst 1 119 (gd rfl) rfl rfl ?_
                      refine g_iadd 120 (gd rfl) rfl (fun z119 e119 => ?_)
                      have i119 := in_add 1 1000 e119 i71 (in_c 1 rfl) rfl rfl
                      refine g_putI 123 (gd rfl) rfl rfl rfl rfl ?_
                      have hI120 := inv_sF (q := 109) (j := 27) hI110 rfl (in_w 0 1000 i119 rfl)
                      refine g_iload_n 124 (gd rfl) rfl rfl ?_
                      refine g_bipush 59 126 (gd rfl) rfl rfl ?_
                      refine g_cmp_eq 129 171 (gd rfl) rfl rfl (fun c126 => ?_) (fun c126 => ?_)
                      · skip
                        exact n_eq c126 i99x9 (in_c 59 rfl) rfl
                      · skip
                        refine g_iload_n 130 (gd rfl) rfl rfl ?_
                        refine g_bipush 60 132 (gd rfl) rfl rfl ?_
                        refine g_cmp_eq 135 171 (gd rfl) rfl rfl (fun c132 => ?_) (fun c132 => ?_)
                        · skip
                          exact n_eq c132 i99x9 (in_c 60 rfl) rfl
                        · skip
                          refine g_iload_n 136 (gd rfl) rfl rfl ?_
                          refine g_bipush 61 138 (gd rfl) rfl rfl ?_
                          refine g_cmp_eq 141 171 (gd rfl) rfl rfl (fun c138 => ?_) (fun c138 => ?_)
                          · skip
                            exact n_eq c138 i99x9 (in_c 61 rfl) rfl
                          · skip
                            refine g_iload_n 142 (gd rfl) rfl rfl ?_
                            refine g_bipush 43 144 (gd rfl) rfl rfl ?_
                            refine g_cmp_eq 147 171 (gd rfl) rfl rfl (fun c144 => ?_) (fun c144 => ?_)
                            · skip
                              exact n_eq c144 i99x9 (in_c 43 rfl) rfl
                            · skip
                              refine g_iload_n 148 (gd rfl) rfl rfl ?_
                              refine g_bipush 45 150 (gd rfl) rfl rfl ?_
                              refine g_cmp_eq 153 171 (gd rfl) rfl rfl (fun c150 => ?_) (fun c150 => ?_)
                              · skip
                                exact n_eq c150 i99x9 (in_c 45 rfl) rfl
                              · skip
                                refine g_iload_n 154 (gd rfl) rfl rfl ?_
                                refine g_bipush 42 156 (gd rfl) rfl rfl ?_
                                refine g_cmp_eq 159 171 (gd rfl) rfl rfl (fun c156 => ?_) (fun c156 => ?_)
                                · skip
                                  exact n_eq c156 i99x9 (in_c 42 rfl) rfl
                                · skip
                                  refine g_iload_n 160 (gd rfl) rfl rfl ?_
                                  refine g_bipush 40 162 (gd rfl) rfl rfl ?_
                                  refine g_cmp_eq 165 171 (gd rfl) rfl rfl (fun c162 => ?_) (fun c162 => ?_)
                                  · skip
                                    exact n_eq c162 i99x9 (in_c 40 rfl) rfl
                                  · skip
                                    refine g_iload_n 166 (gd rfl) rfl rfl ?_
                                    refine g_bipush 41 168 (gd rfl) rfl rfl ?_
                                    refine g_cmp_ne 171 175 (gd rfl) rfl rfl (fun c168 => ?_) (fun c168 => ?_)
                                    · skip
                                      refine g_iconst 0 176 (gd rfl) rfl rfl ?_
                                      refine g_istore_n 177 (gd rfl) rfl (Nat.le_of_ble_eq_true rfl) ?_
                                      refine g_aload_n 178 (gd rfl) rfl rfl ?_
                                      refine g_getI 181 (gd rfl) rfl rfl rfl (fun z178 e178 => ?_)
                                      have q178 : (Int32.ofInt 1) = z178 := (sF_ne rfl (sF_get)).trans e178.symm
                                      subst q178
                                      refine g_iconst 3 182 (gd rfl) rfl rfl ?_
                                      refine g_cmp_ne 185 198 (gd rfl) rfl rfl (fun c182 => ?_) (fun c182 => ?_)
                                      · skip
                                        have n198 : (z119).toInt ≤ (u_109_22).toInt := by have a0 := in_u ro_109_22; have a1 := in_u i71; have a2 := in_u ((in_c 0 rfl)); have a3 := in_u i99x9; have a4 := in_u i119; have a5 := t_add e119 i71 (in_c 1 rfl) rfl; have a6 := in_u ((in_c 1 rfl)); omega
                                        have n198a : ((sF (sF (sF (sF sc0 109 29 w0_109_27) 109 30 z71) 109 28 (Int32.ofInt 1)) 109 27 z119).2.2.1 109 27).toInt ≤ ((sF (sF (sF (sF sc0 109 29 w0_109_27) 109 30 z71) 109 28 (Int32.ofInt 1)) 109 27 z119).2.2.1 109 22).toInt := by have b0 : z119 = (sF (sF (sF (sF sc0 109 29 w0_109_27) 109 30 z71) 109 28 (Int32.ofInt 1)) 109 27 z119).2.2.1 109 27 := sF_get; have b1 : u_109_22 = (sF (sF (sF (sF sc0 109 29 w0_109_27) 109 30 z71) 109 28 (Int32.ofInt 1)) 109 27 z119).2.2.1 109 22 := sF_ne rfl (sF_ne rfl (sF_ne rfl (sF_ne rfl (fr_F e_109_22 hFc0 rfl)))); rw [← b0, ← b1]; exact n198
                                        have n198b : (u_109_27).toInt ≤ (z119).toInt := by have a0 := in_u ro_109_22; have a1 := in_u i71; have a2 := in_u ((in_c 0 rfl)); have a3 := in_u i99x9; have a4 := in_u i119; have a5 := t_add e119 i71 (in_c 1 rfl) rfl; have a6 := in_u ((in_c 1 rfl)); omega
                                        have n198c : (s.2.2.1 109 27).toInt ≤ ((sF (sF (sF (sF sc0 109 29 w0_109_27) 109 30 z71) 109 28 (Int32.ofInt 1)) 109 27 z119).2.2.1 109 27).toInt := by have b0 : z119 = (sF (sF (sF (sF sc0 109 29 w0_109_27) 109 30 z71) 109 28 (Int32.ofInt 1)) 109 27 z119).2.2.1 109 27 := sF_get; first | (rw [← b0, ← e_109_27]; exact n198b) | (rw [← b0]; exact n198b)
                                        have n198d : ((Int32.ofInt 1)).toInt ≠ 0 → (u_109_27).toInt + 1 ≤ (z119).toInt := by have a0 := in_u ro_109_22; have a1 := in_u i71; have a2 := in_u ((in_c 0 rfl)); have a3 := in_u i99x9; have a4 := in_u i119; have a5 := t_add e119 i71 (in_c 1 rfl) rfl; have a6 := in_u ((in_c 1 rfl)); omega
                                        have n198e : ((sF (sF (sF (sF sc0 109 29 w0_109_27) 109 30 z71) 109 28 (Int32.ofInt 1)) 109 27 z119).2.2.1 109 28).toInt ≠ 0 → (s.2.2.1 109 27).toInt + 1 ≤ ((sF (sF (sF (sF sc0 109 29 w0_109_27) 109 30 z71) 109 28 (Int32.ofInt 1)) 109 27 z119).2.2.1 109 27).toInt := by have b0 : (Int32.ofInt 1) = (sF (sF (sF (sF sc0 109 29 w0_109_27) 109 30 z71) 109 28 (Int32.ofInt 1)) 109 27 z119).2.2.1 109 28 := sF_ne rfl (sF_get); have b1 : z119 = (sF (sF (sF (sF sc0 109 29 w0_109_27) 109 30 z71) 109 28 (Int32.ofInt 1)) 109 27 z119).2.2.1 109 27 := sF_get; first | (rw [← b0, ← b1, ← e_109_27]; exact n198d) | (rw [← b0, ← b1]; exact n198d)
                                        exact g_return (gd rfl) rfl (hP _ _ ⟨(sF (sF (sF (sF sc0 109 29 w0_109_27) 109 30 z71) 109 28 (Int32.ofInt 1)) 109 27 z119), hI120, (fr_sF rfl (fr_sF rfl (fr_sF rfl (fr_sF rfl hFc0)))), n198a, n198c, n198e, rfl, rfl⟩)
                                      · skip
                                        exact n_eq c182 (in_c 1 rfl) (in_c 3 rfl) rfl
                                    · skip
                                      exact n_eq c168 i99x9 (in_c 41 rfl) rfl
              · skip
                exact zn_ne c82 (in_c 0 rfl) rfl
            · skip
              have i79x9 := r_le1 48 57 c79x9 i79x3 (in_c 57 rfl) rfl
              refine g_iconst 1 13 (gd rfl) rfl rfl ?_
              refine g_goto 17 (gd rfl) rfl ?_
              refine g_ireturn (gd rfl) rfl (nb01 (in_w 0 1 (in_c 1 rfl) rfl)) (hp79 _ _ ?_)
              show GG _ _ _ _ _ _ _ _ [.int (Int32.ofInt 1)] _ _ _
              refine g_if_eq 85 97 (gd rfl) rfl rfl (fun c82 => ?_) (fun c82 => ?_)
              · skip
                exact zn_eq c82 (in_c 1 rfl) rfl
              · skip
                refine g_aload_n 86 (gd rfl) rfl rfl ?_
                refine g_iconst 2 87 (gd rfl) rfl rfl ?_
                refine g_putI 90 (gd rfl) rfl rfl rfl rfl ?_
                have hI87 := inv_sF (q := 109) (j := 28) hI75 rfl (in_w (-2147483648) 2147483647 (in_c 2 rfl) rfl)
                refine g_aload_n 91 (gd rfl) rfl rfl ?_
                refine g_bipush 6 93 (gd rfl) rfl rfl ?_
                have v93 : w0_109_27 = (sF (sF (sF sc0 109 29 w0_109_27) 109 30 z71) 109 28 (Int32.ofInt 2)).2.2.1 109 27 := sF_ne rfl (sF_ne rfl (sF_ne rfl (v0_109_27)))
                have v93a : u_109_22 = (sF (sF (sF sc0 109 29 w0_109_27) 109 30 z71) 109 28 (Int32.ofInt 2)).2.2.1 109 22 := sF_ne rfl (sF_ne rfl (sF_ne rfl (fr_F e_109_22 hFc0 rfl)))
                have n93 : (w0_109_27).toInt < (u_109_22).toInt := by have a0 := in_u ro_109_22; have a1 := in_u i71; have a2 := in_u i79x9; have a3 := in_u ((in_c 2 rfl)); omega
                have p93 : 48 ≤ ((sF (sF (sF sc0 109 29 w0_109_27) 109 30 z71) 109 28 (Int32.ofInt 2)).1 125 ((sF (sF (sF sc0 109 29 w0_109_27) 109 30 z71) 109 28 (Int32.ofInt 2)).2.2.1 109 27).toNatClampNeg).toInt ∧ ((sF (sF (sF sc0 109 29 w0_109_27) 109 30 z71) 109 28 (Int32.ofInt 2)).1 125 ((sF (sF (sF sc0 109 29 w0_109_27) 109 30 z71) 109 28 (Int32.ofInt 2)).2.2.1 109 27).toNatClampNeg).toInt ≤ 57 := by first | (have hz : z19 = (sF (sF (sF sc0 109 29 w0_109_27) 109 30 z71) 109 28 (Int32.ofInt 2)).1 125 ((sF (sF (sF sc0 109 29 w0_109_27) 109 30 z71) 109 28 (Int32.ofInt 2)).2.2.1 109 27).toNatClampNeg := (by rw [← (show w0_109_27 = (sF (sF (sF sc0 109 29 w0_109_27) 109 30 z71) 109 28 (Int32.ofInt 2)).2.2.1 109 27 from sF_ne rfl (sF_ne rfl (sF_ne rfl (v0_109_27))))]; exact e19); rw [← hz]; exact i79x9) | (have hz : z71 = (sF (sF (sF sc0 109 29 w0_109_27) 109 30 z71) 109 28 (Int32.ofInt 2)).1 125 ((sF (sF (sF sc0 109 29 w0_109_27) 109 30 z71) 109 28 (Int32.ofInt 2)).2.2.1 109 27).toNatClampNeg := (by rw [← (show w0_109_27 = (sF (sF (sF sc0 109 29 w0_109_27) 109 30 z71) 109 28 (Int32.ofInt 2)).2.2.1 109 27 from sF_ne rfl (sF_ne rfl (sF_ne rfl (v0_109_27))))]; exact e71); rw [← hz]; exact i79x9)
                refine g_callv (X := _) (As := [.int (Int32.ofInt 6)]) (r := []) (b := A 109) (q := 109) 96 (gd rfl) rfl rfl rfl rfl rfl (ww_o rfl) (Nat.le_of_ble_eq_true rfl) (Nat.zero_le _) (Nat.zero_le _) (k_300 (by first | exact dq1 hd rfl | exact dq0 hd rfl | exact dq2 hd rfl | exact dq3 hd rfl | omega) hI87 (in_w 6 7 (in_c 6 rfl) rfl) v93 v93a n93 p93) (fun e u h => h) (fun v u h => ?_)
                obtain ⟨s93, hI93, hF93, n93a, n93b, rfl, rfl⟩ := h
                obtain ⟨z93a, e93⟩ : ∃ w, w = s93.2.2.1 109 27 := ⟨_, rfl⟩
                have i93a := inv_F hI93 0 1000 rfl e93
                rw [← (show z93a = s93.2.2.1 109 27 from e93)] at n93a
                rw [← (show u_109_22 = s93.2.2.1 109 22 from fr_F (s := (sF (sF (sF sc0 109 29 w0_109_27) 109 30 z71) 109 28 (Int32.ofInt 2))) (sF_ne rfl (sF_ne rfl (sF_ne rfl (fr_F e_109_22 hFc0 rfl)))) hF93 rfl)] at n93a
                rw [← (show w0_109_27 = (sF (sF (sF sc0 109 29 w0_109_27) 109 30 z71) 109 28 (Int32.ofInt 2)).2.2.1 109 27 from sF_ne rfl (sF_ne rfl (sF_ne rfl (v0_109_27))))] at n93b
                rw [← (show z93a = s93.2.2.1 109 27 from e93)] at n93b
                show GG _ _ _ _ _ _ _ _ [] _ _ _
                have n96 : (z93a).toInt ≤ (u_109_22).toInt := by have a0 := in_u ro_109_22; have a1 := in_u i71; have a2 := in_u i79x9; have a3 := in_u i93a; have a4 := in_u ((in_c 2 rfl)); omega
                have n96a : (s93.2.2.1 109 27).toInt ≤ (s93.2.2.1 109 22).toInt := by have b0 : z93a = s93.2.2.1 109 27 := e93; have b1 : u_109_22 = s93.2.2.1 109 22 := fr_F (s := (sF (sF (sF sc0 109 29 w0_109_27) 109 30 z71) 109 28 (Int32.ofInt 2))) (sF_ne rfl (sF_ne rfl (sF_ne rfl (fr_F e_109_22 hFc0 rfl)))) hF93 rfl; rw [← b0, ← b1]; exact n96
                have n96b : (u_109_27).toInt ≤ (z93a).toInt := by have a0 := in_u ro_109_22; have a1 := in_u i71; have a2 := in_u i79x9; have a3 := in_u i93a; have a4 := in_u ((in_c 2 rfl)); omega
                have n96c : (s.2.2.1 109 27).toInt ≤ (s93.2.2.1 109 27).toInt := by have b0 : z93a = s93.2.2.1 109 27 := e93; first | (rw [← b0, ← e_109_27]; exact n96b) | (rw [← b0]; exact n96b)
                have n96d : ((Int32.ofInt 2)).toInt ≠ 0 → (u_109_27).toInt + 1 ≤ (z93a).toInt := by have a0 := in_u ro_109_22; have a1 := in_u i71; have a2 := in_u i79x9; have a3 := in_u i93a; have a4 := in_u ((in_c 2 rfl)); omega
                have n96e : (s93.2.2.1 109 28).toInt ≠ 0 → (s.2.2.1 109 27).toInt + 1 ≤ (s93.2.2.1 109 27).toInt := by have b0 : (Int32.ofInt 2) = s93.2.2.1 109 28 := fr_F (s := (sF (sF (sF sc0 109 29 w0_109_27) 109 30 z71) 109 28 (Int32.ofInt 2))) (sF_get) hF93 rfl; have b1 : z93a = s93.2.2.1 109 27 := e93; first | (rw [← b0, ← b1, ← e_109_27]; exact n96d) | (rw [← b0, ← b1]; exact n96d)
                exact g_return (gd rfl) rfl (hP _ _ ⟨s93, hI93, (fr_tr rfl (fr_sF rfl (fr_sF rfl (fr_sF rfl hFc0))) hF93), n96a, n96c, n96e, rfl, rfl⟩)
        · skip
          refine g_aload_n 58 (gd rfl) rfl rfl ?_
          refine g_iconst 0 59 (gd rfl) rfl rfl ?_
          refine g_putI 62 (gd rfl) rfl rfl rfl rfl ?_
          have hI59 := inv_sF (q := 109) (j := 28) hI43 rfl (in_w (-2147483648) 2147483647 (in_c 0 rfl) rfl)
          have n62 : (w0_109_27).toInt ≤ (u_109_22).toInt := by first | exact n0_0 | (have a0 := in_u ro_109_22; have a1 := in_u ((inv_F hIc0 0 1000 rfl v0_109_27)); have a2 := in_u ((in_c 0 rfl)); omega)
          have n62a : ((sF (sF sc0 109 29 w0_109_27) 109 28 (Int32.ofInt 0)).2.2.1 109 27).toInt ≤ ((sF (sF sc0 109 29 w0_109_27) 109 28 (Int32.ofInt 0)).2.2.1 109 22).toInt := by have b0 : w0_109_27 = (sF (sF sc0 109 29 w0_109_27) 109 28 (Int32.ofInt 0)).2.2.1 109 27 := sF_ne rfl (sF_ne rfl (v0_109_27)); have b1 : u_109_22 = (sF (sF sc0 109 29 w0_109_27) 109 28 (Int32.ofInt 0)).2.2.1 109 22 := sF_ne rfl (sF_ne rfl (fr_F e_109_22 hFc0 rfl)); rw [← b0, ← b1]; exact n62
          have n62b : (u_109_27).toInt ≤ (w0_109_27).toInt := by first | exact n0_1 | (have a0 := in_u ro_109_22; have a1 := in_u ((inv_F hIc0 0 1000 rfl v0_109_27)); have a2 := in_u ((in_c 0 rfl)); omega)
          have n62c : (s.2.2.1 109 27).toInt ≤ ((sF (sF sc0 109 29 w0_109_27) 109 28 (Int32.ofInt 0)).2.2.1 109 27).toInt := by have b0 : w0_109_27 = (sF (sF sc0 109 29 w0_109_27) 109 28 (Int32.ofInt 0)).2.2.1 109 27 := sF_ne rfl (sF_ne rfl (v0_109_27)); first | (rw [← b0, ← e_109_27]; exact n62b) | (rw [← b0]; exact n62b)
          have n62d : ((Int32.ofInt 0)).toInt ≠ 0 → (u_109_27).toInt + 1 ≤ (w0_109_27).toInt := by have a0 := in_u ro_109_22; have a1 := in_u ((inv_F hIc0 0 1000 rfl v0_109_27)); have a2 := in_u ((in_c 0 rfl)); omega
          have n62e : ((sF (sF sc0 109 29 w0_109_27) 109 28 (Int32.ofInt 0)).2.2.1 109 28).toInt ≠ 0 → (s.2.2.1 109 27).toInt + 1 ≤ ((sF (sF sc0 109 29 w0_109_27) 109 28 (Int32.ofInt 0)).2.2.1 109 27).toInt := by have b0 : (Int32.ofInt 0) = (sF (sF sc0 109 29 w0_109_27) 109 28 (Int32.ofInt 0)).2.2.1 109 28 := sF_get; have b1 : w0_109_27 = (sF (sF sc0 109 29 w0_109_27) 109 28 (Int32.ofInt 0)).2.2.1 109 27 := sF_ne rfl (sF_ne rfl (v0_109_27)); first | (rw [← b0, ← b1, ← e_109_27]; exact n62d) | (rw [← b0, ← b1]; exact n62d)
          exact g_return (gd rfl) rfl (hP _ _ ⟨(sF (sF sc0 109 29 w0_109_27) 109 28 (Int32.ofInt 0)), hI59, (fr_sF rfl (fr_sF rfl hFc0)), n62a, n62c, n62e, rfl, rfl⟩)
      · skip
        have i8 := r_lt1 0 999 c8 (inv_F hIc0 0 1000 rfl v0_109_27) ro_109_22 rfl
        have i8a := r_lt2 1 1000 c8 (inv_F hIc0 0 1000 rfl v0_109_27) ro_109_22 rfl
        refine g_aload_n 12 (gd rfl) rfl rfl ?_
        refine g_getA (q2 := 125) 15 (gd rfl) rfl rfl rfl rfl ?_
        refine g_aload_n 16 (gd rfl) rfl rfl ?_
        refine g_getI 19 (gd rfl) rfl rfl rfl (fun z16 e16 => ?_)
        have q16 : w0_109_27 = z16 := (v0_109_27).trans e16.symm
        subst q16
        refine g_iaload 20 (gd rfl) rfl (n := 1000) rfl (in_ix i8 rfl) (fun z19 e19 => ?_)
        have i19 := inv_I hIc0 (n := 1000) (t := 0) 0 126 rfl (in_ix i8 rfl) rfl e19
        refine g_bipush 32 22 (gd rfl) rfl rfl ?_
        refine g_cmp_ne 25 38 (gd rfl) rfl rfl (fun c22 => ?_) (fun c22 => ?_)
        · skip
          refine g_aload_n 39 (gd rfl) rfl rfl ?_
          refine g_aload_n 40 (gd rfl) rfl rfl ?_
          refine g_getI 43 (gd rfl) rfl rfl rfl (fun z40 e40 => ?_)
          have q40 : w0_109_27 = z40 := (v0_109_27).trans e40.symm
          subst q40
          refine g_putI 46 (gd rfl) rfl rfl rfl rfl ?_
          have hI43 := inv_sF (q := 109) (j := 29) hIc0 rfl (in_w 0 1000 i8 rfl)
          refine g_aload_n 47 (gd rfl) rfl rfl ?_
          refine g_getI 50 (gd rfl) rfl rfl rfl (fun z47 e47 => ?_)
          have q47 : w0_109_27 = z47 := (sF_ne rfl (v0_109_27)).trans e47.symm
          subst q47
          refine g_aload_n 51 (gd rfl) rfl rfl ?_
          refine g_getI 54 (gd rfl) rfl rfl rfl (fun z51 e51 => ?_)
          have q51 : u_109_22 = z51 := (sF_ne rfl (fr_F e_109_22 hFc0 rfl)).trans e51.symm
          subst q51
          refine g_cmp_ne 57 63 (gd rfl) rfl rfl (fun c54 => ?_) (fun c54 => ?_)
          · skip
            refine g_aload_n 64 (gd rfl) rfl rfl ?_
            refine g_getA (q2 := 125) 67 (gd rfl) rfl rfl rfl rfl ?_
            refine g_aload_n 68 (gd rfl) rfl rfl ?_
            refine g_getI 71 (gd rfl) rfl rfl rfl (fun z68 e68 => ?_)
            have q68 : w0_109_27 = z68 := (sF_ne rfl (v0_109_27)).trans e68.symm
            subst q68
            refine g_iaload 72 (gd rfl) rfl (n := 1000) rfl (in_ix i8 rfl) (fun z71 e71 => ?_)
            have q71 : z19 = z71 := (sF_I (e19)).trans e71.symm
            subst q71
            refine g_istore_n 73 (gd rfl) rfl (Nat.le_of_ble_eq_true rfl) ?_
            refine g_aload_n 74 (gd rfl) rfl rfl ?_
            refine g_iload_n 75 (gd rfl) rfl rfl ?_
            refine g_putI 78 (gd rfl) rfl rfl rfl rfl ?_
            have hI75 := inv_sF (q := 109) (j := 30) hI43 rfl (in_w (-2147483648) 2147483647 i19 rfl)
            refine g_iload_n 79 (gd rfl) rfl rfl ?_
            refine g_calls (As := [.int z19]) (r := []) 82 (gd rfl) rfl rfl rfl rfl rfl (Nat.le_of_ble_eq_true rfl) (mc := 0) (ms := 0) (Nat.zero_le _) (Nat.zero_le _) (P := fun v u => _) ?_ (fun v u h => h)
            intro po79 xx79 hp79 hx79
            refine g_enter2 (k := 297) (N := 300) (by first | exact dq1 hd rfl | exact dq0 hd rfl | exact dq2 hd rfl | exact dq3 hd rfl | omega) rfl (Nat.le_of_ble_eq_true rfl) ?_
            refine g_iload_n 1 (gd rfl) rfl rfl ?_
            refine g_bipush 48 3 (gd rfl) rfl rfl ?_
            refine g_cmp_lt 6 16 (gd rfl) rfl rfl (fun c79x3 => ?_) (fun c79x3 => ?_)
            · skip
              have i79x3 := r_lt1 0 47 c79x3 i19 (in_c 48 rfl) rfl
              refine g_iconst 0 17 (gd rfl) rfl rfl ?_
              refine g_ireturn (gd rfl) rfl (nb01 (in_w 0 1 (in_c 0 rfl) rfl)) (hp79 _ _ ?_)
              show GG _ _ _ _ _ _ _ _ [.int (Int32.ofInt 0)] _ _ _
              refine g_if_eq 85 97 (gd rfl) rfl rfl (fun c82 => ?_) (fun c82 => ?_)
              · skip
                refine g_aload_n 98 (gd rfl) rfl rfl ?_
                refine g_iload_n 99 (gd rfl) rfl rfl ?_
                refine g_calls (As := [.int z19]) (r := [.ref (A 109)]) 102 (gd rfl) rfl rfl rfl rfl rfl (Nat.le_of_ble_eq_true rfl) (mc := 0) (ms := 0) (Nat.zero_le _) (Nat.zero_le _) (P := fun v u => _) ?_ (fun v u h => h)
                intro po99 xx99 hp99 hx99
                refine g_enter2 (k := 296) (N := 300) (by first | exact dq1 hd rfl | exact dq0 hd rfl | exact dq2 hd rfl | exact dq3 hd rfl | omega) rfl (Nat.le_of_ble_eq_true rfl) ?_
                refine g_iload_n 1 (gd rfl) rfl rfl ?_
                refine g_bipush 97 3 (gd rfl) rfl rfl ?_
                refine g_cmp_lt 6 16 (gd rfl) rfl rfl (fun c99x3 => ?_) (fun c99x3 => ?_)
                · skip
                  refine g_iconst 0 17 (gd rfl) rfl rfl ?_
                  refine g_ireturn (gd rfl) rfl (nb01 (in_w 0 1 (in_c 0 rfl) rfl)) (hp99 _ _ ?_)
                  show GG _ _ _ _ _ _ _ _ [.int (Int32.ofInt 0), .ref (A 109)] _ _ _
                  refine g_if_eq 105 109 (gd rfl) rfl rfl (fun c102 => ?_) (fun c102 => ?_)
                  · skip
                    refine g_iconst 3 110 (gd rfl) rfl rfl ?_
                    refine g_putI 113 (gd rfl) rfl rfl rfl rfl ?_
                    have hI110 := inv_sF (q := 109) (j := 28) hI75 rfl (in_w (-2147483648) 2147483647 (in_c 3 rfl) rfl)
                    refine g_aload_n 114 (gd rfl) rfl rfl ?_
                    refine g_dup 115 (gd rfl) rfl rfl ?_
                    refine g_getI 118 (gd rfl) rfl rfl rfl (fun z115 e115 => ?_)
                    have q115 : w0_109_27 = z115 := (sF_ne rfl (sF_ne rfl (sF_ne rfl (v0_109_27)))).trans e115.symm
                    subst q115
                    refine g_iconst 1 119 (gd rfl) rfl rfl ?_
                    refine g_iadd 120 (gd rfl) rfl (fun z119 e119 => ?_)
                    have i119 := in_add 1 1000 e119 i8 (in_c 1 rfl) rfl rfl
                    refine g_putI 123 (gd rfl) rfl rfl rfl rfl ?_
                    have hI120 := inv_sF (q := 109) (j := 27) hI110 rfl (in_w 0 1000 i119 rfl)
                    refine g_iload_n 124 (gd rfl) rfl rfl ?_
                    refine g_bipush 59 126 (gd rfl) rfl rfl ?_
                    refine g_cmp_eq 129 171 (gd rfl) rfl rfl (fun c126 => ?_) (fun c126 => ?_)
                    · skip
                      exact n_eq c126 i79x3 (in_c 59 rfl) rfl
                    · skip
                      refine g_iload_n 130 (gd rfl) rfl rfl ?_
                      refine g_bipush 60 132 (gd rfl) rfl rfl ?_
                      refine g_cmp_eq 135 171 (gd rfl) rfl rfl (fun c132 => ?_) (fun c132 => ?_)
                      · skip
                        exact n_eq c132 i79x3 (in_c 60 rfl) rfl
                      · skip
                        refine g_iload_n 136 (gd rfl) rfl rfl ?_
                        refine g_bipush 61 138 (gd rfl) rfl rfl ?_
                        refine g_cmp_eq 141 171 (gd rfl) rfl rfl (fun c138 => ?_) (fun c138 => ?_)
                        · skip
                          exact n_eq c138 i79x3 (in_c 61 rfl) rfl
                        · skip
                          refine g_iload_n 142 (gd rfl) rfl rfl ?_
                          refine g_bipush 43 144 (gd rfl) rfl rfl ?_
                          refine g_cmp_eq 147 171 (gd rfl) rfl rfl (fun c144 => ?_) (fun c144 => ?_)
                          · skip
                            have i144 := r_eq1 43 43 c144 i79x3 (in_c 43 rfl) rfl
                            refine g_iconst 1 172 (gd rfl) rfl rfl ?_
                            refine g_goto 176 (gd rfl) rfl ?_
                            refine g_istore_n 177 (gd rfl) rfl (Nat.le_of_ble_eq_true rfl) ?_
                            refine g_aload_n 178 (gd rfl) rfl rfl ?_
                            refine g_getI 181 (gd rfl) rfl rfl rfl (fun z178 e178 => ?_)
                            have q178 : (Int32.ofInt 3) = z178 := (sF_ne rfl (sF_get)).trans e178.symm
                            subst q178
                            refine g_iconst 3 182 (gd rfl) rfl rfl ?_
                            refine g_cmp_ne 185 198 (gd rfl) rfl rfl (fun c182 => ?_) (fun c182 => ?_)
                            · skip
                              exact n_ne c182 (in_c 3 rfl) (in_c 3 rfl) rfl
                            · skip
                              refine g_iload_n 186 (gd rfl) rfl rfl ?_
                              refine g_if_ne 189 198 (gd rfl) rfl rfl (fun c186 => ?_) (fun c186 => ?_)
                              · skip
                                have n198 : (z119).toInt ≤ (u_109_22).toInt := by have a0 := in_u i8a; have a1 := in_u i8; have a2 := in_u ((in_c 1 rfl)); have a3 := in_u i144; have a4 := in_u i119; have a5 := t_add e119 i8 (in_c 1 rfl) rfl; have a6 := in_u ((in_c 3 rfl)); omega
                                have n198a : ((sF (sF (sF (sF sc0 109 29 w0_109_27) 109 30 z19) 109 28 (Int32.ofInt 3)) 109 27 z119).2.2.1 109 27).toInt ≤ ((sF (sF (sF (sF sc0 109 29 w0_109_27) 109 30 z19) 109 28 (Int32.ofInt 3)) 109 27 z119).2.2.1 109 22).toInt := by have b0 : z119 = (sF (sF (sF (sF sc0 109 29 w0_109_27) 109 30 z19) 109 28 (Int32.ofInt 3)) 109 27 z119).2.2.1 109 27 := sF_get; have b1 : u_109_22 = (sF (sF (sF (sF sc0 109 29 w0_109_27) 109 30 z19) 109 28 (Int32.ofInt 3)) 109 27 z119).2.2.1 109 22 := sF_ne rfl (sF_ne rfl (sF_ne rfl (sF_ne rfl (fr_F e_109_22 hFc0 rfl)))); rw [← b0, ← b1]; exact n198
                                have n198b : (u_109_27).toInt ≤ (z119).toInt := by have a0 := in_u i8a; have a1 := in_u i8; have a2 := in_u ((in_c 1 rfl)); have a3 := in_u i144; have a4 := in_u i119; have a5 := t_add e119 i8 (in_c 1 rfl) rfl; have a6 := in_u ((in_c 3 rfl)); omega
                                have n198c : (s.2.2.1 109 27).toInt ≤ ((sF (sF (sF (sF sc0 109 29 w0_109_27) 109 30 z19) 109 28 (Int32.ofInt 3)) 109 27 z119).2.2.1 109 27).toInt := by have b0 : z119 = (sF (sF (sF (sF sc0 109 29 w0_109_27) 109 30 z19) 109 28 (Int32.ofInt 3)) 109 27 z119).2.2.1 109 27 := sF_get; first | (rw [← b0, ← e_109_27]; exact n198b) | (rw [← b0]; exact n198b)
                                have n198d : ((Int32.ofInt 3)).toInt ≠ 0 → (u_109_27).toInt + 1 ≤ (z119).toInt := by have a0 := in_u i8a; have a1 := in_u i8; have a2 := in_u ((in_c 1 rfl)); have a3 := in_u i144; have a4 := in_u i119; have a5 := t_add e119 i8 (in_c 1 rfl) rfl; have a6 := in_u ((in_c 3 rfl)); omega
                                have n198e : ((sF (sF (sF (sF sc0 109 29 w0_109_27) 109 30 z19) 109 28 (Int32.ofInt 3)) 109 27 z119).2.2.1 109 28).toInt ≠ 0 → (s.2.2.1 109 27).toInt + 1 ≤ ((sF (sF (sF (sF sc0 109 29 w0_109_27) 109 30 z19) 109 28 (Int32.ofInt 3)) 109 27 z119).2.2.1 109 27).toInt := by have b0 : (Int32.ofInt 3) = (sF (sF (sF (sF sc0 109 29 w0_109_27) 109 30 z19) 109 28 (Int32.ofInt 3)) 109 27 z119).2.2.1 109 28 := sF_ne rfl (sF_get); have b1 : z119 = (sF (sF (sF (sF sc0 109 29 w0_109_27) 109 30 z19) 109 28 (Int32.ofInt 3)) 109 27 z119).2.2.1 109 27 := sF_get; first | (rw [← b0, ← b1, ← e_109_27]; exact n198d) | (rw [← b0, ← b1]; exact n198d)
                                exact g_return (gd rfl) rfl (hP _ _ ⟨(sF (sF (sF (sF sc0 109 29 w0_109_27) 109 30 z19) 109 28 (Int32.ofInt 3)) 109 27 z119), hI120, (fr_sF rfl (fr_sF rfl (fr_sF rfl (fr_sF rfl hFc0)))), n198a, n198c, n198e, rfl, rfl⟩)
                              · skip
                                exact zn_eq c186 (in_c 1 rfl) rfl
                          · skip
                            refine g_iload_n 148 (gd rfl) rfl rfl ?_
                            refine g_bipush 45 150 (gd rfl) rfl rfl ?_
                            refine g_cmp_eq 153 171 (gd rfl) rfl rfl (fun c150 => ?_) (fun c150 => ?_)
                            · skip
                              have i150 := r_eq1 45 45 c150 i79x3 (in_c 45 rfl) rfl
                              refine g_iconst 1 172 (gd rfl) rfl rfl ?_
                              refine g_goto 176 (gd rfl) rfl ?_
                              refine g_istore_n 177 (gd rfl) rfl (Nat.le_of_ble_eq_true rfl) ?_
                              refine g_aload_n 178 (gd rfl) rfl rfl ?_
                              refine g_getI 181 (gd rfl) rfl rfl rfl (fun z178 e178 => ?_)
                              have q178 : (Int32.ofInt 3) = z178 := (sF_ne rfl (sF_get)).trans e178.symm
                              subst q178
                              refine g_iconst 3 182 (gd rfl) rfl rfl ?_
                              refine g_cmp_ne 185 198 (gd rfl) rfl rfl (fun c182 => ?_) (fun c182 => ?_)
                              · skip
                                exact n_ne c182 (in_c 3 rfl) (in_c 3 rfl) rfl
                              · skip
                                refine g_iload_n 186 (gd rfl) rfl rfl ?_
                                refine g_if_ne 189 198 (gd rfl) rfl rfl (fun c186 => ?_) (fun c186 => ?_)
                                · skip
                                  have n198 : (z119).toInt ≤ (u_109_22).toInt := by have a0 := in_u i8a; have a1 := in_u i8; have a2 := in_u ((in_c 1 rfl)); have a3 := in_u i150; have a4 := in_u i119; have a5 := t_add e119 i8 (in_c 1 rfl) rfl; have a6 := in_u ((in_c 3 rfl)); omega
                                  have n198a : ((sF (sF (sF (sF sc0 109 29 w0_109_27) 109 30 z19) 109 28 (Int32.ofInt 3)) 109 27 z119).2.2.1 109 27).toInt ≤ ((sF (sF (sF (sF sc0 109 29 w0_109_27) 109 30 z19) 109 28 (Int32.ofInt 3)) 109 27 z119).2.2.1 109 22).toInt := by have b0 : z119 = (sF (sF (sF (sF sc0 109 29 w0_109_27) 109 30 z19) 109 28 (Int32.ofInt 3)) 109 27 z119).2.2.1 109 27 := sF_get; have b1 : u_109_22 = (sF (sF (sF (sF sc0 109 29 w0_109_27) 109 30 z19) 109 28 (Int32.ofInt 3)) 109 27 z119).2.2.1 109 22 := sF_ne rfl (sF_ne rfl (sF_ne rfl (sF_ne rfl (fr_F e_109_22 hFc0 rfl)))); rw [← b0, ← b1]; exact n198
                                  have n198b : (u_109_27).toInt ≤ (z119).toInt := by have a0 := in_u i8a; have a1 := in_u i8; have a2 := in_u ((in_c 1 rfl)); have a3 := in_u i150; have a4 := in_u i119; have a5 := t_add e119 i8 (in_c 1 rfl) rfl; have a6 := in_u ((in_c 3 rfl)); omega
                                  have n198c : (s.2.2.1 109 27).toInt ≤ ((sF (sF (sF (sF sc0 109 29 w0_109_27) 109 30 z19) 109 28 (Int32.ofInt 3)) 109 27 z119).2.2.1 109 27).toInt := by have b0 : z119 = (sF (sF (sF (sF sc0 109 29 w0_109_27) 109 30 z19) 109 28 (Int32.ofInt 3)) 109 27 z119).2.2.1 109 27 := sF_get; first | (rw [← b0, ← e_109_27]; exact n198b) | (rw [← b0]; exact n198b)
                                  have n198d : ((Int32.ofInt 3)).toInt ≠ 0 → (u_109_27).toInt + 1 ≤ (z119).toInt := by have a0 := in_u i8a; have a1 := in_u i8; have a2 := in_u ((in_c 1 rfl)); have a3 := in_u i150; have a4 := in_u i119; have a5 := t_add e119 i8 (in_c 1 rfl) rfl; have a6 := in_u ((in_c 3 rfl)); omega
                                  have n198e : ((sF (sF (sF (sF sc0 109 29 w0_109_27) 109 30 z19) 109 28 (Int32.ofInt 3)) 109 27 z119).2.2.1 109 28).toInt ≠ 0 → (s.2.2.1 109 27).toInt + 1 ≤ ((sF (sF (sF (sF sc0 109 29 w0_109_27) 109 30 z19) 109 28 (Int32.ofInt 3)) 109 27 z119).2.2.1 109 27).toInt := by have b0 : (Int32.ofInt 3) = (sF (sF (sF (sF sc0 109 29 w0_109_27) 109 30 z19) 109 28 (Int32.ofInt 3)) 109 27 z119).2.2.1 109 28 := sF_ne rfl (sF_get); have b1 : z119 = (sF (sF (sF (sF sc0 109 29 w0_109_27) 109 30 z19) 109 28 (Int32.ofInt 3)) 109 27 z119).2.2.1 109 27 := sF_get; first | (rw [← b0, ← b1, ← e_109_27]; exact n198d) | (rw [← b0, ← b1]; exact n198d)
                                  exact g_return (gd rfl) rfl (hP _ _ ⟨(sF (sF (sF (sF sc0 109 29 w0_109_27) 109 30 z19) 109 28 (Int32.ofInt 3)) 109 27 z119), hI120, (fr_sF rfl (fr_sF rfl (fr_sF rfl (fr_sF rfl hFc0)))), n198a, n198c, n198e, rfl, rfl⟩)
                                · skip
                                  exact zn_eq c186 (in_c 1 rfl) rfl
                            · skip
                              refine g_iload_n 154 (gd rfl) rfl rfl ?_
                              refine g_bipush 42 156 (gd rfl) rfl rfl ?_
                              refine g_cmp_eq 159 171 (gd rfl) rfl rfl (fun c156 => ?_) (fun c156 => ?_)
                              · skip
                                have i156 := r_eq1 42 42 c156 i79x3 (in_c 42 rfl) rfl
                                refine g_iconst 1 172 (gd rfl) rfl rfl ?_
                                refine g_goto 176 (gd rfl) rfl ?_
                                refine g_istore_n 177 (gd rfl) rfl (Nat.le_of_ble_eq_true rfl) ?_
                                refine g_aload_n 178 (gd rfl) rfl rfl ?_
                                refine g_getI 181 (gd rfl) rfl rfl rfl (fun z178 e178 => ?_)
                                have q178 : (Int32.ofInt 3) = z178 := (sF_ne rfl (sF_get)).trans e178.symm
                                subst q178
                                refine g_iconst 3 182 (gd rfl) rfl rfl ?_
                                refine g_cmp_ne 185 198 (gd rfl) rfl rfl (fun c182 => ?_) (fun c182 => ?_)
                                · skip
                                  exact n_ne c182 (in_c 3 rfl) (in_c 3 rfl) rfl
                                · skip
                                  refine g_iload_n 186 (gd rfl) rfl rfl ?_
                                  refine g_if_ne 189 198 (gd rfl) rfl rfl (fun c186 => ?_) (fun c186 => ?_)
                                  · skip
                                    have n198 : (z119).toInt ≤ (u_109_22).toInt := by have a0 := in_u i8a; have a1 := in_u i8; have a2 := in_u ((in_c 1 rfl)); have a3 := in_u i156; have a4 := in_u i119; have a5 := t_add e119 i8 (in_c 1 rfl) rfl; have a6 := in_u ((in_c 3 rfl)); omega
                                    have n198a : ((sF (sF (sF (sF sc0 109 29 w0_109_27) 109 30 z19) 109 28 (Int32.ofInt 3)) 109 27 z119).2.2.1 109 27).toInt ≤ ((sF (sF (sF (sF sc0 109 29 w0_109_27) 109 30 z19) 109 28 (Int32.ofInt 3)) 109 27 z119).2.2.1 109 22).toInt := by have b0 : z119 = (sF (sF (sF (sF sc0 109 29 w0_109_27) 109 30 z19) 109 28 (Int32.ofInt 3)) 109 27 z119).2.2.1 109 27 := sF_get; have b1 : u_109_22 = (sF (sF (sF (sF sc0 109 29 w0_109_27) 109 30 z19) 109 28 (Int32.ofInt 3)) 109 27 z119).2.2.1 109 22 := sF_ne rfl (sF_ne rfl (sF_ne rfl (sF_ne rfl (fr_F e_109_22 hFc0 rfl)))); rw [← b0, ← b1]; exact n198
                                    have n198b : (u_109_27).toInt ≤ (z119).toInt := by have a0 := in_u i8a; have a1 := in_u i8; have a2 := in_u ((in_c 1 rfl)); have a3 := in_u i156; have a4 := in_u i119; have a5 := t_add e119 i8 (in_c 1 rfl) rfl; have a6 := in_u ((in_c 3 rfl)); omega
                                    have n198c : (s.2.2.1 109 27).toInt ≤ ((sF (sF (sF (sF sc0 109 29 w0_109_27) 109 30 z19) 109 28 (Int32.ofInt 3)) 109 27 z119).2.2.1 109 27).toInt := by have b0 : z119 = (sF (sF (sF (sF sc0 109 29 w0_109_27) 109 30 z19) 109 28 (Int32.ofInt 3)) 109 27 z119).2.2.1 109 27 := sF_get; first | (rw [← b0, ← e_109_27]; exact n198b) | (rw [← b0]; exact n198b)
                                    have n198d : ((Int32.ofInt 3)).toInt ≠ 0 → (u_109_27).toInt + 1 ≤ (z119).toInt := by have a0 := in_u i8a; have a1 := in_u i8; have a2 := in_u ((in_c 1 rfl)); have a3 := in_u i156; have a4 := in_u i119; have a5 := t_add e119 i8 (in_c 1 rfl) rfl; have a6 := in_u ((in_c 3 rfl)); omega
                                    have n198e : ((sF (sF (sF (sF sc0 109 29 w0_109_27) 109 30 z19) 109 28 (Int32.ofInt 3)) 109 27 z119).2.2.1 109 28).toInt ≠ 0 → (s.2.2.1 109 27).toInt + 1 ≤ ((sF (sF (sF (sF sc0 109 29 w0_109_27) 109 30 z19) 109 28 (Int32.ofInt 3)) 109 27 z119).2.2.1 109 27).toInt := by have b0 : (Int32.ofInt 3) = (sF (sF (sF (sF sc0 109 29 w0_109_27) 109 30 z19) 109 28 (Int32.ofInt 3)) 109 27 z119).2.2.1 109 28 := sF_ne rfl (sF_get); have b1 : z119 = (sF (sF (sF (sF sc0 109 29 w0_109_27) 109 30 z19) 109 28 (Int32.ofInt 3)) 109 27 z119).2.2.1 109 27 := sF_get; first | (rw [← b0, ← b1, ← e_109_27]; exact n198d) | (rw [← b0, ← b1]; exact n198d)
                                    exact g_return (gd rfl) rfl (hP _ _ ⟨(sF (sF (sF (sF sc0 109 29 w0_109_27) 109 30 z19) 109 28 (Int32.ofInt 3)) 109 27 z119), hI120, (fr_sF rfl (fr_sF rfl (fr_sF rfl (fr_sF rfl hFc0)))), n198a, n198c, n198e, rfl, rfl⟩)
                                  · skip
                                    exact zn_eq c186 (in_c 1 rfl) rfl
                              · skip
                                refine g_iload_n 160 (gd rfl) rfl rfl ?_
                                refine g_bipush 40 162 (gd rfl) rfl rfl ?_
                                refine g_cmp_eq 165 171 (gd rfl) rfl rfl (fun c162 => ?_) (fun c162 => ?_)
                                · skip
                                  have i162 := r_eq1 40 40 c162 i79x3 (in_c 40 rfl) rfl
                                  refine g_iconst 1 172 (gd rfl) rfl rfl ?_
                                  refine g_goto 176 (gd rfl) rfl ?_
                                  refine g_istore_n 177 (gd rfl) rfl (Nat.le_of_ble_eq_true rfl) ?_
                                  refine g_aload_n 178 (gd rfl) rfl rfl ?_
                                  refine g_getI 181 (gd rfl) rfl rfl rfl (fun z178 e178 => ?_)
                                  have q178 : (Int32.ofInt 3) = z178 := (sF_ne rfl (sF_get)).trans e178.symm
                                  subst q178
                                  refine g_iconst 3 182 (gd rfl) rfl rfl ?_
                                  refine g_cmp_ne 185 198 (gd rfl) rfl rfl (fun c182 => ?_) (fun c182 => ?_)
                                  · skip
                                    exact n_ne c182 (in_c 3 rfl) (in_c 3 rfl) rfl
                                  · skip
                                    refine g_iload_n 186 (gd rfl) rfl rfl ?_
                                    refine g_if_ne 189 198 (gd rfl) rfl rfl (fun c186 => ?_) (fun c186 => ?_)
                                    · skip
                                      have n198 : (z119).toInt ≤ (u_109_22).toInt := by have a0 := in_u i8a; have a1 := in_u i8; have a2 := in_u ((in_c 1 rfl)); have a3 := in_u i162; have a4 := in_u i119; have a5 := t_add e119 i8 (in_c 1 rfl) rfl; have a6 := in_u ((in_c 3 rfl)); omega
                                      have n198a : ((sF (sF (sF (sF sc0 109 29 w0_109_27) 109 30 z19) 109 28 (Int32.ofInt 3)) 109 27 z119).2.2.1 109 27).toInt ≤ ((sF (sF (sF (sF sc0 109 29 w0_109_27) 109 30 z19) 109 28 (Int32.ofInt 3)) 109 27 z119).2.2.1 109 22).toInt := by have b0 : z119 = (sF (sF (sF (sF sc0 109 29 w0_109_27) 109 30 z19) 109 28 (Int32.ofInt 3)) 109 27 z119).2.2.1 109 27 := sF_get; have b1 : u_109_22 = (sF (sF (sF (sF sc0 109 29 w0_109_27) 109 30 z19) 109 28 (Int32.ofInt 3)) 109 27 z119).2.2.1 109 22 := sF_ne rfl (sF_ne rfl (sF_ne rfl (sF_ne rfl (fr_F e_109_22 hFc0 rfl)))); rw [← b0, ← b1]; exact n198
                                      have n198b : (u_109_27).toInt ≤ (z119).toInt := by have a0 := in_u i8a; have a1 := in_u i8; have a2 := in_u ((in_c 1 rfl)); have a3 := in_u i162; have a4 := in_u i119; have a5 := t_add e119 i8 (in_c 1 rfl) rfl; have a6 := in_u ((in_c 3 rfl)); omega
                                      have n198c : (s.2.2.1 109 27).toInt ≤ ((sF (sF (sF (sF sc0 109 29 w0_109_27) 109 30 z19) 109 28 (Int32.ofInt 3)) 109 27 z119).2.2.1 109 27).toInt := by have b0 : z119 = (sF (sF (sF (sF sc0 109 29 w0_109_27) 109 30 z19) 109 28 (Int32.ofInt 3)) 109 27 z119).2.2.1 109 27 := sF_get; first | (rw [← b0, ← e_109_27]; exact n198b) | (rw [← b0]; exact n198b)
                                      have n198d : ((Int32.ofInt 3)).toInt ≠ 0 → (u_109_27).toInt + 1 ≤ (z119).toInt := by have a0 := in_u i8a; have a1 := in_u i8; have a2 := in_u ((in_c 1 rfl)); have a3 := in_u i162; have a4 := in_u i119; have a5 := t_add e119 i8 (in_c 1 rfl) rfl; have a6 := in_u ((in_c 3 rfl)); omega
                                      have n198e : ((sF (sF (sF (sF sc0 109 29 w0_109_27) 109 30 z19) 109 28 (Int32.ofInt 3)) 109 27 z119).2.2.1 109 28).toInt ≠ 0 → (s.2.2.1 109 27).toInt + 1 ≤ ((sF (sF (sF (sF sc0 109 29 w0_109_27) 109 30 z19) 109 28 (Int32.ofInt 3)) 109 27 z119).2.2.1 109 27).toInt := by have b0 : (Int32.ofInt 3) = (sF (sF (sF (sF sc0 109 29 w0_109_27) 109 30 z19) 109 28 (Int32.ofInt 3)) 109 27 z119).2.2.1 109 28 := sF_ne rfl (sF_get); have b1 : z119 = (sF (sF (sF (sF sc0 109 29 w0_109_27) 109 30 z19) 109 28 (Int32.ofInt 3)) 109 27 z119).2.2.1 109 27 := sF_get; first | (rw [← b0, ← b1, ← e_109_27]; exact n198d) | (rw [← b0, ← b1]; exact n198d)
                                      exact g_return (gd rfl) rfl (hP _ _ ⟨(sF (sF (sF (sF sc0 109 29 w0_109_27) 109 30 z19) 109 28 (Int32.ofInt 3)) 109 27 z119), hI120, (fr_sF rfl (fr_sF rfl (fr_sF rfl (fr_sF rfl hFc0)))), n198a, n198c, n198e, rfl, rfl⟩)
                                    · skip
                                      exact zn_eq c186 (in_c 1 rfl) rfl
                                · skip
                                  refine g_iload_n 166 (gd rfl) rfl rfl ?_
                                  refine g_bipush 41 168 (gd rfl) rfl rfl ?_
                                  refine g_cmp_ne 171 175 (gd rfl) rfl rfl (fun c168 => ?_) (fun c168 => ?_)
                                  · skip
                                    refine g_iconst 0 176 (gd rfl) rfl rfl ?_
                                    refine g_istore_n 177 (gd rfl) rfl (Nat.le_of_ble_eq_true rfl) ?_
                                    refine g_aload_n 178 (gd rfl) rfl rfl ?_
                                    refine g_getI 181 (gd rfl) rfl rfl rfl (fun z178 e178 => ?_)
                                    have q178 : (Int32.ofInt 3) = z178 := (sF_ne rfl (sF_get)).trans e178.symm
                                    subst q178
                                    refine g_iconst 3 182 (gd rfl) rfl rfl ?_
                                    refine g_cmp_ne 185 198 (gd rfl) rfl rfl (fun c182 => ?_) (fun c182 => ?_)
                                    · skip
                                      exact n_ne c182 (in_c 3 rfl) (in_c 3 rfl) rfl
                                    · skip
                                      refine g_iload_n 186 (gd rfl) rfl rfl ?_
                                      refine g_if_ne 189 198 (gd rfl) rfl rfl (fun c186 => ?_) (fun c186 => ?_)
                                      · skip
                                        exact zn_ne c186 (in_c 0 rfl) rfl
                                      · skip
                                        refine g_aload_n 190 (gd rfl) rfl rfl ?_
                                        refine g_iconst 1 191 (gd rfl) rfl rfl ?_
                                        refine g_aload_n 192 (gd rfl) rfl rfl ?_
                                        refine g_getI 195 (gd rfl) rfl rfl rfl (fun z192 e192 => ?_)
                                        have q192 : w0_109_27 = z192 := (sF_ne rfl (sF_ne rfl (sF_ne rfl (sF_get)))).trans e192.symm
                                        subst q192
                                        refine g_callv (X := _) (As := [.int (Int32.ofInt 1), .int w0_109_27]) (r := []) (b := A 109) (q := 109) 198 (gd rfl) rfl rfl rfl rfl rfl (ww_o rfl) (Nat.le_of_ble_eq_true rfl) (Nat.zero_le _) (Nat.zero_le _) (k_298 (by first | exact dq1 hd rfl | exact dq0 hd rfl | exact dq2 hd rfl | exact dq3 hd rfl | omega) hI120 (in_w 1 5 (in_c 1 rfl) rfl)) (fun e u h => h) (fun v u h => ?_)
                                        obtain ⟨s195, hI195, hF195, n195, rfl, rfl⟩ := h
                                        obtain ⟨z195a, e195⟩ : ∃ w, w = s195.2.2.1 109 23 := ⟨_, rfl⟩
                                        have i195a := inv_F hI195 0 9 rfl e195
                                        rw [← (show z195a = s195.2.2.1 109 23 from e195)] at n195
                                        show GG _ _ _ _ _ _ _ _ [] _ _ _
                                        have n198 : (z119).toInt ≤ (u_109_22).toInt := by have a0 := in_u i8a; have a1 := in_u i8; have a2 := in_u ((in_c 0 rfl)); have a3 := in_u i79x3; have a4 := in_u i195a; have a5 := in_u i119; have a6 := t_add e119 i8 (in_c 1 rfl) rfl; have a7 := in_u ((in_c 1 rfl)); have a8 := in_u ((in_c 3 rfl)); omega
                                        have n198a : (s195.2.2.1 109 27).toInt ≤ (s195.2.2.1 109 22).toInt := by have b0 : z119 = s195.2.2.1 109 27 := fr_F (s := (sF (sF (sF (sF sc0 109 29 w0_109_27) 109 30 z19) 109 28 (Int32.ofInt 3)) 109 27 z119)) (sF_get) hF195 rfl; have b1 : u_109_22 = s195.2.2.1 109 22 := fr_F (s := (sF (sF (sF (sF sc0 109 29 w0_109_27) 109 30 z19) 109 28 (Int32.ofInt 3)) 109 27 z119)) (sF_ne rfl (sF_ne rfl (sF_ne rfl (sF_ne rfl (fr_F e_109_22 hFc0 rfl))))) hF195 rfl; rw [← b0, ← b1]; exact n198
                                        have n198b : (u_109_27).toInt ≤ (z119).toInt := by have a0 := in_u i8a; have a1 := in_u i8; have a2 := in_u ((in_c 0 rfl)); have a3 := in_u i79x3; have a4 := in_u i195a; have a5 := in_u i119; have a6 := t_add e119 i8 (in_c 1 rfl) rfl; have a7 := in_u ((in_c 1 rfl)); have a8 := in_u ((in_c 3 rfl)); omega
                                        have n198c : (s.2.2.1 109 27).toInt ≤ (s195.2.2.1 109 27).toInt := by have b0 : z119 = s195.2.2.1 109 27 := fr_F (s := (sF (sF (sF (sF sc0 109 29 w0_109_27) 109 30 z19) 109 28 (Int32.ofInt 3)) 109 27 z119)) (sF_get) hF195 rfl; first | (rw [← b0, ← e_109_27]; exact n198b) | (rw [← b0]; exact n198b)
                                        have n198d : ((Int32.ofInt 3)).toInt ≠ 0 → (u_109_27).toInt + 1 ≤ (z119).toInt := by have a0 := in_u i8a; have a1 := in_u i8; have a2 := in_u ((in_c 0 rfl)); have a3 := in_u i79x3; have a4 := in_u i195a; have a5 := in_u i119; have a6 := t_add e119 i8 (in_c 1 rfl) rfl; have a7 := in_u ((in_c 1 rfl)); have a8 := in_u ((in_c 3 rfl)); omega
                                        have n198e : (s195.2.2.1 109 28).toInt ≠ 0 → (s.2.2.1 109 27).toInt + 1 ≤ (s195.2.2.1 109 27).toInt := by have b0 : (Int32.ofInt 3) = s195.2.2.1 109 28 := fr_F (s := (sF (sF (sF (sF sc0 109 29 w0_109_27) 109 30 z19) 109 28 (Int32.ofInt 3)) 109 27 z119)) (sF_ne rfl (sF_get)) hF195 rfl; have b1 : z119 = s195.2.2.1 109 27 := fr_F (s := (sF (sF (sF (sF sc0 109 29 w0_109_27) 109 30 z19) 109 28 (Int32.ofInt 3)) 109 27 z119)) (sF_get) hF195 rfl; first | (rw [← b0, ← b1, ← e_109_27]; exact n198d) | (rw [← b0, ← b1]; exact n198d)
                                        exact g_return (gd rfl) rfl (hP _ _ ⟨s195, hI195, (fr_tr rfl (fr_sF rfl (fr_sF rfl (fr_sF rfl (fr_sF rfl hFc0)))) hF195), n198a, n198c, n198e, rfl, rfl⟩)
                                  · skip
                                    have i168 := r_eq1 41 41 c168 i79x3 (in_c 41 rfl) rfl
                                    refine g_iconst 1 172 (gd rfl) rfl rfl ?_
                                    refine g_goto 176 (gd rfl) rfl ?_
                                    refine g_istore_n 177 (gd rfl) rfl (Nat.le_of_ble_eq_true rfl) ?_
                                    refine g_aload_n 178 (gd rfl) rfl rfl ?_
                                    refine g_getI 181 (gd rfl) rfl rfl rfl (fun z178 e178 => ?_)
                                    have q178 : (Int32.ofInt 3) = z178 := (sF_ne rfl (sF_get)).trans e178.symm
                                    subst q178
                                    refine g_iconst 3 182 (gd rfl) rfl rfl ?_
                                    refine g_cmp_ne 185 198 (gd rfl) rfl rfl (fun c182 => ?_) (fun c182 => ?_)
                                    · skip
                                      exact n_ne c182 (in_c 3 rfl) (in_c 3 rfl) rfl
                                    · skip
                                      refine g_iload_n 186 (gd rfl) rfl rfl ?_
                                      refine g_if_ne 189 198 (gd rfl) rfl rfl (fun c186 => ?_) (fun c186 => ?_)
                                      · skip
                                        have n198 : (z119).toInt ≤ (u_109_22).toInt := by have a0 := in_u i8a; have a1 := in_u i8; have a2 := in_u ((in_c 1 rfl)); have a3 := in_u i168; have a4 := in_u i119; have a5 := t_add e119 i8 (in_c 1 rfl) rfl; have a6 := in_u ((in_c 3 rfl)); omega
                                        have n198a : ((sF (sF (sF (sF sc0 109 29 w0_109_27) 109 30 z19) 109 28 (Int32.ofInt 3)) 109 27 z119).2.2.1 109 27).toInt ≤ ((sF (sF (sF (sF sc0 109 29 w0_109_27) 109 30 z19) 109 28 (Int32.ofInt 3)) 109 27 z119).2.2.1 109 22).toInt := by have b0 : z119 = (sF (sF (sF (sF sc0 109 29 w0_109_27) 109 30 z19) 109 28 (Int32.ofInt 3)) 109 27 z119).2.2.1 109 27 := sF_get; have b1 : u_109_22 = (sF (sF (sF (sF sc0 109 29 w0_109_27) 109 30 z19) 109 28 (Int32.ofInt 3)) 109 27 z119).2.2.1 109 22 := sF_ne rfl (sF_ne rfl (sF_ne rfl (sF_ne rfl (fr_F e_109_22 hFc0 rfl)))); rw [← b0, ← b1]; exact n198
                                        have n198b : (u_109_27).toInt ≤ (z119).toInt := by have a0 := in_u i8a; have a1 := in_u i8; have a2 := in_u ((in_c 1 rfl)); have a3 := in_u i168; have a4 := in_u i119; have a5 := t_add e119 i8 (in_c 1 rfl) rfl; have a6 := in_u ((in_c 3 rfl)); omega
                                        have n198c : (s.2.2.1 109 27).toInt ≤ ((sF (sF (sF (sF sc0 109 29 w0_109_27) 109 30 z19) 109 28 (Int32.ofInt 3)) 109 27 z119).2.2.1 109 27).toInt := by have b0 : z119 = (sF (sF (sF (sF sc0 109 29 w0_109_27) 109 30 z19) 109 28 (Int32.ofInt 3)) 109 27 z119).2.2.1 109 27 := sF_get; first | (rw [← b0, ← e_109_27]; exact n198b) | (rw [← b0]; exact n198b)
                                        have n198d : ((Int32.ofInt 3)).toInt ≠ 0 → (u_109_27).toInt + 1 ≤ (z119).toInt := by have a0 := in_u i8a; have a1 := in_u i8; have a2 := in_u ((in_c 1 rfl)); have a3 := in_u i168; have a4 := in_u i119; have a5 := t_add e119 i8 (in_c 1 rfl) rfl; have a6 := in_u ((in_c 3 rfl)); omega
                                        have n198e : ((sF (sF (sF (sF sc0 109 29 w0_109_27) 109 30 z19) 109 28 (Int32.ofInt 3)) 109 27 z119).2.2.1 109 28).toInt ≠ 0 → (s.2.2.1 109 27).toInt + 1 ≤ ((sF (sF (sF (sF sc0 109 29 w0_109_27) 109 30 z19) 109 28 (Int32.ofInt 3)) 109 27 z119).2.2.1 109 27).toInt := by have b0 : (Int32.ofInt 3) = (sF (sF (sF (sF sc0 109 29 w0_109_27) 109 30 z19) 109 28 (Int32.ofInt 3)) 109 27 z119).2.2.1 109 28 := sF_ne rfl (sF_get); have b1 : z119 = (sF (sF (sF (sF sc0 109 29 w0_109_27) 109 30 z19) 109 28 (Int32.ofInt 3)) 109 27 z119).2.2.1 109 27 := sF_get; first | (rw [← b0, ← b1, ← e_109_27]; exact n198d) | (rw [← b0, ← b1]; exact n198d)
                                        exact g_return (gd rfl) rfl (hP _ _ ⟨(sF (sF (sF (sF sc0 109 29 w0_109_27) 109 30 z19) 109 28 (Int32.ofInt 3)) 109 27 z119), hI120, (fr_sF rfl (fr_sF rfl (fr_sF rfl (fr_sF rfl hFc0)))), n198a, n198c, n198e, rfl, rfl⟩)
                                      · skip
                                        exact zn_eq c186 (in_c 1 rfl) rfl
                  · skip
                    exact zn_ne c102 (in_c 0 rfl) rfl
                · skip
                  exact n_le c99x3 (in_c 97 rfl) i79x3 rfl
              · skip
                exact zn_ne c82 (in_c 0 rfl) rfl
            · skip
              have i79x3 := r_le2 48 126 c79x3 (in_c 48 rfl) i19 rfl
              refine g_iload_n 7 (gd rfl) rfl rfl ?_
              refine g_bipush 57 9 (gd rfl) rfl rfl ?_
              refine g_cmp_gt 12 16 (gd rfl) rfl rfl (fun c79x9 => ?_) (fun c79x9 => ?_)
              · skip
                have i79x9 := r_lt2 58 126 c79x9 (in_c 57 rfl) i79x3 rfl
                refine g_iconst 0 17 (gd rfl) rfl rfl ?_
                refine g_ireturn (gd rfl) rfl (nb01 (in_w 0 1 (in_c 0 rfl) rfl)) (hp79 _ _ ?_)
                show GG _ _ _ _ _ _ _ _ [.int (Int32.ofInt 0)] _ _ _
                refine g_if_eq 85 97 (gd rfl) rfl rfl (fun c82 => ?_) (fun c82 => ?_)
                · skip
                  refine g_aload_n 98 (gd rfl) rfl rfl ?_
                  refine g_iload_n 99 (gd rfl) rfl rfl ?_
                  refine g_calls (As := [.int z19]) (r := [.ref (A 109)]) 102 (gd rfl) rfl rfl rfl rfl rfl (Nat.le_of_ble_eq_true rfl) (mc := 0) (ms := 0) (Nat.zero_le _) (Nat.zero_le _) (P := fun v u => _) ?_ (fun v u h => h)
                  intro po99 xx99 hp99 hx99
                  refine g_enter2 (k := 296) (N := 300) (by first | exact dq1 hd rfl | exact dq0 hd rfl | exact dq2 hd rfl | exact dq3 hd rfl | omega) rfl (Nat.le_of_ble_eq_true rfl) ?_
                  refine g_iload_n 1 (gd rfl) rfl rfl ?_
                  refine g_bipush 97 3 (gd rfl) rfl rfl ?_
                  refine g_cmp_lt 6 16 (gd rfl) rfl rfl (fun c99x3 => ?_) (fun c99x3 => ?_)
                  · skip
                    have i99x3 := r_lt1 58 96 c99x3 i79x9 (in_c 97 rfl) rfl
                    refine g_iconst 0 17 (gd rfl) rfl rfl ?_
                    refine g_ireturn (gd rfl) rfl (nb01 (in_w 0 1 (in_c 0 rfl) rfl)) (hp99 _ _ ?_)
                    show GG _ _ _ _ _ _ _ _ [.int (Int32.ofInt 0), .ref (A 109)] _ _ _
                    refine g_if_eq 105 109 (gd rfl) rfl rfl (fun c102 => ?_) (fun c102 => ?_)
                    · skip
                      refine g_iconst 3 110 (gd rfl) rfl rfl ?_
                      refine g_putI 113 (gd rfl) rfl rfl rfl rfl ?_
                      have hI110 := inv_sF (q := 109) (j := 28) hI75 rfl (in_w (-2147483648) 2147483647 (in_c 3 rfl) rfl)
                      refine g_aload_n 114 (gd rfl) rfl rfl ?_
                      refine g_dup 115 (gd rfl) rfl rfl ?_
                      refine g_getI 118 (gd rfl) rfl rfl rfl (fun z115 e115 => ?_)
                      have q115 : w0_109_27 = z115 := (sF_ne rfl (sF_ne rfl (sF_ne rfl (v0_109_27)))).trans e115.symm
                      subst q115
                      refine g_iconst 1 119 (gd rfl) rfl rfl ?_
                      refine g_iadd 120 (gd rfl) rfl (fun z119 e119 => ?_)
                      have i119 := in_add 1 1000 e119 i8 (in_c 1 rfl) rfl rfl
                      refine g_putI 123 (gd rfl) rfl rfl rfl rfl ?_
                      have hI120 := inv_sF (q := 109) (j := 27) hI110 rfl (in_w 0 1000 i119 rfl)
                      refine g_iload_n 124 (gd rfl) rfl rfl ?_
                      refine g_bipush 59 126 (gd rfl) rfl rfl ?_
                      refine g_cmp_eq 129 171 (gd rfl) rfl rfl (fun c126 => ?_) (fun c126 => ?_)
                      · skip
                        have i126 := r_eq1 59 59 c126 i99x3 (in_c 59 rfl) rfl
                        refine g_iconst 1 172 (gd rfl) rfl rfl ?_
                        refine g_goto 176 (gd rfl) rfl ?_
                        refine g_istore_n 177 (gd rfl) rfl (Nat.le_of_ble_eq_true rfl) ?_
                        refine g_aload_n 178 (gd rfl) rfl rfl ?_
                        refine g_getI 181 (gd rfl) rfl rfl rfl (fun z178 e178 => ?_)
                        have q178 : (Int32.ofInt 3) = z178 := (sF_ne rfl (sF_get)).trans e178.symm
                        subst q178
                        refine g_iconst 3 182 (gd rfl) rfl rfl ?_
                        refine g_cmp_ne 185 198 (gd rfl) rfl rfl (fun c182 => ?_) (fun c182 => ?_)
                        · skip
                          exact n_ne c182 (in_c 3 rfl) (in_c 3 rfl) rfl
                        · skip
                          refine g_iload_n 186 (gd rfl) rfl rfl ?_
                          refine g_if_ne 189 198 (gd rfl) rfl rfl (fun c186 => ?_) (fun c186 => ?_)
                          · skip
                            have n198 : (z119).toInt ≤ (u_109_22).toInt := by have a0 := in_u i8a; have a1 := in_u i8; have a2 := in_u ((in_c 1 rfl)); have a3 := in_u i126; have a4 := in_u i119; have a5 := t_add e119 i8 (in_c 1 rfl) rfl; have a6 := in_u ((in_c 3 rfl)); omega
                            have n198a : ((sF (sF (sF (sF sc0 109 29 w0_109_27) 109 30 z19) 109 28 (Int32.ofInt 3)) 109 27 z119).2.2.1 109 27).toInt ≤ ((sF (sF (sF (sF sc0 109 29 w0_109_27) 109 30 z19) 109 28 (Int32.ofInt 3)) 109 27 z119).2.2.1 109 22).toInt := by have b0 : z119 = (sF (sF (sF (sF sc0 109 29 w0_109_27) 109 30 z19) 109 28 (Int32.ofInt 3)) 109 27 z119).2.2.1 109 27 := sF_get; have b1 : u_109_22 = (sF (sF (sF (sF sc0 109 29 w0_109_27) 109 30 z19) 109 28 (Int32.ofInt 3)) 109 27 z119).2.2.1 109 22 := sF_ne rfl (sF_ne rfl (sF_ne rfl (sF_ne rfl (fr_F e_109_22 hFc0 rfl)))); rw [← b0, ← b1]; exact n198
                            have n198b : (u_109_27).toInt ≤ (z119).toInt := by have a0 := in_u i8a; have a1 := in_u i8; have a2 := in_u ((in_c 1 rfl)); have a3 := in_u i126; have a4 := in_u i119; have a5 := t_add e119 i8 (in_c 1 rfl) rfl; have a6 := in_u ((in_c 3 rfl)); omega
                            have n198c : (s.2.2.1 109 27).toInt ≤ ((sF (sF (sF (sF sc0 109 29 w0_109_27) 109 30 z19) 109 28 (Int32.ofInt 3)) 109 27 z119).2.2.1 109 27).toInt := by have b0 : z119 = (sF (sF (sF (sF sc0 109 29 w0_109_27) 109 30 z19) 109 28 (Int32.ofInt 3)) 109 27 z119).2.2.1 109 27 := sF_get; first | (rw [← b0, ← e_109_27]; exact n198b) | (rw [← b0]; exact n198b)
                            have n198d : ((Int32.ofInt 3)).toInt ≠ 0 → (u_109_27).toInt + 1 ≤ (z119).toInt := by have a0 := in_u i8a; have a1 := in_u i8; have a2 := in_u ((in_c 1 rfl)); have a3 := in_u i126; have a4 := in_u i119; have a5 := t_add e119 i8 (in_c 1 rfl) rfl; have a6 := in_u ((in_c 3 rfl)); omega
                            have n198e : ((sF (sF (sF (sF sc0 109 29 w0_109_27) 109 30 z19) 109 28 (Int32.ofInt 3)) 109 27 z119).2.2.1 109 28).toInt ≠ 0 → (s.2.2.1 109 27).toInt + 1 ≤ ((sF (sF (sF (sF sc0 109 29 w0_109_27) 109 30 z19) 109 28 (Int32.ofInt 3)) 109 27 z119).2.2.1 109 27).toInt := by have b0 : (Int32.ofInt 3) = (sF (sF (sF (sF sc0 109 29 w0_109_27) 109 30 z19) 109 28 (Int32.ofInt 3)) 109 27 z119).2.2.1 109 28 := sF_ne rfl (sF_get); have b1 : z119 = (sF (sF (sF (sF sc0 109 29 w0_109_27) 109 30 z19) 109 28 (Int32.ofInt 3)) 109 27 z119).2.2.1 109 27 := sF_get; first | (rw [← b0, ← b1, ← e_109_27]; exact n198d) | (rw [← b0, ← b1]; exact n198d)
                            exact g_return (gd rfl) rfl (hP _ _ ⟨(sF (sF (sF (sF sc0 109 29 w0_109_27) 109 30 z19) 109 28 (Int32.ofInt 3)) 109 27 z119), hI120, (fr_sF rfl (fr_sF rfl (fr_sF rfl (fr_sF rfl hFc0)))), n198a, n198c, n198e, rfl, rfl⟩)
                          · skip
                            exact zn_eq c186 (in_c 1 rfl) rfl
                      · skip
                        refine g_iload_n 130 (gd rfl) rfl rfl ?_
                        refine g_bipush 60 132 (gd rfl) rfl rfl ?_
                        refine g_cmp_eq 135 171 (gd rfl) rfl rfl (fun c132 => ?_) (fun c132 => ?_)
                        · skip
                          have i132 := r_eq1 60 60 c132 i99x3 (in_c 60 rfl) rfl
                          refine g_iconst 1 172 (gd rfl) rfl rfl ?_
                          refine g_goto 176 (gd rfl) rfl ?_
                          refine g_istore_n 177 (gd rfl) rfl (Nat.le_of_ble_eq_true rfl) ?_
                          refine g_aload_n 178 (gd rfl) rfl rfl ?_
                          refine g_getI 181 (gd rfl) rfl rfl rfl (fun z178 e178 => ?_)
                          have q178 : (Int32.ofInt 3) = z178 := (sF_ne rfl (sF_get)).trans e178.symm
                          subst q178
                          refine g_iconst 3 182 (gd rfl) rfl rfl ?_
                          refine g_cmp_ne 185 198 (gd rfl) rfl rfl (fun c182 => ?_) (fun c182 => ?_)
                          · skip
                            exact n_ne c182 (in_c 3 rfl) (in_c 3 rfl) rfl
                          · skip
                            refine g_iload_n 186 (gd rfl) rfl rfl ?_
                            refine g_if_ne 189 198 (gd rfl) rfl rfl (fun c186 => ?_) (fun c186 => ?_)
                            · skip
                              have n198 : (z119).toInt ≤ (u_109_22).toInt := by have a0 := in_u i8a; have a1 := in_u i8; have a2 := in_u ((in_c 1 rfl)); have a3 := in_u i132; have a4 := in_u i119; have a5 := t_add e119 i8 (in_c 1 rfl) rfl; have a6 := in_u ((in_c 3 rfl)); omega
                              have n198a : ((sF (sF (sF (sF sc0 109 29 w0_109_27) 109 30 z19) 109 28 (Int32.ofInt 3)) 109 27 z119).2.2.1 109 27).toInt ≤ ((sF (sF (sF (sF sc0 109 29 w0_109_27) 109 30 z19) 109 28 (Int32.ofInt 3)) 109 27 z119).2.2.1 109 22).toInt := by have b0 : z119 = (sF (sF (sF (sF sc0 109 29 w0_109_27) 109 30 z19) 109 28 (Int32.ofInt 3)) 109 27 z119).2.2.1 109 27 := sF_get; have b1 : u_109_22 = (sF (sF (sF (sF sc0 109 29 w0_109_27) 109 30 z19) 109 28 (Int32.ofInt 3)) 109 27 z119).2.2.1 109 22 := sF_ne rfl (sF_ne rfl (sF_ne rfl (sF_ne rfl (fr_F e_109_22 hFc0 rfl)))); rw [← b0, ← b1]; exact n198
                              have n198b : (u_109_27).toInt ≤ (z119).toInt := by have a0 := in_u i8a; have a1 := in_u i8; have a2 := in_u ((in_c 1 rfl)); have a3 := in_u i132; have a4 := in_u i119; have a5 := t_add e119 i8 (in_c 1 rfl) rfl; have a6 := in_u ((in_c 3 rfl)); omega
                              have n198c : (s.2.2.1 109 27).toInt ≤ ((sF (sF (sF (sF sc0 109 29 w0_109_27) 109 30 z19) 109 28 (Int32.ofInt 3)) 109 27 z119).2.2.1 109 27).toInt := by have b0 : z119 = (sF (sF (sF (sF sc0 109 29 w0_109_27) 109 30 z19) 109 28 (Int32.ofInt 3)) 109 27 z119).2.2.1 109 27 := sF_get; first | (rw [← b0, ← e_109_27]; exact n198b) | (rw [← b0]; exact n198b)
                              have n198d : ((Int32.ofInt 3)).toInt ≠ 0 → (u_109_27).toInt + 1 ≤ (z119).toInt := by have a0 := in_u i8a; have a1 := in_u i8; have a2 := in_u ((in_c 1 rfl)); have a3 := in_u i132; have a4 := in_u i119; have a5 := t_add e119 i8 (in_c 1 rfl) rfl; have a6 := in_u ((in_c 3 rfl)); omega
                              have n198e : ((sF (sF (sF (sF sc0 109 29 w0_109_27) 109 30 z19) 109 28 (Int32.ofInt 3)) 109 27 z119).2.2.1 109 28).toInt ≠ 0 → (s.2.2.1 109 27).toInt + 1 ≤ ((sF (sF (sF (sF sc0 109 29 w0_109_27) 109 30 z19) 109 28 (Int32.ofInt 3)) 109 27 z119).2.2.1 109 27).toInt := by have b0 : (Int32.ofInt 3) = (sF (sF (sF (sF sc0 109 29 w0_109_27) 109 30 z19) 109 28 (Int32.ofInt 3)) 109 27 z119).2.2.1 109 28 := sF_ne rfl (sF_get); have b1 : z119 = (sF (sF (sF (sF sc0 109 29 w0_109_27) 109 30 z19) 109 28 (Int32.ofInt 3)) 109 27 z119).2.2.1 109 27 := sF_get; first | (rw [← b0, ← b1, ← e_109_27]; exact n198d) | (rw [← b0, ← b1]; exact n198d)
                              exact g_return (gd rfl) rfl (hP _ _ ⟨(sF (sF (sF (sF sc0 109 29 w0_109_27) 109 30 z19) 109 28 (Int32.ofInt 3)) 109 27 z119), hI120, (fr_sF rfl (fr_sF rfl (fr_sF rfl (fr_sF rfl hFc0)))), n198a, n198c, n198e, rfl, rfl⟩)
                            · skip
                              exact zn_eq c186 (in_c 1 rfl) rfl
                        · skip
                          refine g_iload_n 136 (gd rfl) rfl rfl ?_
                          refine g_bipush 61 138 (gd rfl) rfl rfl ?_
                          refine g_cmp_eq 141 171 (gd rfl) rfl rfl (fun c138 => ?_) (fun c138 => ?_)
                          · skip
                            have i138 := r_eq1 61 61 c138 i99x3 (in_c 61 rfl) rfl
                            refine g_iconst 1 172 (gd rfl) rfl rfl ?_
                            refine g_goto 176 (gd rfl) rfl ?_
                            refine g_istore_n 177 (gd rfl) rfl (Nat.le_of_ble_eq_true rfl) ?_
                            refine g_aload_n 178 (gd rfl) rfl rfl ?_
                            refine g_getI 181 (gd rfl) rfl rfl rfl (fun z178 e178 => ?_)
                            have q178 : (Int32.ofInt 3) = z178 := (sF_ne rfl (sF_get)).trans e178.symm
                            subst q178
                            refine g_iconst 3 182 (gd rfl) rfl rfl ?_
                            refine g_cmp_ne 185 198 (gd rfl) rfl rfl (fun c182 => ?_) (fun c182 => ?_)
                            · skip
                              exact n_ne c182 (in_c 3 rfl) (in_c 3 rfl) rfl
                            · skip
                              refine g_iload_n 186 (gd rfl) rfl rfl ?_
                              refine g_if_ne 189 198 (gd rfl) rfl rfl (fun c186 => ?_) (fun c186 => ?_)
                              · skip
                                have n198 : (z119).toInt ≤ (u_109_22).toInt := by have a0 := in_u i8a; have a1 := in_u i8; have a2 := in_u ((in_c 1 rfl)); have a3 := in_u i138; have a4 := in_u i119; have a5 := t_add e119 i8 (in_c 1 rfl) rfl; have a6 := in_u ((in_c 3 rfl)); omega
                                have n198a : ((sF (sF (sF (sF sc0 109 29 w0_109_27) 109 30 z19) 109 28 (Int32.ofInt 3)) 109 27 z119).2.2.1 109 27).toInt ≤ ((sF (sF (sF (sF sc0 109 29 w0_109_27) 109 30 z19) 109 28 (Int32.ofInt 3)) 109 27 z119).2.2.1 109 22).toInt := by have b0 : z119 = (sF (sF (sF (sF sc0 109 29 w0_109_27) 109 30 z19) 109 28 (Int32.ofInt 3)) 109 27 z119).2.2.1 109 27 := sF_get; have b1 : u_109_22 = (sF (sF (sF (sF sc0 109 29 w0_109_27) 109 30 z19) 109 28 (Int32.ofInt 3)) 109 27 z119).2.2.1 109 22 := sF_ne rfl (sF_ne rfl (sF_ne rfl (sF_ne rfl (fr_F e_109_22 hFc0 rfl)))); rw [← b0, ← b1]; exact n198
                                have n198b : (u_109_27).toInt ≤ (z119).toInt := by have a0 := in_u i8a; have a1 := in_u i8; have a2 := in_u ((in_c 1 rfl)); have a3 := in_u i138; have a4 := in_u i119; have a5 := t_add e119 i8 (in_c 1 rfl) rfl; have a6 := in_u ((in_c 3 rfl)); omega
                                have n198c : (s.2.2.1 109 27).toInt ≤ ((sF (sF (sF (sF sc0 109 29 w0_109_27) 109 30 z19) 109 28 (Int32.ofInt 3)) 109 27 z119).2.2.1 109 27).toInt := by have b0 : z119 = (sF (sF (sF (sF sc0 109 29 w0_109_27) 109 30 z19) 109 28 (Int32.ofInt 3)) 109 27 z119).2.2.1 109 27 := sF_get; first | (rw [← b0, ← e_109_27]; exact n198b) | (rw [← b0]; exact n198b)
                                have n198d : ((Int32.ofInt 3)).toInt ≠ 0 → (u_109_27).toInt + 1 ≤ (z119).toInt := by have a0 := in_u i8a; have a1 := in_u i8; have a2 := in_u ((in_c 1 rfl)); have a3 := in_u i138; have a4 := in_u i119; have a5 := t_add e119 i8 (in_c 1 rfl) rfl; have a6 := in_u ((in_c 3 rfl)); omega
                                have n198e : ((sF (sF (sF (sF sc0 109 29 w0_109_27) 109 30 z19) 109 28 (Int32.ofInt 3)) 109 27 z119).2.2.1 109 28).toInt ≠ 0 → (s.2.2.1 109 27).toInt + 1 ≤ ((sF (sF (sF (sF sc0 109 29 w0_109_27) 109 30 z19) 109 28 (Int32.ofInt 3)) 109 27 z119).2.2.1 109 27).toInt := by have b0 : (Int32.ofInt 3) = (sF (sF (sF (sF sc0 109 29 w0_109_27) 109 30 z19) 109 28 (Int32.ofInt 3)) 109 27 z119).2.2.1 109 28 := sF_ne rfl (sF_get); have b1 : z119 = (sF (sF (sF (sF sc0 109 29 w0_109_27) 109 30 z19) 109 28 (Int32.ofInt 3)) 109 27 z119).2.2.1 109 27 := sF_get; first | (rw [← b0, ← b1, ← e_109_27]; exact n198d) | (rw [← b0, ← b1]; exact n198d)
                                exact g_return (gd rfl) rfl (hP _ _ ⟨(sF (sF (sF (sF sc0 109 29 w0_109_27) 109 30 z19) 109 28 (Int32.ofInt 3)) 109 27 z119), hI120, (fr_sF rfl (fr_sF rfl (fr_sF rfl (fr_sF rfl hFc0)))), n198a, n198c, n198e, rfl, rfl⟩)
                              · skip
                                exact zn_eq c186 (in_c 1 rfl) rfl
                          · skip
                            refine g_iload_n 142 (gd rfl) rfl rfl ?_
                            refine g_bipush 43 144 (gd rfl) rfl rfl ?_
                            refine g_cmp_eq 147 171 (gd rfl) rfl rfl (fun c144 => ?_) (fun c144 => ?_)
                            · skip
                              exact n_eq c144 i99x3 (in_c 43 rfl) rfl
                            · skip
                              refine g_iload_n 148 (gd rfl) rfl rfl ?_
                              refine g_bipush 45 150 (gd rfl) rfl rfl ?_
                              refine g_cmp_eq 153 171 (gd rfl) rfl rfl (fun c150 => ?_) (fun c150 => ?_)
                              · skip
                                exact n_eq c150 i99x3 (in_c 45 rfl) rfl
                              · skip
                                refine g_iload_n 154 (gd rfl) rfl rfl ?_
                                refine g_bipush 42 156 (gd rfl) rfl rfl ?_
                                refine g_cmp_eq 159 171 (gd rfl) rfl rfl (fun c156 => ?_) (fun c156 => ?_)
                                · skip
                                  exact n_eq c156 i99x3 (in_c 42 rfl) rfl
                                · skip
                                  refine g_iload_n 160 (gd rfl) rfl rfl ?_
                                  refine g_bipush 40 162 (gd rfl) rfl rfl ?_
                                  refine g_cmp_eq 165 171 (gd rfl) rfl rfl (fun c162 => ?_) (fun c162 => ?_)
                                  · skip
                                    exact n_eq c162 i99x3 (in_c 40 rfl) rfl
                                  · skip
                                    refine g_iload_n 166 (gd rfl) rfl rfl ?_
                                    refine g_bipush 41 168 (gd rfl) rfl rfl ?_
                                    refine g_cmp_ne 171 175 (gd rfl) rfl rfl (fun c168 => ?_) (fun c168 => ?_)
                                    · skip
                                      refine g_iconst 0 176 (gd rfl) rfl rfl ?_
                                      refine g_istore_n 177 (gd rfl) rfl (Nat.le_of_ble_eq_true rfl) ?_
                                      refine g_aload_n 178 (gd rfl) rfl rfl ?_
                                      refine g_getI 181 (gd rfl) rfl rfl rfl (fun z178 e178 => ?_)
                                      have q178 : (Int32.ofInt 3) = z178 := (sF_ne rfl (sF_get)).trans e178.symm
                                      subst q178
                                      refine g_iconst 3 182 (gd rfl) rfl rfl ?_
                                      refine g_cmp_ne 185 198 (gd rfl) rfl rfl (fun c182 => ?_) (fun c182 => ?_)
                                      · skip
                                        exact n_ne c182 (in_c 3 rfl) (in_c 3 rfl) rfl
                                      · skip
                                        refine g_iload_n 186 (gd rfl) rfl rfl ?_
                                        refine g_if_ne 189 198 (gd rfl) rfl rfl (fun c186 => ?_) (fun c186 => ?_)
                                        · skip
                                          exact zn_ne c186 (in_c 0 rfl) rfl
                                        · skip
                                          refine g_aload_n 190 (gd rfl) rfl rfl ?_
                                          refine g_iconst 1 191 (gd rfl) rfl rfl ?_
                                          refine g_aload_n 192 (gd rfl) rfl rfl ?_
                                          refine g_getI 195 (gd rfl) rfl rfl rfl (fun z192 e192 => ?_)
                                          have q192 : w0_109_27 = z192 := (sF_ne rfl (sF_ne rfl (sF_ne rfl (sF_get)))).trans e192.symm
                                          subst q192
                                          refine g_callv (X := _) (As := [.int (Int32.ofInt 1), .int w0_109_27]) (r := []) (b := A 109) (q := 109) 198 (gd rfl) rfl rfl rfl rfl rfl (ww_o rfl) (Nat.le_of_ble_eq_true rfl) (Nat.zero_le _) (Nat.zero_le _) (k_298 (by first | exact dq1 hd rfl | exact dq0 hd rfl | exact dq2 hd rfl | exact dq3 hd rfl | omega) hI120 (in_w 1 5 (in_c 1 rfl) rfl)) (fun e u h => h) (fun v u h => ?_)
                                          obtain ⟨s195, hI195, hF195, n195, rfl, rfl⟩ := h
                                          obtain ⟨z195a, e195⟩ : ∃ w, w = s195.2.2.1 109 23 := ⟨_, rfl⟩
                                          have i195a := inv_F hI195 0 9 rfl e195
                                          rw [← (show z195a = s195.2.2.1 109 23 from e195)] at n195
                                          show GG _ _ _ _ _ _ _ _ [] _ _ _
                                          have n198 : (z119).toInt ≤ (u_109_22).toInt := by have a0 := in_u i8a; have a1 := in_u i8; have a2 := in_u ((in_c 0 rfl)); have a3 := in_u i99x3; have a4 := in_u i195a; have a5 := in_u i119; have a6 := t_add e119 i8 (in_c 1 rfl) rfl; have a7 := in_u ((in_c 1 rfl)); have a8 := in_u ((in_c 3 rfl)); omega
                                          have n198a : (s195.2.2.1 109 27).toInt ≤ (s195.2.2.1 109 22).toInt := by have b0 : z119 = s195.2.2.1 109 27 := fr_F (s := (sF (sF (sF (sF sc0 109 29 w0_109_27) 109 30 z19) 109 28 (Int32.ofInt 3)) 109 27 z119)) (sF_get) hF195 rfl; have b1 : u_109_22 = s195.2.2.1 109 22 := fr_F (s := (sF (sF (sF (sF sc0 109 29 w0_109_27) 109 30 z19) 109 28 (Int32.ofInt 3)) 109 27 z119)) (sF_ne rfl (sF_ne rfl (sF_ne rfl (sF_ne rfl (fr_F e_109_22 hFc0 rfl))))) hF195 rfl; rw [← b0, ← b1]; exact n198
                                          have n198b : (u_109_27).toInt ≤ (z119).toInt := by have a0 := in_u i8a; have a1 := in_u i8; have a2 := in_u ((in_c 0 rfl)); have a3 := in_u i99x3; have a4 := in_u i195a; have a5 := in_u i119; have a6 := t_add e119 i8 (in_c 1 rfl) rfl; have a7 := in_u ((in_c 1 rfl)); have a8 := in_u ((in_c 3 rfl)); omega
                                          have n198c : (s.2.2.1 109 27).toInt ≤ (s195.2.2.1 109 27).toInt := by have b0 : z119 = s195.2.2.1 109 27 := fr_F (s := (sF (sF (sF (sF sc0 109 29 w0_109_27) 109 30 z19) 109 28 (Int32.ofInt 3)) 109 27 z119)) (sF_get) hF195 rfl; first | (rw [← b0, ← e_109_27]; exact n198b) | (rw [← b0]; exact n198b)
                                          have n198d : ((Int32.ofInt 3)).toInt ≠ 0 → (u_109_27).toInt + 1 ≤ (z119).toInt := by have a0 := in_u i8a; have a1 := in_u i8; have a2 := in_u ((in_c 0 rfl)); have a3 := in_u i99x3; have a4 := in_u i195a; have a5 := in_u i119; have a6 := t_add e119 i8 (in_c 1 rfl) rfl; have a7 := in_u ((in_c 1 rfl)); have a8 := in_u ((in_c 3 rfl)); omega
                                          have n198e : (s195.2.2.1 109 28).toInt ≠ 0 → (s.2.2.1 109 27).toInt + 1 ≤ (s195.2.2.1 109 27).toInt := by have b0 : (Int32.ofInt 3) = s195.2.2.1 109 28 := fr_F (s := (sF (sF (sF (sF sc0 109 29 w0_109_27) 109 30 z19) 109 28 (Int32.ofInt 3)) 109 27 z119)) (sF_ne rfl (sF_get)) hF195 rfl; have b1 : z119 = s195.2.2.1 109 27 := fr_F (s := (sF (sF (sF (sF sc0 109 29 w0_109_27) 109 30 z19) 109 28 (Int32.ofInt 3)) 109 27 z119)) (sF_get) hF195 rfl; first | (rw [← b0, ← b1, ← e_109_27]; exact n198d) | (rw [← b0, ← b1]; exact n198d)
                                          exact g_return (gd rfl) rfl (hP _ _ ⟨s195, hI195, (fr_tr rfl (fr_sF rfl (fr_sF rfl (fr_sF rfl (fr_sF rfl hFc0)))) hF195), n198a, n198c, n198e, rfl, rfl⟩)
                                    · skip
                                      exact n_eq c168 i99x3 (in_c 41 rfl) rfl
                    · skip
                      exact zn_ne c102 (in_c 0 rfl) rfl
                  · skip
                    have i99x3 := r_le2 97 126 c99x3 (in_c 97 rfl) i79x9 rfl
                    refine g_iload_n 7 (gd rfl) rfl rfl ?_
                    refine g_bipush 122 9 (gd rfl) rfl rfl ?_
                    refine g_cmp_gt 12 16 (gd rfl) rfl rfl (fun c99x9 => ?_) (fun c99x9 => ?_)
                    · skip
                      have i99x9 := r_lt2 123 126 c99x9 (in_c 122 rfl) i99x3 rfl
                      refine g_iconst 0 17 (gd rfl) rfl rfl ?_
                      refine g_ireturn (gd rfl) rfl (nb01 (in_w 0 1 (in_c 0 rfl) rfl)) (hp99 _ _ ?_)
                      show GG _ _ _ _ _ _ _ _ [.int (Int32.ofInt 0), .ref (A 109)] _ _ _
                      refine g_if_eq 105 109 (gd rfl) rfl rfl (fun c102 => ?_) (fun c102 => ?_)
                      · skip
                        refine g_iconst 3 110 (gd rfl) rfl rfl ?_
                        refine g_putI 113 (gd rfl) rfl rfl rfl rfl ?_
                        have hI110 := inv_sF (q := 109) (j := 28) hI75 rfl (in_w (-2147483648) 2147483647 (in_c 3 rfl) rfl)
                        refine g_aload_n 114 (gd rfl) rfl rfl ?_
                        refine g_dup 115 (gd rfl) rfl rfl ?_
                        refine g_getI 118 (gd rfl) rfl rfl rfl (fun z115 e115 => ?_)
                        have q115 : w0_109_27 = z115 := (sF_ne rfl (sF_ne rfl (sF_ne rfl (v0_109_27)))).trans e115.symm
                        subst q115
                        refine g_iconst 1 119 (gd rfl) rfl rfl ?_
                        refine g_iadd 120 (gd rfl) rfl (fun z119 e119 => ?_)
                        have i119 := in_add 1 1000 e119 i8 (in_c 1 rfl) rfl rfl
                        refine g_putI 123 (gd rfl) rfl rfl rfl rfl ?_
                        have hI120 := inv_sF (q := 109) (j := 27) hI110 rfl (in_w 0 1000 i119 rfl)
                        refine g_iload_n 124 (gd rfl) rfl rfl ?_
                        refine g_bipush 59 126 (gd rfl) rfl rfl ?_
                        refine g_cmp_eq 129 171 (gd rfl) rfl rfl (fun c126 => ?_) (fun c126 => ?_)
                        · skip
                          exact n_eq c126 i99x9 (in_c 59 rfl) rfl
                        · skip
                          refine g_iload_n 130 (gd rfl) rfl rfl ?_
                          refine g_bipush 60 132 (gd rfl) rfl rfl ?_
                          refine g_cmp_eq 135 171 (gd rfl) rfl rfl (fun c132 => ?_) (fun c132 => ?_)
                          · skip
                            exact n_eq c132 i99x9 (in_c 60 rfl) rfl
                          · skip
                            refine g_iload_n 136 (gd rfl) rfl rfl ?_
                            refine g_bipush 61 138 (gd rfl) rfl rfl ?_
                            refine g_cmp_eq 141 171 (gd rfl) rfl rfl (fun c138 => ?_) (fun c138 => ?_)
                            · skip
                              exact n_eq c138 i99x9 (in_c 61 rfl) rfl
                            · skip
                              refine g_iload_n 142 (gd rfl) rfl rfl ?_
                              refine g_bipush 43 144 (gd rfl) rfl rfl ?_
                              refine g_cmp_eq 147 171 (gd rfl) rfl rfl (fun c144 => ?_) (fun c144 => ?_)
                              · skip
                                exact n_eq c144 i99x9 (in_c 43 rfl) rfl
                              · skip
                                refine g_iload_n 148 (gd rfl) rfl rfl ?_
                                refine g_bipush 45 150 (gd rfl) rfl rfl ?_
                                refine g_cmp_eq 153 171 (gd rfl) rfl rfl (fun c150 => ?_) (fun c150 => ?_)
                                · skip
                                  exact n_eq c150 i99x9 (in_c 45 rfl) rfl
                                · skip
                                  refine g_iload_n 154 (gd rfl) rfl rfl ?_
                                  refine g_bipush 42 156 (gd rfl) rfl rfl ?_
                                  refine g_cmp_eq 159 171 (gd rfl) rfl rfl (fun c156 => ?_) (fun c156 => ?_)
                                  · skip
                                    exact n_eq c156 i99x9 (in_c 42 rfl) rfl
                                  · skip
                                    refine g_iload_n 160 (gd rfl) rfl rfl ?_
                                    refine g_bipush 40 162 (gd rfl) rfl rfl ?_
                                    refine g_cmp_eq 165 171 (gd rfl) rfl rfl (fun c162 => ?_) (fun c162 => ?_)
                                    · skip
                                      exact n_eq c162 i99x9 (in_c 40 rfl) rfl
                                    · skip
                                      refine g_iload_n 166 (gd rfl) rfl rfl ?_
                                      refine g_bipush 41 168 (gd rfl) rfl rfl ?_
                                      refine g_cmp_ne 171 175 (gd rfl) rfl rfl (fun c168 => ?_) (fun c168 => ?_)
                                      · skip
                                        refine g_iconst 0 176 (gd rfl) rfl rfl ?_
                                        refine g_istore_n 177 (gd rfl) rfl (Nat.le_of_ble_eq_true rfl) ?_
                                        refine g_aload_n 178 (gd rfl) rfl rfl ?_
                                        refine g_getI 181 (gd rfl) rfl rfl rfl (fun z178 e178 => ?_)
                                        have q178 : (Int32.ofInt 3) = z178 := (sF_ne rfl (sF_get)).trans e178.symm
                                        subst q178
                                        refine g_iconst 3 182 (gd rfl) rfl rfl ?_
                                        refine g_cmp_ne 185 198 (gd rfl) rfl rfl (fun c182 => ?_) (fun c182 => ?_)
                                        · skip
                                          exact n_ne c182 (in_c 3 rfl) (in_c 3 rfl) rfl
                                        · skip
                                          refine g_iload_n 186 (gd rfl) rfl rfl ?_
                                          refine g_if_ne 189 198 (gd rfl) rfl rfl (fun c186 => ?_) (fun c186 => ?_)
                                          · skip
                                            exact zn_ne c186 (in_c 0 rfl) rfl
                                          · skip
                                            refine g_aload_n 190 (gd rfl) rfl rfl ?_
                                            refine g_iconst 1 191 (gd rfl) rfl rfl ?_
                                            refine g_aload_n 192 (gd rfl) rfl rfl ?_
                                            refine g_getI 195 (gd rfl) rfl rfl rfl (fun z192 e192 => ?_)
                                            have q192 : w0_109_27 = z192 := (sF_ne rfl (sF_ne rfl (sF_ne rfl (sF_get)))).trans e192.symm
                                            subst q192
                                            refine g_callv (X := _) (As := [.int (Int32.ofInt 1), .int w0_109_27]) (r := []) (b := A 109) (q := 109) 198 (gd rfl) rfl rfl rfl rfl rfl (ww_o rfl) (Nat.le_of_ble_eq_true rfl) (Nat.zero_le _) (Nat.zero_le _) (k_298 (by first | exact dq1 hd rfl | exact dq0 hd rfl | exact dq2 hd rfl | exact dq3 hd rfl | omega) hI120 (in_w 1 5 (in_c 1 rfl) rfl)) (fun e u h => h) (fun v u h => ?_)
                                            obtain ⟨s195, hI195, hF195, n195, rfl, rfl⟩ := h
                                            obtain ⟨z195a, e195⟩ : ∃ w, w = s195.2.2.1 109 23 := ⟨_, rfl⟩
                                            have i195a := inv_F hI195 0 9 rfl e195
                                            rw [← (show z195a = s195.2.2.1 109 23 from e195)] at n195
                                            show GG _ _ _ _ _ _ _ _ [] _ _ _
                                            have n198 : (z119).toInt ≤ (u_109_22).toInt := by have a0 := in_u i8a; have a1 := in_u i8; have a2 := in_u ((in_c 0 rfl)); have a3 := in_u i99x9; have a4 := in_u i195a; have a5 := in_u i119; have a6 := t_add e119 i8 (in_c 1 rfl) rfl; have a7 := in_u ((in_c 1 rfl)); have a8 := in_u ((in_c 3 rfl)); omega
                                            have n198a : (s195.2.2.1 109 27).toInt ≤ (s195.2.2.1 109 22).toInt := by have b0 : z119 = s195.2.2.1 109 27 := fr_F (s := (sF (sF (sF (sF sc0 109 29 w0_109_27) 109 30 z19) 109 28 (Int32.ofInt 3)) 109 27 z119)) (sF_get) hF195 rfl; have b1 : u_109_22 = s195.2.2.1 109 22 := fr_F (s := (sF (sF (sF (sF sc0 109 29 w0_109_27) 109 30 z19) 109 28 (Int32.ofInt 3)) 109 27 z119)) (sF_ne rfl (sF_ne rfl (sF_ne rfl (sF_ne rfl (fr_F e_109_22 hFc0 rfl))))) hF195 rfl; rw [← b0, ← b1]; exact n198
                                            have n198b : (u_109_27).toInt ≤ (z119).toInt := by have a0 := in_u i8a; have a1 := in_u i8; have a2 := in_u ((in_c 0 rfl)); have a3 := in_u i99x9; have a4 := in_u i195a; have a5 := in_u i119; have a6 := t_add e119 i8 (in_c 1 rfl) rfl; have a7 := in_u ((in_c 1 rfl)); have a8 := in_u ((in_c 3 rfl)); omega
                                            have n198c : (s.2.2.1 109 27).toInt ≤ (s195.2.2.1 109 27).toInt := by have b0 : z119 = s195.2.2.1 109 27 := fr_F (s := (sF (sF (sF (sF sc0 109 29 w0_109_27) 109 30 z19) 109 28 (Int32.ofInt 3)) 109 27 z119)) (sF_get) hF195 rfl; first | (rw [← b0, ← e_109_27]; exact n198b) | (rw [← b0]; exact n198b)
                                            have n198d : ((Int32.ofInt 3)).toInt ≠ 0 → (u_109_27).toInt + 1 ≤ (z119).toInt := by have a0 := in_u i8a; have a1 := in_u i8; have a2 := in_u ((in_c 0 rfl)); have a3 := in_u i99x9; have a4 := in_u i195a; have a5 := in_u i119; have a6 := t_add e119 i8 (in_c 1 rfl) rfl; have a7 := in_u ((in_c 1 rfl)); have a8 := in_u ((in_c 3 rfl)); omega
                                            have n198e : (s195.2.2.1 109 28).toInt ≠ 0 → (s.2.2.1 109 27).toInt + 1 ≤ (s195.2.2.1 109 27).toInt := by have b0 : (Int32.ofInt 3) = s195.2.2.1 109 28 := fr_F (s := (sF (sF (sF (sF sc0 109 29 w0_109_27) 109 30 z19) 109 28 (Int32.ofInt 3)) 109 27 z119)) (sF_ne rfl (sF_get)) hF195 rfl; have b1 : z119 = s195.2.2.1 109 27 := fr_F (s := (sF (sF (sF (sF sc0 109 29 w0_109_27) 109 30 z19) 109 28 (Int32.ofInt 3)) 109 27 z119)) (sF_get) hF195 rfl; first | (rw [← b0, ← b1, ← e_109_27]; exact n198d) | (rw [← b0, ← b1]; exact n198d)
                                            exact g_return (gd rfl) rfl (hP _ _ ⟨s195, hI195, (fr_tr rfl (fr_sF rfl (fr_sF rfl (fr_sF rfl (fr_sF rfl hFc0)))) hF195), n198a, n198c, n198e, rfl, rfl⟩)
                                      · skip
                                        exact n_eq c168 i99x9 (in_c 41 rfl) rfl
                      · skip
                        exact zn_ne c102 (in_c 0 rfl) rfl
                    · skip
                      have i99x9 := r_le1 97 122 c99x9 i99x3 (in_c 122 rfl) rfl
                      refine g_iconst 1 13 (gd rfl) rfl rfl ?_
                      refine g_goto 17 (gd rfl) rfl ?_
                      refine g_ireturn (gd rfl) rfl (nb01 (in_w 0 1 (in_c 1 rfl) rfl)) (hp99 _ _ ?_)
                      show GG _ _ _ _ _ _ _ _ [.int (Int32.ofInt 1), .ref (A 109)] _ _ _
                      refine g_if_eq 105 109 (gd rfl) rfl rfl (fun c102 => ?_) (fun c102 => ?_)
                      · skip
                        exact zn_eq c102 (in_c 1 rfl) rfl
                      · skip
                        refine g_iconst 1 106 (gd rfl) rfl rfl ?_
                        refine g_goto 110 (gd rfl) rfl ?_
                        refine g_putI 113 (gd rfl) rfl rfl rfl rfl ?_
                        have hI110 := inv_sF (q := 109) (j := 28) hI75 rfl (in_w (-2147483648) 2147483647 (in_c 1 rfl) rfl)
                        refine g_aload_n 114 (gd rfl) rfl rfl ?_
                        refine g_dup 115 (gd rfl) rfl rfl ?_
                        refine g_getI 118 (gd rfl) rfl rfl rfl (fun z115 e115 => ?_)
                        have q115 : w0_109_27 = z115 := (sF_ne rfl (sF_ne rfl (sF_ne rfl (v0_109_27)))).trans e115.symm
                        subst q115
                        refine g_iconst 1 119 (gd rfl) rfl rfl ?_
                        refine g_iadd 120 (gd rfl) rfl (fun z119 e119 => ?_)
                        have i119 := in_add 1 1000 e119 i8 (in_c 1 rfl) rfl rfl
                        refine g_putI 123 (gd rfl) rfl rfl rfl rfl ?_
                        have hI120 := inv_sF (q := 109) (j := 27) hI110 rfl (in_w 0 1000 i119 rfl)
                        refine g_iload_n 124 (gd rfl) rfl rfl ?_
                        refine g_bipush 59 126 (gd rfl) rfl rfl ?_
                        refine g_cmp_eq 129 171 (gd rfl) rfl rfl (fun c126 => ?_) (fun c126 => ?_)
                        · skip
                          exact n_eq c126 i99x9 (in_c 59 rfl) rfl
                        · skip
                          refine g_iload_n 130 (gd rfl) rfl rfl ?_
                          refine g_bipush 60 132 (gd rfl) rfl rfl ?_
                          refine g_cmp_eq 135 171 (gd rfl) rfl rfl (fun c132 => ?_) (fun c132 => ?_)
                          · skip
                            exact n_eq c132 i99x9 (in_c 60 rfl) rfl
                          · skip
                            refine g_iload_n 136 (gd rfl) rfl rfl ?_
                            refine g_bipush 61 138 (gd rfl) rfl rfl ?_
                            refine g_cmp_eq 141 171 (gd rfl) rfl rfl (fun c138 => ?_) (fun c138 => ?_)
                            · skip
                              exact n_eq c138 i99x9 (in_c 61 rfl) rfl
                            · skip
                              refine g_iload_n 142 (gd rfl) rfl rfl ?_
                              refine g_bipush 43 144 (gd rfl) rfl rfl ?_
                              refine g_cmp_eq 147 171 (gd rfl) rfl rfl (fun c144 => ?_) (fun c144 => ?_)
                              · skip
                                exact n_eq c144 i99x9 (in_c 43 rfl) rfl
                              · skip
                                refine g_iload_n 148 (gd rfl) rfl rfl ?_
                                refine g_bipush 45 150 (gd rfl) rfl rfl ?_
                                refine g_cmp_eq 153 171 (gd rfl) rfl rfl (fun c150 => ?_) (fun c150 => ?_)
                                · skip
                                  exact n_eq c150 i99x9 (in_c 45 rfl) rfl
                                · skip
                                  refine g_iload_n 154 (gd rfl) rfl rfl ?_
                                  refine g_bipush 42 156 (gd rfl) rfl rfl ?_
                                  refine g_cmp_eq 159 171 (gd rfl) rfl rfl (fun c156 => ?_) (fun c156 => ?_)
                                  · skip
                                    exact n_eq c156 i99x9 (in_c 42 rfl) rfl
                                  · skip
                                    refine g_iload_n 160 (gd rfl) rfl rfl ?_
                                    refine g_bipush 40 162 (gd rfl) rfl rfl ?_
                                    refine g_cmp_eq 165 171 (gd rfl) rfl rfl (fun c162 => ?_) (fun c162 => ?_)
                                    · skip
                                      exact n_eq c162 i99x9 (in_c 40 rfl) rfl
                                    · skip
                                      refine g_iload_n 166 (gd rfl) rfl rfl ?_
                                      refine g_bipush 41 168 (gd rfl) rfl rfl ?_
                                      refine g_cmp_ne 171 175 (gd rfl) rfl rfl (fun c168 => ?_) (fun c168 => ?_)
                                      · skip
                                        refine g_iconst 0 176 (gd rfl) rfl rfl ?_
                                        refine g_istore_n 177 (gd rfl) rfl (Nat.le_of_ble_eq_true rfl) ?_
                                        refine g_aload_n 178 (gd rfl) rfl rfl ?_
                                        refine g_getI 181 (gd rfl) rfl rfl rfl (fun z178 e178 => ?_)
                                        have q178 : (Int32.ofInt 1) = z178 := (sF_ne rfl (sF_get)).trans e178.symm
                                        subst q178
                                        refine g_iconst 3 182 (gd rfl) rfl rfl ?_
                                        refine g_cmp_ne 185 198 (gd rfl) rfl rfl (fun c182 => ?_) (fun c182 => ?_)
                                        · skip
                                          have n198 : (z119).toInt ≤ (u_109_22).toInt := by have a0 := in_u i8a; have a1 := in_u i8; have a2 := in_u ((in_c 0 rfl)); have a3 := in_u i99x9; have a4 := in_u i119; have a5 := t_add e119 i8 (in_c 1 rfl) rfl; have a6 := in_u ((in_c 1 rfl)); omega
                                          have n198a : ((sF (sF (sF (sF sc0 109 29 w0_109_27) 109 30 z19) 109 28 (Int32.ofInt 1)) 109 27 z119).2.2.1 109 27).toInt ≤ ((sF (sF (sF (sF sc0 109 29 w0_109_27) 109 30 z19) 109 28 (Int32.ofInt 1)) 109 27 z119).2.2.1 109 22).toInt := by have b0 : z119 = (sF (sF (sF (sF sc0 109 29 w0_109_27) 109 30 z19) 109 28 (Int32.ofInt 1)) 109 27 z119).2.2.1 109 27 := sF_get; have b1 : u_109_22 = (sF (sF (sF (sF sc0 109 29 w0_109_27) 109 30 z19) 109 28 (Int32.ofInt 1)) 109 27 z119).2.2.1 109 22 := sF_ne rfl (sF_ne rfl (sF_ne rfl (sF_ne rfl (fr_F e_109_22 hFc0 rfl)))); rw [← b0, ← b1]; exact n198
                                          have n198b : (u_109_27).toInt ≤ (z119).toInt := by have a0 := in_u i8a; have a1 := in_u i8; have a2 := in_u ((in_c 0 rfl)); have a3 := in_u i99x9; have a4 := in_u i119; have a5 := t_add e119 i8 (in_c 1 rfl) rfl; have a6 := in_u ((in_c 1 rfl)); omega
                                          have n198c : (s.2.2.1 109 27).toInt ≤ ((sF (sF (sF (sF sc0 109 29 w0_109_27) 109 30 z19) 109 28 (Int32.ofInt 1)) 109 27 z119).2.2.1 109 27).toInt := by have b0 : z119 = (sF (sF (sF (sF sc0 109 29 w0_109_27) 109 30 z19) 109 28 (Int32.ofInt 1)) 109 27 z119).2.2.1 109 27 := sF_get; first | (rw [← b0, ← e_109_27]; exact n198b) | (rw [← b0]; exact n198b)
                                          have n198d : ((Int32.ofInt 1)).toInt ≠ 0 → (u_109_27).toInt + 1 ≤ (z119).toInt := by have a0 := in_u i8a; have a1 := in_u i8; have a2 := in_u ((in_c 0 rfl)); have a3 := in_u i99x9; have a4 := in_u i119; have a5 := t_add e119 i8 (in_c 1 rfl) rfl; have a6 := in_u ((in_c 1 rfl)); omega
                                          have n198e : ((sF (sF (sF (sF sc0 109 29 w0_109_27) 109 30 z19) 109 28 (Int32.ofInt 1)) 109 27 z119).2.2.1 109 28).toInt ≠ 0 → (s.2.2.1 109 27).toInt + 1 ≤ ((sF (sF (sF (sF sc0 109 29 w0_109_27) 109 30 z19) 109 28 (Int32.ofInt 1)) 109 27 z119).2.2.1 109 27).toInt := by have b0 : (Int32.ofInt 1) = (sF (sF (sF (sF sc0 109 29 w0_109_27) 109 30 z19) 109 28 (Int32.ofInt 1)) 109 27 z119).2.2.1 109 28 := sF_ne rfl (sF_get); have b1 : z119 = (sF (sF (sF (sF sc0 109 29 w0_109_27) 109 30 z19) 109 28 (Int32.ofInt 1)) 109 27 z119).2.2.1 109 27 := sF_get; first | (rw [← b0, ← b1, ← e_109_27]; exact n198d) | (rw [← b0, ← b1]; exact n198d)
                                          exact g_return (gd rfl) rfl (hP _ _ ⟨(sF (sF (sF (sF sc0 109 29 w0_109_27) 109 30 z19) 109 28 (Int32.ofInt 1)) 109 27 z119), hI120, (fr_sF rfl (fr_sF rfl (fr_sF rfl (fr_sF rfl hFc0)))), n198a, n198c, n198e, rfl, rfl⟩)
                                        · skip
                                          exact n_eq c182 (in_c 1 rfl) (in_c 3 rfl) rfl
                                      · skip
                                        exact n_eq c168 i99x9 (in_c 41 rfl) rfl
                · skip
                  exact zn_ne c82 (in_c 0 rfl) rfl
              · skip
                have i79x9 := r_le1 48 57 c79x9 i79x3 (in_c 57 rfl) rfl
                refine g_iconst 1 13 (gd rfl) rfl rfl ?_
                refine g_goto 17 (gd rfl) rfl ?_
                refine g_ireturn (gd rfl) rfl (nb01 (in_w 0 1 (in_c 1 rfl) rfl)) (hp79 _ _ ?_)
                show GG _ _ _ _ _ _ _ _ [.int (Int32.ofInt 1)] _ _ _
                refine g_if_eq 85 97 (gd rfl) rfl rfl (fun c82 => ?_) (fun c82 => ?_)
                · skip
                  exact zn_eq c82 (in_c 1 rfl) rfl
                · skip
                  refine g_aload_n 86 (gd rfl) rfl rfl ?_
                  refine g_iconst 2 87 (gd rfl) rfl rfl ?_
                  refine g_putI 90 (gd rfl) rfl rfl rfl rfl ?_
                  have hI87 := inv_sF (q := 109) (j := 28) hI75 rfl (in_w (-2147483648) 2147483647 (in_c 2 rfl) rfl)
                  refine g_aload_n 91 (gd rfl) rfl rfl ?_
                  refine g_bipush 6 93 (gd rfl) rfl rfl ?_
                  have v93 : w0_109_27 = (sF (sF (sF sc0 109 29 w0_109_27) 109 30 z19) 109 28 (Int32.ofInt 2)).2.2.1 109 27 := sF_ne rfl (sF_ne rfl (sF_ne rfl (v0_109_27)))
                  have v93a : u_109_22 = (sF (sF (sF sc0 109 29 w0_109_27) 109 30 z19) 109 28 (Int32.ofInt 2)).2.2.1 109 22 := sF_ne rfl (sF_ne rfl (sF_ne rfl (fr_F e_109_22 hFc0 rfl)))
                  have n93 : (w0_109_27).toInt < (u_109_22).toInt := by have a0 := in_u i8a; have a1 := in_u i8; have a2 := in_u i79x9; have a3 := in_u ((in_c 2 rfl)); omega
                  have p93 : 48 ≤ ((sF (sF (sF sc0 109 29 w0_109_27) 109 30 z19) 109 28 (Int32.ofInt 2)).1 125 ((sF (sF (sF sc0 109 29 w0_109_27) 109 30 z19) 109 28 (Int32.ofInt 2)).2.2.1 109 27).toNatClampNeg).toInt ∧ ((sF (sF (sF sc0 109 29 w0_109_27) 109 30 z19) 109 28 (Int32.ofInt 2)).1 125 ((sF (sF (sF sc0 109 29 w0_109_27) 109 30 z19) 109 28 (Int32.ofInt 2)).2.2.1 109 27).toNatClampNeg).toInt ≤ 57 := by first | (have hz : z19 = (sF (sF (sF sc0 109 29 w0_109_27) 109 30 z19) 109 28 (Int32.ofInt 2)).1 125 ((sF (sF (sF sc0 109 29 w0_109_27) 109 30 z19) 109 28 (Int32.ofInt 2)).2.2.1 109 27).toNatClampNeg := (by rw [← (show w0_109_27 = (sF (sF (sF sc0 109 29 w0_109_27) 109 30 z19) 109 28 (Int32.ofInt 2)).2.2.1 109 27 from sF_ne rfl (sF_ne rfl (sF_ne rfl (v0_109_27))))]; exact e19); rw [← hz]; exact i79x9) | (have hz : z71 = (sF (sF (sF sc0 109 29 w0_109_27) 109 30 z19) 109 28 (Int32.ofInt 2)).1 125 ((sF (sF (sF sc0 109 29 w0_109_27) 109 30 z19) 109 28 (Int32.ofInt 2)).2.2.1 109 27).toNatClampNeg := (by rw [← (show w0_109_27 = (sF (sF (sF sc0 109 29 w0_109_27) 109 30 z19) 109 28 (Int32.ofInt 2)).2.2.1 109 27 from sF_ne rfl (sF_ne rfl (sF_ne rfl (v0_109_27))))]; exact e71); rw [← hz]; exact i79x9)
                  refine g_callv (X := _) (As := [.int (Int32.ofInt 6)]) (r := []) (b := A 109) (q := 109) 96 (gd rfl) rfl rfl rfl rfl rfl (ww_o rfl) (Nat.le_of_ble_eq_true rfl) (Nat.zero_le _) (Nat.zero_le _) (k_300 (by first | exact dq1 hd rfl | exact dq0 hd rfl | exact dq2 hd rfl | exact dq3 hd rfl | omega) hI87 (in_w 6 7 (in_c 6 rfl) rfl) v93 v93a n93 p93) (fun e u h => h) (fun v u h => ?_)
                  obtain ⟨s93, hI93, hF93, n93a, n93b, rfl, rfl⟩ := h
                  obtain ⟨z93a, e93⟩ : ∃ w, w = s93.2.2.1 109 27 := ⟨_, rfl⟩
                  have i93a := inv_F hI93 0 1000 rfl e93
                  rw [← (show z93a = s93.2.2.1 109 27 from e93)] at n93a
                  rw [← (show u_109_22 = s93.2.2.1 109 22 from fr_F (s := (sF (sF (sF sc0 109 29 w0_109_27) 109 30 z19) 109 28 (Int32.ofInt 2))) (sF_ne rfl (sF_ne rfl (sF_ne rfl (fr_F e_109_22 hFc0 rfl)))) hF93 rfl)] at n93a
                  rw [← (show w0_109_27 = (sF (sF (sF sc0 109 29 w0_109_27) 109 30 z19) 109 28 (Int32.ofInt 2)).2.2.1 109 27 from sF_ne rfl (sF_ne rfl (sF_ne rfl (v0_109_27))))] at n93b
                  rw [← (show z93a = s93.2.2.1 109 27 from e93)] at n93b
                  show GG _ _ _ _ _ _ _ _ [] _ _ _
                  have n96 : (z93a).toInt ≤ (u_109_22).toInt := by have a0 := in_u i8a; have a1 := in_u i8; have a2 := in_u i79x9; have a3 := in_u i93a; have a4 := in_u ((in_c 2 rfl)); omega
                  have n96a : (s93.2.2.1 109 27).toInt ≤ (s93.2.2.1 109 22).toInt := by have b0 : z93a = s93.2.2.1 109 27 := e93; have b1 : u_109_22 = s93.2.2.1 109 22 := fr_F (s := (sF (sF (sF sc0 109 29 w0_109_27) 109 30 z19) 109 28 (Int32.ofInt 2))) (sF_ne rfl (sF_ne rfl (sF_ne rfl (fr_F e_109_22 hFc0 rfl)))) hF93 rfl; rw [← b0, ← b1]; exact n96
                  have n96b : (u_109_27).toInt ≤ (z93a).toInt := by have a0 := in_u i8a; have a1 := in_u i8; have a2 := in_u i79x9; have a3 := in_u i93a; have a4 := in_u ((in_c 2 rfl)); omega
                  have n96c : (s.2.2.1 109 27).toInt ≤ (s93.2.2.1 109 27).toInt := by have b0 : z93a = s93.2.2.1 109 27 := e93; first | (rw [← b0, ← e_109_27]; exact n96b) | (rw [← b0]; exact n96b)
                  have n96d : ((Int32.ofInt 2)).toInt ≠ 0 → (u_109_27).toInt + 1 ≤ (z93a).toInt := by have a0 := in_u i8a; have a1 := in_u i8; have a2 := in_u i79x9; have a3 := in_u i93a; have a4 := in_u ((in_c 2 rfl)); omega
                  have n96e : (s93.2.2.1 109 28).toInt ≠ 0 → (s.2.2.1 109 27).toInt + 1 ≤ (s93.2.2.1 109 27).toInt := by have b0 : (Int32.ofInt 2) = s93.2.2.1 109 28 := fr_F (s := (sF (sF (sF sc0 109 29 w0_109_27) 109 30 z19) 109 28 (Int32.ofInt 2))) (sF_get) hF93 rfl; have b1 : z93a = s93.2.2.1 109 27 := e93; first | (rw [← b0, ← b1, ← e_109_27]; exact n96d) | (rw [← b0, ← b1]; exact n96d)
                  exact g_return (gd rfl) rfl (hP _ _ ⟨s93, hI93, (fr_tr rfl (fr_sF rfl (fr_sF rfl (fr_sF rfl hFc0))) hF93), n96a, n96c, n96e, rfl, rfl⟩)
          · skip
            have i54 := r_eq1 1 999 c54 i8 i8a rfl
            have i54a := r_eq2 1 999 c54 i8 i8a rfl
            refine g_aload_n 58 (gd rfl) rfl rfl ?_
            refine g_iconst 0 59 (gd rfl) rfl rfl ?_
            refine g_putI 62 (gd rfl) rfl rfl rfl rfl ?_
            have hI59 := inv_sF (q := 109) (j := 28) hI43 rfl (in_w (-2147483648) 2147483647 (in_c 0 rfl) rfl)
            have n62 : (w0_109_27).toInt ≤ (u_109_22).toInt := by first | exact n0_0 | (have a0 := in_u i54a; have a1 := in_u i54; have a2 := in_u ((in_c 0 rfl)); omega)
            have n62a : ((sF (sF sc0 109 29 w0_109_27) 109 28 (Int32.ofInt 0)).2.2.1 109 27).toInt ≤ ((sF (sF sc0 109 29 w0_109_27) 109 28 (Int32.ofInt 0)).2.2.1 109 22).toInt := by have b0 : w0_109_27 = (sF (sF sc0 109 29 w0_109_27) 109 28 (Int32.ofInt 0)).2.2.1 109 27 := sF_ne rfl (sF_ne rfl (v0_109_27)); have b1 : u_109_22 = (sF (sF sc0 109 29 w0_109_27) 109 28 (Int32.ofInt 0)).2.2.1 109 22 := sF_ne rfl (sF_ne rfl (fr_F e_109_22 hFc0 rfl)); rw [← b0, ← b1]; exact n62
            have n62b : (u_109_27).toInt ≤ (w0_109_27).toInt := by first | exact n0_1 | (have a0 := in_u i54a; have a1 := in_u i54; have a2 := in_u ((in_c 0 rfl)); omega)
            have n62c : (s.2.2.1 109 27).toInt ≤ ((sF (sF sc0 109 29 w0_109_27) 109 28 (Int32.ofInt 0)).2.2.1 109 27).toInt := by have b0 : w0_109_27 = (sF (sF sc0 109 29 w0_109_27) 109 28 (Int32.ofInt 0)).2.2.1 109 27 := sF_ne rfl (sF_ne rfl (v0_109_27)); first | (rw [← b0, ← e_109_27]; exact n62b) | (rw [← b0]; exact n62b)
            have n62d : ((Int32.ofInt 0)).toInt ≠ 0 → (u_109_27).toInt + 1 ≤ (w0_109_27).toInt := by have a0 := in_u i54a; have a1 := in_u i54; have a2 := in_u ((in_c 0 rfl)); omega
            have n62e : ((sF (sF sc0 109 29 w0_109_27) 109 28 (Int32.ofInt 0)).2.2.1 109 28).toInt ≠ 0 → (s.2.2.1 109 27).toInt + 1 ≤ ((sF (sF sc0 109 29 w0_109_27) 109 28 (Int32.ofInt 0)).2.2.1 109 27).toInt := by have b0 : (Int32.ofInt 0) = (sF (sF sc0 109 29 w0_109_27) 109 28 (Int32.ofInt 0)).2.2.1 109 28 := sF_get; have b1 : w0_109_27 = (sF (sF sc0 109 29 w0_109_27) 109 28 (Int32.ofInt 0)).2.2.1 109 27 := sF_ne rfl (sF_ne rfl (v0_109_27)); first | (rw [← b0, ← b1, ← e_109_27]; exact n62d) | (rw [← b0, ← b1]; exact n62d)
            exact g_return (gd rfl) rfl (hP _ _ ⟨(sF (sF sc0 109 29 w0_109_27) 109 28 (Int32.ofInt 0)), hI59, (fr_sF rfl (fr_sF rfl hFc0)), n62a, n62c, n62e, rfl, rfl⟩)
        · skip
          have i22 := r_eq1 32 32 c22 i19 (in_c 32 rfl) rfl
          refine g_aload_n 26 (gd rfl) rfl rfl ?_
          refine g_dup 27 (gd rfl) rfl rfl ?_
          refine g_getI 30 (gd rfl) rfl rfl rfl (fun z27 e27 => ?_)
          have q27 : w0_109_27 = z27 := (v0_109_27).trans e27.symm
          subst q27
          refine g_iconst 1 31 (gd rfl) rfl rfl ?_
          refine g_iadd 32 (gd rfl) rfl (fun z31 e31 => ?_)
          have i31 := in_add 1 1000 e31 i8 (in_c 1 rfl) rfl rfl
          refine g_putI 35 (gd rfl) rfl rfl rfl rfl ?_
          have hI32 := inv_sF (q := 109) (j := 27) hIc0 rfl (in_w 0 1000 i31 rfl)
          refine g_goto 0 (gd rfl) rfl ?_
          have v0 : z31 = (sF sc0 109 27 z31).2.2.1 109 27 := sF_get
          have n0 : (z31).toInt ≤ (u_109_22).toInt := by have a0 := in_u i8a; have a1 := in_u i8; have a2 := in_u i31; have a3 := t_add e31 i8 (in_c 1 rfl) rfl; have a4 := in_u ((in_c 1 rfl)); omega
          have n0a : (u_109_27).toInt ≤ (z31).toInt := by have a0 := in_u i8a; have a1 := in_u i8; have a2 := in_u i31; have a3 := t_add e31 i8 (in_c 1 rfl) rfl; have a4 := in_u ((in_c 1 rfl)); omega
          have m0 : (u_109_22).toInt - (z31).toInt < ((k0 : Nat) : Int) := by have a0 := in_u i8a; have a1 := in_u i8; have a2 := in_u i31; have a3 := t_add e31 i8 (in_c 1 rfl) rfl; have a4 := in_u ((in_c 1 rfl)); omega
          exact gg_w (by first | exact Nat.le_add_right _ _ | exact gw2 | exact gw3 | exact gwe rfl | exact gwf rfl | exact gwg rfl | exact gwh rfl | omega) (gg_f (gf_cons rfl gf_nil) (ih0  (sF sc0 109 27 z31) z31 hI32 (fr_sF rfl hFc0) v0 n0 n0a m0))
  refine g_enter2 (k := 392) (N := 901801) (by first | exact dq1 hd rfl | exact dq0 hd rfl | exact dq2 hd rfl | exact dq3 hd rfl | omega) rfl (Nat.le_of_ble_eq_true rfl) ?_
  have n0 : (u_109_27).toInt ≤ (u_109_22).toInt := by have a0 := in_u ((inv_F hI 0 1000 rfl e_109_22)); have a1 := in_u ((inv_F hI 0 1000 rfl e_109_27)); omega
  have n0a : (u_109_27).toInt ≤ (u_109_27).toInt := by have a0 := in_u ((inv_F hI 0 1000 rfl e_109_22)); have a1 := in_u ((inv_F hI 0 1000 rfl e_109_27)); omega
  have m0 : (u_109_22).toInt - (u_109_27).toInt < ((1001 : Nat) : Int) := by have a0 := in_u ((inv_F hI 0 1000 rfl e_109_22)); have a1 := in_u ((inv_F hI 0 1000 rfl e_109_27)); omega
  exact gg_w (by first | exact Nat.le_of_ble_eq_true rfl | omega) (gg_f (gf_cons rfl gf_nil) (ct0 1001 s u_109_27 hI fr_rf e_109_27 n0 n0a m0))

def fm_399 : FM := ([187, 188], [], [(109, 109), (109, 111), (109, 112)], [])
/-- GraphHouseModel.settle -/
theorem k_399 {Z : AmZ} {A : Nat → Nat} {s : GS} {ex : va_W} {d : Nat} {X : AmX} {x1 : Int32} {u_109_109 : Int32} {u_109_111 : Int32} (hd : 3 ≤ d) (hI : Inv s) (h1 : In x1 1 3) (e_109_109 : u_109_109 = s.2.2.1 109 109) (e_109_111 : u_109_111 = s.2.2.1 109 111) (p_0 : (u_109_109).toInt + (u_109_111).toInt ≤ 120) : GC Z d 399 [.ref (A 109), .int x1] (WW Z A s ++ ex) 0 0 (fun v u => ∃ t : GS, Inv t ∧ Fr fm_399 s t ∧ ((t.2.2.1 109 109).toInt + (t.2.2.1 109 111).toInt = (s.2.2.1 109 109).toInt + (s.2.2.1 109 111).toInt) ∧ v = none ∧ u = WW Z A t ++ ex ∧ (PR s t 1 1)) X := by
  intro post xp hP hX
  have ct0 : ∀ (k0 : Nat) (sc0 : GS) (w0_109_109 : Int32) (w0_109_111 : Int32), Inv sc0 → Fr fm_399 s sc0 → (w0_109_109 = sc0.2.2.1 109 109) → (w0_109_111 = sc0.2.2.1 109 111) → ((w0_109_109).toInt + (w0_109_111).toInt = (u_109_109).toInt + (u_109_111).toInt) → (PR s sc0 1 1) → (w0_109_111).toInt < (k0 : Int) → GG Z (d - 1) 399 post (gx xp) (1 + k0 * 900) 0 (fun j => xlook j [(0, .ref (A 109)), (1, .int x1)]) [] (WW Z A sc0 ++ ex) 0 0 := by
    intro k0
    induction k0 with
    | zero => intro sc0 w0_109_109 w0_109_111 hIc0 hFc0 v0_109_109 v0_109_111 n0_0 g0_0 mm0; exfalso; have a0 := in_u h1; have a1 := in_u ((inv_F hIc0 0 200 rfl v0_109_111)); have a2 := in_u ((inv_F hIc0 0 400 rfl v0_109_109)); omega
    | succ k0 ih0 =>
      intro sc0 w0_109_109 w0_109_111 hIc0 hFc0 v0_109_109 v0_109_111 n0_0 g0_0 mm0
      refine gg_w (M := 1 + k0 * 900 + 900) gws ?_
      refine g_aload_n 1 (gd rfl) rfl rfl ?_
      refine g_getI 4 (gd rfl) rfl rfl rfl (fun z1 e1 => ?_)
      have q1 : w0_109_111 = z1 := (v0_109_111).trans e1.symm
      subst q1
      refine g_if_le 7 34 (gd rfl) rfl rfl (fun c4 => ?_) (fun c4 => ?_)
      · skip
        have i4 := z_le 0 0 c4 (inv_F hIc0 0 200 rfl v0_109_111) rfl
        have n34 : PR s sc0 1 1 := by exact g0_0
        have n34a : (w0_109_109).toInt + (w0_109_111).toInt = (u_109_109).toInt + (u_109_111).toInt := by first | exact n0_0 | (have a0 := in_u h1; have a1 := in_u i4; have a2 := in_u ((inv_F hIc0 0 400 rfl v0_109_109)); omega)
        have n34b : (sc0.2.2.1 109 109).toInt + (sc0.2.2.1 109 111).toInt = (s.2.2.1 109 109).toInt + (s.2.2.1 109 111).toInt := by have b0 : w0_109_109 = sc0.2.2.1 109 109 := v0_109_109; have b1 : w0_109_111 = sc0.2.2.1 109 111 := v0_109_111; first | (rw [← b0, ← b1, ← e_109_109, ← e_109_111]; exact n34a) | (rw [← b0, ← b1]; exact n34a)
        exact g_return (gd rfl) rfl (hP _ _ ⟨sc0, hIc0, hFc0, n34b, rfl, rfl, n34⟩)
      · skip
        have i4 := z_gt 1 200 c4 (inv_F hIc0 0 200 rfl v0_109_111) rfl
        refine g_aload_n 8 (gd rfl) rfl rfl ?_
        refine g_callv (X := _) (As := []) (r := []) (b := A 109) (q := 109) 11 (gd rfl) rfl rfl rfl rfl rfl (ww_o rfl) (Nat.le_of_ble_eq_true rfl) (mc := 0) (ms := 0) (Nat.zero_le _) (Nat.zero_le _) (P := fun v u => _) ?_ (fun e u h => h) (fun v u h => h)
        intro po8 xx8 hp8 hx8
        refine g_enter2 (k := 395) (N := 300) (by first | exact dq1 hd rfl | exact dq0 hd rfl | exact dq2 hd rfl | exact dq3 hd rfl | omega) rfl (Nat.le_of_ble_eq_true rfl) ?_
        refine g_aload_n 1 (gd rfl) rfl rfl ?_
        refine g_getI 4 (gd rfl) rfl rfl rfl (fun z8x1 e8x1 => ?_)
        have q8x1 : w0_109_111 = z8x1 := (v0_109_111).trans e8x1.symm
        subst q8x1
        refine g_if_ne 7 11 (gd rfl) rfl rfl (fun c8x4 => ?_) (fun c8x4 => ?_)
        · skip
          refine g_aload_n 12 (gd rfl) rfl rfl ?_
          refine g_getA (q2 := 190) 15 (gd rfl) rfl rfl rfl rfl ?_
          refine g_aload_n 16 (gd rfl) rfl rfl ?_
          refine g_getI 19 (gd rfl) rfl rfl rfl (fun z8x16 e8x16 => ?_)
          have q8x16 : w0_109_111 = z8x16 := (v0_109_111).trans e8x16.symm
          subst q8x16
          refine g_iconst 1 20 (gd rfl) rfl rfl ?_
          refine g_isub 21 (gd rfl) rfl (fun z8x20 e8x20 => ?_)
          have i8x20 := in_sub 0 199 e8x20 i4 (in_c 1 rfl) rfl rfl
          refine g_iaload 22 (gd rfl) rfl (n := 200) rfl (in_ix i8x20 rfl) (fun z8x21 e8x21 => ?_)
          refine g_ireturn (gd rfl) rfl rfl (hp8 _ _ ?_)
          show GG _ _ _ _ _ _ _ _ [.int z8x21] _ _ _
          refine g_calls (As := [.int z8x21]) (r := []) 14 (gd rfl) rfl rfl rfl rfl rfl (Nat.le_of_ble_eq_true rfl) (mc := 0) (ms := 0) (Nat.zero_le _) (Nat.zero_le _) (P := fun v u => _) ?_ (fun v u h => h)
          intro po11 xx11 hp11 hx11
          refine g_enter2 (k := 398) (N := 300) (by first | exact dq1 hd rfl | exact dq0 hd rfl | exact dq2 hd rfl | exact dq3 hd rfl | omega) rfl (Nat.le_of_ble_eq_true rfl) ?_
          refine g_iload_n 1 (gd rfl) rfl rfl ?_
          refine g_bipush 42 3 (gd rfl) rfl rfl ?_
          refine g_cmp_ne 6 10 (gd rfl) rfl rfl (fun c11x3 => ?_) (fun c11x3 => ?_)
          · skip
            refine g_iload_n 11 (gd rfl) rfl rfl ?_
            refine g_bipush 43 13 (gd rfl) rfl rfl ?_
            refine g_cmp_eq 16 22 (gd rfl) rfl rfl (fun c11x13 => ?_) (fun c11x13 => ?_)
            · skip
              have i11x13 := r_eq1 43 43 c11x13 (i_rng z8x21) (in_c 43 rfl) rfl
              refine g_iconst 2 23 (gd rfl) rfl rfl ?_
              refine g_goto 43 (gd rfl) rfl ?_
              refine g_ireturn (gd rfl) rfl rfl (hp11 _ _ ?_)
              show GG _ _ _ _ _ _ _ _ [.int (Int32.ofInt 2)] _ _ _
              refine g_iload_n 15 (gd rfl) rfl rfl ?_
              refine g_cmp_lt 18 34 (gd rfl) rfl rfl (fun c15 => ?_) (fun c15 => ?_)
              · skip
                have i15 := r_lt2 3 3 c15 (in_c 2 rfl) h1 rfl
                have n34 : PR s sc0 1 1 := by exact g0_0
                have n34a : (w0_109_109).toInt + (w0_109_111).toInt = (u_109_109).toInt + (u_109_111).toInt := by first | exact n0_0 | (have a0 := in_u i15; have a1 := in_u i4; have a2 := in_u ((inv_F hIc0 0 400 rfl v0_109_109)); have a3 := in_u i8x20; have a4 := t_sub e8x20 i4 (in_c 1 rfl) rfl; have a5 := in_u ((in_c 1 rfl)); omega)
                have n34b : (sc0.2.2.1 109 109).toInt + (sc0.2.2.1 109 111).toInt = (s.2.2.1 109 109).toInt + (s.2.2.1 109 111).toInt := by have b0 : w0_109_109 = sc0.2.2.1 109 109 := v0_109_109; have b1 : w0_109_111 = sc0.2.2.1 109 111 := v0_109_111; first | (rw [← b0, ← b1, ← e_109_109, ← e_109_111]; exact n34a) | (rw [← b0, ← b1]; exact n34a)
                exact g_return (gd rfl) rfl (hP _ _ ⟨sc0, hIc0, hFc0, n34b, rfl, rfl, n34⟩)
              · skip
                have i15 := r_le1 1 2 c15 h1 (in_c 2 rfl) rfl
                refine g_aload_n 19 (gd rfl) rfl rfl ?_
                refine g_aload_n 20 (gd rfl) rfl rfl ?_
                refine g_callv (X := _) (As := []) (r := [.ref (A 109)]) (b := A 109) (q := 109) 23 (gd rfl) rfl rfl rfl rfl rfl (ww_o rfl) (Nat.le_of_ble_eq_true rfl) (mc := 0) (ms := 0) (Nat.zero_le _) (Nat.zero_le _) (P := fun v u => _) ?_ (fun e u h => h) (fun v u h => h)
                intro po20 xx20 hp20 hx20
                refine g_enter2 (k := 395) (N := 300) (by first | exact dq1 hd rfl | exact dq0 hd rfl | exact dq2 hd rfl | exact dq3 hd rfl | omega) rfl (Nat.le_of_ble_eq_true rfl) ?_
                refine g_aload_n 1 (gd rfl) rfl rfl ?_
                refine g_getI 4 (gd rfl) rfl rfl rfl (fun z20x1 e20x1 => ?_)
                have q20x1 : w0_109_111 = z20x1 := (v0_109_111).trans e20x1.symm
                subst q20x1
                refine g_if_ne 7 11 (gd rfl) rfl rfl (fun c20x4 => ?_) (fun c20x4 => ?_)
                · skip
                  refine g_aload_n 12 (gd rfl) rfl rfl ?_
                  refine g_getA (q2 := 190) 15 (gd rfl) rfl rfl rfl rfl ?_
                  refine g_aload_n 16 (gd rfl) rfl rfl ?_
                  refine g_getI 19 (gd rfl) rfl rfl rfl (fun z20x16 e20x16 => ?_)
                  have q20x16 : w0_109_111 = z20x16 := (v0_109_111).trans e20x16.symm
                  subst q20x16
                  refine g_iconst 1 20 (gd rfl) rfl rfl ?_
                  refine g_isub 21 (gd rfl) rfl (fun z20x20 e20x20 => ?_)
                  have i20x20 := in_sub 0 199 e20x20 i4 (in_c 1 rfl) rfl rfl
                  refine g_iaload 22 (gd rfl) rfl (n := 200) rfl (in_ix i20x20 rfl) (fun z20x21 e20x21 => ?_)
                  refine g_ireturn (gd rfl) rfl rfl (hp20 _ _ ?_)
                  show GG _ _ _ _ _ _ _ _ [.int z20x21, .ref (A 109)] _ _ _
                  refine g_iconst 0 24 (gd rfl) rfl rfl ?_
                  have n24 : (w0_109_109).toInt ≤ 399 := by have a0 := in_u i15; have a1 := in_u i4; have a2 := in_u ((inv_F hIc0 0 400 rfl v0_109_109)); have a3 := in_u i20x20; have a4 := t_sub e20x20 i4 (in_c 1 rfl) rfl; have a5 := in_u ((in_c 1 rfl)); have a6 := in_u i8x20; have a7 := t_sub e8x20 i4 (in_c 1 rfl) rfl; omega
                  refine g_callv (X := _) (As := [.int z20x21, .int (Int32.ofInt 0)]) (r := []) (b := A 109) (q := 109) 27 (gd rfl) rfl rfl rfl rfl rfl (ww_o rfl) (Nat.le_of_ble_eq_true rfl) (Nat.zero_le _) (Nat.zero_le _) (k_393 (by first | exact dq1 hd rfl | exact dq0 hd rfl | exact dq2 hd rfl | exact dq3 hd rfl | omega) hIc0 v0_109_109 n24) (fun e u h => h) (fun v u h => ?_)
                  obtain ⟨s24, hI24, hF24, n24a, rfl, rfl, p24, p24a⟩ := h
                  obtain ⟨z24a, e24⟩ : ∃ w, w = s24.2.2.1 109 109 := ⟨_, rfl⟩
                  have i24a := inv_F hI24 0 400 rfl e24
                  rw [← (show w0_109_109 = sc0.2.2.1 109 109 from v0_109_109)] at n24a
                  rw [← (show z24a = s24.2.2.1 109 109 from e24)] at n24a
                  show GG _ _ _ _ _ _ _ _ [] _ _ _
                  refine g_aload_n 28 (gd rfl) rfl rfl ?_
                  have v28 : w0_109_111 = s24.2.2.1 109 111 := fr_F (v0_109_111) hF24 rfl
                  have n28 : 1 ≤ (w0_109_111).toInt := by have a0 := in_u i15; have a1 := in_u i4; have a2 := in_u ((inv_F hIc0 0 400 rfl v0_109_109)); have a3 := in_u i24a; have a4 := in_u i20x20; have a5 := t_sub e20x20 i4 (in_c 1 rfl) rfl; have a6 := in_u ((in_c 1 rfl)); have a7 := in_u i8x20; have a8 := t_sub e8x20 i4 (in_c 1 rfl) rfl; omega
                  refine g_callv (X := _) (As := []) (r := []) (b := A 109) (q := 109) 31 (gd rfl) rfl rfl rfl rfl rfl (ww_o rfl) (Nat.le_of_ble_eq_true rfl) (Nat.zero_le _) (Nat.zero_le _) (k_397 (by first | exact dq1 hd rfl | exact dq0 hd rfl | exact dq2 hd rfl | exact dq3 hd rfl | omega) hI24 v28 n28) (fun e u h => h) (fun v u h => ?_)
                  obtain ⟨s28, hI28, hF28, n28a, rfl, rfl⟩ := h
                  obtain ⟨z28a, e28⟩ : ∃ w, w = s28.2.2.1 109 111 := ⟨_, rfl⟩
                  have i28a := inv_F hI28 0 200 rfl e28
                  rw [← (show w0_109_111 = s24.2.2.1 109 111 from fr_F (v0_109_111) hF24 rfl)] at n28a
                  rw [← (show z28a = s28.2.2.1 109 111 from e28)] at n28a
                  show GG _ _ _ _ _ _ _ _ [] _ _ _
                  refine g_goto 0 (gd rfl) rfl ?_
                  have v0 : z24a = s28.2.2.1 109 109 := fr_F (e24) hF28 rfl
                  have n0 : (z24a).toInt + (z28a).toInt = (u_109_109).toInt + (u_109_111).toInt := by have a0 := in_u i15; have a1 := in_u i4; have a2 := in_u ((inv_F hIc0 0 400 rfl v0_109_109)); have a3 := in_u i28a; have a4 := in_u i24a; have a5 := in_u i20x20; have a6 := t_sub e20x20 i4 (in_c 1 rfl) rfl; have a7 := in_u ((in_c 1 rfl)); have a8 := in_u i8x20; have a9 := t_sub e8x20 i4 (in_c 1 rfl) rfl; omega
                  have n0a : PR s s28 1 1 := by first | exact pr_rf | (have hz : z20x21 = z8x21 := (by rw [e20x21, e8x21, e20x20, e8x20]); exact pr_tr g0_0 (pr_set (n := (sc0.2.2.1 109 109).toNatClampNeg) (x := z20x21) (v := Int32.ofInt 0) (b := z20x20) ((hF28.1 187 rfl).trans p24) ((hF28.1 188 rfl).trans p24a) rfl (inv_F hIc0 0 400 rfl rfl).1 (by rw [hF28.2.2.1 109 109 rfl, ← e24, ← v0_109_109]; exact n24a) ((hF28.2.2.1 109 23 rfl).trans (hF24.2.2.1 109 23 rfl)) ((hF28.1 190 rfl).trans (hF24.1 190 rfl)) (by rw [← e28]; have a0 := in_u i15; have a1 := in_u i4; have a2 := in_u ((inv_F hIc0 0 400 rfl v0_109_109)); have a3 := in_u i28a; have a4 := in_u i24a; have a5 := in_u i20x20; have a6 := t_sub e20x20 i4 (in_c 1 rfl) rfl; have a7 := in_u ((in_c 1 rfl)); have a8 := in_u i8x20; have a9 := t_sub e8x20 i4 (in_c 1 rfl) rfl; omega) (by rw [← v0_109_111]; have a0 := in_u i15; have a1 := in_u i4; have a2 := in_u ((inv_F hIc0 0 400 rfl v0_109_109)); have a3 := in_u i28a; have a4 := in_u i24a; have a5 := in_u i20x20; have a6 := t_sub e20x20 i4 (in_c 1 rfl) rfl; have a7 := in_u ((in_c 1 rfl)); have a8 := in_u i8x20; have a9 := t_sub e8x20 i4 (in_c 1 rfl) rfl; omega) i20x20.1 e20x21 (Or.inl (by rw [hz]; first | (have hi := i11x3; unfold In at hi; omega) | (have hi := i11x13; unfold In at hi; omega) | (have hi := i11x19; unfold In at hi; omega) | (have hi := i11x29; unfold In at hi; omega) | (have hi := i11x35; unfold In at hi; omega)))))
                  have m0 : (z28a).toInt < ((k0 : Nat) : Int) := by have a0 := in_u i15; have a1 := in_u i4; have a2 := in_u ((inv_F hIc0 0 400 rfl v0_109_109)); have a3 := in_u i28a; have a4 := in_u i24a; have a5 := in_u i20x20; have a6 := t_sub e20x20 i4 (in_c 1 rfl) rfl; have a7 := in_u ((in_c 1 rfl)); have a8 := in_u i8x20; have a9 := t_sub e8x20 i4 (in_c 1 rfl) rfl; omega
                  exact gg_w (by first | exact Nat.le_add_right _ _ | exact gw2 | exact gw3 | exact gwe rfl | exact gwf rfl | exact gwg rfl | exact gwh rfl | omega) (gg_f (gf_cons rfl (gf_cons rfl gf_nil)) (ih0  s28 z24a z28a hI28 (fr_tr rfl (fr_tr rfl hFc0 hF24) hF28) v0 e28 n0 n0a m0))
                · skip
                  exact zn_eq c20x4 i4 rfl
            · skip
              refine g_iload_n 17 (gd rfl) rfl rfl ?_
              refine g_bipush 45 19 (gd rfl) rfl rfl ?_
              refine g_cmp_ne 22 26 (gd rfl) rfl rfl (fun c11x19 => ?_) (fun c11x19 => ?_)
              · skip
                refine g_iload_n 27 (gd rfl) rfl rfl ?_
                refine g_bipush 60 29 (gd rfl) rfl rfl ?_
                refine g_cmp_eq 32 38 (gd rfl) rfl rfl (fun c11x29 => ?_) (fun c11x29 => ?_)
                · skip
                  have i11x29 := r_eq1 60 60 c11x29 (i_rng z8x21) (in_c 60 rfl) rfl
                  refine g_iconst 1 39 (gd rfl) rfl rfl ?_
                  refine g_goto 43 (gd rfl) rfl ?_
                  refine g_ireturn (gd rfl) rfl rfl (hp11 _ _ ?_)
                  show GG _ _ _ _ _ _ _ _ [.int (Int32.ofInt 1)] _ _ _
                  refine g_iload_n 15 (gd rfl) rfl rfl ?_
                  refine g_cmp_lt 18 34 (gd rfl) rfl rfl (fun c15 => ?_) (fun c15 => ?_)
                  · skip
                    have i15 := r_lt2 2 3 c15 (in_c 1 rfl) h1 rfl
                    have n34 : PR s sc0 1 1 := by exact g0_0
                    have n34a : (w0_109_109).toInt + (w0_109_111).toInt = (u_109_109).toInt + (u_109_111).toInt := by first | exact n0_0 | (have a0 := in_u i15; have a1 := in_u i4; have a2 := in_u ((inv_F hIc0 0 400 rfl v0_109_109)); have a3 := in_u i8x20; have a4 := t_sub e8x20 i4 (in_c 1 rfl) rfl; have a5 := in_u ((in_c 1 rfl)); omega)
                    have n34b : (sc0.2.2.1 109 109).toInt + (sc0.2.2.1 109 111).toInt = (s.2.2.1 109 109).toInt + (s.2.2.1 109 111).toInt := by have b0 : w0_109_109 = sc0.2.2.1 109 109 := v0_109_109; have b1 : w0_109_111 = sc0.2.2.1 109 111 := v0_109_111; first | (rw [← b0, ← b1, ← e_109_109, ← e_109_111]; exact n34a) | (rw [← b0, ← b1]; exact n34a)
                    exact g_return (gd rfl) rfl (hP _ _ ⟨sc0, hIc0, hFc0, n34b, rfl, rfl, n34⟩)
                  · skip
                    have i15 := r_le1 1 1 c15 h1 (in_c 1 rfl) rfl
                    refine g_aload_n 19 (gd rfl) rfl rfl ?_
                    refine g_aload_n 20 (gd rfl) rfl rfl ?_
                    refine g_callv (X := _) (As := []) (r := [.ref (A 109)]) (b := A 109) (q := 109) 23 (gd rfl) rfl rfl rfl rfl rfl (ww_o rfl) (Nat.le_of_ble_eq_true rfl) (mc := 0) (ms := 0) (Nat.zero_le _) (Nat.zero_le _) (P := fun v u => _) ?_ (fun e u h => h) (fun v u h => h)
                    intro po20 xx20 hp20 hx20
                    refine g_enter2 (k := 395) (N := 300) (by first | exact dq1 hd rfl | exact dq0 hd rfl | exact dq2 hd rfl | exact dq3 hd rfl | omega) rfl (Nat.le_of_ble_eq_true rfl) ?_
                    refine g_aload_n 1 (gd rfl) rfl rfl ?_
                    refine g_getI 4 (gd rfl) rfl rfl rfl (fun z20x1 e20x1 => ?_)
                    have q20x1 : w0_109_111 = z20x1 := (v0_109_111).trans e20x1.symm
                    subst q20x1
                    refine g_if_ne 7 11 (gd rfl) rfl rfl (fun c20x4 => ?_) (fun c20x4 => ?_)
                    · skip
                      refine g_aload_n 12 (gd rfl) rfl rfl ?_
                      refine g_getA (q2 := 190) 15 (gd rfl) rfl rfl rfl rfl ?_
                      refine g_aload_n 16 (gd rfl) rfl rfl ?_
                      refine g_getI 19 (gd rfl) rfl rfl rfl (fun z20x16 e20x16 => ?_)
                      have q20x16 : w0_109_111 = z20x16 := (v0_109_111).trans e20x16.symm
                      subst q20x16
                      refine g_iconst 1 20 (gd rfl) rfl rfl ?_
                      refine g_isub 21 (gd rfl) rfl (fun z20x20 e20x20 => ?_)
                      have i20x20 := in_sub 0 199 e20x20 i4 (in_c 1 rfl) rfl rfl
                      refine g_iaload 22 (gd rfl) rfl (n := 200) rfl (in_ix i20x20 rfl) (fun z20x21 e20x21 => ?_)
                      refine g_ireturn (gd rfl) rfl rfl (hp20 _ _ ?_)
                      show GG _ _ _ _ _ _ _ _ [.int z20x21, .ref (A 109)] _ _ _
                      refine g_iconst 0 24 (gd rfl) rfl rfl ?_
                      have n24 : (w0_109_109).toInt ≤ 399 := by have a0 := in_u i15; have a1 := in_u i4; have a2 := in_u ((inv_F hIc0 0 400 rfl v0_109_109)); have a3 := in_u i20x20; have a4 := t_sub e20x20 i4 (in_c 1 rfl) rfl; have a5 := in_u ((in_c 1 rfl)); have a6 := in_u i8x20; have a7 := t_sub e8x20 i4 (in_c 1 rfl) rfl; omega
                      refine g_callv (X := _) (As := [.int z20x21, .int (Int32.ofInt 0)]) (r := []) (b := A 109) (q := 109) 27 (gd rfl) rfl rfl rfl rfl rfl (ww_o rfl) (Nat.le_of_ble_eq_true rfl) (Nat.zero_le _) (Nat.zero_le _) (k_393 (by first | exact dq1 hd rfl | exact dq0 hd rfl | exact dq2 hd rfl | exact dq3 hd rfl | omega) hIc0 v0_109_109 n24) (fun e u h => h) (fun v u h => ?_)
                      obtain ⟨s24, hI24, hF24, n24a, rfl, rfl, p24, p24a⟩ := h
                      obtain ⟨z24a, e24⟩ : ∃ w, w = s24.2.2.1 109 109 := ⟨_, rfl⟩
                      have i24a := inv_F hI24 0 400 rfl e24
                      rw [← (show w0_109_109 = sc0.2.2.1 109 109 from v0_109_109)] at n24a
                      rw [← (show z24a = s24.2.2.1 109 109 from e24)] at n24a
                      show GG _ _ _ _ _ _ _ _ [] _ _ _
                      refine g_aload_n 28 (gd rfl) rfl rfl ?_
                      have v28 : w0_109_111 = s24.2.2.1 109 111 := fr_F (v0_109_111) hF24 rfl
                      have n28 : 1 ≤ (w0_109_111).toInt := by have a0 := in_u i15; have a1 := in_u i4; have a2 := in_u ((inv_F hIc0 0 400 rfl v0_109_109)); have a3 := in_u i24a; have a4 := in_u i20x20; have a5 := t_sub e20x20 i4 (in_c 1 rfl) rfl; have a6 := in_u ((in_c 1 rfl)); have a7 := in_u i8x20; have a8 := t_sub e8x20 i4 (in_c 1 rfl) rfl; omega
                      refine g_callv (X := _) (As := []) (r := []) (b := A 109) (q := 109) 31 (gd rfl) rfl rfl rfl rfl rfl (ww_o rfl) (Nat.le_of_ble_eq_true rfl) (Nat.zero_le _) (Nat.zero_le _) (k_397 (by first | exact dq1 hd rfl | exact dq0 hd rfl | exact dq2 hd rfl | exact dq3 hd rfl | omega) hI24 v28 n28) (fun e u h => h) (fun v u h => ?_)
                      obtain ⟨s28, hI28, hF28, n28a, rfl, rfl⟩ := h
                      obtain ⟨z28a, e28⟩ : ∃ w, w = s28.2.2.1 109 111 := ⟨_, rfl⟩
                      have i28a := inv_F hI28 0 200 rfl e28
                      rw [← (show w0_109_111 = s24.2.2.1 109 111 from fr_F (v0_109_111) hF24 rfl)] at n28a
                      rw [← (show z28a = s28.2.2.1 109 111 from e28)] at n28a
                      show GG _ _ _ _ _ _ _ _ [] _ _ _
                      refine g_goto 0 (gd rfl) rfl ?_
                      have v0 : z24a = s28.2.2.1 109 109 := fr_F (e24) hF28 rfl
                      have n0 : (z24a).toInt + (z28a).toInt = (u_109_109).toInt + (u_109_111).toInt := by have a0 := in_u i15; have a1 := in_u i4; have a2 := in_u ((inv_F hIc0 0 400 rfl v0_109_109)); have a3 := in_u i28a; have a4 := in_u i24a; have a5 := in_u i20x20; have a6 := t_sub e20x20 i4 (in_c 1 rfl) rfl; have a7 := in_u ((in_c 1 rfl)); have a8 := in_u i8x20; have a9 := t_sub e8x20 i4 (in_c 1 rfl) rfl; omega
                      have n0a : PR s s28 1 1 := by first | exact pr_rf | (have hz : z20x21 = z8x21 := (by rw [e20x21, e8x21, e20x20, e8x20]); exact pr_tr g0_0 (pr_set (n := (sc0.2.2.1 109 109).toNatClampNeg) (x := z20x21) (v := Int32.ofInt 0) (b := z20x20) ((hF28.1 187 rfl).trans p24) ((hF28.1 188 rfl).trans p24a) rfl (inv_F hIc0 0 400 rfl rfl).1 (by rw [hF28.2.2.1 109 109 rfl, ← e24, ← v0_109_109]; exact n24a) ((hF28.2.2.1 109 23 rfl).trans (hF24.2.2.1 109 23 rfl)) ((hF28.1 190 rfl).trans (hF24.1 190 rfl)) (by rw [← e28]; have a0 := in_u i15; have a1 := in_u i4; have a2 := in_u ((inv_F hIc0 0 400 rfl v0_109_109)); have a3 := in_u i28a; have a4 := in_u i24a; have a5 := in_u i20x20; have a6 := t_sub e20x20 i4 (in_c 1 rfl) rfl; have a7 := in_u ((in_c 1 rfl)); have a8 := in_u i8x20; have a9 := t_sub e8x20 i4 (in_c 1 rfl) rfl; omega) (by rw [← v0_109_111]; have a0 := in_u i15; have a1 := in_u i4; have a2 := in_u ((inv_F hIc0 0 400 rfl v0_109_109)); have a3 := in_u i28a; have a4 := in_u i24a; have a5 := in_u i20x20; have a6 := t_sub e20x20 i4 (in_c 1 rfl) rfl; have a7 := in_u ((in_c 1 rfl)); have a8 := in_u i8x20; have a9 := t_sub e8x20 i4 (in_c 1 rfl) rfl; omega) i20x20.1 e20x21 (Or.inl (by rw [hz]; first | (have hi := i11x3; unfold In at hi; omega) | (have hi := i11x13; unfold In at hi; omega) | (have hi := i11x19; unfold In at hi; omega) | (have hi := i11x29; unfold In at hi; omega) | (have hi := i11x35; unfold In at hi; omega)))))
                      have m0 : (z28a).toInt < ((k0 : Nat) : Int) := by have a0 := in_u i15; have a1 := in_u i4; have a2 := in_u ((inv_F hIc0 0 400 rfl v0_109_109)); have a3 := in_u i28a; have a4 := in_u i24a; have a5 := in_u i20x20; have a6 := t_sub e20x20 i4 (in_c 1 rfl) rfl; have a7 := in_u ((in_c 1 rfl)); have a8 := in_u i8x20; have a9 := t_sub e8x20 i4 (in_c 1 rfl) rfl; omega
                      exact gg_w (by first | exact Nat.le_add_right _ _ | exact gw2 | exact gw3 | exact gwe rfl | exact gwf rfl | exact gwg rfl | exact gwh rfl | omega) (gg_f (gf_cons rfl (gf_cons rfl gf_nil)) (ih0  s28 z24a z28a hI28 (fr_tr rfl (fr_tr rfl hFc0 hF24) hF28) v0 e28 n0 n0a m0))
                    · skip
                      exact zn_eq c20x4 i4 rfl
                · skip
                  refine g_iload_n 33 (gd rfl) rfl rfl ?_
                  refine g_bipush 61 35 (gd rfl) rfl rfl ?_
                  refine g_cmp_ne 38 42 (gd rfl) rfl rfl (fun c11x35 => ?_) (fun c11x35 => ?_)
                  · skip
                    refine g_iconst 0 43 (gd rfl) rfl rfl ?_
                    refine g_ireturn (gd rfl) rfl rfl (hp11 _ _ ?_)
                    show GG _ _ _ _ _ _ _ _ [.int (Int32.ofInt 0)] _ _ _
                    refine g_iload_n 15 (gd rfl) rfl rfl ?_
                    refine g_cmp_lt 18 34 (gd rfl) rfl rfl (fun c15 => ?_) (fun c15 => ?_)
                    · skip
                      have n34 : PR s sc0 1 1 := by exact g0_0
                      have n34a : (w0_109_109).toInt + (w0_109_111).toInt = (u_109_109).toInt + (u_109_111).toInt := by first | exact n0_0 | (have a0 := in_u h1; have a1 := in_u i4; have a2 := in_u ((inv_F hIc0 0 400 rfl v0_109_109)); have a3 := in_u i8x20; have a4 := t_sub e8x20 i4 (in_c 1 rfl) rfl; have a5 := in_u ((in_c 1 rfl)); omega)
                      have n34b : (sc0.2.2.1 109 109).toInt + (sc0.2.2.1 109 111).toInt = (s.2.2.1 109 109).toInt + (s.2.2.1 109 111).toInt := by have b0 : w0_109_109 = sc0.2.2.1 109 109 := v0_109_109; have b1 : w0_109_111 = sc0.2.2.1 109 111 := v0_109_111; first | (rw [← b0, ← b1, ← e_109_109, ← e_109_111]; exact n34a) | (rw [← b0, ← b1]; exact n34a)
                      exact g_return (gd rfl) rfl (hP _ _ ⟨sc0, hIc0, hFc0, n34b, rfl, rfl, n34⟩)
                    · skip
                      exact n_le c15 h1 (in_c 0 rfl) rfl
                  · skip
                    have i11x35 := r_eq1 61 61 c11x35 (i_rng z8x21) (in_c 61 rfl) rfl
                    refine g_iconst 1 39 (gd rfl) rfl rfl ?_
                    refine g_goto 43 (gd rfl) rfl ?_
                    refine g_ireturn (gd rfl) rfl rfl (hp11 _ _ ?_)
                    show GG _ _ _ _ _ _ _ _ [.int (Int32.ofInt 1)] _ _ _
                    refine g_iload_n 15 (gd rfl) rfl rfl ?_
                    refine g_cmp_lt 18 34 (gd rfl) rfl rfl (fun c15 => ?_) (fun c15 => ?_)
                    · skip
                      have i15 := r_lt2 2 3 c15 (in_c 1 rfl) h1 rfl
                      have n34 : PR s sc0 1 1 := by exact g0_0
                      have n34a : (w0_109_109).toInt + (w0_109_111).toInt = (u_109_109).toInt + (u_109_111).toInt := by first | exact n0_0 | (have a0 := in_u i15; have a1 := in_u i4; have a2 := in_u ((inv_F hIc0 0 400 rfl v0_109_109)); have a3 := in_u i8x20; have a4 := t_sub e8x20 i4 (in_c 1 rfl) rfl; have a5 := in_u ((in_c 1 rfl)); omega)
                      have n34b : (sc0.2.2.1 109 109).toInt + (sc0.2.2.1 109 111).toInt = (s.2.2.1 109 109).toInt + (s.2.2.1 109 111).toInt := by have b0 : w0_109_109 = sc0.2.2.1 109 109 := v0_109_109; have b1 : w0_109_111 = sc0.2.2.1 109 111 := v0_109_111; first | (rw [← b0, ← b1, ← e_109_109, ← e_109_111]; exact n34a) | (rw [← b0, ← b1]; exact n34a)
                      exact g_return (gd rfl) rfl (hP _ _ ⟨sc0, hIc0, hFc0, n34b, rfl, rfl, n34⟩)
                    · skip
                      have i15 := r_le1 1 1 c15 h1 (in_c 1 rfl) rfl
                      refine g_aload_n 19 (gd rfl) rfl rfl ?_
                      refine g_aload_n 20 (gd rfl) rfl rfl ?_
                      refine g_callv (X := _) (As := []) (r := [.ref (A 109)]) (b := A 109) (q := 109) 23 (gd rfl) rfl rfl rfl rfl rfl (ww_o rfl) (Nat.le_of_ble_eq_true rfl) (mc := 0) (ms := 0) (Nat.zero_le _) (Nat.zero_le _) (P := fun v u => _) ?_ (fun e u h => h) (fun v u h => h)
                      intro po20 xx20 hp20 hx20
                      refine g_enter2 (k := 395) (N := 300) (by first | exact dq1 hd rfl | exact dq0 hd rfl | exact dq2 hd rfl | exact dq3 hd rfl | omega) rfl (Nat.le_of_ble_eq_true rfl) ?_
                      refine g_aload_n 1 (gd rfl) rfl rfl ?_
                      refine g_getI 4 (gd rfl) rfl rfl rfl (fun z20x1 e20x1 => ?_)
                      have q20x1 : w0_109_111 = z20x1 := (v0_109_111).trans e20x1.symm
                      subst q20x1
                      refine g_if_ne 7 11 (gd rfl) rfl rfl (fun c20x4 => ?_) (fun c20x4 => ?_)
                      · skip
                        refine g_aload_n 12 (gd rfl) rfl rfl ?_
                        refine g_getA (q2 := 190) 15 (gd rfl) rfl rfl rfl rfl ?_
                        refine g_aload_n 16 (gd rfl) rfl rfl ?_
                        refine g_getI 19 (gd rfl) rfl rfl rfl (fun z20x16 e20x16 => ?_)
                        have q20x16 : w0_109_111 = z20x16 := (v0_109_111).trans e20x16.symm
                        subst q20x16
                        refine g_iconst 1 20 (gd rfl) rfl rfl ?_
                        refine g_isub 21 (gd rfl) rfl (fun z20x20 e20x20 => ?_)
                        have i20x20 := in_sub 0 199 e20x20 i4 (in_c 1 rfl) rfl rfl
                        refine g_iaload 22 (gd rfl) rfl (n := 200) rfl (in_ix i20x20 rfl) (fun z20x21 e20x21 => ?_)
                        refine g_ireturn (gd rfl) rfl rfl (hp20 _ _ ?_)
                        show GG _ _ _ _ _ _ _ _ [.int z20x21, .ref (A 109)] _ _ _
                        refine g_iconst 0 24 (gd rfl) rfl rfl ?_
                        have n24 : (w0_109_109).toInt ≤ 399 := by have a0 := in_u i15; have a1 := in_u i4; have a2 := in_u ((inv_F hIc0 0 400 rfl v0_109_109)); have a3 := in_u i20x20; have a4 := t_sub e20x20 i4 (in_c 1 rfl) rfl; have a5 := in_u ((in_c 1 rfl)); have a6 := in_u i8x20; have a7 := t_sub e8x20 i4 (in_c 1 rfl) rfl; omega
                        refine g_callv (X := _) (As := [.int z20x21, .int (Int32.ofInt 0)]) (r := []) (b := A 109) (q := 109) 27 (gd rfl) rfl rfl rfl rfl rfl (ww_o rfl) (Nat.le_of_ble_eq_true rfl) (Nat.zero_le _) (Nat.zero_le _) (k_393 (by first | exact dq1 hd rfl | exact dq0 hd rfl | exact dq2 hd rfl | exact dq3 hd rfl | omega) hIc0 v0_109_109 n24) (fun e u h => h) (fun v u h => ?_)
                        obtain ⟨s24, hI24, hF24, n24a, rfl, rfl, p24, p24a⟩ := h
                        obtain ⟨z24a, e24⟩ : ∃ w, w = s24.2.2.1 109 109 := ⟨_, rfl⟩
                        have i24a := inv_F hI24 0 400 rfl e24
                        rw [← (show w0_109_109 = sc0.2.2.1 109 109 from v0_109_109)] at n24a
                        rw [← (show z24a = s24.2.2.1 109 109 from e24)] at n24a
                        show GG _ _ _ _ _ _ _ _ [] _ _ _
                        refine g_aload_n 28 (gd rfl) rfl rfl ?_
                        have v28 : w0_109_111 = s24.2.2.1 109 111 := fr_F (v0_109_111) hF24 rfl
                        have n28 : 1 ≤ (w0_109_111).toInt := by have a0 := in_u i15; have a1 := in_u i4; have a2 := in_u ((inv_F hIc0 0 400 rfl v0_109_109)); have a3 := in_u i24a; have a4 := in_u i20x20; have a5 := t_sub e20x20 i4 (in_c 1 rfl) rfl; have a6 := in_u ((in_c 1 rfl)); have a7 := in_u i8x20; have a8 := t_sub e8x20 i4 (in_c 1 rfl) rfl; omega
                        refine g_callv (X := _) (As := []) (r := []) (b := A 109) (q := 109) 31 (gd rfl) rfl rfl rfl rfl rfl (ww_o rfl) (Nat.le_of_ble_eq_true rfl) (Nat.zero_le _) (Nat.zero_le _) (k_397 (by first | exact dq1 hd rfl | exact dq0 hd rfl | exact dq2 hd rfl | exact dq3 hd rfl | omega) hI24 v28 n28) (fun e u h => h) (fun v u h => ?_)
                        obtain ⟨s28, hI28, hF28, n28a, rfl, rfl⟩ := h
                        obtain ⟨z28a, e28⟩ : ∃ w, w = s28.2.2.1 109 111 := ⟨_, rfl⟩
                        have i28a := inv_F hI28 0 200 rfl e28
                        rw [← (show w0_109_111 = s24.2.2.1 109 111 from fr_F (v0_109_111) hF24 rfl)] at n28a
                        rw [← (show z28a = s28.2.2.1 109 111 from e28)] at n28a
                        show GG _ _ _ _ _ _ _ _ [] _ _ _
                        refine g_goto 0 (gd rfl) rfl ?_
                        have v0 : z24a = s28.2.2.1 109 109 := fr_F (e24) hF28 rfl
                        have n0 : (z24a).toInt + (z28a).toInt = (u_109_109).toInt + (u_109_111).toInt := by have a0 := in_u i15; have a1 := in_u i4; have a2 := in_u ((inv_F hIc0 0 400 rfl v0_109_109)); have a3 := in_u i28a; have a4 := in_u i24a; have a5 := in_u i20x20; have a6 := t_sub e20x20 i4 (in_c 1 rfl) rfl; have a7 := in_u ((in_c 1 rfl)); have a8 := in_u i8x20; have a9 := t_sub e8x20 i4 (in_c 1 rfl) rfl; omega
                        have n0a : PR s s28 1 1 := by first | exact pr_rf | (have hz : z20x21 = z8x21 := (by rw [e20x21, e8x21, e20x20, e8x20]); exact pr_tr g0_0 (pr_set (n := (sc0.2.2.1 109 109).toNatClampNeg) (x := z20x21) (v := Int32.ofInt 0) (b := z20x20) ((hF28.1 187 rfl).trans p24) ((hF28.1 188 rfl).trans p24a) rfl (inv_F hIc0 0 400 rfl rfl).1 (by rw [hF28.2.2.1 109 109 rfl, ← e24, ← v0_109_109]; exact n24a) ((hF28.2.2.1 109 23 rfl).trans (hF24.2.2.1 109 23 rfl)) ((hF28.1 190 rfl).trans (hF24.1 190 rfl)) (by rw [← e28]; have a0 := in_u i15; have a1 := in_u i4; have a2 := in_u ((inv_F hIc0 0 400 rfl v0_109_109)); have a3 := in_u i28a; have a4 := in_u i24a; have a5 := in_u i20x20; have a6 := t_sub e20x20 i4 (in_c 1 rfl) rfl; have a7 := in_u ((in_c 1 rfl)); have a8 := in_u i8x20; have a9 := t_sub e8x20 i4 (in_c 1 rfl) rfl; omega) (by rw [← v0_109_111]; have a0 := in_u i15; have a1 := in_u i4; have a2 := in_u ((inv_F hIc0 0 400 rfl v0_109_109)); have a3 := in_u i28a; have a4 := in_u i24a; have a5 := in_u i20x20; have a6 := t_sub e20x20 i4 (in_c 1 rfl) rfl; have a7 := in_u ((in_c 1 rfl)); have a8 := in_u i8x20; have a9 := t_sub e8x20 i4 (in_c 1 rfl) rfl; omega) i20x20.1 e20x21 (Or.inl (by rw [hz]; first | (have hi := i11x3; unfold In at hi; omega) | (have hi := i11x13; unfold In at hi; omega) | (have hi := i11x19; unfold In at hi; omega) | (have hi := i11x29; unfold In at hi; omega) | (have hi := i11x35; unfold In at hi; omega)))))
                        have m0 : (z28a).toInt < ((k0 : Nat) : Int) := by have a0 := in_u i15; have a1 := in_u i4; have a2 := in_u ((inv_F hIc0 0 400 rfl v0_109_109)); have a3 := in_u i28a; have a4 := in_u i24a; have a5 := in_u i20x20; have a6 := t_sub e20x20 i4 (in_c 1 rfl) rfl; have a7 := in_u ((in_c 1 rfl)); have a8 := in_u i8x20; have a9 := t_sub e8x20 i4 (in_c 1 rfl) rfl; omega
                        exact gg_w (by first | exact Nat.le_add_right _ _ | exact gw2 | exact gw3 | exact gwe rfl | exact gwf rfl | exact gwg rfl | exact gwh rfl | omega) (gg_f (gf_cons rfl (gf_cons rfl gf_nil)) (ih0  s28 z24a z28a hI28 (fr_tr rfl (fr_tr rfl hFc0 hF24) hF28) v0 e28 n0 n0a m0))
                      · skip
                        exact zn_eq c20x4 i4 rfl
              · skip
                have i11x19 := r_eq1 45 45 c11x19 (i_rng z8x21) (in_c 45 rfl) rfl
                refine g_iconst 2 23 (gd rfl) rfl rfl ?_
                refine g_goto 43 (gd rfl) rfl ?_
                refine g_ireturn (gd rfl) rfl rfl (hp11 _ _ ?_)
                show GG _ _ _ _ _ _ _ _ [.int (Int32.ofInt 2)] _ _ _
                refine g_iload_n 15 (gd rfl) rfl rfl ?_
                refine g_cmp_lt 18 34 (gd rfl) rfl rfl (fun c15 => ?_) (fun c15 => ?_)
                · skip
                  have i15 := r_lt2 3 3 c15 (in_c 2 rfl) h1 rfl
                  have n34 : PR s sc0 1 1 := by exact g0_0
                  have n34a : (w0_109_109).toInt + (w0_109_111).toInt = (u_109_109).toInt + (u_109_111).toInt := by first | exact n0_0 | (have a0 := in_u i15; have a1 := in_u i4; have a2 := in_u ((inv_F hIc0 0 400 rfl v0_109_109)); have a3 := in_u i8x20; have a4 := t_sub e8x20 i4 (in_c 1 rfl) rfl; have a5 := in_u ((in_c 1 rfl)); omega)
                  have n34b : (sc0.2.2.1 109 109).toInt + (sc0.2.2.1 109 111).toInt = (s.2.2.1 109 109).toInt + (s.2.2.1 109 111).toInt := by have b0 : w0_109_109 = sc0.2.2.1 109 109 := v0_109_109; have b1 : w0_109_111 = sc0.2.2.1 109 111 := v0_109_111; first | (rw [← b0, ← b1, ← e_109_109, ← e_109_111]; exact n34a) | (rw [← b0, ← b1]; exact n34a)
                  exact g_return (gd rfl) rfl (hP _ _ ⟨sc0, hIc0, hFc0, n34b, rfl, rfl, n34⟩)
                · skip
                  have i15 := r_le1 1 2 c15 h1 (in_c 2 rfl) rfl
                  refine g_aload_n 19 (gd rfl) rfl rfl ?_
                  refine g_aload_n 20 (gd rfl) rfl rfl ?_
                  refine g_callv (X := _) (As := []) (r := [.ref (A 109)]) (b := A 109) (q := 109) 23 (gd rfl) rfl rfl rfl rfl rfl (ww_o rfl) (Nat.le_of_ble_eq_true rfl) (mc := 0) (ms := 0) (Nat.zero_le _) (Nat.zero_le _) (P := fun v u => _) ?_ (fun e u h => h) (fun v u h => h)
                  intro po20 xx20 hp20 hx20
                  refine g_enter2 (k := 395) (N := 300) (by first | exact dq1 hd rfl | exact dq0 hd rfl | exact dq2 hd rfl | exact dq3 hd rfl | omega) rfl (Nat.le_of_ble_eq_true rfl) ?_
                  refine g_aload_n 1 (gd rfl) rfl rfl ?_
                  refine g_getI 4 (gd rfl) rfl rfl rfl (fun z20x1 e20x1 => ?_)
                  have q20x1 : w0_109_111 = z20x1 := (v0_109_111).trans e20x1.symm
                  subst q20x1
                  refine g_if_ne 7 11 (gd rfl) rfl rfl (fun c20x4 => ?_) (fun c20x4 => ?_)
                  · skip
                    refine g_aload_n 12 (gd rfl) rfl rfl ?_
                    refine g_getA (q2 := 190) 15 (gd rfl) rfl rfl rfl rfl ?_
                    refine g_aload_n 16 (gd rfl) rfl rfl ?_
                    refine g_getI 19 (gd rfl) rfl rfl rfl (fun z20x16 e20x16 => ?_)
                    have q20x16 : w0_109_111 = z20x16 := (v0_109_111).trans e20x16.symm
                    subst q20x16
                    refine g_iconst 1 20 (gd rfl) rfl rfl ?_
                    refine g_isub 21 (gd rfl) rfl (fun z20x20 e20x20 => ?_)
                    have i20x20 := in_sub 0 199 e20x20 i4 (in_c 1 rfl) rfl rfl
                    refine g_iaload 22 (gd rfl) rfl (n := 200) rfl (in_ix i20x20 rfl) (fun z20x21 e20x21 => ?_)
                    refine g_ireturn (gd rfl) rfl rfl (hp20 _ _ ?_)
                    show GG _ _ _ _ _ _ _ _ [.int z20x21, .ref (A 109)] _ _ _
                    refine g_iconst 0 24 (gd rfl) rfl rfl ?_
                    have n24 : (w0_109_109).toInt ≤ 399 := by have a0 := in_u i15; have a1 := in_u i4; have a2 := in_u ((inv_F hIc0 0 400 rfl v0_109_109)); have a3 := in_u i20x20; have a4 := t_sub e20x20 i4 (in_c 1 rfl) rfl; have a5 := in_u ((in_c 1 rfl)); have a6 := in_u i8x20; have a7 := t_sub e8x20 i4 (in_c 1 rfl) rfl; omega
                    refine g_callv (X := _) (As := [.int z20x21, .int (Int32.ofInt 0)]) (r := []) (b := A 109) (q := 109) 27 (gd rfl) rfl rfl rfl rfl rfl (ww_o rfl) (Nat.le_of_ble_eq_true rfl) (Nat.zero_le _) (Nat.zero_le _) (k_393 (by first | exact dq1 hd rfl | exact dq0 hd rfl | exact dq2 hd rfl | exact dq3 hd rfl | omega) hIc0 v0_109_109 n24) (fun e u h => h) (fun v u h => ?_)
                    obtain ⟨s24, hI24, hF24, n24a, rfl, rfl, p24, p24a⟩ := h
                    obtain ⟨z24a, e24⟩ : ∃ w, w = s24.2.2.1 109 109 := ⟨_, rfl⟩
                    have i24a := inv_F hI24 0 400 rfl e24
                    rw [← (show w0_109_109 = sc0.2.2.1 109 109 from v0_109_109)] at n24a
                    rw [← (show z24a = s24.2.2.1 109 109 from e24)] at n24a
                    show GG _ _ _ _ _ _ _ _ [] _ _ _
                    refine g_aload_n 28 (gd rfl) rfl rfl ?_
                    have v28 : w0_109_111 = s24.2.2.1 109 111 := fr_F (v0_109_111) hF24 rfl
                    have n28 : 1 ≤ (w0_109_111).toInt := by have a0 := in_u i15; have a1 := in_u i4; have a2 := in_u ((inv_F hIc0 0 400 rfl v0_109_109)); have a3 := in_u i24a; have a4 := in_u i20x20; have a5 := t_sub e20x20 i4 (in_c 1 rfl) rfl; have a6 := in_u ((in_c 1 rfl)); have a7 := in_u i8x20; have a8 := t_sub e8x20 i4 (in_c 1 rfl) rfl; omega
                    refine g_callv (X := _) (As := []) (r := []) (b := A 109) (q := 109) 31 (gd rfl) rfl rfl rfl rfl rfl (ww_o rfl) (Nat.le_of_ble_eq_true rfl) (Nat.zero_le _) (Nat.zero_le _) (k_397 (by first | exact dq1 hd rfl | exact dq0 hd rfl | exact dq2 hd rfl | exact dq3 hd rfl | omega) hI24 v28 n28) (fun e u h => h) (fun v u h => ?_)
                    obtain ⟨s28, hI28, hF28, n28a, rfl, rfl⟩ := h
                    obtain ⟨z28a, e28⟩ : ∃ w, w = s28.2.2.1 109 111 := ⟨_, rfl⟩
                    have i28a := inv_F hI28 0 200 rfl e28
                    rw [← (show w0_109_111 = s24.2.2.1 109 111 from fr_F (v0_109_111) hF24 rfl)] at n28a
                    rw [← (show z28a = s28.2.2.1 109 111 from e28)] at n28a
                    show GG _ _ _ _ _ _ _ _ [] _ _ _
                    refine g_goto 0 (gd rfl) rfl ?_
                    have v0 : z24a = s28.2.2.1 109 109 := fr_F (e24) hF28 rfl
                    have n0 : (z24a).toInt + (z28a).toInt = (u_109_109).toInt + (u_109_111).toInt := by have a0 := in_u i15; have a1 := in_u i4; have a2 := in_u ((inv_F hIc0 0 400 rfl v0_109_109)); have a3 := in_u i28a; have a4 := in_u i24a; have a5 := in_u i20x20; have a6 := t_sub e20x20 i4 (in_c 1 rfl) rfl; have a7 := in_u ((in_c 1 rfl)); have a8 := in_u i8x20; have a9 := t_sub e8x20 i4 (in_c 1 rfl) rfl; omega
                    have n0a : PR s s28 1 1 := by first | exact pr_rf | (have hz : z20x21 = z8x21 := (by rw [e20x21, e8x21, e20x20, e8x20]); exact pr_tr g0_0 (pr_set (n := (sc0.2.2.1 109 109).toNatClampNeg) (x := z20x21) (v := Int32.ofInt 0) (b := z20x20) ((hF28.1 187 rfl).trans p24) ((hF28.1 188 rfl).trans p24a) rfl (inv_F hIc0 0 400 rfl rfl).1 (by rw [hF28.2.2.1 109 109 rfl, ← e24, ← v0_109_109]; exact n24a) ((hF28.2.2.1 109 23 rfl).trans (hF24.2.2.1 109 23 rfl)) ((hF28.1 190 rfl).trans (hF24.1 190 rfl)) (by rw [← e28]; have a0 := in_u i15; have a1 := in_u i4; have a2 := in_u ((inv_F hIc0 0 400 rfl v0_109_109)); have a3 := in_u i28a; have a4 := in_u i24a; have a5 := in_u i20x20; have a6 := t_sub e20x20 i4 (in_c 1 rfl) rfl; have a7 := in_u ((in_c 1 rfl)); have a8 := in_u i8x20; have a9 := t_sub e8x20 i4 (in_c 1 rfl) rfl; omega) (by rw [← v0_109_111]; have a0 := in_u i15; have a1 := in_u i4; have a2 := in_u ((inv_F hIc0 0 400 rfl v0_109_109)); have a3 := in_u i28a; have a4 := in_u i24a; have a5 := in_u i20x20; have a6 := t_sub e20x20 i4 (in_c 1 rfl) rfl; have a7 := in_u ((in_c 1 rfl)); have a8 := in_u i8x20; have a9 := t_sub e8x20 i4 (in_c 1 rfl) rfl; omega) i20x20.1 e20x21 (Or.inl (by rw [hz]; first | (have hi := i11x3; unfold In at hi; omega) | (have hi := i11x13; unfold In at hi; omega) | (have hi := i11x19; unfold In at hi; omega) | (have hi := i11x29; unfold In at hi; omega) | (have hi := i11x35; unfold In at hi; omega)))))
                    have m0 : (z28a).toInt < ((k0 : Nat) : Int) := by have a0 := in_u i15; have a1 := in_u i4; have a2 := in_u ((inv_F hIc0 0 400 rfl v0_109_109)); have a3 := in_u i28a; have a4 := in_u i24a; have a5 := in_u i20x20; have a6 := t_sub e20x20 i4 (in_c 1 rfl) rfl; have a7 := in_u ((in_c 1 rfl)); have a8 := in_u i8x20; have a9 := t_sub e8x20 i4 (in_c 1 rfl) rfl; omega
                    exact gg_w (by first | exact Nat.le_add_right _ _ | exact gw2 | exact gw3 | exact gwe rfl | exact gwf rfl | exact gwg rfl | exact gwh rfl | omega) (gg_f (gf_cons rfl (gf_cons rfl gf_nil)) (ih0  s28 z24a z28a hI28 (fr_tr rfl (fr_tr rfl hFc0 hF24) hF28) v0 e28 n0 n0a m0))
                  · skip
                    exact zn_eq c20x4 i4 rfl
          · skip
            have i11x3 := r_eq1 42 42 c11x3 (i_rng z8x21) (in_c 42 rfl) rfl
            refine g_iconst 3 7 (gd rfl) rfl rfl ?_
            refine g_goto 43 (gd rfl) rfl ?_
            refine g_ireturn (gd rfl) rfl rfl (hp11 _ _ ?_)
            show GG _ _ _ _ _ _ _ _ [.int (Int32.ofInt 3)] _ _ _
            refine g_iload_n 15 (gd rfl) rfl rfl ?_
            refine g_cmp_lt 18 34 (gd rfl) rfl rfl (fun c15 => ?_) (fun c15 => ?_)
            · skip
              exact n_lt c15 (in_c 3 rfl) h1 rfl
            · skip
              refine g_aload_n 19 (gd rfl) rfl rfl ?_
              refine g_aload_n 20 (gd rfl) rfl rfl ?_
              refine g_callv (X := _) (As := []) (r := [.ref (A 109)]) (b := A 109) (q := 109) 23 (gd rfl) rfl rfl rfl rfl rfl (ww_o rfl) (Nat.le_of_ble_eq_true rfl) (mc := 0) (ms := 0) (Nat.zero_le _) (Nat.zero_le _) (P := fun v u => _) ?_ (fun e u h => h) (fun v u h => h)
              intro po20 xx20 hp20 hx20
              refine g_enter2 (k := 395) (N := 300) (by first | exact dq1 hd rfl | exact dq0 hd rfl | exact dq2 hd rfl | exact dq3 hd rfl | omega) rfl (Nat.le_of_ble_eq_true rfl) ?_
              refine g_aload_n 1 (gd rfl) rfl rfl ?_
              refine g_getI 4 (gd rfl) rfl rfl rfl (fun z20x1 e20x1 => ?_)
              have q20x1 : w0_109_111 = z20x1 := (v0_109_111).trans e20x1.symm
              subst q20x1
              refine g_if_ne 7 11 (gd rfl) rfl rfl (fun c20x4 => ?_) (fun c20x4 => ?_)
              · skip
                refine g_aload_n 12 (gd rfl) rfl rfl ?_
                refine g_getA (q2 := 190) 15 (gd rfl) rfl rfl rfl rfl ?_
                refine g_aload_n 16 (gd rfl) rfl rfl ?_
                refine g_getI 19 (gd rfl) rfl rfl rfl (fun z20x16 e20x16 => ?_)
                have q20x16 : w0_109_111 = z20x16 := (v0_109_111).trans e20x16.symm
                subst q20x16
                refine g_iconst 1 20 (gd rfl) rfl rfl ?_
                refine g_isub 21 (gd rfl) rfl (fun z20x20 e20x20 => ?_)
                have i20x20 := in_sub 0 199 e20x20 i4 (in_c 1 rfl) rfl rfl
                refine g_iaload 22 (gd rfl) rfl (n := 200) rfl (in_ix i20x20 rfl) (fun z20x21 e20x21 => ?_)
                refine g_ireturn (gd rfl) rfl rfl (hp20 _ _ ?_)
                show GG _ _ _ _ _ _ _ _ [.int z20x21, .ref (A 109)] _ _ _
                refine g_iconst 0 24 (gd rfl) rfl rfl ?_
                have n24 : (w0_109_109).toInt ≤ 399 := by have a0 := in_u h1; have a1 := in_u i4; have a2 := in_u ((inv_F hIc0 0 400 rfl v0_109_109)); have a3 := in_u i20x20; have a4 := t_sub e20x20 i4 (in_c 1 rfl) rfl; have a5 := in_u ((in_c 1 rfl)); have a6 := in_u i8x20; have a7 := t_sub e8x20 i4 (in_c 1 rfl) rfl; omega
                refine g_callv (X := _) (As := [.int z20x21, .int (Int32.ofInt 0)]) (r := []) (b := A 109) (q := 109) 27 (gd rfl) rfl rfl rfl rfl rfl (ww_o rfl) (Nat.le_of_ble_eq_true rfl) (Nat.zero_le _) (Nat.zero_le _) (k_393 (by first | exact dq1 hd rfl | exact dq0 hd rfl | exact dq2 hd rfl | exact dq3 hd rfl | omega) hIc0 v0_109_109 n24) (fun e u h => h) (fun v u h => ?_)
                obtain ⟨s24, hI24, hF24, n24a, rfl, rfl, p24, p24a⟩ := h
                obtain ⟨z24a, e24⟩ : ∃ w, w = s24.2.2.1 109 109 := ⟨_, rfl⟩
                have i24a := inv_F hI24 0 400 rfl e24
                rw [← (show w0_109_109 = sc0.2.2.1 109 109 from v0_109_109)] at n24a
                rw [← (show z24a = s24.2.2.1 109 109 from e24)] at n24a
                show GG _ _ _ _ _ _ _ _ [] _ _ _
                refine g_aload_n 28 (gd rfl) rfl rfl ?_
                have v28 : w0_109_111 = s24.2.2.1 109 111 := fr_F (v0_109_111) hF24 rfl
                have n28 : 1 ≤ (w0_109_111).toInt := by have a0 := in_u h1; have a1 := in_u i4; have a2 := in_u ((inv_F hIc0 0 400 rfl v0_109_109)); have a3 := in_u i24a; have a4 := in_u i20x20; have a5 := t_sub e20x20 i4 (in_c 1 rfl) rfl; have a6 := in_u ((in_c 1 rfl)); have a7 := in_u i8x20; have a8 := t_sub e8x20 i4 (in_c 1 rfl) rfl; omega
                refine g_callv (X := _) (As := []) (r := []) (b := A 109) (q := 109) 31 (gd rfl) rfl rfl rfl rfl rfl (ww_o rfl) (Nat.le_of_ble_eq_true rfl) (Nat.zero_le _) (Nat.zero_le _) (k_397 (by first | exact dq1 hd rfl | exact dq0 hd rfl | exact dq2 hd rfl | exact dq3 hd rfl | omega) hI24 v28 n28) (fun e u h => h) (fun v u h => ?_)
                obtain ⟨s28, hI28, hF28, n28a, rfl, rfl⟩ := h
                obtain ⟨z28a, e28⟩ : ∃ w, w = s28.2.2.1 109 111 := ⟨_, rfl⟩
                have i28a := inv_F hI28 0 200 rfl e28
                rw [← (show w0_109_111 = s24.2.2.1 109 111 from fr_F (v0_109_111) hF24 rfl)] at n28a
                rw [← (show z28a = s28.2.2.1 109 111 from e28)] at n28a
                show GG _ _ _ _ _ _ _ _ [] _ _ _
                refine g_goto 0 (gd rfl) rfl ?_
                have v0 : z24a = s28.2.2.1 109 109 := fr_F (e24) hF28 rfl
                have n0 : (z24a).toInt + (z28a).toInt = (u_109_109).toInt + (u_109_111).toInt := by have a0 := in_u h1; have a1 := in_u i4; have a2 := in_u ((inv_F hIc0 0 400 rfl v0_109_109)); have a3 := in_u i28a; have a4 := in_u i24a; have a5 := in_u i20x20; have a6 := t_sub e20x20 i4 (in_c 1 rfl) rfl; have a7 := in_u ((in_c 1 rfl)); have a8 := in_u i8x20; have a9 := t_sub e8x20 i4 (in_c 1 rfl) rfl; omega
                have n0a : PR s s28 1 1 := by first | exact pr_rf | (have hz : z20x21 = z8x21 := (by rw [e20x21, e8x21, e20x20, e8x20]); exact pr_tr g0_0 (pr_set (n := (sc0.2.2.1 109 109).toNatClampNeg) (x := z20x21) (v := Int32.ofInt 0) (b := z20x20) ((hF28.1 187 rfl).trans p24) ((hF28.1 188 rfl).trans p24a) rfl (inv_F hIc0 0 400 rfl rfl).1 (by rw [hF28.2.2.1 109 109 rfl, ← e24, ← v0_109_109]; exact n24a) ((hF28.2.2.1 109 23 rfl).trans (hF24.2.2.1 109 23 rfl)) ((hF28.1 190 rfl).trans (hF24.1 190 rfl)) (by rw [← e28]; have a0 := in_u h1; have a1 := in_u i4; have a2 := in_u ((inv_F hIc0 0 400 rfl v0_109_109)); have a3 := in_u i28a; have a4 := in_u i24a; have a5 := in_u i20x20; have a6 := t_sub e20x20 i4 (in_c 1 rfl) rfl; have a7 := in_u ((in_c 1 rfl)); have a8 := in_u i8x20; have a9 := t_sub e8x20 i4 (in_c 1 rfl) rfl; omega) (by rw [← v0_109_111]; have a0 := in_u h1; have a1 := in_u i4; have a2 := in_u ((inv_F hIc0 0 400 rfl v0_109_109)); have a3 := in_u i28a; have a4 := in_u i24a; have a5 := in_u i20x20; have a6 := t_sub e20x20 i4 (in_c 1 rfl) rfl; have a7 := in_u ((in_c 1 rfl)); have a8 := in_u i8x20; have a9 := t_sub e8x20 i4 (in_c 1 rfl) rfl; omega) i20x20.1 e20x21 (Or.inl (by rw [hz]; first | (have hi := i11x3; unfold In at hi; omega) | (have hi := i11x13; unfold In at hi; omega) | (have hi := i11x19; unfold In at hi; omega) | (have hi := i11x29; unfold In at hi; omega) | (have hi := i11x35; unfold In at hi; omega)))))
                have m0 : (z28a).toInt < ((k0 : Nat) : Int) := by have a0 := in_u h1; have a1 := in_u i4; have a2 := in_u ((inv_F hIc0 0 400 rfl v0_109_109)); have a3 := in_u i28a; have a4 := in_u i24a; have a5 := in_u i20x20; have a6 := t_sub e20x20 i4 (in_c 1 rfl) rfl; have a7 := in_u ((in_c 1 rfl)); have a8 := in_u i8x20; have a9 := t_sub e8x20 i4 (in_c 1 rfl) rfl; omega
                exact gg_w (by first | exact Nat.le_add_right _ _ | exact gw2 | exact gw3 | exact gwe rfl | exact gwf rfl | exact gwg rfl | exact gwh rfl | omega) (gg_f (gf_cons rfl (gf_cons rfl gf_nil)) (ih0  s28 z24a z28a hI28 (fr_tr rfl (fr_tr rfl hFc0 hF24) hF28) v0 e28 n0 n0a m0))
              · skip
                exact zn_eq c20x4 i4 rfl
        · skip
          exact zn_eq c8x4 i4 rfl
  refine g_enter2 (k := 399) (N := 181801) (by first | exact dq1 hd rfl | exact dq0 hd rfl | exact dq2 hd rfl | exact dq3 hd rfl | omega) rfl (Nat.le_of_ble_eq_true rfl) ?_
  have n0 : (u_109_109).toInt + (u_109_111).toInt = (u_109_109).toInt + (u_109_111).toInt := by have a0 := in_u ((inv_F hI 0 200 rfl e_109_111)); have a1 := in_u ((inv_F hI 0 400 rfl e_109_109)); have a2 := in_u h1; omega
  have n0a : PR s s 1 1 := by first | exact pr_rf | (have hz : z20x21 = z8x21 := (by rw [e20x21, e8x21, e20x20, e8x20]); exact pr_tr g0_0 (pr_set (n := (sc0.2.2.1 109 109).toNatClampNeg) (x := z20x21) (v := Int32.ofInt 0) (b := z20x20) ((hF28.1 187 rfl).trans p24) ((hF28.1 188 rfl).trans p24a) rfl (inv_F hIc0 0 400 rfl rfl).1 (by rw [hF28.2.2.1 109 109 rfl, ← e24, ← v0_109_109]; exact n24a) ((hF28.2.2.1 109 23 rfl).trans (hF24.2.2.1 109 23 rfl)) ((hF28.1 190 rfl).trans (hF24.1 190 rfl)) (by rw [← e28]; have a0 := in_u ((inv_F hI 0 200 rfl e_109_111)); have a1 := in_u ((inv_F hI 0 400 rfl e_109_109)); have a2 := in_u h1; omega) (by rw [← v0_109_111]; have a0 := in_u ((inv_F hI 0 200 rfl e_109_111)); have a1 := in_u ((inv_F hI 0 400 rfl e_109_109)); have a2 := in_u h1; omega) i20x20.1 e20x21 (Or.inl (by rw [hz]; first | (have hi := i11x3; unfold In at hi; omega) | (have hi := i11x13; unfold In at hi; omega) | (have hi := i11x19; unfold In at hi; omega) | (have hi := i11x29; unfold In at hi; omega) | (have hi := i11x35; unfold In at hi; omega)))))
  have m0 : (u_109_111).toInt < ((201 : Nat) : Int) := by have a0 := in_u ((inv_F hI 0 200 rfl e_109_111)); have a1 := in_u ((inv_F hI 0 400 rfl e_109_109)); have a2 := in_u h1; omega
  exact gg_w (by first | exact Nat.le_of_ble_eq_true rfl | omega) (gg_f (gf_cons rfl (gf_cons rfl gf_nil)) (ct0 201 s u_109_109 u_109_111 hI fr_rf e_109_109 e_109_111 n0 n0a m0))
