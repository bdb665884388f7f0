/-! methods, by vc.py -/
def fm_299 : FM := ([], [], [(109, 23), (109, 24), (109, 27), (109, 28), (109, 29), (109, 30)], [(109, 31)])
/-- GraphHouseModel.nextToken -/
theorem k_299 {Z : AmZ} {A : Nat → Nat} {s : GS} {ex : va_W} {d : Nat} {X : AmX} {u_109_27 : Int32} {u_109_22 : Int32} (hd : 4 ≤ d) (hI : Inv s) (e_109_27 : u_109_27 = s.2.2.1 109 27) (e_109_22 : u_109_22 = s.2.2.1 109 22) (p_0 : (u_109_27).toInt ≤ (u_109_22).toInt) : GC Z d 299 [.ref (A 109)] (WW Z A s ++ ex) 0 0 (fun v u => ∃ t : GS, Inv t ∧ Fr fm_299 s t ∧ ((t.2.2.1 109 27).toInt ≤ (t.2.2.1 109 22).toInt) ∧ ((s.2.2.1 109 27).toInt ≤ (t.2.2.1 109 27).toInt) ∧ ((t.2.2.1 109 28).toInt ≠ 0 → (s.2.2.1 109 27).toInt + 1 ≤ (t.2.2.1 109 27).toInt) ∧ ((t.2.2.1 109 28).toInt = 1 → 97 ≤ (t.2.2.1 109 30).toInt) ∧ ((t.2.2.1 109 28).toInt = 1 → (t.2.2.1 109 30).toInt ≤ 122) ∧ v = none ∧ u = WW Z A t ++ ex) X := by
  intro post xp hP hX
  have ro_109_22 := inv_F hI 0 1000 rfl e_109_22
  have ct0 : ∀ (k0 : Nat) (sc0 : GS) (w0_109_27 : Int32), Inv sc0 → Fr fm_299 s sc0 → (w0_109_27 = sc0.2.2.1 109 27) → ((w0_109_27).toInt ≤ (u_109_22).toInt) → ((u_109_27).toInt ≤ (w0_109_27).toInt) → (u_109_22).toInt - (w0_109_27).toInt < (k0 : Int) → GG Z (d - 1) 299 post (gx xp) (1 + k0 * 900) 0 (fun j => xlook j [(0, .ref (A 109))]) [] (WW Z A sc0 ++ ex) 0 0 := by
    intro k0
    induction k0 with
    | zero => intro sc0 w0_109_27 hIc0 hFc0 v0_109_27 n0_0 n0_1 mm0; exfalso; have a0 := ro_109_22; unfold In at a0; have a1 := (inv_F hIc0 0 1000 rfl v0_109_27); unfold In at a1; omega
    | succ k0 ih0 =>
      intro sc0 w0_109_27 hIc0 hFc0 v0_109_27 n0_0 n0_1 mm0
      refine gg_w (M := 1 + k0 * 900 + 900) (by omega) ?_
      refine g_aload_n 1 (gd rfl) rfl rfl ?_
      refine g_getI 4 (gd rfl) rfl rfl rfl (fun z1 e1 => ?_)
      have q1 : w0_109_27 = z1 := (v0_109_27).trans e1.symm
      subst q1
      refine g_aload_n 5 (gd rfl) rfl rfl ?_
      refine g_getI 8 (gd rfl) rfl rfl rfl (fun z5 e5 => ?_)
      have q5 : u_109_22 = z5 := (fr_F e_109_22 hFc0 rfl).trans e5.symm
      subst q5
      refine g_cmp_ge 11 38 (gd rfl) rfl rfl (fun c8 => ?_) (fun c8 => ?_)
      · skip
        refine g_aload_n 39 (gd rfl) rfl rfl ?_
        refine g_aload_n 40 (gd rfl) rfl rfl ?_
        refine g_getI 43 (gd rfl) rfl rfl rfl (fun z40 e40 => ?_)
        have q40 : w0_109_27 = z40 := (v0_109_27).trans e40.symm
        subst q40
        refine g_putI 46 (gd rfl) rfl rfl rfl rfl ?_
        have hI43 := inv_sF (q := 109) (j := 29) hIc0 rfl (in_w 0 1000 (inv_F hIc0 0 1000 rfl v0_109_27) rfl)
        refine g_aload_n 47 (gd rfl) rfl rfl ?_
        refine g_getI 50 (gd rfl) rfl rfl rfl (fun z47 e47 => ?_)
        have q47 : w0_109_27 = z47 := (sF_ne rfl (v0_109_27)).trans e47.symm
        subst q47
        refine g_aload_n 51 (gd rfl) rfl rfl ?_
        refine g_getI 54 (gd rfl) rfl rfl rfl (fun z51 e51 => ?_)
        have q51 : u_109_22 = z51 := (sF_ne rfl (fr_F e_109_22 hFc0 rfl)).trans e51.symm
        subst q51
        refine g_cmp_ne 57 63 (gd rfl) rfl rfl (fun c54 => ?_) (fun c54 => ?_)
        · skip
          refine g_aload_n 64 (gd rfl) rfl rfl ?_
          refine g_getA (q2 := 125) 67 (gd rfl) rfl rfl rfl rfl ?_
          refine g_aload_n 68 (gd rfl) rfl rfl ?_
          refine g_getI 71 (gd rfl) rfl rfl rfl (fun z68 e68 => ?_)
          have q68 : w0_109_27 = z68 := (sF_ne rfl (v0_109_27)).trans e68.symm
          subst q68
          have i71 : In w0_109_27 0 999 := by have a0 := ro_109_22; unfold In at a0; have a1 := (inv_F hIc0 0 1000 rfl v0_109_27); unfold In at a1; exact ⟨by omega, by omega⟩
          refine g_iaload 72 (gd rfl) rfl (n := 1000) rfl (in_ix i71 rfl) (fun z71 e71 => ?_)
          have i71a := inv_I hI43 (n := 1000) (t := 0) 0 126 rfl (in_ix i71 rfl) rfl e71
          refine g_istore_n 73 (gd rfl) rfl (Nat.le_of_ble_eq_true rfl) ?_
          refine g_aload_n 74 (gd rfl) rfl rfl ?_
          refine g_iload_n 75 (gd rfl) rfl rfl ?_
          refine g_putI 78 (gd rfl) rfl rfl rfl rfl ?_
          have hI75 := inv_sF (q := 109) (j := 30) hI43 rfl (in_w (-2147483648) 2147483647 i71a rfl)
          refine g_iload_n 79 (gd rfl) rfl rfl ?_
          refine g_bipush 45 81 (gd rfl) rfl rfl ?_
          refine g_cmp_ne 84 118 (gd rfl) rfl rfl (fun c81 => ?_) (fun c81 => ?_)
          · skip
            refine g_iconst 0 119 (gd rfl) rfl rfl ?_
            refine g_istore_n 120 (gd rfl) rfl (Nat.le_of_ble_eq_true rfl) ?_
            refine g_iload_n 121 (gd rfl) rfl rfl ?_
            refine g_calls (As := [.int z71]) (r := []) 124 (gd rfl) rfl rfl rfl rfl rfl (Nat.le_of_ble_eq_true rfl) (mc := 0) (ms := 0) (Nat.zero_le _) (Nat.zero_le _) (P := fun v u => _) ?_ (fun v u h => h)
            intro po121 xx121 hp121 hx121
            refine g_enter2 (k := 297) (N := 300) (by omega) rfl (Nat.le_of_ble_eq_true rfl) ?_
            refine g_iload_n 1 (gd rfl) rfl rfl ?_
            refine g_bipush 48 3 (gd rfl) rfl rfl ?_
            refine g_cmp_lt 6 16 (gd rfl) rfl rfl (fun c121x3 => ?_) (fun c121x3 => ?_)
            · skip
              have i121x3 := r_lt1 0 47 c121x3 i71a (in_c 48 rfl) rfl
              refine g_iconst 0 17 (gd rfl) rfl rfl ?_
              refine g_ireturn (gd rfl) rfl (nb01 (in_w 0 1 (in_c 0 rfl) rfl)) (hp121 _ _ ?_)
              show GG _ _ _ _ _ _ _ _ [.int (Int32.ofInt 0)] _ _ _
              refine g_if_ne 127 131 (gd rfl) rfl rfl (fun c124 => ?_) (fun c124 => ?_)
              · skip
                exact zn_ne c124 (in_c 0 rfl) rfl
              · skip
                refine g_iload_n 128 (gd rfl) rfl rfl ?_
                refine g_if_eq 131 181 (gd rfl) rfl rfl (fun c128 => ?_) (fun c128 => ?_)
                · skip
                  refine g_aload_n 182 (gd rfl) rfl rfl ?_
                  refine g_iload_n 183 (gd rfl) rfl rfl ?_
                  refine g_calls (As := [.int z71]) (r := [.ref (A 109)]) 186 (gd rfl) rfl rfl rfl rfl rfl (Nat.le_of_ble_eq_true rfl) (mc := 0) (ms := 0) (Nat.zero_le _) (Nat.zero_le _) (P := fun v u => _) ?_ (fun v u h => h)
                  intro po183 xx183 hp183 hx183
                  refine g_enter2 (k := 296) (N := 300) (by omega) rfl (Nat.le_of_ble_eq_true rfl) ?_
                  refine g_iload_n 1 (gd rfl) rfl rfl ?_
                  refine g_bipush 97 3 (gd rfl) rfl rfl ?_
                  refine g_cmp_lt 6 16 (gd rfl) rfl rfl (fun c183x3 => ?_) (fun c183x3 => ?_)
                  · skip
                    refine g_iconst 0 17 (gd rfl) rfl rfl ?_
                    refine g_ireturn (gd rfl) rfl (nb01 (in_w 0 1 (in_c 0 rfl) rfl)) (hp183 _ _ ?_)
                    show GG _ _ _ _ _ _ _ _ [.int (Int32.ofInt 0), .ref (A 109)] _ _ _
                    refine g_if_eq 189 193 (gd rfl) rfl rfl (fun c186 => ?_) (fun c186 => ?_)
                    · skip
                      refine g_iconst 3 194 (gd rfl) rfl rfl ?_
                      refine g_putI 197 (gd rfl) rfl rfl rfl rfl ?_
                      have hI194 := inv_sF (q := 109) (j := 28) hI75 rfl (in_w (-2147483648) 2147483647 (in_c 3 rfl) rfl)
                      refine g_aload_n 198 (gd rfl) rfl rfl ?_
                      refine g_getI 201 (gd rfl) rfl rfl rfl (fun z198 e198 => ?_)
                      have q198 : (Int32.ofInt 3) = z198 := (sF_get).trans e198.symm
                      subst q198
                      refine g_iconst 3 202 (gd rfl) rfl rfl ?_
                      refine g_cmp_ne 205 220 (gd rfl) rfl rfl (fun c202 => ?_) (fun c202 => ?_)
                      · skip
                        exact n_ne c202 (in_c 3 rfl) (in_c 3 rfl) rfl
                      · skip
                        refine g_iload_n 206 (gd rfl) rfl rfl ?_
                        refine g_bipush 59 208 (gd rfl) rfl rfl ?_
                        refine g_cmp_eq 211 220 (gd rfl) rfl rfl (fun c208 => ?_) (fun c208 => ?_)
                        · skip
                          exact n_eq c208 i121x3 (in_c 59 rfl) rfl
                        · skip
                          refine g_aload_n 212 (gd rfl) rfl rfl ?_
                          refine g_iconst 1 213 (gd rfl) rfl rfl ?_
                          refine g_aload_n 214 (gd rfl) rfl rfl ?_
                          refine g_getI 217 (gd rfl) rfl rfl rfl (fun z214 e214 => ?_)
                          have q214 : w0_109_27 = z214 := (sF_ne rfl (sF_ne rfl (sF_get))).trans e214.symm
                          subst q214
                          refine g_callv (X := _) (As := [.int (Int32.ofInt 1), .int w0_109_27]) (r := []) (b := A 109) (q := 109) 220 (gd rfl) rfl rfl rfl rfl rfl (ww_o rfl) (Nat.le_of_ble_eq_true rfl) (Nat.zero_le _) (Nat.zero_le _) (k_298 (by omega) hI194 (in_w 1 5 (in_c 1 rfl) rfl)) (fun e u h => h) (fun v u h => ?_)
                          obtain ⟨s217, hI217, hF217, n217, rfl, rfl⟩ := h
                          obtain ⟨z217a, e217⟩ : ∃ w, w = s217.2.2.1 109 23 := ⟨_, rfl⟩
                          have i217a := inv_F hI217 0 9 rfl e217
                          rw [← (show z217a = s217.2.2.1 109 23 from e217)] at n217
                          show GG _ _ _ _ _ _ _ _ [] _ _ _
                          refine g_aload_n 221 (gd rfl) rfl rfl ?_
                          refine g_dup 222 (gd rfl) rfl rfl ?_
                          refine g_getI 225 (gd rfl) rfl rfl rfl (fun z222 e222 => ?_)
                          have q222 : w0_109_27 = z222 := (fr_F (s := (sF (sF (sF sc0 109 29 w0_109_27) 109 30 z71) 109 28 (Int32.ofInt 3))) (sF_ne rfl (sF_ne rfl (sF_ne rfl (v0_109_27)))) hF217 rfl).trans e222.symm
                          subst q222
                          refine g_iconst 1 226 (gd rfl) rfl rfl ?_
                          refine g_iadd 227 (gd rfl) rfl (fun z226 e226 => ?_)
                          have i226 := in_add 1 1000 e226 i71 (in_c 1 rfl) rfl rfl
                          refine g_putI 230 (gd rfl) rfl rfl rfl rfl ?_
                          have hI227 := inv_sF (q := 109) (j := 27) hI217 rfl (in_w 0 1000 i226 rfl)
                          have n230 : (z226).toInt ≤ (u_109_22).toInt := by have a0 := ro_109_22; unfold In at a0; have a1 := i71; unfold In at a1; have a2 := (in_c 0 rfl); unfold In at a2; have a3 := i121x3; unfold In at a3; have a4 := i226; unfold In at a4; have a5 := t_add e226 i71 (in_c 1 rfl) rfl; have a6 := (in_c 1 rfl); unfold In at a6; have a7 := i217a; unfold In at a7; have a8 := (in_c 3 rfl); unfold In at a8; omega
                          have n230a : ((sF s217 109 27 z226).2.2.1 109 27).toInt ≤ ((sF s217 109 27 z226).2.2.1 109 22).toInt := by have b0 : z226 = (sF s217 109 27 z226).2.2.1 109 27 := sF_get; have b1 : u_109_22 = (sF s217 109 27 z226).2.2.1 109 22 := sF_ne rfl (fr_F (s := (sF (sF (sF sc0 109 29 w0_109_27) 109 30 z71) 109 28 (Int32.ofInt 3))) (sF_ne rfl (sF_ne rfl (sF_ne rfl (fr_F e_109_22 hFc0 rfl)))) hF217 rfl); rw [← b0, ← b1]; exact n230
                          have n230b : (u_109_27).toInt ≤ (z226).toInt := by have a0 := ro_109_22; unfold In at a0; have a1 := i71; unfold In at a1; have a2 := (in_c 0 rfl); unfold In at a2; have a3 := i121x3; unfold In at a3; have a4 := i226; unfold In at a4; have a5 := t_add e226 i71 (in_c 1 rfl) rfl; have a6 := (in_c 1 rfl); unfold In at a6; have a7 := i217a; unfold In at a7; have a8 := (in_c 3 rfl); unfold In at a8; omega
                          have n230c : (s.2.2.1 109 27).toInt ≤ ((sF s217 109 27 z226).2.2.1 109 27).toInt := by have b0 : z226 = (sF s217 109 27 z226).2.2.1 109 27 := sF_get; first | (rw [← b0, ← e_109_27]; exact n230b) | (rw [← b0]; exact n230b)
                          have n230d : ((Int32.ofInt 3)).toInt ≠ 0 → (u_109_27).toInt + 1 ≤ (z226).toInt := by have a0 := ro_109_22; unfold In at a0; have a1 := i71; unfold In at a1; have a2 := (in_c 0 rfl); unfold In at a2; have a3 := i121x3; unfold In at a3; have a4 := i226; unfold In at a4; have a5 := t_add e226 i71 (in_c 1 rfl) rfl; have a6 := (in_c 1 rfl); unfold In at a6; have a7 := i217a; unfold In at a7; have a8 := (in_c 3 rfl); unfold In at a8; omega
                          have n230e : ((sF s217 109 27 z226).2.2.1 109 28).toInt ≠ 0 → (s.2.2.1 109 27).toInt + 1 ≤ ((sF s217 109 27 z226).2.2.1 109 27).toInt := by have b0 : (Int32.ofInt 3) = (sF s217 109 27 z226).2.2.1 109 28 := sF_ne rfl (fr_F (s := (sF (sF (sF sc0 109 29 w0_109_27) 109 30 z71) 109 28 (Int32.ofInt 3))) (sF_get) hF217 rfl); have b1 : z226 = (sF s217 109 27 z226).2.2.1 109 27 := sF_get; first | (rw [← b0, ← b1, ← e_109_27]; exact n230d) | (rw [← b0, ← b1]; exact n230d)
                          have n230f : ((Int32.ofInt 3)).toInt = 1 → 97 ≤ (z71).toInt := by have a0 := ro_109_22; unfold In at a0; have a1 := i71; unfold In at a1; have a2 := (in_c 0 rfl); unfold In at a2; have a3 := i121x3; unfold In at a3; have a4 := i226; unfold In at a4; have a5 := t_add e226 i71 (in_c 1 rfl) rfl; have a6 := (in_c 1 rfl); unfold In at a6; have a7 := i217a; unfold In at a7; have a8 := (in_c 3 rfl); unfold In at a8; omega
                          have n230g : ((sF s217 109 27 z226).2.2.1 109 28).toInt = 1 → 97 ≤ ((sF s217 109 27 z226).2.2.1 109 30).toInt := by have b0 : (Int32.ofInt 3) = (sF s217 109 27 z226).2.2.1 109 28 := sF_ne rfl (fr_F (s := (sF (sF (sF sc0 109 29 w0_109_27) 109 30 z71) 109 28 (Int32.ofInt 3))) (sF_get) hF217 rfl); have b1 : z71 = (sF s217 109 27 z226).2.2.1 109 30 := sF_ne rfl (fr_F (s := (sF (sF (sF sc0 109 29 w0_109_27) 109 30 z71) 109 28 (Int32.ofInt 3))) (sF_ne rfl (sF_get)) hF217 rfl); rw [← b0, ← b1]; exact n230f
                          have n230h : ((Int32.ofInt 3)).toInt = 1 → (z71).toInt ≤ 122 := by have a0 := ro_109_22; unfold In at a0; have a1 := i71; unfold In at a1; have a2 := (in_c 0 rfl); unfold In at a2; have a3 := i121x3; unfold In at a3; have a4 := i226; unfold In at a4; have a5 := t_add e226 i71 (in_c 1 rfl) rfl; have a6 := (in_c 1 rfl); unfold In at a6; have a7 := i217a; unfold In at a7; have a8 := (in_c 3 rfl); unfold In at a8; omega
                          have n230i : ((sF s217 109 27 z226).2.2.1 109 28).toInt = 1 → ((sF s217 109 27 z226).2.2.1 109 30).toInt ≤ 122 := by have b0 : (Int32.ofInt 3) = (sF s217 109 27 z226).2.2.1 109 28 := sF_ne rfl (fr_F (s := (sF (sF (sF sc0 109 29 w0_109_27) 109 30 z71) 109 28 (Int32.ofInt 3))) (sF_get) hF217 rfl); have b1 : z71 = (sF s217 109 27 z226).2.2.1 109 30 := sF_ne rfl (fr_F (s := (sF (sF (sF sc0 109 29 w0_109_27) 109 30 z71) 109 28 (Int32.ofInt 3))) (sF_ne rfl (sF_get)) hF217 rfl); rw [← b0, ← b1]; exact n230h
                          exact g_return (gd rfl) rfl (hP _ _ ⟨(sF s217 109 27 z226), hI227, (fr_sF rfl (fr_tr rfl (fr_sF rfl (fr_sF rfl (fr_sF rfl hFc0))) hF217)), n230a, n230c, n230e, n230g, n230i, rfl, rfl⟩)
                    · skip
                      exact zn_ne c186 (in_c 0 rfl) rfl
                  · skip
                    exact n_le c183x3 (in_c 97 rfl) i121x3 rfl
                · skip
                  exact zn_ne c128 (in_c 0 rfl) rfl
            · skip
              have i121x3 := r_le2 48 126 c121x3 (in_c 48 rfl) i71a rfl
              refine g_iload_n 7 (gd rfl) rfl rfl ?_
              refine g_bipush 57 9 (gd rfl) rfl rfl ?_
              refine g_cmp_gt 12 16 (gd rfl) rfl rfl (fun c121x9 => ?_) (fun c121x9 => ?_)
              · skip
                have i121x9 := r_lt2 58 126 c121x9 (in_c 57 rfl) i121x3 rfl
                refine g_iconst 0 17 (gd rfl) rfl rfl ?_
                refine g_ireturn (gd rfl) rfl (nb01 (in_w 0 1 (in_c 0 rfl) rfl)) (hp121 _ _ ?_)
                show GG _ _ _ _ _ _ _ _ [.int (Int32.ofInt 0)] _ _ _
                refine g_if_ne 127 131 (gd rfl) rfl rfl (fun c124 => ?_) (fun c124 => ?_)
                · skip
                  exact zn_ne c124 (in_c 0 rfl) rfl
                · skip
                  refine g_iload_n 128 (gd rfl) rfl rfl ?_
                  refine g_if_eq 131 181 (gd rfl) rfl rfl (fun c128 => ?_) (fun c128 => ?_)
                  · skip
                    refine g_aload_n 182 (gd rfl) rfl rfl ?_
                    refine g_iload_n 183 (gd rfl) rfl rfl ?_
                    refine g_calls (As := [.int z71]) (r := [.ref (A 109)]) 186 (gd rfl) rfl rfl rfl rfl rfl (Nat.le_of_ble_eq_true rfl) (mc := 0) (ms := 0) (Nat.zero_le _) (Nat.zero_le _) (P := fun v u => _) ?_ (fun v u h => h)
                    intro po183 xx183 hp183 hx183
                    refine g_enter2 (k := 296) (N := 300) (by omega) rfl (Nat.le_of_ble_eq_true rfl) ?_
                    refine g_iload_n 1 (gd rfl) rfl rfl ?_
                    refine g_bipush 97 3 (gd rfl) rfl rfl ?_
                    refine g_cmp_lt 6 16 (gd rfl) rfl rfl (fun c183x3 => ?_) (fun c183x3 => ?_)
                    · skip
                      have i183x3 := r_lt1 58 96 c183x3 i121x9 (in_c 97 rfl) rfl
                      refine g_iconst 0 17 (gd rfl) rfl rfl ?_
                      refine g_ireturn (gd rfl) rfl (nb01 (in_w 0 1 (in_c 0 rfl) rfl)) (hp183 _ _ ?_)
                      show GG _ _ _ _ _ _ _ _ [.int (Int32.ofInt 0), .ref (A 109)] _ _ _
                      refine g_if_eq 189 193 (gd rfl) rfl rfl (fun c186 => ?_) (fun c186 => ?_)
                      · skip
                        refine g_iconst 3 194 (gd rfl) rfl rfl ?_
                        refine g_putI 197 (gd rfl) rfl rfl rfl rfl ?_
                        have hI194 := inv_sF (q := 109) (j := 28) hI75 rfl (in_w (-2147483648) 2147483647 (in_c 3 rfl) rfl)
                        refine g_aload_n 198 (gd rfl) rfl rfl ?_
                        refine g_getI 201 (gd rfl) rfl rfl rfl (fun z198 e198 => ?_)
                        have q198 : (Int32.ofInt 3) = z198 := (sF_get).trans e198.symm
                        subst q198
                        refine g_iconst 3 202 (gd rfl) rfl rfl ?_
                        refine g_cmp_ne 205 220 (gd rfl) rfl rfl (fun c202 => ?_) (fun c202 => ?_)
                        · skip
                          exact n_ne c202 (in_c 3 rfl) (in_c 3 rfl) rfl
                        · skip
                          refine g_iload_n 206 (gd rfl) rfl rfl ?_
                          refine g_bipush 59 208 (gd rfl) rfl rfl ?_
                          refine g_cmp_eq 211 220 (gd rfl) rfl rfl (fun c208 => ?_) (fun c208 => ?_)
                          · skip
                            have i208 := r_eq1 59 59 c208 i183x3 (in_c 59 rfl) rfl
                            refine g_aload_n 221 (gd rfl) rfl rfl ?_
                            refine g_dup 222 (gd rfl) rfl rfl ?_
                            refine g_getI 225 (gd rfl) rfl rfl rfl (fun z222 e222 => ?_)
                            have q222 : w0_109_27 = z222 := (sF_ne rfl (sF_ne rfl (sF_ne rfl (v0_109_27)))).trans e222.symm
                            subst q222
                            refine g_iconst 1 226 (gd rfl) rfl rfl ?_
                            refine g_iadd 227 (gd rfl) rfl (fun z226 e226 => ?_)
                            have i226 := in_add 1 1000 e226 i71 (in_c 1 rfl) rfl rfl
                            refine g_putI 230 (gd rfl) rfl rfl rfl rfl ?_
                            have hI227 := inv_sF (q := 109) (j := 27) hI194 rfl (in_w 0 1000 i226 rfl)
                            have n230 : (z226).toInt ≤ (u_109_22).toInt := by have a0 := ro_109_22; unfold In at a0; have a1 := i71; unfold In at a1; have a2 := (in_c 0 rfl); unfold In at a2; have a3 := i208; unfold In at a3; have a4 := i226; unfold In at a4; have a5 := t_add e226 i71 (in_c 1 rfl) rfl; have a6 := (in_c 1 rfl); unfold In at a6; have a7 := (in_c 3 rfl); unfold In at a7; omega
                            have n230a : ((sF (sF (sF (sF sc0 109 29 w0_109_27) 109 30 z71) 109 28 (Int32.ofInt 3)) 109 27 z226).2.2.1 109 27).toInt ≤ ((sF (sF (sF (sF sc0 109 29 w0_109_27) 109 30 z71) 109 28 (Int32.ofInt 3)) 109 27 z226).2.2.1 109 22).toInt := by have b0 : z226 = (sF (sF (sF (sF sc0 109 29 w0_109_27) 109 30 z71) 109 28 (Int32.ofInt 3)) 109 27 z226).2.2.1 109 27 := sF_get; have b1 : u_109_22 = (sF (sF (sF (sF sc0 109 29 w0_109_27) 109 30 z71) 109 28 (Int32.ofInt 3)) 109 27 z226).2.2.1 109 22 := sF_ne rfl (sF_ne rfl (sF_ne rfl (sF_ne rfl (fr_F e_109_22 hFc0 rfl)))); rw [← b0, ← b1]; exact n230
                            have n230b : (u_109_27).toInt ≤ (z226).toInt := by have a0 := ro_109_22; unfold In at a0; have a1 := i71; unfold In at a1; have a2 := (in_c 0 rfl); unfold In at a2; have a3 := i208; unfold In at a3; have a4 := i226; unfold In at a4; have a5 := t_add e226 i71 (in_c 1 rfl) rfl; have a6 := (in_c 1 rfl); unfold In at a6; have a7 := (in_c 3 rfl); unfold In at a7; omega
                            have n230c : (s.2.2.1 109 27).toInt ≤ ((sF (sF (sF (sF sc0 109 29 w0_109_27) 109 30 z71) 109 28 (Int32.ofInt 3)) 109 27 z226).2.2.1 109 27).toInt := by have b0 : z226 = (sF (sF (sF (sF sc0 109 29 w0_109_27) 109 30 z71) 109 28 (Int32.ofInt 3)) 109 27 z226).2.2.1 109 27 := sF_get; first | (rw [← b0, ← e_109_27]; exact n230b) | (rw [← b0]; exact n230b)
                            have n230d : ((Int32.ofInt 3)).toInt ≠ 0 → (u_109_27).toInt + 1 ≤ (z226).toInt := by have a0 := ro_109_22; unfold In at a0; have a1 := i71; unfold In at a1; have a2 := (in_c 0 rfl); unfold In at a2; have a3 := i208; unfold In at a3; have a4 := i226; unfold In at a4; have a5 := t_add e226 i71 (in_c 1 rfl) rfl; have a6 := (in_c 1 rfl); unfold In at a6; have a7 := (in_c 3 rfl); unfold In at a7; omega
                            have n230e : ((sF (sF (sF (sF sc0 109 29 w0_109_27) 109 30 z71) 109 28 (Int32.ofInt 3)) 109 27 z226).2.2.1 109 28).toInt ≠ 0 → (s.2.2.1 109 27).toInt + 1 ≤ ((sF (sF (sF (sF sc0 109 29 w0_109_27) 109 30 z71) 109 28 (Int32.ofInt 3)) 109 27 z226).2.2.1 109 27).toInt := by have b0 : (Int32.ofInt 3) = (sF (sF (sF (sF sc0 109 29 w0_109_27) 109 30 z71) 109 28 (Int32.ofInt 3)) 109 27 z226).2.2.1 109 28 := sF_ne rfl (sF_get); have b1 : z226 = (sF (sF (sF (sF sc0 109 29 w0_109_27) 109 30 z71) 109 28 (Int32.ofInt 3)) 109 27 z226).2.2.1 109 27 := sF_get; first | (rw [← b0, ← b1, ← e_109_27]; exact n230d) | (rw [← b0, ← b1]; exact n230d)
                            have n230f : ((Int32.ofInt 3)).toInt = 1 → 97 ≤ (z71).toInt := by have a0 := ro_109_22; unfold In at a0; have a1 := i71; unfold In at a1; have a2 := (in_c 0 rfl); unfold In at a2; have a3 := i208; unfold In at a3; have a4 := i226; unfold In at a4; have a5 := t_add e226 i71 (in_c 1 rfl) rfl; have a6 := (in_c 1 rfl); unfold In at a6; have a7 := (in_c 3 rfl); unfold In at a7; omega
                            have n230g : ((sF (sF (sF (sF sc0 109 29 w0_109_27) 109 30 z71) 109 28 (Int32.ofInt 3)) 109 27 z226).2.2.1 109 28).toInt = 1 → 97 ≤ ((sF (sF (sF (sF sc0 109 29 w0_109_27) 109 30 z71) 109 28 (Int32.ofInt 3)) 109 27 z226).2.2.1 109 30).toInt := by have b0 : (Int32.ofInt 3) = (sF (sF (sF (sF sc0 109 29 w0_109_27) 109 30 z71) 109 28 (Int32.ofInt 3)) 109 27 z226).2.2.1 109 28 := sF_ne rfl (sF_get); have b1 : z71 = (sF (sF (sF (sF sc0 109 29 w0_109_27) 109 30 z71) 109 28 (Int32.ofInt 3)) 109 27 z226).2.2.1 109 30 := sF_ne rfl (sF_ne rfl (sF_get)); rw [← b0, ← b1]; exact n230f
                            have n230h : ((Int32.ofInt 3)).toInt = 1 → (z71).toInt ≤ 122 := by have a0 := ro_109_22; unfold In at a0; have a1 := i71; unfold In at a1; have a2 := (in_c 0 rfl); unfold In at a2; have a3 := i208; unfold In at a3; have a4 := i226; unfold In at a4; have a5 := t_add e226 i71 (in_c 1 rfl) rfl; have a6 := (in_c 1 rfl); unfold In at a6; have a7 := (in_c 3 rfl); unfold In at a7; omega
                            have n230i : ((sF (sF (sF (sF sc0 109 29 w0_109_27) 109 30 z71) 109 28 (Int32.ofInt 3)) 109 27 z226).2.2.1 109 28).toInt = 1 → ((sF (sF (sF (sF sc0 109 29 w0_109_27) 109 30 z71) 109 28 (Int32.ofInt 3)) 109 27 z226).2.2.1 109 30).toInt ≤ 122 := by have b0 : (Int32.ofInt 3) = (sF (sF (sF (sF sc0 109 29 w0_109_27) 109 30 z71) 109 28 (Int32.ofInt 3)) 109 27 z226).2.2.1 109 28 := sF_ne rfl (sF_get); have b1 : z71 = (sF (sF (sF (sF sc0 109 29 w0_109_27) 109 30 z71) 109 28 (Int32.ofInt 3)) 109 27 z226).2.2.1 109 30 := sF_ne rfl (sF_ne rfl (sF_get)); rw [← b0, ← b1]; exact n230h
                            exact g_return (gd rfl) rfl (hP _ _ ⟨(sF (sF (sF (sF sc0 109 29 w0_109_27) 109 30 z71) 109 28 (Int32.ofInt 3)) 109 27 z226), hI227, (fr_sF rfl (fr_sF rfl (fr_sF rfl (fr_sF rfl hFc0)))), n230a, n230c, n230e, n230g, n230i, rfl, rfl⟩)
                          · skip
                            refine g_aload_n 212 (gd rfl) rfl rfl ?_
                            refine g_iconst 1 213 (gd rfl) rfl rfl ?_
                            refine g_aload_n 214 (gd rfl) rfl rfl ?_
                            refine g_getI 217 (gd rfl) rfl rfl rfl (fun z214 e214 => ?_)
                            have q214 : w0_109_27 = z214 := (sF_ne rfl (sF_ne rfl (sF_get))).trans e214.symm
                            subst q214
                            refine g_callv (X := _) (As := [.int (Int32.ofInt 1), .int w0_109_27]) (r := []) (b := A 109) (q := 109) 220 (gd rfl) rfl rfl rfl rfl rfl (ww_o rfl) (Nat.le_of_ble_eq_true rfl) (Nat.zero_le _) (Nat.zero_le _) (k_298 (by omega) hI194 (in_w 1 5 (in_c 1 rfl) rfl)) (fun e u h => h) (fun v u h => ?_)
                            obtain ⟨s217, hI217, hF217, n217, rfl, rfl⟩ := h
                            obtain ⟨z217a, e217⟩ : ∃ w, w = s217.2.2.1 109 23 := ⟨_, rfl⟩
                            have i217a := inv_F hI217 0 9 rfl e217
                            rw [← (show z217a = s217.2.2.1 109 23 from e217)] at n217
                            show GG _ _ _ _ _ _ _ _ [] _ _ _
                            refine g_aload_n 221 (gd rfl) rfl rfl ?_
                            refine g_dup 222 (gd rfl) rfl rfl ?_
                            refine g_getI 225 (gd rfl) rfl rfl rfl (fun z222 e222 => ?_)
                            have q222 : w0_109_27 = z222 := (fr_F (s := (sF (sF (sF sc0 109 29 w0_109_27) 109 30 z71) 109 28 (Int32.ofInt 3))) (sF_ne rfl (sF_ne rfl (sF_ne rfl (v0_109_27)))) hF217 rfl).trans e222.symm
                            subst q222
                            refine g_iconst 1 226 (gd rfl) rfl rfl ?_
                            refine g_iadd 227 (gd rfl) rfl (fun z226 e226 => ?_)
                            have i226 := in_add 1 1000 e226 i71 (in_c 1 rfl) rfl rfl
                            refine g_putI 230 (gd rfl) rfl rfl rfl rfl ?_
                            have hI227 := inv_sF (q := 109) (j := 27) hI217 rfl (in_w 0 1000 i226 rfl)
                            have n230 : (z226).toInt ≤ (u_109_22).toInt := by have a0 := ro_109_22; unfold In at a0; have a1 := i71; unfold In at a1; have a2 := (in_c 0 rfl); unfold In at a2; have a3 := i183x3; unfold In at a3; have a4 := i226; unfold In at a4; have a5 := t_add e226 i71 (in_c 1 rfl) rfl; have a6 := (in_c 1 rfl); unfold In at a6; have a7 := i217a; unfold In at a7; have a8 := (in_c 3 rfl); unfold In at a8; omega
                            have n230a : ((sF s217 109 27 z226).2.2.1 109 27).toInt ≤ ((sF s217 109 27 z226).2.2.1 109 22).toInt := by have b0 : z226 = (sF s217 109 27 z226).2.2.1 109 27 := sF_get; have b1 : u_109_22 = (sF s217 109 27 z226).2.2.1 109 22 := sF_ne rfl (fr_F (s := (sF (sF (sF sc0 109 29 w0_109_27) 109 30 z71) 109 28 (Int32.ofInt 3))) (sF_ne rfl (sF_ne rfl (sF_ne rfl (fr_F e_109_22 hFc0 rfl)))) hF217 rfl); rw [← b0, ← b1]; exact n230
                            have n230b : (u_109_27).toInt ≤ (z226).toInt := by have a0 := ro_109_22; unfold In at a0; have a1 := i71; unfold In at a1; have a2 := (in_c 0 rfl); unfold In at a2; have a3 := i183x3; unfold In at a3; have a4 := i226; unfold In at a4; have a5 := t_add e226 i71 (in_c 1 rfl) rfl; have a6 := (in_c 1 rfl); unfold In at a6; have a7 := i217a; unfold In at a7; have a8 := (in_c 3 rfl); unfold In at a8; omega
                            have n230c : (s.2.2.1 109 27).toInt ≤ ((sF s217 109 27 z226).2.2.1 109 27).toInt := by have b0 : z226 = (sF s217 109 27 z226).2.2.1 109 27 := sF_get; first | (rw [← b0, ← e_109_27]; exact n230b) | (rw [← b0]; exact n230b)
                            have n230d : ((Int32.ofInt 3)).toInt ≠ 0 → (u_109_27).toInt + 1 ≤ (z226).toInt := by have a0 := ro_109_22; unfold In at a0; have a1 := i71; unfold In at a1; have a2 := (in_c 0 rfl); unfold In at a2; have a3 := i183x3; unfold In at a3; have a4 := i226; unfold In at a4; have a5 := t_add e226 i71 (in_c 1 rfl) rfl; have a6 := (in_c 1 rfl); unfold In at a6; have a7 := i217a; unfold In at a7; have a8 := (in_c 3 rfl); unfold In at a8; omega
                            have n230e : ((sF s217 109 27 z226).2.2.1 109 28).toInt ≠ 0 → (s.2.2.1 109 27).toInt + 1 ≤ ((sF s217 109 27 z226).2.2.1 109 27).toInt := by have b0 : (Int32.ofInt 3) = (sF s217 109 27 z226).2.2.1 109 28 := sF_ne rfl (fr_F (s := (sF (sF (sF sc0 109 29 w0_109_27) 109 30 z71) 109 28 (Int32.ofInt 3))) (sF_get) hF217 rfl); have b1 : z226 = (sF s217 109 27 z226).2.2.1 109 27 := sF_get; first | (rw [← b0, ← b1, ← e_109_27]; exact n230d) | (rw [← b0, ← b1]; exact n230d)
                            have n230f : ((Int32.ofInt 3)).toInt = 1 → 97 ≤ (z71).toInt := by have a0 := ro_109_22; unfold In at a0; have a1 := i71; unfold In at a1; have a2 := (in_c 0 rfl); unfold In at a2; have a3 := i183x3; unfold In at a3; have a4 := i226; unfold In at a4; have a5 := t_add e226 i71 (in_c 1 rfl) rfl; have a6 := (in_c 1 rfl); unfold In at a6; have a7 := i217a; unfold In at a7; have a8 := (in_c 3 rfl); unfold In at a8; omega
                            have n230g : ((sF s217 109 27 z226).2.2.1 109 28).toInt = 1 → 97 ≤ ((sF s217 109 27 z226).2.2.1 109 30).toInt := by have b0 : (Int32.ofInt 3) = (sF s217 109 27 z226).2.2.1 109 28 := sF_ne rfl (fr_F (s := (sF (sF (sF sc0 109 29 w0_109_27) 109 30 z71) 109 28 (Int32.ofInt 3))) (sF_get) hF217 rfl); have b1 : z71 = (sF s217 109 27 z226).2.2.1 109 30 := sF_ne rfl (fr_F (s := (sF (sF (sF sc0 109 29 w0_109_27) 109 30 z71) 109 28 (Int32.ofInt 3))) (sF_ne rfl (sF_get)) hF217 rfl); rw [← b0, ← b1]; exact n230f
                            have n230h : ((Int32.ofInt 3)).toInt = 1 → (z71).toInt ≤ 122 := by have a0 := ro_109_22; unfold In at a0; have a1 := i71; unfold In at a1; have a2 := (in_c 0 rfl); unfold In at a2; have a3 := i183x3; unfold In at a3; have a4 := i226; unfold In at a4; have a5 := t_add e226 i71 (in_c 1 rfl) rfl; have a6 := (in_c 1 rfl); unfold In at a6; have a7 := i217a; unfold In at a7; have a8 := (in_c 3 rfl); unfold In at a8; omega
                            have n230i : ((sF s217 109 27 z226).2.2.1 109 28).toInt = 1 → ((sF s217 109 27 z226).2.2.1 109 30).toInt ≤ 122 := by have b0 : (Int32.ofInt 3) = (sF s217 109 27 z226).2.2.1 109 28 := sF_ne rfl (fr_F (s := (sF (sF (sF sc0 109 29 w0_109_27) 109 30 z71) 109 28 (Int32.ofInt 3))) (sF_get) hF217 rfl); have b1 : z71 = (sF s217 109 27 z226).2.2.1 109 30 := sF_ne rfl (fr_F (s := (sF (sF (sF sc0 109 29 w0_109_27) 109 30 z71) 109 28 (Int32.ofInt 3))) (sF_ne rfl (sF_get)) hF217 rfl); rw [← b0, ← b1]; exact n230h
                            exact g_return (gd rfl) rfl (hP _ _ ⟨(sF s217 109 27 z226), hI227, (fr_sF rfl (fr_tr rfl (fr_sF rfl (fr_sF rfl (fr_sF rfl hFc0))) hF217)), n230a, n230c, n230e, n230g, n230i, rfl, rfl⟩)
                      · skip
                        exact zn_ne c186 (in_c 0 rfl) rfl
                    · skip
                      have i183x3 := r_le2 97 126 c183x3 (in_c 97 rfl) i121x9 rfl
                      refine g_iload_n 7 (gd rfl) rfl rfl ?_
                      refine g_bipush 122 9 (gd rfl) rfl rfl ?_
                      refine g_cmp_gt 12 16 (gd rfl) rfl rfl (fun c183x9 => ?_) (fun c183x9 => ?_)
                      · skip
                        have i183x9 := r_lt2 123 126 c183x9 (in_c 122 rfl) i183x3 rfl
                        refine g_iconst 0 17 (gd rfl) rfl rfl ?_
                        refine g_ireturn (gd rfl) rfl (nb01 (in_w 0 1 (in_c 0 rfl) rfl)) (hp183 _ _ ?_)
                        show GG _ _ _ _ _ _ _ _ [.int (Int32.ofInt 0), .ref (A 109)] _ _ _
                        refine g_if_eq 189 193 (gd rfl) rfl rfl (fun c186 => ?_) (fun c186 => ?_)
                        · skip
                          refine g_iconst 3 194 (gd rfl) rfl rfl ?_
                          refine g_putI 197 (gd rfl) rfl rfl rfl rfl ?_
                          have hI194 := inv_sF (q := 109) (j := 28) hI75 rfl (in_w (-2147483648) 2147483647 (in_c 3 rfl) rfl)
                          refine g_aload_n 198 (gd rfl) rfl rfl ?_
                          refine g_getI 201 (gd rfl) rfl rfl rfl (fun z198 e198 => ?_)
                          have q198 : (Int32.ofInt 3) = z198 := (sF_get).trans e198.symm
                          subst q198
                          refine g_iconst 3 202 (gd rfl) rfl rfl ?_
                          refine g_cmp_ne 205 220 (gd rfl) rfl rfl (fun c202 => ?_) (fun c202 => ?_)
                          · skip
                            exact n_ne c202 (in_c 3 rfl) (in_c 3 rfl) rfl
                          · skip
                            refine g_iload_n 206 (gd rfl) rfl rfl ?_
                            refine g_bipush 59 208 (gd rfl) rfl rfl ?_
                            refine g_cmp_eq 211 220 (gd rfl) rfl rfl (fun c208 => ?_) (fun c208 => ?_)
                            · skip
                              exact n_eq c208 i183x9 (in_c 59 rfl) rfl
                            · skip
                              refine g_aload_n 212 (gd rfl) rfl rfl ?_
                              refine g_iconst 1 213 (gd rfl) rfl rfl ?_
                              refine g_aload_n 214 (gd rfl) rfl rfl ?_
                              refine g_getI 217 (gd rfl) rfl rfl rfl (fun z214 e214 => ?_)
                              have q214 : w0_109_27 = z214 := (sF_ne rfl (sF_ne rfl (sF_get))).trans e214.symm
                              subst q214
                              refine g_callv (X := _) (As := [.int (Int32.ofInt 1), .int w0_109_27]) (r := []) (b := A 109) (q := 109) 220 (gd rfl) rfl rfl rfl rfl rfl (ww_o rfl) (Nat.le_of_ble_eq_true rfl) (Nat.zero_le _) (Nat.zero_le _) (k_298 (by omega) hI194 (in_w 1 5 (in_c 1 rfl) rfl)) (fun e u h => h) (fun v u h => ?_)
                              obtain ⟨s217, hI217, hF217, n217, rfl, rfl⟩ := h
                              obtain ⟨z217a, e217⟩ : ∃ w, w = s217.2.2.1 109 23 := ⟨_, rfl⟩
                              have i217a := inv_F hI217 0 9 rfl e217
                              rw [← (show z217a = s217.2.2.1 109 23 from e217)] at n217
                              show GG _ _ _ _ _ _ _ _ [] _ _ _
                              refine g_aload_n 221 (gd rfl) rfl rfl ?_
                              refine g_dup 222 (gd rfl) rfl rfl ?_
                              refine g_getI 225 (gd rfl) rfl rfl rfl (fun z222 e222 => ?_)
                              have q222 : w0_109_27 = z222 := (fr_F (s := (sF (sF (sF sc0 109 29 w0_109_27) 109 30 z71) 109 28 (Int32.ofInt 3))) (sF_ne rfl (sF_ne rfl (sF_ne rfl (v0_109_27)))) hF217 rfl).trans e222.symm
                              subst q222
                              refine g_iconst 1 226 (gd rfl) rfl rfl ?_
                              refine g_iadd 227 (gd rfl) rfl (fun z226 e226 => ?_)
                              have i226 := in_add 1 1000 e226 i71 (in_c 1 rfl) rfl rfl
                              refine g_putI 230 (gd rfl) rfl rfl rfl rfl ?_
                              have hI227 := inv_sF (q := 109) (j := 27) hI217 rfl (in_w 0 1000 i226 rfl)
                              have n230 : (z226).toInt ≤ (u_109_22).toInt := by have a0 := ro_109_22; unfold In at a0; have a1 := i71; unfold In at a1; have a2 := (in_c 0 rfl); unfold In at a2; have a3 := i183x9; unfold In at a3; have a4 := i226; unfold In at a4; have a5 := t_add e226 i71 (in_c 1 rfl) rfl; have a6 := (in_c 1 rfl); unfold In at a6; have a7 := i217a; unfold In at a7; have a8 := (in_c 3 rfl); unfold In at a8; omega
                              have n230a : ((sF s217 109 27 z226).2.2.1 109 27).toInt ≤ ((sF s217 109 27 z226).2.2.1 109 22).toInt := by have b0 : z226 = (sF s217 109 27 z226).2.2.1 109 27 := sF_get; have b1 : u_109_22 = (sF s217 109 27 z226).2.2.1 109 22 := sF_ne rfl (fr_F (s := (sF (sF (sF sc0 109 29 w0_109_27) 109 30 z71) 109 28 (Int32.ofInt 3))) (sF_ne rfl (sF_ne rfl (sF_ne rfl (fr_F e_109_22 hFc0 rfl)))) hF217 rfl); rw [← b0, ← b1]; exact n230
                              have n230b : (u_109_27).toInt ≤ (z226).toInt := by have a0 := ro_109_22; unfold In at a0; have a1 := i71; unfold In at a1; have a2 := (in_c 0 rfl); unfold In at a2; have a3 := i183x9; unfold In at a3; have a4 := i226; unfold In at a4; have a5 := t_add e226 i71 (in_c 1 rfl) rfl; have a6 := (in_c 1 rfl); unfold In at a6; have a7 := i217a; unfold In at a7; have a8 := (in_c 3 rfl); unfold In at a8; omega
                              have n230c : (s.2.2.1 109 27).toInt ≤ ((sF s217 109 27 z226).2.2.1 109 27).toInt := by have b0 : z226 = (sF s217 109 27 z226).2.2.1 109 27 := sF_get; first | (rw [← b0, ← e_109_27]; exact n230b) | (rw [← b0]; exact n230b)
                              have n230d : ((Int32.ofInt 3)).toInt ≠ 0 → (u_109_27).toInt + 1 ≤ (z226).toInt := by have a0 := ro_109_22; unfold In at a0; have a1 := i71; unfold In at a1; have a2 := (in_c 0 rfl); unfold In at a2; have a3 := i183x9; unfold In at a3; have a4 := i226; unfold In at a4; have a5 := t_add e226 i71 (in_c 1 rfl) rfl; have a6 := (in_c 1 rfl); unfold In at a6; have a7 := i217a; unfold In at a7; have a8 := (in_c 3 rfl); unfold In at a8; omega
                              have n230e : ((sF s217 109 27 z226).2.2.1 109 28).toInt ≠ 0 → (s.2.2.1 109 27).toInt + 1 ≤ ((sF s217 109 27 z226).2.2.1 109 27).toInt := by have b0 : (Int32.ofInt 3) = (sF s217 109 27 z226).2.2.1 109 28 := sF_ne rfl (fr_F (s := (sF (sF (sF sc0 109 29 w0_109_27) 109 30 z71) 109 28 (Int32.ofInt 3))) (sF_get) hF217 rfl); have b1 : z226 = (sF s217 109 27 z226).2.2.1 109 27 := sF_get; first | (rw [← b0, ← b1, ← e_109_27]; exact n230d) | (rw [← b0, ← b1]; exact n230d)
                              have n230f : ((Int32.ofInt 3)).toInt = 1 → 97 ≤ (z71).toInt := by have a0 := ro_109_22; unfold In at a0; have a1 := i71; unfold In at a1; have a2 := (in_c 0 rfl); unfold In at a2; have a3 := i183x9; unfold In at a3; have a4 := i226; unfold In at a4; have a5 := t_add e226 i71 (in_c 1 rfl) rfl; have a6 := (in_c 1 rfl); unfold In at a6; have a7 := i217a; unfold In at a7; have a8 := (in_c 3 rfl); unfold In at a8; omega
                              have n230g : ((sF s217 109 27 z226).2.2.1 109 28).toInt = 1 → 97 ≤ ((sF s217 109 27 z226).2.2.1 109 30).toInt := by have b0 : (Int32.ofInt 3) = (sF s217 109 27 z226).2.2.1 109 28 := sF_ne rfl (fr_F (s := (sF (sF (sF sc0 109 29 w0_109_27) 109 30 z71) 109 28 (Int32.ofInt 3))) (sF_get) hF217 rfl); have b1 : z71 = (sF s217 109 27 z226).2.2.1 109 30 := sF_ne rfl (fr_F (s := (sF (sF (sF sc0 109 29 w0_109_27) 109 30 z71) 109 28 (Int32.ofInt 3))) (sF_ne rfl (sF_get)) hF217 rfl); rw [← b0, ← b1]; exact n230f
                              have n230h : ((Int32.ofInt 3)).toInt = 1 → (z71).toInt ≤ 122 := by have a0 := ro_109_22; unfold In at a0; have a1 := i71; unfold In at a1; have a2 := (in_c 0 rfl); unfold In at a2; have a3 := i183x9; unfold In at a3; have a4 := i226; unfold In at a4; have a5 := t_add e226 i71 (in_c 1 rfl) rfl; have a6 := (in_c 1 rfl); unfold In at a6; have a7 := i217a; unfold In at a7; have a8 := (in_c 3 rfl); unfold In at a8; omega
                              have n230i : ((sF s217 109 27 z226).2.2.1 109 28).toInt = 1 → ((sF s217 109 27 z226).2.2.1 109 30).toInt ≤ 122 := by have b0 : (Int32.ofInt 3) = (sF s217 109 27 z226).2.2.1 109 28 := sF_ne rfl (fr_F (s := (sF (sF (sF sc0 109 29 w0_109_27) 109 30 z71) 109 28 (Int32.ofInt 3))) (sF_get) hF217 rfl); have b1 : z71 = (sF s217 109 27 z226).2.2.1 109 30 := sF_ne rfl (fr_F (s := (sF (sF (sF sc0 109 29 w0_109_27) 109 30 z71) 109 28 (Int32.ofInt 3))) (sF_ne rfl (sF_get)) hF217 rfl); rw [← b0, ← b1]; exact n230h
                              exact g_return (gd rfl) rfl (hP _ _ ⟨(sF s217 109 27 z226), hI227, (fr_sF rfl (fr_tr rfl (fr_sF rfl (fr_sF rfl (fr_sF rfl hFc0))) hF217)), n230a, n230c, n230e, n230g, n230i, rfl, rfl⟩)
                        · skip
                          exact zn_ne c186 (in_c 0 rfl) rfl
                      · skip
                        have i183x9 := r_le1 97 122 c183x9 i183x3 (in_c 122 rfl) rfl
                        refine g_iconst 1 13 (gd rfl) rfl rfl ?_
                        refine g_goto 17 (gd rfl) rfl ?_
                        refine g_ireturn (gd rfl) rfl (nb01 (in_w 0 1 (in_c 1 rfl) rfl)) (hp183 _ _ ?_)
                        show GG _ _ _ _ _ _ _ _ [.int (Int32.ofInt 1), .ref (A 109)] _ _ _
                        refine g_if_eq 189 193 (gd rfl) rfl rfl (fun c186 => ?_) (fun c186 => ?_)
                        · skip
                          exact zn_eq c186 (in_c 1 rfl) rfl
                        · skip
                          refine g_iconst 1 190 (gd rfl) rfl rfl ?_
                          refine g_goto 194 (gd rfl) rfl ?_
                          refine g_putI 197 (gd rfl) rfl rfl rfl rfl ?_
                          have hI194 := inv_sF (q := 109) (j := 28) hI75 rfl (in_w (-2147483648) 2147483647 (in_c 1 rfl) rfl)
                          refine g_aload_n 198 (gd rfl) rfl rfl ?_
                          refine g_getI 201 (gd rfl) rfl rfl rfl (fun z198 e198 => ?_)
                          have q198 : (Int32.ofInt 1) = z198 := (sF_get).trans e198.symm
                          subst q198
                          refine g_iconst 3 202 (gd rfl) rfl rfl ?_
                          refine g_cmp_ne 205 220 (gd rfl) rfl rfl (fun c202 => ?_) (fun c202 => ?_)
                          · skip
                            refine g_aload_n 221 (gd rfl) rfl rfl ?_
                            refine g_dup 222 (gd rfl) rfl rfl ?_
                            refine g_getI 225 (gd rfl) rfl rfl rfl (fun z222 e222 => ?_)
                            have q222 : w0_109_27 = z222 := (sF_ne rfl (sF_ne rfl (sF_ne rfl (v0_109_27)))).trans e222.symm
                            subst q222
                            refine g_iconst 1 226 (gd rfl) rfl rfl ?_
                            refine g_iadd 227 (gd rfl) rfl (fun z226 e226 => ?_)
                            have i226 := in_add 1 1000 e226 i71 (in_c 1 rfl) rfl rfl
                            refine g_putI 230 (gd rfl) rfl rfl rfl rfl ?_
                            have hI227 := inv_sF (q := 109) (j := 27) hI194 rfl (in_w 0 1000 i226 rfl)
                            have n230 : (z226).toInt ≤ (u_109_22).toInt := by have a0 := ro_109_22; unfold In at a0; have a1 := i71; unfold In at a1; have a2 := (in_c 0 rfl); unfold In at a2; have a3 := i183x9; unfold In at a3; have a4 := i226; unfold In at a4; have a5 := t_add e226 i71 (in_c 1 rfl) rfl; have a6 := (in_c 1 rfl); unfold In at a6; omega
                            have n230a : ((sF (sF (sF (sF sc0 109 29 w0_109_27) 109 30 z71) 109 28 (Int32.ofInt 1)) 109 27 z226).2.2.1 109 27).toInt ≤ ((sF (sF (sF (sF sc0 109 29 w0_109_27) 109 30 z71) 109 28 (Int32.ofInt 1)) 109 27 z226).2.2.1 109 22).toInt := by have b0 : z226 = (sF (sF (sF (sF sc0 109 29 w0_109_27) 109 30 z71) 109 28 (Int32.ofInt 1)) 109 27 z226).2.2.1 109 27 := sF_get; have b1 : u_109_22 = (sF (sF (sF (sF sc0 109 29 w0_109_27) 109 30 z71) 109 28 (Int32.ofInt 1)) 109 27 z226).2.2.1 109 22 := sF_ne rfl (sF_ne rfl (sF_ne rfl (sF_ne rfl (fr_F e_109_22 hFc0 rfl)))); rw [← b0, ← b1]; exact n230
                            have n230b : (u_109_27).toInt ≤ (z226).toInt := by have a0 := ro_109_22; unfold In at a0; have a1 := i71; unfold In at a1; have a2 := (in_c 0 rfl); unfold In at a2; have a3 := i183x9; unfold In at a3; have a4 := i226; unfold In at a4; have a5 := t_add e226 i71 (in_c 1 rfl) rfl; have a6 := (in_c 1 rfl); unfold In at a6; omega
                            have n230c : (s.2.2.1 109 27).toInt ≤ ((sF (sF (sF (sF sc0 109 29 w0_109_27) 109 30 z71) 109 28 (Int32.ofInt 1)) 109 27 z226).2.2.1 109 27).toInt := by have b0 : z226 = (sF (sF (sF (sF sc0 109 29 w0_109_27) 109 30 z71) 109 28 (Int32.ofInt 1)) 109 27 z226).2.2.1 109 27 := sF_get; first | (rw [← b0, ← e_109_27]; exact n230b) | (rw [← b0]; exact n230b)
                            have n230d : ((Int32.ofInt 1)).toInt ≠ 0 → (u_109_27).toInt + 1 ≤ (z226).toInt := by have a0 := ro_109_22; unfold In at a0; have a1 := i71; unfold In at a1; have a2 := (in_c 0 rfl); unfold In at a2; have a3 := i183x9; unfold In at a3; have a4 := i226; unfold In at a4; have a5 := t_add e226 i71 (in_c 1 rfl) rfl; have a6 := (in_c 1 rfl); unfold In at a6; omega
                            have n230e : ((sF (sF (sF (sF sc0 109 29 w0_109_27) 109 30 z71) 109 28 (Int32.ofInt 1)) 109 27 z226).2.2.1 109 28).toInt ≠ 0 → (s.2.2.1 109 27).toInt + 1 ≤ ((sF (sF (sF (sF sc0 109 29 w0_109_27) 109 30 z71) 109 28 (Int32.ofInt 1)) 109 27 z226).2.2.1 109 27).toInt := by have b0 : (Int32.ofInt 1) = (sF (sF (sF (sF sc0 109 29 w0_109_27) 109 30 z71) 109 28 (Int32.ofInt 1)) 109 27 z226).2.2.1 109 28 := sF_ne rfl (sF_get); have b1 : z226 = (sF (sF (sF (sF sc0 109 29 w0_109_27) 109 30 z71) 109 28 (Int32.ofInt 1)) 109 27 z226).2.2.1 109 27 := sF_get; first | (rw [← b0, ← b1, ← e_109_27]; exact n230d) | (rw [← b0, ← b1]; exact n230d)
                            have n230f : ((Int32.ofInt 1)).toInt = 1 → 97 ≤ (z71).toInt := by have a0 := ro_109_22; unfold In at a0; have a1 := i71; unfold In at a1; have a2 := (in_c 0 rfl); unfold In at a2; have a3 := i183x9; unfold In at a3; have a4 := i226; unfold In at a4; have a5 := t_add e226 i71 (in_c 1 rfl) rfl; have a6 := (in_c 1 rfl); unfold In at a6; omega
                            have n230g : ((sF (sF (sF (sF sc0 109 29 w0_109_27) 109 30 z71) 109 28 (Int32.ofInt 1)) 109 27 z226).2.2.1 109 28).toInt = 1 → 97 ≤ ((sF (sF (sF (sF sc0 109 29 w0_109_27) 109 30 z71) 109 28 (Int32.ofInt 1)) 109 27 z226).2.2.1 109 30).toInt := by have b0 : (Int32.ofInt 1) = (sF (sF (sF (sF sc0 109 29 w0_109_27) 109 30 z71) 109 28 (Int32.ofInt 1)) 109 27 z226).2.2.1 109 28 := sF_ne rfl (sF_get); have b1 : z71 = (sF (sF (sF (sF sc0 109 29 w0_109_27) 109 30 z71) 109 28 (Int32.ofInt 1)) 109 27 z226).2.2.1 109 30 := sF_ne rfl (sF_ne rfl (sF_get)); rw [← b0, ← b1]; exact n230f
                            have n230h : ((Int32.ofInt 1)).toInt = 1 → (z71).toInt ≤ 122 := by have a0 := ro_109_22; unfold In at a0; have a1 := i71; unfold In at a1; have a2 := (in_c 0 rfl); unfold In at a2; have a3 := i183x9; unfold In at a3; have a4 := i226; unfold In at a4; have a5 := t_add e226 i71 (in_c 1 rfl) rfl; have a6 := (in_c 1 rfl); unfold In at a6; omega
                            have n230i : ((sF (sF (sF (sF sc0 109 29 w0_109_27) 109 30 z71) 109 28 (Int32.ofInt 1)) 109 27 z226).2.2.1 109 28).toInt = 1 → ((sF (sF (sF (sF sc0 109 29 w0_109_27) 109 30 z71) 109 28 (Int32.ofInt 1)) 109 27 z226).2.2.1 109 30).toInt ≤ 122 := by have b0 : (Int32.ofInt 1) = (sF (sF (sF (sF sc0 109 29 w0_109_27) 109 30 z71) 109 28 (Int32.ofInt 1)) 109 27 z226).2.2.1 109 28 := sF_ne rfl (sF_get); have b1 : z71 = (sF (sF (sF (sF sc0 109 29 w0_109_27) 109 30 z71) 109 28 (Int32.ofInt 1)) 109 27 z226).2.2.1 109 30 := sF_ne rfl (sF_ne rfl (sF_get)); rw [← b0, ← b1]; exact n230h
                            exact g_return (gd rfl) rfl (hP _ _ ⟨(sF (sF (sF (sF sc0 109 29 w0_109_27) 109 30 z71) 109 28 (Int32.ofInt 1)) 109 27 z226), hI227, (fr_sF rfl (fr_sF rfl (fr_sF rfl (fr_sF rfl hFc0)))), n230a, n230c, n230e, n230g, n230i, rfl, rfl⟩)
                          · skip
                            exact n_eq c202 (in_c 1 rfl) (in_c 3 rfl) rfl
                  · skip
                    exact zn_ne c128 (in_c 0 rfl) rfl
              · skip
                have i121x9 := r_le1 48 57 c121x9 i121x3 (in_c 57 rfl) rfl
                refine g_iconst 1 13 (gd rfl) rfl rfl ?_
                refine g_goto 17 (gd rfl) rfl ?_
                refine g_ireturn (gd rfl) rfl (nb01 (in_w 0 1 (in_c 1 rfl) rfl)) (hp121 _ _ ?_)
                show GG _ _ _ _ _ _ _ _ [.int (Int32.ofInt 1)] _ _ _
                refine g_if_ne 127 131 (gd rfl) rfl rfl (fun c124 => ?_) (fun c124 => ?_)
                · skip
                  refine g_aload_n 132 (gd rfl) rfl rfl ?_
                  refine g_iconst 2 133 (gd rfl) rfl rfl ?_
                  refine g_putI 136 (gd rfl) rfl rfl rfl rfl ?_
                  have hI133 := inv_sF (q := 109) (j := 28) hI75 rfl (in_w (-2147483648) 2147483647 (in_c 2 rfl) rfl)
                  refine g_aload_n 137 (gd rfl) rfl rfl ?_
                  refine g_dup 138 (gd rfl) rfl rfl ?_
                  refine g_getI 141 (gd rfl) rfl rfl rfl (fun z138 e138 => ?_)
                  have q138 : w0_109_27 = z138 := (sF_ne rfl (sF_ne rfl (sF_ne rfl (v0_109_27)))).trans e138.symm
                  subst q138
                  refine g_iload_n 142 (gd rfl) rfl rfl ?_
                  refine g_if_eq 145 149 (gd rfl) rfl rfl (fun c142 => ?_) (fun c142 => ?_)
                  · skip
                    refine g_iconst 0 150 (gd rfl) rfl rfl ?_
                    refine g_iadd 151 (gd rfl) rfl (fun z150 e150 => ?_)
                    have i150 := in_add 0 999 e150 i71 (in_c 0 rfl) rfl rfl
                    refine g_putI 154 (gd rfl) rfl rfl rfl rfl ?_
                    have hI151 := inv_sF (q := 109) (j := 27) hI133 rfl (in_w 0 1000 i150 rfl)
                    refine g_aload_n 155 (gd rfl) rfl rfl ?_
                    refine g_bipush 7 157 (gd rfl) rfl rfl ?_
                    have v157 : z150 = (sF (sF (sF (sF sc0 109 29 w0_109_27) 109 30 z71) 109 28 (Int32.ofInt 2)) 109 27 z150).2.2.1 109 27 := sF_get
                    have v157a : u_109_22 = (sF (sF (sF (sF sc0 109 29 w0_109_27) 109 30 z71) 109 28 (Int32.ofInt 2)) 109 27 z150).2.2.1 109 22 := sF_ne rfl (sF_ne rfl (sF_ne rfl (sF_ne rfl (fr_F e_109_22 hFc0 rfl))))
                    have n157 : (z150).toInt < (u_109_22).toInt := by have a0 := ro_109_22; unfold In at a0; have a1 := i71; unfold In at a1; have a2 := (in_c 0 rfl); unfold In at a2; have a3 := i121x9; unfold In at a3; have a4 := i150; unfold In at a4; have a5 := t_add e150 i71 (in_c 0 rfl) rfl; have a6 := (in_c 2 rfl); unfold In at a6; omega
                    have p157 : 48 ≤ ((sF (sF (sF (sF sc0 109 29 w0_109_27) 109 30 z71) 109 28 (Int32.ofInt 2)) 109 27 z150).1 125 ((sF (sF (sF (sF sc0 109 29 w0_109_27) 109 30 z71) 109 28 (Int32.ofInt 2)) 109 27 z150).2.2.1 109 27).toNatClampNeg).toInt ∧ ((sF (sF (sF (sF sc0 109 29 w0_109_27) 109 30 z71) 109 28 (Int32.ofInt 2)) 109 27 z150).1 125 ((sF (sF (sF (sF sc0 109 29 w0_109_27) 109 30 z71) 109 28 (Int32.ofInt 2)) 109 27 z150).2.2.1 109 27).toNatClampNeg).toInt ≤ 57 := by first | (have hz : z107 = (sF (sF (sF (sF sc0 109 29 w0_109_27) 109 30 z71) 109 28 (Int32.ofInt 2)) 109 27 z150).1 125 ((sF (sF (sF (sF sc0 109 29 w0_109_27) 109 30 z71) 109 28 (Int32.ofInt 2)) 109 27 z150).2.2.1 109 27).toNatClampNeg := (by rw [← (show z150 = (sF (sF (sF (sF sc0 109 29 w0_109_27) 109 30 z71) 109 28 (Int32.ofInt 2)) 109 27 z150).2.2.1 109 27 from sF_get), e150, ← e106]; exact e107); rw [← hz]; exact i108x9) | (have hz : z19 = (sF (sF (sF (sF sc0 109 29 w0_109_27) 109 30 z71) 109 28 (Int32.ofInt 2)) 109 27 z150).1 125 ((sF (sF (sF (sF sc0 109 29 w0_109_27) 109 30 z71) 109 28 (Int32.ofInt 2)) 109 27 z150).2.2.1 109 27).toNatClampNeg := (by rw [← (show z150 = (sF (sF (sF (sF sc0 109 29 w0_109_27) 109 30 z71) 109 28 (Int32.ofInt 2)) 109 27 z150).2.2.1 109 27 from sF_get), e150, show w0_109_27 + Int32.ofInt 0 = w0_109_27 from Int32.add_zero _]; exact e19); rw [← hz]; exact i121x9) | (have hz : z71 = (sF (sF (sF (sF sc0 109 29 w0_109_27) 109 30 z71) 109 28 (Int32.ofInt 2)) 109 27 z150).1 125 ((sF (sF (sF (sF sc0 109 29 w0_109_27) 109 30 z71) 109 28 (Int32.ofInt 2)) 109 27 z150).2.2.1 109 27).toNatClampNeg := (by rw [← (show z150 = (sF (sF (sF (sF sc0 109 29 w0_109_27) 109 30 z71) 109 28 (Int32.ofInt 2)) 109 27 z150).2.2.1 109 27 from sF_get), e150, show w0_109_27 + Int32.ofInt 0 = w0_109_27 from Int32.add_zero _]; exact e71); rw [← hz]; exact i121x9)
                    refine g_callv (X := _) (As := [.int (Int32.ofInt 7)]) (r := []) (b := A 109) (q := 109) 160 (gd rfl) rfl rfl rfl rfl rfl (ww_o rfl) (Nat.le_of_ble_eq_true rfl) (Nat.zero_le _) (Nat.zero_le _) (k_300 (by omega) hI151 (in_w 6 7 (in_c 7 rfl) rfl) v157 v157a n157 p157) (fun e u h => h) (fun v u h => ?_)
                    obtain ⟨s157, hI157, hF157, n157a, n157b, rfl, rfl⟩ := h
                    obtain ⟨z157a, e157⟩ : ∃ w, w = s157.2.2.1 109 27 := ⟨_, rfl⟩
                    have i157a := inv_F hI157 0 1000 rfl e157
                    rw [← (show z157a = s157.2.2.1 109 27 from e157)] at n157a
                    rw [← (show u_109_22 = s157.2.2.1 109 22 from fr_F (s := (sF (sF (sF (sF sc0 109 29 w0_109_27) 109 30 z71) 109 28 (Int32.ofInt 2)) 109 27 z150)) (sF_ne rfl (sF_ne rfl (sF_ne rfl (sF_ne rfl (fr_F e_109_22 hFc0 rfl))))) hF157 rfl)] at n157a
                    rw [← (show z150 = (sF (sF (sF (sF sc0 109 29 w0_109_27) 109 30 z71) 109 28 (Int32.ofInt 2)) 109 27 z150).2.2.1 109 27 from sF_get)] at n157b
                    rw [← (show z157a = s157.2.2.1 109 27 from e157)] at n157b
                    show GG _ _ _ _ _ _ _ _ [] _ _ _
                    refine g_aload_n 161 (gd rfl) rfl rfl ?_
                    refine g_iload_n 162 (gd rfl) rfl rfl ?_
                    refine g_if_eq 165 173 (gd rfl) rfl rfl (fun c162 => ?_) (fun c162 => ?_)
                    · skip
                      refine g_aload_n 174 (gd rfl) rfl rfl ?_
                      refine g_getL 177 (gd rfl) rfl rfl rfl (fun z174 e174 => ?_)
                      refine g_putL 180 (gd rfl) rfl rfl rfl rfl ?_
                      have hI177 := inv_sG (q := 109) (j := 31) (x := z174) hI157 rfl (l_rng z174)
                      have n180 : (z157a).toInt ≤ (u_109_22).toInt := by have a0 := ro_109_22; unfold In at a0; have a1 := i71; unfold In at a1; have a2 := (in_c 0 rfl); unfold In at a2; have a3 := i121x9; unfold In at a3; have a4 := i157a; unfold In at a4; have a5 := (in_c 2 rfl); unfold In at a5; have a6 := i150; unfold In at a6; have a7 := t_add e150 i71 (in_c 0 rfl) rfl; omega
                      have n180a : ((sG s157 109 31 z174).2.2.1 109 27).toInt ≤ ((sG s157 109 31 z174).2.2.1 109 22).toInt := by have b0 : z157a = (sG s157 109 31 z174).2.2.1 109 27 := sG_F (e157); have b1 : u_109_22 = (sG s157 109 31 z174).2.2.1 109 22 := sG_F (fr_F (s := (sF (sF (sF (sF sc0 109 29 w0_109_27) 109 30 z71) 109 28 (Int32.ofInt 2)) 109 27 z150)) (sF_ne rfl (sF_ne rfl (sF_ne rfl (sF_ne rfl (fr_F e_109_22 hFc0 rfl))))) hF157 rfl); rw [← b0, ← b1]; exact n180
                      have n180b : (u_109_27).toInt ≤ (z157a).toInt := by have a0 := ro_109_22; unfold In at a0; have a1 := i71; unfold In at a1; have a2 := (in_c 0 rfl); unfold In at a2; have a3 := i121x9; unfold In at a3; have a4 := i157a; unfold In at a4; have a5 := (in_c 2 rfl); unfold In at a5; have a6 := i150; unfold In at a6; have a7 := t_add e150 i71 (in_c 0 rfl) rfl; omega
                      have n180c : (s.2.2.1 109 27).toInt ≤ ((sG s157 109 31 z174).2.2.1 109 27).toInt := by have b0 : z157a = (sG s157 109 31 z174).2.2.1 109 27 := sG_F (e157); first | (rw [← b0, ← e_109_27]; exact n180b) | (rw [← b0]; exact n180b)
                      have n180d : ((Int32.ofInt 2)).toInt ≠ 0 → (u_109_27).toInt + 1 ≤ (z157a).toInt := by have a0 := ro_109_22; unfold In at a0; have a1 := i71; unfold In at a1; have a2 := (in_c 0 rfl); unfold In at a2; have a3 := i121x9; unfold In at a3; have a4 := i157a; unfold In at a4; have a5 := (in_c 2 rfl); unfold In at a5; have a6 := i150; unfold In at a6; have a7 := t_add e150 i71 (in_c 0 rfl) rfl; omega
                      have n180e : ((sG s157 109 31 z174).2.2.1 109 28).toInt ≠ 0 → (s.2.2.1 109 27).toInt + 1 ≤ ((sG s157 109 31 z174).2.2.1 109 27).toInt := by have b0 : (Int32.ofInt 2) = (sG s157 109 31 z174).2.2.1 109 28 := sG_F (fr_F (s := (sF (sF (sF (sF sc0 109 29 w0_109_27) 109 30 z71) 109 28 (Int32.ofInt 2)) 109 27 z150)) (sF_ne rfl (sF_get)) hF157 rfl); have b1 : z157a = (sG s157 109 31 z174).2.2.1 109 27 := sG_F (e157); first | (rw [← b0, ← b1, ← e_109_27]; exact n180d) | (rw [← b0, ← b1]; exact n180d)
                      have n180f : ((Int32.ofInt 2)).toInt = 1 → 97 ≤ (z71).toInt := by have a0 := ro_109_22; unfold In at a0; have a1 := i71; unfold In at a1; have a2 := (in_c 0 rfl); unfold In at a2; have a3 := i121x9; unfold In at a3; have a4 := i157a; unfold In at a4; have a5 := (in_c 2 rfl); unfold In at a5; have a6 := i150; unfold In at a6; have a7 := t_add e150 i71 (in_c 0 rfl) rfl; omega
                      have n180g : ((sG s157 109 31 z174).2.2.1 109 28).toInt = 1 → 97 ≤ ((sG s157 109 31 z174).2.2.1 109 30).toInt := by have b0 : (Int32.ofInt 2) = (sG s157 109 31 z174).2.2.1 109 28 := sG_F (fr_F (s := (sF (sF (sF (sF sc0 109 29 w0_109_27) 109 30 z71) 109 28 (Int32.ofInt 2)) 109 27 z150)) (sF_ne rfl (sF_get)) hF157 rfl); have b1 : z71 = (sG s157 109 31 z174).2.2.1 109 30 := sG_F (fr_F (s := (sF (sF (sF (sF sc0 109 29 w0_109_27) 109 30 z71) 109 28 (Int32.ofInt 2)) 109 27 z150)) (sF_ne rfl (sF_ne rfl (sF_get))) hF157 rfl); rw [← b0, ← b1]; exact n180f
                      have n180h : ((Int32.ofInt 2)).toInt = 1 → (z71).toInt ≤ 122 := by have a0 := ro_109_22; unfold In at a0; have a1 := i71; unfold In at a1; have a2 := (in_c 0 rfl); unfold In at a2; have a3 := i121x9; unfold In at a3; have a4 := i157a; unfold In at a4; have a5 := (in_c 2 rfl); unfold In at a5; have a6 := i150; unfold In at a6; have a7 := t_add e150 i71 (in_c 0 rfl) rfl; omega
                      have n180i : ((sG s157 109 31 z174).2.2.1 109 28).toInt = 1 → ((sG s157 109 31 z174).2.2.1 109 30).toInt ≤ 122 := by have b0 : (Int32.ofInt 2) = (sG s157 109 31 z174).2.2.1 109 28 := sG_F (fr_F (s := (sF (sF (sF (sF sc0 109 29 w0_109_27) 109 30 z71) 109 28 (Int32.ofInt 2)) 109 27 z150)) (sF_ne rfl (sF_get)) hF157 rfl); have b1 : z71 = (sG s157 109 31 z174).2.2.1 109 30 := sG_F (fr_F (s := (sF (sF (sF (sF sc0 109 29 w0_109_27) 109 30 z71) 109 28 (Int32.ofInt 2)) 109 27 z150)) (sF_ne rfl (sF_ne rfl (sF_get))) hF157 rfl); rw [← b0, ← b1]; exact n180h
                      exact g_return (gd rfl) rfl (hP _ _ ⟨(sG s157 109 31 z174), hI177, (fr_sG rfl (fr_tr rfl (fr_sF rfl (fr_sF rfl (fr_sF rfl (fr_sF rfl hFc0)))) hF157)), n180a, n180c, n180e, n180g, n180i, rfl, rfl⟩)
                    · skip
                      exact zn_ne c162 (in_c 0 rfl) rfl
                  · skip
                    exact zn_ne c142 (in_c 0 rfl) rfl
                · skip
                  exact zn_eq c124 (in_c 1 rfl) rfl
          · skip
            have i81 := r_eq1 45 45 c81 i71a (in_c 45 rfl) rfl
            refine g_aload_n 85 (gd rfl) rfl rfl ?_
            refine g_getI 88 (gd rfl) rfl rfl rfl (fun z85 e85 => ?_)
            have q85 : w0_109_27 = z85 := (sF_ne rfl (sF_ne rfl (v0_109_27))).trans e85.symm
            subst q85
            refine g_iconst 1 89 (gd rfl) rfl rfl ?_
            refine g_iadd 90 (gd rfl) rfl (fun z89 e89 => ?_)
            have i89 := in_add 1 1000 e89 i71 (in_c 1 rfl) rfl rfl
            refine g_aload_n 91 (gd rfl) rfl rfl ?_
            refine g_getI 94 (gd rfl) rfl rfl rfl (fun z91 e91 => ?_)
            have q91 : u_109_22 = z91 := (sF_ne rfl (sF_ne rfl (fr_F e_109_22 hFc0 rfl))).trans e91.symm
            subst q91
            refine g_cmp_ge 97 118 (gd rfl) rfl rfl (fun c94 => ?_) (fun c94 => ?_)
            · skip
              refine g_iconst 0 119 (gd rfl) rfl rfl ?_
              refine g_istore_n 120 (gd rfl) rfl (Nat.le_of_ble_eq_true rfl) ?_
              refine g_iload_n 121 (gd rfl) rfl rfl ?_
              refine g_calls (As := [.int z71]) (r := []) 124 (gd rfl) rfl rfl rfl rfl rfl (Nat.le_of_ble_eq_true rfl) (mc := 0) (ms := 0) (Nat.zero_le _) (Nat.zero_le _) (P := fun v u => _) ?_ (fun v u h => h)
              intro po121 xx121 hp121 hx121
              refine g_enter2 (k := 297) (N := 300) (by omega) rfl (Nat.le_of_ble_eq_true rfl) ?_
              refine g_iload_n 1 (gd rfl) rfl rfl ?_
              refine g_bipush 48 3 (gd rfl) rfl rfl ?_
              refine g_cmp_lt 6 16 (gd rfl) rfl rfl (fun c121x3 => ?_) (fun c121x3 => ?_)
              · skip
                refine g_iconst 0 17 (gd rfl) rfl rfl ?_
                refine g_ireturn (gd rfl) rfl (nb01 (in_w 0 1 (in_c 0 rfl) rfl)) (hp121 _ _ ?_)
                show GG _ _ _ _ _ _ _ _ [.int (Int32.ofInt 0)] _ _ _
                refine g_if_ne 127 131 (gd rfl) rfl rfl (fun c124 => ?_) (fun c124 => ?_)
                · skip
                  exact zn_ne c124 (in_c 0 rfl) rfl
                · skip
                  refine g_iload_n 128 (gd rfl) rfl rfl ?_
                  refine g_if_eq 131 181 (gd rfl) rfl rfl (fun c128 => ?_) (fun c128 => ?_)
                  · skip
                    refine g_aload_n 182 (gd rfl) rfl rfl ?_
                    refine g_iload_n 183 (gd rfl) rfl rfl ?_
                    refine g_calls (As := [.int z71]) (r := [.ref (A 109)]) 186 (gd rfl) rfl rfl rfl rfl rfl (Nat.le_of_ble_eq_true rfl) (mc := 0) (ms := 0) (Nat.zero_le _) (Nat.zero_le _) (P := fun v u => _) ?_ (fun v u h => h)
                    intro po183 xx183 hp183 hx183
                    refine g_enter2 (k := 296) (N := 300) (by omega) rfl (Nat.le_of_ble_eq_true rfl) ?_
                    refine g_iload_n 1 (gd rfl) rfl rfl ?_
                    refine g_bipush 97 3 (gd rfl) rfl rfl ?_
                    refine g_cmp_lt 6 16 (gd rfl) rfl rfl (fun c183x3 => ?_) (fun c183x3 => ?_)
                    · skip
                      refine g_iconst 0 17 (gd rfl) rfl rfl ?_
                      refine g_ireturn (gd rfl) rfl (nb01 (in_w 0 1 (in_c 0 rfl) rfl)) (hp183 _ _ ?_)
                      show GG _ _ _ _ _ _ _ _ [.int (Int32.ofInt 0), .ref (A 109)] _ _ _
                      refine g_if_eq 189 193 (gd rfl) rfl rfl (fun c186 => ?_) (fun c186 => ?_)
                      · skip
                        refine g_iconst 3 194 (gd rfl) rfl rfl ?_
                        refine g_putI 197 (gd rfl) rfl rfl rfl rfl ?_
                        have hI194 := inv_sF (q := 109) (j := 28) hI75 rfl (in_w (-2147483648) 2147483647 (in_c 3 rfl) rfl)
                        refine g_aload_n 198 (gd rfl) rfl rfl ?_
                        refine g_getI 201 (gd rfl) rfl rfl rfl (fun z198 e198 => ?_)
                        have q198 : (Int32.ofInt 3) = z198 := (sF_get).trans e198.symm
                        subst q198
                        refine g_iconst 3 202 (gd rfl) rfl rfl ?_
                        refine g_cmp_ne 205 220 (gd rfl) rfl rfl (fun c202 => ?_) (fun c202 => ?_)
                        · skip
                          exact n_ne c202 (in_c 3 rfl) (in_c 3 rfl) rfl
                        · skip
                          refine g_iload_n 206 (gd rfl) rfl rfl ?_
                          refine g_bipush 59 208 (gd rfl) rfl rfl ?_
                          refine g_cmp_eq 211 220 (gd rfl) rfl rfl (fun c208 => ?_) (fun c208 => ?_)
                          · skip
                            exact n_eq c208 i81 (in_c 59 rfl) rfl
                          · skip
                            refine g_aload_n 212 (gd rfl) rfl rfl ?_
                            refine g_iconst 1 213 (gd rfl) rfl rfl ?_
                            refine g_aload_n 214 (gd rfl) rfl rfl ?_
                            refine g_getI 217 (gd rfl) rfl rfl rfl (fun z214 e214 => ?_)
                            have q214 : w0_109_27 = z214 := (sF_ne rfl (sF_ne rfl (sF_get))).trans e214.symm
                            subst q214
                            refine g_callv (X := _) (As := [.int (Int32.ofInt 1), .int w0_109_27]) (r := []) (b := A 109) (q := 109) 220 (gd rfl) rfl rfl rfl rfl rfl (ww_o rfl) (Nat.le_of_ble_eq_true rfl) (Nat.zero_le _) (Nat.zero_le _) (k_298 (by omega) hI194 (in_w 1 5 (in_c 1 rfl) rfl)) (fun e u h => h) (fun v u h => ?_)
                            obtain ⟨s217, hI217, hF217, n217, rfl, rfl⟩ := h
                            obtain ⟨z217a, e217⟩ : ∃ w, w = s217.2.2.1 109 23 := ⟨_, rfl⟩
                            have i217a := inv_F hI217 0 9 rfl e217
                            rw [← (show z217a = s217.2.2.1 109 23 from e217)] at n217
                            show GG _ _ _ _ _ _ _ _ [] _ _ _
                            refine g_aload_n 221 (gd rfl) rfl rfl ?_
                            refine g_dup 222 (gd rfl) rfl rfl ?_
                            refine g_getI 225 (gd rfl) rfl rfl rfl (fun z222 e222 => ?_)
                            have q222 : w0_109_27 = z222 := (fr_F (s := (sF (sF (sF sc0 109 29 w0_109_27) 109 30 z71) 109 28 (Int32.ofInt 3))) (sF_ne rfl (sF_ne rfl (sF_ne rfl (v0_109_27)))) hF217 rfl).trans e222.symm
                            subst q222
                            refine g_iconst 1 226 (gd rfl) rfl rfl ?_
                            refine g_iadd 227 (gd rfl) rfl (fun z226 e226 => ?_)
                            have i226 := in_add 1 1000 e226 i71 (in_c 1 rfl) rfl rfl
                            refine g_putI 230 (gd rfl) rfl rfl rfl rfl ?_
                            have hI227 := inv_sF (q := 109) (j := 27) hI217 rfl (in_w 0 1000 i226 rfl)
                            have n230 : (z226).toInt ≤ (u_109_22).toInt := by have a0 := ro_109_22; unfold In at a0; have a1 := i71; unfold In at a1; have a2 := (in_c 0 rfl); unfold In at a2; have a3 := i81; unfold In at a3; have a4 := i226; unfold In at a4; have a5 := t_add e226 i71 (in_c 1 rfl) rfl; have a6 := (in_c 1 rfl); unfold In at a6; have a7 := i217a; unfold In at a7; have a8 := (in_c 3 rfl); unfold In at a8; have a9 := i89; unfold In at a9; have a10 := t_add e89 i71 (in_c 1 rfl) rfl; omega
                            have n230a : ((sF s217 109 27 z226).2.2.1 109 27).toInt ≤ ((sF s217 109 27 z226).2.2.1 109 22).toInt := by have b0 : z226 = (sF s217 109 27 z226).2.2.1 109 27 := sF_get; have b1 : u_109_22 = (sF s217 109 27 z226).2.2.1 109 22 := sF_ne rfl (fr_F (s := (sF (sF (sF sc0 109 29 w0_109_27) 109 30 z71) 109 28 (Int32.ofInt 3))) (sF_ne rfl (sF_ne rfl (sF_ne rfl (fr_F e_109_22 hFc0 rfl)))) hF217 rfl); rw [← b0, ← b1]; exact n230
                            have n230b : (u_109_27).toInt ≤ (z226).toInt := by have a0 := ro_109_22; unfold In at a0; have a1 := i71; unfold In at a1; have a2 := (in_c 0 rfl); unfold In at a2; have a3 := i81; unfold In at a3; have a4 := i226; unfold In at a4; have a5 := t_add e226 i71 (in_c 1 rfl) rfl; have a6 := (in_c 1 rfl); unfold In at a6; have a7 := i217a; unfold In at a7; have a8 := (in_c 3 rfl); unfold In at a8; have a9 := i89; unfold In at a9; have a10 := t_add e89 i71 (in_c 1 rfl) rfl; omega
                            have n230c : (s.2.2.1 109 27).toInt ≤ ((sF s217 109 27 z226).2.2.1 109 27).toInt := by have b0 : z226 = (sF s217 109 27 z226).2.2.1 109 27 := sF_get; first | (rw [← b0, ← e_109_27]; exact n230b) | (rw [← b0]; exact n230b)
                            have n230d : ((Int32.ofInt 3)).toInt ≠ 0 → (u_109_27).toInt + 1 ≤ (z226).toInt := by have a0 := ro_109_22; unfold In at a0; have a1 := i71; unfold In at a1; have a2 := (in_c 0 rfl); unfold In at a2; have a3 := i81; unfold In at a3; have a4 := i226; unfold In at a4; have a5 := t_add e226 i71 (in_c 1 rfl) rfl; have a6 := (in_c 1 rfl); unfold In at a6; have a7 := i217a; unfold In at a7; have a8 := (in_c 3 rfl); unfold In at a8; have a9 := i89; unfold In at a9; have a10 := t_add e89 i71 (in_c 1 rfl) rfl; omega
                            have n230e : ((sF s217 109 27 z226).2.2.1 109 28).toInt ≠ 0 → (s.2.2.1 109 27).toInt + 1 ≤ ((sF s217 109 27 z226).2.2.1 109 27).toInt := by have b0 : (Int32.ofInt 3) = (sF s217 109 27 z226).2.2.1 109 28 := sF_ne rfl (fr_F (s := (sF (sF (sF sc0 109 29 w0_109_27) 109 30 z71) 109 28 (Int32.ofInt 3))) (sF_get) hF217 rfl); have b1 : z226 = (sF s217 109 27 z226).2.2.1 109 27 := sF_get; first | (rw [← b0, ← b1, ← e_109_27]; exact n230d) | (rw [← b0, ← b1]; exact n230d)
                            have n230f : ((Int32.ofInt 3)).toInt = 1 → 97 ≤ (z71).toInt := by have a0 := ro_109_22; unfold In at a0; have a1 := i71; unfold In at a1; have a2 := (in_c 0 rfl); unfold In at a2; have a3 := i81; unfold In at a3; have a4 := i226; unfold In at a4; have a5 := t_add e226 i71 (in_c 1 rfl) rfl; have a6 := (in_c 1 rfl); unfold In at a6; have a7 := i217a; unfold In at a7; have a8 := (in_c 3 rfl); unfold In at a8; have a9 := i89; unfold In at a9; have a10 := t_add e89 i71 (in_c 1 rfl) rfl; omega
                            have n230g : ((sF s217 109 27 z226).2.2.1 109 28).toInt = 1 → 97 ≤ ((sF s217 109 27 z226).2.2.1 109 30).toInt := by have b0 : (Int32.ofInt 3) = (sF s217 109 27 z226).2.2.1 109 28 := sF_ne rfl (fr_F (s := (sF (sF (sF sc0 109 29 w0_109_27) 109 30 z71) 109 28 (Int32.ofInt 3))) (sF_get) hF217 rfl); have b1 : z71 = (sF s217 109 27 z226).2.2.1 109 30 := sF_ne rfl (fr_F (s := (sF (sF (sF sc0 109 29 w0_109_27) 109 30 z71) 109 28 (Int32.ofInt 3))) (sF_ne rfl (sF_get)) hF217 rfl); rw [← b0, ← b1]; exact n230f
                            have n230h : ((Int32.ofInt 3)).toInt = 1 → (z71).toInt ≤ 122 := by have a0 := ro_109_22; unfold In at a0; have a1 := i71; unfold In at a1; have a2 := (in_c 0 rfl); unfold In at a2; have a3 := i81; unfold In at a3; have a4 := i226; unfold In at a4; have a5 := t_add e226 i71 (in_c 1 rfl) rfl; have a6 := (in_c 1 rfl); unfold In at a6; have a7 := i217a; unfold In at a7; have a8 := (in_c 3 rfl); unfold In at a8; have a9 := i89; unfold In at a9; have a10 := t_add e89 i71 (in_c 1 rfl) rfl; omega
                            have n230i : ((sF s217 109 27 z226).2.2.1 109 28).toInt = 1 → ((sF s217 109 27 z226).2.2.1 109 30).toInt ≤ 122 := by have b0 : (Int32.ofInt 3) = (sF s217 109 27 z226).2.2.1 109 28 := sF_ne rfl (fr_F (s := (sF (sF (sF sc0 109 29 w0_109_27) 109 30 z71) 109 28 (Int32.ofInt 3))) (sF_get) hF217 rfl); have b1 : z71 = (sF s217 109 27 z226).2.2.1 109 30 := sF_ne rfl (fr_F (s := (sF (sF (sF sc0 109 29 w0_109_27) 109 30 z71) 109 28 (Int32.ofInt 3))) (sF_ne rfl (sF_get)) hF217 rfl); rw [← b0, ← b1]; exact n230h
                            exact g_return (gd rfl) rfl (hP _ _ ⟨(sF s217 109 27 z226), hI227, (fr_sF rfl (fr_tr rfl (fr_sF rfl (fr_sF rfl (fr_sF rfl hFc0))) hF217)), n230a, n230c, n230e, n230g, n230i, rfl, rfl⟩)
                      · skip
                        exact zn_ne c186 (in_c 0 rfl) rfl
                    · skip
                      exact n_le c183x3 (in_c 97 rfl) i81 rfl
                  · skip
                    exact zn_ne c128 (in_c 0 rfl) rfl
              · skip
                exact n_le c121x3 (in_c 48 rfl) i81 rfl
            · skip
              have i94 := r_lt1 1 999 c94 i89 ro_109_22 rfl
              have i94a := r_lt2 2 1000 c94 i89 ro_109_22 rfl
              refine g_aload_n 98 (gd rfl) rfl rfl ?_
              refine g_getA (q2 := 125) 101 (gd rfl) rfl rfl rfl rfl ?_
              refine g_aload_n 102 (gd rfl) rfl rfl ?_
              refine g_getI 105 (gd rfl) rfl rfl rfl (fun z102 e102 => ?_)
              have q102 : w0_109_27 = z102 := (sF_ne rfl (sF_ne rfl (v0_109_27))).trans e102.symm
              subst q102
              refine g_iconst 1 106 (gd rfl) rfl rfl ?_
              refine g_iadd 107 (gd rfl) rfl (fun z106 e106 => ?_)
              have i106 := in_add 1 1000 e106 i71 (in_c 1 rfl) rfl rfl
              have i107 : In z106 0 999 := by have a0 := i94a; unfold In at a0; have a1 := i71; unfold In at a1; have a2 := i81; unfold In at a2; have a3 := i106; unfold In at a3; have a4 := t_add e106 i71 (in_c 1 rfl) rfl; have a5 := (in_c 1 rfl); unfold In at a5; have a6 := i94; unfold In at a6; have a7 := t_add e89 i71 (in_c 1 rfl) rfl; exact ⟨by omega, by omega⟩
              refine g_iaload 108 (gd rfl) rfl (n := 1000) rfl (in_ix i107 rfl) (fun z107 e107 => ?_)
              have i107a := inv_I hI75 (n := 1000) (t := 0) 0 126 rfl (in_ix i107 rfl) rfl e107
              refine g_calls (As := [.int z107]) (r := []) 111 (gd rfl) rfl rfl rfl rfl rfl (Nat.le_of_ble_eq_true rfl) (mc := 0) (ms := 0) (Nat.zero_le _) (Nat.zero_le _) (P := fun v u => _) ?_ (fun v u h => h)
              intro po108 xx108 hp108 hx108
              refine g_enter2 (k := 297) (N := 300) (by omega) rfl (Nat.le_of_ble_eq_true rfl) ?_
              refine g_iload_n 1 (gd rfl) rfl rfl ?_
              refine g_bipush 48 3 (gd rfl) rfl rfl ?_
              refine g_cmp_lt 6 16 (gd rfl) rfl rfl (fun c108x3 => ?_) (fun c108x3 => ?_)
              · skip
                have i108x3 := r_lt1 0 47 c108x3 i107a (in_c 48 rfl) rfl
                refine g_iconst 0 17 (gd rfl) rfl rfl ?_
                refine g_ireturn (gd rfl) rfl (nb01 (in_w 0 1 (in_c 0 rfl) rfl)) (hp108 _ _ ?_)
                show GG _ _ _ _ _ _ _ _ [.int (Int32.ofInt 0)] _ _ _
                refine g_if_eq 114 118 (gd rfl) rfl rfl (fun c111 => ?_) (fun c111 => ?_)
                · skip
                  refine g_iconst 0 119 (gd rfl) rfl rfl ?_
                  refine g_istore_n 120 (gd rfl) rfl (Nat.le_of_ble_eq_true rfl) ?_
                  refine g_iload_n 121 (gd rfl) rfl rfl ?_
                  refine g_calls (As := [.int z71]) (r := []) 124 (gd rfl) rfl rfl rfl rfl rfl (Nat.le_of_ble_eq_true rfl) (mc := 0) (ms := 0) (Nat.zero_le _) (Nat.zero_le _) (P := fun v u => _) ?_ (fun v u h => h)
                  intro po121 xx121 hp121 hx121
                  refine g_enter2 (k := 297) (N := 300) (by omega) rfl (Nat.le_of_ble_eq_true rfl) ?_
                  refine g_iload_n 1 (gd rfl) rfl rfl ?_
                  refine g_bipush 48 3 (gd rfl) rfl rfl ?_
                  refine g_cmp_lt 6 16 (gd rfl) rfl rfl (fun c121x3 => ?_) (fun c121x3 => ?_)
                  · skip
                    refine g_iconst 0 17 (gd rfl) rfl rfl ?_
                    refine g_ireturn (gd rfl) rfl (nb01 (in_w 0 1 (in_c 0 rfl) rfl)) (hp121 _ _ ?_)
                    show GG _ _ _ _ _ _ _ _ [.int (Int32.ofInt 0)] _ _ _
                    refine g_if_ne 127 131 (gd rfl) rfl rfl (fun c124 => ?_) (fun c124 => ?_)
                    · skip
                      exact zn_ne c124 (in_c 0 rfl) rfl
                    · skip
                      refine g_iload_n 128 (gd rfl) rfl rfl ?_
                      refine g_if_eq 131 181 (gd rfl) rfl rfl (fun c128 => ?_) (fun c128 => ?_)
                      · skip
                        refine g_aload_n 182 (gd rfl) rfl rfl ?_
                        refine g_iload_n 183 (gd rfl) rfl rfl ?_
                        refine g_calls (As := [.int z71]) (r := [.ref (A 109)]) 186 (gd rfl) rfl rfl rfl rfl rfl (Nat.le_of_ble_eq_true rfl) (mc := 0) (ms := 0) (Nat.zero_le _) (Nat.zero_le _) (P := fun v u => _) ?_ (fun v u h => h)
                        intro po183 xx183 hp183 hx183
                        refine g_enter2 (k := 296) (N := 300) (by omega) rfl (Nat.le_of_ble_eq_true rfl) ?_
                        refine g_iload_n 1 (gd rfl) rfl rfl ?_
                        refine g_bipush 97 3 (gd rfl) rfl rfl ?_
                        refine g_cmp_lt 6 16 (gd rfl) rfl rfl (fun c183x3 => ?_) (fun c183x3 => ?_)
                        · skip
                          refine g_iconst 0 17 (gd rfl) rfl rfl ?_
                          refine g_ireturn (gd rfl) rfl (nb01 (in_w 0 1 (in_c 0 rfl) rfl)) (hp183 _ _ ?_)
                          show GG _ _ _ _ _ _ _ _ [.int (Int32.ofInt 0), .ref (A 109)] _ _ _
                          refine g_if_eq 189 193 (gd rfl) rfl rfl (fun c186 => ?_) (fun c186 => ?_)
                          · skip
                            refine g_iconst 3 194 (gd rfl) rfl rfl ?_
                            refine g_putI 197 (gd rfl) rfl rfl rfl rfl ?_
                            have hI194 := inv_sF (q := 109) (j := 28) hI75 rfl (in_w (-2147483648) 2147483647 (in_c 3 rfl) rfl)
                            refine g_aload_n 198 (gd rfl) rfl rfl ?_
                            refine g_getI 201 (gd rfl) rfl rfl rfl (fun z198 e198 => ?_)
                            have q198 : (Int32.ofInt 3) = z198 := (sF_get).trans e198.symm
                            subst q198
                            refine g_iconst 3 202 (gd rfl) rfl rfl ?_
                            refine g_cmp_ne 205 220 (gd rfl) rfl rfl (fun c202 => ?_) (fun c202 => ?_)
                            · skip
                              exact n_ne c202 (in_c 3 rfl) (in_c 3 rfl) rfl
                            · skip
                              refine g_iload_n 206 (gd rfl) rfl rfl ?_
                              refine g_bipush 59 208 (gd rfl) rfl rfl ?_
                              refine g_cmp_eq 211 220 (gd rfl) rfl rfl (fun c208 => ?_) (fun c208 => ?_)
                              · skip
                                exact n_eq c208 i81 (in_c 59 rfl) rfl
                              · skip
                                refine g_aload_n 212 (gd rfl) rfl rfl ?_
                                refine g_iconst 1 213 (gd rfl) rfl rfl ?_
                                refine g_aload_n 214 (gd rfl) rfl rfl ?_
                                refine g_getI 217 (gd rfl) rfl rfl rfl (fun z214 e214 => ?_)
                                have q214 : w0_109_27 = z214 := (sF_ne rfl (sF_ne rfl (sF_get))).trans e214.symm
                                subst q214
                                refine g_callv (X := _) (As := [.int (Int32.ofInt 1), .int w0_109_27]) (r := []) (b := A 109) (q := 109) 220 (gd rfl) rfl rfl rfl rfl rfl (ww_o rfl) (Nat.le_of_ble_eq_true rfl) (Nat.zero_le _) (Nat.zero_le _) (k_298 (by omega) hI194 (in_w 1 5 (in_c 1 rfl) rfl)) (fun e u h => h) (fun v u h => ?_)
                                obtain ⟨s217, hI217, hF217, n217, rfl, rfl⟩ := h
                                obtain ⟨z217a, e217⟩ : ∃ w, w = s217.2.2.1 109 23 := ⟨_, rfl⟩
                                have i217a := inv_F hI217 0 9 rfl e217
                                rw [← (show z217a = s217.2.2.1 109 23 from e217)] at n217
                                show GG _ _ _ _ _ _ _ _ [] _ _ _
                                refine g_aload_n 221 (gd rfl) rfl rfl ?_
                                refine g_dup 222 (gd rfl) rfl rfl ?_
                                refine g_getI 225 (gd rfl) rfl rfl rfl (fun z222 e222 => ?_)
                                have q222 : w0_109_27 = z222 := (fr_F (s := (sF (sF (sF sc0 109 29 w0_109_27) 109 30 z71) 109 28 (Int32.ofInt 3))) (sF_ne rfl (sF_ne rfl (sF_ne rfl (v0_109_27)))) hF217 rfl).trans e222.symm
                                subst q222
                                refine g_iconst 1 226 (gd rfl) rfl rfl ?_
                                refine g_iadd 227 (gd rfl) rfl (fun z226 e226 => ?_)
                                have i226 := in_add 1 1000 e226 i71 (in_c 1 rfl) rfl rfl
                                refine g_putI 230 (gd rfl) rfl rfl rfl rfl ?_
                                have hI227 := inv_sF (q := 109) (j := 27) hI217 rfl (in_w 0 1000 i226 rfl)
                                have n230 : (z226).toInt ≤ (u_109_22).toInt := by have a0 := i94a; unfold In at a0; have a1 := i71; unfold In at a1; have a2 := (in_c 0 rfl); unfold In at a2; have a3 := i81; unfold In at a3; have a4 := i226; unfold In at a4; have a5 := t_add e226 i71 (in_c 1 rfl) rfl; have a6 := (in_c 1 rfl); unfold In at a6; have a7 := i217a; unfold In at a7; have a8 := (in_c 3 rfl); unfold In at a8; have a9 := i107; unfold In at a9; have a10 := t_add e106 i71 (in_c 1 rfl) rfl; have a11 := i94; unfold In at a11; have a12 := t_add e89 i71 (in_c 1 rfl) rfl; omega
                                have n230a : ((sF s217 109 27 z226).2.2.1 109 27).toInt ≤ ((sF s217 109 27 z226).2.2.1 109 22).toInt := by have b0 : z226 = (sF s217 109 27 z226).2.2.1 109 27 := sF_get; have b1 : u_109_22 = (sF s217 109 27 z226).2.2.1 109 22 := sF_ne rfl (fr_F (s := (sF (sF (sF sc0 109 29 w0_109_27) 109 30 z71) 109 28 (Int32.ofInt 3))) (sF_ne rfl (sF_ne rfl (sF_ne rfl (fr_F e_109_22 hFc0 rfl)))) hF217 rfl); rw [← b0, ← b1]; exact n230
                                have n230b : (u_109_27).toInt ≤ (z226).toInt := by have a0 := i94a; unfold In at a0; have a1 := i71; unfold In at a1; have a2 := (in_c 0 rfl); unfold In at a2; have a3 := i81; unfold In at a3; have a4 := i226; unfold In at a4; have a5 := t_add e226 i71 (in_c 1 rfl) rfl; have a6 := (in_c 1 rfl); unfold In at a6; have a7 := i217a; unfold In at a7; have a8 := (in_c 3 rfl); unfold In at a8; have a9 := i107; unfold In at a9; have a10 := t_add e106 i71 (in_c 1 rfl) rfl; have a11 := i94; unfold In at a11; have a12 := t_add e89 i71 (in_c 1 rfl) rfl; omega
                                have n230c : (s.2.2.1 109 27).toInt ≤ ((sF s217 109 27 z226).2.2.1 109 27).toInt := by have b0 : z226 = (sF s217 109 27 z226).2.2.1 109 27 := sF_get; first | (rw [← b0, ← e_109_27]; exact n230b) | (rw [← b0]; exact n230b)
                                have n230d : ((Int32.ofInt 3)).toInt ≠ 0 → (u_109_27).toInt + 1 ≤ (z226).toInt := by have a0 := i94a; unfold In at a0; have a1 := i71; unfold In at a1; have a2 := (in_c 0 rfl); unfold In at a2; have a3 := i81; unfold In at a3; have a4 := i226; unfold In at a4; have a5 := t_add e226 i71 (in_c 1 rfl) rfl; have a6 := (in_c 1 rfl); unfold In at a6; have a7 := i217a; unfold In at a7; have a8 := (in_c 3 rfl); unfold In at a8; have a9 := i107; unfold In at a9; have a10 := t_add e106 i71 (in_c 1 rfl) rfl; have a11 := i94; unfold In at a11; have a12 := t_add e89 i71 (in_c 1 rfl) rfl; omega
                                have n230e : ((sF s217 109 27 z226).2.2.1 109 28).toInt ≠ 0 → (s.2.2.1 109 27).toInt + 1 ≤ ((sF s217 109 27 z226).2.2.1 109 27).toInt := by have b0 : (Int32.ofInt 3) = (sF s217 109 27 z226).2.2.1 109 28 := sF_ne rfl (fr_F (s := (sF (sF (sF sc0 109 29 w0_109_27) 109 30 z71) 109 28 (Int32.ofInt 3))) (sF_get) hF217 rfl); have b1 : z226 = (sF s217 109 27 z226).2.2.1 109 27 := sF_get; first | (rw [← b0, ← b1, ← e_109_27]; exact n230d) | (rw [← b0, ← b1]; exact n230d)
                                have n230f : ((Int32.ofInt 3)).toInt = 1 → 97 ≤ (z71).toInt := by have a0 := i94a; unfold In at a0; have a1 := i71; unfold In at a1; have a2 := (in_c 0 rfl); unfold In at a2; have a3 := i81; unfold In at a3; have a4 := i226; unfold In at a4; have a5 := t_add e226 i71 (in_c 1 rfl) rfl; have a6 := (in_c 1 rfl); unfold In at a6; have a7 := i217a; unfold In at a7; have a8 := (in_c 3 rfl); unfold In at a8; have a9 := i107; unfold In at a9; have a10 := t_add e106 i71 (in_c 1 rfl) rfl; have a11 := i94; unfold In at a11; have a12 := t_add e89 i71 (in_c 1 rfl) rfl; omega
                                have n230g : ((sF s217 109 27 z226).2.2.1 109 28).toInt = 1 → 97 ≤ ((sF s217 109 27 z226).2.2.1 109 30).toInt := by have b0 : (Int32.ofInt 3) = (sF s217 109 27 z226).2.2.1 109 28 := sF_ne rfl (fr_F (s := (sF (sF (sF sc0 109 29 w0_109_27) 109 30 z71) 109 28 (Int32.ofInt 3))) (sF_get) hF217 rfl); have b1 : z71 = (sF s217 109 27 z226).2.2.1 109 30 := sF_ne rfl (fr_F (s := (sF (sF (sF sc0 109 29 w0_109_27) 109 30 z71) 109 28 (Int32.ofInt 3))) (sF_ne rfl (sF_get)) hF217 rfl); rw [← b0, ← b1]; exact n230f
                                have n230h : ((Int32.ofInt 3)).toInt = 1 → (z71).toInt ≤ 122 := by have a0 := i94a; unfold In at a0; have a1 := i71; unfold In at a1; have a2 := (in_c 0 rfl); unfold In at a2; have a3 := i81; unfold In at a3; have a4 := i226; unfold In at a4; have a5 := t_add e226 i71 (in_c 1 rfl) rfl; have a6 := (in_c 1 rfl); unfold In at a6; have a7 := i217a; unfold In at a7; have a8 := (in_c 3 rfl); unfold In at a8; have a9 := i107; unfold In at a9; have a10 := t_add e106 i71 (in_c 1 rfl) rfl; have a11 := i94; unfold In at a11; have a12 := t_add e89 i71 (in_c 1 rfl) rfl; omega
                                have n230i : ((sF s217 109 27 z226).2.2.1 109 28).toInt = 1 → ((sF s217 109 27 z226).2.2.1 109 30).toInt ≤ 122 := by have b0 : (Int32.ofInt 3) = (sF s217 109 27 z226).2.2.1 109 28 := sF_ne rfl (fr_F (s := (sF (sF (sF sc0 109 29 w0_109_27) 109 30 z71) 109 28 (Int32.ofInt 3))) (sF_get) hF217 rfl); have b1 : z71 = (sF s217 109 27 z226).2.2.1 109 30 := sF_ne rfl (fr_F (s := (sF (sF (sF sc0 109 29 w0_109_27) 109 30 z71) 109 28 (Int32.ofInt 3))) (sF_ne rfl (sF_get)) hF217 rfl); rw [← b0, ← b1]; exact n230h
                                exact g_return (gd rfl) rfl (hP _ _ ⟨(sF s217 109 27 z226), hI227, (fr_sF rfl (fr_tr rfl (fr_sF rfl (fr_sF rfl (fr_sF rfl hFc0))) hF217)), n230a, n230c, n230e, n230g, n230i, rfl, rfl⟩)
                          · skip
                            exact zn_ne c186 (in_c 0 rfl) rfl
                        · skip
                          exact n_le c183x3 (in_c 97 rfl) i81 rfl
                      · skip
                        exact zn_ne c128 (in_c 0 rfl) rfl
                  · skip
                    exact n_le c121x3 (in_c 48 rfl) i81 rfl
                · skip
                  exact zn_ne c111 (in_c 0 rfl) rfl
              · skip
                have i108x3 := r_le2 48 126 c108x3 (in_c 48 rfl) i107a rfl
                refine g_iload_n 7 (gd rfl) rfl rfl ?_
                refine g_bipush 57 9 (gd rfl) rfl rfl ?_
                refine g_cmp_gt 12 16 (gd rfl) rfl rfl (fun c108x9 => ?_) (fun c108x9 => ?_)
                · skip
                  have i108x9 := r_lt2 58 126 c108x9 (in_c 57 rfl) i108x3 rfl
                  refine g_iconst 0 17 (gd rfl) rfl rfl ?_
                  refine g_ireturn (gd rfl) rfl (nb01 (in_w 0 1 (in_c 0 rfl) rfl)) (hp108 _ _ ?_)
                  show GG _ _ _ _ _ _ _ _ [.int (Int32.ofInt 0)] _ _ _
                  refine g_if_eq 114 118 (gd rfl) rfl rfl (fun c111 => ?_) (fun c111 => ?_)
                  · skip
                    refine g_iconst 0 119 (gd rfl) rfl rfl ?_
                    refine g_istore_n 120 (gd rfl) rfl (Nat.le_of_ble_eq_true rfl) ?_
                    refine g_iload_n 121 (gd rfl) rfl rfl ?_
                    refine g_calls (As := [.int z71]) (r := []) 124 (gd rfl) rfl rfl rfl rfl rfl (Nat.le_of_ble_eq_true rfl) (mc := 0) (ms := 0) (Nat.zero_le _) (Nat.zero_le _) (P := fun v u => _) ?_ (fun v u h => h)
                    intro po121 xx121 hp121 hx121
                    refine g_enter2 (k := 297) (N := 300) (by omega) rfl (Nat.le_of_ble_eq_true rfl) ?_
                    refine g_iload_n 1 (gd rfl) rfl rfl ?_
                    refine g_bipush 48 3 (gd rfl) rfl rfl ?_
                    refine g_cmp_lt 6 16 (gd rfl) rfl rfl (fun c121x3 => ?_) (fun c121x3 => ?_)
                    · skip
                      refine g_iconst 0 17 (gd rfl) rfl rfl ?_
                      refine g_ireturn (gd rfl) rfl (nb01 (in_w 0 1 (in_c 0 rfl) rfl)) (hp121 _ _ ?_)
                      show GG _ _ _ _ _ _ _ _ [.int (Int32.ofInt 0)] _ _ _
                      refine g_if_ne 127 131 (gd rfl) rfl rfl (fun c124 => ?_) (fun c124 => ?_)
                      · skip
                        exact zn_ne c124 (in_c 0 rfl) rfl
                      · skip
                        refine g_iload_n 128 (gd rfl) rfl rfl ?_
                        refine g_if_eq 131 181 (gd rfl) rfl rfl (fun c128 => ?_) (fun c128 => ?_)
                        · skip
                          refine g_aload_n 182 (gd rfl) rfl rfl ?_
                          refine g_iload_n 183 (gd rfl) rfl rfl ?_
                          refine g_calls (As := [.int z71]) (r := [.ref (A 109)]) 186 (gd rfl) rfl rfl rfl rfl rfl (Nat.le_of_ble_eq_true rfl) (mc := 0) (ms := 0) (Nat.zero_le _) (Nat.zero_le _) (P := fun v u => _) ?_ (fun v u h => h)
                          intro po183 xx183 hp183 hx183
                          refine g_enter2 (k := 296) (N := 300) (by omega) rfl (Nat.le_of_ble_eq_true rfl) ?_
                          refine g_iload_n 1 (gd rfl) rfl rfl ?_
                          refine g_bipush 97 3 (gd rfl) rfl rfl ?_
                          refine g_cmp_lt 6 16 (gd rfl) rfl rfl (fun c183x3 => ?_) (fun c183x3 => ?_)
                          · skip
                            refine g_iconst 0 17 (gd rfl) rfl rfl ?_
                            refine g_ireturn (gd rfl) rfl (nb01 (in_w 0 1 (in_c 0 rfl) rfl)) (hp183 _ _ ?_)
                            show GG _ _ _ _ _ _ _ _ [.int (Int32.ofInt 0), .ref (A 109)] _ _ _
                            refine g_if_eq 189 193 (gd rfl) rfl rfl (fun c186 => ?_) (fun c186 => ?_)
                            · skip
                              refine g_iconst 3 194 (gd rfl) rfl rfl ?_
                              refine g_putI 197 (gd rfl) rfl rfl rfl rfl ?_
                              have hI194 := inv_sF (q := 109) (j := 28) hI75 rfl (in_w (-2147483648) 2147483647 (in_c 3 rfl) rfl)
                              refine g_aload_n 198 (gd rfl) rfl rfl ?_
                              refine g_getI 201 (gd rfl) rfl rfl rfl (fun z198 e198 => ?_)
                              have q198 : (Int32.ofInt 3) = z198 := (sF_get).trans e198.symm
                              subst q198
                              refine g_iconst 3 202 (gd rfl) rfl rfl ?_
                              refine g_cmp_ne 205 220 (gd rfl) rfl rfl (fun c202 => ?_) (fun c202 => ?_)
                              · skip
                                exact n_ne c202 (in_c 3 rfl) (in_c 3 rfl) rfl
                              · skip
                                refine g_iload_n 206 (gd rfl) rfl rfl ?_
                                refine g_bipush 59 208 (gd rfl) rfl rfl ?_
                                refine g_cmp_eq 211 220 (gd rfl) rfl rfl (fun c208 => ?_) (fun c208 => ?_)
                                · skip
                                  exact n_eq c208 i81 (in_c 59 rfl) rfl
                                · skip
                                  refine g_aload_n 212 (gd rfl) rfl rfl ?_
                                  refine g_iconst 1 213 (gd rfl) rfl rfl ?_
                                  refine g_aload_n 214 (gd rfl) rfl rfl ?_
                                  refine g_getI 217 (gd rfl) rfl rfl rfl (fun z214 e214 => ?_)
                                  have q214 : w0_109_27 = z214 := (sF_ne rfl (sF_ne rfl (sF_get))).trans e214.symm
                                  subst q214
                                  refine g_callv (X := _) (As := [.int (Int32.ofInt 1), .int w0_109_27]) (r := []) (b := A 109) (q := 109) 220 (gd rfl) rfl rfl rfl rfl rfl (ww_o rfl) (Nat.le_of_ble_eq_true rfl) (Nat.zero_le _) (Nat.zero_le _) (k_298 (by omega) hI194 (in_w 1 5 (in_c 1 rfl) rfl)) (fun e u h => h) (fun v u h => ?_)
                                  obtain ⟨s217, hI217, hF217, n217, rfl, rfl⟩ := h
                                  obtain ⟨z217a, e217⟩ : ∃ w, w = s217.2.2.1 109 23 := ⟨_, rfl⟩
                                  have i217a := inv_F hI217 0 9 rfl e217
                                  rw [← (show z217a = s217.2.2.1 109 23 from e217)] at n217
                                  show GG _ _ _ _ _ _ _ _ [] _ _ _
                                  refine g_aload_n 221 (gd rfl) rfl rfl ?_
                                  refine g_dup 222 (gd rfl) rfl rfl ?_
                                  refine g_getI 225 (gd rfl) rfl rfl rfl (fun z222 e222 => ?_)
                                  have q222 : w0_109_27 = z222 := (fr_F (s := (sF (sF (sF sc0 109 29 w0_109_27) 109 30 z71) 109 28 (Int32.ofInt 3))) (sF_ne rfl (sF_ne rfl (sF_ne rfl (v0_109_27)))) hF217 rfl).trans e222.symm
                                  subst q222
                                  refine g_iconst 1 226 (gd rfl) rfl rfl ?_
                                  refine g_iadd 227 (gd rfl) rfl (fun z226 e226 => ?_)
                                  have i226 := in_add 1 1000 e226 i71 (in_c 1 rfl) rfl rfl
                                  refine g_putI 230 (gd rfl) rfl rfl rfl rfl ?_
                                  have hI227 := inv_sF (q := 109) (j := 27) hI217 rfl (in_w 0 1000 i226 rfl)
                                  have n230 : (z226).toInt ≤ (u_109_22).toInt := by have a0 := i94a; unfold In at a0; have a1 := i71; unfold In at a1; have a2 := (in_c 0 rfl); unfold In at a2; have a3 := i81; unfold In at a3; have a4 := i226; unfold In at a4; have a5 := t_add e226 i71 (in_c 1 rfl) rfl; have a6 := (in_c 1 rfl); unfold In at a6; have a7 := i217a; unfold In at a7; have a8 := (in_c 3 rfl); unfold In at a8; have a9 := i107; unfold In at a9; have a10 := t_add e106 i71 (in_c 1 rfl) rfl; have a11 := i94; unfold In at a11; have a12 := t_add e89 i71 (in_c 1 rfl) rfl; omega
                                  have n230a : ((sF s217 109 27 z226).2.2.1 109 27).toInt ≤ ((sF s217 109 27 z226).2.2.1 109 22).toInt := by have b0 : z226 = (sF s217 109 27 z226).2.2.1 109 27 := sF_get; have b1 : u_109_22 = (sF s217 109 27 z226).2.2.1 109 22 := sF_ne rfl (fr_F (s := (sF (sF (sF sc0 109 29 w0_109_27) 109 30 z71) 109 28 (Int32.ofInt 3))) (sF_ne rfl (sF_ne rfl (sF_ne rfl (fr_F e_109_22 hFc0 rfl)))) hF217 rfl); rw [← b0, ← b1]; exact n230
                                  have n230b : (u_109_27).toInt ≤ (z226).toInt := by have a0 := i94a; unfold In at a0; have a1 := i71; unfold In at a1; have a2 := (in_c 0 rfl); unfold In at a2; have a3 := i81; unfold In at a3; have a4 := i226; unfold In at a4; have a5 := t_add e226 i71 (in_c 1 rfl) rfl; have a6 := (in_c 1 rfl); unfold In at a6; have a7 := i217a; unfold In at a7; have a8 := (in_c 3 rfl); unfold In at a8; have a9 := i107; unfold In at a9; have a10 := t_add e106 i71 (in_c 1 rfl) rfl; have a11 := i94; unfold In at a11; have a12 := t_add e89 i71 (in_c 1 rfl) rfl; omega
                                  have n230c : (s.2.2.1 109 27).toInt ≤ ((sF s217 109 27 z226).2.2.1 109 27).toInt := by have b0 : z226 = (sF s217 109 27 z226).2.2.1 109 27 := sF_get; first | (rw [← b0, ← e_109_27]; exact n230b) | (rw [← b0]; exact n230b)
                                  have n230d : ((Int32.ofInt 3)).toInt ≠ 0 → (u_109_27).toInt + 1 ≤ (z226).toInt := by have a0 := i94a; unfold In at a0; have a1 := i71; unfold In at a1; have a2 := (in_c 0 rfl); unfold In at a2; have a3 := i81; unfold In at a3; have a4 := i226; unfold In at a4; have a5 := t_add e226 i71 (in_c 1 rfl) rfl; have a6 := (in_c 1 rfl); unfold In at a6; have a7 := i217a; unfold In at a7; have a8 := (in_c 3 rfl); unfold In at a8; have a9 := i107; unfold In at a9; have a10 := t_add e106 i71 (in_c 1 rfl) rfl; have a11 := i94; unfold In at a11; have a12 := t_add e89 i71 (in_c 1 rfl) rfl; omega
                                  have n230e : ((sF s217 109 27 z226).2.2.1 109 28).toInt ≠ 0 → (s.2.2.1 109 27).toInt + 1 ≤ ((sF s217 109 27 z226).2.2.1 109 27).toInt := by have b0 : (Int32.ofInt 3) = (sF s217 109 27 z226).2.2.1 109 28 := sF_ne rfl (fr_F (s := (sF (sF (sF sc0 109 29 w0_109_27) 109 30 z71) 109 28 (Int32.ofInt 3))) (sF_get) hF217 rfl); have b1 : z226 = (sF s217 109 27 z226).2.2.1 109 27 := sF_get; first | (rw [← b0, ← b1, ← e_109_27]; exact n230d) | (rw [← b0, ← b1]; exact n230d)
                                  have n230f : ((Int32.ofInt 3)).toInt = 1 → 97 ≤ (z71).toInt := by have a0 := i94a; unfold In at a0; have a1 := i71; unfold In at a1; have a2 := (in_c 0 rfl); unfold In at a2; have a3 := i81; unfold In at a3; have a4 := i226; unfold In at a4; have a5 := t_add e226 i71 (in_c 1 rfl) rfl; have a6 := (in_c 1 rfl); unfold In at a6; have a7 := i217a; unfold In at a7; have a8 := (in_c 3 rfl); unfold In at a8; have a9 := i107; unfold In at a9; have a10 := t_add e106 i71 (in_c 1 rfl) rfl; have a11 := i94; unfold In at a11; have a12 := t_add e89 i71 (in_c 1 rfl) rfl; omega
                                  have n230g : ((sF s217 109 27 z226).2.2.1 109 28).toInt = 1 → 97 ≤ ((sF s217 109 27 z226).2.2.1 109 30).toInt := by have b0 : (Int32.ofInt 3) = (sF s217 109 27 z226).2.2.1 109 28 := sF_ne rfl (fr_F (s := (sF (sF (sF sc0 109 29 w0_109_27) 109 30 z71) 109 28 (Int32.ofInt 3))) (sF_get) hF217 rfl); have b1 : z71 = (sF s217 109 27 z226).2.2.1 109 30 := sF_ne rfl (fr_F (s := (sF (sF (sF sc0 109 29 w0_109_27) 109 30 z71) 109 28 (Int32.ofInt 3))) (sF_ne rfl (sF_get)) hF217 rfl); rw [← b0, ← b1]; exact n230f
                                  have n230h : ((Int32.ofInt 3)).toInt = 1 → (z71).toInt ≤ 122 := by have a0 := i94a; unfold In at a0; have a1 := i71; unfold In at a1; have a2 := (in_c 0 rfl); unfold In at a2; have a3 := i81; unfold In at a3; have a4 := i226; unfold In at a4; have a5 := t_add e226 i71 (in_c 1 rfl) rfl; have a6 := (in_c 1 rfl); unfold In at a6; have a7 := i217a; unfold In at a7; have a8 := (in_c 3 rfl); unfold In at a8; have a9 := i107; unfold In at a9; have a10 := t_add e106 i71 (in_c 1 rfl) rfl; have a11 := i94; unfold In at a11; have a12 := t_add e89 i71 (in_c 1 rfl) rfl; omega
                                  have n230i : ((sF s217 109 27 z226).2.2.1 109 28).toInt = 1 → ((sF s217 109 27 z226).2.2.1 109 30).toInt ≤ 122 := by have b0 : (Int32.ofInt 3) = (sF s217 109 27 z226).2.2.1 109 28 := sF_ne rfl (fr_F (s := (sF (sF (sF sc0 109 29 w0_109_27) 109 30 z71) 109 28 (Int32.ofInt 3))) (sF_get) hF217 rfl); have b1 : z71 = (sF s217 109 27 z226).2.2.1 109 30 := sF_ne rfl (fr_F (s := (sF (sF (sF sc0 109 29 w0_109_27) 109 30 z71) 109 28 (Int32.ofInt 3))) (sF_ne rfl (sF_get)) hF217 rfl); rw [← b0, ← b1]; exact n230h
                                  exact g_return (gd rfl) rfl (hP _ _ ⟨(sF s217 109 27 z226), hI227, (fr_sF rfl (fr_tr rfl (fr_sF rfl (fr_sF rfl (fr_sF rfl hFc0))) hF217)), n230a, n230c, n230e, n230g, n230i, rfl, rfl⟩)
                            · skip
                              exact zn_ne c186 (in_c 0 rfl) rfl
                          · skip
                            exact n_le c183x3 (in_c 97 rfl) i81 rfl
                        · skip
                          exact zn_ne c128 (in_c 0 rfl) rfl
                    · skip
                      exact n_le c121x3 (in_c 48 rfl) i81 rfl
                  · skip
                    exact zn_ne c111 (in_c 0 rfl) rfl
                · skip
                  have i108x9 := r_le1 48 57 c108x9 i108x3 (in_c 57 rfl) rfl
                  refine g_iconst 1 13 (gd rfl) rfl rfl ?_
                  refine g_goto 17 (gd rfl) rfl ?_
                  refine g_ireturn (gd rfl) rfl (nb01 (in_w 0 1 (in_c 1 rfl) rfl)) (hp108 _ _ ?_)
                  show GG _ _ _ _ _ _ _ _ [.int (Int32.ofInt 1)] _ _ _
                  refine g_if_eq 114 118 (gd rfl) rfl rfl (fun c111 => ?_) (fun c111 => ?_)
                  · skip
                    exact zn_eq c111 (in_c 1 rfl) rfl
                  · skip
                    refine g_iconst 1 115 (gd rfl) rfl rfl ?_
                    refine g_goto 119 (gd rfl) rfl ?_
                    refine g_istore_n 120 (gd rfl) rfl (Nat.le_of_ble_eq_true rfl) ?_
                    refine g_iload_n 121 (gd rfl) rfl rfl ?_
                    refine g_calls (As := [.int z71]) (r := []) 124 (gd rfl) rfl rfl rfl rfl rfl (Nat.le_of_ble_eq_true rfl) (mc := 0) (ms := 0) (Nat.zero_le _) (Nat.zero_le _) (P := fun v u => _) ?_ (fun v u h => h)
                    intro po121 xx121 hp121 hx121
                    refine g_enter2 (k := 297) (N := 300) (by omega) rfl (Nat.le_of_ble_eq_true rfl) ?_
                    refine g_iload_n 1 (gd rfl) rfl rfl ?_
                    refine g_bipush 48 3 (gd rfl) rfl rfl ?_
                    refine g_cmp_lt 6 16 (gd rfl) rfl rfl (fun c121x3 => ?_) (fun c121x3 => ?_)
                    · skip
                      refine g_iconst 0 17 (gd rfl) rfl rfl ?_
                      refine g_ireturn (gd rfl) rfl (nb01 (in_w 0 1 (in_c 0 rfl) rfl)) (hp121 _ _ ?_)
                      show GG _ _ _ _ _ _ _ _ [.int (Int32.ofInt 0)] _ _ _
                      refine g_if_ne 127 131 (gd rfl) rfl rfl (fun c124 => ?_) (fun c124 => ?_)
                      · skip
                        exact zn_ne c124 (in_c 0 rfl) rfl
                      · skip
                        refine g_iload_n 128 (gd rfl) rfl rfl ?_
                        refine g_if_eq 131 181 (gd rfl) rfl rfl (fun c128 => ?_) (fun c128 => ?_)
                        · skip
                          exact zn_eq c128 (in_c 1 rfl) rfl
                        · skip
                          refine g_aload_n 132 (gd rfl) rfl rfl ?_
                          refine g_iconst 2 133 (gd rfl) rfl rfl ?_
                          refine g_putI 136 (gd rfl) rfl rfl rfl rfl ?_
                          have hI133 := inv_sF (q := 109) (j := 28) hI75 rfl (in_w (-2147483648) 2147483647 (in_c 2 rfl) rfl)
                          refine g_aload_n 137 (gd rfl) rfl rfl ?_
                          refine g_dup 138 (gd rfl) rfl rfl ?_
                          refine g_getI 141 (gd rfl) rfl rfl rfl (fun z138 e138 => ?_)
                          have q138 : w0_109_27 = z138 := (sF_ne rfl (sF_ne rfl (sF_ne rfl (v0_109_27)))).trans e138.symm
                          subst q138
                          refine g_iload_n 142 (gd rfl) rfl rfl ?_
                          refine g_if_eq 145 149 (gd rfl) rfl rfl (fun c142 => ?_) (fun c142 => ?_)
                          · skip
                            exact zn_eq c142 (in_c 1 rfl) rfl
                          · skip
                            refine g_iconst 1 146 (gd rfl) rfl rfl ?_
                            refine g_goto 150 (gd rfl) rfl ?_
                            refine g_iadd 151 (gd rfl) rfl (fun z150 e150 => ?_)
                            have i150 := in_add 1 1000 e150 i71 (in_c 1 rfl) rfl rfl
                            refine g_putI 154 (gd rfl) rfl rfl rfl rfl ?_
                            have hI151 := inv_sF (q := 109) (j := 27) hI133 rfl (in_w 0 1000 i150 rfl)
                            refine g_aload_n 155 (gd rfl) rfl rfl ?_
                            refine g_bipush 7 157 (gd rfl) rfl rfl ?_
                            have v157 : z150 = (sF (sF (sF (sF sc0 109 29 w0_109_27) 109 30 z71) 109 28 (Int32.ofInt 2)) 109 27 z150).2.2.1 109 27 := sF_get
                            have v157a : u_109_22 = (sF (sF (sF (sF sc0 109 29 w0_109_27) 109 30 z71) 109 28 (Int32.ofInt 2)) 109 27 z150).2.2.1 109 22 := sF_ne rfl (sF_ne rfl (sF_ne rfl (sF_ne rfl (fr_F e_109_22 hFc0 rfl))))
                            have n157 : (z150).toInt < (u_109_22).toInt := by have a0 := i94a; unfold In at a0; have a1 := i71; unfold In at a1; have a2 := (in_c 1 rfl); unfold In at a2; have a3 := i81; unfold In at a3; have a4 := i150; unfold In at a4; have a5 := t_add e150 i71 (in_c 1 rfl) rfl; have a6 := (in_c 2 rfl); unfold In at a6; have a7 := i107; unfold In at a7; have a8 := t_add e106 i71 (in_c 1 rfl) rfl; have a9 := i94; unfold In at a9; have a10 := t_add e89 i71 (in_c 1 rfl) rfl; omega
                            have p157 : 48 ≤ ((sF (sF (sF (sF sc0 109 29 w0_109_27) 109 30 z71) 109 28 (Int32.ofInt 2)) 109 27 z150).1 125 ((sF (sF (sF (sF sc0 109 29 w0_109_27) 109 30 z71) 109 28 (Int32.ofInt 2)) 109 27 z150).2.2.1 109 27).toNatClampNeg).toInt ∧ ((sF (sF (sF (sF sc0 109 29 w0_109_27) 109 30 z71) 109 28 (Int32.ofInt 2)) 109 27 z150).1 125 ((sF (sF (sF (sF sc0 109 29 w0_109_27) 109 30 z71) 109 28 (Int32.ofInt 2)) 109 27 z150).2.2.1 109 27).toNatClampNeg).toInt ≤ 57 := by first | (have hz : z107 = (sF (sF (sF (sF sc0 109 29 w0_109_27) 109 30 z71) 109 28 (Int32.ofInt 2)) 109 27 z150).1 125 ((sF (sF (sF (sF sc0 109 29 w0_109_27) 109 30 z71) 109 28 (Int32.ofInt 2)) 109 27 z150).2.2.1 109 27).toNatClampNeg := (by rw [← (show z150 = (sF (sF (sF (sF sc0 109 29 w0_109_27) 109 30 z71) 109 28 (Int32.ofInt 2)) 109 27 z150).2.2.1 109 27 from sF_get), e150, ← e106]; exact e107); rw [← hz]; exact i108x9) | (have hz : z19 = (sF (sF (sF (sF sc0 109 29 w0_109_27) 109 30 z71) 109 28 (Int32.ofInt 2)) 109 27 z150).1 125 ((sF (sF (sF (sF sc0 109 29 w0_109_27) 109 30 z71) 109 28 (Int32.ofInt 2)) 109 27 z150).2.2.1 109 27).toNatClampNeg := (by rw [← (show z150 = (sF (sF (sF (sF sc0 109 29 w0_109_27) 109 30 z71) 109 28 (Int32.ofInt 2)) 109 27 z150).2.2.1 109 27 from sF_get), e150, show w0_109_27 + Int32.ofInt 0 = w0_109_27 from Int32.add_zero _]; exact e19); rw [← hz]; exact i121x9) | (have hz : z71 = (sF (sF (sF (sF sc0 109 29 w0_109_27) 109 30 z71) 109 28 (Int32.ofInt 2)) 109 27 z150).1 125 ((sF (sF (sF (sF sc0 109 29 w0_109_27) 109 30 z71) 109 28 (Int32.ofInt 2)) 109 27 z150).2.2.1 109 27).toNatClampNeg := (by rw [← (show z150 = (sF (sF (sF (sF sc0 109 29 w0_109_27) 109 30 z71) 109 28 (Int32.ofInt 2)) 109 27 z150).2.2.1 109 27 from sF_get), e150, show w0_109_27 + Int32.ofInt 0 = w0_109_27 from Int32.add_zero _]; exact e71); rw [← hz]; exact i121x9)
                            refine g_callv (X := _) (As := [.int (Int32.ofInt 7)]) (r := []) (b := A 109) (q := 109) 160 (gd rfl) rfl rfl rfl rfl rfl (ww_o rfl) (Nat.le_of_ble_eq_true rfl) (Nat.zero_le _) (Nat.zero_le _) (k_300 (by omega) hI151 (in_w 6 7 (in_c 7 rfl) rfl) v157 v157a n157 p157) (fun e u h => h) (fun v u h => ?_)
                            obtain ⟨s157, hI157, hF157, n157a, n157b, rfl, rfl⟩ := h
                            obtain ⟨z157a, e157⟩ : ∃ w, w = s157.2.2.1 109 27 := ⟨_, rfl⟩
                            have i157a := inv_F hI157 0 1000 rfl e157
                            rw [← (show z157a = s157.2.2.1 109 27 from e157)] at n157a
                            rw [← (show u_109_22 = s157.2.2.1 109 22 from fr_F (s := (sF (sF (sF (sF sc0 109 29 w0_109_27) 109 30 z71) 109 28 (Int32.ofInt 2)) 109 27 z150)) (sF_ne rfl (sF_ne rfl (sF_ne rfl (sF_ne rfl (fr_F e_109_22 hFc0 rfl))))) hF157 rfl)] at n157a
                            rw [← (show z150 = (sF (sF (sF (sF sc0 109 29 w0_109_27) 109 30 z71) 109 28 (Int32.ofInt 2)) 109 27 z150).2.2.1 109 27 from sF_get)] at n157b
                            rw [← (show z157a = s157.2.2.1 109 27 from e157)] at n157b
                            show GG _ _ _ _ _ _ _ _ [] _ _ _
                            refine g_aload_n 161 (gd rfl) rfl rfl ?_
                            refine g_iload_n 162 (gd rfl) rfl rfl ?_
                            refine g_if_eq 165 173 (gd rfl) rfl rfl (fun c162 => ?_) (fun c162 => ?_)
                            · skip
                              exact zn_eq c162 (in_c 1 rfl) rfl
                            · skip
                              refine g_aload_n 166 (gd rfl) rfl rfl ?_
                              refine g_getL 169 (gd rfl) rfl rfl rfl (fun z166 e166 => ?_)
                              refine g_lneg 170 (gd rfl) rfl (fun z169 e169 => ?_)
                              refine g_goto 177 (gd rfl) rfl ?_
                              refine g_putL 180 (gd rfl) rfl rfl rfl rfl ?_
                              have hI177 := inv_sG (q := 109) (j := 31) (x := z169) hI157 rfl (l_rng z169)
                              have n180 : (z157a).toInt ≤ (u_109_22).toInt := by have a0 := i94a; unfold In at a0; have a1 := i71; unfold In at a1; have a2 := (in_c 1 rfl); unfold In at a2; have a3 := i81; unfold In at a3; have a4 := i157a; unfold In at a4; have a5 := (in_c 2 rfl); unfold In at a5; have a6 := i150; unfold In at a6; have a7 := t_add e150 i71 (in_c 1 rfl) rfl; have a8 := i107; unfold In at a8; have a9 := t_add e106 i71 (in_c 1 rfl) rfl; have a10 := i94; unfold In at a10; have a11 := t_add e89 i71 (in_c 1 rfl) rfl; omega
                              have n180a : ((sG s157 109 31 z169).2.2.1 109 27).toInt ≤ ((sG s157 109 31 z169).2.2.1 109 22).toInt := by have b0 : z157a = (sG s157 109 31 z169).2.2.1 109 27 := sG_F (e157); have b1 : u_109_22 = (sG s157 109 31 z169).2.2.1 109 22 := sG_F (fr_F (s := (sF (sF (sF (sF sc0 109 29 w0_109_27) 109 30 z71) 109 28 (Int32.ofInt 2)) 109 27 z150)) (sF_ne rfl (sF_ne rfl (sF_ne rfl (sF_ne rfl (fr_F e_109_22 hFc0 rfl))))) hF157 rfl); rw [← b0, ← b1]; exact n180
                              have n180b : (u_109_27).toInt ≤ (z157a).toInt := by have a0 := i94a; unfold In at a0; have a1 := i71; unfold In at a1; have a2 := (in_c 1 rfl); unfold In at a2; have a3 := i81; unfold In at a3; have a4 := i157a; unfold In at a4; have a5 := (in_c 2 rfl); unfold In at a5; have a6 := i150; unfold In at a6; have a7 := t_add e150 i71 (in_c 1 rfl) rfl; have a8 := i107; unfold In at a8; have a9 := t_add e106 i71 (in_c 1 rfl) rfl; have a10 := i94; unfold In at a10; have a11 := t_add e89 i71 (in_c 1 rfl) rfl; omega
                              have n180c : (s.2.2.1 109 27).toInt ≤ ((sG s157 109 31 z169).2.2.1 109 27).toInt := by have b0 : z157a = (sG s157 109 31 z169).2.2.1 109 27 := sG_F (e157); first | (rw [← b0, ← e_109_27]; exact n180b) | (rw [← b0]; exact n180b)
                              have n180d : ((Int32.ofInt 2)).toInt ≠ 0 → (u_109_27).toInt + 1 ≤ (z157a).toInt := by have a0 := i94a; unfold In at a0; have a1 := i71; unfold In at a1; have a2 := (in_c 1 rfl); unfold In at a2; have a3 := i81; unfold In at a3; have a4 := i157a; unfold In at a4; have a5 := (in_c 2 rfl); unfold In at a5; have a6 := i150; unfold In at a6; have a7 := t_add e150 i71 (in_c 1 rfl) rfl; have a8 := i107; unfold In at a8; have a9 := t_add e106 i71 (in_c 1 rfl) rfl; have a10 := i94; unfold In at a10; have a11 := t_add e89 i71 (in_c 1 rfl) rfl; omega
                              have n180e : ((sG s157 109 31 z169).2.2.1 109 28).toInt ≠ 0 → (s.2.2.1 109 27).toInt + 1 ≤ ((sG s157 109 31 z169).2.2.1 109 27).toInt := by have b0 : (Int32.ofInt 2) = (sG s157 109 31 z169).2.2.1 109 28 := sG_F (fr_F (s := (sF (sF (sF (sF sc0 109 29 w0_109_27) 109 30 z71) 109 28 (Int32.ofInt 2)) 109 27 z150)) (sF_ne rfl (sF_get)) hF157 rfl); have b1 : z157a = (sG s157 109 31 z169).2.2.1 109 27 := sG_F (e157); first | (rw [← b0, ← b1, ← e_109_27]; exact n180d) | (rw [← b0, ← b1]; exact n180d)
                              have n180f : ((Int32.ofInt 2)).toInt = 1 → 97 ≤ (z71).toInt := by have a0 := i94a; unfold In at a0; have a1 := i71; unfold In at a1; have a2 := (in_c 1 rfl); unfold In at a2; have a3 := i81; unfold In at a3; have a4 := i157a; unfold In at a4; have a5 := (in_c 2 rfl); unfold In at a5; have a6 := i150; unfold In at a6; have a7 := t_add e150 i71 (in_c 1 rfl) rfl; have a8 := i107; unfold In at a8; have a9 := t_add e106 i71 (in_c 1 rfl) rfl; have a10 := i94; unfold In at a10; have a11 := t_add e89 i71 (in_c 1 rfl) rfl; omega
                              have n180g : ((sG s157 109 31 z169).2.2.1 109 28).toInt = 1 → 97 ≤ ((sG s157 109 31 z169).2.2.1 109 30).toInt := by have b0 : (Int32.ofInt 2) = (sG s157 109 31 z169).2.2.1 109 28 := sG_F (fr_F (s := (sF (sF (sF (sF sc0 109 29 w0_109_27) 109 30 z71) 109 28 (Int32.ofInt 2)) 109 27 z150)) (sF_ne rfl (sF_get)) hF157 rfl); have b1 : z71 = (sG s157 109 31 z169).2.2.1 109 30 := sG_F (fr_F (s := (sF (sF (sF (sF sc0 109 29 w0_109_27) 109 30 z71) 109 28 (Int32.ofInt 2)) 109 27 z150)) (sF_ne rfl (sF_ne rfl (sF_get))) hF157 rfl); rw [← b0, ← b1]; exact n180f
                              have n180h : ((Int32.ofInt 2)).toInt = 1 → (z71).toInt ≤ 122 := by have a0 := i94a; unfold In at a0; have a1 := i71; unfold In at a1; have a2 := (in_c 1 rfl); unfold In at a2; have a3 := i81; unfold In at a3; have a4 := i157a; unfold In at a4; have a5 := (in_c 2 rfl); unfold In at a5; have a6 := i150; unfold In at a6; have a7 := t_add e150 i71 (in_c 1 rfl) rfl; have a8 := i107; unfold In at a8; have a9 := t_add e106 i71 (in_c 1 rfl) rfl; have a10 := i94; unfold In at a10; have a11 := t_add e89 i71 (in_c 1 rfl) rfl; omega
                              have n180i : ((sG s157 109 31 z169).2.2.1 109 28).toInt = 1 → ((sG s157 109 31 z169).2.2.1 109 30).toInt ≤ 122 := by have b0 : (Int32.ofInt 2) = (sG s157 109 31 z169).2.2.1 109 28 := sG_F (fr_F (s := (sF (sF (sF (sF sc0 109 29 w0_109_27) 109 30 z71) 109 28 (Int32.ofInt 2)) 109 27 z150)) (sF_ne rfl (sF_get)) hF157 rfl); have b1 : z71 = (sG s157 109 31 z169).2.2.1 109 30 := sG_F (fr_F (s := (sF (sF (sF (sF sc0 109 29 w0_109_27) 109 30 z71) 109 28 (Int32.ofInt 2)) 109 27 z150)) (sF_ne rfl (sF_ne rfl (sF_get))) hF157 rfl); rw [← b0, ← b1]; exact n180h
                              exact g_return (gd rfl) rfl (hP _ _ ⟨(sG s157 109 31 z169), hI177, (fr_sG rfl (fr_tr rfl (fr_sF rfl (fr_sF rfl (fr_sF rfl (fr_sF rfl hFc0)))) hF157)), n180a, n180c, n180e, n180g, n180i, rfl, rfl⟩)
                    · skip
                      exact n_le c121x3 (in_c 48 rfl) i81 rfl
        · skip
          refine g_aload_n 58 (gd rfl) rfl rfl ?_
          refine g_iconst 0 59 (gd rfl) rfl rfl ?_
          refine g_putI 62 (gd rfl) rfl rfl rfl rfl ?_
          have hI59 := inv_sF (q := 109) (j := 28) hI43 rfl (in_w (-2147483648) 2147483647 (in_c 0 rfl) rfl)
          have n62 : (w0_109_27).toInt ≤ (u_109_22).toInt := by have a0 := ro_109_22; unfold In at a0; have a1 := (inv_F hIc0 0 1000 rfl v0_109_27); unfold In at a1; have a2 := (in_c 0 rfl); unfold In at a2; omega
          have n62a : ((sF (sF sc0 109 29 w0_109_27) 109 28 (Int32.ofInt 0)).2.2.1 109 27).toInt ≤ ((sF (sF sc0 109 29 w0_109_27) 109 28 (Int32.ofInt 0)).2.2.1 109 22).toInt := by have b0 : w0_109_27 = (sF (sF sc0 109 29 w0_109_27) 109 28 (Int32.ofInt 0)).2.2.1 109 27 := sF_ne rfl (sF_ne rfl (v0_109_27)); have b1 : u_109_22 = (sF (sF sc0 109 29 w0_109_27) 109 28 (Int32.ofInt 0)).2.2.1 109 22 := sF_ne rfl (sF_ne rfl (fr_F e_109_22 hFc0 rfl)); rw [← b0, ← b1]; exact n62
          have n62b : (u_109_27).toInt ≤ (w0_109_27).toInt := by have a0 := ro_109_22; unfold In at a0; have a1 := (inv_F hIc0 0 1000 rfl v0_109_27); unfold In at a1; have a2 := (in_c 0 rfl); unfold In at a2; omega
          have n62c : (s.2.2.1 109 27).toInt ≤ ((sF (sF sc0 109 29 w0_109_27) 109 28 (Int32.ofInt 0)).2.2.1 109 27).toInt := by have b0 : w0_109_27 = (sF (sF sc0 109 29 w0_109_27) 109 28 (Int32.ofInt 0)).2.2.1 109 27 := sF_ne rfl (sF_ne rfl (v0_109_27)); first | (rw [← b0, ← e_109_27]; exact n62b) | (rw [← b0]; exact n62b)
          have n62d : ((Int32.ofInt 0)).toInt ≠ 0 → (u_109_27).toInt + 1 ≤ (w0_109_27).toInt := by have a0 := ro_109_22; unfold In at a0; have a1 := (inv_F hIc0 0 1000 rfl v0_109_27); unfold In at a1; have a2 := (in_c 0 rfl); unfold In at a2; omega
          have n62e : ((sF (sF sc0 109 29 w0_109_27) 109 28 (Int32.ofInt 0)).2.2.1 109 28).toInt ≠ 0 → (s.2.2.1 109 27).toInt + 1 ≤ ((sF (sF sc0 109 29 w0_109_27) 109 28 (Int32.ofInt 0)).2.2.1 109 27).toInt := by have b0 : (Int32.ofInt 0) = (sF (sF sc0 109 29 w0_109_27) 109 28 (Int32.ofInt 0)).2.2.1 109 28 := sF_get; have b1 : w0_109_27 = (sF (sF sc0 109 29 w0_109_27) 109 28 (Int32.ofInt 0)).2.2.1 109 27 := sF_ne rfl (sF_ne rfl (v0_109_27)); first | (rw [← b0, ← b1, ← e_109_27]; exact n62d) | (rw [← b0, ← b1]; exact n62d)
          have n62f : ((Int32.ofInt 0)).toInt = 1 → 97 ≤ (((sF (sF sc0 109 29 w0_109_27) 109 28 (Int32.ofInt 0)).2.2.1 109 30)).toInt := by have a0 := ro_109_22; unfold In at a0; have a1 := (inv_F hIc0 0 1000 rfl v0_109_27); unfold In at a1; have a2 := (in_c 0 rfl); unfold In at a2; omega
          have n62g : ((sF (sF sc0 109 29 w0_109_27) 109 28 (Int32.ofInt 0)).2.2.1 109 28).toInt = 1 → 97 ≤ ((sF (sF sc0 109 29 w0_109_27) 109 28 (Int32.ofInt 0)).2.2.1 109 30).toInt := by have b0 : (Int32.ofInt 0) = (sF (sF sc0 109 29 w0_109_27) 109 28 (Int32.ofInt 0)).2.2.1 109 28 := sF_get; rw [← b0]; exact n62f
          have n62h : ((Int32.ofInt 0)).toInt = 1 → (((sF (sF sc0 109 29 w0_109_27) 109 28 (Int32.ofInt 0)).2.2.1 109 30)).toInt ≤ 122 := by have a0 := ro_109_22; unfold In at a0; have a1 := (inv_F hIc0 0 1000 rfl v0_109_27); unfold In at a1; have a2 := (in_c 0 rfl); unfold In at a2; omega
          have n62i : ((sF (sF sc0 109 29 w0_109_27) 109 28 (Int32.ofInt 0)).2.2.1 109 28).toInt = 1 → ((sF (sF sc0 109 29 w0_109_27) 109 28 (Int32.ofInt 0)).2.2.1 109 30).toInt ≤ 122 := by have b0 : (Int32.ofInt 0) = (sF (sF sc0 109 29 w0_109_27) 109 28 (Int32.ofInt 0)).2.2.1 109 28 := sF_get; rw [← b0]; exact n62h
          exact g_return (gd rfl) rfl (hP _ _ ⟨(sF (sF sc0 109 29 w0_109_27) 109 28 (Int32.ofInt 0)), hI59, (fr_sF rfl (fr_sF rfl hFc0)), n62a, n62c, n62e, n62g, n62i, rfl, rfl⟩)
      · skip
        have i8 := r_lt1 0 999 c8 (inv_F hIc0 0 1000 rfl v0_109_27) ro_109_22 rfl
        have i8a := r_lt2 1 1000 c8 (inv_F hIc0 0 1000 rfl v0_109_27) ro_109_22 rfl
        refine g_aload_n 12 (gd rfl) rfl rfl ?_
        refine g_getA (q2 := 125) 15 (gd rfl) rfl rfl rfl rfl ?_
        refine g_aload_n 16 (gd rfl) rfl rfl ?_
        refine g_getI 19 (gd rfl) rfl rfl rfl (fun z16 e16 => ?_)
        have q16 : w0_109_27 = z16 := (v0_109_27).trans e16.symm
        subst q16
        refine g_iaload 20 (gd rfl) rfl (n := 1000) rfl (in_ix i8 rfl) (fun z19 e19 => ?_)
        have i19 := inv_I hIc0 (n := 1000) (t := 0) 0 126 rfl (in_ix i8 rfl) rfl e19
        refine g_bipush 32 22 (gd rfl) rfl rfl ?_
        refine g_cmp_ne 25 38 (gd rfl) rfl rfl (fun c22 => ?_) (fun c22 => ?_)
        · skip
          refine g_aload_n 39 (gd rfl) rfl rfl ?_
          refine g_aload_n 40 (gd rfl) rfl rfl ?_
          refine g_getI 43 (gd rfl) rfl rfl rfl (fun z40 e40 => ?_)
          have q40 : w0_109_27 = z40 := (v0_109_27).trans e40.symm
          subst q40
          refine g_putI 46 (gd rfl) rfl rfl rfl rfl ?_
          have hI43 := inv_sF (q := 109) (j := 29) hIc0 rfl (in_w 0 1000 i8 rfl)
          refine g_aload_n 47 (gd rfl) rfl rfl ?_
          refine g_getI 50 (gd rfl) rfl rfl rfl (fun z47 e47 => ?_)
          have q47 : w0_109_27 = z47 := (sF_ne rfl (v0_109_27)).trans e47.symm
          subst q47
          refine g_aload_n 51 (gd rfl) rfl rfl ?_
          refine g_getI 54 (gd rfl) rfl rfl rfl (fun z51 e51 => ?_)
          have q51 : u_109_22 = z51 := (sF_ne rfl (fr_F e_109_22 hFc0 rfl)).trans e51.symm
          subst q51
          refine g_cmp_ne 57 63 (gd rfl) rfl rfl (fun c54 => ?_) (fun c54 => ?_)
          · skip
            refine g_aload_n 64 (gd rfl) rfl rfl ?_
            refine g_getA (q2 := 125) 67 (gd rfl) rfl rfl rfl rfl ?_
            refine g_aload_n 68 (gd rfl) rfl rfl ?_
            refine g_getI 71 (gd rfl) rfl rfl rfl (fun z68 e68 => ?_)
            have q68 : w0_109_27 = z68 := (sF_ne rfl (v0_109_27)).trans e68.symm
            subst q68
            refine g_iaload 72 (gd rfl) rfl (n := 1000) rfl (in_ix i8 rfl) (fun z71 e71 => ?_)
            have q71 : z19 = z71 := (sF_I (e19)).trans e71.symm
            subst q71
            refine g_istore_n 73 (gd rfl) rfl (Nat.le_of_ble_eq_true rfl) ?_
            refine g_aload_n 74 (gd rfl) rfl rfl ?_
            refine g_iload_n 75 (gd rfl) rfl rfl ?_
            refine g_putI 78 (gd rfl) rfl rfl rfl rfl ?_
            have hI75 := inv_sF (q := 109) (j := 30) hI43 rfl (in_w (-2147483648) 2147483647 i19 rfl)
            refine g_iload_n 79 (gd rfl) rfl rfl ?_
            refine g_bipush 45 81 (gd rfl) rfl rfl ?_
            refine g_cmp_ne 84 118 (gd rfl) rfl rfl (fun c81 => ?_) (fun c81 => ?_)
            · skip
              refine g_iconst 0 119 (gd rfl) rfl rfl ?_
              refine g_istore_n 120 (gd rfl) rfl (Nat.le_of_ble_eq_true rfl) ?_
              refine g_iload_n 121 (gd rfl) rfl rfl ?_
              refine g_calls (As := [.int z19]) (r := []) 124 (gd rfl) rfl rfl rfl rfl rfl (Nat.le_of_ble_eq_true rfl) (mc := 0) (ms := 0) (Nat.zero_le _) (Nat.zero_le _) (P := fun v u => _) ?_ (fun v u h => h)
              intro po121 xx121 hp121 hx121
              refine g_enter2 (k := 297) (N := 300) (by omega) rfl (Nat.le_of_ble_eq_true rfl) ?_
              refine g_iload_n 1 (gd rfl) rfl rfl ?_
              refine g_bipush 48 3 (gd rfl) rfl rfl ?_
              refine g_cmp_lt 6 16 (gd rfl) rfl rfl (fun c121x3 => ?_) (fun c121x3 => ?_)
              · skip
                have i121x3 := r_lt1 0 47 c121x3 i19 (in_c 48 rfl) rfl
                refine g_iconst 0 17 (gd rfl) rfl rfl ?_
                refine g_ireturn (gd rfl) rfl (nb01 (in_w 0 1 (in_c 0 rfl) rfl)) (hp121 _ _ ?_)
                show GG _ _ _ _ _ _ _ _ [.int (Int32.ofInt 0)] _ _ _
                refine g_if_ne 127 131 (gd rfl) rfl rfl (fun c124 => ?_) (fun c124 => ?_)
                · skip
                  exact zn_ne c124 (in_c 0 rfl) rfl
                · skip
                  refine g_iload_n 128 (gd rfl) rfl rfl ?_
                  refine g_if_eq 131 181 (gd rfl) rfl rfl (fun c128 => ?_) (fun c128 => ?_)
                  · skip
                    refine g_aload_n 182 (gd rfl) rfl rfl ?_
                    refine g_iload_n 183 (gd rfl) rfl rfl ?_
                    refine g_calls (As := [.int z19]) (r := [.ref (A 109)]) 186 (gd rfl) rfl rfl rfl rfl rfl (Nat.le_of_ble_eq_true rfl) (mc := 0) (ms := 0) (Nat.zero_le _) (Nat.zero_le _) (P := fun v u => _) ?_ (fun v u h => h)
                    intro po183 xx183 hp183 hx183
                    refine g_enter2 (k := 296) (N := 300) (by omega) rfl (Nat.le_of_ble_eq_true rfl) ?_
                    refine g_iload_n 1 (gd rfl) rfl rfl ?_
                    refine g_bipush 97 3 (gd rfl) rfl rfl ?_
                    refine g_cmp_lt 6 16 (gd rfl) rfl rfl (fun c183x3 => ?_) (fun c183x3 => ?_)
                    · skip
                      refine g_iconst 0 17 (gd rfl) rfl rfl ?_
                      refine g_ireturn (gd rfl) rfl (nb01 (in_w 0 1 (in_c 0 rfl) rfl)) (hp183 _ _ ?_)
                      show GG _ _ _ _ _ _ _ _ [.int (Int32.ofInt 0), .ref (A 109)] _ _ _
                      refine g_if_eq 189 193 (gd rfl) rfl rfl (fun c186 => ?_) (fun c186 => ?_)
                      · skip
                        refine g_iconst 3 194 (gd rfl) rfl rfl ?_
                        refine g_putI 197 (gd rfl) rfl rfl rfl rfl ?_
                        have hI194 := inv_sF (q := 109) (j := 28) hI75 rfl (in_w (-2147483648) 2147483647 (in_c 3 rfl) rfl)
                        refine g_aload_n 198 (gd rfl) rfl rfl ?_
                        refine g_getI 201 (gd rfl) rfl rfl rfl (fun z198 e198 => ?_)
                        have q198 : (Int32.ofInt 3) = z198 := (sF_get).trans e198.symm
                        subst q198
                        refine g_iconst 3 202 (gd rfl) rfl rfl ?_
                        refine g_cmp_ne 205 220 (gd rfl) rfl rfl (fun c202 => ?_) (fun c202 => ?_)
                        · skip
                          exact n_ne c202 (in_c 3 rfl) (in_c 3 rfl) rfl
                        · skip
                          refine g_iload_n 206 (gd rfl) rfl rfl ?_
                          refine g_bipush 59 208 (gd rfl) rfl rfl ?_
                          refine g_cmp_eq 211 220 (gd rfl) rfl rfl (fun c208 => ?_) (fun c208 => ?_)
                          · skip
                            exact n_eq c208 i121x3 (in_c 59 rfl) rfl
                          · skip
                            refine g_aload_n 212 (gd rfl) rfl rfl ?_
                            refine g_iconst 1 213 (gd rfl) rfl rfl ?_
                            refine g_aload_n 214 (gd rfl) rfl rfl ?_
                            refine g_getI 217 (gd rfl) rfl rfl rfl (fun z214 e214 => ?_)
                            have q214 : w0_109_27 = z214 := (sF_ne rfl (sF_ne rfl (sF_get))).trans e214.symm
                            subst q214
                            refine g_callv (X := _) (As := [.int (Int32.ofInt 1), .int w0_109_27]) (r := []) (b := A 109) (q := 109) 220 (gd rfl) rfl rfl rfl rfl rfl (ww_o rfl) (Nat.le_of_ble_eq_true rfl) (Nat.zero_le _) (Nat.zero_le _) (k_298 (by omega) hI194 (in_w 1 5 (in_c 1 rfl) rfl)) (fun e u h => h) (fun v u h => ?_)
                            obtain ⟨s217, hI217, hF217, n217, rfl, rfl⟩ := h
                            obtain ⟨z217a, e217⟩ : ∃ w, w = s217.2.2.1 109 23 := ⟨_, rfl⟩
                            have i217a := inv_F hI217 0 9 rfl e217
                            rw [← (show z217a = s217.2.2.1 109 23 from e217)] at n217
                            show GG _ _ _ _ _ _ _ _ [] _ _ _
                            refine g_aload_n 221 (gd rfl) rfl rfl ?_
                            refine g_dup 222 (gd rfl) rfl rfl ?_
                            refine g_getI 225 (gd rfl) rfl rfl rfl (fun z222 e222 => ?_)
                            have q222 : w0_109_27 = z222 := (fr_F (s := (sF (sF (sF sc0 109 29 w0_109_27) 109 30 z19) 109 28 (Int32.ofInt 3))) (sF_ne rfl (sF_ne rfl (sF_ne rfl (v0_109_27)))) hF217 rfl).trans e222.symm
                            subst q222
                            refine g_iconst 1 226 (gd rfl) rfl rfl ?_
                            refine g_iadd 227 (gd rfl) rfl (fun z226 e226 => ?_)
                            have i226 := in_add 1 1000 e226 i8 (in_c 1 rfl) rfl rfl
                            refine g_putI 230 (gd rfl) rfl rfl rfl rfl ?_
                            have hI227 := inv_sF (q := 109) (j := 27) hI217 rfl (in_w 0 1000 i226 rfl)
                            have n230 : (z226).toInt ≤ (u_109_22).toInt := by have a0 := i8a; unfold In at a0; have a1 := i8; unfold In at a1; have a2 := (in_c 0 rfl); unfold In at a2; have a3 := i121x3; unfold In at a3; have a4 := i226; unfold In at a4; have a5 := t_add e226 i8 (in_c 1 rfl) rfl; have a6 := (in_c 1 rfl); unfold In at a6; have a7 := i217a; unfold In at a7; have a8 := (in_c 3 rfl); unfold In at a8; omega
                            have n230a : ((sF s217 109 27 z226).2.2.1 109 27).toInt ≤ ((sF s217 109 27 z226).2.2.1 109 22).toInt := by have b0 : z226 = (sF s217 109 27 z226).2.2.1 109 27 := sF_get; have b1 : u_109_22 = (sF s217 109 27 z226).2.2.1 109 22 := sF_ne rfl (fr_F (s := (sF (sF (sF sc0 109 29 w0_109_27) 109 30 z19) 109 28 (Int32.ofInt 3))) (sF_ne rfl (sF_ne rfl (sF_ne rfl (fr_F e_109_22 hFc0 rfl)))) hF217 rfl); rw [← b0, ← b1]; exact n230
                            have n230b : (u_109_27).toInt ≤ (z226).toInt := by have a0 := i8a; unfold In at a0; have a1 := i8; unfold In at a1; have a2 := (in_c 0 rfl); unfold In at a2; have a3 := i121x3; unfold In at a3; have a4 := i226; unfold In at a4; have a5 := t_add e226 i8 (in_c 1 rfl) rfl; have a6 := (in_c 1 rfl); unfold In at a6; have a7 := i217a; unfold In at a7; have a8 := (in_c 3 rfl); unfold In at a8; omega
                            have n230c : (s.2.2.1 109 27).toInt ≤ ((sF s217 109 27 z226).2.2.1 109 27).toInt := by have b0 : z226 = (sF s217 109 27 z226).2.2.1 109 27 := sF_get; first | (rw [← b0, ← e_109_27]; exact n230b) | (rw [← b0]; exact n230b)
                            have n230d : ((Int32.ofInt 3)).toInt ≠ 0 → (u_109_27).toInt + 1 ≤ (z226).toInt := by have a0 := i8a; unfold In at a0; have a1 := i8; unfold In at a1; have a2 := (in_c 0 rfl); unfold In at a2; have a3 := i121x3; unfold In at a3; have a4 := i226; unfold In at a4; have a5 := t_add e226 i8 (in_c 1 rfl) rfl; have a6 := (in_c 1 rfl); unfold In at a6; have a7 := i217a; unfold In at a7; have a8 := (in_c 3 rfl); unfold In at a8; omega
                            have n230e : ((sF s217 109 27 z226).2.2.1 109 28).toInt ≠ 0 → (s.2.2.1 109 27).toInt + 1 ≤ ((sF s217 109 27 z226).2.2.1 109 27).toInt := by have b0 : (Int32.ofInt 3) = (sF s217 109 27 z226).2.2.1 109 28 := sF_ne rfl (fr_F (s := (sF (sF (sF sc0 109 29 w0_109_27) 109 30 z19) 109 28 (Int32.ofInt 3))) (sF_get) hF217 rfl); have b1 : z226 = (sF s217 109 27 z226).2.2.1 109 27 := sF_get; first | (rw [← b0, ← b1, ← e_109_27]; exact n230d) | (rw [← b0, ← b1]; exact n230d)
                            have n230f : ((Int32.ofInt 3)).toInt = 1 → 97 ≤ (z19).toInt := by have a0 := i8a; unfold In at a0; have a1 := i8; unfold In at a1; have a2 := (in_c 0 rfl); unfold In at a2; have a3 := i121x3; unfold In at a3; have a4 := i226; unfold In at a4; have a5 := t_add e226 i8 (in_c 1 rfl) rfl; have a6 := (in_c 1 rfl); unfold In at a6; have a7 := i217a; unfold In at a7; have a8 := (in_c 3 rfl); unfold In at a8; omega
                            have n230g : ((sF s217 109 27 z226).2.2.1 109 28).toInt = 1 → 97 ≤ ((sF s217 109 27 z226).2.2.1 109 30).toInt := by have b0 : (Int32.ofInt 3) = (sF s217 109 27 z226).2.2.1 109 28 := sF_ne rfl (fr_F (s := (sF (sF (sF sc0 109 29 w0_109_27) 109 30 z19) 109 28 (Int32.ofInt 3))) (sF_get) hF217 rfl); have b1 : z19 = (sF s217 109 27 z226).2.2.1 109 30 := sF_ne rfl (fr_F (s := (sF (sF (sF sc0 109 29 w0_109_27) 109 30 z19) 109 28 (Int32.ofInt 3))) (sF_ne rfl (sF_get)) hF217 rfl); rw [← b0, ← b1]; exact n230f
                            have n230h : ((Int32.ofInt 3)).toInt = 1 → (z19).toInt ≤ 122 := by have a0 := i8a; unfold In at a0; have a1 := i8; unfold In at a1; have a2 := (in_c 0 rfl); unfold In at a2; have a3 := i121x3; unfold In at a3; have a4 := i226; unfold In at a4; have a5 := t_add e226 i8 (in_c 1 rfl) rfl; have a6 := (in_c 1 rfl); unfold In at a6; have a7 := i217a; unfold In at a7; have a8 := (in_c 3 rfl); unfold In at a8; omega
                            have n230i : ((sF s217 109 27 z226).2.2.1 109 28).toInt = 1 → ((sF s217 109 27 z226).2.2.1 109 30).toInt ≤ 122 := by have b0 : (Int32.ofInt 3) = (sF s217 109 27 z226).2.2.1 109 28 := sF_ne rfl (fr_F (s := (sF (sF (sF sc0 109 29 w0_109_27) 109 30 z19) 109 28 (Int32.ofInt 3))) (sF_get) hF217 rfl); have b1 : z19 = (sF s217 109 27 z226).2.2.1 109 30 := sF_ne rfl (fr_F (s := (sF (sF (sF sc0 109 29 w0_109_27) 109 30 z19) 109 28 (Int32.ofInt 3))) (sF_ne rfl (sF_get)) hF217 rfl); rw [← b0, ← b1]; exact n230h
                            exact g_return (gd rfl) rfl (hP _ _ ⟨(sF s217 109 27 z226), hI227, (fr_sF rfl (fr_tr rfl (fr_sF rfl (fr_sF rfl (fr_sF rfl hFc0))) hF217)), n230a, n230c, n230e, n230g, n230i, rfl, rfl⟩)
                      · skip
                        exact zn_ne c186 (in_c 0 rfl) rfl
                    · skip
                      exact n_le c183x3 (in_c 97 rfl) i121x3 rfl
                  · skip
                    exact zn_ne c128 (in_c 0 rfl) rfl
              · skip
                have i121x3 := r_le2 48 126 c121x3 (in_c 48 rfl) i19 rfl
                refine g_iload_n 7 (gd rfl) rfl rfl ?_
                refine g_bipush 57 9 (gd rfl) rfl rfl ?_
                refine g_cmp_gt 12 16 (gd rfl) rfl rfl (fun c121x9 => ?_) (fun c121x9 => ?_)
                · skip
                  have i121x9 := r_lt2 58 126 c121x9 (in_c 57 rfl) i121x3 rfl
                  refine g_iconst 0 17 (gd rfl) rfl rfl ?_
                  refine g_ireturn (gd rfl) rfl (nb01 (in_w 0 1 (in_c 0 rfl) rfl)) (hp121 _ _ ?_)
                  show GG _ _ _ _ _ _ _ _ [.int (Int32.ofInt 0)] _ _ _
                  refine g_if_ne 127 131 (gd rfl) rfl rfl (fun c124 => ?_) (fun c124 => ?_)
                  · skip
                    exact zn_ne c124 (in_c 0 rfl) rfl
                  · skip
                    refine g_iload_n 128 (gd rfl) rfl rfl ?_
                    refine g_if_eq 131 181 (gd rfl) rfl rfl (fun c128 => ?_) (fun c128 => ?_)
                    · skip
                      refine g_aload_n 182 (gd rfl) rfl rfl ?_
                      refine g_iload_n 183 (gd rfl) rfl rfl ?_
                      refine g_calls (As := [.int z19]) (r := [.ref (A 109)]) 186 (gd rfl) rfl rfl rfl rfl rfl (Nat.le_of_ble_eq_true rfl) (mc := 0) (ms := 0) (Nat.zero_le _) (Nat.zero_le _) (P := fun v u => _) ?_ (fun v u h => h)
                      intro po183 xx183 hp183 hx183
                      refine g_enter2 (k := 296) (N := 300) (by omega) rfl (Nat.le_of_ble_eq_true rfl) ?_
                      refine g_iload_n 1 (gd rfl) rfl rfl ?_
                      refine g_bipush 97 3 (gd rfl) rfl rfl ?_
                      refine g_cmp_lt 6 16 (gd rfl) rfl rfl (fun c183x3 => ?_) (fun c183x3 => ?_)
                      · skip
                        have i183x3 := r_lt1 58 96 c183x3 i121x9 (in_c 97 rfl) rfl
                        refine g_iconst 0 17 (gd rfl) rfl rfl ?_
                        refine g_ireturn (gd rfl) rfl (nb01 (in_w 0 1 (in_c 0 rfl) rfl)) (hp183 _ _ ?_)
                        show GG _ _ _ _ _ _ _ _ [.int (Int32.ofInt 0), .ref (A 109)] _ _ _
                        refine g_if_eq 189 193 (gd rfl) rfl rfl (fun c186 => ?_) (fun c186 => ?_)
                        · skip
                          refine g_iconst 3 194 (gd rfl) rfl rfl ?_
                          refine g_putI 197 (gd rfl) rfl rfl rfl rfl ?_
                          have hI194 := inv_sF (q := 109) (j := 28) hI75 rfl (in_w (-2147483648) 2147483647 (in_c 3 rfl) rfl)
                          refine g_aload_n 198 (gd rfl) rfl rfl ?_
                          refine g_getI 201 (gd rfl) rfl rfl rfl (fun z198 e198 => ?_)
                          have q198 : (Int32.ofInt 3) = z198 := (sF_get).trans e198.symm
                          subst q198
                          refine g_iconst 3 202 (gd rfl) rfl rfl ?_
                          refine g_cmp_ne 205 220 (gd rfl) rfl rfl (fun c202 => ?_) (fun c202 => ?_)
                          · skip
                            exact n_ne c202 (in_c 3 rfl) (in_c 3 rfl) rfl
                          · skip
                            refine g_iload_n 206 (gd rfl) rfl rfl ?_
                            refine g_bipush 59 208 (gd rfl) rfl rfl ?_
                            refine g_cmp_eq 211 220 (gd rfl) rfl rfl (fun c208 => ?_) (fun c208 => ?_)
                            · skip
                              have i208 := r_eq1 59 59 c208 i183x3 (in_c 59 rfl) rfl
                              refine g_aload_n 221 (gd rfl) rfl rfl ?_
                              refine g_dup 222 (gd rfl) rfl rfl ?_
                              refine g_getI 225 (gd rfl) rfl rfl rfl (fun z222 e222 => ?_)
                              have q222 : w0_109_27 = z222 := (sF_ne rfl (sF_ne rfl (sF_ne rfl (v0_109_27)))).trans e222.symm
                              subst q222
                              refine g_iconst 1 226 (gd rfl) rfl rfl ?_
                              refine g_iadd 227 (gd rfl) rfl (fun z226 e226 => ?_)
                              have i226 := in_add 1 1000 e226 i8 (in_c 1 rfl) rfl rfl
                              refine g_putI 230 (gd rfl) rfl rfl rfl rfl ?_
                              have hI227 := inv_sF (q := 109) (j := 27) hI194 rfl (in_w 0 1000 i226 rfl)
                              have n230 : (z226).toInt ≤ (u_109_22).toInt := by have a0 := i8a; unfold In at a0; have a1 := i8; unfold In at a1; have a2 := (in_c 0 rfl); unfold In at a2; have a3 := i208; unfold In at a3; have a4 := i226; unfold In at a4; have a5 := t_add e226 i8 (in_c 1 rfl) rfl; have a6 := (in_c 1 rfl); unfold In at a6; have a7 := (in_c 3 rfl); unfold In at a7; omega
                              have n230a : ((sF (sF (sF (sF sc0 109 29 w0_109_27) 109 30 z19) 109 28 (Int32.ofInt 3)) 109 27 z226).2.2.1 109 27).toInt ≤ ((sF (sF (sF (sF sc0 109 29 w0_109_27) 109 30 z19) 109 28 (Int32.ofInt 3)) 109 27 z226).2.2.1 109 22).toInt := by have b0 : z226 = (sF (sF (sF (sF sc0 109 29 w0_109_27) 109 30 z19) 109 28 (Int32.ofInt 3)) 109 27 z226).2.2.1 109 27 := sF_get; have b1 : u_109_22 = (sF (sF (sF (sF sc0 109 29 w0_109_27) 109 30 z19) 109 28 (Int32.ofInt 3)) 109 27 z226).2.2.1 109 22 := sF_ne rfl (sF_ne rfl (sF_ne rfl (sF_ne rfl (fr_F e_109_22 hFc0 rfl)))); rw [← b0, ← b1]; exact n230
                              have n230b : (u_109_27).toInt ≤ (z226).toInt := by have a0 := i8a; unfold In at a0; have a1 := i8; unfold In at a1; have a2 := (in_c 0 rfl); unfold In at a2; have a3 := i208; unfold In at a3; have a4 := i226; unfold In at a4; have a5 := t_add e226 i8 (in_c 1 rfl) rfl; have a6 := (in_c 1 rfl); unfold In at a6; have a7 := (in_c 3 rfl); unfold In at a7; omega
                              have n230c : (s.2.2.1 109 27).toInt ≤ ((sF (sF (sF (sF sc0 109 29 w0_109_27) 109 30 z19) 109 28 (Int32.ofInt 3)) 109 27 z226).2.2.1 109 27).toInt := by have b0 : z226 = (sF (sF (sF (sF sc0 109 29 w0_109_27) 109 30 z19) 109 28 (Int32.ofInt 3)) 109 27 z226).2.2.1 109 27 := sF_get; first | (rw [← b0, ← e_109_27]; exact n230b) | (rw [← b0]; exact n230b)
                              have n230d : ((Int32.ofInt 3)).toInt ≠ 0 → (u_109_27).toInt + 1 ≤ (z226).toInt := by have a0 := i8a; unfold In at a0; have a1 := i8; unfold In at a1; have a2 := (in_c 0 rfl); unfold In at a2; have a3 := i208; unfold In at a3; have a4 := i226; unfold In at a4; have a5 := t_add e226 i8 (in_c 1 rfl) rfl; have a6 := (in_c 1 rfl); unfold In at a6; have a7 := (in_c 3 rfl); unfold In at a7; omega
                              have n230e : ((sF (sF (sF (sF sc0 109 29 w0_109_27) 109 30 z19) 109 28 (Int32.ofInt 3)) 109 27 z226).2.2.1 109 28).toInt ≠ 0 → (s.2.2.1 109 27).toInt + 1 ≤ ((sF (sF (sF (sF sc0 109 29 w0_109_27) 109 30 z19) 109 28 (Int32.ofInt 3)) 109 27 z226).2.2.1 109 27).toInt := by have b0 : (Int32.ofInt 3) = (sF (sF (sF (sF sc0 109 29 w0_109_27) 109 30 z19) 109 28 (Int32.ofInt 3)) 109 27 z226).2.2.1 109 28 := sF_ne rfl (sF_get); have b1 : z226 = (sF (sF (sF (sF sc0 109 29 w0_109_27) 109 30 z19) 109 28 (Int32.ofInt 3)) 109 27 z226).2.2.1 109 27 := sF_get; first | (rw [← b0, ← b1, ← e_109_27]; exact n230d) | (rw [← b0, ← b1]; exact n230d)
                              have n230f : ((Int32.ofInt 3)).toInt = 1 → 97 ≤ (z19).toInt := by have a0 := i8a; unfold In at a0; have a1 := i8; unfold In at a1; have a2 := (in_c 0 rfl); unfold In at a2; have a3 := i208; unfold In at a3; have a4 := i226; unfold In at a4; have a5 := t_add e226 i8 (in_c 1 rfl) rfl; have a6 := (in_c 1 rfl); unfold In at a6; have a7 := (in_c 3 rfl); unfold In at a7; omega
                              have n230g : ((sF (sF (sF (sF sc0 109 29 w0_109_27) 109 30 z19) 109 28 (Int32.ofInt 3)) 109 27 z226).2.2.1 109 28).toInt = 1 → 97 ≤ ((sF (sF (sF (sF sc0 109 29 w0_109_27) 109 30 z19) 109 28 (Int32.ofInt 3)) 109 27 z226).2.2.1 109 30).toInt := by have b0 : (Int32.ofInt 3) = (sF (sF (sF (sF sc0 109 29 w0_109_27) 109 30 z19) 109 28 (Int32.ofInt 3)) 109 27 z226).2.2.1 109 28 := sF_ne rfl (sF_get); have b1 : z19 = (sF (sF (sF (sF sc0 109 29 w0_109_27) 109 30 z19) 109 28 (Int32.ofInt 3)) 109 27 z226).2.2.1 109 30 := sF_ne rfl (sF_ne rfl (sF_get)); rw [← b0, ← b1]; exact n230f
                              have n230h : ((Int32.ofInt 3)).toInt = 1 → (z19).toInt ≤ 122 := by have a0 := i8a; unfold In at a0; have a1 := i8; unfold In at a1; have a2 := (in_c 0 rfl); unfold In at a2; have a3 := i208; unfold In at a3; have a4 := i226; unfold In at a4; have a5 := t_add e226 i8 (in_c 1 rfl) rfl; have a6 := (in_c 1 rfl); unfold In at a6; have a7 := (in_c 3 rfl); unfold In at a7; omega
                              have n230i : ((sF (sF (sF (sF sc0 109 29 w0_109_27) 109 30 z19) 109 28 (Int32.ofInt 3)) 109 27 z226).2.2.1 109 28).toInt = 1 → ((sF (sF (sF (sF sc0 109 29 w0_109_27) 109 30 z19) 109 28 (Int32.ofInt 3)) 109 27 z226).2.2.1 109 30).toInt ≤ 122 := by have b0 : (Int32.ofInt 3) = (sF (sF (sF (sF sc0 109 29 w0_109_27) 109 30 z19) 109 28 (Int32.ofInt 3)) 109 27 z226).2.2.1 109 28 := sF_ne rfl (sF_get); have b1 : z19 = (sF (sF (sF (sF sc0 109 29 w0_109_27) 109 30 z19) 109 28 (Int32.ofInt 3)) 109 27 z226).2.2.1 109 30 := sF_ne rfl (sF_ne rfl (sF_get)); rw [← b0, ← b1]; exact n230h
                              exact g_return (gd rfl) rfl (hP _ _ ⟨(sF (sF (sF (sF sc0 109 29 w0_109_27) 109 30 z19) 109 28 (Int32.ofInt 3)) 109 27 z226), hI227, (fr_sF rfl (fr_sF rfl (fr_sF rfl (fr_sF rfl hFc0)))), n230a, n230c, n230e, n230g, n230i, rfl, rfl⟩)
                            · skip
                              refine g_aload_n 212 (gd rfl) rfl rfl ?_
                              refine g_iconst 1 213 (gd rfl) rfl rfl ?_
                              refine g_aload_n 214 (gd rfl) rfl rfl ?_
                              refine g_getI 217 (gd rfl) rfl rfl rfl (fun z214 e214 => ?_)
                              have q214 : w0_109_27 = z214 := (sF_ne rfl (sF_ne rfl (sF_get))).trans e214.symm
                              subst q214
                              refine g_callv (X := _) (As := [.int (Int32.ofInt 1), .int w0_109_27]) (r := []) (b := A 109) (q := 109) 220 (gd rfl) rfl rfl rfl rfl rfl (ww_o rfl) (Nat.le_of_ble_eq_true rfl) (Nat.zero_le _) (Nat.zero_le _) (k_298 (by omega) hI194 (in_w 1 5 (in_c 1 rfl) rfl)) (fun e u h => h) (fun v u h => ?_)
                              obtain ⟨s217, hI217, hF217, n217, rfl, rfl⟩ := h
                              obtain ⟨z217a, e217⟩ : ∃ w, w = s217.2.2.1 109 23 := ⟨_, rfl⟩
                              have i217a := inv_F hI217 0 9 rfl e217
                              rw [← (show z217a = s217.2.2.1 109 23 from e217)] at n217
                              show GG _ _ _ _ _ _ _ _ [] _ _ _
                              refine g_aload_n 221 (gd rfl) rfl rfl ?_
                              refine g_dup 222 (gd rfl) rfl rfl ?_
                              refine g_getI 225 (gd rfl) rfl rfl rfl (fun z222 e222 => ?_)
                              have q222 : w0_109_27 = z222 := (fr_F (s := (sF (sF (sF sc0 109 29 w0_109_27) 109 30 z19) 109 28 (Int32.ofInt 3))) (sF_ne rfl (sF_ne rfl (sF_ne rfl (v0_109_27)))) hF217 rfl).trans e222.symm
                              subst q222
                              refine g_iconst 1 226 (gd rfl) rfl rfl ?_
                              refine g_iadd 227 (gd rfl) rfl (fun z226 e226 => ?_)
                              have i226 := in_add 1 1000 e226 i8 (in_c 1 rfl) rfl rfl
                              refine g_putI 230 (gd rfl) rfl rfl rfl rfl ?_
                              have hI227 := inv_sF (q := 109) (j := 27) hI217 rfl (in_w 0 1000 i226 rfl)
                              have n230 : (z226).toInt ≤ (u_109_22).toInt := by have a0 := i8a; unfold In at a0; have a1 := i8; unfold In at a1; have a2 := (in_c 0 rfl); unfold In at a2; have a3 := i183x3; unfold In at a3; have a4 := i226; unfold In at a4; have a5 := t_add e226 i8 (in_c 1 rfl) rfl; have a6 := (in_c 1 rfl); unfold In at a6; have a7 := i217a; unfold In at a7; have a8 := (in_c 3 rfl); unfold In at a8; omega
                              have n230a : ((sF s217 109 27 z226).2.2.1 109 27).toInt ≤ ((sF s217 109 27 z226).2.2.1 109 22).toInt := by have b0 : z226 = (sF s217 109 27 z226).2.2.1 109 27 := sF_get; have b1 : u_109_22 = (sF s217 109 27 z226).2.2.1 109 22 := sF_ne rfl (fr_F (s := (sF (sF (sF sc0 109 29 w0_109_27) 109 30 z19) 109 28 (Int32.ofInt 3))) (sF_ne rfl (sF_ne rfl (sF_ne rfl (fr_F e_109_22 hFc0 rfl)))) hF217 rfl); rw [← b0, ← b1]; exact n230
                              have n230b : (u_109_27).toInt ≤ (z226).toInt := by have a0 := i8a; unfold In at a0; have a1 := i8; unfold In at a1; have a2 := (in_c 0 rfl); unfold In at a2; have a3 := i183x3; unfold In at a3; have a4 := i226; unfold In at a4; have a5 := t_add e226 i8 (in_c 1 rfl) rfl; have a6 := (in_c 1 rfl); unfold In at a6; have a7 := i217a; unfold In at a7; have a8 := (in_c 3 rfl); unfold In at a8; omega
                              have n230c : (s.2.2.1 109 27).toInt ≤ ((sF s217 109 27 z226).2.2.1 109 27).toInt := by have b0 : z226 = (sF s217 109 27 z226).2.2.1 109 27 := sF_get; first | (rw [← b0, ← e_109_27]; exact n230b) | (rw [← b0]; exact n230b)
                              have n230d : ((Int32.ofInt 3)).toInt ≠ 0 → (u_109_27).toInt + 1 ≤ (z226).toInt := by have a0 := i8a; unfold In at a0; have a1 := i8; unfold In at a1; have a2 := (in_c 0 rfl); unfold In at a2; have a3 := i183x3; unfold In at a3; have a4 := i226; unfold In at a4; have a5 := t_add e226 i8 (in_c 1 rfl) rfl; have a6 := (in_c 1 rfl); unfold In at a6; have a7 := i217a; unfold In at a7; have a8 := (in_c 3 rfl); unfold In at a8; omega
                              have n230e : ((sF s217 109 27 z226).2.2.1 109 28).toInt ≠ 0 → (s.2.2.1 109 27).toInt + 1 ≤ ((sF s217 109 27 z226).2.2.1 109 27).toInt := by have b0 : (Int32.ofInt 3) = (sF s217 109 27 z226).2.2.1 109 28 := sF_ne rfl (fr_F (s := (sF (sF (sF sc0 109 29 w0_109_27) 109 30 z19) 109 28 (Int32.ofInt 3))) (sF_get) hF217 rfl); have b1 : z226 = (sF s217 109 27 z226).2.2.1 109 27 := sF_get; first | (rw [← b0, ← b1, ← e_109_27]; exact n230d) | (rw [← b0, ← b1]; exact n230d)
                              have n230f : ((Int32.ofInt 3)).toInt = 1 → 97 ≤ (z19).toInt := by have a0 := i8a; unfold In at a0; have a1 := i8; unfold In at a1; have a2 := (in_c 0 rfl); unfold In at a2; have a3 := i183x3; unfold In at a3; have a4 := i226; unfold In at a4; have a5 := t_add e226 i8 (in_c 1 rfl) rfl; have a6 := (in_c 1 rfl); unfold In at a6; have a7 := i217a; unfold In at a7; have a8 := (in_c 3 rfl); unfold In at a8; omega
                              have n230g : ((sF s217 109 27 z226).2.2.1 109 28).toInt = 1 → 97 ≤ ((sF s217 109 27 z226).2.2.1 109 30).toInt := by have b0 : (Int32.ofInt 3) = (sF s217 109 27 z226).2.2.1 109 28 := sF_ne rfl (fr_F (s := (sF (sF (sF sc0 109 29 w0_109_27) 109 30 z19) 109 28 (Int32.ofInt 3))) (sF_get) hF217 rfl); have b1 : z19 = (sF s217 109 27 z226).2.2.1 109 30 := sF_ne rfl (fr_F (s := (sF (sF (sF sc0 109 29 w0_109_27) 109 30 z19) 109 28 (Int32.ofInt 3))) (sF_ne rfl (sF_get)) hF217 rfl); rw [← b0, ← b1]; exact n230f
                              have n230h : ((Int32.ofInt 3)).toInt = 1 → (z19).toInt ≤ 122 := by have a0 := i8a; unfold In at a0; have a1 := i8; unfold In at a1; have a2 := (in_c 0 rfl); unfold In at a2; have a3 := i183x3; unfold In at a3; have a4 := i226; unfold In at a4; have a5 := t_add e226 i8 (in_c 1 rfl) rfl; have a6 := (in_c 1 rfl); unfold In at a6; have a7 := i217a; unfold In at a7; have a8 := (in_c 3 rfl); unfold In at a8; omega
                              have n230i : ((sF s217 109 27 z226).2.2.1 109 28).toInt = 1 → ((sF s217 109 27 z226).2.2.1 109 30).toInt ≤ 122 := by have b0 : (Int32.ofInt 3) = (sF s217 109 27 z226).2.2.1 109 28 := sF_ne rfl (fr_F (s := (sF (sF (sF sc0 109 29 w0_109_27) 109 30 z19) 109 28 (Int32.ofInt 3))) (sF_get) hF217 rfl); have b1 : z19 = (sF s217 109 27 z226).2.2.1 109 30 := sF_ne rfl (fr_F (s := (sF (sF (sF sc0 109 29 w0_109_27) 109 30 z19) 109 28 (Int32.ofInt 3))) (sF_ne rfl (sF_get)) hF217 rfl); rw [← b0, ← b1]; exact n230h
                              exact g_return (gd rfl) rfl (hP _ _ ⟨(sF s217 109 27 z226), hI227, (fr_sF rfl (fr_tr rfl (fr_sF rfl (fr_sF rfl (fr_sF rfl hFc0))) hF217)), n230a, n230c, n230e, n230g, n230i, rfl, rfl⟩)
                        · skip
                          exact zn_ne c186 (in_c 0 rfl) rfl
                      · skip
                        have i183x3 := r_le2 97 126 c183x3 (in_c 97 rfl) i121x9 rfl
                        refine g_iload_n 7 (gd rfl) rfl rfl ?_
                        refine g_bipush 122 9 (gd rfl) rfl rfl ?_
                        refine g_cmp_gt 12 16 (gd rfl) rfl rfl (fun c183x9 => ?_) (fun c183x9 => ?_)
                        · skip
                          have i183x9 := r_lt2 123 126 c183x9 (in_c 122 rfl) i183x3 rfl
                          refine g_iconst 0 17 (gd rfl) rfl rfl ?_
                          refine g_ireturn (gd rfl) rfl (nb01 (in_w 0 1 (in_c 0 rfl) rfl)) (hp183 _ _ ?_)
                          show GG _ _ _ _ _ _ _ _ [.int (Int32.ofInt 0), .ref (A 109)] _ _ _
                          refine g_if_eq 189 193 (gd rfl) rfl rfl (fun c186 => ?_) (fun c186 => ?_)
                          · skip
                            refine g_iconst 3 194 (gd rfl) rfl rfl ?_
                            refine g_putI 197 (gd rfl) rfl rfl rfl rfl ?_
                            have hI194 := inv_sF (q := 109) (j := 28) hI75 rfl (in_w (-2147483648) 2147483647 (in_c 3 rfl) rfl)
                            refine g_aload_n 198 (gd rfl) rfl rfl ?_
                            refine g_getI 201 (gd rfl) rfl rfl rfl (fun z198 e198 => ?_)
                            have q198 : (Int32.ofInt 3) = z198 := (sF_get).trans e198.symm
                            subst q198
                            refine g_iconst 3 202 (gd rfl) rfl rfl ?_
                            refine g_cmp_ne 205 220 (gd rfl) rfl rfl (fun c202 => ?_) (fun c202 => ?_)
                            · skip
                              exact n_ne c202 (in_c 3 rfl) (in_c 3 rfl) rfl
                            · skip
                              refine g_iload_n 206 (gd rfl) rfl rfl ?_
                              refine g_bipush 59 208 (gd rfl) rfl rfl ?_
                              refine g_cmp_eq 211 220 (gd rfl) rfl rfl (fun c208 => ?_) (fun c208 => ?_)
                              · skip
                                exact n_eq c208 i183x9 (in_c 59 rfl) rfl
                              · skip
                                refine g_aload_n 212 (gd rfl) rfl rfl ?_
                                refine g_iconst 1 213 (gd rfl) rfl rfl ?_
                                refine g_aload_n 214 (gd rfl) rfl rfl ?_
                                refine g_getI 217 (gd rfl) rfl rfl rfl (fun z214 e214 => ?_)
                                have q214 : w0_109_27 = z214 := (sF_ne rfl (sF_ne rfl (sF_get))).trans e214.symm
                                subst q214
                                refine g_callv (X := _) (As := [.int (Int32.ofInt 1), .int w0_109_27]) (r := []) (b := A 109) (q := 109) 220 (gd rfl) rfl rfl rfl rfl rfl (ww_o rfl) (Nat.le_of_ble_eq_true rfl) (Nat.zero_le _) (Nat.zero_le _) (k_298 (by omega) hI194 (in_w 1 5 (in_c 1 rfl) rfl)) (fun e u h => h) (fun v u h => ?_)
                                obtain ⟨s217, hI217, hF217, n217, rfl, rfl⟩ := h
                                obtain ⟨z217a, e217⟩ : ∃ w, w = s217.2.2.1 109 23 := ⟨_, rfl⟩
                                have i217a := inv_F hI217 0 9 rfl e217
                                rw [← (show z217a = s217.2.2.1 109 23 from e217)] at n217
                                show GG _ _ _ _ _ _ _ _ [] _ _ _
                                refine g_aload_n 221 (gd rfl) rfl rfl ?_
                                refine g_dup 222 (gd rfl) rfl rfl ?_
                                refine g_getI 225 (gd rfl) rfl rfl rfl (fun z222 e222 => ?_)
                                have q222 : w0_109_27 = z222 := (fr_F (s := (sF (sF (sF sc0 109 29 w0_109_27) 109 30 z19) 109 28 (Int32.ofInt 3))) (sF_ne rfl (sF_ne rfl (sF_ne rfl (v0_109_27)))) hF217 rfl).trans e222.symm
                                subst q222
                                refine g_iconst 1 226 (gd rfl) rfl rfl ?_
                                refine g_iadd 227 (gd rfl) rfl (fun z226 e226 => ?_)
                                have i226 := in_add 1 1000 e226 i8 (in_c 1 rfl) rfl rfl
                                refine g_putI 230 (gd rfl) rfl rfl rfl rfl ?_
                                have hI227 := inv_sF (q := 109) (j := 27) hI217 rfl (in_w 0 1000 i226 rfl)
                                have n230 : (z226).toInt ≤ (u_109_22).toInt := by have a0 := i8a; unfold In at a0; have a1 := i8; unfold In at a1; have a2 := (in_c 0 rfl); unfold In at a2; have a3 := i183x9; unfold In at a3; have a4 := i226; unfold In at a4; have a5 := t_add e226 i8 (in_c 1 rfl) rfl; have a6 := (in_c 1 rfl); unfold In at a6; have a7 := i217a; unfold In at a7; have a8 := (in_c 3 rfl); unfold In at a8; omega
                                have n230a : ((sF s217 109 27 z226).2.2.1 109 27).toInt ≤ ((sF s217 109 27 z226).2.2.1 109 22).toInt := by have b0 : z226 = (sF s217 109 27 z226).2.2.1 109 27 := sF_get; have b1 : u_109_22 = (sF s217 109 27 z226).2.2.1 109 22 := sF_ne rfl (fr_F (s := (sF (sF (sF sc0 109 29 w0_109_27) 109 30 z19) 109 28 (Int32.ofInt 3))) (sF_ne rfl (sF_ne rfl (sF_ne rfl (fr_F e_109_22 hFc0 rfl)))) hF217 rfl); rw [← b0, ← b1]; exact n230
                                have n230b : (u_109_27).toInt ≤ (z226).toInt := by have a0 := i8a; unfold In at a0; have a1 := i8; unfold In at a1; have a2 := (in_c 0 rfl); unfold In at a2; have a3 := i183x9; unfold In at a3; have a4 := i226; unfold In at a4; have a5 := t_add e226 i8 (in_c 1 rfl) rfl; have a6 := (in_c 1 rfl); unfold In at a6; have a7 := i217a; unfold In at a7; have a8 := (in_c 3 rfl); unfold In at a8; omega
                                have n230c : (s.2.2.1 109 27).toInt ≤ ((sF s217 109 27 z226).2.2.1 109 27).toInt := by have b0 : z226 = (sF s217 109 27 z226).2.2.1 109 27 := sF_get; first | (rw [← b0, ← e_109_27]; exact n230b) | (rw [← b0]; exact n230b)
                                have n230d : ((Int32.ofInt 3)).toInt ≠ 0 → (u_109_27).toInt + 1 ≤ (z226).toInt := by have a0 := i8a; unfold In at a0; have a1 := i8; unfold In at a1; have a2 := (in_c 0 rfl); unfold In at a2; have a3 := i183x9; unfold In at a3; have a4 := i226; unfold In at a4; have a5 := t_add e226 i8 (in_c 1 rfl) rfl; have a6 := (in_c 1 rfl); unfold In at a6; have a7 := i217a; unfold In at a7; have a8 := (in_c 3 rfl); unfold In at a8; omega
                                have n230e : ((sF s217 109 27 z226).2.2.1 109 28).toInt ≠ 0 → (s.2.2.1 109 27).toInt + 1 ≤ ((sF s217 109 27 z226).2.2.1 109 27).toInt := by have b0 : (Int32.ofInt 3) = (sF s217 109 27 z226).2.2.1 109 28 := sF_ne rfl (fr_F (s := (sF (sF (sF sc0 109 29 w0_109_27) 109 30 z19) 109 28 (Int32.ofInt 3))) (sF_get) hF217 rfl); have b1 : z226 = (sF s217 109 27 z226).2.2.1 109 27 := sF_get; first | (rw [← b0, ← b1, ← e_109_27]; exact n230d) | (rw [← b0, ← b1]; exact n230d)
                                have n230f : ((Int32.ofInt 3)).toInt = 1 → 97 ≤ (z19).toInt := by have a0 := i8a; unfold In at a0; have a1 := i8; unfold In at a1; have a2 := (in_c 0 rfl); unfold In at a2; have a3 := i183x9; unfold In at a3; have a4 := i226; unfold In at a4; have a5 := t_add e226 i8 (in_c 1 rfl) rfl; have a6 := (in_c 1 rfl); unfold In at a6; have a7 := i217a; unfold In at a7; have a8 := (in_c 3 rfl); unfold In at a8; omega
                                have n230g : ((sF s217 109 27 z226).2.2.1 109 28).toInt = 1 → 97 ≤ ((sF s217 109 27 z226).2.2.1 109 30).toInt := by have b0 : (Int32.ofInt 3) = (sF s217 109 27 z226).2.2.1 109 28 := sF_ne rfl (fr_F (s := (sF (sF (sF sc0 109 29 w0_109_27) 109 30 z19) 109 28 (Int32.ofInt 3))) (sF_get) hF217 rfl); have b1 : z19 = (sF s217 109 27 z226).2.2.1 109 30 := sF_ne rfl (fr_F (s := (sF (sF (sF sc0 109 29 w0_109_27) 109 30 z19) 109 28 (Int32.ofInt 3))) (sF_ne rfl (sF_get)) hF217 rfl); rw [← b0, ← b1]; exact n230f
                                have n230h : ((Int32.ofInt 3)).toInt = 1 → (z19).toInt ≤ 122 := by have a0 := i8a; unfold In at a0; have a1 := i8; unfold In at a1; have a2 := (in_c 0 rfl); unfold In at a2; have a3 := i183x9; unfold In at a3; have a4 := i226; unfold In at a4; have a5 := t_add e226 i8 (in_c 1 rfl) rfl; have a6 := (in_c 1 rfl); unfold In at a6; have a7 := i217a; unfold In at a7; have a8 := (in_c 3 rfl); unfold In at a8; omega
                                have n230i : ((sF s217 109 27 z226).2.2.1 109 28).toInt = 1 → ((sF s217 109 27 z226).2.2.1 109 30).toInt ≤ 122 := by have b0 : (Int32.ofInt 3) = (sF s217 109 27 z226).2.2.1 109 28 := sF_ne rfl (fr_F (s := (sF (sF (sF sc0 109 29 w0_109_27) 109 30 z19) 109 28 (Int32.ofInt 3))) (sF_get) hF217 rfl); have b1 : z19 = (sF s217 109 27 z226).2.2.1 109 30 := sF_ne rfl (fr_F (s := (sF (sF (sF sc0 109 29 w0_109_27) 109 30 z19) 109 28 (Int32.ofInt 3))) (sF_ne rfl (sF_get)) hF217 rfl); rw [← b0, ← b1]; exact n230h
                                exact g_return (gd rfl) rfl (hP _ _ ⟨(sF s217 109 27 z226), hI227, (fr_sF rfl (fr_tr rfl (fr_sF rfl (fr_sF rfl (fr_sF rfl hFc0))) hF217)), n230a, n230c, n230e, n230g, n230i, rfl, rfl⟩)
                          · skip
                            exact zn_ne c186 (in_c 0 rfl) rfl
                        · skip
                          have i183x9 := r_le1 97 122 c183x9 i183x3 (in_c 122 rfl) rfl
                          refine g_iconst 1 13 (gd rfl) rfl rfl ?_
                          refine g_goto 17 (gd rfl) rfl ?_
                          refine g_ireturn (gd rfl) rfl (nb01 (in_w 0 1 (in_c 1 rfl) rfl)) (hp183 _ _ ?_)
                          show GG _ _ _ _ _ _ _ _ [.int (Int32.ofInt 1), .ref (A 109)] _ _ _
                          refine g_if_eq 189 193 (gd rfl) rfl rfl (fun c186 => ?_) (fun c186 => ?_)
                          · skip
                            exact zn_eq c186 (in_c 1 rfl) rfl
                          · skip
                            refine g_iconst 1 190 (gd rfl) rfl rfl ?_
                            refine g_goto 194 (gd rfl) rfl ?_
                            refine g_putI 197 (gd rfl) rfl rfl rfl rfl ?_
                            have hI194 := inv_sF (q := 109) (j := 28) hI75 rfl (in_w (-2147483648) 2147483647 (in_c 1 rfl) rfl)
                            refine g_aload_n 198 (gd rfl) rfl rfl ?_
                            refine g_getI 201 (gd rfl) rfl rfl rfl (fun z198 e198 => ?_)
                            have q198 : (Int32.ofInt 1) = z198 := (sF_get).trans e198.symm
                            subst q198
                            refine g_iconst 3 202 (gd rfl) rfl rfl ?_
                            refine g_cmp_ne 205 220 (gd rfl) rfl rfl (fun c202 => ?_) (fun c202 => ?_)
                            · skip
                              refine g_aload_n 221 (gd rfl) rfl rfl ?_
                              refine g_dup 222 (gd rfl) rfl rfl ?_
                              refine g_getI 225 (gd rfl) rfl rfl rfl (fun z222 e222 => ?_)
                              have q222 : w0_109_27 = z222 := (sF_ne rfl (sF_ne rfl (sF_ne rfl (v0_109_27)))).trans e222.symm
                              subst q222
                              refine g_iconst 1 226 (gd rfl) rfl rfl ?_
                              refine g_iadd 227 (gd rfl) rfl (fun z226 e226 => ?_)
                              have i226 := in_add 1 1000 e226 i8 (in_c 1 rfl) rfl rfl
                              refine g_putI 230 (gd rfl) rfl rfl rfl rfl ?_
                              have hI227 := inv_sF (q := 109) (j := 27) hI194 rfl (in_w 0 1000 i226 rfl)
                              have n230 : (z226).toInt ≤ (u_109_22).toInt := by have a0 := i8a; unfold In at a0; have a1 := i8; unfold In at a1; have a2 := (in_c 0 rfl); unfold In at a2; have a3 := i183x9; unfold In at a3; have a4 := i226; unfold In at a4; have a5 := t_add e226 i8 (in_c 1 rfl) rfl; have a6 := (in_c 1 rfl); unfold In at a6; omega
                              have n230a : ((sF (sF (sF (sF sc0 109 29 w0_109_27) 109 30 z19) 109 28 (Int32.ofInt 1)) 109 27 z226).2.2.1 109 27).toInt ≤ ((sF (sF (sF (sF sc0 109 29 w0_109_27) 109 30 z19) 109 28 (Int32.ofInt 1)) 109 27 z226).2.2.1 109 22).toInt := by have b0 : z226 = (sF (sF (sF (sF sc0 109 29 w0_109_27) 109 30 z19) 109 28 (Int32.ofInt 1)) 109 27 z226).2.2.1 109 27 := sF_get; have b1 : u_109_22 = (sF (sF (sF (sF sc0 109 29 w0_109_27) 109 30 z19) 109 28 (Int32.ofInt 1)) 109 27 z226).2.2.1 109 22 := sF_ne rfl (sF_ne rfl (sF_ne rfl (sF_ne rfl (fr_F e_109_22 hFc0 rfl)))); rw [← b0, ← b1]; exact n230
                              have n230b : (u_109_27).toInt ≤ (z226).toInt := by have a0 := i8a; unfold In at a0; have a1 := i8; unfold In at a1; have a2 := (in_c 0 rfl); unfold In at a2; have a3 := i183x9; unfold In at a3; have a4 := i226; unfold In at a4; have a5 := t_add e226 i8 (in_c 1 rfl) rfl; have a6 := (in_c 1 rfl); unfold In at a6; omega
                              have n230c : (s.2.2.1 109 27).toInt ≤ ((sF (sF (sF (sF sc0 109 29 w0_109_27) 109 30 z19) 109 28 (Int32.ofInt 1)) 109 27 z226).2.2.1 109 27).toInt := by have b0 : z226 = (sF (sF (sF (sF sc0 109 29 w0_109_27) 109 30 z19) 109 28 (Int32.ofInt 1)) 109 27 z226).2.2.1 109 27 := sF_get; first | (rw [← b0, ← e_109_27]; exact n230b) | (rw [← b0]; exact n230b)
                              have n230d : ((Int32.ofInt 1)).toInt ≠ 0 → (u_109_27).toInt + 1 ≤ (z226).toInt := by have a0 := i8a; unfold In at a0; have a1 := i8; unfold In at a1; have a2 := (in_c 0 rfl); unfold In at a2; have a3 := i183x9; unfold In at a3; have a4 := i226; unfold In at a4; have a5 := t_add e226 i8 (in_c 1 rfl) rfl; have a6 := (in_c 1 rfl); unfold In at a6; omega
                              have n230e : ((sF (sF (sF (sF sc0 109 29 w0_109_27) 109 30 z19) 109 28 (Int32.ofInt 1)) 109 27 z226).2.2.1 109 28).toInt ≠ 0 → (s.2.2.1 109 27).toInt + 1 ≤ ((sF (sF (sF (sF sc0 109 29 w0_109_27) 109 30 z19) 109 28 (Int32.ofInt 1)) 109 27 z226).2.2.1 109 27).toInt := by have b0 : (Int32.ofInt 1) = (sF (sF (sF (sF sc0 109 29 w0_109_27) 109 30 z19) 109 28 (Int32.ofInt 1)) 109 27 z226).2.2.1 109 28 := sF_ne rfl (sF_get); have b1 : z226 = (sF (sF (sF (sF sc0 109 29 w0_109_27) 109 30 z19) 109 28 (Int32.ofInt 1)) 109 27 z226).2.2.1 109 27 := sF_get; first | (rw [← b0, ← b1, ← e_109_27]; exact n230d) | (rw [← b0, ← b1]; exact n230d)
                              have n230f : ((Int32.ofInt 1)).toInt = 1 → 97 ≤ (z19).toInt := by have a0 := i8a; unfold In at a0; have a1 := i8; unfold In at a1; have a2 := (in_c 0 rfl); unfold In at a2; have a3 := i183x9; unfold In at a3; have a4 := i226; unfold In at a4; have a5 := t_add e226 i8 (in_c 1 rfl) rfl; have a6 := (in_c 1 rfl); unfold In at a6; omega
                              have n230g : ((sF (sF (sF (sF sc0 109 29 w0_109_27) 109 30 z19) 109 28 (Int32.ofInt 1)) 109 27 z226).2.2.1 109 28).toInt = 1 → 97 ≤ ((sF (sF (sF (sF sc0 109 29 w0_109_27) 109 30 z19) 109 28 (Int32.ofInt 1)) 109 27 z226).2.2.1 109 30).toInt := by have b0 : (Int32.ofInt 1) = (sF (sF (sF (sF sc0 109 29 w0_109_27) 109 30 z19) 109 28 (Int32.ofInt 1)) 109 27 z226).2.2.1 109 28 := sF_ne rfl (sF_get); have b1 : z19 = (sF (sF (sF (sF sc0 109 29 w0_109_27) 109 30 z19) 109 28 (Int32.ofInt 1)) 109 27 z226).2.2.1 109 30 := sF_ne rfl (sF_ne rfl (sF_get)); rw [← b0, ← b1]; exact n230f
                              have n230h : ((Int32.ofInt 1)).toInt = 1 → (z19).toInt ≤ 122 := by have a0 := i8a; unfold In at a0; have a1 := i8; unfold In at a1; have a2 := (in_c 0 rfl); unfold In at a2; have a3 := i183x9; unfold In at a3; have a4 := i226; unfold In at a4; have a5 := t_add e226 i8 (in_c 1 rfl) rfl; have a6 := (in_c 1 rfl); unfold In at a6; omega
                              have n230i : ((sF (sF (sF (sF sc0 109 29 w0_109_27) 109 30 z19) 109 28 (Int32.ofInt 1)) 109 27 z226).2.2.1 109 28).toInt = 1 → ((sF (sF (sF (sF sc0 109 29 w0_109_27) 109 30 z19) 109 28 (Int32.ofInt 1)) 109 27 z226).2.2.1 109 30).toInt ≤ 122 := by have b0 : (Int32.ofInt 1) = (sF (sF (sF (sF sc0 109 29 w0_109_27) 109 30 z19) 109 28 (Int32.ofInt 1)) 109 27 z226).2.2.1 109 28 := sF_ne rfl (sF_get); have b1 : z19 = (sF (sF (sF (sF sc0 109 29 w0_109_27) 109 30 z19) 109 28 (Int32.ofInt 1)) 109 27 z226).2.2.1 109 30 := sF_ne rfl (sF_ne rfl (sF_get)); rw [← b0, ← b1]; exact n230h
                              exact g_return (gd rfl) rfl (hP _ _ ⟨(sF (sF (sF (sF sc0 109 29 w0_109_27) 109 30 z19) 109 28 (Int32.ofInt 1)) 109 27 z226), hI227, (fr_sF rfl (fr_sF rfl (fr_sF rfl (fr_sF rfl hFc0)))), n230a, n230c, n230e, n230g, n230i, rfl, rfl⟩)
                            · skip
                              exact n_eq c202 (in_c 1 rfl) (in_c 3 rfl) rfl
                    · skip
                      exact zn_ne c128 (in_c 0 rfl) rfl
                · skip
                  have i121x9 := r_le1 48 57 c121x9 i121x3 (in_c 57 rfl) rfl
                  refine g_iconst 1 13 (gd rfl) rfl rfl ?_
                  refine g_goto 17 (gd rfl) rfl ?_
                  refine g_ireturn (gd rfl) rfl (nb01 (in_w 0 1 (in_c 1 rfl) rfl)) (hp121 _ _ ?_)
                  show GG _ _ _ _ _ _ _ _ [.int (Int32.ofInt 1)] _ _ _
                  refine g_if_ne 127 131 (gd rfl) rfl rfl (fun c124 => ?_) (fun c124 => ?_)
                  · skip
                    refine g_aload_n 132 (gd rfl) rfl rfl ?_
                    refine g_iconst 2 133 (gd rfl) rfl rfl ?_
                    refine g_putI 136 (gd rfl) rfl rfl rfl rfl ?_
                    have hI133 := inv_sF (q := 109) (j := 28) hI75 rfl (in_w (-2147483648) 2147483647 (in_c 2 rfl) rfl)
                    refine g_aload_n 137 (gd rfl) rfl rfl ?_
                    refine g_dup 138 (gd rfl) rfl rfl ?_
                    refine g_getI 141 (gd rfl) rfl rfl rfl (fun z138 e138 => ?_)
                    have q138 : w0_109_27 = z138 := (sF_ne rfl (sF_ne rfl (sF_ne rfl (v0_109_27)))).trans e138.symm
                    subst q138
                    refine g_iload_n 142 (gd rfl) rfl rfl ?_
                    refine g_if_eq 145 149 (gd rfl) rfl rfl (fun c142 => ?_) (fun c142 => ?_)
                    · skip
                      refine g_iconst 0 150 (gd rfl) rfl rfl ?_
                      refine g_iadd 151 (gd rfl) rfl (fun z150 e150 => ?_)
                      have i150 := in_add 0 999 e150 i8 (in_c 0 rfl) rfl rfl
                      refine g_putI 154 (gd rfl) rfl rfl rfl rfl ?_
                      have hI151 := inv_sF (q := 109) (j := 27) hI133 rfl (in_w 0 1000 i150 rfl)
                      refine g_aload_n 155 (gd rfl) rfl rfl ?_
                      refine g_bipush 7 157 (gd rfl) rfl rfl ?_
                      have v157 : z150 = (sF (sF (sF (sF sc0 109 29 w0_109_27) 109 30 z19) 109 28 (Int32.ofInt 2)) 109 27 z150).2.2.1 109 27 := sF_get
                      have v157a : u_109_22 = (sF (sF (sF (sF sc0 109 29 w0_109_27) 109 30 z19) 109 28 (Int32.ofInt 2)) 109 27 z150).2.2.1 109 22 := sF_ne rfl (sF_ne rfl (sF_ne rfl (sF_ne rfl (fr_F e_109_22 hFc0 rfl))))
                      have n157 : (z150).toInt < (u_109_22).toInt := by have a0 := i8a; unfold In at a0; have a1 := i8; unfold In at a1; have a2 := (in_c 0 rfl); unfold In at a2; have a3 := i121x9; unfold In at a3; have a4 := i150; unfold In at a4; have a5 := t_add e150 i8 (in_c 0 rfl) rfl; have a6 := (in_c 2 rfl); unfold In at a6; omega
                      have p157 : 48 ≤ ((sF (sF (sF (sF sc0 109 29 w0_109_27) 109 30 z19) 109 28 (Int32.ofInt 2)) 109 27 z150).1 125 ((sF (sF (sF (sF sc0 109 29 w0_109_27) 109 30 z19) 109 28 (Int32.ofInt 2)) 109 27 z150).2.2.1 109 27).toNatClampNeg).toInt ∧ ((sF (sF (sF (sF sc0 109 29 w0_109_27) 109 30 z19) 109 28 (Int32.ofInt 2)) 109 27 z150).1 125 ((sF (sF (sF (sF sc0 109 29 w0_109_27) 109 30 z19) 109 28 (Int32.ofInt 2)) 109 27 z150).2.2.1 109 27).toNatClampNeg).toInt ≤ 57 := by first | (have hz : z107 = (sF (sF (sF (sF sc0 109 29 w0_109_27) 109 30 z19) 109 28 (Int32.ofInt 2)) 109 27 z150).1 125 ((sF (sF (sF (sF sc0 109 29 w0_109_27) 109 30 z19) 109 28 (Int32.ofInt 2)) 109 27 z150).2.2.1 109 27).toNatClampNeg := (by rw [← (show z150 = (sF (sF (sF (sF sc0 109 29 w0_109_27) 109 30 z19) 109 28 (Int32.ofInt 2)) 109 27 z150).2.2.1 109 27 from sF_get), e150, ← e106]; exact e107); rw [← hz]; exact i108x9) | (have hz : z19 = (sF (sF (sF (sF sc0 109 29 w0_109_27) 109 30 z19) 109 28 (Int32.ofInt 2)) 109 27 z150).1 125 ((sF (sF (sF (sF sc0 109 29 w0_109_27) 109 30 z19) 109 28 (Int32.ofInt 2)) 109 27 z150).2.2.1 109 27).toNatClampNeg := (by rw [← (show z150 = (sF (sF (sF (sF sc0 109 29 w0_109_27) 109 30 z19) 109 28 (Int32.ofInt 2)) 109 27 z150).2.2.1 109 27 from sF_get), e150, show w0_109_27 + Int32.ofInt 0 = w0_109_27 from Int32.add_zero _]; exact e19); rw [← hz]; exact i121x9) | (have hz : z71 = (sF (sF (sF (sF sc0 109 29 w0_109_27) 109 30 z19) 109 28 (Int32.ofInt 2)) 109 27 z150).1 125 ((sF (sF (sF (sF sc0 109 29 w0_109_27) 109 30 z19) 109 28 (Int32.ofInt 2)) 109 27 z150).2.2.1 109 27).toNatClampNeg := (by rw [← (show z150 = (sF (sF (sF (sF sc0 109 29 w0_109_27) 109 30 z19) 109 28 (Int32.ofInt 2)) 109 27 z150).2.2.1 109 27 from sF_get), e150, show w0_109_27 + Int32.ofInt 0 = w0_109_27 from Int32.add_zero _]; exact e71); rw [← hz]; exact i121x9)
                      refine g_callv (X := _) (As := [.int (Int32.ofInt 7)]) (r := []) (b := A 109) (q := 109) 160 (gd rfl) rfl rfl rfl rfl rfl (ww_o rfl) (Nat.le_of_ble_eq_true rfl) (Nat.zero_le _) (Nat.zero_le _) (k_300 (by omega) hI151 (in_w 6 7 (in_c 7 rfl) rfl) v157 v157a n157 p157) (fun e u h => h) (fun v u h => ?_)
                      obtain ⟨s157, hI157, hF157, n157a, n157b, rfl, rfl⟩ := h
                      obtain ⟨z157a, e157⟩ : ∃ w, w = s157.2.2.1 109 27 := ⟨_, rfl⟩
                      have i157a := inv_F hI157 0 1000 rfl e157
                      rw [← (show z157a = s157.2.2.1 109 27 from e157)] at n157a
                      rw [← (show u_109_22 = s157.2.2.1 109 22 from fr_F (s := (sF (sF (sF (sF sc0 109 29 w0_109_27) 109 30 z19) 109 28 (Int32.ofInt 2)) 109 27 z150)) (sF_ne rfl (sF_ne rfl (sF_ne rfl (sF_ne rfl (fr_F e_109_22 hFc0 rfl))))) hF157 rfl)] at n157a
                      rw [← (show z150 = (sF (sF (sF (sF sc0 109 29 w0_109_27) 109 30 z19) 109 28 (Int32.ofInt 2)) 109 27 z150).2.2.1 109 27 from sF_get)] at n157b
                      rw [← (show z157a = s157.2.2.1 109 27 from e157)] at n157b
                      show GG _ _ _ _ _ _ _ _ [] _ _ _
                      refine g_aload_n 161 (gd rfl) rfl rfl ?_
                      refine g_iload_n 162 (gd rfl) rfl rfl ?_
                      refine g_if_eq 165 173 (gd rfl) rfl rfl (fun c162 => ?_) (fun c162 => ?_)
                      · skip
                        refine g_aload_n 174 (gd rfl) rfl rfl ?_
                        refine g_getL 177 (gd rfl) rfl rfl rfl (fun z174 e174 => ?_)
                        refine g_putL 180 (gd rfl) rfl rfl rfl rfl ?_
                        have hI177 := inv_sG (q := 109) (j := 31) (x := z174) hI157 rfl (l_rng z174)
                        have n180 : (z157a).toInt ≤ (u_109_22).toInt := by have a0 := i8a; unfold In at a0; have a1 := i8; unfold In at a1; have a2 := (in_c 0 rfl); unfold In at a2; have a3 := i121x9; unfold In at a3; have a4 := i157a; unfold In at a4; have a5 := (in_c 2 rfl); unfold In at a5; have a6 := i150; unfold In at a6; have a7 := t_add e150 i8 (in_c 0 rfl) rfl; omega
                        have n180a : ((sG s157 109 31 z174).2.2.1 109 27).toInt ≤ ((sG s157 109 31 z174).2.2.1 109 22).toInt := by have b0 : z157a = (sG s157 109 31 z174).2.2.1 109 27 := sG_F (e157); have b1 : u_109_22 = (sG s157 109 31 z174).2.2.1 109 22 := sG_F (fr_F (s := (sF (sF (sF (sF sc0 109 29 w0_109_27) 109 30 z19) 109 28 (Int32.ofInt 2)) 109 27 z150)) (sF_ne rfl (sF_ne rfl (sF_ne rfl (sF_ne rfl (fr_F e_109_22 hFc0 rfl))))) hF157 rfl); rw [← b0, ← b1]; exact n180
                        have n180b : (u_109_27).toInt ≤ (z157a).toInt := by have a0 := i8a; unfold In at a0; have a1 := i8; unfold In at a1; have a2 := (in_c 0 rfl); unfold In at a2; have a3 := i121x9; unfold In at a3; have a4 := i157a; unfold In at a4; have a5 := (in_c 2 rfl); unfold In at a5; have a6 := i150; unfold In at a6; have a7 := t_add e150 i8 (in_c 0 rfl) rfl; omega
                        have n180c : (s.2.2.1 109 27).toInt ≤ ((sG s157 109 31 z174).2.2.1 109 27).toInt := by have b0 : z157a = (sG s157 109 31 z174).2.2.1 109 27 := sG_F (e157); first | (rw [← b0, ← e_109_27]; exact n180b) | (rw [← b0]; exact n180b)
                        have n180d : ((Int32.ofInt 2)).toInt ≠ 0 → (u_109_27).toInt + 1 ≤ (z157a).toInt := by have a0 := i8a; unfold In at a0; have a1 := i8; unfold In at a1; have a2 := (in_c 0 rfl); unfold In at a2; have a3 := i121x9; unfold In at a3; have a4 := i157a; unfold In at a4; have a5 := (in_c 2 rfl); unfold In at a5; have a6 := i150; unfold In at a6; have a7 := t_add e150 i8 (in_c 0 rfl) rfl; omega
                        have n180e : ((sG s157 109 31 z174).2.2.1 109 28).toInt ≠ 0 → (s.2.2.1 109 27).toInt + 1 ≤ ((sG s157 109 31 z174).2.2.1 109 27).toInt := by have b0 : (Int32.ofInt 2) = (sG s157 109 31 z174).2.2.1 109 28 := sG_F (fr_F (s := (sF (sF (sF (sF sc0 109 29 w0_109_27) 109 30 z19) 109 28 (Int32.ofInt 2)) 109 27 z150)) (sF_ne rfl (sF_get)) hF157 rfl); have b1 : z157a = (sG s157 109 31 z174).2.2.1 109 27 := sG_F (e157); first | (rw [← b0, ← b1, ← e_109_27]; exact n180d) | (rw [← b0, ← b1]; exact n180d)
                        have n180f : ((Int32.ofInt 2)).toInt = 1 → 97 ≤ (z19).toInt := by have a0 := i8a; unfold In at a0; have a1 := i8; unfold In at a1; have a2 := (in_c 0 rfl); unfold In at a2; have a3 := i121x9; unfold In at a3; have a4 := i157a; unfold In at a4; have a5 := (in_c 2 rfl); unfold In at a5; have a6 := i150; unfold In at a6; have a7 := t_add e150 i8 (in_c 0 rfl) rfl; omega
                        have n180g : ((sG s157 109 31 z174).2.2.1 109 28).toInt = 1 → 97 ≤ ((sG s157 109 31 z174).2.2.1 109 30).toInt := by have b0 : (Int32.ofInt 2) = (sG s157 109 31 z174).2.2.1 109 28 := sG_F (fr_F (s := (sF (sF (sF (sF sc0 109 29 w0_109_27) 109 30 z19) 109 28 (Int32.ofInt 2)) 109 27 z150)) (sF_ne rfl (sF_get)) hF157 rfl); have b1 : z19 = (sG s157 109 31 z174).2.2.1 109 30 := sG_F (fr_F (s := (sF (sF (sF (sF sc0 109 29 w0_109_27) 109 30 z19) 109 28 (Int32.ofInt 2)) 109 27 z150)) (sF_ne rfl (sF_ne rfl (sF_get))) hF157 rfl); rw [← b0, ← b1]; exact n180f
                        have n180h : ((Int32.ofInt 2)).toInt = 1 → (z19).toInt ≤ 122 := by have a0 := i8a; unfold In at a0; have a1 := i8; unfold In at a1; have a2 := (in_c 0 rfl); unfold In at a2; have a3 := i121x9; unfold In at a3; have a4 := i157a; unfold In at a4; have a5 := (in_c 2 rfl); unfold In at a5; have a6 := i150; unfold In at a6; have a7 := t_add e150 i8 (in_c 0 rfl) rfl; omega
                        have n180i : ((sG s157 109 31 z174).2.2.1 109 28).toInt = 1 → ((sG s157 109 31 z174).2.2.1 109 30).toInt ≤ 122 := by have b0 : (Int32.ofInt 2) = (sG s157 109 31 z174).2.2.1 109 28 := sG_F (fr_F (s := (sF (sF (sF (sF sc0 109 29 w0_109_27) 109 30 z19) 109 28 (Int32.ofInt 2)) 109 27 z150)) (sF_ne rfl (sF_get)) hF157 rfl); have b1 : z19 = (sG s157 109 31 z174).2.2.1 109 30 := sG_F (fr_F (s := (sF (sF (sF (sF sc0 109 29 w0_109_27) 109 30 z19) 109 28 (Int32.ofInt 2)) 109 27 z150)) (sF_ne rfl (sF_ne rfl (sF_get))) hF157 rfl); rw [← b0, ← b1]; exact n180h
                        exact g_return (gd rfl) rfl (hP _ _ ⟨(sG s157 109 31 z174), hI177, (fr_sG rfl (fr_tr rfl (fr_sF rfl (fr_sF rfl (fr_sF rfl (fr_sF rfl hFc0)))) hF157)), n180a, n180c, n180e, n180g, n180i, rfl, rfl⟩)
                      · skip
                        exact zn_ne c162 (in_c 0 rfl) rfl
                    · skip
                      exact zn_ne c142 (in_c 0 rfl) rfl
                  · skip
                    exact zn_eq c124 (in_c 1 rfl) rfl
            · skip
              have i81 := r_eq1 45 45 c81 i19 (in_c 45 rfl) rfl
              refine g_aload_n 85 (gd rfl) rfl rfl ?_
              refine g_getI 88 (gd rfl) rfl rfl rfl (fun z85 e85 => ?_)
              have q85 : w0_109_27 = z85 := (sF_ne rfl (sF_ne rfl (v0_109_27))).trans e85.symm
              subst q85
              refine g_iconst 1 89 (gd rfl) rfl rfl ?_
              refine g_iadd 90 (gd rfl) rfl (fun z89 e89 => ?_)
              have i89 := in_add 1 1000 e89 i8 (in_c 1 rfl) rfl rfl
              refine g_aload_n 91 (gd rfl) rfl rfl ?_
              refine g_getI 94 (gd rfl) rfl rfl rfl (fun z91 e91 => ?_)
              have q91 : u_109_22 = z91 := (sF_ne rfl (sF_ne rfl (fr_F e_109_22 hFc0 rfl))).trans e91.symm
              subst q91
              refine g_cmp_ge 97 118 (gd rfl) rfl rfl (fun c94 => ?_) (fun c94 => ?_)
              · skip
                refine g_iconst 0 119 (gd rfl) rfl rfl ?_
                refine g_istore_n 120 (gd rfl) rfl (Nat.le_of_ble_eq_true rfl) ?_
                refine g_iload_n 121 (gd rfl) rfl rfl ?_
                refine g_calls (As := [.int z19]) (r := []) 124 (gd rfl) rfl rfl rfl rfl rfl (Nat.le_of_ble_eq_true rfl) (mc := 0) (ms := 0) (Nat.zero_le _) (Nat.zero_le _) (P := fun v u => _) ?_ (fun v u h => h)
                intro po121 xx121 hp121 hx121
                refine g_enter2 (k := 297) (N := 300) (by omega) rfl (Nat.le_of_ble_eq_true rfl) ?_
                refine g_iload_n 1 (gd rfl) rfl rfl ?_
                refine g_bipush 48 3 (gd rfl) rfl rfl ?_
                refine g_cmp_lt 6 16 (gd rfl) rfl rfl (fun c121x3 => ?_) (fun c121x3 => ?_)
                · skip
                  refine g_iconst 0 17 (gd rfl) rfl rfl ?_
                  refine g_ireturn (gd rfl) rfl (nb01 (in_w 0 1 (in_c 0 rfl) rfl)) (hp121 _ _ ?_)
                  show GG _ _ _ _ _ _ _ _ [.int (Int32.ofInt 0)] _ _ _
                  refine g_if_ne 127 131 (gd rfl) rfl rfl (fun c124 => ?_) (fun c124 => ?_)
                  · skip
                    exact zn_ne c124 (in_c 0 rfl) rfl
                  · skip
                    refine g_iload_n 128 (gd rfl) rfl rfl ?_
                    refine g_if_eq 131 181 (gd rfl) rfl rfl (fun c128 => ?_) (fun c128 => ?_)
                    · skip
                      refine g_aload_n 182 (gd rfl) rfl rfl ?_
                      refine g_iload_n 183 (gd rfl) rfl rfl ?_
                      refine g_calls (As := [.int z19]) (r := [.ref (A 109)]) 186 (gd rfl) rfl rfl rfl rfl rfl (Nat.le_of_ble_eq_true rfl) (mc := 0) (ms := 0) (Nat.zero_le _) (Nat.zero_le _) (P := fun v u => _) ?_ (fun v u h => h)
                      intro po183 xx183 hp183 hx183
                      refine g_enter2 (k := 296) (N := 300) (by omega) rfl (Nat.le_of_ble_eq_true rfl) ?_
                      refine g_iload_n 1 (gd rfl) rfl rfl ?_
                      refine g_bipush 97 3 (gd rfl) rfl rfl ?_
                      refine g_cmp_lt 6 16 (gd rfl) rfl rfl (fun c183x3 => ?_) (fun c183x3 => ?_)
                      · skip
                        refine g_iconst 0 17 (gd rfl) rfl rfl ?_
                        refine g_ireturn (gd rfl) rfl (nb01 (in_w 0 1 (in_c 0 rfl) rfl)) (hp183 _ _ ?_)
                        show GG _ _ _ _ _ _ _ _ [.int (Int32.ofInt 0), .ref (A 109)] _ _ _
                        refine g_if_eq 189 193 (gd rfl) rfl rfl (fun c186 => ?_) (fun c186 => ?_)
                        · skip
                          refine g_iconst 3 194 (gd rfl) rfl rfl ?_
                          refine g_putI 197 (gd rfl) rfl rfl rfl rfl ?_
                          have hI194 := inv_sF (q := 109) (j := 28) hI75 rfl (in_w (-2147483648) 2147483647 (in_c 3 rfl) rfl)
                          refine g_aload_n 198 (gd rfl) rfl rfl ?_
                          refine g_getI 201 (gd rfl) rfl rfl rfl (fun z198 e198 => ?_)
                          have q198 : (Int32.ofInt 3) = z198 := (sF_get).trans e198.symm
                          subst q198
                          refine g_iconst 3 202 (gd rfl) rfl rfl ?_
                          refine g_cmp_ne 205 220 (gd rfl) rfl rfl (fun c202 => ?_) (fun c202 => ?_)
                          · skip
                            exact n_ne c202 (in_c 3 rfl) (in_c 3 rfl) rfl
                          · skip
                            refine g_iload_n 206 (gd rfl) rfl rfl ?_
                            refine g_bipush 59 208 (gd rfl) rfl rfl ?_
                            refine g_cmp_eq 211 220 (gd rfl) rfl rfl (fun c208 => ?_) (fun c208 => ?_)
                            · skip
                              exact n_eq c208 i81 (in_c 59 rfl) rfl
                            · skip
                              refine g_aload_n 212 (gd rfl) rfl rfl ?_
                              refine g_iconst 1 213 (gd rfl) rfl rfl ?_
                              refine g_aload_n 214 (gd rfl) rfl rfl ?_
                              refine g_getI 217 (gd rfl) rfl rfl rfl (fun z214 e214 => ?_)
                              have q214 : w0_109_27 = z214 := (sF_ne rfl (sF_ne rfl (sF_get))).trans e214.symm
                              subst q214
                              refine g_callv (X := _) (As := [.int (Int32.ofInt 1), .int w0_109_27]) (r := []) (b := A 109) (q := 109) 220 (gd rfl) rfl rfl rfl rfl rfl (ww_o rfl) (Nat.le_of_ble_eq_true rfl) (Nat.zero_le _) (Nat.zero_le _) (k_298 (by omega) hI194 (in_w 1 5 (in_c 1 rfl) rfl)) (fun e u h => h) (fun v u h => ?_)
                              obtain ⟨s217, hI217, hF217, n217, rfl, rfl⟩ := h
                              obtain ⟨z217a, e217⟩ : ∃ w, w = s217.2.2.1 109 23 := ⟨_, rfl⟩
                              have i217a := inv_F hI217 0 9 rfl e217
                              rw [← (show z217a = s217.2.2.1 109 23 from e217)] at n217
                              show GG _ _ _ _ _ _ _ _ [] _ _ _
                              refine g_aload_n 221 (gd rfl) rfl rfl ?_
                              refine g_dup 222 (gd rfl) rfl rfl ?_
                              refine g_getI 225 (gd rfl) rfl rfl rfl (fun z222 e222 => ?_)
                              have q222 : w0_109_27 = z222 := (fr_F (s := (sF (sF (sF sc0 109 29 w0_109_27) 109 30 z19) 109 28 (Int32.ofInt 3))) (sF_ne rfl (sF_ne rfl (sF_ne rfl (v0_109_27)))) hF217 rfl).trans e222.symm
                              subst q222
                              refine g_iconst 1 226 (gd rfl) rfl rfl ?_
                              refine g_iadd 227 (gd rfl) rfl (fun z226 e226 => ?_)
                              have i226 := in_add 1 1000 e226 i8 (in_c 1 rfl) rfl rfl
                              refine g_putI 230 (gd rfl) rfl rfl rfl rfl ?_
                              have hI227 := inv_sF (q := 109) (j := 27) hI217 rfl (in_w 0 1000 i226 rfl)
                              have n230 : (z226).toInt ≤ (u_109_22).toInt := by have a0 := i8a; unfold In at a0; have a1 := i8; unfold In at a1; have a2 := (in_c 0 rfl); unfold In at a2; have a3 := i81; unfold In at a3; have a4 := i226; unfold In at a4; have a5 := t_add e226 i8 (in_c 1 rfl) rfl; have a6 := (in_c 1 rfl); unfold In at a6; have a7 := i217a; unfold In at a7; have a8 := (in_c 3 rfl); unfold In at a8; have a9 := i89; unfold In at a9; have a10 := t_add e89 i8 (in_c 1 rfl) rfl; omega
                              have n230a : ((sF s217 109 27 z226).2.2.1 109 27).toInt ≤ ((sF s217 109 27 z226).2.2.1 109 22).toInt := by have b0 : z226 = (sF s217 109 27 z226).2.2.1 109 27 := sF_get; have b1 : u_109_22 = (sF s217 109 27 z226).2.2.1 109 22 := sF_ne rfl (fr_F (s := (sF (sF (sF sc0 109 29 w0_109_27) 109 30 z19) 109 28 (Int32.ofInt 3))) (sF_ne rfl (sF_ne rfl (sF_ne rfl (fr_F e_109_22 hFc0 rfl)))) hF217 rfl); rw [← b0, ← b1]; exact n230
                              have n230b : (u_109_27).toInt ≤ (z226).toInt := by have a0 := i8a; unfold In at a0; have a1 := i8; unfold In at a1; have a2 := (in_c 0 rfl); unfold In at a2; have a3 := i81; unfold In at a3; have a4 := i226; unfold In at a4; have a5 := t_add e226 i8 (in_c 1 rfl) rfl; have a6 := (in_c 1 rfl); unfold In at a6; have a7 := i217a; unfold In at a7; have a8 := (in_c 3 rfl); unfold In at a8; have a9 := i89; unfold In at a9; have a10 := t_add e89 i8 (in_c 1 rfl) rfl; omega
                              have n230c : (s.2.2.1 109 27).toInt ≤ ((sF s217 109 27 z226).2.2.1 109 27).toInt := by have b0 : z226 = (sF s217 109 27 z226).2.2.1 109 27 := sF_get; first | (rw [← b0, ← e_109_27]; exact n230b) | (rw [← b0]; exact n230b)
                              have n230d : ((Int32.ofInt 3)).toInt ≠ 0 → (u_109_27).toInt + 1 ≤ (z226).toInt := by have a0 := i8a; unfold In at a0; have a1 := i8; unfold In at a1; have a2 := (in_c 0 rfl); unfold In at a2; have a3 := i81; unfold In at a3; have a4 := i226; unfold In at a4; have a5 := t_add e226 i8 (in_c 1 rfl) rfl; have a6 := (in_c 1 rfl); unfold In at a6; have a7 := i217a; unfold In at a7; have a8 := (in_c 3 rfl); unfold In at a8; have a9 := i89; unfold In at a9; have a10 := t_add e89 i8 (in_c 1 rfl) rfl; omega
                              have n230e : ((sF s217 109 27 z226).2.2.1 109 28).toInt ≠ 0 → (s.2.2.1 109 27).toInt + 1 ≤ ((sF s217 109 27 z226).2.2.1 109 27).toInt := by have b0 : (Int32.ofInt 3) = (sF s217 109 27 z226).2.2.1 109 28 := sF_ne rfl (fr_F (s := (sF (sF (sF sc0 109 29 w0_109_27) 109 30 z19) 109 28 (Int32.ofInt 3))) (sF_get) hF217 rfl); have b1 : z226 = (sF s217 109 27 z226).2.2.1 109 27 := sF_get; first | (rw [← b0, ← b1, ← e_109_27]; exact n230d) | (rw [← b0, ← b1]; exact n230d)
                              have n230f : ((Int32.ofInt 3)).toInt = 1 → 97 ≤ (z19).toInt := by have a0 := i8a; unfold In at a0; have a1 := i8; unfold In at a1; have a2 := (in_c 0 rfl); unfold In at a2; have a3 := i81; unfold In at a3; have a4 := i226; unfold In at a4; have a5 := t_add e226 i8 (in_c 1 rfl) rfl; have a6 := (in_c 1 rfl); unfold In at a6; have a7 := i217a; unfold In at a7; have a8 := (in_c 3 rfl); unfold In at a8; have a9 := i89; unfold In at a9; have a10 := t_add e89 i8 (in_c 1 rfl) rfl; omega
                              have n230g : ((sF s217 109 27 z226).2.2.1 109 28).toInt = 1 → 97 ≤ ((sF s217 109 27 z226).2.2.1 109 30).toInt := by have b0 : (Int32.ofInt 3) = (sF s217 109 27 z226).2.2.1 109 28 := sF_ne rfl (fr_F (s := (sF (sF (sF sc0 109 29 w0_109_27) 109 30 z19) 109 28 (Int32.ofInt 3))) (sF_get) hF217 rfl); have b1 : z19 = (sF s217 109 27 z226).2.2.1 109 30 := sF_ne rfl (fr_F (s := (sF (sF (sF sc0 109 29 w0_109_27) 109 30 z19) 109 28 (Int32.ofInt 3))) (sF_ne rfl (sF_get)) hF217 rfl); rw [← b0, ← b1]; exact n230f
                              have n230h : ((Int32.ofInt 3)).toInt = 1 → (z19).toInt ≤ 122 := by have a0 := i8a; unfold In at a0; have a1 := i8; unfold In at a1; have a2 := (in_c 0 rfl); unfold In at a2; have a3 := i81; unfold In at a3; have a4 := i226; unfold In at a4; have a5 := t_add e226 i8 (in_c 1 rfl) rfl; have a6 := (in_c 1 rfl); unfold In at a6; have a7 := i217a; unfold In at a7; have a8 := (in_c 3 rfl); unfold In at a8; have a9 := i89; unfold In at a9; have a10 := t_add e89 i8 (in_c 1 rfl) rfl; omega
                              have n230i : ((sF s217 109 27 z226).2.2.1 109 28).toInt = 1 → ((sF s217 109 27 z226).2.2.1 109 30).toInt ≤ 122 := by have b0 : (Int32.ofInt 3) = (sF s217 109 27 z226).2.2.1 109 28 := sF_ne rfl (fr_F (s := (sF (sF (sF sc0 109 29 w0_109_27) 109 30 z19) 109 28 (Int32.ofInt 3))) (sF_get) hF217 rfl); have b1 : z19 = (sF s217 109 27 z226).2.2.1 109 30 := sF_ne rfl (fr_F (s := (sF (sF (sF sc0 109 29 w0_109_27) 109 30 z19) 109 28 (Int32.ofInt 3))) (sF_ne rfl (sF_get)) hF217 rfl); rw [← b0, ← b1]; exact n230h
                              exact g_return (gd rfl) rfl (hP _ _ ⟨(sF s217 109 27 z226), hI227, (fr_sF rfl (fr_tr rfl (fr_sF rfl (fr_sF rfl (fr_sF rfl hFc0))) hF217)), n230a, n230c, n230e, n230g, n230i, rfl, rfl⟩)
                        · skip
                          exact zn_ne c186 (in_c 0 rfl) rfl
                      · skip
                        exact n_le c183x3 (in_c 97 rfl) i81 rfl
                    · skip
                      exact zn_ne c128 (in_c 0 rfl) rfl
                · skip
                  exact n_le c121x3 (in_c 48 rfl) i81 rfl
              · skip
                have i94 := r_lt1 1 999 c94 i89 i8a rfl
                have i94a := r_lt2 2 1000 c94 i89 i8a rfl
                refine g_aload_n 98 (gd rfl) rfl rfl ?_
                refine g_getA (q2 := 125) 101 (gd rfl) rfl rfl rfl rfl ?_
                refine g_aload_n 102 (gd rfl) rfl rfl ?_
                refine g_getI 105 (gd rfl) rfl rfl rfl (fun z102 e102 => ?_)
                have q102 : w0_109_27 = z102 := (sF_ne rfl (sF_ne rfl (v0_109_27))).trans e102.symm
                subst q102
                refine g_iconst 1 106 (gd rfl) rfl rfl ?_
                refine g_iadd 107 (gd rfl) rfl (fun z106 e106 => ?_)
                have i106 := in_add 1 1000 e106 i8 (in_c 1 rfl) rfl rfl
                have i107 : In z106 0 999 := by have a0 := i94a; unfold In at a0; have a1 := i8; unfold In at a1; have a2 := i81; unfold In at a2; have a3 := i106; unfold In at a3; have a4 := t_add e106 i8 (in_c 1 rfl) rfl; have a5 := (in_c 1 rfl); unfold In at a5; have a6 := i94; unfold In at a6; have a7 := t_add e89 i8 (in_c 1 rfl) rfl; exact ⟨by omega, by omega⟩
                refine g_iaload 108 (gd rfl) rfl (n := 1000) rfl (in_ix i107 rfl) (fun z107 e107 => ?_)
                have i107a := inv_I hI75 (n := 1000) (t := 0) 0 126 rfl (in_ix i107 rfl) rfl e107
                refine g_calls (As := [.int z107]) (r := []) 111 (gd rfl) rfl rfl rfl rfl rfl (Nat.le_of_ble_eq_true rfl) (mc := 0) (ms := 0) (Nat.zero_le _) (Nat.zero_le _) (P := fun v u => _) ?_ (fun v u h => h)
                intro po108 xx108 hp108 hx108
                refine g_enter2 (k := 297) (N := 300) (by omega) rfl (Nat.le_of_ble_eq_true rfl) ?_
                refine g_iload_n 1 (gd rfl) rfl rfl ?_
                refine g_bipush 48 3 (gd rfl) rfl rfl ?_
                refine g_cmp_lt 6 16 (gd rfl) rfl rfl (fun c108x3 => ?_) (fun c108x3 => ?_)
                · skip
                  have i108x3 := r_lt1 0 47 c108x3 i107a (in_c 48 rfl) rfl
                  refine g_iconst 0 17 (gd rfl) rfl rfl ?_
                  refine g_ireturn (gd rfl) rfl (nb01 (in_w 0 1 (in_c 0 rfl) rfl)) (hp108 _ _ ?_)
                  show GG _ _ _ _ _ _ _ _ [.int (Int32.ofInt 0)] _ _ _
                  refine g_if_eq 114 118 (gd rfl) rfl rfl (fun c111 => ?_) (fun c111 => ?_)
                  · skip
                    refine g_iconst 0 119 (gd rfl) rfl rfl ?_
                    refine g_istore_n 120 (gd rfl) rfl (Nat.le_of_ble_eq_true rfl) ?_
                    refine g_iload_n 121 (gd rfl) rfl rfl ?_
                    refine g_calls (As := [.int z19]) (r := []) 124 (gd rfl) rfl rfl rfl rfl rfl (Nat.le_of_ble_eq_true rfl) (mc := 0) (ms := 0) (Nat.zero_le _) (Nat.zero_le _) (P := fun v u => _) ?_ (fun v u h => h)
                    intro po121 xx121 hp121 hx121
                    refine g_enter2 (k := 297) (N := 300) (by omega) rfl (Nat.le_of_ble_eq_true rfl) ?_
                    refine g_iload_n 1 (gd rfl) rfl rfl ?_
                    refine g_bipush 48 3 (gd rfl) rfl rfl ?_
                    refine g_cmp_lt 6 16 (gd rfl) rfl rfl (fun c121x3 => ?_) (fun c121x3 => ?_)
                    · skip
                      refine g_iconst 0 17 (gd rfl) rfl rfl ?_
                      refine g_ireturn (gd rfl) rfl (nb01 (in_w 0 1 (in_c 0 rfl) rfl)) (hp121 _ _ ?_)
                      show GG _ _ _ _ _ _ _ _ [.int (Int32.ofInt 0)] _ _ _
                      refine g_if_ne 127 131 (gd rfl) rfl rfl (fun c124 => ?_) (fun c124 => ?_)
                      · skip
                        exact zn_ne c124 (in_c 0 rfl) rfl
                      · skip
                        refine g_iload_n 128 (gd rfl) rfl rfl ?_
                        refine g_if_eq 131 181 (gd rfl) rfl rfl (fun c128 => ?_) (fun c128 => ?_)
                        · skip
                          refine g_aload_n 182 (gd rfl) rfl rfl ?_
                          refine g_iload_n 183 (gd rfl) rfl rfl ?_
                          refine g_calls (As := [.int z19]) (r := [.ref (A 109)]) 186 (gd rfl) rfl rfl rfl rfl rfl (Nat.le_of_ble_eq_true rfl) (mc := 0) (ms := 0) (Nat.zero_le _) (Nat.zero_le _) (P := fun v u => _) ?_ (fun v u h => h)
                          intro po183 xx183 hp183 hx183
                          refine g_enter2 (k := 296) (N := 300) (by omega) rfl (Nat.le_of_ble_eq_true rfl) ?_
                          refine g_iload_n 1 (gd rfl) rfl rfl ?_
                          refine g_bipush 97 3 (gd rfl) rfl rfl ?_
                          refine g_cmp_lt 6 16 (gd rfl) rfl rfl (fun c183x3 => ?_) (fun c183x3 => ?_)
                          · skip
                            refine g_iconst 0 17 (gd rfl) rfl rfl ?_
                            refine g_ireturn (gd rfl) rfl (nb01 (in_w 0 1 (in_c 0 rfl) rfl)) (hp183 _ _ ?_)
                            show GG _ _ _ _ _ _ _ _ [.int (Int32.ofInt 0), .ref (A 109)] _ _ _
                            refine g_if_eq 189 193 (gd rfl) rfl rfl (fun c186 => ?_) (fun c186 => ?_)
                            · skip
                              refine g_iconst 3 194 (gd rfl) rfl rfl ?_
                              refine g_putI 197 (gd rfl) rfl rfl rfl rfl ?_
                              have hI194 := inv_sF (q := 109) (j := 28) hI75 rfl (in_w (-2147483648) 2147483647 (in_c 3 rfl) rfl)
                              refine g_aload_n 198 (gd rfl) rfl rfl ?_
                              refine g_getI 201 (gd rfl) rfl rfl rfl (fun z198 e198 => ?_)
                              have q198 : (Int32.ofInt 3) = z198 := (sF_get).trans e198.symm
                              subst q198
                              refine g_iconst 3 202 (gd rfl) rfl rfl ?_
                              refine g_cmp_ne 205 220 (gd rfl) rfl rfl (fun c202 => ?_) (fun c202 => ?_)
                              · skip
                                exact n_ne c202 (in_c 3 rfl) (in_c 3 rfl) rfl
                              · skip
                                refine g_iload_n 206 (gd rfl) rfl rfl ?_
                                refine g_bipush 59 208 (gd rfl) rfl rfl ?_
                                refine g_cmp_eq 211 220 (gd rfl) rfl rfl (fun c208 => ?_) (fun c208 => ?_)
                                · skip
                                  exact n_eq c208 i81 (in_c 59 rfl) rfl
                                · skip
                                  refine g_aload_n 212 (gd rfl) rfl rfl ?_
                                  refine g_iconst 1 213 (gd rfl) rfl rfl ?_
                                  refine g_aload_n 214 (gd rfl) rfl rfl ?_
                                  refine g_getI 217 (gd rfl) rfl rfl rfl (fun z214 e214 => ?_)
                                  have q214 : w0_109_27 = z214 := (sF_ne rfl (sF_ne rfl (sF_get))).trans e214.symm
                                  subst q214
                                  refine g_callv (X := _) (As := [.int (Int32.ofInt 1), .int w0_109_27]) (r := []) (b := A 109) (q := 109) 220 (gd rfl) rfl rfl rfl rfl rfl (ww_o rfl) (Nat.le_of_ble_eq_true rfl) (Nat.zero_le _) (Nat.zero_le _) (k_298 (by omega) hI194 (in_w 1 5 (in_c 1 rfl) rfl)) (fun e u h => h) (fun v u h => ?_)
                                  obtain ⟨s217, hI217, hF217, n217, rfl, rfl⟩ := h
                                  obtain ⟨z217a, e217⟩ : ∃ w, w = s217.2.2.1 109 23 := ⟨_, rfl⟩
                                  have i217a := inv_F hI217 0 9 rfl e217
                                  rw [← (show z217a = s217.2.2.1 109 23 from e217)] at n217
                                  show GG _ _ _ _ _ _ _ _ [] _ _ _
                                  refine g_aload_n 221 (gd rfl) rfl rfl ?_
                                  refine g_dup 222 (gd rfl) rfl rfl ?_
                                  refine g_getI 225 (gd rfl) rfl rfl rfl (fun z222 e222 => ?_)
                                  have q222 : w0_109_27 = z222 := (fr_F (s := (sF (sF (sF sc0 109 29 w0_109_27) 109 30 z19) 109 28 (Int32.ofInt 3))) (sF_ne rfl (sF_ne rfl (sF_ne rfl (v0_109_27)))) hF217 rfl).trans e222.symm
                                  subst q222
                                  refine g_iconst 1 226 (gd rfl) rfl rfl ?_
                                  refine g_iadd 227 (gd rfl) rfl (fun z226 e226 => ?_)
                                  have i226 := in_add 1 1000 e226 i8 (in_c 1 rfl) rfl rfl
                                  refine g_putI 230 (gd rfl) rfl rfl rfl rfl ?_
                                  have hI227 := inv_sF (q := 109) (j := 27) hI217 rfl (in_w 0 1000 i226 rfl)
                                  have n230 : (z226).toInt ≤ (u_109_22).toInt := by have a0 := i94a; unfold In at a0; have a1 := i8; unfold In at a1; have a2 := (in_c 0 rfl); unfold In at a2; have a3 := i81; unfold In at a3; have a4 := i226; unfold In at a4; have a5 := t_add e226 i8 (in_c 1 rfl) rfl; have a6 := (in_c 1 rfl); unfold In at a6; have a7 := i217a; unfold In at a7; have a8 := (in_c 3 rfl); unfold In at a8; have a9 := i107; unfold In at a9; have a10 := t_add e106 i8 (in_c 1 rfl) rfl; have a11 := i94; unfold In at a11; have a12 := t_add e89 i8 (in_c 1 rfl) rfl; omega
                                  have n230a : ((sF s217 109 27 z226).2.2.1 109 27).toInt ≤ ((sF s217 109 27 z226).2.2.1 109 22).toInt := by have b0 : z226 = (sF s217 109 27 z226).2.2.1 109 27 := sF_get; have b1 : u_109_22 = (sF s217 109 27 z226).2.2.1 109 22 := sF_ne rfl (fr_F (s := (sF (sF (sF sc0 109 29 w0_109_27) 109 30 z19) 109 28 (Int32.ofInt 3))) (sF_ne rfl (sF_ne rfl (sF_ne rfl (fr_F e_109_22 hFc0 rfl)))) hF217 rfl); rw [← b0, ← b1]; exact n230
                                  have n230b : (u_109_27).toInt ≤ (z226).toInt := by have a0 := i94a; unfold In at a0; have a1 := i8; unfold In at a1; have a2 := (in_c 0 rfl); unfold In at a2; have a3 := i81; unfold In at a3; have a4 := i226; unfold In at a4; have a5 := t_add e226 i8 (in_c 1 rfl) rfl; have a6 := (in_c 1 rfl); unfold In at a6; have a7 := i217a; unfold In at a7; have a8 := (in_c 3 rfl); unfold In at a8; have a9 := i107; unfold In at a9; have a10 := t_add e106 i8 (in_c 1 rfl) rfl; have a11 := i94; unfold In at a11; have a12 := t_add e89 i8 (in_c 1 rfl) rfl; omega
                                  have n230c : (s.2.2.1 109 27).toInt ≤ ((sF s217 109 27 z226).2.2.1 109 27).toInt := by have b0 : z226 = (sF s217 109 27 z226).2.2.1 109 27 := sF_get; first | (rw [← b0, ← e_109_27]; exact n230b) | (rw [← b0]; exact n230b)
                                  have n230d : ((Int32.ofInt 3)).toInt ≠ 0 → (u_109_27).toInt + 1 ≤ (z226).toInt := by have a0 := i94a; unfold In at a0; have a1 := i8; unfold In at a1; have a2 := (in_c 0 rfl); unfold In at a2; have a3 := i81; unfold In at a3; have a4 := i226; unfold In at a4; have a5 := t_add e226 i8 (in_c 1 rfl) rfl; have a6 := (in_c 1 rfl); unfold In at a6; have a7 := i217a; unfold In at a7; have a8 := (in_c 3 rfl); unfold In at a8; have a9 := i107; unfold In at a9; have a10 := t_add e106 i8 (in_c 1 rfl) rfl; have a11 := i94; unfold In at a11; have a12 := t_add e89 i8 (in_c 1 rfl) rfl; omega
                                  have n230e : ((sF s217 109 27 z226).2.2.1 109 28).toInt ≠ 0 → (s.2.2.1 109 27).toInt + 1 ≤ ((sF s217 109 27 z226).2.2.1 109 27).toInt := by have b0 : (Int32.ofInt 3) = (sF s217 109 27 z226).2.2.1 109 28 := sF_ne rfl (fr_F (s := (sF (sF (sF sc0 109 29 w0_109_27) 109 30 z19) 109 28 (Int32.ofInt 3))) (sF_get) hF217 rfl); have b1 : z226 = (sF s217 109 27 z226).2.2.1 109 27 := sF_get; first | (rw [← b0, ← b1, ← e_109_27]; exact n230d) | (rw [← b0, ← b1]; exact n230d)
                                  have n230f : ((Int32.ofInt 3)).toInt = 1 → 97 ≤ (z19).toInt := by have a0 := i94a; unfold In at a0; have a1 := i8; unfold In at a1; have a2 := (in_c 0 rfl); unfold In at a2; have a3 := i81; unfold In at a3; have a4 := i226; unfold In at a4; have a5 := t_add e226 i8 (in_c 1 rfl) rfl; have a6 := (in_c 1 rfl); unfold In at a6; have a7 := i217a; unfold In at a7; have a8 := (in_c 3 rfl); unfold In at a8; have a9 := i107; unfold In at a9; have a10 := t_add e106 i8 (in_c 1 rfl) rfl; have a11 := i94; unfold In at a11; have a12 := t_add e89 i8 (in_c 1 rfl) rfl; omega
                                  have n230g : ((sF s217 109 27 z226).2.2.1 109 28).toInt = 1 → 97 ≤ ((sF s217 109 27 z226).2.2.1 109 30).toInt := by have b0 : (Int32.ofInt 3) = (sF s217 109 27 z226).2.2.1 109 28 := sF_ne rfl (fr_F (s := (sF (sF (sF sc0 109 29 w0_109_27) 109 30 z19) 109 28 (Int32.ofInt 3))) (sF_get) hF217 rfl); have b1 : z19 = (sF s217 109 27 z226).2.2.1 109 30 := sF_ne rfl (fr_F (s := (sF (sF (sF sc0 109 29 w0_109_27) 109 30 z19) 109 28 (Int32.ofInt 3))) (sF_ne rfl (sF_get)) hF217 rfl); rw [← b0, ← b1]; exact n230f
                                  have n230h : ((Int32.ofInt 3)).toInt = 1 → (z19).toInt ≤ 122 := by have a0 := i94a; unfold In at a0; have a1 := i8; unfold In at a1; have a2 := (in_c 0 rfl); unfold In at a2; have a3 := i81; unfold In at a3; have a4 := i226; unfold In at a4; have a5 := t_add e226 i8 (in_c 1 rfl) rfl; have a6 := (in_c 1 rfl); unfold In at a6; have a7 := i217a; unfold In at a7; have a8 := (in_c 3 rfl); unfold In at a8; have a9 := i107; unfold In at a9; have a10 := t_add e106 i8 (in_c 1 rfl) rfl; have a11 := i94; unfold In at a11; have a12 := t_add e89 i8 (in_c 1 rfl) rfl; omega
                                  have n230i : ((sF s217 109 27 z226).2.2.1 109 28).toInt = 1 → ((sF s217 109 27 z226).2.2.1 109 30).toInt ≤ 122 := by have b0 : (Int32.ofInt 3) = (sF s217 109 27 z226).2.2.1 109 28 := sF_ne rfl (fr_F (s := (sF (sF (sF sc0 109 29 w0_109_27) 109 30 z19) 109 28 (Int32.ofInt 3))) (sF_get) hF217 rfl); have b1 : z19 = (sF s217 109 27 z226).2.2.1 109 30 := sF_ne rfl (fr_F (s := (sF (sF (sF sc0 109 29 w0_109_27) 109 30 z19) 109 28 (Int32.ofInt 3))) (sF_ne rfl (sF_get)) hF217 rfl); rw [← b0, ← b1]; exact n230h
                                  exact g_return (gd rfl) rfl (hP _ _ ⟨(sF s217 109 27 z226), hI227, (fr_sF rfl (fr_tr rfl (fr_sF rfl (fr_sF rfl (fr_sF rfl hFc0))) hF217)), n230a, n230c, n230e, n230g, n230i, rfl, rfl⟩)
                            · skip
                              exact zn_ne c186 (in_c 0 rfl) rfl
                          · skip
                            exact n_le c183x3 (in_c 97 rfl) i81 rfl
                        · skip
                          exact zn_ne c128 (in_c 0 rfl) rfl
                    · skip
                      exact n_le c121x3 (in_c 48 rfl) i81 rfl
                  · skip
                    exact zn_ne c111 (in_c 0 rfl) rfl
                · skip
                  have i108x3 := r_le2 48 126 c108x3 (in_c 48 rfl) i107a rfl
                  refine g_iload_n 7 (gd rfl) rfl rfl ?_
                  refine g_bipush 57 9 (gd rfl) rfl rfl ?_
                  refine g_cmp_gt 12 16 (gd rfl) rfl rfl (fun c108x9 => ?_) (fun c108x9 => ?_)
                  · skip
                    have i108x9 := r_lt2 58 126 c108x9 (in_c 57 rfl) i108x3 rfl
                    refine g_iconst 0 17 (gd rfl) rfl rfl ?_
                    refine g_ireturn (gd rfl) rfl (nb01 (in_w 0 1 (in_c 0 rfl) rfl)) (hp108 _ _ ?_)
                    show GG _ _ _ _ _ _ _ _ [.int (Int32.ofInt 0)] _ _ _
                    refine g_if_eq 114 118 (gd rfl) rfl rfl (fun c111 => ?_) (fun c111 => ?_)
                    · skip
                      refine g_iconst 0 119 (gd rfl) rfl rfl ?_
                      refine g_istore_n 120 (gd rfl) rfl (Nat.le_of_ble_eq_true rfl) ?_
                      refine g_iload_n 121 (gd rfl) rfl rfl ?_
                      refine g_calls (As := [.int z19]) (r := []) 124 (gd rfl) rfl rfl rfl rfl rfl (Nat.le_of_ble_eq_true rfl) (mc := 0) (ms := 0) (Nat.zero_le _) (Nat.zero_le _) (P := fun v u => _) ?_ (fun v u h => h)
                      intro po121 xx121 hp121 hx121
                      refine g_enter2 (k := 297) (N := 300) (by omega) rfl (Nat.le_of_ble_eq_true rfl) ?_
                      refine g_iload_n 1 (gd rfl) rfl rfl ?_
                      refine g_bipush 48 3 (gd rfl) rfl rfl ?_
                      refine g_cmp_lt 6 16 (gd rfl) rfl rfl (fun c121x3 => ?_) (fun c121x3 => ?_)
                      · skip
                        refine g_iconst 0 17 (gd rfl) rfl rfl ?_
                        refine g_ireturn (gd rfl) rfl (nb01 (in_w 0 1 (in_c 0 rfl) rfl)) (hp121 _ _ ?_)
                        show GG _ _ _ _ _ _ _ _ [.int (Int32.ofInt 0)] _ _ _
                        refine g_if_ne 127 131 (gd rfl) rfl rfl (fun c124 => ?_) (fun c124 => ?_)
                        · skip
                          exact zn_ne c124 (in_c 0 rfl) rfl
                        · skip
                          refine g_iload_n 128 (gd rfl) rfl rfl ?_
                          refine g_if_eq 131 181 (gd rfl) rfl rfl (fun c128 => ?_) (fun c128 => ?_)
                          · skip
                            refine g_aload_n 182 (gd rfl) rfl rfl ?_
                            refine g_iload_n 183 (gd rfl) rfl rfl ?_
                            refine g_calls (As := [.int z19]) (r := [.ref (A 109)]) 186 (gd rfl) rfl rfl rfl rfl rfl (Nat.le_of_ble_eq_true rfl) (mc := 0) (ms := 0) (Nat.zero_le _) (Nat.zero_le _) (P := fun v u => _) ?_ (fun v u h => h)
                            intro po183 xx183 hp183 hx183
                            refine g_enter2 (k := 296) (N := 300) (by omega) rfl (Nat.le_of_ble_eq_true rfl) ?_
                            refine g_iload_n 1 (gd rfl) rfl rfl ?_
                            refine g_bipush 97 3 (gd rfl) rfl rfl ?_
                            refine g_cmp_lt 6 16 (gd rfl) rfl rfl (fun c183x3 => ?_) (fun c183x3 => ?_)
                            · skip
                              refine g_iconst 0 17 (gd rfl) rfl rfl ?_
                              refine g_ireturn (gd rfl) rfl (nb01 (in_w 0 1 (in_c 0 rfl) rfl)) (hp183 _ _ ?_)
                              show GG _ _ _ _ _ _ _ _ [.int (Int32.ofInt 0), .ref (A 109)] _ _ _
                              refine g_if_eq 189 193 (gd rfl) rfl rfl (fun c186 => ?_) (fun c186 => ?_)
                              · skip
                                refine g_iconst 3 194 (gd rfl) rfl rfl ?_
                                refine g_putI 197 (gd rfl) rfl rfl rfl rfl ?_
                                have hI194 := inv_sF (q := 109) (j := 28) hI75 rfl (in_w (-2147483648) 2147483647 (in_c 3 rfl) rfl)
                                refine g_aload_n 198 (gd rfl) rfl rfl ?_
                                refine g_getI 201 (gd rfl) rfl rfl rfl (fun z198 e198 => ?_)
                                have q198 : (Int32.ofInt 3) = z198 := (sF_get).trans e198.symm
                                subst q198
                                refine g_iconst 3 202 (gd rfl) rfl rfl ?_
                                refine g_cmp_ne 205 220 (gd rfl) rfl rfl (fun c202 => ?_) (fun c202 => ?_)
                                · skip
                                  exact n_ne c202 (in_c 3 rfl) (in_c 3 rfl) rfl
                                · skip
                                  refine g_iload_n 206 (gd rfl) rfl rfl ?_
                                  refine g_bipush 59 208 (gd rfl) rfl rfl ?_
                                  refine g_cmp_eq 211 220 (gd rfl) rfl rfl (fun c208 => ?_) (fun c208 => ?_)
                                  · skip
                                    exact n_eq c208 i81 (in_c 59 rfl) rfl
                                  · skip
                                    refine g_aload_n 212 (gd rfl) rfl rfl ?_
                                    refine g_iconst 1 213 (gd rfl) rfl rfl ?_
                                    refine g_aload_n 214 (gd rfl) rfl rfl ?_
                                    refine g_getI 217 (gd rfl) rfl rfl rfl (fun z214 e214 => ?_)
                                    have q214 : w0_109_27 = z214 := (sF_ne rfl (sF_ne rfl (sF_get))).trans e214.symm
                                    subst q214
                                    refine g_callv (X := _) (As := [.int (Int32.ofInt 1), .int w0_109_27]) (r := []) (b := A 109) (q := 109) 220 (gd rfl) rfl rfl rfl rfl rfl (ww_o rfl) (Nat.le_of_ble_eq_true rfl) (Nat.zero_le _) (Nat.zero_le _) (k_298 (by omega) hI194 (in_w 1 5 (in_c 1 rfl) rfl)) (fun e u h => h) (fun v u h => ?_)
                                    obtain ⟨s217, hI217, hF217, n217, rfl, rfl⟩ := h
                                    obtain ⟨z217a, e217⟩ : ∃ w, w = s217.2.2.1 109 23 := ⟨_, rfl⟩
                                    have i217a := inv_F hI217 0 9 rfl e217
                                    rw [← (show z217a = s217.2.2.1 109 23 from e217)] at n217
                                    show GG _ _ _ _ _ _ _ _ [] _ _ _
                                    refine g_aload_n 221 (gd rfl) rfl rfl ?_
                                    refine g_dup 222 (gd rfl) rfl rfl ?_
                                    refine g_getI 225 (gd rfl) rfl rfl rfl (fun z222 e222 => ?_)
                                    have q222 : w0_109_27 = z222 := (fr_F (s := (sF (sF (sF sc0 109 29 w0_109_27) 109 30 z19) 109 28 (Int32.ofInt 3))) (sF_ne rfl (sF_ne rfl (sF_ne rfl (v0_109_27)))) hF217 rfl).trans e222.symm
                                    subst q222
                                    refine g_iconst 1 226 (gd rfl) rfl rfl ?_
                                    refine g_iadd 227 (gd rfl) rfl (fun z226 e226 => ?_)
                                    have i226 := in_add 1 1000 e226 i8 (in_c 1 rfl) rfl rfl
                                    refine g_putI 230 (gd rfl) rfl rfl rfl rfl ?_
                                    have hI227 := inv_sF (q := 109) (j := 27) hI217 rfl (in_w 0 1000 i226 rfl)
                                    have n230 : (z226).toInt ≤ (u_109_22).toInt := by have a0 := i94a; unfold In at a0; have a1 := i8; unfold In at a1; have a2 := (in_c 0 rfl); unfold In at a2; have a3 := i81; unfold In at a3; have a4 := i226; unfold In at a4; have a5 := t_add e226 i8 (in_c 1 rfl) rfl; have a6 := (in_c 1 rfl); unfold In at a6; have a7 := i217a; unfold In at a7; have a8 := (in_c 3 rfl); unfold In at a8; have a9 := i107; unfold In at a9; have a10 := t_add e106 i8 (in_c 1 rfl) rfl; have a11 := i94; unfold In at a11; have a12 := t_add e89 i8 (in_c 1 rfl) rfl; omega
                                    have n230a : ((sF s217 109 27 z226).2.2.1 109 27).toInt ≤ ((sF s217 109 27 z226).2.2.1 109 22).toInt := by have b0 : z226 = (sF s217 109 27 z226).2.2.1 109 27 := sF_get; have b1 : u_109_22 = (sF s217 109 27 z226).2.2.1 109 22 := sF_ne rfl (fr_F (s := (sF (sF (sF sc0 109 29 w0_109_27) 109 30 z19) 109 28 (Int32.ofInt 3))) (sF_ne rfl (sF_ne rfl (sF_ne rfl (fr_F e_109_22 hFc0 rfl)))) hF217 rfl); rw [← b0, ← b1]; exact n230
                                    have n230b : (u_109_27).toInt ≤ (z226).toInt := by have a0 := i94a; unfold In at a0; have a1 := i8; unfold In at a1; have a2 := (in_c 0 rfl); unfold In at a2; have a3 := i81; unfold In at a3; have a4 := i226; unfold In at a4; have a5 := t_add e226 i8 (in_c 1 rfl) rfl; have a6 := (in_c 1 rfl); unfold In at a6; have a7 := i217a; unfold In at a7; have a8 := (in_c 3 rfl); unfold In at a8; have a9 := i107; unfold In at a9; have a10 := t_add e106 i8 (in_c 1 rfl) rfl; have a11 := i94; unfold In at a11; have a12 := t_add e89 i8 (in_c 1 rfl) rfl; omega
                                    have n230c : (s.2.2.1 109 27).toInt ≤ ((sF s217 109 27 z226).2.2.1 109 27).toInt := by have b0 : z226 = (sF s217 109 27 z226).2.2.1 109 27 := sF_get; first | (rw [← b0, ← e_109_27]; exact n230b) | (rw [← b0]; exact n230b)
                                    have n230d : ((Int32.ofInt 3)).toInt ≠ 0 → (u_109_27).toInt + 1 ≤ (z226).toInt := by have a0 := i94a; unfold In at a0; have a1 := i8; unfold In at a1; have a2 := (in_c 0 rfl); unfold In at a2; have a3 := i81; unfold In at a3; have a4 := i226; unfold In at a4; have a5 := t_add e226 i8 (in_c 1 rfl) rfl; have a6 := (in_c 1 rfl); unfold In at a6; have a7 := i217a; unfold In at a7; have a8 := (in_c 3 rfl); unfold In at a8; have a9 := i107; unfold In at a9; have a10 := t_add e106 i8 (in_c 1 rfl) rfl; have a11 := i94; unfold In at a11; have a12 := t_add e89 i8 (in_c 1 rfl) rfl; omega
                                    have n230e : ((sF s217 109 27 z226).2.2.1 109 28).toInt ≠ 0 → (s.2.2.1 109 27).toInt + 1 ≤ ((sF s217 109 27 z226).2.2.1 109 27).toInt := by have b0 : (Int32.ofInt 3) = (sF s217 109 27 z226).2.2.1 109 28 := sF_ne rfl (fr_F (s := (sF (sF (sF sc0 109 29 w0_109_27) 109 30 z19) 109 28 (Int32.ofInt 3))) (sF_get) hF217 rfl); have b1 : z226 = (sF s217 109 27 z226).2.2.1 109 27 := sF_get; first | (rw [← b0, ← b1, ← e_109_27]; exact n230d) | (rw [← b0, ← b1]; exact n230d)
                                    have n230f : ((Int32.ofInt 3)).toInt = 1 → 97 ≤ (z19).toInt := by have a0 := i94a; unfold In at a0; have a1 := i8; unfold In at a1; have a2 := (in_c 0 rfl); unfold In at a2; have a3 := i81; unfold In at a3; have a4 := i226; unfold In at a4; have a5 := t_add e226 i8 (in_c 1 rfl) rfl; have a6 := (in_c 1 rfl); unfold In at a6; have a7 := i217a; unfold In at a7; have a8 := (in_c 3 rfl); unfold In at a8; have a9 := i107; unfold In at a9; have a10 := t_add e106 i8 (in_c 1 rfl) rfl; have a11 := i94; unfold In at a11; have a12 := t_add e89 i8 (in_c 1 rfl) rfl; omega
                                    have n230g : ((sF s217 109 27 z226).2.2.1 109 28).toInt = 1 → 97 ≤ ((sF s217 109 27 z226).2.2.1 109 30).toInt := by have b0 : (Int32.ofInt 3) = (sF s217 109 27 z226).2.2.1 109 28 := sF_ne rfl (fr_F (s := (sF (sF (sF sc0 109 29 w0_109_27) 109 30 z19) 109 28 (Int32.ofInt 3))) (sF_get) hF217 rfl); have b1 : z19 = (sF s217 109 27 z226).2.2.1 109 30 := sF_ne rfl (fr_F (s := (sF (sF (sF sc0 109 29 w0_109_27) 109 30 z19) 109 28 (Int32.ofInt 3))) (sF_ne rfl (sF_get)) hF217 rfl); rw [← b0, ← b1]; exact n230f
                                    have n230h : ((Int32.ofInt 3)).toInt = 1 → (z19).toInt ≤ 122 := by have a0 := i94a; unfold In at a0; have a1 := i8; unfold In at a1; have a2 := (in_c 0 rfl); unfold In at a2; have a3 := i81; unfold In at a3; have a4 := i226; unfold In at a4; have a5 := t_add e226 i8 (in_c 1 rfl) rfl; have a6 := (in_c 1 rfl); unfold In at a6; have a7 := i217a; unfold In at a7; have a8 := (in_c 3 rfl); unfold In at a8; have a9 := i107; unfold In at a9; have a10 := t_add e106 i8 (in_c 1 rfl) rfl; have a11 := i94; unfold In at a11; have a12 := t_add e89 i8 (in_c 1 rfl) rfl; omega
                                    have n230i : ((sF s217 109 27 z226).2.2.1 109 28).toInt = 1 → ((sF s217 109 27 z226).2.2.1 109 30).toInt ≤ 122 := by have b0 : (Int32.ofInt 3) = (sF s217 109 27 z226).2.2.1 109 28 := sF_ne rfl (fr_F (s := (sF (sF (sF sc0 109 29 w0_109_27) 109 30 z19) 109 28 (Int32.ofInt 3))) (sF_get) hF217 rfl); have b1 : z19 = (sF s217 109 27 z226).2.2.1 109 30 := sF_ne rfl (fr_F (s := (sF (sF (sF sc0 109 29 w0_109_27) 109 30 z19) 109 28 (Int32.ofInt 3))) (sF_ne rfl (sF_get)) hF217 rfl); rw [← b0, ← b1]; exact n230h
                                    exact g_return (gd rfl) rfl (hP _ _ ⟨(sF s217 109 27 z226), hI227, (fr_sF rfl (fr_tr rfl (fr_sF rfl (fr_sF rfl (fr_sF rfl hFc0))) hF217)), n230a, n230c, n230e, n230g, n230i, rfl, rfl⟩)
                              · skip
                                exact zn_ne c186 (in_c 0 rfl) rfl
                            · skip
                              exact n_le c183x3 (in_c 97 rfl) i81 rfl
                          · skip
                            exact zn_ne c128 (in_c 0 rfl) rfl
                      · skip
                        exact n_le c121x3 (in_c 48 rfl) i81 rfl
                    · skip
                      exact zn_ne c111 (in_c 0 rfl) rfl
                  · skip
                    have i108x9 := r_le1 48 57 c108x9 i108x3 (in_c 57 rfl) rfl
                    refine g_iconst 1 13 (gd rfl) rfl rfl ?_
                    refine g_goto 17 (gd rfl) rfl ?_
                    refine g_ireturn (gd rfl) rfl (nb01 (in_w 0 1 (in_c 1 rfl) rfl)) (hp108 _ _ ?_)
                    show GG _ _ _ _ _ _ _ _ [.int (Int32.ofInt 1)] _ _ _
                    refine g_if_eq 114 118 (gd rfl) rfl rfl (fun c111 => ?_) (fun c111 => ?_)
                    · skip
                      exact zn_eq c111 (in_c 1 rfl) rfl
                    · skip
                      refine g_iconst 1 115 (gd rfl) rfl rfl ?_
                      refine g_goto 119 (gd rfl) rfl ?_
                      refine g_istore_n 120 (gd rfl) rfl (Nat.le_of_ble_eq_true rfl) ?_
                      refine g_iload_n 121 (gd rfl) rfl rfl ?_
                      refine g_calls (As := [.int z19]) (r := []) 124 (gd rfl) rfl rfl rfl rfl rfl (Nat.le_of_ble_eq_true rfl) (mc := 0) (ms := 0) (Nat.zero_le _) (Nat.zero_le _) (P := fun v u => _) ?_ (fun v u h => h)
                      intro po121 xx121 hp121 hx121
                      refine g_enter2 (k := 297) (N := 300) (by omega) rfl (Nat.le_of_ble_eq_true rfl) ?_
                      refine g_iload_n 1 (gd rfl) rfl rfl ?_
                      refine g_bipush 48 3 (gd rfl) rfl rfl ?_
                      refine g_cmp_lt 6 16 (gd rfl) rfl rfl (fun c121x3 => ?_) (fun c121x3 => ?_)
                      · skip
                        refine g_iconst 0 17 (gd rfl) rfl rfl ?_
                        refine g_ireturn (gd rfl) rfl (nb01 (in_w 0 1 (in_c 0 rfl) rfl)) (hp121 _ _ ?_)
                        show GG _ _ _ _ _ _ _ _ [.int (Int32.ofInt 0)] _ _ _
                        refine g_if_ne 127 131 (gd rfl) rfl rfl (fun c124 => ?_) (fun c124 => ?_)
                        · skip
                          exact zn_ne c124 (in_c 0 rfl) rfl
                        · skip
                          refine g_iload_n 128 (gd rfl) rfl rfl ?_
                          refine g_if_eq 131 181 (gd rfl) rfl rfl (fun c128 => ?_) (fun c128 => ?_)
                          · skip
                            exact zn_eq c128 (in_c 1 rfl) rfl
                          · skip
                            refine g_aload_n 132 (gd rfl) rfl rfl ?_
                            refine g_iconst 2 133 (gd rfl) rfl rfl ?_
                            refine g_putI 136 (gd rfl) rfl rfl rfl rfl ?_
                            have hI133 := inv_sF (q := 109) (j := 28) hI75 rfl (in_w (-2147483648) 2147483647 (in_c 2 rfl) rfl)
                            refine g_aload_n 137 (gd rfl) rfl rfl ?_
                            refine g_dup 138 (gd rfl) rfl rfl ?_
                            refine g_getI 141 (gd rfl) rfl rfl rfl (fun z138 e138 => ?_)
                            have q138 : w0_109_27 = z138 := (sF_ne rfl (sF_ne rfl (sF_ne rfl (v0_109_27)))).trans e138.symm
                            subst q138
                            refine g_iload_n 142 (gd rfl) rfl rfl ?_
                            refine g_if_eq 145 149 (gd rfl) rfl rfl (fun c142 => ?_) (fun c142 => ?_)
                            · skip
                              exact zn_eq c142 (in_c 1 rfl) rfl
                            · skip
                              refine g_iconst 1 146 (gd rfl) rfl rfl ?_
                              refine g_goto 150 (gd rfl) rfl ?_
                              refine g_iadd 151 (gd rfl) rfl (fun z150 e150 => ?_)
                              have i150 := in_add 1 1000 e150 i8 (in_c 1 rfl) rfl rfl
                              refine g_putI 154 (gd rfl) rfl rfl rfl rfl ?_
                              have hI151 := inv_sF (q := 109) (j := 27) hI133 rfl (in_w 0 1000 i150 rfl)
                              refine g_aload_n 155 (gd rfl) rfl rfl ?_
                              refine g_bipush 7 157 (gd rfl) rfl rfl ?_
                              have v157 : z150 = (sF (sF (sF (sF sc0 109 29 w0_109_27) 109 30 z19) 109 28 (Int32.ofInt 2)) 109 27 z150).2.2.1 109 27 := sF_get
                              have v157a : u_109_22 = (sF (sF (sF (sF sc0 109 29 w0_109_27) 109 30 z19) 109 28 (Int32.ofInt 2)) 109 27 z150).2.2.1 109 22 := sF_ne rfl (sF_ne rfl (sF_ne rfl (sF_ne rfl (fr_F e_109_22 hFc0 rfl))))
                              have n157 : (z150).toInt < (u_109_22).toInt := by have a0 := i94a; unfold In at a0; have a1 := i8; unfold In at a1; have a2 := (in_c 1 rfl); unfold In at a2; have a3 := i81; unfold In at a3; have a4 := i150; unfold In at a4; have a5 := t_add e150 i8 (in_c 1 rfl) rfl; have a6 := (in_c 2 rfl); unfold In at a6; have a7 := i107; unfold In at a7; have a8 := t_add e106 i8 (in_c 1 rfl) rfl; have a9 := i94; unfold In at a9; have a10 := t_add e89 i8 (in_c 1 rfl) rfl; omega
                              have p157 : 48 ≤ ((sF (sF (sF (sF sc0 109 29 w0_109_27) 109 30 z19) 109 28 (Int32.ofInt 2)) 109 27 z150).1 125 ((sF (sF (sF (sF sc0 109 29 w0_109_27) 109 30 z19) 109 28 (Int32.ofInt 2)) 109 27 z150).2.2.1 109 27).toNatClampNeg).toInt ∧ ((sF (sF (sF (sF sc0 109 29 w0_109_27) 109 30 z19) 109 28 (Int32.ofInt 2)) 109 27 z150).1 125 ((sF (sF (sF (sF sc0 109 29 w0_109_27) 109 30 z19) 109 28 (Int32.ofInt 2)) 109 27 z150).2.2.1 109 27).toNatClampNeg).toInt ≤ 57 := by first | (have hz : z107 = (sF (sF (sF (sF sc0 109 29 w0_109_27) 109 30 z19) 109 28 (Int32.ofInt 2)) 109 27 z150).1 125 ((sF (sF (sF (sF sc0 109 29 w0_109_27) 109 30 z19) 109 28 (Int32.ofInt 2)) 109 27 z150).2.2.1 109 27).toNatClampNeg := (by rw [← (show z150 = (sF (sF (sF (sF sc0 109 29 w0_109_27) 109 30 z19) 109 28 (Int32.ofInt 2)) 109 27 z150).2.2.1 109 27 from sF_get), e150, ← e106]; exact e107); rw [← hz]; exact i108x9) | (have hz : z19 = (sF (sF (sF (sF sc0 109 29 w0_109_27) 109 30 z19) 109 28 (Int32.ofInt 2)) 109 27 z150).1 125 ((sF (sF (sF (sF sc0 109 29 w0_109_27) 109 30 z19) 109 28 (Int32.ofInt 2)) 109 27 z150).2.2.1 109 27).toNatClampNeg := (by rw [← (show z150 = (sF (sF (sF (sF sc0 109 29 w0_109_27) 109 30 z19) 109 28 (Int32.ofInt 2)) 109 27 z150).2.2.1 109 27 from sF_get), e150, show w0_109_27 + Int32.ofInt 0 = w0_109_27 from Int32.add_zero _]; exact e19); rw [← hz]; exact i121x9) | (have hz : z71 = (sF (sF (sF (sF sc0 109 29 w0_109_27) 109 30 z19) 109 28 (Int32.ofInt 2)) 109 27 z150).1 125 ((sF (sF (sF (sF sc0 109 29 w0_109_27) 109 30 z19) 109 28 (Int32.ofInt 2)) 109 27 z150).2.2.1 109 27).toNatClampNeg := (by rw [← (show z150 = (sF (sF (sF (sF sc0 109 29 w0_109_27) 109 30 z19) 109 28 (Int32.ofInt 2)) 109 27 z150).2.2.1 109 27 from sF_get), e150, show w0_109_27 + Int32.ofInt 0 = w0_109_27 from Int32.add_zero _]; exact e71); rw [← hz]; exact i121x9)
                              refine g_callv (X := _) (As := [.int (Int32.ofInt 7)]) (r := []) (b := A 109) (q := 109) 160 (gd rfl) rfl rfl rfl rfl rfl (ww_o rfl) (Nat.le_of_ble_eq_true rfl) (Nat.zero_le _) (Nat.zero_le _) (k_300 (by omega) hI151 (in_w 6 7 (in_c 7 rfl) rfl) v157 v157a n157 p157) (fun e u h => h) (fun v u h => ?_)
                              obtain ⟨s157, hI157, hF157, n157a, n157b, rfl, rfl⟩ := h
                              obtain ⟨z157a, e157⟩ : ∃ w, w = s157.2.2.1 109 27 := ⟨_, rfl⟩
                              have i157a := inv_F hI157 0 1000 rfl e157
                              rw [← (show z157a = s157.2.2.1 109 27 from e157)] at n157a
                              rw [← (show u_109_22 = s157.2.2.1 109 22 from fr_F (s := (sF (sF (sF (sF sc0 109 29 w0_109_27) 109 30 z19) 109 28 (Int32.ofInt 2)) 109 27 z150)) (sF_ne rfl (sF_ne rfl (sF_ne rfl (sF_ne rfl (fr_F e_109_22 hFc0 rfl))))) hF157 rfl)] at n157a
                              rw [← (show z150 = (sF (sF (sF (sF sc0 109 29 w0_109_27) 109 30 z19) 109 28 (Int32.ofInt 2)) 109 27 z150).2.2.1 109 27 from sF_get)] at n157b
                              rw [← (show z157a = s157.2.2.1 109 27 from e157)] at n157b
                              show GG _ _ _ _ _ _ _ _ [] _ _ _
                              refine g_aload_n 161 (gd rfl) rfl rfl ?_
                              refine g_iload_n 162 (gd rfl) rfl rfl ?_
                              refine g_if_eq 165 173 (gd rfl) rfl rfl (fun c162 => ?_) (fun c162 => ?_)
                              · skip
                                exact zn_eq c162 (in_c 1 rfl) rfl
                              · skip
                                refine g_aload_n 166 (gd rfl) rfl rfl ?_
                                refine g_getL 169 (gd rfl) rfl rfl rfl (fun z166 e166 => ?_)
                                refine g_lneg 170 (gd rfl) rfl (fun z169 e169 => ?_)
                                refine g_goto 177 (gd rfl) rfl ?_
                                refine g_putL 180 (gd rfl) rfl rfl rfl rfl ?_
                                have hI177 := inv_sG (q := 109) (j := 31) (x := z169) hI157 rfl (l_rng z169)
                                have n180 : (z157a).toInt ≤ (u_109_22).toInt := by have a0 := i94a; unfold In at a0; have a1 := i8; unfold In at a1; have a2 := (in_c 1 rfl); unfold In at a2; have a3 := i81; unfold In at a3; have a4 := i157a; unfold In at a4; have a5 := (in_c 2 rfl); unfold In at a5; have a6 := i150; unfold In at a6; have a7 := t_add e150 i8 (in_c 1 rfl) rfl; have a8 := i107; unfold In at a8; have a9 := t_add e106 i8 (in_c 1 rfl) rfl; have a10 := i94; unfold In at a10; have a11 := t_add e89 i8 (in_c 1 rfl) rfl; omega
                                have n180a : ((sG s157 109 31 z169).2.2.1 109 27).toInt ≤ ((sG s157 109 31 z169).2.2.1 109 22).toInt := by have b0 : z157a = (sG s157 109 31 z169).2.2.1 109 27 := sG_F (e157); have b1 : u_109_22 = (sG s157 109 31 z169).2.2.1 109 22 := sG_F (fr_F (s := (sF (sF (sF (sF sc0 109 29 w0_109_27) 109 30 z19) 109 28 (Int32.ofInt 2)) 109 27 z150)) (sF_ne rfl (sF_ne rfl (sF_ne rfl (sF_ne rfl (fr_F e_109_22 hFc0 rfl))))) hF157 rfl); rw [← b0, ← b1]; exact n180
                                have n180b : (u_109_27).toInt ≤ (z157a).toInt := by have a0 := i94a; unfold In at a0; have a1 := i8; unfold In at a1; have a2 := (in_c 1 rfl); unfold In at a2; have a3 := i81; unfold In at a3; have a4 := i157a; unfold In at a4; have a5 := (in_c 2 rfl); unfold In at a5; have a6 := i150; unfold In at a6; have a7 := t_add e150 i8 (in_c 1 rfl) rfl; have a8 := i107; unfold In at a8; have a9 := t_add e106 i8 (in_c 1 rfl) rfl; have a10 := i94; unfold In at a10; have a11 := t_add e89 i8 (in_c 1 rfl) rfl; omega
                                have n180c : (s.2.2.1 109 27).toInt ≤ ((sG s157 109 31 z169).2.2.1 109 27).toInt := by have b0 : z157a = (sG s157 109 31 z169).2.2.1 109 27 := sG_F (e157); first | (rw [← b0, ← e_109_27]; exact n180b) | (rw [← b0]; exact n180b)
                                have n180d : ((Int32.ofInt 2)).toInt ≠ 0 → (u_109_27).toInt + 1 ≤ (z157a).toInt := by have a0 := i94a; unfold In at a0; have a1 := i8; unfold In at a1; have a2 := (in_c 1 rfl); unfold In at a2; have a3 := i81; unfold In at a3; have a4 := i157a; unfold In at a4; have a5 := (in_c 2 rfl); unfold In at a5; have a6 := i150; unfold In at a6; have a7 := t_add e150 i8 (in_c 1 rfl) rfl; have a8 := i107; unfold In at a8; have a9 := t_add e106 i8 (in_c 1 rfl) rfl; have a10 := i94; unfold In at a10; have a11 := t_add e89 i8 (in_c 1 rfl) rfl; omega
                                have n180e : ((sG s157 109 31 z169).2.2.1 109 28).toInt ≠ 0 → (s.2.2.1 109 27).toInt + 1 ≤ ((sG s157 109 31 z169).2.2.1 109 27).toInt := by have b0 : (Int32.ofInt 2) = (sG s157 109 31 z169).2.2.1 109 28 := sG_F (fr_F (s := (sF (sF (sF (sF sc0 109 29 w0_109_27) 109 30 z19) 109 28 (Int32.ofInt 2)) 109 27 z150)) (sF_ne rfl (sF_get)) hF157 rfl); have b1 : z157a = (sG s157 109 31 z169).2.2.1 109 27 := sG_F (e157); first | (rw [← b0, ← b1, ← e_109_27]; exact n180d) | (rw [← b0, ← b1]; exact n180d)
                                have n180f : ((Int32.ofInt 2)).toInt = 1 → 97 ≤ (z19).toInt := by have a0 := i94a; unfold In at a0; have a1 := i8; unfold In at a1; have a2 := (in_c 1 rfl); unfold In at a2; have a3 := i81; unfold In at a3; have a4 := i157a; unfold In at a4; have a5 := (in_c 2 rfl); unfold In at a5; have a6 := i150; unfold In at a6; have a7 := t_add e150 i8 (in_c 1 rfl) rfl; have a8 := i107; unfold In at a8; have a9 := t_add e106 i8 (in_c 1 rfl) rfl; have a10 := i94; unfold In at a10; have a11 := t_add e89 i8 (in_c 1 rfl) rfl; omega
                                have n180g : ((sG s157 109 31 z169).2.2.1 109 28).toInt = 1 → 97 ≤ ((sG s157 109 31 z169).2.2.1 109 30).toInt := by have b0 : (Int32.ofInt 2) = (sG s157 109 31 z169).2.2.1 109 28 := sG_F (fr_F (s := (sF (sF (sF (sF sc0 109 29 w0_109_27) 109 30 z19) 109 28 (Int32.ofInt 2)) 109 27 z150)) (sF_ne rfl (sF_get)) hF157 rfl); have b1 : z19 = (sG s157 109 31 z169).2.2.1 109 30 := sG_F (fr_F (s := (sF (sF (sF (sF sc0 109 29 w0_109_27) 109 30 z19) 109 28 (Int32.ofInt 2)) 109 27 z150)) (sF_ne rfl (sF_ne rfl (sF_get))) hF157 rfl); rw [← b0, ← b1]; exact n180f
                                have n180h : ((Int32.ofInt 2)).toInt = 1 → (z19).toInt ≤ 122 := by have a0 := i94a; unfold In at a0; have a1 := i8; unfold In at a1; have a2 := (in_c 1 rfl); unfold In at a2; have a3 := i81; unfold In at a3; have a4 := i157a; unfold In at a4; have a5 := (in_c 2 rfl); unfold In at a5; have a6 := i150; unfold In at a6; have a7 := t_add e150 i8 (in_c 1 rfl) rfl; have a8 := i107; unfold In at a8; have a9 := t_add e106 i8 (in_c 1 rfl) rfl; have a10 := i94; unfold In at a10; have a11 := t_add e89 i8 (in_c 1 rfl) rfl; omega
                                have n180i : ((sG s157 109 31 z169).2.2.1 109 28).toInt = 1 → ((sG s157 109 31 z169).2.2.1 109 30).toInt ≤ 122 := by have b0 : (Int32.ofInt 2) = (sG s157 109 31 z169).2.2.1 109 28 := sG_F (fr_F (s := (sF (sF (sF (sF sc0 109 29 w0_109_27) 109 30 z19) 109 28 (Int32.ofInt 2)) 109 27 z150)) (sF_ne rfl (sF_get)) hF157 rfl); have b1 : z19 = (sG s157 109 31 z169).2.2.1 109 30 := sG_F (fr_F (s := (sF (sF (sF (sF sc0 109 29 w0_109_27) 109 30 z19) 109 28 (Int32.ofInt 2)) 109 27 z150)) (sF_ne rfl (sF_ne rfl (sF_get))) hF157 rfl); rw [← b0, ← b1]; exact n180h
                                exact g_return (gd rfl) rfl (hP _ _ ⟨(sG s157 109 31 z169), hI177, (fr_sG rfl (fr_tr rfl (fr_sF rfl (fr_sF rfl (fr_sF rfl (fr_sF rfl hFc0)))) hF157)), n180a, n180c, n180e, n180g, n180i, rfl, rfl⟩)
                      · skip
                        exact n_le c121x3 (in_c 48 rfl) i81 rfl
          · skip
            have i54 := r_eq1 1 999 c54 i8 i8a rfl
            have i54a := r_eq2 1 999 c54 i8 i8a rfl
            refine g_aload_n 58 (gd rfl) rfl rfl ?_
            refine g_iconst 0 59 (gd rfl) rfl rfl ?_
            refine g_putI 62 (gd rfl) rfl rfl rfl rfl ?_
            have hI59 := inv_sF (q := 109) (j := 28) hI43 rfl (in_w (-2147483648) 2147483647 (in_c 0 rfl) rfl)
            have n62 : (w0_109_27).toInt ≤ (u_109_22).toInt := by have a0 := i54a; unfold In at a0; have a1 := i54; unfold In at a1; have a2 := (in_c 0 rfl); unfold In at a2; omega
            have n62a : ((sF (sF sc0 109 29 w0_109_27) 109 28 (Int32.ofInt 0)).2.2.1 109 27).toInt ≤ ((sF (sF sc0 109 29 w0_109_27) 109 28 (Int32.ofInt 0)).2.2.1 109 22).toInt := by have b0 : w0_109_27 = (sF (sF sc0 109 29 w0_109_27) 109 28 (Int32.ofInt 0)).2.2.1 109 27 := sF_ne rfl (sF_ne rfl (v0_109_27)); have b1 : u_109_22 = (sF (sF sc0 109 29 w0_109_27) 109 28 (Int32.ofInt 0)).2.2.1 109 22 := sF_ne rfl (sF_ne rfl (fr_F e_109_22 hFc0 rfl)); rw [← b0, ← b1]; exact n62
            have n62b : (u_109_27).toInt ≤ (w0_109_27).toInt := by have a0 := i54a; unfold In at a0; have a1 := i54; unfold In at a1; have a2 := (in_c 0 rfl); unfold In at a2; omega
            have n62c : (s.2.2.1 109 27).toInt ≤ ((sF (sF sc0 109 29 w0_109_27) 109 28 (Int32.ofInt 0)).2.2.1 109 27).toInt := by have b0 : w0_109_27 = (sF (sF sc0 109 29 w0_109_27) 109 28 (Int32.ofInt 0)).2.2.1 109 27 := sF_ne rfl (sF_ne rfl (v0_109_27)); first | (rw [← b0, ← e_109_27]; exact n62b) | (rw [← b0]; exact n62b)
            have n62d : ((Int32.ofInt 0)).toInt ≠ 0 → (u_109_27).toInt + 1 ≤ (w0_109_27).toInt := by have a0 := i54a; unfold In at a0; have a1 := i54; unfold In at a1; have a2 := (in_c 0 rfl); unfold In at a2; omega
            have n62e : ((sF (sF sc0 109 29 w0_109_27) 109 28 (Int32.ofInt 0)).2.2.1 109 28).toInt ≠ 0 → (s.2.2.1 109 27).toInt + 1 ≤ ((sF (sF sc0 109 29 w0_109_27) 109 28 (Int32.ofInt 0)).2.2.1 109 27).toInt := by have b0 : (Int32.ofInt 0) = (sF (sF sc0 109 29 w0_109_27) 109 28 (Int32.ofInt 0)).2.2.1 109 28 := sF_get; have b1 : w0_109_27 = (sF (sF sc0 109 29 w0_109_27) 109 28 (Int32.ofInt 0)).2.2.1 109 27 := sF_ne rfl (sF_ne rfl (v0_109_27)); first | (rw [← b0, ← b1, ← e_109_27]; exact n62d) | (rw [← b0, ← b1]; exact n62d)
            have n62f : ((Int32.ofInt 0)).toInt = 1 → 97 ≤ (((sF (sF sc0 109 29 w0_109_27) 109 28 (Int32.ofInt 0)).2.2.1 109 30)).toInt := by have a0 := i54a; unfold In at a0; have a1 := i54; unfold In at a1; have a2 := (in_c 0 rfl); unfold In at a2; omega
            have n62g : ((sF (sF sc0 109 29 w0_109_27) 109 28 (Int32.ofInt 0)).2.2.1 109 28).toInt = 1 → 97 ≤ ((sF (sF sc0 109 29 w0_109_27) 109 28 (Int32.ofInt 0)).2.2.1 109 30).toInt := by have b0 : (Int32.ofInt 0) = (sF (sF sc0 109 29 w0_109_27) 109 28 (Int32.ofInt 0)).2.2.1 109 28 := sF_get; rw [← b0]; exact n62f
            have n62h : ((Int32.ofInt 0)).toInt = 1 → (((sF (sF sc0 109 29 w0_109_27) 109 28 (Int32.ofInt 0)).2.2.1 109 30)).toInt ≤ 122 := by have a0 := i54a; unfold In at a0; have a1 := i54; unfold In at a1; have a2 := (in_c 0 rfl); unfold In at a2; omega
            have n62i : ((sF (sF sc0 109 29 w0_109_27) 109 28 (Int32.ofInt 0)).2.2.1 109 28).toInt = 1 → ((sF (sF sc0 109 29 w0_109_27) 109 28 (Int32.ofInt 0)).2.2.1 109 30).toInt ≤ 122 := by have b0 : (Int32.ofInt 0) = (sF (sF sc0 109 29 w0_109_27) 109 28 (Int32.ofInt 0)).2.2.1 109 28 := sF_get; rw [← b0]; exact n62h
            exact g_return (gd rfl) rfl (hP _ _ ⟨(sF (sF sc0 109 29 w0_109_27) 109 28 (Int32.ofInt 0)), hI59, (fr_sF rfl (fr_sF rfl hFc0)), n62a, n62c, n62e, n62g, n62i, rfl, rfl⟩)
        · skip
          have i22 := r_eq1 32 32 c22 i19 (in_c 32 rfl) rfl
          refine g_aload_n 26 (gd rfl) rfl rfl ?_
          refine g_dup 27 (gd rfl) rfl rfl ?_
          refine g_getI 30 (gd rfl) rfl rfl rfl (fun z27 e27 => ?_)
          have q27 : w0_109_27 = z27 := (v0_109_27).trans e27.symm
          subst q27
          refine g_iconst 1 31 (gd rfl) rfl rfl ?_
          refine g_iadd 32 (gd rfl) rfl (fun z31 e31 => ?_)
          have i31 := in_add 1 1000 e31 i8 (in_c 1 rfl) rfl rfl
          refine g_putI 35 (gd rfl) rfl rfl rfl rfl ?_
          have hI32 := inv_sF (q := 109) (j := 27) hIc0 rfl (in_w 0 1000 i31 rfl)
          refine g_goto 0 (gd rfl) rfl ?_
          have v0 : z31 = (sF sc0 109 27 z31).2.2.1 109 27 := sF_get
          have n0 : (z31).toInt ≤ (u_109_22).toInt := by have a0 := i8a; unfold In at a0; have a1 := i8; unfold In at a1; have a2 := i31; unfold In at a2; have a3 := t_add e31 i8 (in_c 1 rfl) rfl; have a4 := (in_c 1 rfl); unfold In at a4; omega
          have n0a : (u_109_27).toInt ≤ (z31).toInt := by have a0 := i8a; unfold In at a0; have a1 := i8; unfold In at a1; have a2 := i31; unfold In at a2; have a3 := t_add e31 i8 (in_c 1 rfl) rfl; have a4 := (in_c 1 rfl); unfold In at a4; omega
          have m0 : (u_109_22).toInt - (z31).toInt < ((k0 : Nat) : Int) := by have a0 := i8a; unfold In at a0; have a1 := i8; unfold In at a1; have a2 := i31; unfold In at a2; have a3 := t_add e31 i8 (in_c 1 rfl) rfl; have a4 := (in_c 1 rfl); unfold In at a4; omega
          exact gg_w (by omega) (gg_f (gf_cons rfl gf_nil) (ih0  (sF sc0 109 27 z31) z31 hI32 (fr_sF rfl hFc0) v0 n0 n0a m0))
  refine g_enter2 (k := 299) (N := 901801) (by omega) rfl (Nat.le_of_ble_eq_true rfl) ?_
  have n0 : (u_109_27).toInt ≤ (u_109_22).toInt := by have a0 := (inv_F hI 0 1000 rfl e_109_22); unfold In at a0; have a1 := (inv_F hI 0 1000 rfl e_109_27); unfold In at a1; omega
  have n0a : (u_109_27).toInt ≤ (u_109_27).toInt := by have a0 := (inv_F hI 0 1000 rfl e_109_22); unfold In at a0; have a1 := (inv_F hI 0 1000 rfl e_109_27); unfold In at a1; omega
  have m0 : (u_109_22).toInt - (u_109_27).toInt < ((1001 : Nat) : Int) := by have a0 := (inv_F hI 0 1000 rfl e_109_22); unfold In at a0; have a1 := (inv_F hI 0 1000 rfl e_109_27); unfold In at a1; omega
  exact gg_w (by omega) (gg_f (gf_cons rfl gf_nil) (ct0 1001 s u_109_27 hI fr_rf e_109_27 n0 n0a m0))

def fm_320 : FM := ([134], [135], [(109, 40)], [])
/-- GraphHouseModel.findShorts -/
theorem k_320 {Z : AmZ} {A : Nat → Nat} {s : GS} {ex : va_W} {d : Nat} {X : AmX} {x1 : Int32} {x2 : Int32} (hd : 6 ≤ d) (hI : Inv s) (h1 : In x1 0 31) (h2 : In x2 0 31) : GC Z d 320 [.ref (A 109), .int x1, .int x2] (WW Z A s ++ ex) 0 0 (fun v u => ∃ t : GS, Inv t ∧ Fr fm_320 s t ∧ v = none ∧ u = WW Z A t ++ ex) X := by
  intro post xp hP hX
  obtain ⟨u_109_19, e_109_19⟩ : ∃ w, w = s.2.2.1 109 19 := ⟨_, rfl⟩
  have ro_109_19 := inv_F hI 0 160 rfl e_109_19
  have ct7 : ∀ (k7 : Nat) (sc7 : GS) (y7_3 : Int32), Inv sc7 → Fr fm_320 s sc7 → (In y7_3 0 160) → 160 - (y7_3).toInt < (k7 : Int) → GG Z (d - 1) 320 post (gx xp) (1 + k7 * 900) 7 (fun j => xlook j [(0, .ref (A 109)), (1, .int x1), (2, .int x2), (3, .int y7_3)]) [] (WW Z A sc7 ++ ex) 0 0 := by
    intro k7
    induction k7 with
    | zero => intro sc7 y7_3 hIc7 hFc7 j7_3 mm7; exact m_no mm7 j7_3 rfl
    | succ k7 ih7 =>
      intro sc7 y7_3 hIc7 hFc7 j7_3 mm7
      refine gg_w (M := 1 + k7 * 900 + 900) (by omega) ?_
      refine g_iload_n 8 (gd rfl) rfl rfl ?_
      refine g_sipush 160 11 (gd rfl) rfl rfl ?_
      refine g_cmp_ge 14 89 (gd rfl) rfl rfl (fun c11 => ?_) (fun c11 => ?_)
      · skip
        have i11 := r_le2 160 160 c11 (in_c 160 rfl) j7_3 rfl
        exact g_return (gd rfl) rfl (hP _ _ ⟨sc7, hIc7, hFc7, rfl, rfl⟩)
      · skip
        have i11 := r_lt1 0 159 c11 j7_3 (in_c 160 rfl) rfl
        refine g_aload_n 15 (gd rfl) rfl rfl ?_
        refine g_getI 18 (gd rfl) rfl rfl rfl (fun z15 e15 => ?_)
        have i15 := inv_F hIc7 0 2001 rfl e15
        refine g_sipush 2000 21 (gd rfl) rfl rfl ?_
        refine g_cmp_gt 24 89 (gd rfl) rfl rfl (fun c21 => ?_) (fun c21 => ?_)
        · skip
          have i21 := r_lt2 2001 2001 c21 (in_c 2000 rfl) i15 rfl
          exact g_return (gd rfl) rfl (hP _ _ ⟨sc7, hIc7, hFc7, rfl, rfl⟩)
        · skip
          have i21 := r_le1 0 2000 c21 i15 (in_c 2000 rfl) rfl
          refine g_aload_n 25 (gd rfl) rfl rfl ?_
          refine g_iload_n 26 (gd rfl) rfl rfl ?_
          refine g_iload_n 27 (gd rfl) rfl rfl ?_
          refine g_iconst 1 28 (gd rfl) rfl rfl ?_
          refine g_iload_n 29 (gd rfl) rfl rfl ?_
          refine g_ishl 30 (gd rfl) rfl (fun z29 e29 => ?_)
          refine g_callv (X := _) (As := [.int y7_3, .int x1, .int z29]) (r := []) (b := A 109) (q := 109) 33 (gd rfl) rfl rfl rfl rfl rfl (ww_o rfl) (Nat.le_of_ble_eq_true rfl) (mc := 0) (ms := 0) (Nat.zero_le _) (Nat.zero_le _) (P := fun v u => _) ?_ (fun e u h => h) (fun v u h => h)
          intro po30 xx30 hp30 hx30
          refine g_enter2 (k := 319) (N := 300) (by omega) rfl (Nat.le_of_ble_eq_true rfl) ?_
          refine g_aload_n 1 (gd rfl) rfl rfl ?_
          refine g_getA (q2 := 112) 4 (gd rfl) rfl rfl rfl rfl ?_
          refine g_aload_n 5 (gd rfl) rfl rfl ?_
          refine g_getI 8 (gd rfl) rfl rfl rfl (fun z30x5 e30x5 => ?_)
          have q30x5 : u_109_19 = z30x5 := (fr_F e_109_19 hFc7 rfl).trans e30x5.symm
          subst q30x5
          refine g_iload_n 9 (gd rfl) rfl rfl ?_
          refine g_iadd 10 (gd rfl) rfl (fun z30x9 e30x9 => ?_)
          have i30x9 := in_add 0 319 e30x9 ro_109_19 i11 rfl rfl
          refine g_baload 11 (gd rfl) rfl (n := 480) rfl (in_ix i30x9 rfl) (fun z30x10 e30x10 => ?_)
          have i30x10 := inv_I hIc7 (n := 480) (t := 3) 0 1 rfl (in_ix i30x9 rfl) rfl e30x10
          refine g_if_eq 14 51 (gd rfl) rfl rfl (fun c30x11 => ?_) (fun c30x11 => ?_)
          · skip
            have i30x11 := z_eq 0 0 c30x11 i30x10 rfl
            refine g_iconst 0 52 (gd rfl) rfl rfl ?_
            refine g_ireturn (gd rfl) rfl (nb01 (in_w 0 1 (in_c 0 rfl) rfl)) (hp30 _ _ ?_)
            show GG _ _ _ _ _ _ _ _ [.int (Int32.ofInt 0)] _ _ _
            refine g_if_eq 36 83 (gd rfl) rfl rfl (fun c33 => ?_) (fun c33 => ?_)
            · skip
              refine g_iinc 86 (gd rfl) rfl rfl (Nat.le_of_ble_eq_true rfl) (fun z83 e83 => ?_)
              have i83 := in_add 1 160 e83 i11 (in_c 1 rfl) rfl rfl
              refine g_goto 7 (gd rfl) rfl ?_
              exact gg_w (by omega) (gg_f (gf_cons rfl (gf_cons rfl (gf_cons rfl (gf_cons rfl gf_nil)))) (ih7 sc7 z83 hIc7 hFc7 (in_w 0 160 i83 rfl) (m_up mm7 (t_add e83 i11 (in_c 1 rfl) rfl) (in_w 1 1 (in_c 1 rfl) rfl))))
            · skip
              exact zn_ne c33 (in_c 0 rfl) rfl
          · skip
            have i30x11 := z_ne 1 1 c30x11 i30x10 rfl
            refine g_aload_n 15 (gd rfl) rfl rfl ?_
            refine g_getA (q2 := 113) 18 (gd rfl) rfl rfl rfl rfl ?_
            refine g_aload_n 19 (gd rfl) rfl rfl ?_
            refine g_getI 22 (gd rfl) rfl rfl rfl (fun z30x19 e30x19 => ?_)
            have q30x19 : u_109_19 = z30x19 := (fr_F e_109_19 hFc7 rfl).trans e30x19.symm
            subst q30x19
            refine g_iload_n 23 (gd rfl) rfl rfl ?_
            refine g_iadd 24 (gd rfl) rfl (fun z30x23 e30x23 => ?_)
            have i30x23 := in_add 0 319 e30x23 ro_109_19 i11 rfl rfl
            refine g_iaload 25 (gd rfl) rfl (n := 480) rfl (in_ix i30x23 rfl) (fun z30x24 e30x24 => ?_)
            have i30x24 := inv_I hIc7 (n := 480) (t := 0) 0 31 rfl (in_ix i30x23 rfl) rfl e30x24
            refine g_iload_n 26 (gd rfl) rfl rfl ?_
            refine g_cmp_ne 29 51 (gd rfl) rfl rfl (fun c30x26 => ?_) (fun c30x26 => ?_)
            · skip
              refine g_iconst 0 52 (gd rfl) rfl rfl ?_
              refine g_ireturn (gd rfl) rfl (nb01 (in_w 0 1 (in_c 0 rfl) rfl)) (hp30 _ _ ?_)
              show GG _ _ _ _ _ _ _ _ [.int (Int32.ofInt 0)] _ _ _
              refine g_if_eq 36 83 (gd rfl) rfl rfl (fun c33 => ?_) (fun c33 => ?_)
              · skip
                refine g_iinc 86 (gd rfl) rfl rfl (Nat.le_of_ble_eq_true rfl) (fun z83 e83 => ?_)
                have i83 := in_add 1 160 e83 i11 (in_c 1 rfl) rfl rfl
                refine g_goto 7 (gd rfl) rfl ?_
                exact gg_w (by omega) (gg_f (gf_cons rfl (gf_cons rfl (gf_cons rfl (gf_cons rfl gf_nil)))) (ih7 sc7 z83 hIc7 hFc7 (in_w 0 160 i83 rfl) (m_up mm7 (t_add e83 i11 (in_c 1 rfl) rfl) (in_w 1 1 (in_c 1 rfl) rfl))))
              · skip
                exact zn_ne c33 (in_c 0 rfl) rfl
            · skip
              refine g_iload_n 30 (gd rfl) rfl rfl ?_
              refine g_aload_n 31 (gd rfl) rfl rfl ?_
              refine g_getA (q2 := 114) 34 (gd rfl) rfl rfl rfl rfl ?_
              refine g_aload_n 35 (gd rfl) rfl rfl ?_
              refine g_getI 38 (gd rfl) rfl rfl rfl (fun z30x35 e30x35 => ?_)
              have q30x35 : u_109_19 = z30x35 := (fr_F e_109_19 hFc7 rfl).trans e30x35.symm
              subst q30x35
              refine g_iload_n 39 (gd rfl) rfl rfl ?_
              refine g_iadd 40 (gd rfl) rfl (fun z30x39 e30x39 => ?_)
              have i30x39 := in_add 0 319 e30x39 ro_109_19 i11 rfl rfl
              refine g_iaload 41 (gd rfl) rfl (n := 480) rfl (in_ix i30x39 rfl) (fun z30x40 e30x40 => ?_)
              have i30x40 := inv_I hIc7 (n := 480) (t := 0) 0 31 rfl (in_ix i30x39 rfl) rfl e30x40
              refine g_calls (As := [.int z29, .int z30x40]) (r := []) 44 (gd rfl) rfl rfl rfl rfl rfl (Nat.le_of_ble_eq_true rfl) (mc := 0) (ms := 0) (Nat.zero_le _) (Nat.zero_le _) (P := fun v u => _) ?_ (fun v u h => h)
              intro po30x41 xx30x41 hp30x41 hx30x41
              refine g_enter2 (k := 311) (N := 300) (by omega) rfl (Nat.le_of_ble_eq_true rfl) ?_
              refine g_iload_n 1 (gd rfl) rfl rfl ?_
              refine g_iload_n 2 (gd rfl) rfl rfl ?_
              refine g_ishr 3 (gd rfl) rfl (fun z30x41x2 e30x41x2 => ?_)
              refine g_iconst 1 4 (gd rfl) rfl rfl ?_
              refine g_iand 5 (gd rfl) rfl (fun z30x41x4 e30x41x4 => ?_)
              have i30x41x4 := in_and2 e30x41x4 (in_c 1 rfl) rfl
              refine g_iconst 1 6 (gd rfl) rfl rfl ?_
              refine g_cmp_ne 9 13 (gd rfl) rfl rfl (fun c30x41x6 => ?_) (fun c30x41x6 => ?_)
              · skip
                have i30x41x6 := r_ne1 0 0 c30x41x6 i30x41x4 (in_c 1 rfl) rfl
                refine g_iconst 0 14 (gd rfl) rfl rfl ?_
                refine g_ireturn (gd rfl) rfl (nb01 (in_w 0 1 (in_c 0 rfl) rfl)) (hp30x41 _ _ ?_)
                show GG _ _ _ _ _ _ _ _ [.int (Int32.ofInt 0)] _ _ _
                refine g_if_ne 47 51 (gd rfl) rfl rfl (fun c30x44 => ?_) (fun c30x44 => ?_)
                · skip
                  exact zn_ne c30x44 (in_c 0 rfl) rfl
                · skip
                  refine g_iconst 1 48 (gd rfl) rfl rfl ?_
                  refine g_goto 52 (gd rfl) rfl ?_
                  refine g_ireturn (gd rfl) rfl (nb01 (in_w 0 1 (in_c 1 rfl) rfl)) (hp30 _ _ ?_)
                  show GG _ _ _ _ _ _ _ _ [.int (Int32.ofInt 1)] _ _ _
                  refine g_if_eq 36 83 (gd rfl) rfl rfl (fun c33 => ?_) (fun c33 => ?_)
                  · skip
                    exact zn_eq c33 (in_c 1 rfl) rfl
                  · skip
                    refine g_aload_n 37 (gd rfl) rfl rfl ?_
                    refine g_getA (q2 := 114) 40 (gd rfl) rfl rfl rfl rfl ?_
                    refine g_aload_n 41 (gd rfl) rfl rfl ?_
                    refine g_getI 44 (gd rfl) rfl rfl rfl (fun z41 e41 => ?_)
                    have q41 : u_109_19 = z41 := (fr_F e_109_19 hFc7 rfl).trans e41.symm
                    subst q41
                    refine g_iload_n 45 (gd rfl) rfl rfl ?_
                    refine g_iadd 46 (gd rfl) rfl (fun z45 e45 => ?_)
                    have i45 := in_add 0 319 e45 ro_109_19 i11 rfl rfl
                    refine g_iaload 47 (gd rfl) rfl (n := 480) rfl (in_ix i45 rfl) (fun z46 e46 => ?_)
                    have i46 := inv_I hIc7 (n := 480) (t := 0) 0 31 rfl (in_ix i45 rfl) rfl e46
                    refine g_istore 49 (gd rfl) rfl (Nat.le_of_ble_eq_true rfl) ?_
                    refine g_iload 51 (gd rfl) rfl rfl ?_
                    refine g_iload_n 52 (gd rfl) rfl rfl ?_
                    refine g_cmp_ne 55 67 (gd rfl) rfl rfl (fun c52 => ?_) (fun c52 => ?_)
                    · skip
                      refine g_aload_n 68 (gd rfl) rfl rfl ?_
                      refine g_iload_n 69 (gd rfl) rfl rfl ?_
                      refine g_iload 71 (gd rfl) rfl rfl ?_
                      refine g_iconst 1 72 (gd rfl) rfl rfl ?_
                      refine g_iload_n 73 (gd rfl) rfl rfl ?_
                      refine g_ishl 74 (gd rfl) rfl (fun z73 e73 => ?_)
                      refine g_iconst 1 75 (gd rfl) rfl rfl ?_
                      refine g_iload 77 (gd rfl) rfl rfl ?_
                      refine g_ishl 78 (gd rfl) rfl (fun z77 e77 => ?_)
                      refine g_ior 79 (gd rfl) rfl (fun z78 e78 => ?_)
                      refine g_iload_n 80 (gd rfl) rfl rfl ?_
                      refine g_callv (X := _) (As := [.int y7_3, .int z46, .int z78, .int x2]) (r := []) (b := A 109) (q := 109) 83 (gd rfl) rfl rfl rfl rfl rfl (ww_o rfl) (Nat.le_of_ble_eq_true rfl) (Nat.zero_le _) (Nat.zero_le _) (k_321 (by omega) hIc7 (in_w 0 159 i11 rfl) (in_w 0 31 i46 rfl) (in_w 0 31 h2 rfl)) (fun e u h => h) (fun v u h => ?_)
                      obtain ⟨s80, hI80, hF80, rfl, rfl⟩ := h
                      show GG _ _ _ _ _ _ _ _ [] _ _ _
                      refine g_iinc 86 (gd rfl) rfl rfl (Nat.le_of_ble_eq_true rfl) (fun z83 e83 => ?_)
                      have i83 := in_add 1 160 e83 i11 (in_c 1 rfl) rfl rfl
                      refine g_goto 7 (gd rfl) rfl ?_
                      exact gg_w (by omega) (gg_f (gf_cons rfl (gf_cons rfl (gf_cons rfl (gf_cons rfl gf_nil)))) (ih7 s80 z83 hI80 (fr_tr rfl hFc7 hF80) (in_w 0 160 i83 rfl) (m_up mm7 (t_add e83 i11 (in_c 1 rfl) rfl) (in_w 1 1 (in_c 1 rfl) rfl))))
                    · skip
                      refine g_aload_n 56 (gd rfl) rfl rfl ?_
                      refine g_iconst 1 57 (gd rfl) rfl rfl ?_
                      refine g_iload_n 58 (gd rfl) rfl rfl ?_
                      refine g_iconst 0 59 (gd rfl) rfl rfl ?_
                      refine g_iconst 0 60 (gd rfl) rfl rfl ?_
                      refine g_iconst 0 61 (gd rfl) rfl rfl ?_
                      refine g_callv (X := _) (As := [.int (Int32.ofInt 1), .int y7_3, .int (Int32.ofInt 0), .int (Int32.ofInt 0), .int (Int32.ofInt 0)]) (r := []) (b := A 109) (q := 109) 64 (gd rfl) rfl rfl rfl rfl rfl (ww_o rfl) (Nat.le_of_ble_eq_true rfl) (Nat.zero_le _) (Nat.zero_le _) (k_318 (by omega) hIc7 (in_w 1 4 (in_c 1 rfl) rfl) (in_w 0 159 i11 rfl) (in_w 0 159 (in_c 0 rfl) rfl) (in_w 0 159 (in_c 0 rfl) rfl) (in_w 0 159 (in_c 0 rfl) rfl)) (fun e u h => h) (fun v u h => ?_)
                      obtain ⟨s61, hI61, hF61, rfl, rfl⟩ := h
                      show GG _ _ _ _ _ _ _ _ [] _ _ _
                      refine g_goto 83 (gd rfl) rfl ?_
                      refine g_iinc 86 (gd rfl) rfl rfl (Nat.le_of_ble_eq_true rfl) (fun z83 e83 => ?_)
                      have i83 := in_add 1 160 e83 i11 (in_c 1 rfl) rfl rfl
                      refine g_goto 7 (gd rfl) rfl ?_
                      exact gg_w (by omega) (gg_f (gf_cons rfl (gf_cons rfl (gf_cons rfl (gf_cons rfl gf_nil)))) (ih7 s61 z83 hI61 (fr_tr rfl hFc7 hF61) (in_w 0 160 i83 rfl) (m_up mm7 (t_add e83 i11 (in_c 1 rfl) rfl) (in_w 1 1 (in_c 1 rfl) rfl))))
              · skip
                have i30x41x6 := r_eq1 1 1 c30x41x6 i30x41x4 (in_c 1 rfl) rfl
                refine g_iconst 1 10 (gd rfl) rfl rfl ?_
                refine g_goto 14 (gd rfl) rfl ?_
                refine g_ireturn (gd rfl) rfl (nb01 (in_w 0 1 (in_c 1 rfl) rfl)) (hp30x41 _ _ ?_)
                show GG _ _ _ _ _ _ _ _ [.int (Int32.ofInt 1)] _ _ _
                refine g_if_ne 47 51 (gd rfl) rfl rfl (fun c30x44 => ?_) (fun c30x44 => ?_)
                · skip
                  refine g_iconst 0 52 (gd rfl) rfl rfl ?_
                  refine g_ireturn (gd rfl) rfl (nb01 (in_w 0 1 (in_c 0 rfl) rfl)) (hp30 _ _ ?_)
                  show GG _ _ _ _ _ _ _ _ [.int (Int32.ofInt 0)] _ _ _
                  refine g_if_eq 36 83 (gd rfl) rfl rfl (fun c33 => ?_) (fun c33 => ?_)
                  · skip
                    refine g_iinc 86 (gd rfl) rfl rfl (Nat.le_of_ble_eq_true rfl) (fun z83 e83 => ?_)
                    have i83 := in_add 1 160 e83 i11 (in_c 1 rfl) rfl rfl
                    refine g_goto 7 (gd rfl) rfl ?_
                    exact gg_w (by omega) (gg_f (gf_cons rfl (gf_cons rfl (gf_cons rfl (gf_cons rfl gf_nil)))) (ih7 sc7 z83 hIc7 hFc7 (in_w 0 160 i83 rfl) (m_up mm7 (t_add e83 i11 (in_c 1 rfl) rfl) (in_w 1 1 (in_c 1 rfl) rfl))))
                  · skip
                    exact zn_ne c33 (in_c 0 rfl) rfl
                · skip
                  exact zn_eq c30x44 (in_c 1 rfl) rfl
  refine g_enter2 (k := 320) (N := 145801) (by omega) rfl (Nat.le_of_ble_eq_true rfl) ?_
  refine g_aload_n 1 (gd rfl) rfl rfl ?_
  refine g_iconst 0 2 (gd rfl) rfl rfl ?_
  refine g_putI 5 (gd rfl) rfl rfl rfl rfl ?_
  have hI2 := inv_sF (q := 109) (j := 40) hI rfl (in_w 0 2001 (in_c 0 rfl) rfl)
  refine g_iconst 0 6 (gd rfl) rfl rfl ?_
  refine g_istore_n 7 (gd rfl) rfl (Nat.le_of_ble_eq_true rfl) ?_
  exact gg_w (by omega) (gg_f (gf_cons rfl (gf_cons rfl (gf_cons rfl (gf_cons rfl gf_nil)))) (ct7 161 (sF s 109 40 (Int32.ofInt 0)) (Int32.ofInt 0) hI2 (fr_sF rfl fr_rf) (in_w 0 160 (in_c 0 rfl) rfl) (m_in 161 (in_w 0 160 (in_c 0 rfl) rfl) rfl)))

def fm_325 : FM := ([134], [135], [(109, 0), (109, 40)], [])
/-- GraphHouseModel.shorts -/
theorem k_325 {Z : AmZ} {A : Nat → Nat} {s : GS} {ex : va_W} {d : Nat} {X : AmX} {x1 : Int32} {x2 : Int32} (hd : 7 ≤ d) (hI : Inv s)  : GC Z d 325 [.ref (A 109), .int x1, .int x2] (WW Z A s ++ ex) 0 0 (fun v u => ∃ t : GS, Inv t ∧ Fr fm_325 s t ∧ ∃ z : Int32, v = some (.int z) ∧ u = WW Z A t ++ ex ∧ In z (-2) 2000) X := by
  intro post xp hP hX
  obtain ⟨u_109_20, e_109_20⟩ : ∃ w, w = s.2.2.1 109 20 := ⟨_, rfl⟩
  have ro_109_20 := inv_F hI 0 32 rfl e_109_20
  refine g_enter2 (k := 325) (N := 900) (by omega) rfl (Nat.le_of_ble_eq_true rfl) ?_
  refine g_aload_n 1 (gd rfl) rfl rfl ?_
  refine g_aload_n 2 (gd rfl) rfl rfl ?_
  refine g_iload_n 3 (gd rfl) rfl rfl ?_
  refine g_callv (X := _) (As := [.int x1]) (r := [.ref (A 109)]) (b := A 109) (q := 109) 6 (gd rfl) rfl rfl rfl rfl rfl (ww_o rfl) (Nat.le_of_ble_eq_true rfl) (mc := 0) (ms := 0) (Nat.zero_le _) (Nat.zero_le _) (P := fun v u => _) ?_ (fun e u h => h) (fun v u h => h)
  intro po3 xx3 hp3 hx3
  refine g_enter2 (k := 272) (N := 300) (by omega) rfl (Nat.le_of_ble_eq_true rfl) ?_
  refine g_iload_n 1 (gd rfl) rfl rfl ?_
  refine g_if_lt 4 16 (gd rfl) rfl rfl (fun c3x1 => ?_) (fun c3x1 => ?_)
  · skip
    have i3x1 := z_lt (-2147483648) (-1) c3x1 (i_rng x1) rfl
    refine g_iconst 0 17 (gd rfl) rfl rfl ?_
    refine g_ireturn (gd rfl) rfl (nb01 (in_w 0 1 (in_c 0 rfl) rfl)) (hp3 _ _ ?_)
    show GG _ _ _ _ _ _ _ _ [.int (Int32.ofInt 0), .ref (A 109)] _ _ _
    refine g_if_eq 9 26 (gd rfl) rfl rfl (fun c6 => ?_) (fun c6 => ?_)
    · skip
      refine g_iconst 0 27 (gd rfl) rfl rfl ?_
      refine g_callv (X := _) (As := [.int (Int32.ofInt 0)]) (r := []) (b := A 109) (q := 109) 30 (gd rfl) rfl rfl rfl rfl rfl (ww_o rfl) (Nat.le_of_ble_eq_true rfl) (mc := 0) (ms := 0) (Nat.zero_le _) (Nat.zero_le _) (P := fun v u => _) ?_ (fun e u h => h) (fun v u h => h)
      intro po27 xx27 hp27 hx27
      refine g_enter2 (k := 271) (N := 300) (by omega) rfl (Nat.le_of_ble_eq_true rfl) ?_
      refine g_aload_n 1 (gd rfl) rfl rfl ?_
      refine g_iload_n 2 (gd rfl) rfl rfl ?_
      refine g_iconst 1 3 (gd rfl) rfl rfl ?_
      refine g_callv (X := _) (As := [.int (Int32.ofInt 0), .int (Int32.ofInt 1)]) (r := []) (b := A 109) (q := 109) 6 (gd rfl) rfl rfl rfl rfl rfl (ww_o rfl) (Nat.le_of_ble_eq_true rfl) (mc := 0) (ms := 0) (Nat.zero_le _) (Nat.zero_le _) (P := fun v u => _) ?_ (fun e u h => h) (fun v u h => h)
      intro po27x3 xx27x3 hp27x3 hx27x3
      refine g_enter2 (k := 270) (N := 300) (by omega) rfl (Nat.le_of_ble_eq_true rfl) ?_
      refine g_aload_n 1 (gd rfl) rfl rfl ?_
      refine g_iload_n 2 (gd rfl) rfl rfl ?_
      refine g_if_ne 5 9 (gd rfl) rfl rfl (fun c27x3x2 => ?_) (fun c27x3x2 => ?_)
      · skip
        exact zn_ne c27x3x2 (in_c 0 rfl) rfl
      · skip
        refine g_iconst 1 6 (gd rfl) rfl rfl ?_
        refine g_goto 18 (gd rfl) rfl ?_
        refine g_putI 21 (gd rfl) rfl rfl rfl rfl ?_
        have hI27x3x18 := inv_sF (q := 109) (j := 0) hI rfl (in_w 0 2 (in_c 1 rfl) rfl)
        refine g_aload_n 22 (gd rfl) rfl rfl ?_
        refine g_getI 25 (gd rfl) rfl rfl rfl (fun z27x3x22 e27x3x22 => ?_)
        have q27x3x22 : (Int32.ofInt 1) = z27x3x22 := (sF_get).trans e27x3x22.symm
        subst q27x3x22
        refine g_if_le 28 32 (gd rfl) rfl rfl (fun c27x3x25 => ?_) (fun c27x3x25 => ?_)
        · skip
          exact zn_le c27x3x25 (in_c 1 rfl) rfl
        · skip
          refine g_iconst 1 29 (gd rfl) rfl rfl ?_
          refine g_goto 33 (gd rfl) rfl ?_
          refine g_ireturn (gd rfl) rfl (nb01 (in_w 0 1 (in_c 1 rfl) rfl)) (hp27x3 _ _ ?_)
          show GG _ _ _ _ _ _ _ _ [.int (Int32.ofInt 1)] _ _ _
          refine g_ireturn (gd rfl) rfl (nb01 (in_w 0 1 (in_c 1 rfl) rfl)) (hp27 _ _ ?_)
          show GG _ _ _ _ _ _ _ _ [.int (Int32.ofInt 1)] _ _ _
          refine g_if_eq 33 35 (gd rfl) rfl rfl (fun c30 => ?_) (fun c30 => ?_)
          · skip
            exact zn_eq c30 (in_c 1 rfl) rfl
          · skip
            refine g_iconst 0 34 (gd rfl) rfl rfl ?_
            exact g_ireturn (gd rfl) rfl rfl (hP _ _ ⟨(sF s 109 0 (Int32.ofInt 1)), hI27x3x18, (fr_sF rfl fr_rf), (Int32.ofInt 0), rfl, rfl, in_w (-2) 2000 (in_c 0 rfl) rfl⟩)
    · skip
      exact zn_ne c6 (in_c 0 rfl) rfl
  · skip
    have i3x1 := z_ge 0 2147483647 c3x1 (i_rng x1) rfl
    refine g_iload_n 5 (gd rfl) rfl rfl ?_
    refine g_aload_n 6 (gd rfl) rfl rfl ?_
    refine g_getI 9 (gd rfl) rfl rfl rfl (fun z3x6 e3x6 => ?_)
    have q3x6 : u_109_20 = z3x6 := (e_109_20).trans e3x6.symm
    subst q3x6
    refine g_cmp_ge 12 16 (gd rfl) rfl rfl (fun c3x9 => ?_) (fun c3x9 => ?_)
    · skip
      refine g_iconst 0 17 (gd rfl) rfl rfl ?_
      refine g_ireturn (gd rfl) rfl (nb01 (in_w 0 1 (in_c 0 rfl) rfl)) (hp3 _ _ ?_)
      show GG _ _ _ _ _ _ _ _ [.int (Int32.ofInt 0), .ref (A 109)] _ _ _
      refine g_if_eq 9 26 (gd rfl) rfl rfl (fun c6 => ?_) (fun c6 => ?_)
      · skip
        refine g_iconst 0 27 (gd rfl) rfl rfl ?_
        refine g_callv (X := _) (As := [.int (Int32.ofInt 0)]) (r := []) (b := A 109) (q := 109) 30 (gd rfl) rfl rfl rfl rfl rfl (ww_o rfl) (Nat.le_of_ble_eq_true rfl) (mc := 0) (ms := 0) (Nat.zero_le _) (Nat.zero_le _) (P := fun v u => _) ?_ (fun e u h => h) (fun v u h => h)
        intro po27 xx27 hp27 hx27
        refine g_enter2 (k := 271) (N := 300) (by omega) rfl (Nat.le_of_ble_eq_true rfl) ?_
        refine g_aload_n 1 (gd rfl) rfl rfl ?_
        refine g_iload_n 2 (gd rfl) rfl rfl ?_
        refine g_iconst 1 3 (gd rfl) rfl rfl ?_
        refine g_callv (X := _) (As := [.int (Int32.ofInt 0), .int (Int32.ofInt 1)]) (r := []) (b := A 109) (q := 109) 6 (gd rfl) rfl rfl rfl rfl rfl (ww_o rfl) (Nat.le_of_ble_eq_true rfl) (mc := 0) (ms := 0) (Nat.zero_le _) (Nat.zero_le _) (P := fun v u => _) ?_ (fun e u h => h) (fun v u h => h)
        intro po27x3 xx27x3 hp27x3 hx27x3
        refine g_enter2 (k := 270) (N := 300) (by omega) rfl (Nat.le_of_ble_eq_true rfl) ?_
        refine g_aload_n 1 (gd rfl) rfl rfl ?_
        refine g_iload_n 2 (gd rfl) rfl rfl ?_
        refine g_if_ne 5 9 (gd rfl) rfl rfl (fun c27x3x2 => ?_) (fun c27x3x2 => ?_)
        · skip
          exact zn_ne c27x3x2 (in_c 0 rfl) rfl
        · skip
          refine g_iconst 1 6 (gd rfl) rfl rfl ?_
          refine g_goto 18 (gd rfl) rfl ?_
          refine g_putI 21 (gd rfl) rfl rfl rfl rfl ?_
          have hI27x3x18 := inv_sF (q := 109) (j := 0) hI rfl (in_w 0 2 (in_c 1 rfl) rfl)
          refine g_aload_n 22 (gd rfl) rfl rfl ?_
          refine g_getI 25 (gd rfl) rfl rfl rfl (fun z27x3x22 e27x3x22 => ?_)
          have q27x3x22 : (Int32.ofInt 1) = z27x3x22 := (sF_get).trans e27x3x22.symm
          subst q27x3x22
          refine g_if_le 28 32 (gd rfl) rfl rfl (fun c27x3x25 => ?_) (fun c27x3x25 => ?_)
          · skip
            exact zn_le c27x3x25 (in_c 1 rfl) rfl
          · skip
            refine g_iconst 1 29 (gd rfl) rfl rfl ?_
            refine g_goto 33 (gd rfl) rfl ?_
            refine g_ireturn (gd rfl) rfl (nb01 (in_w 0 1 (in_c 1 rfl) rfl)) (hp27x3 _ _ ?_)
            show GG _ _ _ _ _ _ _ _ [.int (Int32.ofInt 1)] _ _ _
            refine g_ireturn (gd rfl) rfl (nb01 (in_w 0 1 (in_c 1 rfl) rfl)) (hp27 _ _ ?_)
            show GG _ _ _ _ _ _ _ _ [.int (Int32.ofInt 1)] _ _ _
            refine g_if_eq 33 35 (gd rfl) rfl rfl (fun c30 => ?_) (fun c30 => ?_)
            · skip
              exact zn_eq c30 (in_c 1 rfl) rfl
            · skip
              refine g_iconst 0 34 (gd rfl) rfl rfl ?_
              exact g_ireturn (gd rfl) rfl rfl (hP _ _ ⟨(sF s 109 0 (Int32.ofInt 1)), hI27x3x18, (fr_sF rfl fr_rf), (Int32.ofInt 0), rfl, rfl, in_w (-2) 2000 (in_c 0 rfl) rfl⟩)
      · skip
        exact zn_ne c6 (in_c 0 rfl) rfl
    · skip
      have i3x9 := r_lt1 0 31 c3x9 i3x1 ro_109_20 rfl
      have i3x9a := r_lt2 1 32 c3x9 i3x1 ro_109_20 rfl
      refine g_iconst 1 13 (gd rfl) rfl rfl ?_
      refine g_goto 17 (gd rfl) rfl ?_
      refine g_ireturn (gd rfl) rfl (nb01 (in_w 0 1 (in_c 1 rfl) rfl)) (hp3 _ _ ?_)
      show GG _ _ _ _ _ _ _ _ [.int (Int32.ofInt 1), .ref (A 109)] _ _ _
      refine g_if_eq 9 26 (gd rfl) rfl rfl (fun c6 => ?_) (fun c6 => ?_)
      · skip
        exact zn_eq c6 (in_c 1 rfl) rfl
      · skip
        refine g_aload_n 10 (gd rfl) rfl rfl ?_
        refine g_iload_n 11 (gd rfl) rfl rfl ?_
        refine g_callv (X := _) (As := [.int x2]) (r := [.ref (A 109)]) (b := A 109) (q := 109) 14 (gd rfl) rfl rfl rfl rfl rfl (ww_o rfl) (Nat.le_of_ble_eq_true rfl) (mc := 0) (ms := 0) (Nat.zero_le _) (Nat.zero_le _) (P := fun v u => _) ?_ (fun e u h => h) (fun v u h => h)
        intro po11 xx11 hp11 hx11
        refine g_enter2 (k := 272) (N := 300) (by omega) rfl (Nat.le_of_ble_eq_true rfl) ?_
        refine g_iload_n 1 (gd rfl) rfl rfl ?_
        refine g_if_lt 4 16 (gd rfl) rfl rfl (fun c11x1 => ?_) (fun c11x1 => ?_)
        · skip
          have i11x1 := z_lt (-2147483648) (-1) c11x1 (i_rng x2) rfl
          refine g_iconst 0 17 (gd rfl) rfl rfl ?_
          refine g_ireturn (gd rfl) rfl (nb01 (in_w 0 1 (in_c 0 rfl) rfl)) (hp11 _ _ ?_)
          show GG _ _ _ _ _ _ _ _ [.int (Int32.ofInt 0), .ref (A 109)] _ _ _
          refine g_if_eq 17 26 (gd rfl) rfl rfl (fun c14 => ?_) (fun c14 => ?_)
          · skip
            refine g_iconst 0 27 (gd rfl) rfl rfl ?_
            refine g_callv (X := _) (As := [.int (Int32.ofInt 0)]) (r := []) (b := A 109) (q := 109) 30 (gd rfl) rfl rfl rfl rfl rfl (ww_o rfl) (Nat.le_of_ble_eq_true rfl) (mc := 0) (ms := 0) (Nat.zero_le _) (Nat.zero_le _) (P := fun v u => _) ?_ (fun e u h => h) (fun v u h => h)
            intro po27 xx27 hp27 hx27
            refine g_enter2 (k := 271) (N := 300) (by omega) rfl (Nat.le_of_ble_eq_true rfl) ?_
            refine g_aload_n 1 (gd rfl) rfl rfl ?_
            refine g_iload_n 2 (gd rfl) rfl rfl ?_
            refine g_iconst 1 3 (gd rfl) rfl rfl ?_
            refine g_callv (X := _) (As := [.int (Int32.ofInt 0), .int (Int32.ofInt 1)]) (r := []) (b := A 109) (q := 109) 6 (gd rfl) rfl rfl rfl rfl rfl (ww_o rfl) (Nat.le_of_ble_eq_true rfl) (mc := 0) (ms := 0) (Nat.zero_le _) (Nat.zero_le _) (P := fun v u => _) ?_ (fun e u h => h) (fun v u h => h)
            intro po27x3 xx27x3 hp27x3 hx27x3
            refine g_enter2 (k := 270) (N := 300) (by omega) rfl (Nat.le_of_ble_eq_true rfl) ?_
            refine g_aload_n 1 (gd rfl) rfl rfl ?_
            refine g_iload_n 2 (gd rfl) rfl rfl ?_
            refine g_if_ne 5 9 (gd rfl) rfl rfl (fun c27x3x2 => ?_) (fun c27x3x2 => ?_)
            · skip
              exact zn_ne c27x3x2 (in_c 0 rfl) rfl
            · skip
              refine g_iconst 1 6 (gd rfl) rfl rfl ?_
              refine g_goto 18 (gd rfl) rfl ?_
              refine g_putI 21 (gd rfl) rfl rfl rfl rfl ?_
              have hI27x3x18 := inv_sF (q := 109) (j := 0) hI rfl (in_w 0 2 (in_c 1 rfl) rfl)
              refine g_aload_n 22 (gd rfl) rfl rfl ?_
              refine g_getI 25 (gd rfl) rfl rfl rfl (fun z27x3x22 e27x3x22 => ?_)
              have q27x3x22 : (Int32.ofInt 1) = z27x3x22 := (sF_get).trans e27x3x22.symm
              subst q27x3x22
              refine g_if_le 28 32 (gd rfl) rfl rfl (fun c27x3x25 => ?_) (fun c27x3x25 => ?_)
              · skip
                exact zn_le c27x3x25 (in_c 1 rfl) rfl
              · skip
                refine g_iconst 1 29 (gd rfl) rfl rfl ?_
                refine g_goto 33 (gd rfl) rfl ?_
                refine g_ireturn (gd rfl) rfl (nb01 (in_w 0 1 (in_c 1 rfl) rfl)) (hp27x3 _ _ ?_)
                show GG _ _ _ _ _ _ _ _ [.int (Int32.ofInt 1)] _ _ _
                refine g_ireturn (gd rfl) rfl (nb01 (in_w 0 1 (in_c 1 rfl) rfl)) (hp27 _ _ ?_)
                show GG _ _ _ _ _ _ _ _ [.int (Int32.ofInt 1)] _ _ _
                refine g_if_eq 33 35 (gd rfl) rfl rfl (fun c30 => ?_) (fun c30 => ?_)
                · skip
                  exact zn_eq c30 (in_c 1 rfl) rfl
                · skip
                  refine g_iconst 0 34 (gd rfl) rfl rfl ?_
                  exact g_ireturn (gd rfl) rfl rfl (hP _ _ ⟨(sF s 109 0 (Int32.ofInt 1)), hI27x3x18, (fr_sF rfl fr_rf), (Int32.ofInt 0), rfl, rfl, in_w (-2) 2000 (in_c 0 rfl) rfl⟩)
          · skip
            exact zn_ne c14 (in_c 0 rfl) rfl
        · skip
          have i11x1 := z_ge 0 2147483647 c11x1 (i_rng x2) rfl
          refine g_iload_n 5 (gd rfl) rfl rfl ?_
          refine g_aload_n 6 (gd rfl) rfl rfl ?_
          refine g_getI 9 (gd rfl) rfl rfl rfl (fun z11x6 e11x6 => ?_)
          have q11x6 : u_109_20 = z11x6 := (e_109_20).trans e11x6.symm
          subst q11x6
          refine g_cmp_ge 12 16 (gd rfl) rfl rfl (fun c11x9 => ?_) (fun c11x9 => ?_)
          · skip
            have i11x9 := r_le2 1 2147483647 c11x9 i3x9a i11x1 rfl
            refine g_iconst 0 17 (gd rfl) rfl rfl ?_
            refine g_ireturn (gd rfl) rfl (nb01 (in_w 0 1 (in_c 0 rfl) rfl)) (hp11 _ _ ?_)
            show GG _ _ _ _ _ _ _ _ [.int (Int32.ofInt 0), .ref (A 109)] _ _ _
            refine g_if_eq 17 26 (gd rfl) rfl rfl (fun c14 => ?_) (fun c14 => ?_)
            · skip
              refine g_iconst 0 27 (gd rfl) rfl rfl ?_
              refine g_callv (X := _) (As := [.int (Int32.ofInt 0)]) (r := []) (b := A 109) (q := 109) 30 (gd rfl) rfl rfl rfl rfl rfl (ww_o rfl) (Nat.le_of_ble_eq_true rfl) (mc := 0) (ms := 0) (Nat.zero_le _) (Nat.zero_le _) (P := fun v u => _) ?_ (fun e u h => h) (fun v u h => h)
              intro po27 xx27 hp27 hx27
              refine g_enter2 (k := 271) (N := 300) (by omega) rfl (Nat.le_of_ble_eq_true rfl) ?_
              refine g_aload_n 1 (gd rfl) rfl rfl ?_
              refine g_iload_n 2 (gd rfl) rfl rfl ?_
              refine g_iconst 1 3 (gd rfl) rfl rfl ?_
              refine g_callv (X := _) (As := [.int (Int32.ofInt 0), .int (Int32.ofInt 1)]) (r := []) (b := A 109) (q := 109) 6 (gd rfl) rfl rfl rfl rfl rfl (ww_o rfl) (Nat.le_of_ble_eq_true rfl) (mc := 0) (ms := 0) (Nat.zero_le _) (Nat.zero_le _) (P := fun v u => _) ?_ (fun e u h => h) (fun v u h => h)
              intro po27x3 xx27x3 hp27x3 hx27x3
              refine g_enter2 (k := 270) (N := 300) (by omega) rfl (Nat.le_of_ble_eq_true rfl) ?_
              refine g_aload_n 1 (gd rfl) rfl rfl ?_
              refine g_iload_n 2 (gd rfl) rfl rfl ?_
              refine g_if_ne 5 9 (gd rfl) rfl rfl (fun c27x3x2 => ?_) (fun c27x3x2 => ?_)
              · skip
                exact zn_ne c27x3x2 (in_c 0 rfl) rfl
              · skip
                refine g_iconst 1 6 (gd rfl) rfl rfl ?_
                refine g_goto 18 (gd rfl) rfl ?_
                refine g_putI 21 (gd rfl) rfl rfl rfl rfl ?_
                have hI27x3x18 := inv_sF (q := 109) (j := 0) hI rfl (in_w 0 2 (in_c 1 rfl) rfl)
                refine g_aload_n 22 (gd rfl) rfl rfl ?_
                refine g_getI 25 (gd rfl) rfl rfl rfl (fun z27x3x22 e27x3x22 => ?_)
                have q27x3x22 : (Int32.ofInt 1) = z27x3x22 := (sF_get).trans e27x3x22.symm
                subst q27x3x22
                refine g_if_le 28 32 (gd rfl) rfl rfl (fun c27x3x25 => ?_) (fun c27x3x25 => ?_)
                · skip
                  exact zn_le c27x3x25 (in_c 1 rfl) rfl
                · skip
                  refine g_iconst 1 29 (gd rfl) rfl rfl ?_
                  refine g_goto 33 (gd rfl) rfl ?_
                  refine g_ireturn (gd rfl) rfl (nb01 (in_w 0 1 (in_c 1 rfl) rfl)) (hp27x3 _ _ ?_)
                  show GG _ _ _ _ _ _ _ _ [.int (Int32.ofInt 1)] _ _ _
                  refine g_ireturn (gd rfl) rfl (nb01 (in_w 0 1 (in_c 1 rfl) rfl)) (hp27 _ _ ?_)
                  show GG _ _ _ _ _ _ _ _ [.int (Int32.ofInt 1)] _ _ _
                  refine g_if_eq 33 35 (gd rfl) rfl rfl (fun c30 => ?_) (fun c30 => ?_)
                  · skip
                    exact zn_eq c30 (in_c 1 rfl) rfl
                  · skip
                    refine g_iconst 0 34 (gd rfl) rfl rfl ?_
                    exact g_ireturn (gd rfl) rfl rfl (hP _ _ ⟨(sF s 109 0 (Int32.ofInt 1)), hI27x3x18, (fr_sF rfl fr_rf), (Int32.ofInt 0), rfl, rfl, in_w (-2) 2000 (in_c 0 rfl) rfl⟩)
            · skip
              exact zn_ne c14 (in_c 0 rfl) rfl
          · skip
            have i11x9 := r_lt1 0 31 c11x9 i11x1 i3x9a rfl
            refine g_iconst 1 13 (gd rfl) rfl rfl ?_
            refine g_goto 17 (gd rfl) rfl ?_
            refine g_ireturn (gd rfl) rfl (nb01 (in_w 0 1 (in_c 1 rfl) rfl)) (hp11 _ _ ?_)
            show GG _ _ _ _ _ _ _ _ [.int (Int32.ofInt 1), .ref (A 109)] _ _ _
            refine g_if_eq 17 26 (gd rfl) rfl rfl (fun c14 => ?_) (fun c14 => ?_)
            · skip
              exact zn_eq c14 (in_c 1 rfl) rfl
            · skip
              refine g_iload_n 18 (gd rfl) rfl rfl ?_
              refine g_iload_n 19 (gd rfl) rfl rfl ?_
              refine g_cmp_eq 22 26 (gd rfl) rfl rfl (fun c19 => ?_) (fun c19 => ?_)
              · skip
                refine g_iconst 0 27 (gd rfl) rfl rfl ?_
                refine g_callv (X := _) (As := [.int (Int32.ofInt 0)]) (r := []) (b := A 109) (q := 109) 30 (gd rfl) rfl rfl rfl rfl rfl (ww_o rfl) (Nat.le_of_ble_eq_true rfl) (mc := 0) (ms := 0) (Nat.zero_le _) (Nat.zero_le _) (P := fun v u => _) ?_ (fun e u h => h) (fun v u h => h)
                intro po27 xx27 hp27 hx27
                refine g_enter2 (k := 271) (N := 300) (by omega) rfl (Nat.le_of_ble_eq_true rfl) ?_
                refine g_aload_n 1 (gd rfl) rfl rfl ?_
                refine g_iload_n 2 (gd rfl) rfl rfl ?_
                refine g_iconst 1 3 (gd rfl) rfl rfl ?_
                refine g_callv (X := _) (As := [.int (Int32.ofInt 0), .int (Int32.ofInt 1)]) (r := []) (b := A 109) (q := 109) 6 (gd rfl) rfl rfl rfl rfl rfl (ww_o rfl) (Nat.le_of_ble_eq_true rfl) (mc := 0) (ms := 0) (Nat.zero_le _) (Nat.zero_le _) (P := fun v u => _) ?_ (fun e u h => h) (fun v u h => h)
                intro po27x3 xx27x3 hp27x3 hx27x3
                refine g_enter2 (k := 270) (N := 300) (by omega) rfl (Nat.le_of_ble_eq_true rfl) ?_
                refine g_aload_n 1 (gd rfl) rfl rfl ?_
                refine g_iload_n 2 (gd rfl) rfl rfl ?_
                refine g_if_ne 5 9 (gd rfl) rfl rfl (fun c27x3x2 => ?_) (fun c27x3x2 => ?_)
                · skip
                  exact zn_ne c27x3x2 (in_c 0 rfl) rfl
                · skip
                  refine g_iconst 1 6 (gd rfl) rfl rfl ?_
                  refine g_goto 18 (gd rfl) rfl ?_
                  refine g_putI 21 (gd rfl) rfl rfl rfl rfl ?_
                  have hI27x3x18 := inv_sF (q := 109) (j := 0) hI rfl (in_w 0 2 (in_c 1 rfl) rfl)
                  refine g_aload_n 22 (gd rfl) rfl rfl ?_
                  refine g_getI 25 (gd rfl) rfl rfl rfl (fun z27x3x22 e27x3x22 => ?_)
                  have q27x3x22 : (Int32.ofInt 1) = z27x3x22 := (sF_get).trans e27x3x22.symm
                  subst q27x3x22
                  refine g_if_le 28 32 (gd rfl) rfl rfl (fun c27x3x25 => ?_) (fun c27x3x25 => ?_)
                  · skip
                    exact zn_le c27x3x25 (in_c 1 rfl) rfl
                  · skip
                    refine g_iconst 1 29 (gd rfl) rfl rfl ?_
                    refine g_goto 33 (gd rfl) rfl ?_
                    refine g_ireturn (gd rfl) rfl (nb01 (in_w 0 1 (in_c 1 rfl) rfl)) (hp27x3 _ _ ?_)
                    show GG _ _ _ _ _ _ _ _ [.int (Int32.ofInt 1)] _ _ _
                    refine g_ireturn (gd rfl) rfl (nb01 (in_w 0 1 (in_c 1 rfl) rfl)) (hp27 _ _ ?_)
                    show GG _ _ _ _ _ _ _ _ [.int (Int32.ofInt 1)] _ _ _
                    refine g_if_eq 33 35 (gd rfl) rfl rfl (fun c30 => ?_) (fun c30 => ?_)
                    · skip
                      exact zn_eq c30 (in_c 1 rfl) rfl
                    · skip
                      refine g_iconst 0 34 (gd rfl) rfl rfl ?_
                      exact g_ireturn (gd rfl) rfl rfl (hP _ _ ⟨(sF s 109 0 (Int32.ofInt 1)), hI27x3x18, (fr_sF rfl fr_rf), (Int32.ofInt 0), rfl, rfl, in_w (-2) 2000 (in_c 0 rfl) rfl⟩)
              · skip
                refine g_iconst 1 23 (gd rfl) rfl rfl ?_
                refine g_goto 27 (gd rfl) rfl ?_
                refine g_callv (X := _) (As := [.int (Int32.ofInt 1)]) (r := []) (b := A 109) (q := 109) 30 (gd rfl) rfl rfl rfl rfl rfl (ww_o rfl) (Nat.le_of_ble_eq_true rfl) (mc := 0) (ms := 0) (Nat.zero_le _) (Nat.zero_le _) (P := fun v u => _) ?_ (fun e u h => h) (fun v u h => h)
                intro po27 xx27 hp27 hx27
                refine g_enter2 (k := 271) (N := 300) (by omega) rfl (Nat.le_of_ble_eq_true rfl) ?_
                refine g_aload_n 1 (gd rfl) rfl rfl ?_
                refine g_iload_n 2 (gd rfl) rfl rfl ?_
                refine g_iconst 1 3 (gd rfl) rfl rfl ?_
                refine g_callv (X := _) (As := [.int (Int32.ofInt 1), .int (Int32.ofInt 1)]) (r := []) (b := A 109) (q := 109) 6 (gd rfl) rfl rfl rfl rfl rfl (ww_o rfl) (Nat.le_of_ble_eq_true rfl) (mc := 0) (ms := 0) (Nat.zero_le _) (Nat.zero_le _) (P := fun v u => _) ?_ (fun e u h => h) (fun v u h => h)
                intro po27x3 xx27x3 hp27x3 hx27x3
                refine g_enter2 (k := 270) (N := 300) (by omega) rfl (Nat.le_of_ble_eq_true rfl) ?_
                refine g_aload_n 1 (gd rfl) rfl rfl ?_
                refine g_iload_n 2 (gd rfl) rfl rfl ?_
                refine g_if_ne 5 9 (gd rfl) rfl rfl (fun c27x3x2 => ?_) (fun c27x3x2 => ?_)
                · skip
                  refine g_iload_n 10 (gd rfl) rfl rfl ?_
                  refine g_if_ne 13 17 (gd rfl) rfl rfl (fun c27x3x10 => ?_) (fun c27x3x10 => ?_)
                  · skip
                    refine g_iconst 0 18 (gd rfl) rfl rfl ?_
                    refine g_putI 21 (gd rfl) rfl rfl rfl rfl ?_
                    have hI27x3x18 := inv_sF (q := 109) (j := 0) hI rfl (in_w 0 2 (in_c 0 rfl) rfl)
                    refine g_aload_n 22 (gd rfl) rfl rfl ?_
                    refine g_getI 25 (gd rfl) rfl rfl rfl (fun z27x3x22 e27x3x22 => ?_)
                    have q27x3x22 : (Int32.ofInt 0) = z27x3x22 := (sF_get).trans e27x3x22.symm
                    subst q27x3x22
                    refine g_if_le 28 32 (gd rfl) rfl rfl (fun c27x3x25 => ?_) (fun c27x3x25 => ?_)
                    · skip
                      refine g_iconst 0 33 (gd rfl) rfl rfl ?_
                      refine g_ireturn (gd rfl) rfl (nb01 (in_w 0 1 (in_c 0 rfl) rfl)) (hp27x3 _ _ ?_)
                      show GG _ _ _ _ _ _ _ _ [.int (Int32.ofInt 0)] _ _ _
                      refine g_ireturn (gd rfl) rfl (nb01 (in_w 0 1 (in_c 0 rfl) rfl)) (hp27 _ _ ?_)
                      show GG _ _ _ _ _ _ _ _ [.int (Int32.ofInt 0)] _ _ _
                      refine g_if_eq 33 35 (gd rfl) rfl rfl (fun c30 => ?_) (fun c30 => ?_)
                      · skip
                        refine g_aload_n 36 (gd rfl) rfl rfl ?_
                        refine g_iload_n 37 (gd rfl) rfl rfl ?_
                        refine g_iload_n 38 (gd rfl) rfl rfl ?_
                        refine g_callv (X := _) (As := [.int x1, .int x2]) (r := []) (b := A 109) (q := 109) 41 (gd rfl) rfl rfl rfl rfl rfl (ww_o rfl) (Nat.le_of_ble_eq_true rfl) (Nat.zero_le _) (Nat.zero_le _) (k_320 (by omega) hI27x3x18 (in_w 0 31 i3x9 rfl) (in_w 0 31 i11x9 rfl)) (fun e u h => h) (fun v u h => ?_)
                        obtain ⟨s38, hI38, hF38, rfl, rfl⟩ := h
                        show GG _ _ _ _ _ _ _ _ [] _ _ _
                        refine g_aload_n 42 (gd rfl) rfl rfl ?_
                        refine g_getI 45 (gd rfl) rfl rfl rfl (fun z42 e42 => ?_)
                        have i42 := inv_F hI38 0 2001 rfl e42
                        refine g_sipush 2000 48 (gd rfl) rfl rfl ?_
                        refine g_cmp_le 51 56 (gd rfl) rfl rfl (fun c48 => ?_) (fun c48 => ?_)
                        · skip
                          have i48 := r_le1 0 2000 c48 i42 (in_c 2000 rfl) rfl
                          refine g_aload_n 57 (gd rfl) rfl rfl ?_
                          refine g_getI 60 (gd rfl) rfl rfl rfl (fun z57 e57 => ?_)
                          have q57 : z42 = z57 := (e42).trans e57.symm
                          subst q57
                          exact g_ireturn (gd rfl) rfl rfl (hP _ _ ⟨s38, hI38, (fr_tr rfl (fr_sF rfl fr_rf) hF38), z42, rfl, rfl, in_w (-2) 2000 i48 rfl⟩)
                        · skip
                          have i48 := r_lt2 2001 2001 c48 (in_c 2000 rfl) i42 rfl
                          refine g_bipush (-2) 53 (gd rfl) rfl rfl ?_
                          refine g_goto 60 (gd rfl) rfl ?_
                          exact g_ireturn (gd rfl) rfl rfl (hP _ _ ⟨s38, hI38, (fr_tr rfl (fr_sF rfl fr_rf) hF38), (Int32.ofInt (-2)), rfl, rfl, in_w (-2) 2000 (in_c (-2) rfl) rfl⟩)
                      · skip
                        exact zn_ne c30 (in_c 0 rfl) rfl
                    · skip
                      exact zn_gt c27x3x25 (in_c 0 rfl) rfl
                  · skip
                    exact zn_eq c27x3x10 (in_c 1 rfl) rfl
                · skip
                  exact zn_eq c27x3x2 (in_c 1 rfl) rfl

def fm_326 : FM := ([134, 136, 137], [135], [(109, 0), (109, 40)], [])
/-- GraphHouseModel.shortArc -/
theorem k_326 {Z : AmZ} {A : Nat → Nat} {s : GS} {ex : va_W} {d : Nat} {X : AmX} {x1 : Int32} {x2 : Int32} {x3 : Int32} {x4 : Int32} (hd : 7 ≤ d) (hI : Inv s)  : GC Z d 326 [.ref (A 109), .int x1, .int x2, .int x3, .int x4] (WW Z A s ++ ex) 0 0 (fun v u => ∃ t : GS, Inv t ∧ Fr fm_326 s t ∧ ∃ z : Int32, v = some (.int z) ∧ u = WW Z A t ++ ex ∧ In z (-1) 159) X := by
  intro post xp hP hX
  obtain ⟨u_109_20, e_109_20⟩ : ∃ w, w = s.2.2.1 109 20 := ⟨_, rfl⟩
  have ro_109_20 := inv_F hI 0 32 rfl e_109_20
  refine g_enter2 (k := 326) (N := 900) (by omega) rfl (Nat.le_of_ble_eq_true rfl) ?_
  refine g_aload_n 1 (gd rfl) rfl rfl ?_
  refine g_aload_n 2 (gd rfl) rfl rfl ?_
  refine g_iload_n 3 (gd rfl) rfl rfl ?_
  refine g_callv (X := _) (As := [.int x1]) (r := [.ref (A 109)]) (b := A 109) (q := 109) 6 (gd rfl) rfl rfl rfl rfl rfl (ww_o rfl) (Nat.le_of_ble_eq_true rfl) (mc := 0) (ms := 0) (Nat.zero_le _) (Nat.zero_le _) (P := fun v u => _) ?_ (fun e u h => h) (fun v u h => h)
  intro po3 xx3 hp3 hx3
  refine g_enter2 (k := 272) (N := 300) (by omega) rfl (Nat.le_of_ble_eq_true rfl) ?_
  refine g_iload_n 1 (gd rfl) rfl rfl ?_
  refine g_if_lt 4 16 (gd rfl) rfl rfl (fun c3x1 => ?_) (fun c3x1 => ?_)
  · skip
    have i3x1 := z_lt (-2147483648) (-1) c3x1 (i_rng x1) rfl
    refine g_iconst 0 17 (gd rfl) rfl rfl ?_
    refine g_ireturn (gd rfl) rfl (nb01 (in_w 0 1 (in_c 0 rfl) rfl)) (hp3 _ _ ?_)
    show GG _ _ _ _ _ _ _ _ [.int (Int32.ofInt 0), .ref (A 109)] _ _ _
    refine g_if_eq 9 35 (gd rfl) rfl rfl (fun c6 => ?_) (fun c6 => ?_)
    · skip
      refine g_iconst 0 36 (gd rfl) rfl rfl ?_
      refine g_callv (X := _) (As := [.int (Int32.ofInt 0)]) (r := []) (b := A 109) (q := 109) 39 (gd rfl) rfl rfl rfl rfl rfl (ww_o rfl) (Nat.le_of_ble_eq_true rfl) (mc := 0) (ms := 0) (Nat.zero_le _) (Nat.zero_le _) (P := fun v u => _) ?_ (fun e u h => h) (fun v u h => h)
      intro po36 xx36 hp36 hx36
      refine g_enter2 (k := 271) (N := 300) (by omega) rfl (Nat.le_of_ble_eq_true rfl) ?_
      refine g_aload_n 1 (gd rfl) rfl rfl ?_
      refine g_iload_n 2 (gd rfl) rfl rfl ?_
      refine g_iconst 1 3 (gd rfl) rfl rfl ?_
      refine g_callv (X := _) (As := [.int (Int32.ofInt 0), .int (Int32.ofInt 1)]) (r := []) (b := A 109) (q := 109) 6 (gd rfl) rfl rfl rfl rfl rfl (ww_o rfl) (Nat.le_of_ble_eq_true rfl) (mc := 0) (ms := 0) (Nat.zero_le _) (Nat.zero_le _) (P := fun v u => _) ?_ (fun e u h => h) (fun v u h => h)
      intro po36x3 xx36x3 hp36x3 hx36x3
      refine g_enter2 (k := 270) (N := 300) (by omega) rfl (Nat.le_of_ble_eq_true rfl) ?_
      refine g_aload_n 1 (gd rfl) rfl rfl ?_
      refine g_iload_n 2 (gd rfl) rfl rfl ?_
      refine g_if_ne 5 9 (gd rfl) rfl rfl (fun c36x3x2 => ?_) (fun c36x3x2 => ?_)
      · skip
        exact zn_ne c36x3x2 (in_c 0 rfl) rfl
      · skip
        refine g_iconst 1 6 (gd rfl) rfl rfl ?_
        refine g_goto 18 (gd rfl) rfl ?_
        refine g_putI 21 (gd rfl) rfl rfl rfl rfl ?_
        have hI36x3x18 := inv_sF (q := 109) (j := 0) hI rfl (in_w 0 2 (in_c 1 rfl) rfl)
        refine g_aload_n 22 (gd rfl) rfl rfl ?_
        refine g_getI 25 (gd rfl) rfl rfl rfl (fun z36x3x22 e36x3x22 => ?_)
        have q36x3x22 : (Int32.ofInt 1) = z36x3x22 := (sF_get).trans e36x3x22.symm
        subst q36x3x22
        refine g_if_le 28 32 (gd rfl) rfl rfl (fun c36x3x25 => ?_) (fun c36x3x25 => ?_)
        · skip
          exact zn_le c36x3x25 (in_c 1 rfl) rfl
        · skip
          refine g_iconst 1 29 (gd rfl) rfl rfl ?_
          refine g_goto 33 (gd rfl) rfl ?_
          refine g_ireturn (gd rfl) rfl (nb01 (in_w 0 1 (in_c 1 rfl) rfl)) (hp36x3 _ _ ?_)
          show GG _ _ _ _ _ _ _ _ [.int (Int32.ofInt 1)] _ _ _
          refine g_ireturn (gd rfl) rfl (nb01 (in_w 0 1 (in_c 1 rfl) rfl)) (hp36 _ _ ?_)
          show GG _ _ _ _ _ _ _ _ [.int (Int32.ofInt 1)] _ _ _
          refine g_if_eq 42 44 (gd rfl) rfl rfl (fun c39 => ?_) (fun c39 => ?_)
          · skip
            exact zn_eq c39 (in_c 1 rfl) rfl
          · skip
            refine g_iconst 0 43 (gd rfl) rfl rfl ?_
            exact g_ireturn (gd rfl) rfl rfl (hP _ _ ⟨(sF s 109 0 (Int32.ofInt 1)), hI36x3x18, (fr_sF rfl fr_rf), (Int32.ofInt 0), rfl, rfl, in_w (-1) 159 (in_c 0 rfl) rfl⟩)
    · skip
      exact zn_ne c6 (in_c 0 rfl) rfl
  · skip
    have i3x1 := z_ge 0 2147483647 c3x1 (i_rng x1) rfl
    refine g_iload_n 5 (gd rfl) rfl rfl ?_
    refine g_aload_n 6 (gd rfl) rfl rfl ?_
    refine g_getI 9 (gd rfl) rfl rfl rfl (fun z3x6 e3x6 => ?_)
    have q3x6 : u_109_20 = z3x6 := (e_109_20).trans e3x6.symm
    subst q3x6
    refine g_cmp_ge 12 16 (gd rfl) rfl rfl (fun c3x9 => ?_) (fun c3x9 => ?_)
    · skip
      refine g_iconst 0 17 (gd rfl) rfl rfl ?_
      refine g_ireturn (gd rfl) rfl (nb01 (in_w 0 1 (in_c 0 rfl) rfl)) (hp3 _ _ ?_)
      show GG _ _ _ _ _ _ _ _ [.int (Int32.ofInt 0), .ref (A 109)] _ _ _
      refine g_if_eq 9 35 (gd rfl) rfl rfl (fun c6 => ?_) (fun c6 => ?_)
      · skip
        refine g_iconst 0 36 (gd rfl) rfl rfl ?_
        refine g_callv (X := _) (As := [.int (Int32.ofInt 0)]) (r := []) (b := A 109) (q := 109) 39 (gd rfl) rfl rfl rfl rfl rfl (ww_o rfl) (Nat.le_of_ble_eq_true rfl) (mc := 0) (ms := 0) (Nat.zero_le _) (Nat.zero_le _) (P := fun v u => _) ?_ (fun e u h => h) (fun v u h => h)
        intro po36 xx36 hp36 hx36
        refine g_enter2 (k := 271) (N := 300) (by omega) rfl (Nat.le_of_ble_eq_true rfl) ?_
        refine g_aload_n 1 (gd rfl) rfl rfl ?_
        refine g_iload_n 2 (gd rfl) rfl rfl ?_
        refine g_iconst 1 3 (gd rfl) rfl rfl ?_
        refine g_callv (X := _) (As := [.int (Int32.ofInt 0), .int (Int32.ofInt 1)]) (r := []) (b := A 109) (q := 109) 6 (gd rfl) rfl rfl rfl rfl rfl (ww_o rfl) (Nat.le_of_ble_eq_true rfl) (mc := 0) (ms := 0) (Nat.zero_le _) (Nat.zero_le _) (P := fun v u => _) ?_ (fun e u h => h) (fun v u h => h)
        intro po36x3 xx36x3 hp36x3 hx36x3
        refine g_enter2 (k := 270) (N := 300) (by omega) rfl (Nat.le_of_ble_eq_true rfl) ?_
        refine g_aload_n 1 (gd rfl) rfl rfl ?_
        refine g_iload_n 2 (gd rfl) rfl rfl ?_
        refine g_if_ne 5 9 (gd rfl) rfl rfl (fun c36x3x2 => ?_) (fun c36x3x2 => ?_)
        · skip
          exact zn_ne c36x3x2 (in_c 0 rfl) rfl
        · skip
          refine g_iconst 1 6 (gd rfl) rfl rfl ?_
          refine g_goto 18 (gd rfl) rfl ?_
          refine g_putI 21 (gd rfl) rfl rfl rfl rfl ?_
          have hI36x3x18 := inv_sF (q := 109) (j := 0) hI rfl (in_w 0 2 (in_c 1 rfl) rfl)
          refine g_aload_n 22 (gd rfl) rfl rfl ?_
          refine g_getI 25 (gd rfl) rfl rfl rfl (fun z36x3x22 e36x3x22 => ?_)
          have q36x3x22 : (Int32.ofInt 1) = z36x3x22 := (sF_get).trans e36x3x22.symm
          subst q36x3x22
          refine g_if_le 28 32 (gd rfl) rfl rfl (fun c36x3x25 => ?_) (fun c36x3x25 => ?_)
          · skip
            exact zn_le c36x3x25 (in_c 1 rfl) rfl
          · skip
            refine g_iconst 1 29 (gd rfl) rfl rfl ?_
            refine g_goto 33 (gd rfl) rfl ?_
            refine g_ireturn (gd rfl) rfl (nb01 (in_w 0 1 (in_c 1 rfl) rfl)) (hp36x3 _ _ ?_)
            show GG _ _ _ _ _ _ _ _ [.int (Int32.ofInt 1)] _ _ _
            refine g_ireturn (gd rfl) rfl (nb01 (in_w 0 1 (in_c 1 rfl) rfl)) (hp36 _ _ ?_)
            show GG _ _ _ _ _ _ _ _ [.int (Int32.ofInt 1)] _ _ _
            refine g_if_eq 42 44 (gd rfl) rfl rfl (fun c39 => ?_) (fun c39 => ?_)
            · skip
              exact zn_eq c39 (in_c 1 rfl) rfl
            · skip
              refine g_iconst 0 43 (gd rfl) rfl rfl ?_
              exact g_ireturn (gd rfl) rfl rfl (hP _ _ ⟨(sF s 109 0 (Int32.ofInt 1)), hI36x3x18, (fr_sF rfl fr_rf), (Int32.ofInt 0), rfl, rfl, in_w (-1) 159 (in_c 0 rfl) rfl⟩)
      · skip
        exact zn_ne c6 (in_c 0 rfl) rfl
    · skip
      have i3x9 := r_lt1 0 31 c3x9 i3x1 ro_109_20 rfl
      have i3x9a := r_lt2 1 32 c3x9 i3x1 ro_109_20 rfl
      refine g_iconst 1 13 (gd rfl) rfl rfl ?_
      refine g_goto 17 (gd rfl) rfl ?_
      refine g_ireturn (gd rfl) rfl (nb01 (in_w 0 1 (in_c 1 rfl) rfl)) (hp3 _ _ ?_)
      show GG _ _ _ _ _ _ _ _ [.int (Int32.ofInt 1), .ref (A 109)] _ _ _
      refine g_if_eq 9 35 (gd rfl) rfl rfl (fun c6 => ?_) (fun c6 => ?_)
      · skip
        exact zn_eq c6 (in_c 1 rfl) rfl
      · skip
        refine g_aload_n 10 (gd rfl) rfl rfl ?_
        refine g_iload_n 11 (gd rfl) rfl rfl ?_
        refine g_callv (X := _) (As := [.int x2]) (r := [.ref (A 109)]) (b := A 109) (q := 109) 14 (gd rfl) rfl rfl rfl rfl rfl (ww_o rfl) (Nat.le_of_ble_eq_true rfl) (mc := 0) (ms := 0) (Nat.zero_le _) (Nat.zero_le _) (P := fun v u => _) ?_ (fun e u h => h) (fun v u h => h)
        intro po11 xx11 hp11 hx11
        refine g_enter2 (k := 272) (N := 300) (by omega) rfl (Nat.le_of_ble_eq_true rfl) ?_
        refine g_iload_n 1 (gd rfl) rfl rfl ?_
        refine g_if_lt 4 16 (gd rfl) rfl rfl (fun c11x1 => ?_) (fun c11x1 => ?_)
        · skip
          have i11x1 := z_lt (-2147483648) (-1) c11x1 (i_rng x2) rfl
          refine g_iconst 0 17 (gd rfl) rfl rfl ?_
          refine g_ireturn (gd rfl) rfl (nb01 (in_w 0 1 (in_c 0 rfl) rfl)) (hp11 _ _ ?_)
          show GG _ _ _ _ _ _ _ _ [.int (Int32.ofInt 0), .ref (A 109)] _ _ _
          refine g_if_eq 17 35 (gd rfl) rfl rfl (fun c14 => ?_) (fun c14 => ?_)
          · skip
            refine g_iconst 0 36 (gd rfl) rfl rfl ?_
            refine g_callv (X := _) (As := [.int (Int32.ofInt 0)]) (r := []) (b := A 109) (q := 109) 39 (gd rfl) rfl rfl rfl rfl rfl (ww_o rfl) (Nat.le_of_ble_eq_true rfl) (mc := 0) (ms := 0) (Nat.zero_le _) (Nat.zero_le _) (P := fun v u => _) ?_ (fun e u h => h) (fun v u h => h)
            intro po36 xx36 hp36 hx36
            refine g_enter2 (k := 271) (N := 300) (by omega) rfl (Nat.le_of_ble_eq_true rfl) ?_
            refine g_aload_n 1 (gd rfl) rfl rfl ?_
            refine g_iload_n 2 (gd rfl) rfl rfl ?_
            refine g_iconst 1 3 (gd rfl) rfl rfl ?_
            refine g_callv (X := _) (As := [.int (Int32.ofInt 0), .int (Int32.ofInt 1)]) (r := []) (b := A 109) (q := 109) 6 (gd rfl) rfl rfl rfl rfl rfl (ww_o rfl) (Nat.le_of_ble_eq_true rfl) (mc := 0) (ms := 0) (Nat.zero_le _) (Nat.zero_le _) (P := fun v u => _) ?_ (fun e u h => h) (fun v u h => h)
            intro po36x3 xx36x3 hp36x3 hx36x3
            refine g_enter2 (k := 270) (N := 300) (by omega) rfl (Nat.le_of_ble_eq_true rfl) ?_
            refine g_aload_n 1 (gd rfl) rfl rfl ?_
            refine g_iload_n 2 (gd rfl) rfl rfl ?_
            refine g_if_ne 5 9 (gd rfl) rfl rfl (fun c36x3x2 => ?_) (fun c36x3x2 => ?_)
            · skip
              exact zn_ne c36x3x2 (in_c 0 rfl) rfl
            · skip
              refine g_iconst 1 6 (gd rfl) rfl rfl ?_
              refine g_goto 18 (gd rfl) rfl ?_
              refine g_putI 21 (gd rfl) rfl rfl rfl rfl ?_
              have hI36x3x18 := inv_sF (q := 109) (j := 0) hI rfl (in_w 0 2 (in_c 1 rfl) rfl)
              refine g_aload_n 22 (gd rfl) rfl rfl ?_
              refine g_getI 25 (gd rfl) rfl rfl rfl (fun z36x3x22 e36x3x22 => ?_)
              have q36x3x22 : (Int32.ofInt 1) = z36x3x22 := (sF_get).trans e36x3x22.symm
              subst q36x3x22
              refine g_if_le 28 32 (gd rfl) rfl rfl (fun c36x3x25 => ?_) (fun c36x3x25 => ?_)
              · skip
                exact zn_le c36x3x25 (in_c 1 rfl) rfl
              · skip
                refine g_iconst 1 29 (gd rfl) rfl rfl ?_
                refine g_goto 33 (gd rfl) rfl ?_
                refine g_ireturn (gd rfl) rfl (nb01 (in_w 0 1 (in_c 1 rfl) rfl)) (hp36x3 _ _ ?_)
                show GG _ _ _ _ _ _ _ _ [.int (Int32.ofInt 1)] _ _ _
                refine g_ireturn (gd rfl) rfl (nb01 (in_w 0 1 (in_c 1 rfl) rfl)) (hp36 _ _ ?_)
                show GG _ _ _ _ _ _ _ _ [.int (Int32.ofInt 1)] _ _ _
                refine g_if_eq 42 44 (gd rfl) rfl rfl (fun c39 => ?_) (fun c39 => ?_)
                · skip
                  exact zn_eq c39 (in_c 1 rfl) rfl
                · skip
                  refine g_iconst 0 43 (gd rfl) rfl rfl ?_
                  exact g_ireturn (gd rfl) rfl rfl (hP _ _ ⟨(sF s 109 0 (Int32.ofInt 1)), hI36x3x18, (fr_sF rfl fr_rf), (Int32.ofInt 0), rfl, rfl, in_w (-1) 159 (in_c 0 rfl) rfl⟩)
          · skip
            exact zn_ne c14 (in_c 0 rfl) rfl
        · skip
          have i11x1 := z_ge 0 2147483647 c11x1 (i_rng x2) rfl
          refine g_iload_n 5 (gd rfl) rfl rfl ?_
          refine g_aload_n 6 (gd rfl) rfl rfl ?_
          refine g_getI 9 (gd rfl) rfl rfl rfl (fun z11x6 e11x6 => ?_)
          have q11x6 : u_109_20 = z11x6 := (e_109_20).trans e11x6.symm
          subst q11x6
          refine g_cmp_ge 12 16 (gd rfl) rfl rfl (fun c11x9 => ?_) (fun c11x9 => ?_)
          · skip
            have i11x9 := r_le2 1 2147483647 c11x9 i3x9a i11x1 rfl
            refine g_iconst 0 17 (gd rfl) rfl rfl ?_
            refine g_ireturn (gd rfl) rfl (nb01 (in_w 0 1 (in_c 0 rfl) rfl)) (hp11 _ _ ?_)
            show GG _ _ _ _ _ _ _ _ [.int (Int32.ofInt 0), .ref (A 109)] _ _ _
            refine g_if_eq 17 35 (gd rfl) rfl rfl (fun c14 => ?_) (fun c14 => ?_)
            · skip
              refine g_iconst 0 36 (gd rfl) rfl rfl ?_
              refine g_callv (X := _) (As := [.int (Int32.ofInt 0)]) (r := []) (b := A 109) (q := 109) 39 (gd rfl) rfl rfl rfl rfl rfl (ww_o rfl) (Nat.le_of_ble_eq_true rfl) (mc := 0) (ms := 0) (Nat.zero_le _) (Nat.zero_le _) (P := fun v u => _) ?_ (fun e u h => h) (fun v u h => h)
              intro po36 xx36 hp36 hx36
              refine g_enter2 (k := 271) (N := 300) (by omega) rfl (Nat.le_of_ble_eq_true rfl) ?_
              refine g_aload_n 1 (gd rfl) rfl rfl ?_
              refine g_iload_n 2 (gd rfl) rfl rfl ?_
              refine g_iconst 1 3 (gd rfl) rfl rfl ?_
              refine g_callv (X := _) (As := [.int (Int32.ofInt 0), .int (Int32.ofInt 1)]) (r := []) (b := A 109) (q := 109) 6 (gd rfl) rfl rfl rfl rfl rfl (ww_o rfl) (Nat.le_of_ble_eq_true rfl) (mc := 0) (ms := 0) (Nat.zero_le _) (Nat.zero_le _) (P := fun v u => _) ?_ (fun e u h => h) (fun v u h => h)
              intro po36x3 xx36x3 hp36x3 hx36x3
              refine g_enter2 (k := 270) (N := 300) (by omega) rfl (Nat.le_of_ble_eq_true rfl) ?_
              refine g_aload_n 1 (gd rfl) rfl rfl ?_
              refine g_iload_n 2 (gd rfl) rfl rfl ?_
              refine g_if_ne 5 9 (gd rfl) rfl rfl (fun c36x3x2 => ?_) (fun c36x3x2 => ?_)
              · skip
                exact zn_ne c36x3x2 (in_c 0 rfl) rfl
              · skip
                refine g_iconst 1 6 (gd rfl) rfl rfl ?_
                refine g_goto 18 (gd rfl) rfl ?_
                refine g_putI 21 (gd rfl) rfl rfl rfl rfl ?_
                have hI36x3x18 := inv_sF (q := 109) (j := 0) hI rfl (in_w 0 2 (in_c 1 rfl) rfl)
                refine g_aload_n 22 (gd rfl) rfl rfl ?_
                refine g_getI 25 (gd rfl) rfl rfl rfl (fun z36x3x22 e36x3x22 => ?_)
                have q36x3x22 : (Int32.ofInt 1) = z36x3x22 := (sF_get).trans e36x3x22.symm
                subst q36x3x22
                refine g_if_le 28 32 (gd rfl) rfl rfl (fun c36x3x25 => ?_) (fun c36x3x25 => ?_)
                · skip
                  exact zn_le c36x3x25 (in_c 1 rfl) rfl
                · skip
                  refine g_iconst 1 29 (gd rfl) rfl rfl ?_
                  refine g_goto 33 (gd rfl) rfl ?_
                  refine g_ireturn (gd rfl) rfl (nb01 (in_w 0 1 (in_c 1 rfl) rfl)) (hp36x3 _ _ ?_)
                  show GG _ _ _ _ _ _ _ _ [.int (Int32.ofInt 1)] _ _ _
                  refine g_ireturn (gd rfl) rfl (nb01 (in_w 0 1 (in_c 1 rfl) rfl)) (hp36 _ _ ?_)
                  show GG _ _ _ _ _ _ _ _ [.int (Int32.ofInt 1)] _ _ _
                  refine g_if_eq 42 44 (gd rfl) rfl rfl (fun c39 => ?_) (fun c39 => ?_)
                  · skip
                    exact zn_eq c39 (in_c 1 rfl) rfl
                  · skip
                    refine g_iconst 0 43 (gd rfl) rfl rfl ?_
                    exact g_ireturn (gd rfl) rfl rfl (hP _ _ ⟨(sF s 109 0 (Int32.ofInt 1)), hI36x3x18, (fr_sF rfl fr_rf), (Int32.ofInt 0), rfl, rfl, in_w (-1) 159 (in_c 0 rfl) rfl⟩)
            · skip
              exact zn_ne c14 (in_c 0 rfl) rfl
          · skip
            have i11x9 := r_lt1 0 31 c11x9 i11x1 i3x9a rfl
            refine g_iconst 1 13 (gd rfl) rfl rfl ?_
            refine g_goto 17 (gd rfl) rfl ?_
            refine g_ireturn (gd rfl) rfl (nb01 (in_w 0 1 (in_c 1 rfl) rfl)) (hp11 _ _ ?_)
            show GG _ _ _ _ _ _ _ _ [.int (Int32.ofInt 1), .ref (A 109)] _ _ _
            refine g_if_eq 17 35 (gd rfl) rfl rfl (fun c14 => ?_) (fun c14 => ?_)
            · skip
              exact zn_eq c14 (in_c 1 rfl) rfl
            · skip
              refine g_iload_n 18 (gd rfl) rfl rfl ?_
              refine g_iload_n 19 (gd rfl) rfl rfl ?_
              refine g_cmp_eq 22 35 (gd rfl) rfl rfl (fun c19 => ?_) (fun c19 => ?_)
              · skip
                refine g_iconst 0 36 (gd rfl) rfl rfl ?_
                refine g_callv (X := _) (As := [.int (Int32.ofInt 0)]) (r := []) (b := A 109) (q := 109) 39 (gd rfl) rfl rfl rfl rfl rfl (ww_o rfl) (Nat.le_of_ble_eq_true rfl) (mc := 0) (ms := 0) (Nat.zero_le _) (Nat.zero_le _) (P := fun v u => _) ?_ (fun e u h => h) (fun v u h => h)
                intro po36 xx36 hp36 hx36
                refine g_enter2 (k := 271) (N := 300) (by omega) rfl (Nat.le_of_ble_eq_true rfl) ?_
                refine g_aload_n 1 (gd rfl) rfl rfl ?_
                refine g_iload_n 2 (gd rfl) rfl rfl ?_
                refine g_iconst 1 3 (gd rfl) rfl rfl ?_
                refine g_callv (X := _) (As := [.int (Int32.ofInt 0), .int (Int32.ofInt 1)]) (r := []) (b := A 109) (q := 109) 6 (gd rfl) rfl rfl rfl rfl rfl (ww_o rfl) (Nat.le_of_ble_eq_true rfl) (mc := 0) (ms := 0) (Nat.zero_le _) (Nat.zero_le _) (P := fun v u => _) ?_ (fun e u h => h) (fun v u h => h)
                intro po36x3 xx36x3 hp36x3 hx36x3
                refine g_enter2 (k := 270) (N := 300) (by omega) rfl (Nat.le_of_ble_eq_true rfl) ?_
                refine g_aload_n 1 (gd rfl) rfl rfl ?_
                refine g_iload_n 2 (gd rfl) rfl rfl ?_
                refine g_if_ne 5 9 (gd rfl) rfl rfl (fun c36x3x2 => ?_) (fun c36x3x2 => ?_)
                · skip
                  exact zn_ne c36x3x2 (in_c 0 rfl) rfl
                · skip
                  refine g_iconst 1 6 (gd rfl) rfl rfl ?_
                  refine g_goto 18 (gd rfl) rfl ?_
                  refine g_putI 21 (gd rfl) rfl rfl rfl rfl ?_
                  have hI36x3x18 := inv_sF (q := 109) (j := 0) hI rfl (in_w 0 2 (in_c 1 rfl) rfl)
                  refine g_aload_n 22 (gd rfl) rfl rfl ?_
                  refine g_getI 25 (gd rfl) rfl rfl rfl (fun z36x3x22 e36x3x22 => ?_)
                  have q36x3x22 : (Int32.ofInt 1) = z36x3x22 := (sF_get).trans e36x3x22.symm
                  subst q36x3x22
                  refine g_if_le 28 32 (gd rfl) rfl rfl (fun c36x3x25 => ?_) (fun c36x3x25 => ?_)
                  · skip
                    exact zn_le c36x3x25 (in_c 1 rfl) rfl
                  · skip
                    refine g_iconst 1 29 (gd rfl) rfl rfl ?_
                    refine g_goto 33 (gd rfl) rfl ?_
                    refine g_ireturn (gd rfl) rfl (nb01 (in_w 0 1 (in_c 1 rfl) rfl)) (hp36x3 _ _ ?_)
                    show GG _ _ _ _ _ _ _ _ [.int (Int32.ofInt 1)] _ _ _
                    refine g_ireturn (gd rfl) rfl (nb01 (in_w 0 1 (in_c 1 rfl) rfl)) (hp36 _ _ ?_)
                    show GG _ _ _ _ _ _ _ _ [.int (Int32.ofInt 1)] _ _ _
                    refine g_if_eq 42 44 (gd rfl) rfl rfl (fun c39 => ?_) (fun c39 => ?_)
                    · skip
                      exact zn_eq c39 (in_c 1 rfl) rfl
                    · skip
                      refine g_iconst 0 43 (gd rfl) rfl rfl ?_
                      exact g_ireturn (gd rfl) rfl rfl (hP _ _ ⟨(sF s 109 0 (Int32.ofInt 1)), hI36x3x18, (fr_sF rfl fr_rf), (Int32.ofInt 0), rfl, rfl, in_w (-1) 159 (in_c 0 rfl) rfl⟩)
              · skip
                refine g_iload_n 23 (gd rfl) rfl rfl ?_
                refine g_if_lt 26 35 (gd rfl) rfl rfl (fun c23 => ?_) (fun c23 => ?_)
                · skip
                  have i23 := z_lt (-2147483648) (-1) c23 (i_rng x3) rfl
                  refine g_iconst 0 36 (gd rfl) rfl rfl ?_
                  refine g_callv (X := _) (As := [.int (Int32.ofInt 0)]) (r := []) (b := A 109) (q := 109) 39 (gd rfl) rfl rfl rfl rfl rfl (ww_o rfl) (Nat.le_of_ble_eq_true rfl) (mc := 0) (ms := 0) (Nat.zero_le _) (Nat.zero_le _) (P := fun v u => _) ?_ (fun e u h => h) (fun v u h => h)
                  intro po36 xx36 hp36 hx36
                  refine g_enter2 (k := 271) (N := 300) (by omega) rfl (Nat.le_of_ble_eq_true rfl) ?_
                  refine g_aload_n 1 (gd rfl) rfl rfl ?_
                  refine g_iload_n 2 (gd rfl) rfl rfl ?_
                  refine g_iconst 1 3 (gd rfl) rfl rfl ?_
                  refine g_callv (X := _) (As := [.int (Int32.ofInt 0), .int (Int32.ofInt 1)]) (r := []) (b := A 109) (q := 109) 6 (gd rfl) rfl rfl rfl rfl rfl (ww_o rfl) (Nat.le_of_ble_eq_true rfl) (mc := 0) (ms := 0) (Nat.zero_le _) (Nat.zero_le _) (P := fun v u => _) ?_ (fun e u h => h) (fun v u h => h)
                  intro po36x3 xx36x3 hp36x3 hx36x3
                  refine g_enter2 (k := 270) (N := 300) (by omega) rfl (Nat.le_of_ble_eq_true rfl) ?_
                  refine g_aload_n 1 (gd rfl) rfl rfl ?_
                  refine g_iload_n 2 (gd rfl) rfl rfl ?_
                  refine g_if_ne 5 9 (gd rfl) rfl rfl (fun c36x3x2 => ?_) (fun c36x3x2 => ?_)
                  · skip
                    exact zn_ne c36x3x2 (in_c 0 rfl) rfl
                  · skip
                    refine g_iconst 1 6 (gd rfl) rfl rfl ?_
                    refine g_goto 18 (gd rfl) rfl ?_
                    refine g_putI 21 (gd rfl) rfl rfl rfl rfl ?_
                    have hI36x3x18 := inv_sF (q := 109) (j := 0) hI rfl (in_w 0 2 (in_c 1 rfl) rfl)
                    refine g_aload_n 22 (gd rfl) rfl rfl ?_
                    refine g_getI 25 (gd rfl) rfl rfl rfl (fun z36x3x22 e36x3x22 => ?_)
                    have q36x3x22 : (Int32.ofInt 1) = z36x3x22 := (sF_get).trans e36x3x22.symm
                    subst q36x3x22
                    refine g_if_le 28 32 (gd rfl) rfl rfl (fun c36x3x25 => ?_) (fun c36x3x25 => ?_)
                    · skip
                      exact zn_le c36x3x25 (in_c 1 rfl) rfl
                    · skip
                      refine g_iconst 1 29 (gd rfl) rfl rfl ?_
                      refine g_goto 33 (gd rfl) rfl ?_
                      refine g_ireturn (gd rfl) rfl (nb01 (in_w 0 1 (in_c 1 rfl) rfl)) (hp36x3 _ _ ?_)
                      show GG _ _ _ _ _ _ _ _ [.int (Int32.ofInt 1)] _ _ _
                      refine g_ireturn (gd rfl) rfl (nb01 (in_w 0 1 (in_c 1 rfl) rfl)) (hp36 _ _ ?_)
                      show GG _ _ _ _ _ _ _ _ [.int (Int32.ofInt 1)] _ _ _
                      refine g_if_eq 42 44 (gd rfl) rfl rfl (fun c39 => ?_) (fun c39 => ?_)
                      · skip
                        exact zn_eq c39 (in_c 1 rfl) rfl
                      · skip
                        refine g_iconst 0 43 (gd rfl) rfl rfl ?_
                        exact g_ireturn (gd rfl) rfl rfl (hP _ _ ⟨(sF s 109 0 (Int32.ofInt 1)), hI36x3x18, (fr_sF rfl fr_rf), (Int32.ofInt 0), rfl, rfl, in_w (-1) 159 (in_c 0 rfl) rfl⟩)
                · skip
                  have i23 := z_ge 0 2147483647 c23 (i_rng x3) rfl
                  refine g_iload 28 (gd rfl) rfl rfl ?_
                  refine g_if_lt 31 35 (gd rfl) rfl rfl (fun c28 => ?_) (fun c28 => ?_)
                  · skip
                    have i28 := z_lt (-2147483648) (-1) c28 (i_rng x4) rfl
                    refine g_iconst 0 36 (gd rfl) rfl rfl ?_
                    refine g_callv (X := _) (As := [.int (Int32.ofInt 0)]) (r := []) (b := A 109) (q := 109) 39 (gd rfl) rfl rfl rfl rfl rfl (ww_o rfl) (Nat.le_of_ble_eq_true rfl) (mc := 0) (ms := 0) (Nat.zero_le _) (Nat.zero_le _) (P := fun v u => _) ?_ (fun e u h => h) (fun v u h => h)
                    intro po36 xx36 hp36 hx36
                    refine g_enter2 (k := 271) (N := 300) (by omega) rfl (Nat.le_of_ble_eq_true rfl) ?_
                    refine g_aload_n 1 (gd rfl) rfl rfl ?_
                    refine g_iload_n 2 (gd rfl) rfl rfl ?_
                    refine g_iconst 1 3 (gd rfl) rfl rfl ?_
                    refine g_callv (X := _) (As := [.int (Int32.ofInt 0), .int (Int32.ofInt 1)]) (r := []) (b := A 109) (q := 109) 6 (gd rfl) rfl rfl rfl rfl rfl (ww_o rfl) (Nat.le_of_ble_eq_true rfl) (mc := 0) (ms := 0) (Nat.zero_le _) (Nat.zero_le _) (P := fun v u => _) ?_ (fun e u h => h) (fun v u h => h)
                    intro po36x3 xx36x3 hp36x3 hx36x3
                    refine g_enter2 (k := 270) (N := 300) (by omega) rfl (Nat.le_of_ble_eq_true rfl) ?_
                    refine g_aload_n 1 (gd rfl) rfl rfl ?_
                    refine g_iload_n 2 (gd rfl) rfl rfl ?_
                    refine g_if_ne 5 9 (gd rfl) rfl rfl (fun c36x3x2 => ?_) (fun c36x3x2 => ?_)
                    · skip
                      exact zn_ne c36x3x2 (in_c 0 rfl) rfl
                    · skip
                      refine g_iconst 1 6 (gd rfl) rfl rfl ?_
                      refine g_goto 18 (gd rfl) rfl ?_
                      refine g_putI 21 (gd rfl) rfl rfl rfl rfl ?_
                      have hI36x3x18 := inv_sF (q := 109) (j := 0) hI rfl (in_w 0 2 (in_c 1 rfl) rfl)
                      refine g_aload_n 22 (gd rfl) rfl rfl ?_
                      refine g_getI 25 (gd rfl) rfl rfl rfl (fun z36x3x22 e36x3x22 => ?_)
                      have q36x3x22 : (Int32.ofInt 1) = z36x3x22 := (sF_get).trans e36x3x22.symm
                      subst q36x3x22
                      refine g_if_le 28 32 (gd rfl) rfl rfl (fun c36x3x25 => ?_) (fun c36x3x25 => ?_)
                      · skip
                        exact zn_le c36x3x25 (in_c 1 rfl) rfl
                      · skip
                        refine g_iconst 1 29 (gd rfl) rfl rfl ?_
                        refine g_goto 33 (gd rfl) rfl ?_
                        refine g_ireturn (gd rfl) rfl (nb01 (in_w 0 1 (in_c 1 rfl) rfl)) (hp36x3 _ _ ?_)
                        show GG _ _ _ _ _ _ _ _ [.int (Int32.ofInt 1)] _ _ _
                        refine g_ireturn (gd rfl) rfl (nb01 (in_w 0 1 (in_c 1 rfl) rfl)) (hp36 _ _ ?_)
                        show GG _ _ _ _ _ _ _ _ [.int (Int32.ofInt 1)] _ _ _
                        refine g_if_eq 42 44 (gd rfl) rfl rfl (fun c39 => ?_) (fun c39 => ?_)
                        · skip
                          exact zn_eq c39 (in_c 1 rfl) rfl
                        · skip
                          refine g_iconst 0 43 (gd rfl) rfl rfl ?_
                          exact g_ireturn (gd rfl) rfl rfl (hP _ _ ⟨(sF s 109 0 (Int32.ofInt 1)), hI36x3x18, (fr_sF rfl fr_rf), (Int32.ofInt 0), rfl, rfl, in_w (-1) 159 (in_c 0 rfl) rfl⟩)
                  · skip
                    have i28 := z_ge 0 2147483647 c28 (i_rng x4) rfl
                    refine g_iconst 1 32 (gd rfl) rfl rfl ?_
                    refine g_goto 36 (gd rfl) rfl ?_
                    refine g_callv (X := _) (As := [.int (Int32.ofInt 1)]) (r := []) (b := A 109) (q := 109) 39 (gd rfl) rfl rfl rfl rfl rfl (ww_o rfl) (Nat.le_of_ble_eq_true rfl) (mc := 0) (ms := 0) (Nat.zero_le _) (Nat.zero_le _) (P := fun v u => _) ?_ (fun e u h => h) (fun v u h => h)
                    intro po36 xx36 hp36 hx36
                    refine g_enter2 (k := 271) (N := 300) (by omega) rfl (Nat.le_of_ble_eq_true rfl) ?_
                    refine g_aload_n 1 (gd rfl) rfl rfl ?_
                    refine g_iload_n 2 (gd rfl) rfl rfl ?_
                    refine g_iconst 1 3 (gd rfl) rfl rfl ?_
                    refine g_callv (X := _) (As := [.int (Int32.ofInt 1), .int (Int32.ofInt 1)]) (r := []) (b := A 109) (q := 109) 6 (gd rfl) rfl rfl rfl rfl rfl (ww_o rfl) (Nat.le_of_ble_eq_true rfl) (mc := 0) (ms := 0) (Nat.zero_le _) (Nat.zero_le _) (P := fun v u => _) ?_ (fun e u h => h) (fun v u h => h)
                    intro po36x3 xx36x3 hp36x3 hx36x3
                    refine g_enter2 (k := 270) (N := 300) (by omega) rfl (Nat.le_of_ble_eq_true rfl) ?_
                    refine g_aload_n 1 (gd rfl) rfl rfl ?_
                    refine g_iload_n 2 (gd rfl) rfl rfl ?_
                    refine g_if_ne 5 9 (gd rfl) rfl rfl (fun c36x3x2 => ?_) (fun c36x3x2 => ?_)
                    · skip
                      refine g_iload_n 10 (gd rfl) rfl rfl ?_
                      refine g_if_ne 13 17 (gd rfl) rfl rfl (fun c36x3x10 => ?_) (fun c36x3x10 => ?_)
                      · skip
                        refine g_iconst 0 18 (gd rfl) rfl rfl ?_
                        refine g_putI 21 (gd rfl) rfl rfl rfl rfl ?_
                        have hI36x3x18 := inv_sF (q := 109) (j := 0) hI rfl (in_w 0 2 (in_c 0 rfl) rfl)
                        refine g_aload_n 22 (gd rfl) rfl rfl ?_
                        refine g_getI 25 (gd rfl) rfl rfl rfl (fun z36x3x22 e36x3x22 => ?_)
                        have q36x3x22 : (Int32.ofInt 0) = z36x3x22 := (sF_get).trans e36x3x22.symm
                        subst q36x3x22
                        refine g_if_le 28 32 (gd rfl) rfl rfl (fun c36x3x25 => ?_) (fun c36x3x25 => ?_)
                        · skip
                          refine g_iconst 0 33 (gd rfl) rfl rfl ?_
                          refine g_ireturn (gd rfl) rfl (nb01 (in_w 0 1 (in_c 0 rfl) rfl)) (hp36x3 _ _ ?_)
                          show GG _ _ _ _ _ _ _ _ [.int (Int32.ofInt 0)] _ _ _
                          refine g_ireturn (gd rfl) rfl (nb01 (in_w 0 1 (in_c 0 rfl) rfl)) (hp36 _ _ ?_)
                          show GG _ _ _ _ _ _ _ _ [.int (Int32.ofInt 0)] _ _ _
                          refine g_if_eq 42 44 (gd rfl) rfl rfl (fun c39 => ?_) (fun c39 => ?_)
                          · skip
                            refine g_aload_n 45 (gd rfl) rfl rfl ?_
                            refine g_iload_n 46 (gd rfl) rfl rfl ?_
                            refine g_iload_n 47 (gd rfl) rfl rfl ?_
                            refine g_callv (X := _) (As := [.int x1, .int x2]) (r := []) (b := A 109) (q := 109) 50 (gd rfl) rfl rfl rfl rfl rfl (ww_o rfl) (Nat.le_of_ble_eq_true rfl) (Nat.zero_le _) (Nat.zero_le _) (k_320 (by omega) hI36x3x18 (in_w 0 31 i3x9 rfl) (in_w 0 31 i11x9 rfl)) (fun e u h => h) (fun v u h => ?_)
                            obtain ⟨s47, hI47, hF47, rfl, rfl⟩ := h
                            show GG _ _ _ _ _ _ _ _ [] _ _ _
                            refine g_aload_n 51 (gd rfl) rfl rfl ?_
                            refine g_getI 54 (gd rfl) rfl rfl rfl (fun z51 e51 => ?_)
                            have i51 := inv_F hI47 0 2001 rfl e51
                            refine g_sipush 2000 57 (gd rfl) rfl rfl ?_
                            refine g_cmp_gt 60 68 (gd rfl) rfl rfl (fun c57 => ?_) (fun c57 => ?_)
                            · skip
                              have i57 := r_lt2 2001 2001 c57 (in_c 2000 rfl) i51 rfl
                              refine g_iconst (-1) 69 (gd rfl) rfl rfl ?_
                              exact g_ireturn (gd rfl) rfl rfl (hP _ _ ⟨s47, hI47, (fr_tr rfl (fr_sF rfl fr_rf) hF47), (Int32.ofInt (-1)), rfl, rfl, in_w (-1) 159 (in_c (-1) rfl) rfl⟩)
                            · skip
                              have i57 := r_le1 0 2000 c57 i51 (in_c 2000 rfl) rfl
                              refine g_iload_n 61 (gd rfl) rfl rfl ?_
                              refine g_aload_n 62 (gd rfl) rfl rfl ?_
                              refine g_getI 65 (gd rfl) rfl rfl rfl (fun z62 e62 => ?_)
                              have q62 : z51 = z62 := (e51).trans e62.symm
                              subst q62
                              refine g_cmp_lt 68 70 (gd rfl) rfl rfl (fun c65 => ?_) (fun c65 => ?_)
                              · skip
                                have i65 := r_lt1 0 1999 c65 i23 i57 rfl
                                have i65a := r_lt2 1 2000 c65 i23 i57 rfl
                                refine g_aload_n 71 (gd rfl) rfl rfl ?_
                                refine g_callv (X := _) (As := []) (r := []) (b := A 109) (q := 109) 74 (gd rfl) rfl rfl rfl rfl rfl (ww_o rfl) (Nat.le_of_ble_eq_true rfl) (Nat.zero_le _) (Nat.zero_le _) (k_324 (by omega) hI47 ) (fun e u h => h) (fun v u h => ?_)
                                obtain ⟨s71, hI71, hF71, rfl, rfl⟩ := h
                                show GG _ _ _ _ _ _ _ _ [] _ _ _
                                refine g_iconst 5 75 (gd rfl) rfl rfl ?_
                                refine g_aload_n 76 (gd rfl) rfl rfl ?_
                                refine g_getA (q2 := 136) 79 (gd rfl) rfl rfl rfl rfl ?_
                                refine g_iload_n 80 (gd rfl) rfl rfl ?_
                                refine g_iaload 81 (gd rfl) rfl (n := 2001) rfl (in_ix i65 rfl) (fun z80 e80 => ?_)
                                have i80 := inv_I hI71 (n := 2001) (t := 0) 0 2000 rfl (in_ix i65 rfl) rfl e80
                                refine g_imul 82 (gd rfl) rfl (fun z81 e81 => ?_)
                                have i81 := in_mulc 5 0 10000 (Or.inl e81) i80 rfl rfl
                                refine g_istore 84 (gd rfl) rfl (Nat.le_of_ble_eq_true rfl) ?_
                                refine g_iload 86 (gd rfl) rfl rfl ?_
                                refine g_aload_n 87 (gd rfl) rfl rfl ?_
                                refine g_getA (q2 := 134) 90 (gd rfl) rfl rfl rfl rfl ?_
                                refine g_iload 92 (gd rfl) rfl rfl ?_
                                refine g_iaload 93 (gd rfl) rfl (n := 10005) rfl (in_ix i81 rfl) (fun z92 e92 => ?_)
                                have i92 := inv_I hI71 (n := 10005) (t := 0) 0 159 rfl (in_ix i81 rfl) rfl e92
                                have i93 : In z92 0 4 := by exact ks_u hI71 e92 (t_mulc 5 (Or.inl e81) i80 rfl).1 i80 i92
                                refine g_cmp_ge 96 111 (gd rfl) rfl rfl (fun c93 => ?_) (fun c93 => ?_)
                                · skip
                                  refine g_iconst (-1) 112 (gd rfl) rfl rfl ?_
                                  exact g_ireturn (gd rfl) rfl rfl (hP _ _ ⟨s71, hI71, (fr_tr rfl (fr_tr rfl (fr_sF rfl fr_rf) hF47) hF71), (Int32.ofInt (-1)), rfl, rfl, in_w (-1) 159 (in_c (-1) rfl) rfl⟩)
                                · skip
                                  have i93a := r_lt1 0 3 c93 i28 i93 rfl
                                  have i93b := r_lt2 1 4 c93 i28 i93 rfl
                                  refine g_aload_n 97 (gd rfl) rfl rfl ?_
                                  refine g_getA (q2 := 134) 100 (gd rfl) rfl rfl rfl rfl ?_
                                  refine g_iload 102 (gd rfl) rfl rfl ?_
                                  refine g_iconst 1 103 (gd rfl) rfl rfl ?_
                                  refine g_iadd 104 (gd rfl) rfl (fun z103 e103 => ?_)
                                  have i103 := in_add 1 10001 e103 i81 (in_c 1 rfl) rfl rfl
                                  refine g_iload 106 (gd rfl) rfl rfl ?_
                                  refine g_iadd 107 (gd rfl) rfl (fun z106 e106 => ?_)
                                  have i106 := in_add 1 10004 e106 i103 i93a rfl rfl
                                  refine g_iaload 108 (gd rfl) rfl (n := 10005) rfl (in_ix i106 rfl) (fun z107 e107 => ?_)
                                  have i107 := inv_I hI71 (n := 10005) (t := 0) 0 159 rfl (in_ix i106 rfl) rfl e107
                                  refine g_goto 112 (gd rfl) rfl ?_
                                  exact g_ireturn (gd rfl) rfl rfl (hP _ _ ⟨s71, hI71, (fr_tr rfl (fr_tr rfl (fr_sF rfl fr_rf) hF47) hF71), z107, rfl, rfl, in_w (-1) 159 i107 rfl⟩)
                              · skip
                                refine g_iconst (-1) 69 (gd rfl) rfl rfl ?_
                                exact g_ireturn (gd rfl) rfl rfl (hP _ _ ⟨s47, hI47, (fr_tr rfl (fr_sF rfl fr_rf) hF47), (Int32.ofInt (-1)), rfl, rfl, in_w (-1) 159 (in_c (-1) rfl) rfl⟩)
                          · skip
                            exact zn_ne c39 (in_c 0 rfl) rfl
                        · skip
                          exact zn_gt c36x3x25 (in_c 0 rfl) rfl
                      · skip
                        exact zn_eq c36x3x10 (in_c 1 rfl) rfl
                    · skip
                      exact zn_eq c36x3x2 (in_c 1 rfl) rfl
