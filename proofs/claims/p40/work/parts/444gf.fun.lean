/-! FUNCTIONAL CONTRACTS, by fgen.py -/
theorem oc_299_109 : (Int32.ofInt (-1)).toInt = (-1) ∧ (Int32.ofInt 0).toInt = 0 ∧ (Int32.ofInt 1).toInt = 1 ∧ (Int32.ofInt 2).toInt = 2 ∧ (Int32.ofInt 3).toInt = 3 ∧ (Int32.ofInt 7).toInt = 7 ∧ (Int32.ofInt 32).toInt = 32 ∧ (Int32.ofInt 45).toInt = 45 ∧ (Int32.ofInt 48).toInt = 48 ∧ (Int32.ofInt 57).toInt = 57 ∧ (Int32.ofInt 59).toInt = 59 ∧ (Int32.ofInt 97).toInt = 97 ∧ (Int32.ofInt 122).toInt = 122 := ⟨rfl, rfl, rfl, rfl, rfl, rfl, rfl, rfl, rfl, rfl, rfl, rfl, rfl⟩
/-- GraphHouseModel.nextToken -/
theorem f_299 {Z : AmZ} {A : Nat → Nat} {s : GS} {ex : va_W} {d : Nat} {X : AmX} {u_109_27 : Int32} {u_109_22 : Int32} (hd : 4 ≤ d) (hI : Inv s) (e_109_27 : u_109_27 = s.2.2.1 109 27) (e_109_22 : u_109_22 = s.2.2.1 109 22) (p_0 : (u_109_27).toInt ≤ (u_109_22).toInt) : GC Z d 299 [.ref (A 109)] (WW Z A s ++ ex) 0 0 (fun v u => ∃ t : GS, Inv t ∧ Fr fm_299 s t ∧ ((t.2.2.1 109 27).toInt ≤ (t.2.2.1 109 22).toInt) ∧ ((s.2.2.1 109 27).toInt ≤ (t.2.2.1 109 27).toInt) ∧ ((t.2.2.1 109 28).toInt ≠ 0 → (s.2.2.1 109 27).toInt + 1 ≤ (t.2.2.1 109 27).toInt) ∧ ((t.2.2.1 109 28).toInt = 1 → 97 ≤ (t.2.2.1 109 30).toInt) ∧ ((t.2.2.1 109 28).toInt = 1 → (t.2.2.1 109 30).toInt ≤ 122) ∧ v = none ∧ u = WW Z A t ++ ex ∧ (∃ k v, TKN (s.1 125) (s.2.2.1 109 22).toInt.toNat (s.2.2.1 109 27).toInt.toNat (t.2.2.1 109 29).toInt.toNat (t.2.2.1 109 27).toInt.toNat k v ∧ NTK s t k v)) X := by
  intro post xp hP hX
  have ro_109_22 := inv_F hI 0 1000 rfl e_109_22
  have ct0 : ∀ (k0 : Nat) (sc0 : GS) (w0_109_27 : Int32), Inv sc0 → Fr fm_299 s sc0 → (w0_109_27 = sc0.2.2.1 109 27) → ((w0_109_27).toInt ≤ (u_109_22).toInt) → ((u_109_27).toInt ≤ (w0_109_27).toInt) → (∀ i : Nat, (s.2.2.1 109 27).toInt.toNat ≤ i → (i : Int) < (w0_109_27).toInt → (s.1 125 i).toInt = 32) → (FSM s sc0) → (u_109_22).toInt - (w0_109_27).toInt < (k0 : Int) → GG Z (d - 1) 299 post (gx xp) (1 + k0 * 900) 0 (fun j => xlook j [(0, .ref (A 109))]) [] (WW Z A sc0 ++ ex) 0 0 := by
    intro k0
    induction k0 with
    | zero => intro sc0 w0_109_27 hIc0 hFc0 v0_109_27 n0_0 n0_1 g0_0 g0_1 mm0; exfalso; have a0 := in_u ro_109_22; have a1 := in_u ((inv_F hIc0 0 1000 rfl v0_109_27)); have oc := oc_299_109; omega
    | succ k0 ih0 =>
      intro sc0 w0_109_27 hIc0 hFc0 v0_109_27 n0_0 n0_1 g0_0 g0_1 mm0
      refine gg_w (M := 1 + k0 * 900 + 900) gws ?_
      refine g_aload_n 1 (gd rfl) rfl rfl ?_
      refine g_getI 4 (gd rfl) rfl rfl rfl (fun z1 e1 => ?_)
      have q1 : w0_109_27 = z1 := (v0_109_27).trans e1.symm
      subst q1
      refine g_aload_n 5 (gd rfl) rfl rfl ?_
      refine g_getI 8 (gd rfl) rfl rfl rfl (fun z5 e5 => ?_)
      have q5 : u_109_22 = z5 := (fr_F e_109_22 hFc0 rfl).trans e5.symm
      subst q5
      refine g_cmp_ge 11 38 (gd rfl) rfl rfl (fun c8 => ?_) (fun c8 => ?_)
      · skip
        refine g_aload_n 39 (gd rfl) rfl rfl ?_
        refine g_aload_n 40 (gd rfl) rfl rfl ?_
        refine g_getI 43 (gd rfl) rfl rfl rfl (fun z40 e40 => ?_)
        have q40 : w0_109_27 = z40 := (v0_109_27).trans e40.symm
        subst q40
        refine g_putI 46 (gd rfl) rfl rfl rfl rfl ?_
        have hI43 := inv_sF (q := 109) (j := 29) hIc0 rfl (in_w 0 1000 (inv_F hIc0 0 1000 rfl v0_109_27) rfl)
        refine g_aload_n 47 (gd rfl) rfl rfl ?_
        refine g_getI 50 (gd rfl) rfl rfl rfl (fun z47 e47 => ?_)
        have q47 : w0_109_27 = z47 := (sF_ne rfl (v0_109_27)).trans e47.symm
        subst q47
        refine g_aload_n 51 (gd rfl) rfl rfl ?_
        refine g_getI 54 (gd rfl) rfl rfl rfl (fun z51 e51 => ?_)
        have q51 : u_109_22 = z51 := (sF_ne rfl (fr_F e_109_22 hFc0 rfl)).trans e51.symm
        subst q51
        refine g_cmp_ne 57 63 (gd rfl) rfl rfl (fun c54 => ?_) (fun c54 => ?_)
        · skip
          refine g_aload_n 64 (gd rfl) rfl rfl ?_
          refine g_getA (q2 := 125) 67 (gd rfl) rfl rfl rfl rfl ?_
          refine g_aload_n 68 (gd rfl) rfl rfl ?_
          refine g_getI 71 (gd rfl) rfl rfl rfl (fun z68 e68 => ?_)
          have q68 : w0_109_27 = z68 := (sF_ne rfl (v0_109_27)).trans e68.symm
          subst q68
          have i71 : In w0_109_27 0 999 := by have a0 := in_u ro_109_22; have a1 := in_u ((inv_F hIc0 0 1000 rfl v0_109_27)); have oc := oc_299_109; exact ⟨by omega, by omega⟩
          refine g_iaload 72 (gd rfl) rfl (n := 1000) rfl (in_ix i71 rfl) (fun z71 e71 => ?_)
          have i71a := inv_I hI43 (n := 1000) (t := 0) 0 126 rfl (in_ix i71 rfl) rfl e71
          refine g_istore_n 73 (gd rfl) rfl (Nat.le_of_ble_eq_true rfl) ?_
          refine g_aload_n 74 (gd rfl) rfl rfl ?_
          refine g_iload_n 75 (gd rfl) rfl rfl ?_
          refine g_putI 78 (gd rfl) rfl rfl rfl rfl ?_
          have hI75 := inv_sF (q := 109) (j := 30) hI43 rfl (in_w (-2147483648) 2147483647 i71a rfl)
          refine g_iload_n 79 (gd rfl) rfl rfl ?_
          refine g_bipush 45 81 (gd rfl) rfl rfl ?_
          refine g_cmp_ne 84 118 (gd rfl) rfl rfl (fun c81 => ?_) (fun c81 => ?_)
          · skip
            refine g_iconst 0 119 (gd rfl) rfl rfl ?_
            refine g_istore_n 120 (gd rfl) rfl (Nat.le_of_ble_eq_true rfl) ?_
            refine g_iload_n 121 (gd rfl) rfl rfl ?_
            refine g_calls (As := [.int z71]) (r := []) 124 (gd rfl) rfl rfl rfl rfl rfl (Nat.le_of_ble_eq_true rfl) (mc := 0) (ms := 0) (Nat.zero_le _) (Nat.zero_le _) (P := fun v u => _) ?_ (fun v u h => h)
            intro po121 xx121 hp121 hx121
            refine g_enter2 (k := 297) (N := 300) (by first | exact dq1 hd rfl | exact dq0 hd rfl | exact dq2 hd rfl | exact dq3 hd rfl | omega) rfl (Nat.le_of_ble_eq_true rfl) ?_
            refine g_iload_n 1 (gd rfl) rfl rfl ?_
            refine g_bipush 48 3 (gd rfl) rfl rfl ?_
            refine g_cmp_lt 6 16 (gd rfl) rfl rfl (fun c121x3 => ?_) (fun c121x3 => ?_)
            · skip
              have i121x3 := r_lt1 0 47 c121x3 i71a (in_c 48 rfl) rfl
              refine g_iconst 0 17 (gd rfl) rfl rfl ?_
              refine g_ireturn (gd rfl) rfl (nb01 (in_w 0 1 (in_c 0 rfl) rfl)) (hp121 _ _ ?_)
              show GG _ _ _ _ _ _ _ _ [.int (Int32.ofInt 0)] _ _ _
              refine g_if_ne 127 131 (gd rfl) rfl rfl (fun c124 => ?_) (fun c124 => ?_)
              · skip
                exact zn_ne c124 (in_c 0 rfl) rfl
              · skip
                refine g_iload_n 128 (gd rfl) rfl rfl ?_
                refine g_if_eq 131 181 (gd rfl) rfl rfl (fun c128 => ?_) (fun c128 => ?_)
                · skip
                  refine g_aload_n 182 (gd rfl) rfl rfl ?_
                  refine g_iload_n 183 (gd rfl) rfl rfl ?_
                  refine g_calls (As := [.int z71]) (r := [.ref (A 109)]) 186 (gd rfl) rfl rfl rfl rfl rfl (Nat.le_of_ble_eq_true rfl) (mc := 0) (ms := 0) (Nat.zero_le _) (Nat.zero_le _) (P := fun v u => _) ?_ (fun v u h => h)
                  intro po183 xx183 hp183 hx183
                  refine g_enter2 (k := 296) (N := 300) (by first | exact dq1 hd rfl | exact dq0 hd rfl | exact dq2 hd rfl | exact dq3 hd rfl | omega) rfl (Nat.le_of_ble_eq_true rfl) ?_
                  refine g_iload_n 1 (gd rfl) rfl rfl ?_
                  refine g_bipush 97 3 (gd rfl) rfl rfl ?_
                  refine g_cmp_lt 6 16 (gd rfl) rfl rfl (fun c183x3 => ?_) (fun c183x3 => ?_)
                  · skip
                    refine g_iconst 0 17 (gd rfl) rfl rfl ?_
                    refine g_ireturn (gd rfl) rfl (nb01 (in_w 0 1 (in_c 0 rfl) rfl)) (hp183 _ _ ?_)
                    show GG _ _ _ _ _ _ _ _ [.int (Int32.ofInt 0), .ref (A 109)] _ _ _
                    refine g_if_eq 189 193 (gd rfl) rfl rfl (fun c186 => ?_) (fun c186 => ?_)
                    · skip
                      refine g_iconst 3 194 (gd rfl) rfl rfl ?_
                      refine g_putI 197 (gd rfl) rfl rfl rfl rfl ?_
                      have hI194 := inv_sF (q := 109) (j := 28) hI75 rfl (in_w (-2147483648) 2147483647 (in_c 3 rfl) rfl)
                      refine g_aload_n 198 (gd rfl) rfl rfl ?_
                      refine g_getI 201 (gd rfl) rfl rfl rfl (fun z198 e198 => ?_)
                      have q198 : (Int32.ofInt 3) = z198 := (sF_get).trans e198.symm
                      subst q198
                      refine g_iconst 3 202 (gd rfl) rfl rfl ?_
                      refine g_cmp_ne 205 220 (gd rfl) rfl rfl (fun c202 => ?_) (fun c202 => ?_)
                      · skip
                        exact n_ne c202 (in_c 3 rfl) (in_c 3 rfl) rfl
                      · skip
                        refine g_iload_n 206 (gd rfl) rfl rfl ?_
                        refine g_bipush 59 208 (gd rfl) rfl rfl ?_
                        refine g_cmp_eq 211 220 (gd rfl) rfl rfl (fun c208 => ?_) (fun c208 => ?_)
                        · skip
                          exact n_eq c208 i121x3 (in_c 59 rfl) rfl
                        · skip
                          refine g_aload_n 212 (gd rfl) rfl rfl ?_
                          refine g_iconst 1 213 (gd rfl) rfl rfl ?_
                          refine g_aload_n 214 (gd rfl) rfl rfl ?_
                          refine g_getI 217 (gd rfl) rfl rfl rfl (fun z214 e214 => ?_)
                          have q214 : w0_109_27 = z214 := (sF_ne rfl (sF_ne rfl (sF_get))).trans e214.symm
                          subst q214
                          refine g_callv (X := _) (As := [.int (Int32.ofInt 1), .int w0_109_27]) (r := []) (b := A 109) (q := 109) 220 (gd rfl) rfl rfl rfl rfl rfl (ww_o rfl) (Nat.le_of_ble_eq_true rfl) (Nat.zero_le _) (Nat.zero_le _) (f_298 (by first | exact dq1 hd rfl | exact dq0 hd rfl | exact dq2 hd rfl | exact dq3 hd rfl | omega) hI194 (in_w 1 5 (in_c 1 rfl) rfl) rfl) (fun e u h => h) (fun v u h => ?_)
                          obtain ⟨s217, hI217, hF217, n217, rfl, rfl, p217⟩ := h
                          obtain ⟨z217a, e217⟩ : ∃ w, w = s217.2.2.1 109 23 := ⟨_, rfl⟩
                          have i217a := inv_F hI217 0 9 rfl e217
                          rw [← (show z217a = s217.2.2.1 109 23 from e217)] at n217
                          show GG _ _ _ _ _ _ _ _ [] _ _ _
                          refine g_aload_n 221 (gd rfl) rfl rfl ?_
                          refine g_dup 222 (gd rfl) rfl rfl ?_
                          refine g_getI 225 (gd rfl) rfl rfl rfl (fun z222 e222 => ?_)
                          have q222 : w0_109_27 = z222 := (fr_F (s := (sF (sF (sF sc0 109 29 w0_109_27) 109 30 z71) 109 28 (Int32.ofInt 3))) (sF_ne rfl (sF_ne rfl (sF_ne rfl (v0_109_27)))) hF217 rfl).trans e222.symm
                          subst q222
                          refine g_iconst 1 226 (gd rfl) rfl rfl ?_
                          refine g_iadd 227 (gd rfl) rfl (fun z226 e226 => ?_)
                          have i226 := in_add 1 1000 e226 i71 (in_c 1 rfl) rfl rfl
                          refine g_putI 230 (gd rfl) rfl rfl rfl rfl ?_
                          have hI227 := inv_sF (q := 109) (j := 27) hI217 rfl (in_w 0 1000 i226 rfl)
                          have n230 : ∃ k v, TKN (s.1 125) (s.2.2.1 109 22).toInt.toNat (s.2.2.1 109 27).toInt.toNat ((sF s217 109 27 z226).2.2.1 109 29).toInt.toNat ((sF s217 109 27 z226).2.2.1 109 27).toInt.toNat k v ∧ NTK s (sF s217 109 27 z226) k v := by exfalso; have a0 := in_u ro_109_22; have a1 := in_u i71; have a2 := in_u ((in_c 0 rfl)); have a3 := in_u i121x3; have a4 := in_u i226; have a5 := t_add e226 i71 (in_c 1 rfl) rfl; have a6 := in_u ((in_c 1 rfl)); have a7 := in_u i217a; have a8 := in_u ((in_c 3 rfl)); have oc := oc_299_109; omega
                          have n230a : (z226).toInt ≤ (u_109_22).toInt := by have a0 := in_u ro_109_22; have a1 := in_u i71; have a2 := in_u ((in_c 0 rfl)); have a3 := in_u i121x3; have a4 := in_u i226; have a5 := t_add e226 i71 (in_c 1 rfl) rfl; have a6 := in_u ((in_c 1 rfl)); have a7 := in_u i217a; have a8 := in_u ((in_c 3 rfl)); have oc := oc_299_109; omega
                          have n230b : ((sF s217 109 27 z226).2.2.1 109 27).toInt ≤ ((sF s217 109 27 z226).2.2.1 109 22).toInt := by have b0 : z226 = (sF s217 109 27 z226).2.2.1 109 27 := sF_get; have b1 : u_109_22 = (sF s217 109 27 z226).2.2.1 109 22 := sF_ne rfl (fr_F (s := (sF (sF (sF sc0 109 29 w0_109_27) 109 30 z71) 109 28 (Int32.ofInt 3))) (sF_ne rfl (sF_ne rfl (sF_ne rfl (fr_F e_109_22 hFc0 rfl)))) hF217 rfl); rw [← b0, ← b1]; exact n230a
                          have n230c : (u_109_27).toInt ≤ (z226).toInt := by have a0 := in_u ro_109_22; have a1 := in_u i71; have a2 := in_u ((in_c 0 rfl)); have a3 := in_u i121x3; have a4 := in_u i226; have a5 := t_add e226 i71 (in_c 1 rfl) rfl; have a6 := in_u ((in_c 1 rfl)); have a7 := in_u i217a; have a8 := in_u ((in_c 3 rfl)); have oc := oc_299_109; omega
                          have n230d : (s.2.2.1 109 27).toInt ≤ ((sF s217 109 27 z226).2.2.1 109 27).toInt := by have b0 : z226 = (sF s217 109 27 z226).2.2.1 109 27 := sF_get; first | (rw [← b0, ← e_109_27]; exact n230c) | (rw [← b0]; exact n230c)
                          have n230e : ((Int32.ofInt 3)).toInt ≠ 0 → (u_109_27).toInt + 1 ≤ (z226).toInt := by have a0 := in_u ro_109_22; have a1 := in_u i71; have a2 := in_u ((in_c 0 rfl)); have a3 := in_u i121x3; have a4 := in_u i226; have a5 := t_add e226 i71 (in_c 1 rfl) rfl; have a6 := in_u ((in_c 1 rfl)); have a7 := in_u i217a; have a8 := in_u ((in_c 3 rfl)); have oc := oc_299_109; omega
                          have n230f : ((sF s217 109 27 z226).2.2.1 109 28).toInt ≠ 0 → (s.2.2.1 109 27).toInt + 1 ≤ ((sF s217 109 27 z226).2.2.1 109 27).toInt := by have b0 : (Int32.ofInt 3) = (sF s217 109 27 z226).2.2.1 109 28 := sF_ne rfl (fr_F (s := (sF (sF (sF sc0 109 29 w0_109_27) 109 30 z71) 109 28 (Int32.ofInt 3))) (sF_get) hF217 rfl); have b1 : z226 = (sF s217 109 27 z226).2.2.1 109 27 := sF_get; first | (rw [← b0, ← b1, ← e_109_27]; exact n230e) | (rw [← b0, ← b1]; exact n230e)
                          have n230g : ((Int32.ofInt 3)).toInt = 1 → 97 ≤ (z71).toInt := by have a0 := in_u ro_109_22; have a1 := in_u i71; have a2 := in_u ((in_c 0 rfl)); have a3 := in_u i121x3; have a4 := in_u i226; have a5 := t_add e226 i71 (in_c 1 rfl) rfl; have a6 := in_u ((in_c 1 rfl)); have a7 := in_u i217a; have a8 := in_u ((in_c 3 rfl)); have oc := oc_299_109; omega
                          have n230h : ((sF s217 109 27 z226).2.2.1 109 28).toInt = 1 → 97 ≤ ((sF s217 109 27 z226).2.2.1 109 30).toInt := by have b0 : (Int32.ofInt 3) = (sF s217 109 27 z226).2.2.1 109 28 := sF_ne rfl (fr_F (s := (sF (sF (sF sc0 109 29 w0_109_27) 109 30 z71) 109 28 (Int32.ofInt 3))) (sF_get) hF217 rfl); have b1 : z71 = (sF s217 109 27 z226).2.2.1 109 30 := sF_ne rfl (fr_F (s := (sF (sF (sF sc0 109 29 w0_109_27) 109 30 z71) 109 28 (Int32.ofInt 3))) (sF_ne rfl (sF_get)) hF217 rfl); rw [← b0, ← b1]; exact n230g
                          have n230i : ((Int32.ofInt 3)).toInt = 1 → (z71).toInt ≤ 122 := by have a0 := in_u ro_109_22; have a1 := in_u i71; have a2 := in_u ((in_c 0 rfl)); have a3 := in_u i121x3; have a4 := in_u i226; have a5 := t_add e226 i71 (in_c 1 rfl) rfl; have a6 := in_u ((in_c 1 rfl)); have a7 := in_u i217a; have a8 := in_u ((in_c 3 rfl)); have oc := oc_299_109; omega
                          have n230j : ((sF s217 109 27 z226).2.2.1 109 28).toInt = 1 → ((sF s217 109 27 z226).2.2.1 109 30).toInt ≤ 122 := by have b0 : (Int32.ofInt 3) = (sF s217 109 27 z226).2.2.1 109 28 := sF_ne rfl (fr_F (s := (sF (sF (sF sc0 109 29 w0_109_27) 109 30 z71) 109 28 (Int32.ofInt 3))) (sF_get) hF217 rfl); have b1 : z71 = (sF s217 109 27 z226).2.2.1 109 30 := sF_ne rfl (fr_F (s := (sF (sF (sF sc0 109 29 w0_109_27) 109 30 z71) 109 28 (Int32.ofInt 3))) (sF_ne rfl (sF_get)) hF217 rfl); rw [← b0, ← b1]; exact n230i
                          exact g_return (gd rfl) rfl (hP _ _ ⟨(sF s217 109 27 z226), hI227, (fr_sF rfl (fr_tr rfl (fr_sF rfl (fr_sF rfl (fr_sF rfl hFc0))) hF217)), n230b, n230d, n230f, n230h, n230j, rfl, rfl, n230⟩)
                    · skip
                      exact zn_ne c186 (in_c 0 rfl) rfl
                  · skip
                    exact n_le c183x3 (in_c 97 rfl) i121x3 rfl
                · skip
                  exact zn_ne c128 (in_c 0 rfl) rfl
            · skip
              have i121x3 := r_le2 48 126 c121x3 (in_c 48 rfl) i71a rfl
              refine g_iload_n 7 (gd rfl) rfl rfl ?_
              refine g_bipush 57 9 (gd rfl) rfl rfl ?_
              refine g_cmp_gt 12 16 (gd rfl) rfl rfl (fun c121x9 => ?_) (fun c121x9 => ?_)
              · skip
                have i121x9 := r_lt2 58 126 c121x9 (in_c 57 rfl) i121x3 rfl
                refine g_iconst 0 17 (gd rfl) rfl rfl ?_
                refine g_ireturn (gd rfl) rfl (nb01 (in_w 0 1 (in_c 0 rfl) rfl)) (hp121 _ _ ?_)
                show GG _ _ _ _ _ _ _ _ [.int (Int32.ofInt 0)] _ _ _
                refine g_if_ne 127 131 (gd rfl) rfl rfl (fun c124 => ?_) (fun c124 => ?_)
                · skip
                  exact zn_ne c124 (in_c 0 rfl) rfl
                · skip
                  refine g_iload_n 128 (gd rfl) rfl rfl ?_
                  refine g_if_eq 131 181 (gd rfl) rfl rfl (fun c128 => ?_) (fun c128 => ?_)
                  · skip
                    refine g_aload_n 182 (gd rfl) rfl rfl ?_
                    refine g_iload_n 183 (gd rfl) rfl rfl ?_
                    refine g_calls (As := [.int z71]) (r := [.ref (A 109)]) 186 (gd rfl) rfl rfl rfl rfl rfl (Nat.le_of_ble_eq_true rfl) (mc := 0) (ms := 0) (Nat.zero_le _) (Nat.zero_le _) (P := fun v u => _) ?_ (fun v u h => h)
                    intro po183 xx183 hp183 hx183
                    refine g_enter2 (k := 296) (N := 300) (by first | exact dq1 hd rfl | exact dq0 hd rfl | exact dq2 hd rfl | exact dq3 hd rfl | omega) rfl (Nat.le_of_ble_eq_true rfl) ?_
                    refine g_iload_n 1 (gd rfl) rfl rfl ?_
                    refine g_bipush 97 3 (gd rfl) rfl rfl ?_
                    refine g_cmp_lt 6 16 (gd rfl) rfl rfl (fun c183x3 => ?_) (fun c183x3 => ?_)
                    · skip
                      have i183x3 := r_lt1 58 96 c183x3 i121x9 (in_c 97 rfl) rfl
                      refine g_iconst 0 17 (gd rfl) rfl rfl ?_
                      refine g_ireturn (gd rfl) rfl (nb01 (in_w 0 1 (in_c 0 rfl) rfl)) (hp183 _ _ ?_)
                      show GG _ _ _ _ _ _ _ _ [.int (Int32.ofInt 0), .ref (A 109)] _ _ _
                      refine g_if_eq 189 193 (gd rfl) rfl rfl (fun c186 => ?_) (fun c186 => ?_)
                      · skip
                        refine g_iconst 3 194 (gd rfl) rfl rfl ?_
                        refine g_putI 197 (gd rfl) rfl rfl rfl rfl ?_
                        have hI194 := inv_sF (q := 109) (j := 28) hI75 rfl (in_w (-2147483648) 2147483647 (in_c 3 rfl) rfl)
                        refine g_aload_n 198 (gd rfl) rfl rfl ?_
                        refine g_getI 201 (gd rfl) rfl rfl rfl (fun z198 e198 => ?_)
                        have q198 : (Int32.ofInt 3) = z198 := (sF_get).trans e198.symm
                        subst q198
                        refine g_iconst 3 202 (gd rfl) rfl rfl ?_
                        refine g_cmp_ne 205 220 (gd rfl) rfl rfl (fun c202 => ?_) (fun c202 => ?_)
                        · skip
                          exact n_ne c202 (in_c 3 rfl) (in_c 3 rfl) rfl
                        · skip
                          refine g_iload_n 206 (gd rfl) rfl rfl ?_
                          refine g_bipush 59 208 (gd rfl) rfl rfl ?_
                          refine g_cmp_eq 211 220 (gd rfl) rfl rfl (fun c208 => ?_) (fun c208 => ?_)
                          · skip
                            have i208 := r_eq1 59 59 c208 i183x3 (in_c 59 rfl) rfl
                            refine g_aload_n 221 (gd rfl) rfl rfl ?_
                            refine g_dup 222 (gd rfl) rfl rfl ?_
                            refine g_getI 225 (gd rfl) rfl rfl rfl (fun z222 e222 => ?_)
                            have q222 : w0_109_27 = z222 := (sF_ne rfl (sF_ne rfl (sF_ne rfl (v0_109_27)))).trans e222.symm
                            subst q222
                            refine g_iconst 1 226 (gd rfl) rfl rfl ?_
                            refine g_iadd 227 (gd rfl) rfl (fun z226 e226 => ?_)
                            have i226 := in_add 1 1000 e226 i71 (in_c 1 rfl) rfl rfl
                            refine g_putI 230 (gd rfl) rfl rfl rfl rfl ?_
                            have hI227 := inv_sF (q := 109) (j := 27) hI194 rfl (in_w 0 1000 i226 rfl)
                            have n230 : ∃ k v, TKN (s.1 125) (s.2.2.1 109 22).toInt.toNat (s.2.2.1 109 27).toInt.toNat ((sF (sF (sF (sF sc0 109 29 w0_109_27) 109 30 z71) 109 28 (Int32.ofInt 3)) 109 27 z226).2.2.1 109 29).toInt.toNat ((sF (sF (sF (sF sc0 109 29 w0_109_27) 109 30 z71) 109 28 (Int32.ofInt 3)) 109 27 z226).2.2.1 109 27).toInt.toNat k v ∧ NTK s (sF (sF (sF (sF sc0 109 29 w0_109_27) 109 30 z71) 109 28 (Int32.ofInt 3)) 109 27 z226) k v := by exfalso; have a0 := in_u ro_109_22; have a1 := in_u i71; have a2 := in_u ((in_c 0 rfl)); have a3 := in_u i208; have a4 := in_u i226; have a5 := t_add e226 i71 (in_c 1 rfl) rfl; have a6 := in_u ((in_c 1 rfl)); have a7 := in_u ((in_c 3 rfl)); have oc := oc_299_109; omega
                            have n230a : (z226).toInt ≤ (u_109_22).toInt := by have a0 := in_u ro_109_22; have a1 := in_u i71; have a2 := in_u ((in_c 0 rfl)); have a3 := in_u i208; have a4 := in_u i226; have a5 := t_add e226 i71 (in_c 1 rfl) rfl; have a6 := in_u ((in_c 1 rfl)); have a7 := in_u ((in_c 3 rfl)); have oc := oc_299_109; omega
                            have n230b : ((sF (sF (sF (sF sc0 109 29 w0_109_27) 109 30 z71) 109 28 (Int32.ofInt 3)) 109 27 z226).2.2.1 109 27).toInt ≤ ((sF (sF (sF (sF sc0 109 29 w0_109_27) 109 30 z71) 109 28 (Int32.ofInt 3)) 109 27 z226).2.2.1 109 22).toInt := by have b0 : z226 = (sF (sF (sF (sF sc0 109 29 w0_109_27) 109 30 z71) 109 28 (Int32.ofInt 3)) 109 27 z226).2.2.1 109 27 := sF_get; have b1 : u_109_22 = (sF (sF (sF (sF sc0 109 29 w0_109_27) 109 30 z71) 109 28 (Int32.ofInt 3)) 109 27 z226).2.2.1 109 22 := sF_ne rfl (sF_ne rfl (sF_ne rfl (sF_ne rfl (fr_F e_109_22 hFc0 rfl)))); rw [← b0, ← b1]; exact n230a
                            have n230c : (u_109_27).toInt ≤ (z226).toInt := by have a0 := in_u ro_109_22; have a1 := in_u i71; have a2 := in_u ((in_c 0 rfl)); have a3 := in_u i208; have a4 := in_u i226; have a5 := t_add e226 i71 (in_c 1 rfl) rfl; have a6 := in_u ((in_c 1 rfl)); have a7 := in_u ((in_c 3 rfl)); have oc := oc_299_109; omega
                            have n230d : (s.2.2.1 109 27).toInt ≤ ((sF (sF (sF (sF sc0 109 29 w0_109_27) 109 30 z71) 109 28 (Int32.ofInt 3)) 109 27 z226).2.2.1 109 27).toInt := by have b0 : z226 = (sF (sF (sF (sF sc0 109 29 w0_109_27) 109 30 z71) 109 28 (Int32.ofInt 3)) 109 27 z226).2.2.1 109 27 := sF_get; first | (rw [← b0, ← e_109_27]; exact n230c) | (rw [← b0]; exact n230c)
                            have n230e : ((Int32.ofInt 3)).toInt ≠ 0 → (u_109_27).toInt + 1 ≤ (z226).toInt := by have a0 := in_u ro_109_22; have a1 := in_u i71; have a2 := in_u ((in_c 0 rfl)); have a3 := in_u i208; have a4 := in_u i226; have a5 := t_add e226 i71 (in_c 1 rfl) rfl; have a6 := in_u ((in_c 1 rfl)); have a7 := in_u ((in_c 3 rfl)); have oc := oc_299_109; omega
                            have n230f : ((sF (sF (sF (sF sc0 109 29 w0_109_27) 109 30 z71) 109 28 (Int32.ofInt 3)) 109 27 z226).2.2.1 109 28).toInt ≠ 0 → (s.2.2.1 109 27).toInt + 1 ≤ ((sF (sF (sF (sF sc0 109 29 w0_109_27) 109 30 z71) 109 28 (Int32.ofInt 3)) 109 27 z226).2.2.1 109 27).toInt := by have b0 : (Int32.ofInt 3) = (sF (sF (sF (sF sc0 109 29 w0_109_27) 109 30 z71) 109 28 (Int32.ofInt 3)) 109 27 z226).2.2.1 109 28 := sF_ne rfl (sF_get); have b1 : z226 = (sF (sF (sF (sF sc0 109 29 w0_109_27) 109 30 z71) 109 28 (Int32.ofInt 3)) 109 27 z226).2.2.1 109 27 := sF_get; first | (rw [← b0, ← b1, ← e_109_27]; exact n230e) | (rw [← b0, ← b1]; exact n230e)
                            have n230g : ((Int32.ofInt 3)).toInt = 1 → 97 ≤ (z71).toInt := by have a0 := in_u ro_109_22; have a1 := in_u i71; have a2 := in_u ((in_c 0 rfl)); have a3 := in_u i208; have a4 := in_u i226; have a5 := t_add e226 i71 (in_c 1 rfl) rfl; have a6 := in_u ((in_c 1 rfl)); have a7 := in_u ((in_c 3 rfl)); have oc := oc_299_109; omega
                            have n230h : ((sF (sF (sF (sF sc0 109 29 w0_109_27) 109 30 z71) 109 28 (Int32.ofInt 3)) 109 27 z226).2.2.1 109 28).toInt = 1 → 97 ≤ ((sF (sF (sF (sF sc0 109 29 w0_109_27) 109 30 z71) 109 28 (Int32.ofInt 3)) 109 27 z226).2.2.1 109 30).toInt := by have b0 : (Int32.ofInt 3) = (sF (sF (sF (sF sc0 109 29 w0_109_27) 109 30 z71) 109 28 (Int32.ofInt 3)) 109 27 z226).2.2.1 109 28 := sF_ne rfl (sF_get); have b1 : z71 = (sF (sF (sF (sF sc0 109 29 w0_109_27) 109 30 z71) 109 28 (Int32.ofInt 3)) 109 27 z226).2.2.1 109 30 := sF_ne rfl (sF_ne rfl (sF_get)); rw [← b0, ← b1]; exact n230g
                            have n230i : ((Int32.ofInt 3)).toInt = 1 → (z71).toInt ≤ 122 := by have a0 := in_u ro_109_22; have a1 := in_u i71; have a2 := in_u ((in_c 0 rfl)); have a3 := in_u i208; have a4 := in_u i226; have a5 := t_add e226 i71 (in_c 1 rfl) rfl; have a6 := in_u ((in_c 1 rfl)); have a7 := in_u ((in_c 3 rfl)); have oc := oc_299_109; omega
                            have n230j : ((sF (sF (sF (sF sc0 109 29 w0_109_27) 109 30 z71) 109 28 (Int32.ofInt 3)) 109 27 z226).2.2.1 109 28).toInt = 1 → ((sF (sF (sF (sF sc0 109 29 w0_109_27) 109 30 z71) 109 28 (Int32.ofInt 3)) 109 27 z226).2.2.1 109 30).toInt ≤ 122 := by have b0 : (Int32.ofInt 3) = (sF (sF (sF (sF sc0 109 29 w0_109_27) 109 30 z71) 109 28 (Int32.ofInt 3)) 109 27 z226).2.2.1 109 28 := sF_ne rfl (sF_get); have b1 : z71 = (sF (sF (sF (sF sc0 109 29 w0_109_27) 109 30 z71) 109 28 (Int32.ofInt 3)) 109 27 z226).2.2.1 109 30 := sF_ne rfl (sF_ne rfl (sF_get)); rw [← b0, ← b1]; exact n230i
                            exact g_return (gd rfl) rfl (hP _ _ ⟨(sF (sF (sF (sF sc0 109 29 w0_109_27) 109 30 z71) 109 28 (Int32.ofInt 3)) 109 27 z226), hI227, (fr_sF rfl (fr_sF rfl (fr_sF rfl (fr_sF rfl hFc0)))), n230b, n230d, n230f, n230h, n230j, rfl, rfl, n230⟩)
                          · skip
                            refine g_aload_n 212 (gd rfl) rfl rfl ?_
                            refine g_iconst 1 213 (gd rfl) rfl rfl ?_
                            refine g_aload_n 214 (gd rfl) rfl rfl ?_
                            refine g_getI 217 (gd rfl) rfl rfl rfl (fun z214 e214 => ?_)
                            have q214 : w0_109_27 = z214 := (sF_ne rfl (sF_ne rfl (sF_get))).trans e214.symm
                            subst q214
                            refine g_callv (X := _) (As := [.int (Int32.ofInt 1), .int w0_109_27]) (r := []) (b := A 109) (q := 109) 220 (gd rfl) rfl rfl rfl rfl rfl (ww_o rfl) (Nat.le_of_ble_eq_true rfl) (Nat.zero_le _) (Nat.zero_le _) (f_298 (by first | exact dq1 hd rfl | exact dq0 hd rfl | exact dq2 hd rfl | exact dq3 hd rfl | omega) hI194 (in_w 1 5 (in_c 1 rfl) rfl) rfl) (fun e u h => h) (fun v u h => ?_)
                            obtain ⟨s217, hI217, hF217, n217, rfl, rfl, p217⟩ := h
                            obtain ⟨z217a, e217⟩ : ∃ w, w = s217.2.2.1 109 23 := ⟨_, rfl⟩
                            have i217a := inv_F hI217 0 9 rfl e217
                            rw [← (show z217a = s217.2.2.1 109 23 from e217)] at n217
                            show GG _ _ _ _ _ _ _ _ [] _ _ _
                            refine g_aload_n 221 (gd rfl) rfl rfl ?_
                            refine g_dup 222 (gd rfl) rfl rfl ?_
                            refine g_getI 225 (gd rfl) rfl rfl rfl (fun z222 e222 => ?_)
                            have q222 : w0_109_27 = z222 := (fr_F (s := (sF (sF (sF sc0 109 29 w0_109_27) 109 30 z71) 109 28 (Int32.ofInt 3))) (sF_ne rfl (sF_ne rfl (sF_ne rfl (v0_109_27)))) hF217 rfl).trans e222.symm
                            subst q222
                            refine g_iconst 1 226 (gd rfl) rfl rfl ?_
                            refine g_iadd 227 (gd rfl) rfl (fun z226 e226 => ?_)
                            have i226 := in_add 1 1000 e226 i71 (in_c 1 rfl) rfl rfl
                            refine g_putI 230 (gd rfl) rfl rfl rfl rfl ?_
                            have hI227 := inv_sF (q := 109) (j := 27) hI217 rfl (in_w 0 1000 i226 rfl)
                            have n230 : ∃ k v, TKN (s.1 125) (s.2.2.1 109 22).toInt.toNat (s.2.2.1 109 27).toInt.toNat ((sF s217 109 27 z226).2.2.1 109 29).toInt.toNat ((sF s217 109 27 z226).2.2.1 109 27).toInt.toNat k v ∧ NTK s (sF s217 109 27 z226) k v := by exfalso; have a0 := in_u ro_109_22; have a1 := in_u i71; have a2 := in_u ((in_c 0 rfl)); have a3 := in_u i183x3; have a4 := in_u i226; have a5 := t_add e226 i71 (in_c 1 rfl) rfl; have a6 := in_u ((in_c 1 rfl)); have a7 := in_u i217a; have a8 := in_u ((in_c 3 rfl)); have oc := oc_299_109; omega
                            have n230a : (z226).toInt ≤ (u_109_22).toInt := by have a0 := in_u ro_109_22; have a1 := in_u i71; have a2 := in_u ((in_c 0 rfl)); have a3 := in_u i183x3; have a4 := in_u i226; have a5 := t_add e226 i71 (in_c 1 rfl) rfl; have a6 := in_u ((in_c 1 rfl)); have a7 := in_u i217a; have a8 := in_u ((in_c 3 rfl)); have oc := oc_299_109; omega
                            have n230b : ((sF s217 109 27 z226).2.2.1 109 27).toInt ≤ ((sF s217 109 27 z226).2.2.1 109 22).toInt := by have b0 : z226 = (sF s217 109 27 z226).2.2.1 109 27 := sF_get; have b1 : u_109_22 = (sF s217 109 27 z226).2.2.1 109 22 := sF_ne rfl (fr_F (s := (sF (sF (sF sc0 109 29 w0_109_27) 109 30 z71) 109 28 (Int32.ofInt 3))) (sF_ne rfl (sF_ne rfl (sF_ne rfl (fr_F e_109_22 hFc0 rfl)))) hF217 rfl); rw [← b0, ← b1]; exact n230a
                            have n230c : (u_109_27).toInt ≤ (z226).toInt := by have a0 := in_u ro_109_22; have a1 := in_u i71; have a2 := in_u ((in_c 0 rfl)); have a3 := in_u i183x3; have a4 := in_u i226; have a5 := t_add e226 i71 (in_c 1 rfl) rfl; have a6 := in_u ((in_c 1 rfl)); have a7 := in_u i217a; have a8 := in_u ((in_c 3 rfl)); have oc := oc_299_109; omega
                            have n230d : (s.2.2.1 109 27).toInt ≤ ((sF s217 109 27 z226).2.2.1 109 27).toInt := by have b0 : z226 = (sF s217 109 27 z226).2.2.1 109 27 := sF_get; first | (rw [← b0, ← e_109_27]; exact n230c) | (rw [← b0]; exact n230c)
                            have n230e : ((Int32.ofInt 3)).toInt ≠ 0 → (u_109_27).toInt + 1 ≤ (z226).toInt := by have a0 := in_u ro_109_22; have a1 := in_u i71; have a2 := in_u ((in_c 0 rfl)); have a3 := in_u i183x3; have a4 := in_u i226; have a5 := t_add e226 i71 (in_c 1 rfl) rfl; have a6 := in_u ((in_c 1 rfl)); have a7 := in_u i217a; have a8 := in_u ((in_c 3 rfl)); have oc := oc_299_109; omega
                            have n230f : ((sF s217 109 27 z226).2.2.1 109 28).toInt ≠ 0 → (s.2.2.1 109 27).toInt + 1 ≤ ((sF s217 109 27 z226).2.2.1 109 27).toInt := by have b0 : (Int32.ofInt 3) = (sF s217 109 27 z226).2.2.1 109 28 := sF_ne rfl (fr_F (s := (sF (sF (sF sc0 109 29 w0_109_27) 109 30 z71) 109 28 (Int32.ofInt 3))) (sF_get) hF217 rfl); have b1 : z226 = (sF s217 109 27 z226).2.2.1 109 27 := sF_get; first | (rw [← b0, ← b1, ← e_109_27]; exact n230e) | (rw [← b0, ← b1]; exact n230e)
                            have n230g : ((Int32.ofInt 3)).toInt = 1 → 97 ≤ (z71).toInt := by have a0 := in_u ro_109_22; have a1 := in_u i71; have a2 := in_u ((in_c 0 rfl)); have a3 := in_u i183x3; have a4 := in_u i226; have a5 := t_add e226 i71 (in_c 1 rfl) rfl; have a6 := in_u ((in_c 1 rfl)); have a7 := in_u i217a; have a8 := in_u ((in_c 3 rfl)); have oc := oc_299_109; omega
                            have n230h : ((sF s217 109 27 z226).2.2.1 109 28).toInt = 1 → 97 ≤ ((sF s217 109 27 z226).2.2.1 109 30).toInt := by have b0 : (Int32.ofInt 3) = (sF s217 109 27 z226).2.2.1 109 28 := sF_ne rfl (fr_F (s := (sF (sF (sF sc0 109 29 w0_109_27) 109 30 z71) 109 28 (Int32.ofInt 3))) (sF_get) hF217 rfl); have b1 : z71 = (sF s217 109 27 z226).2.2.1 109 30 := sF_ne rfl (fr_F (s := (sF (sF (sF sc0 109 29 w0_109_27) 109 30 z71) 109 28 (Int32.ofInt 3))) (sF_ne rfl (sF_get)) hF217 rfl); rw [← b0, ← b1]; exact n230g
                            have n230i : ((Int32.ofInt 3)).toInt = 1 → (z71).toInt ≤ 122 := by have a0 := in_u ro_109_22; have a1 := in_u i71; have a2 := in_u ((in_c 0 rfl)); have a3 := in_u i183x3; have a4 := in_u i226; have a5 := t_add e226 i71 (in_c 1 rfl) rfl; have a6 := in_u ((in_c 1 rfl)); have a7 := in_u i217a; have a8 := in_u ((in_c 3 rfl)); have oc := oc_299_109; omega
                            have n230j : ((sF s217 109 27 z226).2.2.1 109 28).toInt = 1 → ((sF s217 109 27 z226).2.2.1 109 30).toInt ≤ 122 := by have b0 : (Int32.ofInt 3) = (sF s217 109 27 z226).2.2.1 109 28 := sF_ne rfl (fr_F (s := (sF (sF (sF sc0 109 29 w0_109_27) 109 30 z71) 109 28 (Int32.ofInt 3))) (sF_get) hF217 rfl); have b1 : z71 = (sF s217 109 27 z226).2.2.1 109 30 := sF_ne rfl (fr_F (s := (sF (sF (sF sc0 109 29 w0_109_27) 109 30 z71) 109 28 (Int32.ofInt 3))) (sF_ne rfl (sF_get)) hF217 rfl); rw [← b0, ← b1]; exact n230i
                            exact g_return (gd rfl) rfl (hP _ _ ⟨(sF s217 109 27 z226), hI227, (fr_sF rfl (fr_tr rfl (fr_sF rfl (fr_sF rfl (fr_sF rfl hFc0))) hF217)), n230b, n230d, n230f, n230h, n230j, rfl, rfl, n230⟩)
                      · skip
                        exact zn_ne c186 (in_c 0 rfl) rfl
                    · skip
                      have i183x3 := r_le2 97 126 c183x3 (in_c 97 rfl) i121x9 rfl
                      refine g_iload_n 7 (gd rfl) rfl rfl ?_
                      refine g_bipush 122 9 (gd rfl) rfl rfl ?_
                      refine g_cmp_gt 12 16 (gd rfl) rfl rfl (fun c183x9 => ?_) (fun c183x9 => ?_)
                      · skip
                        have i183x9 := r_lt2 123 126 c183x9 (in_c 122 rfl) i183x3 rfl
                        refine g_iconst 0 17 (gd rfl) rfl rfl ?_
                        refine g_ireturn (gd rfl) rfl (nb01 (in_w 0 1 (in_c 0 rfl) rfl)) (hp183 _ _ ?_)
                        show GG _ _ _ _ _ _ _ _ [.int (Int32.ofInt 0), .ref (A 109)] _ _ _
                        refine g_if_eq 189 193 (gd rfl) rfl rfl (fun c186 => ?_) (fun c186 => ?_)
                        · skip
                          refine g_iconst 3 194 (gd rfl) rfl rfl ?_
                          refine g_putI 197 (gd rfl) rfl rfl rfl rfl ?_
                          have hI194 := inv_sF (q := 109) (j := 28) hI75 rfl (in_w (-2147483648) 2147483647 (in_c 3 rfl) rfl)
                          refine g_aload_n 198 (gd rfl) rfl rfl ?_
                          refine g_getI 201 (gd rfl) rfl rfl rfl (fun z198 e198 => ?_)
                          have q198 : (Int32.ofInt 3) = z198 := (sF_get).trans e198.symm
                          subst q198
                          refine g_iconst 3 202 (gd rfl) rfl rfl ?_
                          refine g_cmp_ne 205 220 (gd rfl) rfl rfl (fun c202 => ?_) (fun c202 => ?_)
                          · skip
                            exact n_ne c202 (in_c 3 rfl) (in_c 3 rfl) rfl
                          · skip
                            refine g_iload_n 206 (gd rfl) rfl rfl ?_
                            refine g_bipush 59 208 (gd rfl) rfl rfl ?_
                            refine g_cmp_eq 211 220 (gd rfl) rfl rfl (fun c208 => ?_) (fun c208 => ?_)
                            · skip
                              exact n_eq c208 i183x9 (in_c 59 rfl) rfl
                            · skip
                              refine g_aload_n 212 (gd rfl) rfl rfl ?_
                              refine g_iconst 1 213 (gd rfl) rfl rfl ?_
                              refine g_aload_n 214 (gd rfl) rfl rfl ?_
                              refine g_getI 217 (gd rfl) rfl rfl rfl (fun z214 e214 => ?_)
                              have q214 : w0_109_27 = z214 := (sF_ne rfl (sF_ne rfl (sF_get))).trans e214.symm
                              subst q214
                              refine g_callv (X := _) (As := [.int (Int32.ofInt 1), .int w0_109_27]) (r := []) (b := A 109) (q := 109) 220 (gd rfl) rfl rfl rfl rfl rfl (ww_o rfl) (Nat.le_of_ble_eq_true rfl) (Nat.zero_le _) (Nat.zero_le _) (f_298 (by first | exact dq1 hd rfl | exact dq0 hd rfl | exact dq2 hd rfl | exact dq3 hd rfl | omega) hI194 (in_w 1 5 (in_c 1 rfl) rfl) rfl) (fun e u h => h) (fun v u h => ?_)
                              obtain ⟨s217, hI217, hF217, n217, rfl, rfl, p217⟩ := h
                              obtain ⟨z217a, e217⟩ : ∃ w, w = s217.2.2.1 109 23 := ⟨_, rfl⟩
                              have i217a := inv_F hI217 0 9 rfl e217
                              rw [← (show z217a = s217.2.2.1 109 23 from e217)] at n217
                              show GG _ _ _ _ _ _ _ _ [] _ _ _
                              refine g_aload_n 221 (gd rfl) rfl rfl ?_
                              refine g_dup 222 (gd rfl) rfl rfl ?_
                              refine g_getI 225 (gd rfl) rfl rfl rfl (fun z222 e222 => ?_)
                              have q222 : w0_109_27 = z222 := (fr_F (s := (sF (sF (sF sc0 109 29 w0_109_27) 109 30 z71) 109 28 (Int32.ofInt 3))) (sF_ne rfl (sF_ne rfl (sF_ne rfl (v0_109_27)))) hF217 rfl).trans e222.symm
                              subst q222
                              refine g_iconst 1 226 (gd rfl) rfl rfl ?_
                              refine g_iadd 227 (gd rfl) rfl (fun z226 e226 => ?_)
                              have i226 := in_add 1 1000 e226 i71 (in_c 1 rfl) rfl rfl
                              refine g_putI 230 (gd rfl) rfl rfl rfl rfl ?_
                              have hI227 := inv_sF (q := 109) (j := 27) hI217 rfl (in_w 0 1000 i226 rfl)
                              have n230 : ∃ k v, TKN (s.1 125) (s.2.2.1 109 22).toInt.toNat (s.2.2.1 109 27).toInt.toNat ((sF s217 109 27 z226).2.2.1 109 29).toInt.toNat ((sF s217 109 27 z226).2.2.1 109 27).toInt.toNat k v ∧ NTK s (sF s217 109 27 z226) k v := by exfalso; have a0 := in_u ro_109_22; have a1 := in_u i71; have a2 := in_u ((in_c 0 rfl)); have a3 := in_u i183x9; have a4 := in_u i226; have a5 := t_add e226 i71 (in_c 1 rfl) rfl; have a6 := in_u ((in_c 1 rfl)); have a7 := in_u i217a; have a8 := in_u ((in_c 3 rfl)); have oc := oc_299_109; omega
                              have n230a : (z226).toInt ≤ (u_109_22).toInt := by have a0 := in_u ro_109_22; have a1 := in_u i71; have a2 := in_u ((in_c 0 rfl)); have a3 := in_u i183x9; have a4 := in_u i226; have a5 := t_add e226 i71 (in_c 1 rfl) rfl; have a6 := in_u ((in_c 1 rfl)); have a7 := in_u i217a; have a8 := in_u ((in_c 3 rfl)); have oc := oc_299_109; omega
                              have n230b : ((sF s217 109 27 z226).2.2.1 109 27).toInt ≤ ((sF s217 109 27 z226).2.2.1 109 22).toInt := by have b0 : z226 = (sF s217 109 27 z226).2.2.1 109 27 := sF_get; have b1 : u_109_22 = (sF s217 109 27 z226).2.2.1 109 22 := sF_ne rfl (fr_F (s := (sF (sF (sF sc0 109 29 w0_109_27) 109 30 z71) 109 28 (Int32.ofInt 3))) (sF_ne rfl (sF_ne rfl (sF_ne rfl (fr_F e_109_22 hFc0 rfl)))) hF217 rfl); rw [← b0, ← b1]; exact n230a
                              have n230c : (u_109_27).toInt ≤ (z226).toInt := by have a0 := in_u ro_109_22; have a1 := in_u i71; have a2 := in_u ((in_c 0 rfl)); have a3 := in_u i183x9; have a4 := in_u i226; have a5 := t_add e226 i71 (in_c 1 rfl) rfl; have a6 := in_u ((in_c 1 rfl)); have a7 := in_u i217a; have a8 := in_u ((in_c 3 rfl)); have oc := oc_299_109; omega
                              have n230d : (s.2.2.1 109 27).toInt ≤ ((sF s217 109 27 z226).2.2.1 109 27).toInt := by have b0 : z226 = (sF s217 109 27 z226).2.2.1 109 27 := sF_get; first | (rw [← b0, ← e_109_27]; exact n230c) | (rw [← b0]; exact n230c)
                              have n230e : ((Int32.ofInt 3)).toInt ≠ 0 → (u_109_27).toInt + 1 ≤ (z226).toInt := by have a0 := in_u ro_109_22; have a1 := in_u i71; have a2 := in_u ((in_c 0 rfl)); have a3 := in_u i183x9; have a4 := in_u i226; have a5 := t_add e226 i71 (in_c 1 rfl) rfl; have a6 := in_u ((in_c 1 rfl)); have a7 := in_u i217a; have a8 := in_u ((in_c 3 rfl)); have oc := oc_299_109; omega
                              have n230f : ((sF s217 109 27 z226).2.2.1 109 28).toInt ≠ 0 → (s.2.2.1 109 27).toInt + 1 ≤ ((sF s217 109 27 z226).2.2.1 109 27).toInt := by have b0 : (Int32.ofInt 3) = (sF s217 109 27 z226).2.2.1 109 28 := sF_ne rfl (fr_F (s := (sF (sF (sF sc0 109 29 w0_109_27) 109 30 z71) 109 28 (Int32.ofInt 3))) (sF_get) hF217 rfl); have b1 : z226 = (sF s217 109 27 z226).2.2.1 109 27 := sF_get; first | (rw [← b0, ← b1, ← e_109_27]; exact n230e) | (rw [← b0, ← b1]; exact n230e)
                              have n230g : ((Int32.ofInt 3)).toInt = 1 → 97 ≤ (z71).toInt := by have a0 := in_u ro_109_22; have a1 := in_u i71; have a2 := in_u ((in_c 0 rfl)); have a3 := in_u i183x9; have a4 := in_u i226; have a5 := t_add e226 i71 (in_c 1 rfl) rfl; have a6 := in_u ((in_c 1 rfl)); have a7 := in_u i217a; have a8 := in_u ((in_c 3 rfl)); have oc := oc_299_109; omega
                              have n230h : ((sF s217 109 27 z226).2.2.1 109 28).toInt = 1 → 97 ≤ ((sF s217 109 27 z226).2.2.1 109 30).toInt := by have b0 : (Int32.ofInt 3) = (sF s217 109 27 z226).2.2.1 109 28 := sF_ne rfl (fr_F (s := (sF (sF (sF sc0 109 29 w0_109_27) 109 30 z71) 109 28 (Int32.ofInt 3))) (sF_get) hF217 rfl); have b1 : z71 = (sF s217 109 27 z226).2.2.1 109 30 := sF_ne rfl (fr_F (s := (sF (sF (sF sc0 109 29 w0_109_27) 109 30 z71) 109 28 (Int32.ofInt 3))) (sF_ne rfl (sF_get)) hF217 rfl); rw [← b0, ← b1]; exact n230g
                              have n230i : ((Int32.ofInt 3)).toInt = 1 → (z71).toInt ≤ 122 := by have a0 := in_u ro_109_22; have a1 := in_u i71; have a2 := in_u ((in_c 0 rfl)); have a3 := in_u i183x9; have a4 := in_u i226; have a5 := t_add e226 i71 (in_c 1 rfl) rfl; have a6 := in_u ((in_c 1 rfl)); have a7 := in_u i217a; have a8 := in_u ((in_c 3 rfl)); have oc := oc_299_109; omega
                              have n230j : ((sF s217 109 27 z226).2.2.1 109 28).toInt = 1 → ((sF s217 109 27 z226).2.2.1 109 30).toInt ≤ 122 := by have b0 : (Int32.ofInt 3) = (sF s217 109 27 z226).2.2.1 109 28 := sF_ne rfl (fr_F (s := (sF (sF (sF sc0 109 29 w0_109_27) 109 30 z71) 109 28 (Int32.ofInt 3))) (sF_get) hF217 rfl); have b1 : z71 = (sF s217 109 27 z226).2.2.1 109 30 := sF_ne rfl (fr_F (s := (sF (sF (sF sc0 109 29 w0_109_27) 109 30 z71) 109 28 (Int32.ofInt 3))) (sF_ne rfl (sF_get)) hF217 rfl); rw [← b0, ← b1]; exact n230i
                              exact g_return (gd rfl) rfl (hP _ _ ⟨(sF s217 109 27 z226), hI227, (fr_sF rfl (fr_tr rfl (fr_sF rfl (fr_sF rfl (fr_sF rfl hFc0))) hF217)), n230b, n230d, n230f, n230h, n230j, rfl, rfl, n230⟩)
                        · skip
                          exact zn_ne c186 (in_c 0 rfl) rfl
                      · skip
                        have i183x9 := r_le1 97 122 c183x9 i183x3 (in_c 122 rfl) rfl
                        refine g_iconst 1 13 (gd rfl) rfl rfl ?_
                        refine g_goto 17 (gd rfl) rfl ?_
                        refine g_ireturn (gd rfl) rfl (nb01 (in_w 0 1 (in_c 1 rfl) rfl)) (hp183 _ _ ?_)
                        show GG _ _ _ _ _ _ _ _ [.int (Int32.ofInt 1), .ref (A 109)] _ _ _
                        refine g_if_eq 189 193 (gd rfl) rfl rfl (fun c186 => ?_) (fun c186 => ?_)
                        · skip
                          exact zn_eq c186 (in_c 1 rfl) rfl
                        · skip
                          refine g_iconst 1 190 (gd rfl) rfl rfl ?_
                          refine g_goto 194 (gd rfl) rfl ?_
                          refine g_putI 197 (gd rfl) rfl rfl rfl rfl ?_
                          have hI194 := inv_sF (q := 109) (j := 28) hI75 rfl (in_w (-2147483648) 2147483647 (in_c 1 rfl) rfl)
                          refine g_aload_n 198 (gd rfl) rfl rfl ?_
                          refine g_getI 201 (gd rfl) rfl rfl rfl (fun z198 e198 => ?_)
                          have q198 : (Int32.ofInt 1) = z198 := (sF_get).trans e198.symm
                          subst q198
                          refine g_iconst 3 202 (gd rfl) rfl rfl ?_
                          refine g_cmp_ne 205 220 (gd rfl) rfl rfl (fun c202 => ?_) (fun c202 => ?_)
                          · skip
                            refine g_aload_n 221 (gd rfl) rfl rfl ?_
                            refine g_dup 222 (gd rfl) rfl rfl ?_
                            refine g_getI 225 (gd rfl) rfl rfl rfl (fun z222 e222 => ?_)
                            have q222 : w0_109_27 = z222 := (sF_ne rfl (sF_ne rfl (sF_ne rfl (v0_109_27)))).trans e222.symm
                            subst q222
                            refine g_iconst 1 226 (gd rfl) rfl rfl ?_
                            refine g_iadd 227 (gd rfl) rfl (fun z226 e226 => ?_)
                            have i226 := in_add 1 1000 e226 i71 (in_c 1 rfl) rfl rfl
                            refine g_putI 230 (gd rfl) rfl rfl rfl rfl ?_
                            have hI227 := inv_sF (q := 109) (j := 27) hI194 rfl (in_w 0 1000 i226 rfl)
                            have n230 : ∃ k v, TKN (s.1 125) (s.2.2.1 109 22).toInt.toNat (s.2.2.1 109 27).toInt.toNat ((sF (sF (sF (sF sc0 109 29 w0_109_27) 109 30 z71) 109 28 (Int32.ofInt 1)) 109 27 z226).2.2.1 109 29).toInt.toNat ((sF (sF (sF (sF sc0 109 29 w0_109_27) 109 30 z71) 109 28 (Int32.ofInt 1)) 109 27 z226).2.2.1 109 27).toInt.toNat k v ∧ NTK s (sF (sF (sF (sF sc0 109 29 w0_109_27) 109 30 z71) 109 28 (Int32.ofInt 1)) 109 27 z226) k v := by exfalso; have a0 := in_u ro_109_22; have a1 := in_u i71; have a2 := in_u ((in_c 0 rfl)); have a3 := in_u i183x9; have a4 := in_u i226; have a5 := t_add e226 i71 (in_c 1 rfl) rfl; have a6 := in_u ((in_c 1 rfl)); have oc := oc_299_109; omega
                            have n230a : (z226).toInt ≤ (u_109_22).toInt := by have a0 := in_u ro_109_22; have a1 := in_u i71; have a2 := in_u ((in_c 0 rfl)); have a3 := in_u i183x9; have a4 := in_u i226; have a5 := t_add e226 i71 (in_c 1 rfl) rfl; have a6 := in_u ((in_c 1 rfl)); have oc := oc_299_109; omega
                            have n230b : ((sF (sF (sF (sF sc0 109 29 w0_109_27) 109 30 z71) 109 28 (Int32.ofInt 1)) 109 27 z226).2.2.1 109 27).toInt ≤ ((sF (sF (sF (sF sc0 109 29 w0_109_27) 109 30 z71) 109 28 (Int32.ofInt 1)) 109 27 z226).2.2.1 109 22).toInt := by have b0 : z226 = (sF (sF (sF (sF sc0 109 29 w0_109_27) 109 30 z71) 109 28 (Int32.ofInt 1)) 109 27 z226).2.2.1 109 27 := sF_get; have b1 : u_109_22 = (sF (sF (sF (sF sc0 109 29 w0_109_27) 109 30 z71) 109 28 (Int32.ofInt 1)) 109 27 z226).2.2.1 109 22 := sF_ne rfl (sF_ne rfl (sF_ne rfl (sF_ne rfl (fr_F e_109_22 hFc0 rfl)))); rw [← b0, ← b1]; exact n230a
                            have n230c : (u_109_27).toInt ≤ (z226).toInt := by have a0 := in_u ro_109_22; have a1 := in_u i71; have a2 := in_u ((in_c 0 rfl)); have a3 := in_u i183x9; have a4 := in_u i226; have a5 := t_add e226 i71 (in_c 1 rfl) rfl; have a6 := in_u ((in_c 1 rfl)); have oc := oc_299_109; omega
                            have n230d : (s.2.2.1 109 27).toInt ≤ ((sF (sF (sF (sF sc0 109 29 w0_109_27) 109 30 z71) 109 28 (Int32.ofInt 1)) 109 27 z226).2.2.1 109 27).toInt := by have b0 : z226 = (sF (sF (sF (sF sc0 109 29 w0_109_27) 109 30 z71) 109 28 (Int32.ofInt 1)) 109 27 z226).2.2.1 109 27 := sF_get; first | (rw [← b0, ← e_109_27]; exact n230c) | (rw [← b0]; exact n230c)
                            have n230e : ((Int32.ofInt 1)).toInt ≠ 0 → (u_109_27).toInt + 1 ≤ (z226).toInt := by have a0 := in_u ro_109_22; have a1 := in_u i71; have a2 := in_u ((in_c 0 rfl)); have a3 := in_u i183x9; have a4 := in_u i226; have a5 := t_add e226 i71 (in_c 1 rfl) rfl; have a6 := in_u ((in_c 1 rfl)); have oc := oc_299_109; omega
                            have n230f : ((sF (sF (sF (sF sc0 109 29 w0_109_27) 109 30 z71) 109 28 (Int32.ofInt 1)) 109 27 z226).2.2.1 109 28).toInt ≠ 0 → (s.2.2.1 109 27).toInt + 1 ≤ ((sF (sF (sF (sF sc0 109 29 w0_109_27) 109 30 z71) 109 28 (Int32.ofInt 1)) 109 27 z226).2.2.1 109 27).toInt := by have b0 : (Int32.ofInt 1) = (sF (sF (sF (sF sc0 109 29 w0_109_27) 109 30 z71) 109 28 (Int32.ofInt 1)) 109 27 z226).2.2.1 109 28 := sF_ne rfl (sF_get); have b1 : z226 = (sF (sF (sF (sF sc0 109 29 w0_109_27) 109 30 z71) 109 28 (Int32.ofInt 1)) 109 27 z226).2.2.1 109 27 := sF_get; first | (rw [← b0, ← b1, ← e_109_27]; exact n230e) | (rw [← b0, ← b1]; exact n230e)
                            have n230g : ((Int32.ofInt 1)).toInt = 1 → 97 ≤ (z71).toInt := by have a0 := in_u ro_109_22; have a1 := in_u i71; have a2 := in_u ((in_c 0 rfl)); have a3 := in_u i183x9; have a4 := in_u i226; have a5 := t_add e226 i71 (in_c 1 rfl) rfl; have a6 := in_u ((in_c 1 rfl)); have oc := oc_299_109; omega
                            have n230h : ((sF (sF (sF (sF sc0 109 29 w0_109_27) 109 30 z71) 109 28 (Int32.ofInt 1)) 109 27 z226).2.2.1 109 28).toInt = 1 → 97 ≤ ((sF (sF (sF (sF sc0 109 29 w0_109_27) 109 30 z71) 109 28 (Int32.ofInt 1)) 109 27 z226).2.2.1 109 30).toInt := by have b0 : (Int32.ofInt 1) = (sF (sF (sF (sF sc0 109 29 w0_109_27) 109 30 z71) 109 28 (Int32.ofInt 1)) 109 27 z226).2.2.1 109 28 := sF_ne rfl (sF_get); have b1 : z71 = (sF (sF (sF (sF sc0 109 29 w0_109_27) 109 30 z71) 109 28 (Int32.ofInt 1)) 109 27 z226).2.2.1 109 30 := sF_ne rfl (sF_ne rfl (sF_get)); rw [← b0, ← b1]; exact n230g
                            have n230i : ((Int32.ofInt 1)).toInt = 1 → (z71).toInt ≤ 122 := by have a0 := in_u ro_109_22; have a1 := in_u i71; have a2 := in_u ((in_c 0 rfl)); have a3 := in_u i183x9; have a4 := in_u i226; have a5 := t_add e226 i71 (in_c 1 rfl) rfl; have a6 := in_u ((in_c 1 rfl)); have oc := oc_299_109; omega
                            have n230j : ((sF (sF (sF (sF sc0 109 29 w0_109_27) 109 30 z71) 109 28 (Int32.ofInt 1)) 109 27 z226).2.2.1 109 28).toInt = 1 → ((sF (sF (sF (sF sc0 109 29 w0_109_27) 109 30 z71) 109 28 (Int32.ofInt 1)) 109 27 z226).2.2.1 109 30).toInt ≤ 122 := by have b0 : (Int32.ofInt 1) = (sF (sF (sF (sF sc0 109 29 w0_109_27) 109 30 z71) 109 28 (Int32.ofInt 1)) 109 27 z226).2.2.1 109 28 := sF_ne rfl (sF_get); have b1 : z71 = (sF (sF (sF (sF sc0 109 29 w0_109_27) 109 30 z71) 109 28 (Int32.ofInt 1)) 109 27 z226).2.2.1 109 30 := sF_ne rfl (sF_ne rfl (sF_get)); rw [← b0, ← b1]; exact n230i
                            exact g_return (gd rfl) rfl (hP _ _ ⟨(sF (sF (sF (sF sc0 109 29 w0_109_27) 109 30 z71) 109 28 (Int32.ofInt 1)) 109 27 z226), hI227, (fr_sF rfl (fr_sF rfl (fr_sF rfl (fr_sF rfl hFc0)))), n230b, n230d, n230f, n230h, n230j, rfl, rfl, n230⟩)
                          · skip
                            exact n_eq c202 (in_c 1 rfl) (in_c 3 rfl) rfl
                  · skip
                    exact zn_ne c128 (in_c 0 rfl) rfl
              · skip
                have i121x9 := r_le1 48 57 c121x9 i121x3 (in_c 57 rfl) rfl
                refine g_iconst 1 13 (gd rfl) rfl rfl ?_
                refine g_goto 17 (gd rfl) rfl ?_
                refine g_ireturn (gd rfl) rfl (nb01 (in_w 0 1 (in_c 1 rfl) rfl)) (hp121 _ _ ?_)
                show GG _ _ _ _ _ _ _ _ [.int (Int32.ofInt 1)] _ _ _
                refine g_if_ne 127 131 (gd rfl) rfl rfl (fun c124 => ?_) (fun c124 => ?_)
                · skip
                  refine g_aload_n 132 (gd rfl) rfl rfl ?_
                  refine g_iconst 2 133 (gd rfl) rfl rfl ?_
                  refine g_putI 136 (gd rfl) rfl rfl rfl rfl ?_
                  have hI133 := inv_sF (q := 109) (j := 28) hI75 rfl (in_w (-2147483648) 2147483647 (in_c 2 rfl) rfl)
                  refine g_aload_n 137 (gd rfl) rfl rfl ?_
                  refine g_dup 138 (gd rfl) rfl rfl ?_
                  refine g_getI 141 (gd rfl) rfl rfl rfl (fun z138 e138 => ?_)
                  have q138 : w0_109_27 = z138 := (sF_ne rfl (sF_ne rfl (sF_ne rfl (v0_109_27)))).trans e138.symm
                  subst q138
                  refine g_iload_n 142 (gd rfl) rfl rfl ?_
                  refine g_if_eq 145 149 (gd rfl) rfl rfl (fun c142 => ?_) (fun c142 => ?_)
                  · skip
                    refine g_iconst 0 150 (gd rfl) rfl rfl ?_
                    refine g_iadd 151 (gd rfl) rfl (fun z150 e150 => ?_)
                    have i150 := in_add 0 999 e150 i71 (in_c 0 rfl) rfl rfl
                    refine g_putI 154 (gd rfl) rfl rfl rfl rfl ?_
                    have hI151 := inv_sF (q := 109) (j := 27) hI133 rfl (in_w 0 1000 i150 rfl)
                    refine g_aload_n 155 (gd rfl) rfl rfl ?_
                    refine g_bipush 7 157 (gd rfl) rfl rfl ?_
                    have hA9 : _ = (sF (sF (sF (sF sc0 109 29 w0_109_27) 109 30 z71) 109 28 (Int32.ofInt 2)) 109 27 z150).2.2.1 109 27 := (show z150 = (sF (sF (sF (sF sc0 109 29 w0_109_27) 109 30 z71) 109 28 (Int32.ofInt 2)) 109 27 z150).2.2.1 109 27 from sF_get)
                    have hL9 : u_109_22 = (sF (sF (sF (sF sc0 109 29 w0_109_27) 109 30 z71) 109 28 (Int32.ofInt 2)) 109 27 z150).2.2.1 109 22 := (show u_109_22 = (sF (sF (sF (sF sc0 109 29 w0_109_27) 109 30 z71) 109 28 (Int32.ofInt 2)) 109 27 z150).2.2.1 109 22 from sF_ne rfl (sF_ne rfl (sF_ne rfl (sF_ne rfl (fr_F e_109_22 hFc0 rfl)))))
                    have hX9 : (sF (sF (sF (sF sc0 109 29 w0_109_27) 109 30 z71) 109 28 (Int32.ofInt 2)) 109 27 z150).1 125 = s.1 125 := hFc0.1 125 rfl
                    have hP9 : _ = (sF (sF (sF (sF sc0 109 29 w0_109_27) 109 30 z71) 109 28 (Int32.ofInt 2)) 109 27 z150).2.2.1 109 29 := (show w0_109_27 = (sF (sF (sF (sF sc0 109 29 w0_109_27) 109 30 z71) 109 28 (Int32.ofInt 2)) 109 27 z150).2.2.1 109 29 from sF_ne rfl (sF_ne rfl (sF_ne rfl (sF_get))))
                    have hF9 : FSM s (sF (sF (sF (sF sc0 109 29 w0_109_27) 109 30 z71) 109 28 (Int32.ofInt 2)) 109 27 z150) := g0_1
                    have v157 : z150 = (sF (sF (sF (sF sc0 109 29 w0_109_27) 109 30 z71) 109 28 (Int32.ofInt 2)) 109 27 z150).2.2.1 109 27 := sF_get
                    have v157a : u_109_22 = (sF (sF (sF (sF sc0 109 29 w0_109_27) 109 30 z71) 109 28 (Int32.ofInt 2)) 109 27 z150).2.2.1 109 22 := sF_ne rfl (sF_ne rfl (sF_ne rfl (sF_ne rfl (fr_F e_109_22 hFc0 rfl))))
                    have n157 : (z150).toInt < (u_109_22).toInt := by have a0 := in_u ro_109_22; have a1 := in_u i71; have a2 := in_u ((in_c 0 rfl)); have a3 := in_u i121x9; have a4 := in_u i150; have a5 := t_add e150 i71 (in_c 0 rfl) rfl; have a6 := in_u ((in_c 2 rfl)); have oc := oc_299_109; omega
                    have p157 : 48 ≤ ((sF (sF (sF (sF sc0 109 29 w0_109_27) 109 30 z71) 109 28 (Int32.ofInt 2)) 109 27 z150).1 125 ((sF (sF (sF (sF sc0 109 29 w0_109_27) 109 30 z71) 109 28 (Int32.ofInt 2)) 109 27 z150).2.2.1 109 27).toNatClampNeg).toInt ∧ ((sF (sF (sF (sF sc0 109 29 w0_109_27) 109 30 z71) 109 28 (Int32.ofInt 2)) 109 27 z150).1 125 ((sF (sF (sF (sF sc0 109 29 w0_109_27) 109 30 z71) 109 28 (Int32.ofInt 2)) 109 27 z150).2.2.1 109 27).toNatClampNeg).toInt ≤ 57 := by first | (have hz : z107 = (sF (sF (sF (sF sc0 109 29 w0_109_27) 109 30 z71) 109 28 (Int32.ofInt 2)) 109 27 z150).1 125 ((sF (sF (sF (sF sc0 109 29 w0_109_27) 109 30 z71) 109 28 (Int32.ofInt 2)) 109 27 z150).2.2.1 109 27).toNatClampNeg := (by rw [← (show z150 = (sF (sF (sF (sF sc0 109 29 w0_109_27) 109 30 z71) 109 28 (Int32.ofInt 2)) 109 27 z150).2.2.1 109 27 from sF_get), e150, ← e106]; exact e107); rw [← hz]; exact i108x9) | (have hz : z19 = (sF (sF (sF (sF sc0 109 29 w0_109_27) 109 30 z71) 109 28 (Int32.ofInt 2)) 109 27 z150).1 125 ((sF (sF (sF (sF sc0 109 29 w0_109_27) 109 30 z71) 109 28 (Int32.ofInt 2)) 109 27 z150).2.2.1 109 27).toNatClampNeg := (by rw [← (show z150 = (sF (sF (sF (sF sc0 109 29 w0_109_27) 109 30 z71) 109 28 (Int32.ofInt 2)) 109 27 z150).2.2.1 109 27 from sF_get), e150, show w0_109_27 + Int32.ofInt 0 = w0_109_27 from Int32.add_zero _]; exact e19); rw [← hz]; exact i121x9) | (have hz : z71 = (sF (sF (sF (sF sc0 109 29 w0_109_27) 109 30 z71) 109 28 (Int32.ofInt 2)) 109 27 z150).1 125 ((sF (sF (sF (sF sc0 109 29 w0_109_27) 109 30 z71) 109 28 (Int32.ofInt 2)) 109 27 z150).2.2.1 109 27).toNatClampNeg := (by rw [← (show z150 = (sF (sF (sF (sF sc0 109 29 w0_109_27) 109 30 z71) 109 28 (Int32.ofInt 2)) 109 27 z150).2.2.1 109 27 from sF_get), e150, show w0_109_27 + Int32.ofInt 0 = w0_109_27 from Int32.add_zero _]; exact e71); rw [← hz]; exact i121x9)
                    refine g_callv (X := _) (As := [.int (Int32.ofInt 7)]) (r := []) (b := A 109) (q := 109) 160 (gd rfl) rfl rfl rfl rfl rfl (ww_o rfl) (Nat.le_of_ble_eq_true rfl) (Nat.zero_le _) (Nat.zero_le _) (f_300 (by first | exact dq1 hd rfl | exact dq0 hd rfl | exact dq2 hd rfl | exact dq3 hd rfl | omega) hI151 (in_w 7 7 (in_c 7 rfl) rfl) v157 v157a n157 p157) (fun e u h => h) (fun v u h => ?_)
                    obtain ⟨s157, hI157, hF157, n157a, n157b, rfl, rfl, p157a⟩ := h
                    obtain ⟨z157a, e157⟩ : ∃ w, w = s157.2.2.1 109 27 := ⟨_, rfl⟩
                    have i157a := inv_F hI157 0 1000 rfl e157
                    rw [← (show z157a = s157.2.2.1 109 27 from e157)] at n157a
                    rw [← (show u_109_22 = s157.2.2.1 109 22 from fr_F (s := (sF (sF (sF (sF sc0 109 29 w0_109_27) 109 30 z71) 109 28 (Int32.ofInt 2)) 109 27 z150)) (sF_ne rfl (sF_ne rfl (sF_ne rfl (sF_ne rfl (fr_F e_109_22 hFc0 rfl))))) hF157 rfl)] at n157a
                    rw [← (show z150 = (sF (sF (sF (sF sc0 109 29 w0_109_27) 109 30 z71) 109 28 (Int32.ofInt 2)) 109 27 z150).2.2.1 109 27 from sF_get)] at n157b
                    rw [← (show z157a = s157.2.2.1 109 27 from e157)] at n157b
                    show GG _ _ _ _ _ _ _ _ [] _ _ _
                    refine g_aload_n 161 (gd rfl) rfl rfl ?_
                    refine g_iload_n 162 (gd rfl) rfl rfl ?_
                    refine g_if_eq 165 173 (gd rfl) rfl rfl (fun c162 => ?_) (fun c162 => ?_)
                    · skip
                      refine g_aload_n 174 (gd rfl) rfl rfl ?_
                      refine g_getL 177 (gd rfl) rfl rfl rfl (fun z174 e174 => ?_)
                      refine g_putL 180 (gd rfl) rfl rfl rfl rfl ?_
                      have hI177 := inv_sG (q := 109) (j := 31) (x := z174) hI157 rfl (l_rng z174)
                      have n180 : ∃ k v, TKN (s.1 125) (s.2.2.1 109 22).toInt.toNat (s.2.2.1 109 27).toInt.toNat ((sG s157 109 31 z174).2.2.1 109 29).toInt.toNat ((sG s157 109 31 z174).2.2.1 109 27).toInt.toNat k v ∧ NTK s (sG s157 109 31 z174) k v := by exfalso; have a0 := in_u ro_109_22; have a1 := in_u i71; have a2 := in_u ((in_c 0 rfl)); have a3 := in_u i121x9; have a4 := in_u i157a; have a5 := in_u ((in_c 2 rfl)); have a6 := in_u i150; have a7 := t_add e150 i71 (in_c 0 rfl) rfl; have oc := oc_299_109; omega
                      have n180a : (z157a).toInt ≤ (u_109_22).toInt := by have a0 := in_u ro_109_22; have a1 := in_u i71; have a2 := in_u ((in_c 0 rfl)); have a3 := in_u i121x9; have a4 := in_u i157a; have a5 := in_u ((in_c 2 rfl)); have a6 := in_u i150; have a7 := t_add e150 i71 (in_c 0 rfl) rfl; have oc := oc_299_109; omega
                      have n180b : ((sG s157 109 31 z174).2.2.1 109 27).toInt ≤ ((sG s157 109 31 z174).2.2.1 109 22).toInt := by have b0 : z157a = (sG s157 109 31 z174).2.2.1 109 27 := sG_F (e157); have b1 : u_109_22 = (sG s157 109 31 z174).2.2.1 109 22 := sG_F (fr_F (s := (sF (sF (sF (sF sc0 109 29 w0_109_27) 109 30 z71) 109 28 (Int32.ofInt 2)) 109 27 z150)) (sF_ne rfl (sF_ne rfl (sF_ne rfl (sF_ne rfl (fr_F e_109_22 hFc0 rfl))))) hF157 rfl); rw [← b0, ← b1]; exact n180a
                      have n180c : (u_109_27).toInt ≤ (z157a).toInt := by have a0 := in_u ro_109_22; have a1 := in_u i71; have a2 := in_u ((in_c 0 rfl)); have a3 := in_u i121x9; have a4 := in_u i157a; have a5 := in_u ((in_c 2 rfl)); have a6 := in_u i150; have a7 := t_add e150 i71 (in_c 0 rfl) rfl; have oc := oc_299_109; omega
                      have n180d : (s.2.2.1 109 27).toInt ≤ ((sG s157 109 31 z174).2.2.1 109 27).toInt := by have b0 : z157a = (sG s157 109 31 z174).2.2.1 109 27 := sG_F (e157); first | (rw [← b0, ← e_109_27]; exact n180c) | (rw [← b0]; exact n180c)
                      have n180e : ((Int32.ofInt 2)).toInt ≠ 0 → (u_109_27).toInt + 1 ≤ (z157a).toInt := by have a0 := in_u ro_109_22; have a1 := in_u i71; have a2 := in_u ((in_c 0 rfl)); have a3 := in_u i121x9; have a4 := in_u i157a; have a5 := in_u ((in_c 2 rfl)); have a6 := in_u i150; have a7 := t_add e150 i71 (in_c 0 rfl) rfl; have oc := oc_299_109; omega
                      have n180f : ((sG s157 109 31 z174).2.2.1 109 28).toInt ≠ 0 → (s.2.2.1 109 27).toInt + 1 ≤ ((sG s157 109 31 z174).2.2.1 109 27).toInt := by have b0 : (Int32.ofInt 2) = (sG s157 109 31 z174).2.2.1 109 28 := sG_F (fr_F (s := (sF (sF (sF (sF sc0 109 29 w0_109_27) 109 30 z71) 109 28 (Int32.ofInt 2)) 109 27 z150)) (sF_ne rfl (sF_get)) hF157 rfl); have b1 : z157a = (sG s157 109 31 z174).2.2.1 109 27 := sG_F (e157); first | (rw [← b0, ← b1, ← e_109_27]; exact n180e) | (rw [← b0, ← b1]; exact n180e)
                      have n180g : ((Int32.ofInt 2)).toInt = 1 → 97 ≤ (z71).toInt := by have a0 := in_u ro_109_22; have a1 := in_u i71; have a2 := in_u ((in_c 0 rfl)); have a3 := in_u i121x9; have a4 := in_u i157a; have a5 := in_u ((in_c 2 rfl)); have a6 := in_u i150; have a7 := t_add e150 i71 (in_c 0 rfl) rfl; have oc := oc_299_109; omega
                      have n180h : ((sG s157 109 31 z174).2.2.1 109 28).toInt = 1 → 97 ≤ ((sG s157 109 31 z174).2.2.1 109 30).toInt := by have b0 : (Int32.ofInt 2) = (sG s157 109 31 z174).2.2.1 109 28 := sG_F (fr_F (s := (sF (sF (sF (sF sc0 109 29 w0_109_27) 109 30 z71) 109 28 (Int32.ofInt 2)) 109 27 z150)) (sF_ne rfl (sF_get)) hF157 rfl); have b1 : z71 = (sG s157 109 31 z174).2.2.1 109 30 := sG_F (fr_F (s := (sF (sF (sF (sF sc0 109 29 w0_109_27) 109 30 z71) 109 28 (Int32.ofInt 2)) 109 27 z150)) (sF_ne rfl (sF_ne rfl (sF_get))) hF157 rfl); rw [← b0, ← b1]; exact n180g
                      have n180i : ((Int32.ofInt 2)).toInt = 1 → (z71).toInt ≤ 122 := by have a0 := in_u ro_109_22; have a1 := in_u i71; have a2 := in_u ((in_c 0 rfl)); have a3 := in_u i121x9; have a4 := in_u i157a; have a5 := in_u ((in_c 2 rfl)); have a6 := in_u i150; have a7 := t_add e150 i71 (in_c 0 rfl) rfl; have oc := oc_299_109; omega
                      have n180j : ((sG s157 109 31 z174).2.2.1 109 28).toInt = 1 → ((sG s157 109 31 z174).2.2.1 109 30).toInt ≤ 122 := by have b0 : (Int32.ofInt 2) = (sG s157 109 31 z174).2.2.1 109 28 := sG_F (fr_F (s := (sF (sF (sF (sF sc0 109 29 w0_109_27) 109 30 z71) 109 28 (Int32.ofInt 2)) 109 27 z150)) (sF_ne rfl (sF_get)) hF157 rfl); have b1 : z71 = (sG s157 109 31 z174).2.2.1 109 30 := sG_F (fr_F (s := (sF (sF (sF (sF sc0 109 29 w0_109_27) 109 30 z71) 109 28 (Int32.ofInt 2)) 109 27 z150)) (sF_ne rfl (sF_ne rfl (sF_get))) hF157 rfl); rw [← b0, ← b1]; exact n180i
                      exact g_return (gd rfl) rfl (hP _ _ ⟨(sG s157 109 31 z174), hI177, (fr_sG rfl (fr_tr rfl (fr_sF rfl (fr_sF rfl (fr_sF rfl (fr_sF rfl hFc0)))) hF157)), n180b, n180d, n180f, n180h, n180j, rfl, rfl, n180⟩)
                    · skip
                      exact zn_ne c162 (in_c 0 rfl) rfl
                  · skip
                    exact zn_ne c142 (in_c 0 rfl) rfl
                · skip
                  exact zn_eq c124 (in_c 1 rfl) rfl
          · skip
            have i81 := r_eq1 45 45 c81 i71a (in_c 45 rfl) rfl
            refine g_aload_n 85 (gd rfl) rfl rfl ?_
            refine g_getI 88 (gd rfl) rfl rfl rfl (fun z85 e85 => ?_)
            have q85 : w0_109_27 = z85 := (sF_ne rfl (sF_ne rfl (v0_109_27))).trans e85.symm
            subst q85
            refine g_iconst 1 89 (gd rfl) rfl rfl ?_
            refine g_iadd 90 (gd rfl) rfl (fun z89 e89 => ?_)
            have i89 := in_add 1 1000 e89 i71 (in_c 1 rfl) rfl rfl
            refine g_aload_n 91 (gd rfl) rfl rfl ?_
            refine g_getI 94 (gd rfl) rfl rfl rfl (fun z91 e91 => ?_)
            have q91 : u_109_22 = z91 := (sF_ne rfl (sF_ne rfl (fr_F e_109_22 hFc0 rfl))).trans e91.symm
            subst q91
            refine g_cmp_ge 97 118 (gd rfl) rfl rfl (fun c94 => ?_) (fun c94 => ?_)
            · skip
              refine g_iconst 0 119 (gd rfl) rfl rfl ?_
              refine g_istore_n 120 (gd rfl) rfl (Nat.le_of_ble_eq_true rfl) ?_
              refine g_iload_n 121 (gd rfl) rfl rfl ?_
              refine g_calls (As := [.int z71]) (r := []) 124 (gd rfl) rfl rfl rfl rfl rfl (Nat.le_of_ble_eq_true rfl) (mc := 0) (ms := 0) (Nat.zero_le _) (Nat.zero_le _) (P := fun v u => _) ?_ (fun v u h => h)
              intro po121 xx121 hp121 hx121
              refine g_enter2 (k := 297) (N := 300) (by first | exact dq1 hd rfl | exact dq0 hd rfl | exact dq2 hd rfl | exact dq3 hd rfl | omega) rfl (Nat.le_of_ble_eq_true rfl) ?_
              refine g_iload_n 1 (gd rfl) rfl rfl ?_
              refine g_bipush 48 3 (gd rfl) rfl rfl ?_
              refine g_cmp_lt 6 16 (gd rfl) rfl rfl (fun c121x3 => ?_) (fun c121x3 => ?_)
              · skip
                refine g_iconst 0 17 (gd rfl) rfl rfl ?_
                refine g_ireturn (gd rfl) rfl (nb01 (in_w 0 1 (in_c 0 rfl) rfl)) (hp121 _ _ ?_)
                show GG _ _ _ _ _ _ _ _ [.int (Int32.ofInt 0)] _ _ _
                refine g_if_ne 127 131 (gd rfl) rfl rfl (fun c124 => ?_) (fun c124 => ?_)
                · skip
                  exact zn_ne c124 (in_c 0 rfl) rfl
                · skip
                  refine g_iload_n 128 (gd rfl) rfl rfl ?_
                  refine g_if_eq 131 181 (gd rfl) rfl rfl (fun c128 => ?_) (fun c128 => ?_)
                  · skip
                    refine g_aload_n 182 (gd rfl) rfl rfl ?_
                    refine g_iload_n 183 (gd rfl) rfl rfl ?_
                    refine g_calls (As := [.int z71]) (r := [.ref (A 109)]) 186 (gd rfl) rfl rfl rfl rfl rfl (Nat.le_of_ble_eq_true rfl) (mc := 0) (ms := 0) (Nat.zero_le _) (Nat.zero_le _) (P := fun v u => _) ?_ (fun v u h => h)
                    intro po183 xx183 hp183 hx183
                    refine g_enter2 (k := 296) (N := 300) (by first | exact dq1 hd rfl | exact dq0 hd rfl | exact dq2 hd rfl | exact dq3 hd rfl | omega) rfl (Nat.le_of_ble_eq_true rfl) ?_
                    refine g_iload_n 1 (gd rfl) rfl rfl ?_
                    refine g_bipush 97 3 (gd rfl) rfl rfl ?_
                    refine g_cmp_lt 6 16 (gd rfl) rfl rfl (fun c183x3 => ?_) (fun c183x3 => ?_)
                    · skip
                      refine g_iconst 0 17 (gd rfl) rfl rfl ?_
                      refine g_ireturn (gd rfl) rfl (nb01 (in_w 0 1 (in_c 0 rfl) rfl)) (hp183 _ _ ?_)
                      show GG _ _ _ _ _ _ _ _ [.int (Int32.ofInt 0), .ref (A 109)] _ _ _
                      refine g_if_eq 189 193 (gd rfl) rfl rfl (fun c186 => ?_) (fun c186 => ?_)
                      · skip
                        refine g_iconst 3 194 (gd rfl) rfl rfl ?_
                        refine g_putI 197 (gd rfl) rfl rfl rfl rfl ?_
                        have hI194 := inv_sF (q := 109) (j := 28) hI75 rfl (in_w (-2147483648) 2147483647 (in_c 3 rfl) rfl)
                        refine g_aload_n 198 (gd rfl) rfl rfl ?_
                        refine g_getI 201 (gd rfl) rfl rfl rfl (fun z198 e198 => ?_)
                        have q198 : (Int32.ofInt 3) = z198 := (sF_get).trans e198.symm
                        subst q198
                        refine g_iconst 3 202 (gd rfl) rfl rfl ?_
                        refine g_cmp_ne 205 220 (gd rfl) rfl rfl (fun c202 => ?_) (fun c202 => ?_)
                        · skip
                          exact n_ne c202 (in_c 3 rfl) (in_c 3 rfl) rfl
                        · skip
                          refine g_iload_n 206 (gd rfl) rfl rfl ?_
                          refine g_bipush 59 208 (gd rfl) rfl rfl ?_
                          refine g_cmp_eq 211 220 (gd rfl) rfl rfl (fun c208 => ?_) (fun c208 => ?_)
                          · skip
                            exact n_eq c208 i81 (in_c 59 rfl) rfl
                          · skip
                            refine g_aload_n 212 (gd rfl) rfl rfl ?_
                            refine g_iconst 1 213 (gd rfl) rfl rfl ?_
                            refine g_aload_n 214 (gd rfl) rfl rfl ?_
                            refine g_getI 217 (gd rfl) rfl rfl rfl (fun z214 e214 => ?_)
                            have q214 : w0_109_27 = z214 := (sF_ne rfl (sF_ne rfl (sF_get))).trans e214.symm
                            subst q214
                            refine g_callv (X := _) (As := [.int (Int32.ofInt 1), .int w0_109_27]) (r := []) (b := A 109) (q := 109) 220 (gd rfl) rfl rfl rfl rfl rfl (ww_o rfl) (Nat.le_of_ble_eq_true rfl) (Nat.zero_le _) (Nat.zero_le _) (f_298 (by first | exact dq1 hd rfl | exact dq0 hd rfl | exact dq2 hd rfl | exact dq3 hd rfl | omega) hI194 (in_w 1 5 (in_c 1 rfl) rfl) rfl) (fun e u h => h) (fun v u h => ?_)
                            obtain ⟨s217, hI217, hF217, n217, rfl, rfl, p217⟩ := h
                            obtain ⟨z217a, e217⟩ : ∃ w, w = s217.2.2.1 109 23 := ⟨_, rfl⟩
                            have i217a := inv_F hI217 0 9 rfl e217
                            rw [← (show z217a = s217.2.2.1 109 23 from e217)] at n217
                            show GG _ _ _ _ _ _ _ _ [] _ _ _
                            refine g_aload_n 221 (gd rfl) rfl rfl ?_
                            refine g_dup 222 (gd rfl) rfl rfl ?_
                            refine g_getI 225 (gd rfl) rfl rfl rfl (fun z222 e222 => ?_)
                            have q222 : w0_109_27 = z222 := (fr_F (s := (sF (sF (sF sc0 109 29 w0_109_27) 109 30 z71) 109 28 (Int32.ofInt 3))) (sF_ne rfl (sF_ne rfl (sF_ne rfl (v0_109_27)))) hF217 rfl).trans e222.symm
                            subst q222
                            refine g_iconst 1 226 (gd rfl) rfl rfl ?_
                            refine g_iadd 227 (gd rfl) rfl (fun z226 e226 => ?_)
                            have i226 := in_add 1 1000 e226 i71 (in_c 1 rfl) rfl rfl
                            refine g_putI 230 (gd rfl) rfl rfl rfl rfl ?_
                            have hI227 := inv_sF (q := 109) (j := 27) hI217 rfl (in_w 0 1000 i226 rfl)
                            have n230 : ∃ k v, TKN (s.1 125) (s.2.2.1 109 22).toInt.toNat (s.2.2.1 109 27).toInt.toNat ((sF s217 109 27 z226).2.2.1 109 29).toInt.toNat ((sF s217 109 27 z226).2.2.1 109 27).toInt.toNat k v ∧ NTK s (sF s217 109 27 z226) k v := by exfalso; have a0 := in_u ro_109_22; have a1 := in_u i71; have a2 := in_u ((in_c 0 rfl)); have a3 := in_u i81; have a4 := in_u i226; have a5 := t_add e226 i71 (in_c 1 rfl) rfl; have a6 := in_u ((in_c 1 rfl)); have a7 := in_u i217a; have a8 := in_u ((in_c 3 rfl)); have a9 := in_u i89; have a10 := t_add e89 i71 (in_c 1 rfl) rfl; have oc := oc_299_109; omega
                            have n230a : (z226).toInt ≤ (u_109_22).toInt := by have a0 := in_u ro_109_22; have a1 := in_u i71; have a2 := in_u ((in_c 0 rfl)); have a3 := in_u i81; have a4 := in_u i226; have a5 := t_add e226 i71 (in_c 1 rfl) rfl; have a6 := in_u ((in_c 1 rfl)); have a7 := in_u i217a; have a8 := in_u ((in_c 3 rfl)); have a9 := in_u i89; have a10 := t_add e89 i71 (in_c 1 rfl) rfl; have oc := oc_299_109; omega
                            have n230b : ((sF s217 109 27 z226).2.2.1 109 27).toInt ≤ ((sF s217 109 27 z226).2.2.1 109 22).toInt := by have b0 : z226 = (sF s217 109 27 z226).2.2.1 109 27 := sF_get; have b1 : u_109_22 = (sF s217 109 27 z226).2.2.1 109 22 := sF_ne rfl (fr_F (s := (sF (sF (sF sc0 109 29 w0_109_27) 109 30 z71) 109 28 (Int32.ofInt 3))) (sF_ne rfl (sF_ne rfl (sF_ne rfl (fr_F e_109_22 hFc0 rfl)))) hF217 rfl); rw [← b0, ← b1]; exact n230a
                            have n230c : (u_109_27).toInt ≤ (z226).toInt := by have a0 := in_u ro_109_22; have a1 := in_u i71; have a2 := in_u ((in_c 0 rfl)); have a3 := in_u i81; have a4 := in_u i226; have a5 := t_add e226 i71 (in_c 1 rfl) rfl; have a6 := in_u ((in_c 1 rfl)); have a7 := in_u i217a; have a8 := in_u ((in_c 3 rfl)); have a9 := in_u i89; have a10 := t_add e89 i71 (in_c 1 rfl) rfl; have oc := oc_299_109; omega
                            have n230d : (s.2.2.1 109 27).toInt ≤ ((sF s217 109 27 z226).2.2.1 109 27).toInt := by have b0 : z226 = (sF s217 109 27 z226).2.2.1 109 27 := sF_get; first | (rw [← b0, ← e_109_27]; exact n230c) | (rw [← b0]; exact n230c)
                            have n230e : ((Int32.ofInt 3)).toInt ≠ 0 → (u_109_27).toInt + 1 ≤ (z226).toInt := by have a0 := in_u ro_109_22; have a1 := in_u i71; have a2 := in_u ((in_c 0 rfl)); have a3 := in_u i81; have a4 := in_u i226; have a5 := t_add e226 i71 (in_c 1 rfl) rfl; have a6 := in_u ((in_c 1 rfl)); have a7 := in_u i217a; have a8 := in_u ((in_c 3 rfl)); have a9 := in_u i89; have a10 := t_add e89 i71 (in_c 1 rfl) rfl; have oc := oc_299_109; omega
                            have n230f : ((sF s217 109 27 z226).2.2.1 109 28).toInt ≠ 0 → (s.2.2.1 109 27).toInt + 1 ≤ ((sF s217 109 27 z226).2.2.1 109 27).toInt := by have b0 : (Int32.ofInt 3) = (sF s217 109 27 z226).2.2.1 109 28 := sF_ne rfl (fr_F (s := (sF (sF (sF sc0 109 29 w0_109_27) 109 30 z71) 109 28 (Int32.ofInt 3))) (sF_get) hF217 rfl); have b1 : z226 = (sF s217 109 27 z226).2.2.1 109 27 := sF_get; first | (rw [← b0, ← b1, ← e_109_27]; exact n230e) | (rw [← b0, ← b1]; exact n230e)
                            have n230g : ((Int32.ofInt 3)).toInt = 1 → 97 ≤ (z71).toInt := by have a0 := in_u ro_109_22; have a1 := in_u i71; have a2 := in_u ((in_c 0 rfl)); have a3 := in_u i81; have a4 := in_u i226; have a5 := t_add e226 i71 (in_c 1 rfl) rfl; have a6 := in_u ((in_c 1 rfl)); have a7 := in_u i217a; have a8 := in_u ((in_c 3 rfl)); have a9 := in_u i89; have a10 := t_add e89 i71 (in_c 1 rfl) rfl; have oc := oc_299_109; omega
                            have n230h : ((sF s217 109 27 z226).2.2.1 109 28).toInt = 1 → 97 ≤ ((sF s217 109 27 z226).2.2.1 109 30).toInt := by have b0 : (Int32.ofInt 3) = (sF s217 109 27 z226).2.2.1 109 28 := sF_ne rfl (fr_F (s := (sF (sF (sF sc0 109 29 w0_109_27) 109 30 z71) 109 28 (Int32.ofInt 3))) (sF_get) hF217 rfl); have b1 : z71 = (sF s217 109 27 z226).2.2.1 109 30 := sF_ne rfl (fr_F (s := (sF (sF (sF sc0 109 29 w0_109_27) 109 30 z71) 109 28 (Int32.ofInt 3))) (sF_ne rfl (sF_get)) hF217 rfl); rw [← b0, ← b1]; exact n230g
                            have n230i : ((Int32.ofInt 3)).toInt = 1 → (z71).toInt ≤ 122 := by have a0 := in_u ro_109_22; have a1 := in_u i71; have a2 := in_u ((in_c 0 rfl)); have a3 := in_u i81; have a4 := in_u i226; have a5 := t_add e226 i71 (in_c 1 rfl) rfl; have a6 := in_u ((in_c 1 rfl)); have a7 := in_u i217a; have a8 := in_u ((in_c 3 rfl)); have a9 := in_u i89; have a10 := t_add e89 i71 (in_c 1 rfl) rfl; have oc := oc_299_109; omega
                            have n230j : ((sF s217 109 27 z226).2.2.1 109 28).toInt = 1 → ((sF s217 109 27 z226).2.2.1 109 30).toInt ≤ 122 := by have b0 : (Int32.ofInt 3) = (sF s217 109 27 z226).2.2.1 109 28 := sF_ne rfl (fr_F (s := (sF (sF (sF sc0 109 29 w0_109_27) 109 30 z71) 109 28 (Int32.ofInt 3))) (sF_get) hF217 rfl); have b1 : z71 = (sF s217 109 27 z226).2.2.1 109 30 := sF_ne rfl (fr_F (s := (sF (sF (sF sc0 109 29 w0_109_27) 109 30 z71) 109 28 (Int32.ofInt 3))) (sF_ne rfl (sF_get)) hF217 rfl); rw [← b0, ← b1]; exact n230i
                            exact g_return (gd rfl) rfl (hP _ _ ⟨(sF s217 109 27 z226), hI227, (fr_sF rfl (fr_tr rfl (fr_sF rfl (fr_sF rfl (fr_sF rfl hFc0))) hF217)), n230b, n230d, n230f, n230h, n230j, rfl, rfl, n230⟩)
                      · skip
                        exact zn_ne c186 (in_c 0 rfl) rfl
                    · skip
                      exact n_le c183x3 (in_c 97 rfl) i81 rfl
                  · skip
                    exact zn_ne c128 (in_c 0 rfl) rfl
              · skip
                exact n_le c121x3 (in_c 48 rfl) i81 rfl
            · skip
              have i94 := r_lt1 1 999 c94 i89 ro_109_22 rfl
              have i94a := r_lt2 2 1000 c94 i89 ro_109_22 rfl
              refine g_aload_n 98 (gd rfl) rfl rfl ?_
              refine g_getA (q2 := 125) 101 (gd rfl) rfl rfl rfl rfl ?_
              refine g_aload_n 102 (gd rfl) rfl rfl ?_
              refine g_getI 105 (gd rfl) rfl rfl rfl (fun z102 e102 => ?_)
              have q102 : w0_109_27 = z102 := (sF_ne rfl (sF_ne rfl (v0_109_27))).trans e102.symm
              subst q102
              refine g_iconst 1 106 (gd rfl) rfl rfl ?_
              refine g_iadd 107 (gd rfl) rfl (fun z106 e106 => ?_)
              have i106 := in_add 1 1000 e106 i71 (in_c 1 rfl) rfl rfl
              have i107 : In z106 0 999 := by have a0 := in_u i94a; have a1 := in_u i71; have a2 := in_u i81; have a3 := in_u i106; have a4 := t_add e106 i71 (in_c 1 rfl) rfl; have a5 := in_u ((in_c 1 rfl)); have a6 := in_u i94; have a7 := t_add e89 i71 (in_c 1 rfl) rfl; have oc := oc_299_109; exact ⟨by omega, by omega⟩
              refine g_iaload 108 (gd rfl) rfl (n := 1000) rfl (in_ix i107 rfl) (fun z107 e107 => ?_)
              have i107a := inv_I hI75 (n := 1000) (t := 0) 0 126 rfl (in_ix i107 rfl) rfl e107
              refine g_calls (As := [.int z107]) (r := []) 111 (gd rfl) rfl rfl rfl rfl rfl (Nat.le_of_ble_eq_true rfl) (mc := 0) (ms := 0) (Nat.zero_le _) (Nat.zero_le _) (P := fun v u => _) ?_ (fun v u h => h)
              intro po108 xx108 hp108 hx108
              refine g_enter2 (k := 297) (N := 300) (by first | exact dq1 hd rfl | exact dq0 hd rfl | exact dq2 hd rfl | exact dq3 hd rfl | omega) rfl (Nat.le_of_ble_eq_true rfl) ?_
              refine g_iload_n 1 (gd rfl) rfl rfl ?_
              refine g_bipush 48 3 (gd rfl) rfl rfl ?_
              refine g_cmp_lt 6 16 (gd rfl) rfl rfl (fun c108x3 => ?_) (fun c108x3 => ?_)
              · skip
                have i108x3 := r_lt1 0 47 c108x3 i107a (in_c 48 rfl) rfl
                refine g_iconst 0 17 (gd rfl) rfl rfl ?_
                refine g_ireturn (gd rfl) rfl (nb01 (in_w 0 1 (in_c 0 rfl) rfl)) (hp108 _ _ ?_)
                show GG _ _ _ _ _ _ _ _ [.int (Int32.ofInt 0)] _ _ _
                refine g_if_eq 114 118 (gd rfl) rfl rfl (fun c111 => ?_) (fun c111 => ?_)
                · skip
                  refine g_iconst 0 119 (gd rfl) rfl rfl ?_
                  refine g_istore_n 120 (gd rfl) rfl (Nat.le_of_ble_eq_true rfl) ?_
                  refine g_iload_n 121 (gd rfl) rfl rfl ?_
                  refine g_calls (As := [.int z71]) (r := []) 124 (gd rfl) rfl rfl rfl rfl rfl (Nat.le_of_ble_eq_true rfl) (mc := 0) (ms := 0) (Nat.zero_le _) (Nat.zero_le _) (P := fun v u => _) ?_ (fun v u h => h)
                  intro po121 xx121 hp121 hx121
                  refine g_enter2 (k := 297) (N := 300) (by first | exact dq1 hd rfl | exact dq0 hd rfl | exact dq2 hd rfl | exact dq3 hd rfl | omega) rfl (Nat.le_of_ble_eq_true rfl) ?_
                  refine g_iload_n 1 (gd rfl) rfl rfl ?_
                  refine g_bipush 48 3 (gd rfl) rfl rfl ?_
                  refine g_cmp_lt 6 16 (gd rfl) rfl rfl (fun c121x3 => ?_) (fun c121x3 => ?_)
                  · skip
                    refine g_iconst 0 17 (gd rfl) rfl rfl ?_
                    refine g_ireturn (gd rfl) rfl (nb01 (in_w 0 1 (in_c 0 rfl) rfl)) (hp121 _ _ ?_)
                    show GG _ _ _ _ _ _ _ _ [.int (Int32.ofInt 0)] _ _ _
                    refine g_if_ne 127 131 (gd rfl) rfl rfl (fun c124 => ?_) (fun c124 => ?_)
                    · skip
                      exact zn_ne c124 (in_c 0 rfl) rfl
                    · skip
                      refine g_iload_n 128 (gd rfl) rfl rfl ?_
                      refine g_if_eq 131 181 (gd rfl) rfl rfl (fun c128 => ?_) (fun c128 => ?_)
                      · skip
                        refine g_aload_n 182 (gd rfl) rfl rfl ?_
                        refine g_iload_n 183 (gd rfl) rfl rfl ?_
                        refine g_calls (As := [.int z71]) (r := [.ref (A 109)]) 186 (gd rfl) rfl rfl rfl rfl rfl (Nat.le_of_ble_eq_true rfl) (mc := 0) (ms := 0) (Nat.zero_le _) (Nat.zero_le _) (P := fun v u => _) ?_ (fun v u h => h)
                        intro po183 xx183 hp183 hx183
                        refine g_enter2 (k := 296) (N := 300) (by first | exact dq1 hd rfl | exact dq0 hd rfl | exact dq2 hd rfl | exact dq3 hd rfl | omega) rfl (Nat.le_of_ble_eq_true rfl) ?_
                        refine g_iload_n 1 (gd rfl) rfl rfl ?_
                        refine g_bipush 97 3 (gd rfl) rfl rfl ?_
                        refine g_cmp_lt 6 16 (gd rfl) rfl rfl (fun c183x3 => ?_) (fun c183x3 => ?_)
                        · skip
                          refine g_iconst 0 17 (gd rfl) rfl rfl ?_
                          refine g_ireturn (gd rfl) rfl (nb01 (in_w 0 1 (in_c 0 rfl) rfl)) (hp183 _ _ ?_)
                          show GG _ _ _ _ _ _ _ _ [.int (Int32.ofInt 0), .ref (A 109)] _ _ _
                          refine g_if_eq 189 193 (gd rfl) rfl rfl (fun c186 => ?_) (fun c186 => ?_)
                          · skip
                            refine g_iconst 3 194 (gd rfl) rfl rfl ?_
                            refine g_putI 197 (gd rfl) rfl rfl rfl rfl ?_
                            have hI194 := inv_sF (q := 109) (j := 28) hI75 rfl (in_w (-2147483648) 2147483647 (in_c 3 rfl) rfl)
                            refine g_aload_n 198 (gd rfl) rfl rfl ?_
                            refine g_getI 201 (gd rfl) rfl rfl rfl (fun z198 e198 => ?_)
                            have q198 : (Int32.ofInt 3) = z198 := (sF_get).trans e198.symm
                            subst q198
                            refine g_iconst 3 202 (gd rfl) rfl rfl ?_
                            refine g_cmp_ne 205 220 (gd rfl) rfl rfl (fun c202 => ?_) (fun c202 => ?_)
                            · skip
                              exact n_ne c202 (in_c 3 rfl) (in_c 3 rfl) rfl
                            · skip
                              refine g_iload_n 206 (gd rfl) rfl rfl ?_
                              refine g_bipush 59 208 (gd rfl) rfl rfl ?_
                              refine g_cmp_eq 211 220 (gd rfl) rfl rfl (fun c208 => ?_) (fun c208 => ?_)
                              · skip
                                exact n_eq c208 i81 (in_c 59 rfl) rfl
                              · skip
                                refine g_aload_n 212 (gd rfl) rfl rfl ?_
                                refine g_iconst 1 213 (gd rfl) rfl rfl ?_
                                refine g_aload_n 214 (gd rfl) rfl rfl ?_
                                refine g_getI 217 (gd rfl) rfl rfl rfl (fun z214 e214 => ?_)
                                have q214 : w0_109_27 = z214 := (sF_ne rfl (sF_ne rfl (sF_get))).trans e214.symm
                                subst q214
                                refine g_callv (X := _) (As := [.int (Int32.ofInt 1), .int w0_109_27]) (r := []) (b := A 109) (q := 109) 220 (gd rfl) rfl rfl rfl rfl rfl (ww_o rfl) (Nat.le_of_ble_eq_true rfl) (Nat.zero_le _) (Nat.zero_le _) (f_298 (by first | exact dq1 hd rfl | exact dq0 hd rfl | exact dq2 hd rfl | exact dq3 hd rfl | omega) hI194 (in_w 1 5 (in_c 1 rfl) rfl) rfl) (fun e u h => h) (fun v u h => ?_)
                                obtain ⟨s217, hI217, hF217, n217, rfl, rfl, p217⟩ := h
                                obtain ⟨z217a, e217⟩ : ∃ w, w = s217.2.2.1 109 23 := ⟨_, rfl⟩
                                have i217a := inv_F hI217 0 9 rfl e217
                                rw [← (show z217a = s217.2.2.1 109 23 from e217)] at n217
                                show GG _ _ _ _ _ _ _ _ [] _ _ _
                                refine g_aload_n 221 (gd rfl) rfl rfl ?_
                                refine g_dup 222 (gd rfl) rfl rfl ?_
                                refine g_getI 225 (gd rfl) rfl rfl rfl (fun z222 e222 => ?_)
                                have q222 : w0_109_27 = z222 := (fr_F (s := (sF (sF (sF sc0 109 29 w0_109_27) 109 30 z71) 109 28 (Int32.ofInt 3))) (sF_ne rfl (sF_ne rfl (sF_ne rfl (v0_109_27)))) hF217 rfl).trans e222.symm
                                subst q222
                                refine g_iconst 1 226 (gd rfl) rfl rfl ?_
                                refine g_iadd 227 (gd rfl) rfl (fun z226 e226 => ?_)
                                have i226 := in_add 1 1000 e226 i71 (in_c 1 rfl) rfl rfl
                                refine g_putI 230 (gd rfl) rfl rfl rfl rfl ?_
                                have hI227 := inv_sF (q := 109) (j := 27) hI217 rfl (in_w 0 1000 i226 rfl)
                                have n230 : ∃ k v, TKN (s.1 125) (s.2.2.1 109 22).toInt.toNat (s.2.2.1 109 27).toInt.toNat ((sF s217 109 27 z226).2.2.1 109 29).toInt.toNat ((sF s217 109 27 z226).2.2.1 109 27).toInt.toNat k v ∧ NTK s (sF s217 109 27 z226) k v := by exfalso; have a0 := in_u i94a; have a1 := in_u i71; have a2 := in_u ((in_c 0 rfl)); have a3 := in_u i81; have a4 := in_u i226; have a5 := t_add e226 i71 (in_c 1 rfl) rfl; have a6 := in_u ((in_c 1 rfl)); have a7 := in_u i217a; have a8 := in_u ((in_c 3 rfl)); have a9 := in_u i107; have a10 := t_add e106 i71 (in_c 1 rfl) rfl; have a11 := in_u i94; have a12 := t_add e89 i71 (in_c 1 rfl) rfl; have oc := oc_299_109; omega
                                have n230a : (z226).toInt ≤ (u_109_22).toInt := by have a0 := in_u i94a; have a1 := in_u i71; have a2 := in_u ((in_c 0 rfl)); have a3 := in_u i81; have a4 := in_u i226; have a5 := t_add e226 i71 (in_c 1 rfl) rfl; have a6 := in_u ((in_c 1 rfl)); have a7 := in_u i217a; have a8 := in_u ((in_c 3 rfl)); have a9 := in_u i107; have a10 := t_add e106 i71 (in_c 1 rfl) rfl; have a11 := in_u i94; have a12 := t_add e89 i71 (in_c 1 rfl) rfl; have oc := oc_299_109; omega
                                have n230b : ((sF s217 109 27 z226).2.2.1 109 27).toInt ≤ ((sF s217 109 27 z226).2.2.1 109 22).toInt := by have b0 : z226 = (sF s217 109 27 z226).2.2.1 109 27 := sF_get; have b1 : u_109_22 = (sF s217 109 27 z226).2.2.1 109 22 := sF_ne rfl (fr_F (s := (sF (sF (sF sc0 109 29 w0_109_27) 109 30 z71) 109 28 (Int32.ofInt 3))) (sF_ne rfl (sF_ne rfl (sF_ne rfl (fr_F e_109_22 hFc0 rfl)))) hF217 rfl); rw [← b0, ← b1]; exact n230a
                                have n230c : (u_109_27).toInt ≤ (z226).toInt := by have a0 := in_u i94a; have a1 := in_u i71; have a2 := in_u ((in_c 0 rfl)); have a3 := in_u i81; have a4 := in_u i226; have a5 := t_add e226 i71 (in_c 1 rfl) rfl; have a6 := in_u ((in_c 1 rfl)); have a7 := in_u i217a; have a8 := in_u ((in_c 3 rfl)); have a9 := in_u i107; have a10 := t_add e106 i71 (in_c 1 rfl) rfl; have a11 := in_u i94; have a12 := t_add e89 i71 (in_c 1 rfl) rfl; have oc := oc_299_109; omega
                                have n230d : (s.2.2.1 109 27).toInt ≤ ((sF s217 109 27 z226).2.2.1 109 27).toInt := by have b0 : z226 = (sF s217 109 27 z226).2.2.1 109 27 := sF_get; first | (rw [← b0, ← e_109_27]; exact n230c) | (rw [← b0]; exact n230c)
                                have n230e : ((Int32.ofInt 3)).toInt ≠ 0 → (u_109_27).toInt + 1 ≤ (z226).toInt := by have a0 := in_u i94a; have a1 := in_u i71; have a2 := in_u ((in_c 0 rfl)); have a3 := in_u i81; have a4 := in_u i226; have a5 := t_add e226 i71 (in_c 1 rfl) rfl; have a6 := in_u ((in_c 1 rfl)); have a7 := in_u i217a; have a8 := in_u ((in_c 3 rfl)); have a9 := in_u i107; have a10 := t_add e106 i71 (in_c 1 rfl) rfl; have a11 := in_u i94; have a12 := t_add e89 i71 (in_c 1 rfl) rfl; have oc := oc_299_109; omega
                                have n230f : ((sF s217 109 27 z226).2.2.1 109 28).toInt ≠ 0 → (s.2.2.1 109 27).toInt + 1 ≤ ((sF s217 109 27 z226).2.2.1 109 27).toInt := by have b0 : (Int32.ofInt 3) = (sF s217 109 27 z226).2.2.1 109 28 := sF_ne rfl (fr_F (s := (sF (sF (sF sc0 109 29 w0_109_27) 109 30 z71) 109 28 (Int32.ofInt 3))) (sF_get) hF217 rfl); have b1 : z226 = (sF s217 109 27 z226).2.2.1 109 27 := sF_get; first | (rw [← b0, ← b1, ← e_109_27]; exact n230e) | (rw [← b0, ← b1]; exact n230e)
                                have n230g : ((Int32.ofInt 3)).toInt = 1 → 97 ≤ (z71).toInt := by have a0 := in_u i94a; have a1 := in_u i71; have a2 := in_u ((in_c 0 rfl)); have a3 := in_u i81; have a4 := in_u i226; have a5 := t_add e226 i71 (in_c 1 rfl) rfl; have a6 := in_u ((in_c 1 rfl)); have a7 := in_u i217a; have a8 := in_u ((in_c 3 rfl)); have a9 := in_u i107; have a10 := t_add e106 i71 (in_c 1 rfl) rfl; have a11 := in_u i94; have a12 := t_add e89 i71 (in_c 1 rfl) rfl; have oc := oc_299_109; omega
                                have n230h : ((sF s217 109 27 z226).2.2.1 109 28).toInt = 1 → 97 ≤ ((sF s217 109 27 z226).2.2.1 109 30).toInt := by have b0 : (Int32.ofInt 3) = (sF s217 109 27 z226).2.2.1 109 28 := sF_ne rfl (fr_F (s := (sF (sF (sF sc0 109 29 w0_109_27) 109 30 z71) 109 28 (Int32.ofInt 3))) (sF_get) hF217 rfl); have b1 : z71 = (sF s217 109 27 z226).2.2.1 109 30 := sF_ne rfl (fr_F (s := (sF (sF (sF sc0 109 29 w0_109_27) 109 30 z71) 109 28 (Int32.ofInt 3))) (sF_ne rfl (sF_get)) hF217 rfl); rw [← b0, ← b1]; exact n230g
                                have n230i : ((Int32.ofInt 3)).toInt = 1 → (z71).toInt ≤ 122 := by have a0 := in_u i94a; have a1 := in_u i71; have a2 := in_u ((in_c 0 rfl)); have a3 := in_u i81; have a4 := in_u i226; have a5 := t_add e226 i71 (in_c 1 rfl) rfl; have a6 := in_u ((in_c 1 rfl)); have a7 := in_u i217a; have a8 := in_u ((in_c 3 rfl)); have a9 := in_u i107; have a10 := t_add e106 i71 (in_c 1 rfl) rfl; have a11 := in_u i94; have a12 := t_add e89 i71 (in_c 1 rfl) rfl; have oc := oc_299_109; omega
                                have n230j : ((sF s217 109 27 z226).2.2.1 109 28).toInt = 1 → ((sF s217 109 27 z226).2.2.1 109 30).toInt ≤ 122 := by have b0 : (Int32.ofInt 3) = (sF s217 109 27 z226).2.2.1 109 28 := sF_ne rfl (fr_F (s := (sF (sF (sF sc0 109 29 w0_109_27) 109 30 z71) 109 28 (Int32.ofInt 3))) (sF_get) hF217 rfl); have b1 : z71 = (sF s217 109 27 z226).2.2.1 109 30 := sF_ne rfl (fr_F (s := (sF (sF (sF sc0 109 29 w0_109_27) 109 30 z71) 109 28 (Int32.ofInt 3))) (sF_ne rfl (sF_get)) hF217 rfl); rw [← b0, ← b1]; exact n230i
                                exact g_return (gd rfl) rfl (hP _ _ ⟨(sF s217 109 27 z226), hI227, (fr_sF rfl (fr_tr rfl (fr_sF rfl (fr_sF rfl (fr_sF rfl hFc0))) hF217)), n230b, n230d, n230f, n230h, n230j, rfl, rfl, n230⟩)
                          · skip
                            exact zn_ne c186 (in_c 0 rfl) rfl
                        · skip
                          exact n_le c183x3 (in_c 97 rfl) i81 rfl
                      · skip
                        exact zn_ne c128 (in_c 0 rfl) rfl
                  · skip
                    exact n_le c121x3 (in_c 48 rfl) i81 rfl
                · skip
                  exact zn_ne c111 (in_c 0 rfl) rfl
              · skip
                have i108x3 := r_le2 48 126 c108x3 (in_c 48 rfl) i107a rfl
                refine g_iload_n 7 (gd rfl) rfl rfl ?_
                refine g_bipush 57 9 (gd rfl) rfl rfl ?_
                refine g_cmp_gt 12 16 (gd rfl) rfl rfl (fun c108x9 => ?_) (fun c108x9 => ?_)
                · skip
                  have i108x9 := r_lt2 58 126 c108x9 (in_c 57 rfl) i108x3 rfl
                  refine g_iconst 0 17 (gd rfl) rfl rfl ?_
                  refine g_ireturn (gd rfl) rfl (nb01 (in_w 0 1 (in_c 0 rfl) rfl)) (hp108 _ _ ?_)
                  show GG _ _ _ _ _ _ _ _ [.int (Int32.ofInt 0)] _ _ _
                  refine g_if_eq 114 118 (gd rfl) rfl rfl (fun c111 => ?_) (fun c111 => ?_)
                  · skip
                    refine g_iconst 0 119 (gd rfl) rfl rfl ?_
                    refine g_istore_n 120 (gd rfl) rfl (Nat.le_of_ble_eq_true rfl) ?_
                    refine g_iload_n 121 (gd rfl) rfl rfl ?_
                    refine g_calls (As := [.int z71]) (r := []) 124 (gd rfl) rfl rfl rfl rfl rfl (Nat.le_of_ble_eq_true rfl) (mc := 0) (ms := 0) (Nat.zero_le _) (Nat.zero_le _) (P := fun v u => _) ?_ (fun v u h => h)
                    intro po121 xx121 hp121 hx121
                    refine g_enter2 (k := 297) (N := 300) (by first | exact dq1 hd rfl | exact dq0 hd rfl | exact dq2 hd rfl | exact dq3 hd rfl | omega) rfl (Nat.le_of_ble_eq_true rfl) ?_
                    refine g_iload_n 1 (gd rfl) rfl rfl ?_
                    refine g_bipush 48 3 (gd rfl) rfl rfl ?_
                    refine g_cmp_lt 6 16 (gd rfl) rfl rfl (fun c121x3 => ?_) (fun c121x3 => ?_)
                    · skip
                      refine g_iconst 0 17 (gd rfl) rfl rfl ?_
                      refine g_ireturn (gd rfl) rfl (nb01 (in_w 0 1 (in_c 0 rfl) rfl)) (hp121 _ _ ?_)
                      show GG _ _ _ _ _ _ _ _ [.int (Int32.ofInt 0)] _ _ _
                      refine g_if_ne 127 131 (gd rfl) rfl rfl (fun c124 => ?_) (fun c124 => ?_)
                      · skip
                        exact zn_ne c124 (in_c 0 rfl) rfl
                      · skip
                        refine g_iload_n 128 (gd rfl) rfl rfl ?_
                        refine g_if_eq 131 181 (gd rfl) rfl rfl (fun c128 => ?_) (fun c128 => ?_)
                        · skip
                          refine g_aload_n 182 (gd rfl) rfl rfl ?_
                          refine g_iload_n 183 (gd rfl) rfl rfl ?_
                          refine g_calls (As := [.int z71]) (r := [.ref (A 109)]) 186 (gd rfl) rfl rfl rfl rfl rfl (Nat.le_of_ble_eq_true rfl) (mc := 0) (ms := 0) (Nat.zero_le _) (Nat.zero_le _) (P := fun v u => _) ?_ (fun v u h => h)
                          intro po183 xx183 hp183 hx183
                          refine g_enter2 (k := 296) (N := 300) (by first | exact dq1 hd rfl | exact dq0 hd rfl | exact dq2 hd rfl | exact dq3 hd rfl | omega) rfl (Nat.le_of_ble_eq_true rfl) ?_
                          refine g_iload_n 1 (gd rfl) rfl rfl ?_
                          refine g_bipush 97 3 (gd rfl) rfl rfl ?_
                          refine g_cmp_lt 6 16 (gd rfl) rfl rfl (fun c183x3 => ?_) (fun c183x3 => ?_)
                          · skip
                            refine g_iconst 0 17 (gd rfl) rfl rfl ?_
                            refine g_ireturn (gd rfl) rfl (nb01 (in_w 0 1 (in_c 0 rfl) rfl)) (hp183 _ _ ?_)
                            show GG _ _ _ _ _ _ _ _ [.int (Int32.ofInt 0), .ref (A 109)] _ _ _
                            refine g_if_eq 189 193 (gd rfl) rfl rfl (fun c186 => ?_) (fun c186 => ?_)
                            · skip
                              refine g_iconst 3 194 (gd rfl) rfl rfl ?_
                              refine g_putI 197 (gd rfl) rfl rfl rfl rfl ?_
                              have hI194 := inv_sF (q := 109) (j := 28) hI75 rfl (in_w (-2147483648) 2147483647 (in_c 3 rfl) rfl)
                              refine g_aload_n 198 (gd rfl) rfl rfl ?_
                              refine g_getI 201 (gd rfl) rfl rfl rfl (fun z198 e198 => ?_)
                              have q198 : (Int32.ofInt 3) = z198 := (sF_get).trans e198.symm
                              subst q198
                              refine g_iconst 3 202 (gd rfl) rfl rfl ?_
                              refine g_cmp_ne 205 220 (gd rfl) rfl rfl (fun c202 => ?_) (fun c202 => ?_)
                              · skip
                                exact n_ne c202 (in_c 3 rfl) (in_c 3 rfl) rfl
                              · skip
                                refine g_iload_n 206 (gd rfl) rfl rfl ?_
                                refine g_bipush 59 208 (gd rfl) rfl rfl ?_
                                refine g_cmp_eq 211 220 (gd rfl) rfl rfl (fun c208 => ?_) (fun c208 => ?_)
                                · skip
                                  exact n_eq c208 i81 (in_c 59 rfl) rfl
                                · skip
                                  refine g_aload_n 212 (gd rfl) rfl rfl ?_
                                  refine g_iconst 1 213 (gd rfl) rfl rfl ?_
                                  refine g_aload_n 214 (gd rfl) rfl rfl ?_
                                  refine g_getI 217 (gd rfl) rfl rfl rfl (fun z214 e214 => ?_)
                                  have q214 : w0_109_27 = z214 := (sF_ne rfl (sF_ne rfl (sF_get))).trans e214.symm
                                  subst q214
                                  refine g_callv (X := _) (As := [.int (Int32.ofInt 1), .int w0_109_27]) (r := []) (b := A 109) (q := 109) 220 (gd rfl) rfl rfl rfl rfl rfl (ww_o rfl) (Nat.le_of_ble_eq_true rfl) (Nat.zero_le _) (Nat.zero_le _) (f_298 (by first | exact dq1 hd rfl | exact dq0 hd rfl | exact dq2 hd rfl | exact dq3 hd rfl | omega) hI194 (in_w 1 5 (in_c 1 rfl) rfl) rfl) (fun e u h => h) (fun v u h => ?_)
                                  obtain ⟨s217, hI217, hF217, n217, rfl, rfl, p217⟩ := h
                                  obtain ⟨z217a, e217⟩ : ∃ w, w = s217.2.2.1 109 23 := ⟨_, rfl⟩
                                  have i217a := inv_F hI217 0 9 rfl e217
                                  rw [← (show z217a = s217.2.2.1 109 23 from e217)] at n217
                                  show GG _ _ _ _ _ _ _ _ [] _ _ _
                                  refine g_aload_n 221 (gd rfl) rfl rfl ?_
                                  refine g_dup 222 (gd rfl) rfl rfl ?_
                                  refine g_getI 225 (gd rfl) rfl rfl rfl (fun z222 e222 => ?_)
                                  have q222 : w0_109_27 = z222 := (fr_F (s := (sF (sF (sF sc0 109 29 w0_109_27) 109 30 z71) 109 28 (Int32.ofInt 3))) (sF_ne rfl (sF_ne rfl (sF_ne rfl (v0_109_27)))) hF217 rfl).trans e222.symm
                                  subst q222
                                  refine g_iconst 1 226 (gd rfl) rfl rfl ?_
                                  refine g_iadd 227 (gd rfl) rfl (fun z226 e226 => ?_)
                                  have i226 := in_add 1 1000 e226 i71 (in_c 1 rfl) rfl rfl
                                  refine g_putI 230 (gd rfl) rfl rfl rfl rfl ?_
                                  have hI227 := inv_sF (q := 109) (j := 27) hI217 rfl (in_w 0 1000 i226 rfl)
                                  have n230 : ∃ k v, TKN (s.1 125) (s.2.2.1 109 22).toInt.toNat (s.2.2.1 109 27).toInt.toNat ((sF s217 109 27 z226).2.2.1 109 29).toInt.toNat ((sF s217 109 27 z226).2.2.1 109 27).toInt.toNat k v ∧ NTK s (sF s217 109 27 z226) k v := by exfalso; have a0 := in_u i94a; have a1 := in_u i71; have a2 := in_u ((in_c 0 rfl)); have a3 := in_u i81; have a4 := in_u i226; have a5 := t_add e226 i71 (in_c 1 rfl) rfl; have a6 := in_u ((in_c 1 rfl)); have a7 := in_u i217a; have a8 := in_u ((in_c 3 rfl)); have a9 := in_u i107; have a10 := t_add e106 i71 (in_c 1 rfl) rfl; have a11 := in_u i94; have a12 := t_add e89 i71 (in_c 1 rfl) rfl; have oc := oc_299_109; omega
                                  have n230a : (z226).toInt ≤ (u_109_22).toInt := by have a0 := in_u i94a; have a1 := in_u i71; have a2 := in_u ((in_c 0 rfl)); have a3 := in_u i81; have a4 := in_u i226; have a5 := t_add e226 i71 (in_c 1 rfl) rfl; have a6 := in_u ((in_c 1 rfl)); have a7 := in_u i217a; have a8 := in_u ((in_c 3 rfl)); have a9 := in_u i107; have a10 := t_add e106 i71 (in_c 1 rfl) rfl; have a11 := in_u i94; have a12 := t_add e89 i71 (in_c 1 rfl) rfl; have oc := oc_299_109; omega
                                  have n230b : ((sF s217 109 27 z226).2.2.1 109 27).toInt ≤ ((sF s217 109 27 z226).2.2.1 109 22).toInt := by have b0 : z226 = (sF s217 109 27 z226).2.2.1 109 27 := sF_get; have b1 : u_109_22 = (sF s217 109 27 z226).2.2.1 109 22 := sF_ne rfl (fr_F (s := (sF (sF (sF sc0 109 29 w0_109_27) 109 30 z71) 109 28 (Int32.ofInt 3))) (sF_ne rfl (sF_ne rfl (sF_ne rfl (fr_F e_109_22 hFc0 rfl)))) hF217 rfl); rw [← b0, ← b1]; exact n230a
                                  have n230c : (u_109_27).toInt ≤ (z226).toInt := by have a0 := in_u i94a; have a1 := in_u i71; have a2 := in_u ((in_c 0 rfl)); have a3 := in_u i81; have a4 := in_u i226; have a5 := t_add e226 i71 (in_c 1 rfl) rfl; have a6 := in_u ((in_c 1 rfl)); have a7 := in_u i217a; have a8 := in_u ((in_c 3 rfl)); have a9 := in_u i107; have a10 := t_add e106 i71 (in_c 1 rfl) rfl; have a11 := in_u i94; have a12 := t_add e89 i71 (in_c 1 rfl) rfl; have oc := oc_299_109; omega
                                  have n230d : (s.2.2.1 109 27).toInt ≤ ((sF s217 109 27 z226).2.2.1 109 27).toInt := by have b0 : z226 = (sF s217 109 27 z226).2.2.1 109 27 := sF_get; first | (rw [← b0, ← e_109_27]; exact n230c) | (rw [← b0]; exact n230c)
                                  have n230e : ((Int32.ofInt 3)).toInt ≠ 0 → (u_109_27).toInt + 1 ≤ (z226).toInt := by have a0 := in_u i94a; have a1 := in_u i71; have a2 := in_u ((in_c 0 rfl)); have a3 := in_u i81; have a4 := in_u i226; have a5 := t_add e226 i71 (in_c 1 rfl) rfl; have a6 := in_u ((in_c 1 rfl)); have a7 := in_u i217a; have a8 := in_u ((in_c 3 rfl)); have a9 := in_u i107; have a10 := t_add e106 i71 (in_c 1 rfl) rfl; have a11 := in_u i94; have a12 := t_add e89 i71 (in_c 1 rfl) rfl; have oc := oc_299_109; omega
                                  have n230f : ((sF s217 109 27 z226).2.2.1 109 28).toInt ≠ 0 → (s.2.2.1 109 27).toInt + 1 ≤ ((sF s217 109 27 z226).2.2.1 109 27).toInt := by have b0 : (Int32.ofInt 3) = (sF s217 109 27 z226).2.2.1 109 28 := sF_ne rfl (fr_F (s := (sF (sF (sF sc0 109 29 w0_109_27) 109 30 z71) 109 28 (Int32.ofInt 3))) (sF_get) hF217 rfl); have b1 : z226 = (sF s217 109 27 z226).2.2.1 109 27 := sF_get; first | (rw [← b0, ← b1, ← e_109_27]; exact n230e) | (rw [← b0, ← b1]; exact n230e)
                                  have n230g : ((Int32.ofInt 3)).toInt = 1 → 97 ≤ (z71).toInt := by have a0 := in_u i94a; have a1 := in_u i71; have a2 := in_u ((in_c 0 rfl)); have a3 := in_u i81; have a4 := in_u i226; have a5 := t_add e226 i71 (in_c 1 rfl) rfl; have a6 := in_u ((in_c 1 rfl)); have a7 := in_u i217a; have a8 := in_u ((in_c 3 rfl)); have a9 := in_u i107; have a10 := t_add e106 i71 (in_c 1 rfl) rfl; have a11 := in_u i94; have a12 := t_add e89 i71 (in_c 1 rfl) rfl; have oc := oc_299_109; omega
                                  have n230h : ((sF s217 109 27 z226).2.2.1 109 28).toInt = 1 → 97 ≤ ((sF s217 109 27 z226).2.2.1 109 30).toInt := by have b0 : (Int32.ofInt 3) = (sF s217 109 27 z226).2.2.1 109 28 := sF_ne rfl (fr_F (s := (sF (sF (sF sc0 109 29 w0_109_27) 109 30 z71) 109 28 (Int32.ofInt 3))) (sF_get) hF217 rfl); have b1 : z71 = (sF s217 109 27 z226).2.2.1 109 30 := sF_ne rfl (fr_F (s := (sF (sF (sF sc0 109 29 w0_109_27) 109 30 z71) 109 28 (Int32.ofInt 3))) (sF_ne rfl (sF_get)) hF217 rfl); rw [← b0, ← b1]; exact n230g
                                  have n230i : ((Int32.ofInt 3)).toInt = 1 → (z71).toInt ≤ 122 := by have a0 := in_u i94a; have a1 := in_u i71; have a2 := in_u ((in_c 0 rfl)); have a3 := in_u i81; have a4 := in_u i226; have a5 := t_add e226 i71 (in_c 1 rfl) rfl; have a6 := in_u ((in_c 1 rfl)); have a7 := in_u i217a; have a8 := in_u ((in_c 3 rfl)); have a9 := in_u i107; have a10 := t_add e106 i71 (in_c 1 rfl) rfl; have a11 := in_u i94; have a12 := t_add e89 i71 (in_c 1 rfl) rfl; have oc := oc_299_109; omega
                                  have n230j : ((sF s217 109 27 z226).2.2.1 109 28).toInt = 1 → ((sF s217 109 27 z226).2.2.1 109 30).toInt ≤ 122 := by have b0 : (Int32.ofInt 3) = (sF s217 109 27 z226).2.2.1 109 28 := sF_ne rfl (fr_F (s := (sF (sF (sF sc0 109 29 w0_109_27) 109 30 z71) 109 28 (Int32.ofInt 3))) (sF_get) hF217 rfl); have b1 : z71 = (sF s217 109 27 z226).2.2.1 109 30 := sF_ne rfl (fr_F (s := (sF (sF (sF sc0 109 29 w0_109_27) 109 30 z71) 109 28 (Int32.ofInt 3))) (sF_ne rfl (sF_get)) hF217 rfl); rw [← b0, ← b1]; exact n230i
                                  exact g_return (gd rfl) rfl (hP _ _ ⟨(sF s217 109 27 z226), hI227, (fr_sF rfl (fr_tr rfl (fr_sF rfl (fr_sF rfl (fr_sF rfl hFc0))) hF217)), n230b, n230d, n230f, n230h, n230j, rfl, rfl, n230⟩)
                            · skip
                              exact zn_ne c186 (in_c 0 rfl) rfl
                          · skip
                            exact n_le c183x3 (in_c 97 rfl) i81 rfl
                        · skip
                          exact zn_ne c128 (in_c 0 rfl) rfl
                    · skip
                      exact n_le c121x3 (in_c 48 rfl) i81 rfl
                  · skip
                    exact zn_ne c111 (in_c 0 rfl) rfl
                · skip
                  have i108x9 := r_le1 48 57 c108x9 i108x3 (in_c 57 rfl) rfl
                  refine g_iconst 1 13 (gd rfl) rfl rfl ?_
                  refine g_goto 17 (gd rfl) rfl ?_
                  refine g_ireturn (gd rfl) rfl (nb01 (in_w 0 1 (in_c 1 rfl) rfl)) (hp108 _ _ ?_)
                  show GG _ _ _ _ _ _ _ _ [.int (Int32.ofInt 1)] _ _ _
                  refine g_if_eq 114 118 (gd rfl) rfl rfl (fun c111 => ?_) (fun c111 => ?_)
                  · skip
                    exact zn_eq c111 (in_c 1 rfl) rfl
                  · skip
                    refine g_iconst 1 115 (gd rfl) rfl rfl ?_
                    refine g_goto 119 (gd rfl) rfl ?_
                    refine g_istore_n 120 (gd rfl) rfl (Nat.le_of_ble_eq_true rfl) ?_
                    refine g_iload_n 121 (gd rfl) rfl rfl ?_
                    refine g_calls (As := [.int z71]) (r := []) 124 (gd rfl) rfl rfl rfl rfl rfl (Nat.le_of_ble_eq_true rfl) (mc := 0) (ms := 0) (Nat.zero_le _) (Nat.zero_le _) (P := fun v u => _) ?_ (fun v u h => h)
                    intro po121 xx121 hp121 hx121
                    refine g_enter2 (k := 297) (N := 300) (by first | exact dq1 hd rfl | exact dq0 hd rfl | exact dq2 hd rfl | exact dq3 hd rfl | omega) rfl (Nat.le_of_ble_eq_true rfl) ?_
                    refine g_iload_n 1 (gd rfl) rfl rfl ?_
                    refine g_bipush 48 3 (gd rfl) rfl rfl ?_
                    refine g_cmp_lt 6 16 (gd rfl) rfl rfl (fun c121x3 => ?_) (fun c121x3 => ?_)
                    · skip
                      refine g_iconst 0 17 (gd rfl) rfl rfl ?_
                      refine g_ireturn (gd rfl) rfl (nb01 (in_w 0 1 (in_c 0 rfl) rfl)) (hp121 _ _ ?_)
                      show GG _ _ _ _ _ _ _ _ [.int (Int32.ofInt 0)] _ _ _
                      refine g_if_ne 127 131 (gd rfl) rfl rfl (fun c124 => ?_) (fun c124 => ?_)
                      · skip
                        exact zn_ne c124 (in_c 0 rfl) rfl
                      · skip
                        refine g_iload_n 128 (gd rfl) rfl rfl ?_
                        refine g_if_eq 131 181 (gd rfl) rfl rfl (fun c128 => ?_) (fun c128 => ?_)
                        · skip
                          exact zn_eq c128 (in_c 1 rfl) rfl
                        · skip
                          refine g_aload_n 132 (gd rfl) rfl rfl ?_
                          refine g_iconst 2 133 (gd rfl) rfl rfl ?_
                          refine g_putI 136 (gd rfl) rfl rfl rfl rfl ?_
                          have hI133 := inv_sF (q := 109) (j := 28) hI75 rfl (in_w (-2147483648) 2147483647 (in_c 2 rfl) rfl)
                          refine g_aload_n 137 (gd rfl) rfl rfl ?_
                          refine g_dup 138 (gd rfl) rfl rfl ?_
                          refine g_getI 141 (gd rfl) rfl rfl rfl (fun z138 e138 => ?_)
                          have q138 : w0_109_27 = z138 := (sF_ne rfl (sF_ne rfl (sF_ne rfl (v0_109_27)))).trans e138.symm
                          subst q138
                          refine g_iload_n 142 (gd rfl) rfl rfl ?_
                          refine g_if_eq 145 149 (gd rfl) rfl rfl (fun c142 => ?_) (fun c142 => ?_)
                          · skip
                            exact zn_eq c142 (in_c 1 rfl) rfl
                          · skip
                            refine g_iconst 1 146 (gd rfl) rfl rfl ?_
                            refine g_goto 150 (gd rfl) rfl ?_
                            refine g_iadd 151 (gd rfl) rfl (fun z150 e150 => ?_)
                            have i150 := in_add 1 1000 e150 i71 (in_c 1 rfl) rfl rfl
                            refine g_putI 154 (gd rfl) rfl rfl rfl rfl ?_
                            have hI151 := inv_sF (q := 109) (j := 27) hI133 rfl (in_w 0 1000 i150 rfl)
                            refine g_aload_n 155 (gd rfl) rfl rfl ?_
                            refine g_bipush 7 157 (gd rfl) rfl rfl ?_
                            have hA9 : _ = (sF (sF (sF (sF sc0 109 29 w0_109_27) 109 30 z71) 109 28 (Int32.ofInt 2)) 109 27 z150).2.2.1 109 27 := (show z150 = (sF (sF (sF (sF sc0 109 29 w0_109_27) 109 30 z71) 109 28 (Int32.ofInt 2)) 109 27 z150).2.2.1 109 27 from sF_get)
                            have hL9 : u_109_22 = (sF (sF (sF (sF sc0 109 29 w0_109_27) 109 30 z71) 109 28 (Int32.ofInt 2)) 109 27 z150).2.2.1 109 22 := (show u_109_22 = (sF (sF (sF (sF sc0 109 29 w0_109_27) 109 30 z71) 109 28 (Int32.ofInt 2)) 109 27 z150).2.2.1 109 22 from sF_ne rfl (sF_ne rfl (sF_ne rfl (sF_ne rfl (fr_F e_109_22 hFc0 rfl)))))
                            have hX9 : (sF (sF (sF (sF sc0 109 29 w0_109_27) 109 30 z71) 109 28 (Int32.ofInt 2)) 109 27 z150).1 125 = s.1 125 := hFc0.1 125 rfl
                            have hP9 : _ = (sF (sF (sF (sF sc0 109 29 w0_109_27) 109 30 z71) 109 28 (Int32.ofInt 2)) 109 27 z150).2.2.1 109 29 := (show w0_109_27 = (sF (sF (sF (sF sc0 109 29 w0_109_27) 109 30 z71) 109 28 (Int32.ofInt 2)) 109 27 z150).2.2.1 109 29 from sF_ne rfl (sF_ne rfl (sF_ne rfl (sF_get))))
                            have hF9 : FSM s (sF (sF (sF (sF sc0 109 29 w0_109_27) 109 30 z71) 109 28 (Int32.ofInt 2)) 109 27 z150) := g0_1
                            have v157 : z150 = (sF (sF (sF (sF sc0 109 29 w0_109_27) 109 30 z71) 109 28 (Int32.ofInt 2)) 109 27 z150).2.2.1 109 27 := sF_get
                            have v157a : u_109_22 = (sF (sF (sF (sF sc0 109 29 w0_109_27) 109 30 z71) 109 28 (Int32.ofInt 2)) 109 27 z150).2.2.1 109 22 := sF_ne rfl (sF_ne rfl (sF_ne rfl (sF_ne rfl (fr_F e_109_22 hFc0 rfl))))
                            have n157 : (z150).toInt < (u_109_22).toInt := by have a0 := in_u i94a; have a1 := in_u i71; have a2 := in_u ((in_c 1 rfl)); have a3 := in_u i81; have a4 := in_u i150; have a5 := t_add e150 i71 (in_c 1 rfl) rfl; have a6 := in_u ((in_c 2 rfl)); have a7 := in_u i107; have a8 := t_add e106 i71 (in_c 1 rfl) rfl; have a9 := in_u i94; have a10 := t_add e89 i71 (in_c 1 rfl) rfl; have oc := oc_299_109; omega
                            have p157 : 48 ≤ ((sF (sF (sF (sF sc0 109 29 w0_109_27) 109 30 z71) 109 28 (Int32.ofInt 2)) 109 27 z150).1 125 ((sF (sF (sF (sF sc0 109 29 w0_109_27) 109 30 z71) 109 28 (Int32.ofInt 2)) 109 27 z150).2.2.1 109 27).toNatClampNeg).toInt ∧ ((sF (sF (sF (sF sc0 109 29 w0_109_27) 109 30 z71) 109 28 (Int32.ofInt 2)) 109 27 z150).1 125 ((sF (sF (sF (sF sc0 109 29 w0_109_27) 109 30 z71) 109 28 (Int32.ofInt 2)) 109 27 z150).2.2.1 109 27).toNatClampNeg).toInt ≤ 57 := by first | (have hz : z107 = (sF (sF (sF (sF sc0 109 29 w0_109_27) 109 30 z71) 109 28 (Int32.ofInt 2)) 109 27 z150).1 125 ((sF (sF (sF (sF sc0 109 29 w0_109_27) 109 30 z71) 109 28 (Int32.ofInt 2)) 109 27 z150).2.2.1 109 27).toNatClampNeg := (by rw [← (show z150 = (sF (sF (sF (sF sc0 109 29 w0_109_27) 109 30 z71) 109 28 (Int32.ofInt 2)) 109 27 z150).2.2.1 109 27 from sF_get), e150, ← e106]; exact e107); rw [← hz]; exact i108x9) | (have hz : z19 = (sF (sF (sF (sF sc0 109 29 w0_109_27) 109 30 z71) 109 28 (Int32.ofInt 2)) 109 27 z150).1 125 ((sF (sF (sF (sF sc0 109 29 w0_109_27) 109 30 z71) 109 28 (Int32.ofInt 2)) 109 27 z150).2.2.1 109 27).toNatClampNeg := (by rw [← (show z150 = (sF (sF (sF (sF sc0 109 29 w0_109_27) 109 30 z71) 109 28 (Int32.ofInt 2)) 109 27 z150).2.2.1 109 27 from sF_get), e150, show w0_109_27 + Int32.ofInt 0 = w0_109_27 from Int32.add_zero _]; exact e19); rw [← hz]; exact i121x9) | (have hz : z71 = (sF (sF (sF (sF sc0 109 29 w0_109_27) 109 30 z71) 109 28 (Int32.ofInt 2)) 109 27 z150).1 125 ((sF (sF (sF (sF sc0 109 29 w0_109_27) 109 30 z71) 109 28 (Int32.ofInt 2)) 109 27 z150).2.2.1 109 27).toNatClampNeg := (by rw [← (show z150 = (sF (sF (sF (sF sc0 109 29 w0_109_27) 109 30 z71) 109 28 (Int32.ofInt 2)) 109 27 z150).2.2.1 109 27 from sF_get), e150, show w0_109_27 + Int32.ofInt 0 = w0_109_27 from Int32.add_zero _]; exact e71); rw [← hz]; exact i121x9)
                            refine g_callv (X := _) (As := [.int (Int32.ofInt 7)]) (r := []) (b := A 109) (q := 109) 160 (gd rfl) rfl rfl rfl rfl rfl (ww_o rfl) (Nat.le_of_ble_eq_true rfl) (Nat.zero_le _) (Nat.zero_le _) (f_300 (by first | exact dq1 hd rfl | exact dq0 hd rfl | exact dq2 hd rfl | exact dq3 hd rfl | omega) hI151 (in_w 7 7 (in_c 7 rfl) rfl) v157 v157a n157 p157) (fun e u h => h) (fun v u h => ?_)
                            obtain ⟨s157, hI157, hF157, n157a, n157b, rfl, rfl, p157a⟩ := h
                            obtain ⟨z157a, e157⟩ : ∃ w, w = s157.2.2.1 109 27 := ⟨_, rfl⟩
                            have i157a := inv_F hI157 0 1000 rfl e157
                            rw [← (show z157a = s157.2.2.1 109 27 from e157)] at n157a
                            rw [← (show u_109_22 = s157.2.2.1 109 22 from fr_F (s := (sF (sF (sF (sF sc0 109 29 w0_109_27) 109 30 z71) 109 28 (Int32.ofInt 2)) 109 27 z150)) (sF_ne rfl (sF_ne rfl (sF_ne rfl (sF_ne rfl (fr_F e_109_22 hFc0 rfl))))) hF157 rfl)] at n157a
                            rw [← (show z150 = (sF (sF (sF (sF sc0 109 29 w0_109_27) 109 30 z71) 109 28 (Int32.ofInt 2)) 109 27 z150).2.2.1 109 27 from sF_get)] at n157b
                            rw [← (show z157a = s157.2.2.1 109 27 from e157)] at n157b
                            show GG _ _ _ _ _ _ _ _ [] _ _ _
                            refine g_aload_n 161 (gd rfl) rfl rfl ?_
                            refine g_iload_n 162 (gd rfl) rfl rfl ?_
                            refine g_if_eq 165 173 (gd rfl) rfl rfl (fun c162 => ?_) (fun c162 => ?_)
                            · skip
                              exact zn_eq c162 (in_c 1 rfl) rfl
                            · skip
                              refine g_aload_n 166 (gd rfl) rfl rfl ?_
                              refine g_getL 169 (gd rfl) rfl rfl rfl (fun z166 e166 => ?_)
                              refine g_lneg 170 (gd rfl) rfl (fun z169 e169 => ?_)
                              refine g_goto 177 (gd rfl) rfl ?_
                              refine g_putL 180 (gd rfl) rfl rfl rfl rfl ?_
                              have hI177 := inv_sG (q := 109) (j := 31) (x := z169) hI157 rfl (l_rng z169)
                              have n180 : ∃ k v, TKN (s.1 125) (s.2.2.1 109 22).toInt.toNat (s.2.2.1 109 27).toInt.toNat ((sG s157 109 31 z169).2.2.1 109 29).toInt.toNat ((sG s157 109 31 z169).2.2.1 109 27).toInt.toNat k v ∧ NTK s (sG s157 109 31 z169) k v := by exfalso; have a0 := in_u i94a; have a1 := in_u i71; have a2 := in_u ((in_c 1 rfl)); have a3 := in_u i81; have a4 := in_u i157a; have a5 := in_u ((in_c 2 rfl)); have a6 := in_u i150; have a7 := t_add e150 i71 (in_c 1 rfl) rfl; have a8 := in_u i107; have a9 := t_add e106 i71 (in_c 1 rfl) rfl; have a10 := in_u i94; have a11 := t_add e89 i71 (in_c 1 rfl) rfl; have oc := oc_299_109; omega
                              have n180a : (z157a).toInt ≤ (u_109_22).toInt := by have a0 := in_u i94a; have a1 := in_u i71; have a2 := in_u ((in_c 1 rfl)); have a3 := in_u i81; have a4 := in_u i157a; have a5 := in_u ((in_c 2 rfl)); have a6 := in_u i150; have a7 := t_add e150 i71 (in_c 1 rfl) rfl; have a8 := in_u i107; have a9 := t_add e106 i71 (in_c 1 rfl) rfl; have a10 := in_u i94; have a11 := t_add e89 i71 (in_c 1 rfl) rfl; have oc := oc_299_109; omega
                              have n180b : ((sG s157 109 31 z169).2.2.1 109 27).toInt ≤ ((sG s157 109 31 z169).2.2.1 109 22).toInt := by have b0 : z157a = (sG s157 109 31 z169).2.2.1 109 27 := sG_F (e157); have b1 : u_109_22 = (sG s157 109 31 z169).2.2.1 109 22 := sG_F (fr_F (s := (sF (sF (sF (sF sc0 109 29 w0_109_27) 109 30 z71) 109 28 (Int32.ofInt 2)) 109 27 z150)) (sF_ne rfl (sF_ne rfl (sF_ne rfl (sF_ne rfl (fr_F e_109_22 hFc0 rfl))))) hF157 rfl); rw [← b0, ← b1]; exact n180a
                              have n180c : (u_109_27).toInt ≤ (z157a).toInt := by have a0 := in_u i94a; have a1 := in_u i71; have a2 := in_u ((in_c 1 rfl)); have a3 := in_u i81; have a4 := in_u i157a; have a5 := in_u ((in_c 2 rfl)); have a6 := in_u i150; have a7 := t_add e150 i71 (in_c 1 rfl) rfl; have a8 := in_u i107; have a9 := t_add e106 i71 (in_c 1 rfl) rfl; have a10 := in_u i94; have a11 := t_add e89 i71 (in_c 1 rfl) rfl; have oc := oc_299_109; omega
                              have n180d : (s.2.2.1 109 27).toInt ≤ ((sG s157 109 31 z169).2.2.1 109 27).toInt := by have b0 : z157a = (sG s157 109 31 z169).2.2.1 109 27 := sG_F (e157); first | (rw [← b0, ← e_109_27]; exact n180c) | (rw [← b0]; exact n180c)
                              have n180e : ((Int32.ofInt 2)).toInt ≠ 0 → (u_109_27).toInt + 1 ≤ (z157a).toInt := by have a0 := in_u i94a; have a1 := in_u i71; have a2 := in_u ((in_c 1 rfl)); have a3 := in_u i81; have a4 := in_u i157a; have a5 := in_u ((in_c 2 rfl)); have a6 := in_u i150; have a7 := t_add e150 i71 (in_c 1 rfl) rfl; have a8 := in_u i107; have a9 := t_add e106 i71 (in_c 1 rfl) rfl; have a10 := in_u i94; have a11 := t_add e89 i71 (in_c 1 rfl) rfl; have oc := oc_299_109; omega
                              have n180f : ((sG s157 109 31 z169).2.2.1 109 28).toInt ≠ 0 → (s.2.2.1 109 27).toInt + 1 ≤ ((sG s157 109 31 z169).2.2.1 109 27).toInt := by have b0 : (Int32.ofInt 2) = (sG s157 109 31 z169).2.2.1 109 28 := sG_F (fr_F (s := (sF (sF (sF (sF sc0 109 29 w0_109_27) 109 30 z71) 109 28 (Int32.ofInt 2)) 109 27 z150)) (sF_ne rfl (sF_get)) hF157 rfl); have b1 : z157a = (sG s157 109 31 z169).2.2.1 109 27 := sG_F (e157); first | (rw [← b0, ← b1, ← e_109_27]; exact n180e) | (rw [← b0, ← b1]; exact n180e)
                              have n180g : ((Int32.ofInt 2)).toInt = 1 → 97 ≤ (z71).toInt := by have a0 := in_u i94a; have a1 := in_u i71; have a2 := in_u ((in_c 1 rfl)); have a3 := in_u i81; have a4 := in_u i157a; have a5 := in_u ((in_c 2 rfl)); have a6 := in_u i150; have a7 := t_add e150 i71 (in_c 1 rfl) rfl; have a8 := in_u i107; have a9 := t_add e106 i71 (in_c 1 rfl) rfl; have a10 := in_u i94; have a11 := t_add e89 i71 (in_c 1 rfl) rfl; have oc := oc_299_109; omega
                              have n180h : ((sG s157 109 31 z169).2.2.1 109 28).toInt = 1 → 97 ≤ ((sG s157 109 31 z169).2.2.1 109 30).toInt := by have b0 : (Int32.ofInt 2) = (sG s157 109 31 z169).2.2.1 109 28 := sG_F (fr_F (s := (sF (sF (sF (sF sc0 109 29 w0_109_27) 109 30 z71) 109 28 (Int32.ofInt 2)) 109 27 z150)) (sF_ne rfl (sF_get)) hF157 rfl); have b1 : z71 = (sG s157 109 31 z169).2.2.1 109 30 := sG_F (fr_F (s := (sF (sF (sF (sF sc0 109 29 w0_109_27) 109 30 z71) 109 28 (Int32.ofInt 2)) 109 27 z150)) (sF_ne rfl (sF_ne rfl (sF_get))) hF157 rfl); rw [← b0, ← b1]; exact n180g
                              have n180i : ((Int32.ofInt 2)).toInt = 1 → (z71).toInt ≤ 122 := by have a0 := in_u i94a; have a1 := in_u i71; have a2 := in_u ((in_c 1 rfl)); have a3 := in_u i81; have a4 := in_u i157a; have a5 := in_u ((in_c 2 rfl)); have a6 := in_u i150; have a7 := t_add e150 i71 (in_c 1 rfl) rfl; have a8 := in_u i107; have a9 := t_add e106 i71 (in_c 1 rfl) rfl; have a10 := in_u i94; have a11 := t_add e89 i71 (in_c 1 rfl) rfl; have oc := oc_299_109; omega
                              have n180j : ((sG s157 109 31 z169).2.2.1 109 28).toInt = 1 → ((sG s157 109 31 z169).2.2.1 109 30).toInt ≤ 122 := by have b0 : (Int32.ofInt 2) = (sG s157 109 31 z169).2.2.1 109 28 := sG_F (fr_F (s := (sF (sF (sF (sF sc0 109 29 w0_109_27) 109 30 z71) 109 28 (Int32.ofInt 2)) 109 27 z150)) (sF_ne rfl (sF_get)) hF157 rfl); have b1 : z71 = (sG s157 109 31 z169).2.2.1 109 30 := sG_F (fr_F (s := (sF (sF (sF (sF sc0 109 29 w0_109_27) 109 30 z71) 109 28 (Int32.ofInt 2)) 109 27 z150)) (sF_ne rfl (sF_ne rfl (sF_get))) hF157 rfl); rw [← b0, ← b1]; exact n180i
                              exact g_return (gd rfl) rfl (hP _ _ ⟨(sG s157 109 31 z169), hI177, (fr_sG rfl (fr_tr rfl (fr_sF rfl (fr_sF rfl (fr_sF rfl (fr_sF rfl hFc0)))) hF157)), n180b, n180d, n180f, n180h, n180j, rfl, rfl, n180⟩)
                    · skip
                      exact n_le c121x3 (in_c 48 rfl) i81 rfl
        · skip
          refine g_aload_n 58 (gd rfl) rfl rfl ?_
          refine g_iconst 0 59 (gd rfl) rfl rfl ?_
          refine g_putI 62 (gd rfl) rfl rfl rfl rfl ?_
          have hI59 := inv_sF (q := 109) (j := 28) hI43 rfl (in_w (-2147483648) 2147483647 (in_c 0 rfl) rfl)
          have n62 : ∃ k v, TKN (s.1 125) (s.2.2.1 109 22).toInt.toNat (s.2.2.1 109 27).toInt.toNat ((sF (sF sc0 109 29 w0_109_27) 109 28 (Int32.ofInt 0)).2.2.1 109 29).toInt.toNat ((sF (sF sc0 109 29 w0_109_27) 109 28 (Int32.ofInt 0)).2.2.1 109 27).toInt.toNat k v ∧ NTK s (sF (sF sc0 109 29 w0_109_27) 109 28 (Int32.ofInt 0)) k v := by have hS : tkS (s.1 125) (u_109_22).toInt.toNat (u_109_27).toInt.toNat w0_109_27.toInt.toNat := ⟨by have a0 := in_u ro_109_22; have a1 := in_u ((inv_F hIc0 0 1000 rfl v0_109_27)); have a2 := in_u ((in_c 0 rfl)); have oc := oc_299_109; omega, by have a0 := in_u ro_109_22; have a1 := in_u ((inv_F hIc0 0 1000 rfl v0_109_27)); have a2 := in_u ((in_c 0 rfl)); have oc := oc_299_109; omega, fun i a b => g0_0 i (by rw [← e_109_27]; exact a) (by have a0 := in_u ro_109_22; have a1 := in_u ((inv_F hIc0 0 1000 rfl v0_109_27)); have a2 := in_u ((in_c 0 rfl)); have oc := oc_299_109; omega), fun h => by exfalso; have a0 := in_u ro_109_22; have a1 := in_u ((inv_F hIc0 0 1000 rfl v0_109_27)); have a2 := in_u ((in_c 0 rfl)); have oc := oc_299_109; omega⟩; refine ⟨0, 0, ?_, ?_⟩; (rw [← (show w0_109_27 = (sF (sF sc0 109 29 w0_109_27) 109 28 (Int32.ofInt 0)).2.2.1 109 27 from sF_ne rfl (sF_ne rfl (v0_109_27))), ← (show w0_109_27 = (sF (sF sc0 109 29 w0_109_27) 109 28 (Int32.ofInt 0)).2.2.1 109 29 from sF_ne rfl (sF_get)), ← e_109_22, ← e_109_27]; exact tkn_0 hS (by have a0 := in_u ro_109_22; have a1 := in_u ((inv_F hIc0 0 1000 rfl v0_109_27)); have a2 := in_u ((in_c 0 rfl)); have oc := oc_299_109; omega) (by have a0 := in_u ro_109_22; have a1 := in_u ((inv_F hIc0 0 1000 rfl v0_109_27)); have a2 := in_u ((in_c 0 rfl)); have oc := oc_299_109; omega) rfl); (exact ntk_0 ((show (Int32.ofInt 0) = (sF (sF sc0 109 29 w0_109_27) 109 28 (Int32.ofInt 0)).2.2.1 109 28 from sF_get)).symm g0_1)
          have n62a : (w0_109_27).toInt ≤ (u_109_22).toInt := by first | exact n0_0 | (have a0 := in_u ro_109_22; have a1 := in_u ((inv_F hIc0 0 1000 rfl v0_109_27)); have a2 := in_u ((in_c 0 rfl)); have oc := oc_299_109; omega)
          have n62b : ((sF (sF sc0 109 29 w0_109_27) 109 28 (Int32.ofInt 0)).2.2.1 109 27).toInt ≤ ((sF (sF sc0 109 29 w0_109_27) 109 28 (Int32.ofInt 0)).2.2.1 109 22).toInt := by have b0 : w0_109_27 = (sF (sF sc0 109 29 w0_109_27) 109 28 (Int32.ofInt 0)).2.2.1 109 27 := sF_ne rfl (sF_ne rfl (v0_109_27)); have b1 : u_109_22 = (sF (sF sc0 109 29 w0_109_27) 109 28 (Int32.ofInt 0)).2.2.1 109 22 := sF_ne rfl (sF_ne rfl (fr_F e_109_22 hFc0 rfl)); rw [← b0, ← b1]; exact n62a
          have n62c : (u_109_27).toInt ≤ (w0_109_27).toInt := by first | exact n0_1 | (have a0 := in_u ro_109_22; have a1 := in_u ((inv_F hIc0 0 1000 rfl v0_109_27)); have a2 := in_u ((in_c 0 rfl)); have oc := oc_299_109; omega)
          have n62d : (s.2.2.1 109 27).toInt ≤ ((sF (sF sc0 109 29 w0_109_27) 109 28 (Int32.ofInt 0)).2.2.1 109 27).toInt := by have b0 : w0_109_27 = (sF (sF sc0 109 29 w0_109_27) 109 28 (Int32.ofInt 0)).2.2.1 109 27 := sF_ne rfl (sF_ne rfl (v0_109_27)); first | (rw [← b0, ← e_109_27]; exact n62c) | (rw [← b0]; exact n62c)
          have n62e : ((Int32.ofInt 0)).toInt ≠ 0 → (u_109_27).toInt + 1 ≤ (w0_109_27).toInt := by have a0 := in_u ro_109_22; have a1 := in_u ((inv_F hIc0 0 1000 rfl v0_109_27)); have a2 := in_u ((in_c 0 rfl)); have oc := oc_299_109; omega
          have n62f : ((sF (sF sc0 109 29 w0_109_27) 109 28 (Int32.ofInt 0)).2.2.1 109 28).toInt ≠ 0 → (s.2.2.1 109 27).toInt + 1 ≤ ((sF (sF sc0 109 29 w0_109_27) 109 28 (Int32.ofInt 0)).2.2.1 109 27).toInt := by have b0 : (Int32.ofInt 0) = (sF (sF sc0 109 29 w0_109_27) 109 28 (Int32.ofInt 0)).2.2.1 109 28 := sF_get; have b1 : w0_109_27 = (sF (sF sc0 109 29 w0_109_27) 109 28 (Int32.ofInt 0)).2.2.1 109 27 := sF_ne rfl (sF_ne rfl (v0_109_27)); first | (rw [← b0, ← b1, ← e_109_27]; exact n62e) | (rw [← b0, ← b1]; exact n62e)
          have n62g : ((Int32.ofInt 0)).toInt = 1 → 97 ≤ (((sF (sF sc0 109 29 w0_109_27) 109 28 (Int32.ofInt 0)).2.2.1 109 30)).toInt := by have a0 := in_u ro_109_22; have a1 := in_u ((inv_F hIc0 0 1000 rfl v0_109_27)); have a2 := in_u ((in_c 0 rfl)); have oc := oc_299_109; omega
          have n62h : ((sF (sF sc0 109 29 w0_109_27) 109 28 (Int32.ofInt 0)).2.2.1 109 28).toInt = 1 → 97 ≤ ((sF (sF sc0 109 29 w0_109_27) 109 28 (Int32.ofInt 0)).2.2.1 109 30).toInt := by have b0 : (Int32.ofInt 0) = (sF (sF sc0 109 29 w0_109_27) 109 28 (Int32.ofInt 0)).2.2.1 109 28 := sF_get; rw [← b0]; exact n62g
          have n62i : ((Int32.ofInt 0)).toInt = 1 → (((sF (sF sc0 109 29 w0_109_27) 109 28 (Int32.ofInt 0)).2.2.1 109 30)).toInt ≤ 122 := by have a0 := in_u ro_109_22; have a1 := in_u ((inv_F hIc0 0 1000 rfl v0_109_27)); have a2 := in_u ((in_c 0 rfl)); have oc := oc_299_109; omega
          have n62j : ((sF (sF sc0 109 29 w0_109_27) 109 28 (Int32.ofInt 0)).2.2.1 109 28).toInt = 1 → ((sF (sF sc0 109 29 w0_109_27) 109 28 (Int32.ofInt 0)).2.2.1 109 30).toInt ≤ 122 := by have b0 : (Int32.ofInt 0) = (sF (sF sc0 109 29 w0_109_27) 109 28 (Int32.ofInt 0)).2.2.1 109 28 := sF_get; rw [← b0]; exact n62i
          exact g_return (gd rfl) rfl (hP _ _ ⟨(sF (sF sc0 109 29 w0_109_27) 109 28 (Int32.ofInt 0)), hI59, (fr_sF rfl (fr_sF rfl hFc0)), n62b, n62d, n62f, n62h, n62j, rfl, rfl, n62⟩)
      · skip
        have i8 := r_lt1 0 999 c8 (inv_F hIc0 0 1000 rfl v0_109_27) ro_109_22 rfl
        have i8a := r_lt2 1 1000 c8 (inv_F hIc0 0 1000 rfl v0_109_27) ro_109_22 rfl
        refine g_aload_n 12 (gd rfl) rfl rfl ?_
        refine g_getA (q2 := 125) 15 (gd rfl) rfl rfl rfl rfl ?_
        refine g_aload_n 16 (gd rfl) rfl rfl ?_
        refine g_getI 19 (gd rfl) rfl rfl rfl (fun z16 e16 => ?_)
        have q16 : w0_109_27 = z16 := (v0_109_27).trans e16.symm
        subst q16
        refine g_iaload 20 (gd rfl) rfl (n := 1000) rfl (in_ix i8 rfl) (fun z19 e19 => ?_)
        have i19 := inv_I hIc0 (n := 1000) (t := 0) 0 126 rfl (in_ix i8 rfl) rfl e19
        refine g_bipush 32 22 (gd rfl) rfl rfl ?_
        refine g_cmp_ne 25 38 (gd rfl) rfl rfl (fun c22 => ?_) (fun c22 => ?_)
        · skip
          refine g_aload_n 39 (gd rfl) rfl rfl ?_
          refine g_aload_n 40 (gd rfl) rfl rfl ?_
          refine g_getI 43 (gd rfl) rfl rfl rfl (fun z40 e40 => ?_)
          have q40 : w0_109_27 = z40 := (v0_109_27).trans e40.symm
          subst q40
          refine g_putI 46 (gd rfl) rfl rfl rfl rfl ?_
          have hI43 := inv_sF (q := 109) (j := 29) hIc0 rfl (in_w 0 1000 i8 rfl)
          refine g_aload_n 47 (gd rfl) rfl rfl ?_
          refine g_getI 50 (gd rfl) rfl rfl rfl (fun z47 e47 => ?_)
          have q47 : w0_109_27 = z47 := (sF_ne rfl (v0_109_27)).trans e47.symm
          subst q47
          refine g_aload_n 51 (gd rfl) rfl rfl ?_
          refine g_getI 54 (gd rfl) rfl rfl rfl (fun z51 e51 => ?_)
          have q51 : u_109_22 = z51 := (sF_ne rfl (fr_F e_109_22 hFc0 rfl)).trans e51.symm
          subst q51
          refine g_cmp_ne 57 63 (gd rfl) rfl rfl (fun c54 => ?_) (fun c54 => ?_)
          · skip
            refine g_aload_n 64 (gd rfl) rfl rfl ?_
            refine g_getA (q2 := 125) 67 (gd rfl) rfl rfl rfl rfl ?_
            refine g_aload_n 68 (gd rfl) rfl rfl ?_
            refine g_getI 71 (gd rfl) rfl rfl rfl (fun z68 e68 => ?_)
            have q68 : w0_109_27 = z68 := (sF_ne rfl (v0_109_27)).trans e68.symm
            subst q68
            refine g_iaload 72 (gd rfl) rfl (n := 1000) rfl (in_ix i8 rfl) (fun z71 e71 => ?_)
            have q71 : z19 = z71 := (sF_I (e19)).trans e71.symm
            subst q71
            refine g_istore_n 73 (gd rfl) rfl (Nat.le_of_ble_eq_true rfl) ?_
            refine g_aload_n 74 (gd rfl) rfl rfl ?_
            refine g_iload_n 75 (gd rfl) rfl rfl ?_
            refine g_putI 78 (gd rfl) rfl rfl rfl rfl ?_
            have hI75 := inv_sF (q := 109) (j := 30) hI43 rfl (in_w (-2147483648) 2147483647 i19 rfl)
            refine g_iload_n 79 (gd rfl) rfl rfl ?_
            refine g_bipush 45 81 (gd rfl) rfl rfl ?_
            refine g_cmp_ne 84 118 (gd rfl) rfl rfl (fun c81 => ?_) (fun c81 => ?_)
            · skip
              refine g_iconst 0 119 (gd rfl) rfl rfl ?_
              refine g_istore_n 120 (gd rfl) rfl (Nat.le_of_ble_eq_true rfl) ?_
              refine g_iload_n 121 (gd rfl) rfl rfl ?_
              refine g_calls (As := [.int z19]) (r := []) 124 (gd rfl) rfl rfl rfl rfl rfl (Nat.le_of_ble_eq_true rfl) (mc := 0) (ms := 0) (Nat.zero_le _) (Nat.zero_le _) (P := fun v u => _) ?_ (fun v u h => h)
              intro po121 xx121 hp121 hx121
              refine g_enter2 (k := 297) (N := 300) (by first | exact dq1 hd rfl | exact dq0 hd rfl | exact dq2 hd rfl | exact dq3 hd rfl | omega) rfl (Nat.le_of_ble_eq_true rfl) ?_
              refine g_iload_n 1 (gd rfl) rfl rfl ?_
              refine g_bipush 48 3 (gd rfl) rfl rfl ?_
              refine g_cmp_lt 6 16 (gd rfl) rfl rfl (fun c121x3 => ?_) (fun c121x3 => ?_)
              · skip
                have i121x3 := r_lt1 0 47 c121x3 i19 (in_c 48 rfl) rfl
                refine g_iconst 0 17 (gd rfl) rfl rfl ?_
                refine g_ireturn (gd rfl) rfl (nb01 (in_w 0 1 (in_c 0 rfl) rfl)) (hp121 _ _ ?_)
                show GG _ _ _ _ _ _ _ _ [.int (Int32.ofInt 0)] _ _ _
                refine g_if_ne 127 131 (gd rfl) rfl rfl (fun c124 => ?_) (fun c124 => ?_)
                · skip
                  exact zn_ne c124 (in_c 0 rfl) rfl
                · skip
                  refine g_iload_n 128 (gd rfl) rfl rfl ?_
                  refine g_if_eq 131 181 (gd rfl) rfl rfl (fun c128 => ?_) (fun c128 => ?_)
                  · skip
                    refine g_aload_n 182 (gd rfl) rfl rfl ?_
                    refine g_iload_n 183 (gd rfl) rfl rfl ?_
                    refine g_calls (As := [.int z19]) (r := [.ref (A 109)]) 186 (gd rfl) rfl rfl rfl rfl rfl (Nat.le_of_ble_eq_true rfl) (mc := 0) (ms := 0) (Nat.zero_le _) (Nat.zero_le _) (P := fun v u => _) ?_ (fun v u h => h)
                    intro po183 xx183 hp183 hx183
                    refine g_enter2 (k := 296) (N := 300) (by first | exact dq1 hd rfl | exact dq0 hd rfl | exact dq2 hd rfl | exact dq3 hd rfl | omega) rfl (Nat.le_of_ble_eq_true rfl) ?_
                    refine g_iload_n 1 (gd rfl) rfl rfl ?_
                    refine g_bipush 97 3 (gd rfl) rfl rfl ?_
                    refine g_cmp_lt 6 16 (gd rfl) rfl rfl (fun c183x3 => ?_) (fun c183x3 => ?_)
                    · skip
                      refine g_iconst 0 17 (gd rfl) rfl rfl ?_
                      refine g_ireturn (gd rfl) rfl (nb01 (in_w 0 1 (in_c 0 rfl) rfl)) (hp183 _ _ ?_)
                      show GG _ _ _ _ _ _ _ _ [.int (Int32.ofInt 0), .ref (A 109)] _ _ _
                      refine g_if_eq 189 193 (gd rfl) rfl rfl (fun c186 => ?_) (fun c186 => ?_)
                      · skip
                        refine g_iconst 3 194 (gd rfl) rfl rfl ?_
                        refine g_putI 197 (gd rfl) rfl rfl rfl rfl ?_
                        have hI194 := inv_sF (q := 109) (j := 28) hI75 rfl (in_w (-2147483648) 2147483647 (in_c 3 rfl) rfl)
                        refine g_aload_n 198 (gd rfl) rfl rfl ?_
                        refine g_getI 201 (gd rfl) rfl rfl rfl (fun z198 e198 => ?_)
                        have q198 : (Int32.ofInt 3) = z198 := (sF_get).trans e198.symm
                        subst q198
                        refine g_iconst 3 202 (gd rfl) rfl rfl ?_
                        refine g_cmp_ne 205 220 (gd rfl) rfl rfl (fun c202 => ?_) (fun c202 => ?_)
                        · skip
                          exact n_ne c202 (in_c 3 rfl) (in_c 3 rfl) rfl
                        · skip
                          refine g_iload_n 206 (gd rfl) rfl rfl ?_
                          refine g_bipush 59 208 (gd rfl) rfl rfl ?_
                          refine g_cmp_eq 211 220 (gd rfl) rfl rfl (fun c208 => ?_) (fun c208 => ?_)
                          · skip
                            exact n_eq c208 i121x3 (in_c 59 rfl) rfl
                          · skip
                            refine g_aload_n 212 (gd rfl) rfl rfl ?_
                            refine g_iconst 1 213 (gd rfl) rfl rfl ?_
                            refine g_aload_n 214 (gd rfl) rfl rfl ?_
                            refine g_getI 217 (gd rfl) rfl rfl rfl (fun z214 e214 => ?_)
                            have q214 : w0_109_27 = z214 := (sF_ne rfl (sF_ne rfl (sF_get))).trans e214.symm
                            subst q214
                            refine g_callv (X := _) (As := [.int (Int32.ofInt 1), .int w0_109_27]) (r := []) (b := A 109) (q := 109) 220 (gd rfl) rfl rfl rfl rfl rfl (ww_o rfl) (Nat.le_of_ble_eq_true rfl) (Nat.zero_le _) (Nat.zero_le _) (f_298 (by first | exact dq1 hd rfl | exact dq0 hd rfl | exact dq2 hd rfl | exact dq3 hd rfl | omega) hI194 (in_w 1 5 (in_c 1 rfl) rfl) rfl) (fun e u h => h) (fun v u h => ?_)
                            obtain ⟨s217, hI217, hF217, n217, rfl, rfl, p217⟩ := h
                            obtain ⟨z217a, e217⟩ : ∃ w, w = s217.2.2.1 109 23 := ⟨_, rfl⟩
                            have i217a := inv_F hI217 0 9 rfl e217
                            rw [← (show z217a = s217.2.2.1 109 23 from e217)] at n217
                            show GG _ _ _ _ _ _ _ _ [] _ _ _
                            refine g_aload_n 221 (gd rfl) rfl rfl ?_
                            refine g_dup 222 (gd rfl) rfl rfl ?_
                            refine g_getI 225 (gd rfl) rfl rfl rfl (fun z222 e222 => ?_)
                            have q222 : w0_109_27 = z222 := (fr_F (s := (sF (sF (sF sc0 109 29 w0_109_27) 109 30 z19) 109 28 (Int32.ofInt 3))) (sF_ne rfl (sF_ne rfl (sF_ne rfl (v0_109_27)))) hF217 rfl).trans e222.symm
                            subst q222
                            refine g_iconst 1 226 (gd rfl) rfl rfl ?_
                            refine g_iadd 227 (gd rfl) rfl (fun z226 e226 => ?_)
                            have i226 := in_add 1 1000 e226 i8 (in_c 1 rfl) rfl rfl
                            refine g_putI 230 (gd rfl) rfl rfl rfl rfl ?_
                            have hI227 := inv_sF (q := 109) (j := 27) hI217 rfl (in_w 0 1000 i226 rfl)
                            have n230 : ∃ k v, TKN (s.1 125) (s.2.2.1 109 22).toInt.toNat (s.2.2.1 109 27).toInt.toNat ((sF s217 109 27 z226).2.2.1 109 29).toInt.toNat ((sF s217 109 27 z226).2.2.1 109 27).toInt.toNat k v ∧ NTK s (sF s217 109 27 z226) k v := by have hT0 : s.1 125 w0_109_27.toInt.toNat = z19 := (by rw [e19, hFc0.1 125 rfl]; rfl); have hS : tkS (s.1 125) (u_109_22).toInt.toNat (u_109_27).toInt.toNat w0_109_27.toInt.toNat := ⟨by have a0 := in_u i8a; have a1 := in_u i8; have a2 := in_u ((in_c 0 rfl)); have a3 := in_u i121x3; have a4 := in_u i226; have a5 := t_add e226 i8 (in_c 1 rfl) rfl; have a6 := in_u ((in_c 1 rfl)); have a7 := in_u i217a; have a8 := in_u ((in_c 3 rfl)); have oc := oc_299_109; omega, by have a0 := in_u i8a; have a1 := in_u i8; have a2 := in_u ((in_c 0 rfl)); have a3 := in_u i121x3; have a4 := in_u i226; have a5 := t_add e226 i8 (in_c 1 rfl) rfl; have a6 := in_u ((in_c 1 rfl)); have a7 := in_u i217a; have a8 := in_u ((in_c 3 rfl)); have oc := oc_299_109; omega, fun i a b => g0_0 i (by rw [← e_109_27]; exact a) (by have a0 := in_u i8a; have a1 := in_u i8; have a2 := in_u ((in_c 0 rfl)); have a3 := in_u i121x3; have a4 := in_u i226; have a5 := t_add e226 i8 (in_c 1 rfl) rfl; have a6 := in_u ((in_c 1 rfl)); have a7 := in_u i217a; have a8 := in_u ((in_c 3 rfl)); have oc := oc_299_109; omega), fun _ => by rw [hT0]; have a0 := in_u i8a; have a1 := in_u i8; have a2 := in_u ((in_c 0 rfl)); have a3 := in_u i121x3; have a4 := in_u i226; have a5 := t_add e226 i8 (in_c 1 rfl) rfl; have a6 := in_u ((in_c 1 rfl)); have a7 := in_u i217a; have a8 := in_u ((in_c 3 rfl)); have oc := oc_299_109; omega⟩; refine ⟨4, 0, ?_, ?_⟩; (rw [← (show z226 = (sF s217 109 27 z226).2.2.1 109 27 from sF_get), ← (show w0_109_27 = (sF s217 109 27 z226).2.2.1 109 29 from sF_ne rfl (fr_F (s := (sF (sF (sF sc0 109 29 w0_109_27) 109 30 z19) 109 28 (Int32.ofInt 3))) (sF_ne rfl (sF_ne rfl (sF_get))) hF217 rfl)), ← e_109_22, ← e_109_27]; exact tkn_4 hS (by have a0 := in_u i8a; have a1 := in_u i8; have a2 := in_u ((in_c 0 rfl)); have a3 := in_u i121x3; have a4 := in_u i226; have a5 := t_add e226 i8 (in_c 1 rfl) rfl; have a6 := in_u ((in_c 1 rfl)); have a7 := in_u i217a; have a8 := in_u ((in_c 3 rfl)); have oc := oc_299_109; omega) (by rw [hT0]; unfold tkL; have a0 := in_u i8a; have a1 := in_u i8; have a2 := in_u ((in_c 0 rfl)); have a3 := in_u i121x3; have a4 := in_u i226; have a5 := t_add e226 i8 (in_c 1 rfl) rfl; have a6 := in_u ((in_c 1 rfl)); have a7 := in_u i217a; have a8 := in_u ((in_c 3 rfl)); have oc := oc_299_109; omega) (by rw [hT0]; have a0 := in_u i8a; have a1 := in_u i8; have a2 := in_u ((in_c 0 rfl)); have a3 := in_u i121x3; have a4 := in_u i226; have a5 := t_add e226 i8 (in_c 1 rfl) rfl; have a6 := in_u ((in_c 1 rfl)); have a7 := in_u i217a; have a8 := in_u ((in_c 3 rfl)); have oc := oc_299_109; omega) (by first | exact nq_1 (by rw [hT0]; unfold tkD; have a0 := in_u i8a; have a1 := in_u i8; have a2 := in_u ((in_c 0 rfl)); have a3 := in_u i121x3; have a4 := in_u i226; have a5 := t_add e226 i8 (in_c 1 rfl) rfl; have a6 := in_u ((in_c 1 rfl)); have a7 := in_u i217a; have a8 := in_u ((in_c 3 rfl)); have oc := oc_299_109; omega) (by rw [hT0]; have a0 := in_u i8a; have a1 := in_u i8; have a2 := in_u ((in_c 0 rfl)); have a3 := in_u i121x3; have a4 := in_u i226; have a5 := t_add e226 i8 (in_c 1 rfl) rfl; have a6 := in_u ((in_c 1 rfl)); have a7 := in_u i217a; have a8 := in_u ((in_c 3 rfl)); have oc := oc_299_109; omega) | exact nq_2 (by rw [hT0]; have a0 := in_u i8a; have a1 := in_u i8; have a2 := in_u ((in_c 0 rfl)); have a3 := in_u i121x3; have a4 := in_u i226; have a5 := t_add e226 i8 (in_c 1 rfl) rfl; have a6 := in_u ((in_c 1 rfl)); have a7 := in_u i217a; have a8 := in_u ((in_c 3 rfl)); have oc := oc_299_109; omega) (fun h => by first | (exfalso; have a0 := in_u i8a; have a1 := in_u i8; have a2 := in_u ((in_c 0 rfl)); have a3 := in_u i121x3; have a4 := in_u i226; have a5 := t_add e226 i8 (in_c 1 rfl) rfl; have a6 := in_u ((in_c 1 rfl)); have a7 := in_u i217a; have a8 := in_u ((in_c 3 rfl)); have oc := oc_299_109; omega) | (rw [show s.1 125 (w0_109_27.toInt.toNat + 1) = z107 from (by rw [e107, show z106.toNatClampNeg = w0_109_27.toInt.toNat + 1 from (by show z106.toInt.toNat = _; have a0 := in_u i8a; have a1 := in_u i8; have a2 := in_u ((in_c 0 rfl)); have a3 := in_u i121x3; have a4 := in_u i226; have a5 := t_add e226 i8 (in_c 1 rfl) rfl; have a6 := in_u ((in_c 1 rfl)); have a7 := in_u i217a; have a8 := in_u ((in_c 3 rfl)); have oc := oc_299_109; omega)]; exact congrFun (hFc0.1 125 rfl).symm _)]; unfold tkD; have a0 := in_u i8a; have a1 := in_u i8; have a2 := in_u ((in_c 0 rfl)); have a3 := in_u i121x3; have a4 := in_u i226; have a5 := t_add e226 i8 (in_c 1 rfl) rfl; have a6 := in_u ((in_c 1 rfl)); have a7 := in_u i217a; have a8 := in_u ((in_c 3 rfl)); have oc := oc_299_109; omega))) (by have a0 := in_u i8a; have a1 := in_u i8; have a2 := in_u ((in_c 0 rfl)); have a3 := in_u i121x3; have a4 := in_u i226; have a5 := t_add e226 i8 (in_c 1 rfl) rfl; have a6 := in_u ((in_c 1 rfl)); have a7 := in_u i217a; have a8 := in_u ((in_c 3 rfl)); have oc := oc_299_109; omega) rfl); (exact ntk_4 ((show (Int32.ofInt 3) = (sF s217 109 27 z226).2.2.1 109 28 from sF_ne rfl (fr_F (s := (sF (sF (sF sc0 109 29 w0_109_27) 109 30 z19) 109 28 (Int32.ofInt 3))) (sF_get) hF217 rfl))).symm (by rw [← (show z19 = (sF s217 109 27 z226).2.2.1 109 30 from sF_ne rfl (fr_F (s := (sF (sF (sF sc0 109 29 w0_109_27) 109 30 z19) 109 28 (Int32.ofInt 3))) (sF_ne rfl (sF_get)) hF217 rfl))]; have a0 := in_u i8a; have a1 := in_u i8; have a2 := in_u ((in_c 0 rfl)); have a3 := in_u i121x3; have a4 := in_u i226; have a5 := t_add e226 i8 (in_c 1 rfl) rfl; have a6 := in_u ((in_c 1 rfl)); have a7 := in_u i217a; have a8 := in_u ((in_c 3 rfl)); have oc := oc_299_109; omega) (fbl_tr g0_1 (by rw [← (show w0_109_27 = (sF s217 109 27 z226).2.2.1 109 29 from sF_ne rfl (fr_F (s := (sF (sF (sF sc0 109 29 w0_109_27) 109 30 z19) 109 28 (Int32.ofInt 3))) (sF_ne rfl (sF_ne rfl (sF_get))) hF217 rfl))]; exact p217)))
                            have n230a : (z226).toInt ≤ (u_109_22).toInt := by have a0 := in_u i8a; have a1 := in_u i8; have a2 := in_u ((in_c 0 rfl)); have a3 := in_u i121x3; have a4 := in_u i226; have a5 := t_add e226 i8 (in_c 1 rfl) rfl; have a6 := in_u ((in_c 1 rfl)); have a7 := in_u i217a; have a8 := in_u ((in_c 3 rfl)); have oc := oc_299_109; omega
                            have n230b : ((sF s217 109 27 z226).2.2.1 109 27).toInt ≤ ((sF s217 109 27 z226).2.2.1 109 22).toInt := by have b0 : z226 = (sF s217 109 27 z226).2.2.1 109 27 := sF_get; have b1 : u_109_22 = (sF s217 109 27 z226).2.2.1 109 22 := sF_ne rfl (fr_F (s := (sF (sF (sF sc0 109 29 w0_109_27) 109 30 z19) 109 28 (Int32.ofInt 3))) (sF_ne rfl (sF_ne rfl (sF_ne rfl (fr_F e_109_22 hFc0 rfl)))) hF217 rfl); rw [← b0, ← b1]; exact n230a
                            have n230c : (u_109_27).toInt ≤ (z226).toInt := by have a0 := in_u i8a; have a1 := in_u i8; have a2 := in_u ((in_c 0 rfl)); have a3 := in_u i121x3; have a4 := in_u i226; have a5 := t_add e226 i8 (in_c 1 rfl) rfl; have a6 := in_u ((in_c 1 rfl)); have a7 := in_u i217a; have a8 := in_u ((in_c 3 rfl)); have oc := oc_299_109; omega
                            have n230d : (s.2.2.1 109 27).toInt ≤ ((sF s217 109 27 z226).2.2.1 109 27).toInt := by have b0 : z226 = (sF s217 109 27 z226).2.2.1 109 27 := sF_get; first | (rw [← b0, ← e_109_27]; exact n230c) | (rw [← b0]; exact n230c)
                            have n230e : ((Int32.ofInt 3)).toInt ≠ 0 → (u_109_27).toInt + 1 ≤ (z226).toInt := by have a0 := in_u i8a; have a1 := in_u i8; have a2 := in_u ((in_c 0 rfl)); have a3 := in_u i121x3; have a4 := in_u i226; have a5 := t_add e226 i8 (in_c 1 rfl) rfl; have a6 := in_u ((in_c 1 rfl)); have a7 := in_u i217a; have a8 := in_u ((in_c 3 rfl)); have oc := oc_299_109; omega
                            have n230f : ((sF s217 109 27 z226).2.2.1 109 28).toInt ≠ 0 → (s.2.2.1 109 27).toInt + 1 ≤ ((sF s217 109 27 z226).2.2.1 109 27).toInt := by have b0 : (Int32.ofInt 3) = (sF s217 109 27 z226).2.2.1 109 28 := sF_ne rfl (fr_F (s := (sF (sF (sF sc0 109 29 w0_109_27) 109 30 z19) 109 28 (Int32.ofInt 3))) (sF_get) hF217 rfl); have b1 : z226 = (sF s217 109 27 z226).2.2.1 109 27 := sF_get; first | (rw [← b0, ← b1, ← e_109_27]; exact n230e) | (rw [← b0, ← b1]; exact n230e)
                            have n230g : ((Int32.ofInt 3)).toInt = 1 → 97 ≤ (z19).toInt := by have a0 := in_u i8a; have a1 := in_u i8; have a2 := in_u ((in_c 0 rfl)); have a3 := in_u i121x3; have a4 := in_u i226; have a5 := t_add e226 i8 (in_c 1 rfl) rfl; have a6 := in_u ((in_c 1 rfl)); have a7 := in_u i217a; have a8 := in_u ((in_c 3 rfl)); have oc := oc_299_109; omega
                            have n230h : ((sF s217 109 27 z226).2.2.1 109 28).toInt = 1 → 97 ≤ ((sF s217 109 27 z226).2.2.1 109 30).toInt := by have b0 : (Int32.ofInt 3) = (sF s217 109 27 z226).2.2.1 109 28 := sF_ne rfl (fr_F (s := (sF (sF (sF sc0 109 29 w0_109_27) 109 30 z19) 109 28 (Int32.ofInt 3))) (sF_get) hF217 rfl); have b1 : z19 = (sF s217 109 27 z226).2.2.1 109 30 := sF_ne rfl (fr_F (s := (sF (sF (sF sc0 109 29 w0_109_27) 109 30 z19) 109 28 (Int32.ofInt 3))) (sF_ne rfl (sF_get)) hF217 rfl); rw [← b0, ← b1]; exact n230g
                            have n230i : ((Int32.ofInt 3)).toInt = 1 → (z19).toInt ≤ 122 := by have a0 := in_u i8a; have a1 := in_u i8; have a2 := in_u ((in_c 0 rfl)); have a3 := in_u i121x3; have a4 := in_u i226; have a5 := t_add e226 i8 (in_c 1 rfl) rfl; have a6 := in_u ((in_c 1 rfl)); have a7 := in_u i217a; have a8 := in_u ((in_c 3 rfl)); have oc := oc_299_109; omega
                            have n230j : ((sF s217 109 27 z226).2.2.1 109 28).toInt = 1 → ((sF s217 109 27 z226).2.2.1 109 30).toInt ≤ 122 := by have b0 : (Int32.ofInt 3) = (sF s217 109 27 z226).2.2.1 109 28 := sF_ne rfl (fr_F (s := (sF (sF (sF sc0 109 29 w0_109_27) 109 30 z19) 109 28 (Int32.ofInt 3))) (sF_get) hF217 rfl); have b1 : z19 = (sF s217 109 27 z226).2.2.1 109 30 := sF_ne rfl (fr_F (s := (sF (sF (sF sc0 109 29 w0_109_27) 109 30 z19) 109 28 (Int32.ofInt 3))) (sF_ne rfl (sF_get)) hF217 rfl); rw [← b0, ← b1]; exact n230i
                            exact g_return (gd rfl) rfl (hP _ _ ⟨(sF s217 109 27 z226), hI227, (fr_sF rfl (fr_tr rfl (fr_sF rfl (fr_sF rfl (fr_sF rfl hFc0))) hF217)), n230b, n230d, n230f, n230h, n230j, rfl, rfl, n230⟩)
                      · skip
                        exact zn_ne c186 (in_c 0 rfl) rfl
                    · skip
                      exact n_le c183x3 (in_c 97 rfl) i121x3 rfl
                  · skip
                    exact zn_ne c128 (in_c 0 rfl) rfl
              · skip
                have i121x3 := r_le2 48 126 c121x3 (in_c 48 rfl) i19 rfl
                refine g_iload_n 7 (gd rfl) rfl rfl ?_
                refine g_bipush 57 9 (gd rfl) rfl rfl ?_
                refine g_cmp_gt 12 16 (gd rfl) rfl rfl (fun c121x9 => ?_) (fun c121x9 => ?_)
                · skip
                  have i121x9 := r_lt2 58 126 c121x9 (in_c 57 rfl) i121x3 rfl
                  refine g_iconst 0 17 (gd rfl) rfl rfl ?_
                  refine g_ireturn (gd rfl) rfl (nb01 (in_w 0 1 (in_c 0 rfl) rfl)) (hp121 _ _ ?_)
                  show GG _ _ _ _ _ _ _ _ [.int (Int32.ofInt 0)] _ _ _
                  refine g_if_ne 127 131 (gd rfl) rfl rfl (fun c124 => ?_) (fun c124 => ?_)
                  · skip
                    exact zn_ne c124 (in_c 0 rfl) rfl
                  · skip
                    refine g_iload_n 128 (gd rfl) rfl rfl ?_
                    refine g_if_eq 131 181 (gd rfl) rfl rfl (fun c128 => ?_) (fun c128 => ?_)
                    · skip
                      refine g_aload_n 182 (gd rfl) rfl rfl ?_
                      refine g_iload_n 183 (gd rfl) rfl rfl ?_
                      refine g_calls (As := [.int z19]) (r := [.ref (A 109)]) 186 (gd rfl) rfl rfl rfl rfl rfl (Nat.le_of_ble_eq_true rfl) (mc := 0) (ms := 0) (Nat.zero_le _) (Nat.zero_le _) (P := fun v u => _) ?_ (fun v u h => h)
                      intro po183 xx183 hp183 hx183
                      refine g_enter2 (k := 296) (N := 300) (by first | exact dq1 hd rfl | exact dq0 hd rfl | exact dq2 hd rfl | exact dq3 hd rfl | omega) rfl (Nat.le_of_ble_eq_true rfl) ?_
                      refine g_iload_n 1 (gd rfl) rfl rfl ?_
                      refine g_bipush 97 3 (gd rfl) rfl rfl ?_
                      refine g_cmp_lt 6 16 (gd rfl) rfl rfl (fun c183x3 => ?_) (fun c183x3 => ?_)
                      · skip
                        have i183x3 := r_lt1 58 96 c183x3 i121x9 (in_c 97 rfl) rfl
                        refine g_iconst 0 17 (gd rfl) rfl rfl ?_
                        refine g_ireturn (gd rfl) rfl (nb01 (in_w 0 1 (in_c 0 rfl) rfl)) (hp183 _ _ ?_)
                        show GG _ _ _ _ _ _ _ _ [.int (Int32.ofInt 0), .ref (A 109)] _ _ _
                        refine g_if_eq 189 193 (gd rfl) rfl rfl (fun c186 => ?_) (fun c186 => ?_)
                        · skip
                          refine g_iconst 3 194 (gd rfl) rfl rfl ?_
                          refine g_putI 197 (gd rfl) rfl rfl rfl rfl ?_
                          have hI194 := inv_sF (q := 109) (j := 28) hI75 rfl (in_w (-2147483648) 2147483647 (in_c 3 rfl) rfl)
                          refine g_aload_n 198 (gd rfl) rfl rfl ?_
                          refine g_getI 201 (gd rfl) rfl rfl rfl (fun z198 e198 => ?_)
                          have q198 : (Int32.ofInt 3) = z198 := (sF_get).trans e198.symm
                          subst q198
                          refine g_iconst 3 202 (gd rfl) rfl rfl ?_
                          refine g_cmp_ne 205 220 (gd rfl) rfl rfl (fun c202 => ?_) (fun c202 => ?_)
                          · skip
                            exact n_ne c202 (in_c 3 rfl) (in_c 3 rfl) rfl
                          · skip
                            refine g_iload_n 206 (gd rfl) rfl rfl ?_
                            refine g_bipush 59 208 (gd rfl) rfl rfl ?_
                            refine g_cmp_eq 211 220 (gd rfl) rfl rfl (fun c208 => ?_) (fun c208 => ?_)
                            · skip
                              have i208 := r_eq1 59 59 c208 i183x3 (in_c 59 rfl) rfl
                              refine g_aload_n 221 (gd rfl) rfl rfl ?_
                              refine g_dup 222 (gd rfl) rfl rfl ?_
                              refine g_getI 225 (gd rfl) rfl rfl rfl (fun z222 e222 => ?_)
                              have q222 : w0_109_27 = z222 := (sF_ne rfl (sF_ne rfl (sF_ne rfl (v0_109_27)))).trans e222.symm
                              subst q222
                              refine g_iconst 1 226 (gd rfl) rfl rfl ?_
                              refine g_iadd 227 (gd rfl) rfl (fun z226 e226 => ?_)
                              have i226 := in_add 1 1000 e226 i8 (in_c 1 rfl) rfl rfl
                              refine g_putI 230 (gd rfl) rfl rfl rfl rfl ?_
                              have hI227 := inv_sF (q := 109) (j := 27) hI194 rfl (in_w 0 1000 i226 rfl)
                              have n230 : ∃ k v, TKN (s.1 125) (s.2.2.1 109 22).toInt.toNat (s.2.2.1 109 27).toInt.toNat ((sF (sF (sF (sF sc0 109 29 w0_109_27) 109 30 z19) 109 28 (Int32.ofInt 3)) 109 27 z226).2.2.1 109 29).toInt.toNat ((sF (sF (sF (sF sc0 109 29 w0_109_27) 109 30 z19) 109 28 (Int32.ofInt 3)) 109 27 z226).2.2.1 109 27).toInt.toNat k v ∧ NTK s (sF (sF (sF (sF sc0 109 29 w0_109_27) 109 30 z19) 109 28 (Int32.ofInt 3)) 109 27 z226) k v := by first | (have hT0 : s.1 125 w0_109_27.toInt.toNat = z19 := (by rw [e19, hFc0.1 125 rfl]; rfl); have hS : tkS (s.1 125) (u_109_22).toInt.toNat (u_109_27).toInt.toNat w0_109_27.toInt.toNat := ⟨by have a0 := in_u i8a; have a1 := in_u i8; have a2 := in_u ((in_c 0 rfl)); have a3 := in_u i208; have a4 := in_u i226; have a5 := t_add e226 i8 (in_c 1 rfl) rfl; have a6 := in_u ((in_c 1 rfl)); have a7 := in_u ((in_c 3 rfl)); have oc := oc_299_109; omega, by have a0 := in_u i8a; have a1 := in_u i8; have a2 := in_u ((in_c 0 rfl)); have a3 := in_u i208; have a4 := in_u i226; have a5 := t_add e226 i8 (in_c 1 rfl) rfl; have a6 := in_u ((in_c 1 rfl)); have a7 := in_u ((in_c 3 rfl)); have oc := oc_299_109; omega, fun i a b => g0_0 i (by rw [← e_109_27]; exact a) (by have a0 := in_u i8a; have a1 := in_u i8; have a2 := in_u ((in_c 0 rfl)); have a3 := in_u i208; have a4 := in_u i226; have a5 := t_add e226 i8 (in_c 1 rfl) rfl; have a6 := in_u ((in_c 1 rfl)); have a7 := in_u ((in_c 3 rfl)); have oc := oc_299_109; omega), fun _ => by rw [hT0]; have a0 := in_u i8a; have a1 := in_u i8; have a2 := in_u ((in_c 0 rfl)); have a3 := in_u i208; have a4 := in_u i226; have a5 := t_add e226 i8 (in_c 1 rfl) rfl; have a6 := in_u ((in_c 1 rfl)); have a7 := in_u ((in_c 3 rfl)); have oc := oc_299_109; omega⟩; refine ⟨1, z19.toInt - 97, ?_, ?_⟩; (rw [← (show z226 = (sF (sF (sF (sF sc0 109 29 w0_109_27) 109 30 z19) 109 28 (Int32.ofInt 3)) 109 27 z226).2.2.1 109 27 from sF_get), ← (show w0_109_27 = (sF (sF (sF (sF sc0 109 29 w0_109_27) 109 30 z19) 109 28 (Int32.ofInt 3)) 109 27 z226).2.2.1 109 29 from sF_ne rfl (sF_ne rfl (sF_ne rfl (sF_get)))), ← e_109_22, ← e_109_27]; exact tkn_1 hS (by have a0 := in_u i8a; have a1 := in_u i8; have a2 := in_u ((in_c 0 rfl)); have a3 := in_u i208; have a4 := in_u i226; have a5 := t_add e226 i8 (in_c 1 rfl) rfl; have a6 := in_u ((in_c 1 rfl)); have a7 := in_u ((in_c 3 rfl)); have oc := oc_299_109; omega) (by rw [hT0]; exact ⟨by have a0 := in_u i8a; have a1 := in_u i8; have a2 := in_u ((in_c 0 rfl)); have a3 := in_u i208; have a4 := in_u i226; have a5 := t_add e226 i8 (in_c 1 rfl) rfl; have a6 := in_u ((in_c 1 rfl)); have a7 := in_u ((in_c 3 rfl)); have oc := oc_299_109; omega, by have a0 := in_u i8a; have a1 := in_u i8; have a2 := in_u ((in_c 0 rfl)); have a3 := in_u i208; have a4 := in_u i226; have a5 := t_add e226 i8 (in_c 1 rfl) rfl; have a6 := in_u ((in_c 1 rfl)); have a7 := in_u ((in_c 3 rfl)); have oc := oc_299_109; omega⟩) (by have a0 := in_u i8a; have a1 := in_u i8; have a2 := in_u ((in_c 0 rfl)); have a3 := in_u i208; have a4 := in_u i226; have a5 := t_add e226 i8 (in_c 1 rfl) rfl; have a6 := in_u ((in_c 1 rfl)); have a7 := in_u ((in_c 3 rfl)); have oc := oc_299_109; omega) rfl (by rw [hT0])); (exact ntk_1 ((show (Int32.ofInt 3) = (sF (sF (sF (sF sc0 109 29 w0_109_27) 109 30 z19) 109 28 (Int32.ofInt 3)) 109 27 z226).2.2.1 109 28 from sF_ne rfl (sF_get))).symm (by rw [← (show z19 = (sF (sF (sF (sF sc0 109 29 w0_109_27) 109 30 z19) 109 28 (Int32.ofInt 3)) 109 27 z226).2.2.1 109 30 from sF_ne rfl (sF_ne rfl (sF_get)))]; omega) g0_1)) | (have hT0 : s.1 125 w0_109_27.toInt.toNat = z19 := (by rw [e19, hFc0.1 125 rfl]; rfl); have hS : tkS (s.1 125) (u_109_22).toInt.toNat (u_109_27).toInt.toNat w0_109_27.toInt.toNat := ⟨by have a0 := in_u i8a; have a1 := in_u i8; have a2 := in_u ((in_c 0 rfl)); have a3 := in_u i208; have a4 := in_u i226; have a5 := t_add e226 i8 (in_c 1 rfl) rfl; have a6 := in_u ((in_c 1 rfl)); have a7 := in_u ((in_c 3 rfl)); have oc := oc_299_109; omega, by have a0 := in_u i8a; have a1 := in_u i8; have a2 := in_u ((in_c 0 rfl)); have a3 := in_u i208; have a4 := in_u i226; have a5 := t_add e226 i8 (in_c 1 rfl) rfl; have a6 := in_u ((in_c 1 rfl)); have a7 := in_u ((in_c 3 rfl)); have oc := oc_299_109; omega, fun i a b => g0_0 i (by rw [← e_109_27]; exact a) (by have a0 := in_u i8a; have a1 := in_u i8; have a2 := in_u ((in_c 0 rfl)); have a3 := in_u i208; have a4 := in_u i226; have a5 := t_add e226 i8 (in_c 1 rfl) rfl; have a6 := in_u ((in_c 1 rfl)); have a7 := in_u ((in_c 3 rfl)); have oc := oc_299_109; omega), fun _ => by rw [hT0]; have a0 := in_u i8a; have a1 := in_u i8; have a2 := in_u ((in_c 0 rfl)); have a3 := in_u i208; have a4 := in_u i226; have a5 := t_add e226 i8 (in_c 1 rfl) rfl; have a6 := in_u ((in_c 1 rfl)); have a7 := in_u ((in_c 3 rfl)); have oc := oc_299_109; omega⟩; refine ⟨3, 59, ?_, ?_⟩; (rw [← (show z226 = (sF (sF (sF (sF sc0 109 29 w0_109_27) 109 30 z19) 109 28 (Int32.ofInt 3)) 109 27 z226).2.2.1 109 27 from sF_get), ← (show w0_109_27 = (sF (sF (sF (sF sc0 109 29 w0_109_27) 109 30 z19) 109 28 (Int32.ofInt 3)) 109 27 z226).2.2.1 109 29 from sF_ne rfl (sF_ne rfl (sF_ne rfl (sF_get)))), ← e_109_22, ← e_109_27]; exact tkn_3 hS (by have a0 := in_u i8a; have a1 := in_u i8; have a2 := in_u ((in_c 0 rfl)); have a3 := in_u i208; have a4 := in_u i226; have a5 := t_add e226 i8 (in_c 1 rfl) rfl; have a6 := in_u ((in_c 1 rfl)); have a7 := in_u ((in_c 3 rfl)); have oc := oc_299_109; omega) (by rw [hT0]; have a0 := in_u i8a; have a1 := in_u i8; have a2 := in_u ((in_c 0 rfl)); have a3 := in_u i208; have a4 := in_u i226; have a5 := t_add e226 i8 (in_c 1 rfl) rfl; have a6 := in_u ((in_c 1 rfl)); have a7 := in_u ((in_c 3 rfl)); have oc := oc_299_109; omega) (by have a0 := in_u i8a; have a1 := in_u i8; have a2 := in_u ((in_c 0 rfl)); have a3 := in_u i208; have a4 := in_u i226; have a5 := t_add e226 i8 (in_c 1 rfl) rfl; have a6 := in_u ((in_c 1 rfl)); have a7 := in_u ((in_c 3 rfl)); have oc := oc_299_109; omega) rfl rfl); (exact ntk_3 ((show (Int32.ofInt 3) = (sF (sF (sF (sF sc0 109 29 w0_109_27) 109 30 z19) 109 28 (Int32.ofInt 3)) 109 27 z226).2.2.1 109 28 from sF_ne rfl (sF_get))).symm (by rw [← (show z19 = (sF (sF (sF (sF sc0 109 29 w0_109_27) 109 30 z19) 109 28 (Int32.ofInt 3)) 109 27 z226).2.2.1 109 30 from sF_ne rfl (sF_ne rfl (sF_get)))]; have a0 := in_u i8a; have a1 := in_u i8; have a2 := in_u ((in_c 0 rfl)); have a3 := in_u i208; have a4 := in_u i226; have a5 := t_add e226 i8 (in_c 1 rfl) rfl; have a6 := in_u ((in_c 1 rfl)); have a7 := in_u ((in_c 3 rfl)); have oc := oc_299_109; omega) g0_1))
                              have n230a : (z226).toInt ≤ (u_109_22).toInt := by have a0 := in_u i8a; have a1 := in_u i8; have a2 := in_u ((in_c 0 rfl)); have a3 := in_u i208; have a4 := in_u i226; have a5 := t_add e226 i8 (in_c 1 rfl) rfl; have a6 := in_u ((in_c 1 rfl)); have a7 := in_u ((in_c 3 rfl)); have oc := oc_299_109; omega
                              have n230b : ((sF (sF (sF (sF sc0 109 29 w0_109_27) 109 30 z19) 109 28 (Int32.ofInt 3)) 109 27 z226).2.2.1 109 27).toInt ≤ ((sF (sF (sF (sF sc0 109 29 w0_109_27) 109 30 z19) 109 28 (Int32.ofInt 3)) 109 27 z226).2.2.1 109 22).toInt := by have b0 : z226 = (sF (sF (sF (sF sc0 109 29 w0_109_27) 109 30 z19) 109 28 (Int32.ofInt 3)) 109 27 z226).2.2.1 109 27 := sF_get; have b1 : u_109_22 = (sF (sF (sF (sF sc0 109 29 w0_109_27) 109 30 z19) 109 28 (Int32.ofInt 3)) 109 27 z226).2.2.1 109 22 := sF_ne rfl (sF_ne rfl (sF_ne rfl (sF_ne rfl (fr_F e_109_22 hFc0 rfl)))); rw [← b0, ← b1]; exact n230a
                              have n230c : (u_109_27).toInt ≤ (z226).toInt := by have a0 := in_u i8a; have a1 := in_u i8; have a2 := in_u ((in_c 0 rfl)); have a3 := in_u i208; have a4 := in_u i226; have a5 := t_add e226 i8 (in_c 1 rfl) rfl; have a6 := in_u ((in_c 1 rfl)); have a7 := in_u ((in_c 3 rfl)); have oc := oc_299_109; omega
                              have n230d : (s.2.2.1 109 27).toInt ≤ ((sF (sF (sF (sF sc0 109 29 w0_109_27) 109 30 z19) 109 28 (Int32.ofInt 3)) 109 27 z226).2.2.1 109 27).toInt := by have b0 : z226 = (sF (sF (sF (sF sc0 109 29 w0_109_27) 109 30 z19) 109 28 (Int32.ofInt 3)) 109 27 z226).2.2.1 109 27 := sF_get; first | (rw [← b0, ← e_109_27]; exact n230c) | (rw [← b0]; exact n230c)
                              have n230e : ((Int32.ofInt 3)).toInt ≠ 0 → (u_109_27).toInt + 1 ≤ (z226).toInt := by have a0 := in_u i8a; have a1 := in_u i8; have a2 := in_u ((in_c 0 rfl)); have a3 := in_u i208; have a4 := in_u i226; have a5 := t_add e226 i8 (in_c 1 rfl) rfl; have a6 := in_u ((in_c 1 rfl)); have a7 := in_u ((in_c 3 rfl)); have oc := oc_299_109; omega
                              have n230f : ((sF (sF (sF (sF sc0 109 29 w0_109_27) 109 30 z19) 109 28 (Int32.ofInt 3)) 109 27 z226).2.2.1 109 28).toInt ≠ 0 → (s.2.2.1 109 27).toInt + 1 ≤ ((sF (sF (sF (sF sc0 109 29 w0_109_27) 109 30 z19) 109 28 (Int32.ofInt 3)) 109 27 z226).2.2.1 109 27).toInt := by have b0 : (Int32.ofInt 3) = (sF (sF (sF (sF sc0 109 29 w0_109_27) 109 30 z19) 109 28 (Int32.ofInt 3)) 109 27 z226).2.2.1 109 28 := sF_ne rfl (sF_get); have b1 : z226 = (sF (sF (sF (sF sc0 109 29 w0_109_27) 109 30 z19) 109 28 (Int32.ofInt 3)) 109 27 z226).2.2.1 109 27 := sF_get; first | (rw [← b0, ← b1, ← e_109_27]; exact n230e) | (rw [← b0, ← b1]; exact n230e)
                              have n230g : ((Int32.ofInt 3)).toInt = 1 → 97 ≤ (z19).toInt := by have a0 := in_u i8a; have a1 := in_u i8; have a2 := in_u ((in_c 0 rfl)); have a3 := in_u i208; have a4 := in_u i226; have a5 := t_add e226 i8 (in_c 1 rfl) rfl; have a6 := in_u ((in_c 1 rfl)); have a7 := in_u ((in_c 3 rfl)); have oc := oc_299_109; omega
                              have n230h : ((sF (sF (sF (sF sc0 109 29 w0_109_27) 109 30 z19) 109 28 (Int32.ofInt 3)) 109 27 z226).2.2.1 109 28).toInt = 1 → 97 ≤ ((sF (sF (sF (sF sc0 109 29 w0_109_27) 109 30 z19) 109 28 (Int32.ofInt 3)) 109 27 z226).2.2.1 109 30).toInt := by have b0 : (Int32.ofInt 3) = (sF (sF (sF (sF sc0 109 29 w0_109_27) 109 30 z19) 109 28 (Int32.ofInt 3)) 109 27 z226).2.2.1 109 28 := sF_ne rfl (sF_get); have b1 : z19 = (sF (sF (sF (sF sc0 109 29 w0_109_27) 109 30 z19) 109 28 (Int32.ofInt 3)) 109 27 z226).2.2.1 109 30 := sF_ne rfl (sF_ne rfl (sF_get)); rw [← b0, ← b1]; exact n230g
                              have n230i : ((Int32.ofInt 3)).toInt = 1 → (z19).toInt ≤ 122 := by have a0 := in_u i8a; have a1 := in_u i8; have a2 := in_u ((in_c 0 rfl)); have a3 := in_u i208; have a4 := in_u i226; have a5 := t_add e226 i8 (in_c 1 rfl) rfl; have a6 := in_u ((in_c 1 rfl)); have a7 := in_u ((in_c 3 rfl)); have oc := oc_299_109; omega
                              have n230j : ((sF (sF (sF (sF sc0 109 29 w0_109_27) 109 30 z19) 109 28 (Int32.ofInt 3)) 109 27 z226).2.2.1 109 28).toInt = 1 → ((sF (sF (sF (sF sc0 109 29 w0_109_27) 109 30 z19) 109 28 (Int32.ofInt 3)) 109 27 z226).2.2.1 109 30).toInt ≤ 122 := by have b0 : (Int32.ofInt 3) = (sF (sF (sF (sF sc0 109 29 w0_109_27) 109 30 z19) 109 28 (Int32.ofInt 3)) 109 27 z226).2.2.1 109 28 := sF_ne rfl (sF_get); have b1 : z19 = (sF (sF (sF (sF sc0 109 29 w0_109_27) 109 30 z19) 109 28 (Int32.ofInt 3)) 109 27 z226).2.2.1 109 30 := sF_ne rfl (sF_ne rfl (sF_get)); rw [← b0, ← b1]; exact n230i
                              exact g_return (gd rfl) rfl (hP _ _ ⟨(sF (sF (sF (sF sc0 109 29 w0_109_27) 109 30 z19) 109 28 (Int32.ofInt 3)) 109 27 z226), hI227, (fr_sF rfl (fr_sF rfl (fr_sF rfl (fr_sF rfl hFc0)))), n230b, n230d, n230f, n230h, n230j, rfl, rfl, n230⟩)
                            · skip
                              refine g_aload_n 212 (gd rfl) rfl rfl ?_
                              refine g_iconst 1 213 (gd rfl) rfl rfl ?_
                              refine g_aload_n 214 (gd rfl) rfl rfl ?_
                              refine g_getI 217 (gd rfl) rfl rfl rfl (fun z214 e214 => ?_)
                              have q214 : w0_109_27 = z214 := (sF_ne rfl (sF_ne rfl (sF_get))).trans e214.symm
                              subst q214
                              refine g_callv (X := _) (As := [.int (Int32.ofInt 1), .int w0_109_27]) (r := []) (b := A 109) (q := 109) 220 (gd rfl) rfl rfl rfl rfl rfl (ww_o rfl) (Nat.le_of_ble_eq_true rfl) (Nat.zero_le _) (Nat.zero_le _) (f_298 (by first | exact dq1 hd rfl | exact dq0 hd rfl | exact dq2 hd rfl | exact dq3 hd rfl | omega) hI194 (in_w 1 5 (in_c 1 rfl) rfl) rfl) (fun e u h => h) (fun v u h => ?_)
                              obtain ⟨s217, hI217, hF217, n217, rfl, rfl, p217⟩ := h
                              obtain ⟨z217a, e217⟩ : ∃ w, w = s217.2.2.1 109 23 := ⟨_, rfl⟩
                              have i217a := inv_F hI217 0 9 rfl e217
                              rw [← (show z217a = s217.2.2.1 109 23 from e217)] at n217
                              show GG _ _ _ _ _ _ _ _ [] _ _ _
                              refine g_aload_n 221 (gd rfl) rfl rfl ?_
                              refine g_dup 222 (gd rfl) rfl rfl ?_
                              refine g_getI 225 (gd rfl) rfl rfl rfl (fun z222 e222 => ?_)
                              have q222 : w0_109_27 = z222 := (fr_F (s := (sF (sF (sF sc0 109 29 w0_109_27) 109 30 z19) 109 28 (Int32.ofInt 3))) (sF_ne rfl (sF_ne rfl (sF_ne rfl (v0_109_27)))) hF217 rfl).trans e222.symm
                              subst q222
                              refine g_iconst 1 226 (gd rfl) rfl rfl ?_
                              refine g_iadd 227 (gd rfl) rfl (fun z226 e226 => ?_)
                              have i226 := in_add 1 1000 e226 i8 (in_c 1 rfl) rfl rfl
                              refine g_putI 230 (gd rfl) rfl rfl rfl rfl ?_
                              have hI227 := inv_sF (q := 109) (j := 27) hI217 rfl (in_w 0 1000 i226 rfl)
                              have n230 : ∃ k v, TKN (s.1 125) (s.2.2.1 109 22).toInt.toNat (s.2.2.1 109 27).toInt.toNat ((sF s217 109 27 z226).2.2.1 109 29).toInt.toNat ((sF s217 109 27 z226).2.2.1 109 27).toInt.toNat k v ∧ NTK s (sF s217 109 27 z226) k v := by have hT0 : s.1 125 w0_109_27.toInt.toNat = z19 := (by rw [e19, hFc0.1 125 rfl]; rfl); have hS : tkS (s.1 125) (u_109_22).toInt.toNat (u_109_27).toInt.toNat w0_109_27.toInt.toNat := ⟨by have a0 := in_u i8a; have a1 := in_u i8; have a2 := in_u ((in_c 0 rfl)); have a3 := in_u i183x3; have a4 := in_u i226; have a5 := t_add e226 i8 (in_c 1 rfl) rfl; have a6 := in_u ((in_c 1 rfl)); have a7 := in_u i217a; have a8 := in_u ((in_c 3 rfl)); have oc := oc_299_109; omega, by have a0 := in_u i8a; have a1 := in_u i8; have a2 := in_u ((in_c 0 rfl)); have a3 := in_u i183x3; have a4 := in_u i226; have a5 := t_add e226 i8 (in_c 1 rfl) rfl; have a6 := in_u ((in_c 1 rfl)); have a7 := in_u i217a; have a8 := in_u ((in_c 3 rfl)); have oc := oc_299_109; omega, fun i a b => g0_0 i (by rw [← e_109_27]; exact a) (by have a0 := in_u i8a; have a1 := in_u i8; have a2 := in_u ((in_c 0 rfl)); have a3 := in_u i183x3; have a4 := in_u i226; have a5 := t_add e226 i8 (in_c 1 rfl) rfl; have a6 := in_u ((in_c 1 rfl)); have a7 := in_u i217a; have a8 := in_u ((in_c 3 rfl)); have oc := oc_299_109; omega), fun _ => by rw [hT0]; have a0 := in_u i8a; have a1 := in_u i8; have a2 := in_u ((in_c 0 rfl)); have a3 := in_u i183x3; have a4 := in_u i226; have a5 := t_add e226 i8 (in_c 1 rfl) rfl; have a6 := in_u ((in_c 1 rfl)); have a7 := in_u i217a; have a8 := in_u ((in_c 3 rfl)); have oc := oc_299_109; omega⟩; refine ⟨4, 0, ?_, ?_⟩; (rw [← (show z226 = (sF s217 109 27 z226).2.2.1 109 27 from sF_get), ← (show w0_109_27 = (sF s217 109 27 z226).2.2.1 109 29 from sF_ne rfl (fr_F (s := (sF (sF (sF sc0 109 29 w0_109_27) 109 30 z19) 109 28 (Int32.ofInt 3))) (sF_ne rfl (sF_ne rfl (sF_get))) hF217 rfl)), ← e_109_22, ← e_109_27]; exact tkn_4 hS (by have a0 := in_u i8a; have a1 := in_u i8; have a2 := in_u ((in_c 0 rfl)); have a3 := in_u i183x3; have a4 := in_u i226; have a5 := t_add e226 i8 (in_c 1 rfl) rfl; have a6 := in_u ((in_c 1 rfl)); have a7 := in_u i217a; have a8 := in_u ((in_c 3 rfl)); have oc := oc_299_109; omega) (by rw [hT0]; unfold tkL; have a0 := in_u i8a; have a1 := in_u i8; have a2 := in_u ((in_c 0 rfl)); have a3 := in_u i183x3; have a4 := in_u i226; have a5 := t_add e226 i8 (in_c 1 rfl) rfl; have a6 := in_u ((in_c 1 rfl)); have a7 := in_u i217a; have a8 := in_u ((in_c 3 rfl)); have oc := oc_299_109; omega) (by rw [hT0]; have a0 := in_u i8a; have a1 := in_u i8; have a2 := in_u ((in_c 0 rfl)); have a3 := in_u i183x3; have a4 := in_u i226; have a5 := t_add e226 i8 (in_c 1 rfl) rfl; have a6 := in_u ((in_c 1 rfl)); have a7 := in_u i217a; have a8 := in_u ((in_c 3 rfl)); have oc := oc_299_109; omega) (by first | exact nq_1 (by rw [hT0]; unfold tkD; have a0 := in_u i8a; have a1 := in_u i8; have a2 := in_u ((in_c 0 rfl)); have a3 := in_u i183x3; have a4 := in_u i226; have a5 := t_add e226 i8 (in_c 1 rfl) rfl; have a6 := in_u ((in_c 1 rfl)); have a7 := in_u i217a; have a8 := in_u ((in_c 3 rfl)); have oc := oc_299_109; omega) (by rw [hT0]; have a0 := in_u i8a; have a1 := in_u i8; have a2 := in_u ((in_c 0 rfl)); have a3 := in_u i183x3; have a4 := in_u i226; have a5 := t_add e226 i8 (in_c 1 rfl) rfl; have a6 := in_u ((in_c 1 rfl)); have a7 := in_u i217a; have a8 := in_u ((in_c 3 rfl)); have oc := oc_299_109; omega) | exact nq_2 (by rw [hT0]; have a0 := in_u i8a; have a1 := in_u i8; have a2 := in_u ((in_c 0 rfl)); have a3 := in_u i183x3; have a4 := in_u i226; have a5 := t_add e226 i8 (in_c 1 rfl) rfl; have a6 := in_u ((in_c 1 rfl)); have a7 := in_u i217a; have a8 := in_u ((in_c 3 rfl)); have oc := oc_299_109; omega) (fun h => by first | (exfalso; have a0 := in_u i8a; have a1 := in_u i8; have a2 := in_u ((in_c 0 rfl)); have a3 := in_u i183x3; have a4 := in_u i226; have a5 := t_add e226 i8 (in_c 1 rfl) rfl; have a6 := in_u ((in_c 1 rfl)); have a7 := in_u i217a; have a8 := in_u ((in_c 3 rfl)); have oc := oc_299_109; omega) | (rw [show s.1 125 (w0_109_27.toInt.toNat + 1) = z107 from (by rw [e107, show z106.toNatClampNeg = w0_109_27.toInt.toNat + 1 from (by show z106.toInt.toNat = _; have a0 := in_u i8a; have a1 := in_u i8; have a2 := in_u ((in_c 0 rfl)); have a3 := in_u i183x3; have a4 := in_u i226; have a5 := t_add e226 i8 (in_c 1 rfl) rfl; have a6 := in_u ((in_c 1 rfl)); have a7 := in_u i217a; have a8 := in_u ((in_c 3 rfl)); have oc := oc_299_109; omega)]; exact congrFun (hFc0.1 125 rfl).symm _)]; unfold tkD; have a0 := in_u i8a; have a1 := in_u i8; have a2 := in_u ((in_c 0 rfl)); have a3 := in_u i183x3; have a4 := in_u i226; have a5 := t_add e226 i8 (in_c 1 rfl) rfl; have a6 := in_u ((in_c 1 rfl)); have a7 := in_u i217a; have a8 := in_u ((in_c 3 rfl)); have oc := oc_299_109; omega))) (by have a0 := in_u i8a; have a1 := in_u i8; have a2 := in_u ((in_c 0 rfl)); have a3 := in_u i183x3; have a4 := in_u i226; have a5 := t_add e226 i8 (in_c 1 rfl) rfl; have a6 := in_u ((in_c 1 rfl)); have a7 := in_u i217a; have a8 := in_u ((in_c 3 rfl)); have oc := oc_299_109; omega) rfl); (exact ntk_4 ((show (Int32.ofInt 3) = (sF s217 109 27 z226).2.2.1 109 28 from sF_ne rfl (fr_F (s := (sF (sF (sF sc0 109 29 w0_109_27) 109 30 z19) 109 28 (Int32.ofInt 3))) (sF_get) hF217 rfl))).symm (by rw [← (show z19 = (sF s217 109 27 z226).2.2.1 109 30 from sF_ne rfl (fr_F (s := (sF (sF (sF sc0 109 29 w0_109_27) 109 30 z19) 109 28 (Int32.ofInt 3))) (sF_ne rfl (sF_get)) hF217 rfl))]; have a0 := in_u i8a; have a1 := in_u i8; have a2 := in_u ((in_c 0 rfl)); have a3 := in_u i183x3; have a4 := in_u i226; have a5 := t_add e226 i8 (in_c 1 rfl) rfl; have a6 := in_u ((in_c 1 rfl)); have a7 := in_u i217a; have a8 := in_u ((in_c 3 rfl)); have oc := oc_299_109; omega) (fbl_tr g0_1 (by rw [← (show w0_109_27 = (sF s217 109 27 z226).2.2.1 109 29 from sF_ne rfl (fr_F (s := (sF (sF (sF sc0 109 29 w0_109_27) 109 30 z19) 109 28 (Int32.ofInt 3))) (sF_ne rfl (sF_ne rfl (sF_get))) hF217 rfl))]; exact p217)))
                              have n230a : (z226).toInt ≤ (u_109_22).toInt := by have a0 := in_u i8a; have a1 := in_u i8; have a2 := in_u ((in_c 0 rfl)); have a3 := in_u i183x3; have a4 := in_u i226; have a5 := t_add e226 i8 (in_c 1 rfl) rfl; have a6 := in_u ((in_c 1 rfl)); have a7 := in_u i217a; have a8 := in_u ((in_c 3 rfl)); have oc := oc_299_109; omega
                              have n230b : ((sF s217 109 27 z226).2.2.1 109 27).toInt ≤ ((sF s217 109 27 z226).2.2.1 109 22).toInt := by have b0 : z226 = (sF s217 109 27 z226).2.2.1 109 27 := sF_get; have b1 : u_109_22 = (sF s217 109 27 z226).2.2.1 109 22 := sF_ne rfl (fr_F (s := (sF (sF (sF sc0 109 29 w0_109_27) 109 30 z19) 109 28 (Int32.ofInt 3))) (sF_ne rfl (sF_ne rfl (sF_ne rfl (fr_F e_109_22 hFc0 rfl)))) hF217 rfl); rw [← b0, ← b1]; exact n230a
                              have n230c : (u_109_27).toInt ≤ (z226).toInt := by have a0 := in_u i8a; have a1 := in_u i8; have a2 := in_u ((in_c 0 rfl)); have a3 := in_u i183x3; have a4 := in_u i226; have a5 := t_add e226 i8 (in_c 1 rfl) rfl; have a6 := in_u ((in_c 1 rfl)); have a7 := in_u i217a; have a8 := in_u ((in_c 3 rfl)); have oc := oc_299_109; omega
                              have n230d : (s.2.2.1 109 27).toInt ≤ ((sF s217 109 27 z226).2.2.1 109 27).toInt := by have b0 : z226 = (sF s217 109 27 z226).2.2.1 109 27 := sF_get; first | (rw [← b0, ← e_109_27]; exact n230c) | (rw [← b0]; exact n230c)
                              have n230e : ((Int32.ofInt 3)).toInt ≠ 0 → (u_109_27).toInt + 1 ≤ (z226).toInt := by have a0 := in_u i8a; have a1 := in_u i8; have a2 := in_u ((in_c 0 rfl)); have a3 := in_u i183x3; have a4 := in_u i226; have a5 := t_add e226 i8 (in_c 1 rfl) rfl; have a6 := in_u ((in_c 1 rfl)); have a7 := in_u i217a; have a8 := in_u ((in_c 3 rfl)); have oc := oc_299_109; omega
                              have n230f : ((sF s217 109 27 z226).2.2.1 109 28).toInt ≠ 0 → (s.2.2.1 109 27).toInt + 1 ≤ ((sF s217 109 27 z226).2.2.1 109 27).toInt := by have b0 : (Int32.ofInt 3) = (sF s217 109 27 z226).2.2.1 109 28 := sF_ne rfl (fr_F (s := (sF (sF (sF sc0 109 29 w0_109_27) 109 30 z19) 109 28 (Int32.ofInt 3))) (sF_get) hF217 rfl); have b1 : z226 = (sF s217 109 27 z226).2.2.1 109 27 := sF_get; first | (rw [← b0, ← b1, ← e_109_27]; exact n230e) | (rw [← b0, ← b1]; exact n230e)
                              have n230g : ((Int32.ofInt 3)).toInt = 1 → 97 ≤ (z19).toInt := by have a0 := in_u i8a; have a1 := in_u i8; have a2 := in_u ((in_c 0 rfl)); have a3 := in_u i183x3; have a4 := in_u i226; have a5 := t_add e226 i8 (in_c 1 rfl) rfl; have a6 := in_u ((in_c 1 rfl)); have a7 := in_u i217a; have a8 := in_u ((in_c 3 rfl)); have oc := oc_299_109; omega
                              have n230h : ((sF s217 109 27 z226).2.2.1 109 28).toInt = 1 → 97 ≤ ((sF s217 109 27 z226).2.2.1 109 30).toInt := by have b0 : (Int32.ofInt 3) = (sF s217 109 27 z226).2.2.1 109 28 := sF_ne rfl (fr_F (s := (sF (sF (sF sc0 109 29 w0_109_27) 109 30 z19) 109 28 (Int32.ofInt 3))) (sF_get) hF217 rfl); have b1 : z19 = (sF s217 109 27 z226).2.2.1 109 30 := sF_ne rfl (fr_F (s := (sF (sF (sF sc0 109 29 w0_109_27) 109 30 z19) 109 28 (Int32.ofInt 3))) (sF_ne rfl (sF_get)) hF217 rfl); rw [← b0, ← b1]; exact n230g
                              have n230i : ((Int32.ofInt 3)).toInt = 1 → (z19).toInt ≤ 122 := by have a0 := in_u i8a; have a1 := in_u i8; have a2 := in_u ((in_c 0 rfl)); have a3 := in_u i183x3; have a4 := in_u i226; have a5 := t_add e226 i8 (in_c 1 rfl) rfl; have a6 := in_u ((in_c 1 rfl)); have a7 := in_u i217a; have a8 := in_u ((in_c 3 rfl)); have oc := oc_299_109; omega
                              have n230j : ((sF s217 109 27 z226).2.2.1 109 28).toInt = 1 → ((sF s217 109 27 z226).2.2.1 109 30).toInt ≤ 122 := by have b0 : (Int32.ofInt 3) = (sF s217 109 27 z226).2.2.1 109 28 := sF_ne rfl (fr_F (s := (sF (sF (sF sc0 109 29 w0_109_27) 109 30 z19) 109 28 (Int32.ofInt 3))) (sF_get) hF217 rfl); have b1 : z19 = (sF s217 109 27 z226).2.2.1 109 30 := sF_ne rfl (fr_F (s := (sF (sF (sF sc0 109 29 w0_109_27) 109 30 z19) 109 28 (Int32.ofInt 3))) (sF_ne rfl (sF_get)) hF217 rfl); rw [← b0, ← b1]; exact n230i
                              exact g_return (gd rfl) rfl (hP _ _ ⟨(sF s217 109 27 z226), hI227, (fr_sF rfl (fr_tr rfl (fr_sF rfl (fr_sF rfl (fr_sF rfl hFc0))) hF217)), n230b, n230d, n230f, n230h, n230j, rfl, rfl, n230⟩)
                        · skip
                          exact zn_ne c186 (in_c 0 rfl) rfl
                      · skip
                        have i183x3 := r_le2 97 126 c183x3 (in_c 97 rfl) i121x9 rfl
                        refine g_iload_n 7 (gd rfl) rfl rfl ?_
                        refine g_bipush 122 9 (gd rfl) rfl rfl ?_
                        refine g_cmp_gt 12 16 (gd rfl) rfl rfl (fun c183x9 => ?_) (fun c183x9 => ?_)
                        · skip
                          have i183x9 := r_lt2 123 126 c183x9 (in_c 122 rfl) i183x3 rfl
                          refine g_iconst 0 17 (gd rfl) rfl rfl ?_
                          refine g_ireturn (gd rfl) rfl (nb01 (in_w 0 1 (in_c 0 rfl) rfl)) (hp183 _ _ ?_)
                          show GG _ _ _ _ _ _ _ _ [.int (Int32.ofInt 0), .ref (A 109)] _ _ _
                          refine g_if_eq 189 193 (gd rfl) rfl rfl (fun c186 => ?_) (fun c186 => ?_)
                          · skip
                            refine g_iconst 3 194 (gd rfl) rfl rfl ?_
                            refine g_putI 197 (gd rfl) rfl rfl rfl rfl ?_
                            have hI194 := inv_sF (q := 109) (j := 28) hI75 rfl (in_w (-2147483648) 2147483647 (in_c 3 rfl) rfl)
                            refine g_aload_n 198 (gd rfl) rfl rfl ?_
                            refine g_getI 201 (gd rfl) rfl rfl rfl (fun z198 e198 => ?_)
                            have q198 : (Int32.ofInt 3) = z198 := (sF_get).trans e198.symm
                            subst q198
                            refine g_iconst 3 202 (gd rfl) rfl rfl ?_
                            refine g_cmp_ne 205 220 (gd rfl) rfl rfl (fun c202 => ?_) (fun c202 => ?_)
                            · skip
                              exact n_ne c202 (in_c 3 rfl) (in_c 3 rfl) rfl
                            · skip
                              refine g_iload_n 206 (gd rfl) rfl rfl ?_
                              refine g_bipush 59 208 (gd rfl) rfl rfl ?_
                              refine g_cmp_eq 211 220 (gd rfl) rfl rfl (fun c208 => ?_) (fun c208 => ?_)
                              · skip
                                exact n_eq c208 i183x9 (in_c 59 rfl) rfl
                              · skip
                                refine g_aload_n 212 (gd rfl) rfl rfl ?_
                                refine g_iconst 1 213 (gd rfl) rfl rfl ?_
                                refine g_aload_n 214 (gd rfl) rfl rfl ?_
                                refine g_getI 217 (gd rfl) rfl rfl rfl (fun z214 e214 => ?_)
                                have q214 : w0_109_27 = z214 := (sF_ne rfl (sF_ne rfl (sF_get))).trans e214.symm
                                subst q214
                                refine g_callv (X := _) (As := [.int (Int32.ofInt 1), .int w0_109_27]) (r := []) (b := A 109) (q := 109) 220 (gd rfl) rfl rfl rfl rfl rfl (ww_o rfl) (Nat.le_of_ble_eq_true rfl) (Nat.zero_le _) (Nat.zero_le _) (f_298 (by first | exact dq1 hd rfl | exact dq0 hd rfl | exact dq2 hd rfl | exact dq3 hd rfl | omega) hI194 (in_w 1 5 (in_c 1 rfl) rfl) rfl) (fun e u h => h) (fun v u h => ?_)
                                obtain ⟨s217, hI217, hF217, n217, rfl, rfl, p217⟩ := h
                                obtain ⟨z217a, e217⟩ : ∃ w, w = s217.2.2.1 109 23 := ⟨_, rfl⟩
                                have i217a := inv_F hI217 0 9 rfl e217
                                rw [← (show z217a = s217.2.2.1 109 23 from e217)] at n217
                                show GG _ _ _ _ _ _ _ _ [] _ _ _
                                refine g_aload_n 221 (gd rfl) rfl rfl ?_
                                refine g_dup 222 (gd rfl) rfl rfl ?_
                                refine g_getI 225 (gd rfl) rfl rfl rfl (fun z222 e222 => ?_)
                                have q222 : w0_109_27 = z222 := (fr_F (s := (sF (sF (sF sc0 109 29 w0_109_27) 109 30 z19) 109 28 (Int32.ofInt 3))) (sF_ne rfl (sF_ne rfl (sF_ne rfl (v0_109_27)))) hF217 rfl).trans e222.symm
                                subst q222
                                refine g_iconst 1 226 (gd rfl) rfl rfl ?_
                                refine g_iadd 227 (gd rfl) rfl (fun z226 e226 => ?_)
                                have i226 := in_add 1 1000 e226 i8 (in_c 1 rfl) rfl rfl
                                refine g_putI 230 (gd rfl) rfl rfl rfl rfl ?_
                                have hI227 := inv_sF (q := 109) (j := 27) hI217 rfl (in_w 0 1000 i226 rfl)
                                have n230 : ∃ k v, TKN (s.1 125) (s.2.2.1 109 22).toInt.toNat (s.2.2.1 109 27).toInt.toNat ((sF s217 109 27 z226).2.2.1 109 29).toInt.toNat ((sF s217 109 27 z226).2.2.1 109 27).toInt.toNat k v ∧ NTK s (sF s217 109 27 z226) k v := by have hT0 : s.1 125 w0_109_27.toInt.toNat = z19 := (by rw [e19, hFc0.1 125 rfl]; rfl); have hS : tkS (s.1 125) (u_109_22).toInt.toNat (u_109_27).toInt.toNat w0_109_27.toInt.toNat := ⟨by have a0 := in_u i8a; have a1 := in_u i8; have a2 := in_u ((in_c 0 rfl)); have a3 := in_u i183x9; have a4 := in_u i226; have a5 := t_add e226 i8 (in_c 1 rfl) rfl; have a6 := in_u ((in_c 1 rfl)); have a7 := in_u i217a; have a8 := in_u ((in_c 3 rfl)); have oc := oc_299_109; omega, by have a0 := in_u i8a; have a1 := in_u i8; have a2 := in_u ((in_c 0 rfl)); have a3 := in_u i183x9; have a4 := in_u i226; have a5 := t_add e226 i8 (in_c 1 rfl) rfl; have a6 := in_u ((in_c 1 rfl)); have a7 := in_u i217a; have a8 := in_u ((in_c 3 rfl)); have oc := oc_299_109; omega, fun i a b => g0_0 i (by rw [← e_109_27]; exact a) (by have a0 := in_u i8a; have a1 := in_u i8; have a2 := in_u ((in_c 0 rfl)); have a3 := in_u i183x9; have a4 := in_u i226; have a5 := t_add e226 i8 (in_c 1 rfl) rfl; have a6 := in_u ((in_c 1 rfl)); have a7 := in_u i217a; have a8 := in_u ((in_c 3 rfl)); have oc := oc_299_109; omega), fun _ => by rw [hT0]; have a0 := in_u i8a; have a1 := in_u i8; have a2 := in_u ((in_c 0 rfl)); have a3 := in_u i183x9; have a4 := in_u i226; have a5 := t_add e226 i8 (in_c 1 rfl) rfl; have a6 := in_u ((in_c 1 rfl)); have a7 := in_u i217a; have a8 := in_u ((in_c 3 rfl)); have oc := oc_299_109; omega⟩; refine ⟨4, 0, ?_, ?_⟩; (rw [← (show z226 = (sF s217 109 27 z226).2.2.1 109 27 from sF_get), ← (show w0_109_27 = (sF s217 109 27 z226).2.2.1 109 29 from sF_ne rfl (fr_F (s := (sF (sF (sF sc0 109 29 w0_109_27) 109 30 z19) 109 28 (Int32.ofInt 3))) (sF_ne rfl (sF_ne rfl (sF_get))) hF217 rfl)), ← e_109_22, ← e_109_27]; exact tkn_4 hS (by have a0 := in_u i8a; have a1 := in_u i8; have a2 := in_u ((in_c 0 rfl)); have a3 := in_u i183x9; have a4 := in_u i226; have a5 := t_add e226 i8 (in_c 1 rfl) rfl; have a6 := in_u ((in_c 1 rfl)); have a7 := in_u i217a; have a8 := in_u ((in_c 3 rfl)); have oc := oc_299_109; omega) (by rw [hT0]; unfold tkL; have a0 := in_u i8a; have a1 := in_u i8; have a2 := in_u ((in_c 0 rfl)); have a3 := in_u i183x9; have a4 := in_u i226; have a5 := t_add e226 i8 (in_c 1 rfl) rfl; have a6 := in_u ((in_c 1 rfl)); have a7 := in_u i217a; have a8 := in_u ((in_c 3 rfl)); have oc := oc_299_109; omega) (by rw [hT0]; have a0 := in_u i8a; have a1 := in_u i8; have a2 := in_u ((in_c 0 rfl)); have a3 := in_u i183x9; have a4 := in_u i226; have a5 := t_add e226 i8 (in_c 1 rfl) rfl; have a6 := in_u ((in_c 1 rfl)); have a7 := in_u i217a; have a8 := in_u ((in_c 3 rfl)); have oc := oc_299_109; omega) (by first | exact nq_1 (by rw [hT0]; unfold tkD; have a0 := in_u i8a; have a1 := in_u i8; have a2 := in_u ((in_c 0 rfl)); have a3 := in_u i183x9; have a4 := in_u i226; have a5 := t_add e226 i8 (in_c 1 rfl) rfl; have a6 := in_u ((in_c 1 rfl)); have a7 := in_u i217a; have a8 := in_u ((in_c 3 rfl)); have oc := oc_299_109; omega) (by rw [hT0]; have a0 := in_u i8a; have a1 := in_u i8; have a2 := in_u ((in_c 0 rfl)); have a3 := in_u i183x9; have a4 := in_u i226; have a5 := t_add e226 i8 (in_c 1 rfl) rfl; have a6 := in_u ((in_c 1 rfl)); have a7 := in_u i217a; have a8 := in_u ((in_c 3 rfl)); have oc := oc_299_109; omega) | exact nq_2 (by rw [hT0]; have a0 := in_u i8a; have a1 := in_u i8; have a2 := in_u ((in_c 0 rfl)); have a3 := in_u i183x9; have a4 := in_u i226; have a5 := t_add e226 i8 (in_c 1 rfl) rfl; have a6 := in_u ((in_c 1 rfl)); have a7 := in_u i217a; have a8 := in_u ((in_c 3 rfl)); have oc := oc_299_109; omega) (fun h => by first | (exfalso; have a0 := in_u i8a; have a1 := in_u i8; have a2 := in_u ((in_c 0 rfl)); have a3 := in_u i183x9; have a4 := in_u i226; have a5 := t_add e226 i8 (in_c 1 rfl) rfl; have a6 := in_u ((in_c 1 rfl)); have a7 := in_u i217a; have a8 := in_u ((in_c 3 rfl)); have oc := oc_299_109; omega) | (rw [show s.1 125 (w0_109_27.toInt.toNat + 1) = z107 from (by rw [e107, show z106.toNatClampNeg = w0_109_27.toInt.toNat + 1 from (by show z106.toInt.toNat = _; have a0 := in_u i8a; have a1 := in_u i8; have a2 := in_u ((in_c 0 rfl)); have a3 := in_u i183x9; have a4 := in_u i226; have a5 := t_add e226 i8 (in_c 1 rfl) rfl; have a6 := in_u ((in_c 1 rfl)); have a7 := in_u i217a; have a8 := in_u ((in_c 3 rfl)); have oc := oc_299_109; omega)]; exact congrFun (hFc0.1 125 rfl).symm _)]; unfold tkD; have a0 := in_u i8a; have a1 := in_u i8; have a2 := in_u ((in_c 0 rfl)); have a3 := in_u i183x9; have a4 := in_u i226; have a5 := t_add e226 i8 (in_c 1 rfl) rfl; have a6 := in_u ((in_c 1 rfl)); have a7 := in_u i217a; have a8 := in_u ((in_c 3 rfl)); have oc := oc_299_109; omega))) (by have a0 := in_u i8a; have a1 := in_u i8; have a2 := in_u ((in_c 0 rfl)); have a3 := in_u i183x9; have a4 := in_u i226; have a5 := t_add e226 i8 (in_c 1 rfl) rfl; have a6 := in_u ((in_c 1 rfl)); have a7 := in_u i217a; have a8 := in_u ((in_c 3 rfl)); have oc := oc_299_109; omega) rfl); (exact ntk_4 ((show (Int32.ofInt 3) = (sF s217 109 27 z226).2.2.1 109 28 from sF_ne rfl (fr_F (s := (sF (sF (sF sc0 109 29 w0_109_27) 109 30 z19) 109 28 (Int32.ofInt 3))) (sF_get) hF217 rfl))).symm (by rw [← (show z19 = (sF s217 109 27 z226).2.2.1 109 30 from sF_ne rfl (fr_F (s := (sF (sF (sF sc0 109 29 w0_109_27) 109 30 z19) 109 28 (Int32.ofInt 3))) (sF_ne rfl (sF_get)) hF217 rfl))]; have a0 := in_u i8a; have a1 := in_u i8; have a2 := in_u ((in_c 0 rfl)); have a3 := in_u i183x9; have a4 := in_u i226; have a5 := t_add e226 i8 (in_c 1 rfl) rfl; have a6 := in_u ((in_c 1 rfl)); have a7 := in_u i217a; have a8 := in_u ((in_c 3 rfl)); have oc := oc_299_109; omega) (fbl_tr g0_1 (by rw [← (show w0_109_27 = (sF s217 109 27 z226).2.2.1 109 29 from sF_ne rfl (fr_F (s := (sF (sF (sF sc0 109 29 w0_109_27) 109 30 z19) 109 28 (Int32.ofInt 3))) (sF_ne rfl (sF_ne rfl (sF_get))) hF217 rfl))]; exact p217)))
                                have n230a : (z226).toInt ≤ (u_109_22).toInt := by have a0 := in_u i8a; have a1 := in_u i8; have a2 := in_u ((in_c 0 rfl)); have a3 := in_u i183x9; have a4 := in_u i226; have a5 := t_add e226 i8 (in_c 1 rfl) rfl; have a6 := in_u ((in_c 1 rfl)); have a7 := in_u i217a; have a8 := in_u ((in_c 3 rfl)); have oc := oc_299_109; omega
                                have n230b : ((sF s217 109 27 z226).2.2.1 109 27).toInt ≤ ((sF s217 109 27 z226).2.2.1 109 22).toInt := by have b0 : z226 = (sF s217 109 27 z226).2.2.1 109 27 := sF_get; have b1 : u_109_22 = (sF s217 109 27 z226).2.2.1 109 22 := sF_ne rfl (fr_F (s := (sF (sF (sF sc0 109 29 w0_109_27) 109 30 z19) 109 28 (Int32.ofInt 3))) (sF_ne rfl (sF_ne rfl (sF_ne rfl (fr_F e_109_22 hFc0 rfl)))) hF217 rfl); rw [← b0, ← b1]; exact n230a
                                have n230c : (u_109_27).toInt ≤ (z226).toInt := by have a0 := in_u i8a; have a1 := in_u i8; have a2 := in_u ((in_c 0 rfl)); have a3 := in_u i183x9; have a4 := in_u i226; have a5 := t_add e226 i8 (in_c 1 rfl) rfl; have a6 := in_u ((in_c 1 rfl)); have a7 := in_u i217a; have a8 := in_u ((in_c 3 rfl)); have oc := oc_299_109; omega
                                have n230d : (s.2.2.1 109 27).toInt ≤ ((sF s217 109 27 z226).2.2.1 109 27).toInt := by have b0 : z226 = (sF s217 109 27 z226).2.2.1 109 27 := sF_get; first | (rw [← b0, ← e_109_27]; exact n230c) | (rw [← b0]; exact n230c)
                                have n230e : ((Int32.ofInt 3)).toInt ≠ 0 → (u_109_27).toInt + 1 ≤ (z226).toInt := by have a0 := in_u i8a; have a1 := in_u i8; have a2 := in_u ((in_c 0 rfl)); have a3 := in_u i183x9; have a4 := in_u i226; have a5 := t_add e226 i8 (in_c 1 rfl) rfl; have a6 := in_u ((in_c 1 rfl)); have a7 := in_u i217a; have a8 := in_u ((in_c 3 rfl)); have oc := oc_299_109; omega
                                have n230f : ((sF s217 109 27 z226).2.2.1 109 28).toInt ≠ 0 → (s.2.2.1 109 27).toInt + 1 ≤ ((sF s217 109 27 z226).2.2.1 109 27).toInt := by have b0 : (Int32.ofInt 3) = (sF s217 109 27 z226).2.2.1 109 28 := sF_ne rfl (fr_F (s := (sF (sF (sF sc0 109 29 w0_109_27) 109 30 z19) 109 28 (Int32.ofInt 3))) (sF_get) hF217 rfl); have b1 : z226 = (sF s217 109 27 z226).2.2.1 109 27 := sF_get; first | (rw [← b0, ← b1, ← e_109_27]; exact n230e) | (rw [← b0, ← b1]; exact n230e)
                                have n230g : ((Int32.ofInt 3)).toInt = 1 → 97 ≤ (z19).toInt := by have a0 := in_u i8a; have a1 := in_u i8; have a2 := in_u ((in_c 0 rfl)); have a3 := in_u i183x9; have a4 := in_u i226; have a5 := t_add e226 i8 (in_c 1 rfl) rfl; have a6 := in_u ((in_c 1 rfl)); have a7 := in_u i217a; have a8 := in_u ((in_c 3 rfl)); have oc := oc_299_109; omega
                                have n230h : ((sF s217 109 27 z226).2.2.1 109 28).toInt = 1 → 97 ≤ ((sF s217 109 27 z226).2.2.1 109 30).toInt := by have b0 : (Int32.ofInt 3) = (sF s217 109 27 z226).2.2.1 109 28 := sF_ne rfl (fr_F (s := (sF (sF (sF sc0 109 29 w0_109_27) 109 30 z19) 109 28 (Int32.ofInt 3))) (sF_get) hF217 rfl); have b1 : z19 = (sF s217 109 27 z226).2.2.1 109 30 := sF_ne rfl (fr_F (s := (sF (sF (sF sc0 109 29 w0_109_27) 109 30 z19) 109 28 (Int32.ofInt 3))) (sF_ne rfl (sF_get)) hF217 rfl); rw [← b0, ← b1]; exact n230g
                                have n230i : ((Int32.ofInt 3)).toInt = 1 → (z19).toInt ≤ 122 := by have a0 := in_u i8a; have a1 := in_u i8; have a2 := in_u ((in_c 0 rfl)); have a3 := in_u i183x9; have a4 := in_u i226; have a5 := t_add e226 i8 (in_c 1 rfl) rfl; have a6 := in_u ((in_c 1 rfl)); have a7 := in_u i217a; have a8 := in_u ((in_c 3 rfl)); have oc := oc_299_109; omega
                                have n230j : ((sF s217 109 27 z226).2.2.1 109 28).toInt = 1 → ((sF s217 109 27 z226).2.2.1 109 30).toInt ≤ 122 := by have b0 : (Int32.ofInt 3) = (sF s217 109 27 z226).2.2.1 109 28 := sF_ne rfl (fr_F (s := (sF (sF (sF sc0 109 29 w0_109_27) 109 30 z19) 109 28 (Int32.ofInt 3))) (sF_get) hF217 rfl); have b1 : z19 = (sF s217 109 27 z226).2.2.1 109 30 := sF_ne rfl (fr_F (s := (sF (sF (sF sc0 109 29 w0_109_27) 109 30 z19) 109 28 (Int32.ofInt 3))) (sF_ne rfl (sF_get)) hF217 rfl); rw [← b0, ← b1]; exact n230i
                                exact g_return (gd rfl) rfl (hP _ _ ⟨(sF s217 109 27 z226), hI227, (fr_sF rfl (fr_tr rfl (fr_sF rfl (fr_sF rfl (fr_sF rfl hFc0))) hF217)), n230b, n230d, n230f, n230h, n230j, rfl, rfl, n230⟩)
                          · skip
                            exact zn_ne c186 (in_c 0 rfl) rfl
                        · skip
                          have i183x9 := r_le1 97 122 c183x9 i183x3 (in_c 122 rfl) rfl
                          refine g_iconst 1 13 (gd rfl) rfl rfl ?_
                          refine g_goto 17 (gd rfl) rfl ?_
                          refine g_ireturn (gd rfl) rfl (nb01 (in_w 0 1 (in_c 1 rfl) rfl)) (hp183 _ _ ?_)
                          show GG _ _ _ _ _ _ _ _ [.int (Int32.ofInt 1), .ref (A 109)] _ _ _
                          refine g_if_eq 189 193 (gd rfl) rfl rfl (fun c186 => ?_) (fun c186 => ?_)
                          · skip
                            exact zn_eq c186 (in_c 1 rfl) rfl
                          · skip
                            refine g_iconst 1 190 (gd rfl) rfl rfl ?_
                            refine g_goto 194 (gd rfl) rfl ?_
                            refine g_putI 197 (gd rfl) rfl rfl rfl rfl ?_
                            have hI194 := inv_sF (q := 109) (j := 28) hI75 rfl (in_w (-2147483648) 2147483647 (in_c 1 rfl) rfl)
                            refine g_aload_n 198 (gd rfl) rfl rfl ?_
                            refine g_getI 201 (gd rfl) rfl rfl rfl (fun z198 e198 => ?_)
                            have q198 : (Int32.ofInt 1) = z198 := (sF_get).trans e198.symm
                            subst q198
                            refine g_iconst 3 202 (gd rfl) rfl rfl ?_
                            refine g_cmp_ne 205 220 (gd rfl) rfl rfl (fun c202 => ?_) (fun c202 => ?_)
                            · skip
                              refine g_aload_n 221 (gd rfl) rfl rfl ?_
                              refine g_dup 222 (gd rfl) rfl rfl ?_
                              refine g_getI 225 (gd rfl) rfl rfl rfl (fun z222 e222 => ?_)
                              have q222 : w0_109_27 = z222 := (sF_ne rfl (sF_ne rfl (sF_ne rfl (v0_109_27)))).trans e222.symm
                              subst q222
                              refine g_iconst 1 226 (gd rfl) rfl rfl ?_
                              refine g_iadd 227 (gd rfl) rfl (fun z226 e226 => ?_)
                              have i226 := in_add 1 1000 e226 i8 (in_c 1 rfl) rfl rfl
                              refine g_putI 230 (gd rfl) rfl rfl rfl rfl ?_
                              have hI227 := inv_sF (q := 109) (j := 27) hI194 rfl (in_w 0 1000 i226 rfl)
                              have n230 : ∃ k v, TKN (s.1 125) (s.2.2.1 109 22).toInt.toNat (s.2.2.1 109 27).toInt.toNat ((sF (sF (sF (sF sc0 109 29 w0_109_27) 109 30 z19) 109 28 (Int32.ofInt 1)) 109 27 z226).2.2.1 109 29).toInt.toNat ((sF (sF (sF (sF sc0 109 29 w0_109_27) 109 30 z19) 109 28 (Int32.ofInt 1)) 109 27 z226).2.2.1 109 27).toInt.toNat k v ∧ NTK s (sF (sF (sF (sF sc0 109 29 w0_109_27) 109 30 z19) 109 28 (Int32.ofInt 1)) 109 27 z226) k v := by first | (have hT0 : s.1 125 w0_109_27.toInt.toNat = z19 := (by rw [e19, hFc0.1 125 rfl]; rfl); have hS : tkS (s.1 125) (u_109_22).toInt.toNat (u_109_27).toInt.toNat w0_109_27.toInt.toNat := ⟨by have a0 := in_u i8a; have a1 := in_u i8; have a2 := in_u ((in_c 0 rfl)); have a3 := in_u i183x9; have a4 := in_u i226; have a5 := t_add e226 i8 (in_c 1 rfl) rfl; have a6 := in_u ((in_c 1 rfl)); have oc := oc_299_109; omega, by have a0 := in_u i8a; have a1 := in_u i8; have a2 := in_u ((in_c 0 rfl)); have a3 := in_u i183x9; have a4 := in_u i226; have a5 := t_add e226 i8 (in_c 1 rfl) rfl; have a6 := in_u ((in_c 1 rfl)); have oc := oc_299_109; omega, fun i a b => g0_0 i (by rw [← e_109_27]; exact a) (by have a0 := in_u i8a; have a1 := in_u i8; have a2 := in_u ((in_c 0 rfl)); have a3 := in_u i183x9; have a4 := in_u i226; have a5 := t_add e226 i8 (in_c 1 rfl) rfl; have a6 := in_u ((in_c 1 rfl)); have oc := oc_299_109; omega), fun _ => by rw [hT0]; have a0 := in_u i8a; have a1 := in_u i8; have a2 := in_u ((in_c 0 rfl)); have a3 := in_u i183x9; have a4 := in_u i226; have a5 := t_add e226 i8 (in_c 1 rfl) rfl; have a6 := in_u ((in_c 1 rfl)); have oc := oc_299_109; omega⟩; refine ⟨1, z19.toInt - 97, ?_, ?_⟩; (rw [← (show z226 = (sF (sF (sF (sF sc0 109 29 w0_109_27) 109 30 z19) 109 28 (Int32.ofInt 1)) 109 27 z226).2.2.1 109 27 from sF_get), ← (show w0_109_27 = (sF (sF (sF (sF sc0 109 29 w0_109_27) 109 30 z19) 109 28 (Int32.ofInt 1)) 109 27 z226).2.2.1 109 29 from sF_ne rfl (sF_ne rfl (sF_ne rfl (sF_get)))), ← e_109_22, ← e_109_27]; exact tkn_1 hS (by have a0 := in_u i8a; have a1 := in_u i8; have a2 := in_u ((in_c 0 rfl)); have a3 := in_u i183x9; have a4 := in_u i226; have a5 := t_add e226 i8 (in_c 1 rfl) rfl; have a6 := in_u ((in_c 1 rfl)); have oc := oc_299_109; omega) (by rw [hT0]; exact ⟨by have a0 := in_u i8a; have a1 := in_u i8; have a2 := in_u ((in_c 0 rfl)); have a3 := in_u i183x9; have a4 := in_u i226; have a5 := t_add e226 i8 (in_c 1 rfl) rfl; have a6 := in_u ((in_c 1 rfl)); have oc := oc_299_109; omega, by have a0 := in_u i8a; have a1 := in_u i8; have a2 := in_u ((in_c 0 rfl)); have a3 := in_u i183x9; have a4 := in_u i226; have a5 := t_add e226 i8 (in_c 1 rfl) rfl; have a6 := in_u ((in_c 1 rfl)); have oc := oc_299_109; omega⟩) (by have a0 := in_u i8a; have a1 := in_u i8; have a2 := in_u ((in_c 0 rfl)); have a3 := in_u i183x9; have a4 := in_u i226; have a5 := t_add e226 i8 (in_c 1 rfl) rfl; have a6 := in_u ((in_c 1 rfl)); have oc := oc_299_109; omega) rfl (by rw [hT0])); (exact ntk_1 ((show (Int32.ofInt 1) = (sF (sF (sF (sF sc0 109 29 w0_109_27) 109 30 z19) 109 28 (Int32.ofInt 1)) 109 27 z226).2.2.1 109 28 from sF_ne rfl (sF_get))).symm (by rw [← (show z19 = (sF (sF (sF (sF sc0 109 29 w0_109_27) 109 30 z19) 109 28 (Int32.ofInt 1)) 109 27 z226).2.2.1 109 30 from sF_ne rfl (sF_ne rfl (sF_get)))]; omega) g0_1)) | (have hT0 : s.1 125 w0_109_27.toInt.toNat = z19 := (by rw [e19, hFc0.1 125 rfl]; rfl); have hS : tkS (s.1 125) (u_109_22).toInt.toNat (u_109_27).toInt.toNat w0_109_27.toInt.toNat := ⟨by have a0 := in_u i8a; have a1 := in_u i8; have a2 := in_u ((in_c 0 rfl)); have a3 := in_u i183x9; have a4 := in_u i226; have a5 := t_add e226 i8 (in_c 1 rfl) rfl; have a6 := in_u ((in_c 1 rfl)); have oc := oc_299_109; omega, by have a0 := in_u i8a; have a1 := in_u i8; have a2 := in_u ((in_c 0 rfl)); have a3 := in_u i183x9; have a4 := in_u i226; have a5 := t_add e226 i8 (in_c 1 rfl) rfl; have a6 := in_u ((in_c 1 rfl)); have oc := oc_299_109; omega, fun i a b => g0_0 i (by rw [← e_109_27]; exact a) (by have a0 := in_u i8a; have a1 := in_u i8; have a2 := in_u ((in_c 0 rfl)); have a3 := in_u i183x9; have a4 := in_u i226; have a5 := t_add e226 i8 (in_c 1 rfl) rfl; have a6 := in_u ((in_c 1 rfl)); have oc := oc_299_109; omega), fun _ => by rw [hT0]; have a0 := in_u i8a; have a1 := in_u i8; have a2 := in_u ((in_c 0 rfl)); have a3 := in_u i183x9; have a4 := in_u i226; have a5 := t_add e226 i8 (in_c 1 rfl) rfl; have a6 := in_u ((in_c 1 rfl)); have oc := oc_299_109; omega⟩; refine ⟨3, 59, ?_, ?_⟩; (rw [← (show z226 = (sF (sF (sF (sF sc0 109 29 w0_109_27) 109 30 z19) 109 28 (Int32.ofInt 1)) 109 27 z226).2.2.1 109 27 from sF_get), ← (show w0_109_27 = (sF (sF (sF (sF sc0 109 29 w0_109_27) 109 30 z19) 109 28 (Int32.ofInt 1)) 109 27 z226).2.2.1 109 29 from sF_ne rfl (sF_ne rfl (sF_ne rfl (sF_get)))), ← e_109_22, ← e_109_27]; exact tkn_3 hS (by have a0 := in_u i8a; have a1 := in_u i8; have a2 := in_u ((in_c 0 rfl)); have a3 := in_u i183x9; have a4 := in_u i226; have a5 := t_add e226 i8 (in_c 1 rfl) rfl; have a6 := in_u ((in_c 1 rfl)); have oc := oc_299_109; omega) (by rw [hT0]; have a0 := in_u i8a; have a1 := in_u i8; have a2 := in_u ((in_c 0 rfl)); have a3 := in_u i183x9; have a4 := in_u i226; have a5 := t_add e226 i8 (in_c 1 rfl) rfl; have a6 := in_u ((in_c 1 rfl)); have oc := oc_299_109; omega) (by have a0 := in_u i8a; have a1 := in_u i8; have a2 := in_u ((in_c 0 rfl)); have a3 := in_u i183x9; have a4 := in_u i226; have a5 := t_add e226 i8 (in_c 1 rfl) rfl; have a6 := in_u ((in_c 1 rfl)); have oc := oc_299_109; omega) rfl rfl); (exact ntk_3 ((show (Int32.ofInt 1) = (sF (sF (sF (sF sc0 109 29 w0_109_27) 109 30 z19) 109 28 (Int32.ofInt 1)) 109 27 z226).2.2.1 109 28 from sF_ne rfl (sF_get))).symm (by rw [← (show z19 = (sF (sF (sF (sF sc0 109 29 w0_109_27) 109 30 z19) 109 28 (Int32.ofInt 1)) 109 27 z226).2.2.1 109 30 from sF_ne rfl (sF_ne rfl (sF_get)))]; have a0 := in_u i8a; have a1 := in_u i8; have a2 := in_u ((in_c 0 rfl)); have a3 := in_u i183x9; have a4 := in_u i226; have a5 := t_add e226 i8 (in_c 1 rfl) rfl; have a6 := in_u ((in_c 1 rfl)); have oc := oc_299_109; omega) g0_1))
                              have n230a : (z226).toInt ≤ (u_109_22).toInt := by have a0 := in_u i8a; have a1 := in_u i8; have a2 := in_u ((in_c 0 rfl)); have a3 := in_u i183x9; have a4 := in_u i226; have a5 := t_add e226 i8 (in_c 1 rfl) rfl; have a6 := in_u ((in_c 1 rfl)); have oc := oc_299_109; omega
                              have n230b : ((sF (sF (sF (sF sc0 109 29 w0_109_27) 109 30 z19) 109 28 (Int32.ofInt 1)) 109 27 z226).2.2.1 109 27).toInt ≤ ((sF (sF (sF (sF sc0 109 29 w0_109_27) 109 30 z19) 109 28 (Int32.ofInt 1)) 109 27 z226).2.2.1 109 22).toInt := by have b0 : z226 = (sF (sF (sF (sF sc0 109 29 w0_109_27) 109 30 z19) 109 28 (Int32.ofInt 1)) 109 27 z226).2.2.1 109 27 := sF_get; have b1 : u_109_22 = (sF (sF (sF (sF sc0 109 29 w0_109_27) 109 30 z19) 109 28 (Int32.ofInt 1)) 109 27 z226).2.2.1 109 22 := sF_ne rfl (sF_ne rfl (sF_ne rfl (sF_ne rfl (fr_F e_109_22 hFc0 rfl)))); rw [← b0, ← b1]; exact n230a
                              have n230c : (u_109_27).toInt ≤ (z226).toInt := by have a0 := in_u i8a; have a1 := in_u i8; have a2 := in_u ((in_c 0 rfl)); have a3 := in_u i183x9; have a4 := in_u i226; have a5 := t_add e226 i8 (in_c 1 rfl) rfl; have a6 := in_u ((in_c 1 rfl)); have oc := oc_299_109; omega
                              have n230d : (s.2.2.1 109 27).toInt ≤ ((sF (sF (sF (sF sc0 109 29 w0_109_27) 109 30 z19) 109 28 (Int32.ofInt 1)) 109 27 z226).2.2.1 109 27).toInt := by have b0 : z226 = (sF (sF (sF (sF sc0 109 29 w0_109_27) 109 30 z19) 109 28 (Int32.ofInt 1)) 109 27 z226).2.2.1 109 27 := sF_get; first | (rw [← b0, ← e_109_27]; exact n230c) | (rw [← b0]; exact n230c)
                              have n230e : ((Int32.ofInt 1)).toInt ≠ 0 → (u_109_27).toInt + 1 ≤ (z226).toInt := by have a0 := in_u i8a; have a1 := in_u i8; have a2 := in_u ((in_c 0 rfl)); have a3 := in_u i183x9; have a4 := in_u i226; have a5 := t_add e226 i8 (in_c 1 rfl) rfl; have a6 := in_u ((in_c 1 rfl)); have oc := oc_299_109; omega
                              have n230f : ((sF (sF (sF (sF sc0 109 29 w0_109_27) 109 30 z19) 109 28 (Int32.ofInt 1)) 109 27 z226).2.2.1 109 28).toInt ≠ 0 → (s.2.2.1 109 27).toInt + 1 ≤ ((sF (sF (sF (sF sc0 109 29 w0_109_27) 109 30 z19) 109 28 (Int32.ofInt 1)) 109 27 z226).2.2.1 109 27).toInt := by have b0 : (Int32.ofInt 1) = (sF (sF (sF (sF sc0 109 29 w0_109_27) 109 30 z19) 109 28 (Int32.ofInt 1)) 109 27 z226).2.2.1 109 28 := sF_ne rfl (sF_get); have b1 : z226 = (sF (sF (sF (sF sc0 109 29 w0_109_27) 109 30 z19) 109 28 (Int32.ofInt 1)) 109 27 z226).2.2.1 109 27 := sF_get; first | (rw [← b0, ← b1, ← e_109_27]; exact n230e) | (rw [← b0, ← b1]; exact n230e)
                              have n230g : ((Int32.ofInt 1)).toInt = 1 → 97 ≤ (z19).toInt := by have a0 := in_u i8a; have a1 := in_u i8; have a2 := in_u ((in_c 0 rfl)); have a3 := in_u i183x9; have a4 := in_u i226; have a5 := t_add e226 i8 (in_c 1 rfl) rfl; have a6 := in_u ((in_c 1 rfl)); have oc := oc_299_109; omega
                              have n230h : ((sF (sF (sF (sF sc0 109 29 w0_109_27) 109 30 z19) 109 28 (Int32.ofInt 1)) 109 27 z226).2.2.1 109 28).toInt = 1 → 97 ≤ ((sF (sF (sF (sF sc0 109 29 w0_109_27) 109 30 z19) 109 28 (Int32.ofInt 1)) 109 27 z226).2.2.1 109 30).toInt := by have b0 : (Int32.ofInt 1) = (sF (sF (sF (sF sc0 109 29 w0_109_27) 109 30 z19) 109 28 (Int32.ofInt 1)) 109 27 z226).2.2.1 109 28 := sF_ne rfl (sF_get); have b1 : z19 = (sF (sF (sF (sF sc0 109 29 w0_109_27) 109 30 z19) 109 28 (Int32.ofInt 1)) 109 27 z226).2.2.1 109 30 := sF_ne rfl (sF_ne rfl (sF_get)); rw [← b0, ← b1]; exact n230g
                              have n230i : ((Int32.ofInt 1)).toInt = 1 → (z19).toInt ≤ 122 := by have a0 := in_u i8a; have a1 := in_u i8; have a2 := in_u ((in_c 0 rfl)); have a3 := in_u i183x9; have a4 := in_u i226; have a5 := t_add e226 i8 (in_c 1 rfl) rfl; have a6 := in_u ((in_c 1 rfl)); have oc := oc_299_109; omega
                              have n230j : ((sF (sF (sF (sF sc0 109 29 w0_109_27) 109 30 z19) 109 28 (Int32.ofInt 1)) 109 27 z226).2.2.1 109 28).toInt = 1 → ((sF (sF (sF (sF sc0 109 29 w0_109_27) 109 30 z19) 109 28 (Int32.ofInt 1)) 109 27 z226).2.2.1 109 30).toInt ≤ 122 := by have b0 : (Int32.ofInt 1) = (sF (sF (sF (sF sc0 109 29 w0_109_27) 109 30 z19) 109 28 (Int32.ofInt 1)) 109 27 z226).2.2.1 109 28 := sF_ne rfl (sF_get); have b1 : z19 = (sF (sF (sF (sF sc0 109 29 w0_109_27) 109 30 z19) 109 28 (Int32.ofInt 1)) 109 27 z226).2.2.1 109 30 := sF_ne rfl (sF_ne rfl (sF_get)); rw [← b0, ← b1]; exact n230i
                              exact g_return (gd rfl) rfl (hP _ _ ⟨(sF (sF (sF (sF sc0 109 29 w0_109_27) 109 30 z19) 109 28 (Int32.ofInt 1)) 109 27 z226), hI227, (fr_sF rfl (fr_sF rfl (fr_sF rfl (fr_sF rfl hFc0)))), n230b, n230d, n230f, n230h, n230j, rfl, rfl, n230⟩)
                            · skip
                              exact n_eq c202 (in_c 1 rfl) (in_c 3 rfl) rfl
                    · skip
                      exact zn_ne c128 (in_c 0 rfl) rfl
                · skip
                  have i121x9 := r_le1 48 57 c121x9 i121x3 (in_c 57 rfl) rfl
                  refine g_iconst 1 13 (gd rfl) rfl rfl ?_
                  refine g_goto 17 (gd rfl) rfl ?_
                  refine g_ireturn (gd rfl) rfl (nb01 (in_w 0 1 (in_c 1 rfl) rfl)) (hp121 _ _ ?_)
                  show GG _ _ _ _ _ _ _ _ [.int (Int32.ofInt 1)] _ _ _
                  refine g_if_ne 127 131 (gd rfl) rfl rfl (fun c124 => ?_) (fun c124 => ?_)
                  · skip
                    refine g_aload_n 132 (gd rfl) rfl rfl ?_
                    refine g_iconst 2 133 (gd rfl) rfl rfl ?_
                    refine g_putI 136 (gd rfl) rfl rfl rfl rfl ?_
                    have hI133 := inv_sF (q := 109) (j := 28) hI75 rfl (in_w (-2147483648) 2147483647 (in_c 2 rfl) rfl)
                    refine g_aload_n 137 (gd rfl) rfl rfl ?_
                    refine g_dup 138 (gd rfl) rfl rfl ?_
                    refine g_getI 141 (gd rfl) rfl rfl rfl (fun z138 e138 => ?_)
                    have q138 : w0_109_27 = z138 := (sF_ne rfl (sF_ne rfl (sF_ne rfl (v0_109_27)))).trans e138.symm
                    subst q138
                    refine g_iload_n 142 (gd rfl) rfl rfl ?_
                    refine g_if_eq 145 149 (gd rfl) rfl rfl (fun c142 => ?_) (fun c142 => ?_)
                    · skip
                      refine g_iconst 0 150 (gd rfl) rfl rfl ?_
                      refine g_iadd 151 (gd rfl) rfl (fun z150 e150 => ?_)
                      have i150 := in_add 0 999 e150 i8 (in_c 0 rfl) rfl rfl
                      refine g_putI 154 (gd rfl) rfl rfl rfl rfl ?_
                      have hI151 := inv_sF (q := 109) (j := 27) hI133 rfl (in_w 0 1000 i150 rfl)
                      refine g_aload_n 155 (gd rfl) rfl rfl ?_
                      refine g_bipush 7 157 (gd rfl) rfl rfl ?_
                      have hA9 : _ = (sF (sF (sF (sF sc0 109 29 w0_109_27) 109 30 z19) 109 28 (Int32.ofInt 2)) 109 27 z150).2.2.1 109 27 := (show z150 = (sF (sF (sF (sF sc0 109 29 w0_109_27) 109 30 z19) 109 28 (Int32.ofInt 2)) 109 27 z150).2.2.1 109 27 from sF_get)
                      have hL9 : u_109_22 = (sF (sF (sF (sF sc0 109 29 w0_109_27) 109 30 z19) 109 28 (Int32.ofInt 2)) 109 27 z150).2.2.1 109 22 := (show u_109_22 = (sF (sF (sF (sF sc0 109 29 w0_109_27) 109 30 z19) 109 28 (Int32.ofInt 2)) 109 27 z150).2.2.1 109 22 from sF_ne rfl (sF_ne rfl (sF_ne rfl (sF_ne rfl (fr_F e_109_22 hFc0 rfl)))))
                      have hX9 : (sF (sF (sF (sF sc0 109 29 w0_109_27) 109 30 z19) 109 28 (Int32.ofInt 2)) 109 27 z150).1 125 = s.1 125 := hFc0.1 125 rfl
                      have hP9 : _ = (sF (sF (sF (sF sc0 109 29 w0_109_27) 109 30 z19) 109 28 (Int32.ofInt 2)) 109 27 z150).2.2.1 109 29 := (show w0_109_27 = (sF (sF (sF (sF sc0 109 29 w0_109_27) 109 30 z19) 109 28 (Int32.ofInt 2)) 109 27 z150).2.2.1 109 29 from sF_ne rfl (sF_ne rfl (sF_ne rfl (sF_get))))
                      have hF9 : FSM s (sF (sF (sF (sF sc0 109 29 w0_109_27) 109 30 z19) 109 28 (Int32.ofInt 2)) 109 27 z150) := g0_1
                      have v157 : z150 = (sF (sF (sF (sF sc0 109 29 w0_109_27) 109 30 z19) 109 28 (Int32.ofInt 2)) 109 27 z150).2.2.1 109 27 := sF_get
                      have v157a : u_109_22 = (sF (sF (sF (sF sc0 109 29 w0_109_27) 109 30 z19) 109 28 (Int32.ofInt 2)) 109 27 z150).2.2.1 109 22 := sF_ne rfl (sF_ne rfl (sF_ne rfl (sF_ne rfl (fr_F e_109_22 hFc0 rfl))))
                      have n157 : (z150).toInt < (u_109_22).toInt := by have a0 := in_u i8a; have a1 := in_u i8; have a2 := in_u ((in_c 0 rfl)); have a3 := in_u i121x9; have a4 := in_u i150; have a5 := t_add e150 i8 (in_c 0 rfl) rfl; have a6 := in_u ((in_c 2 rfl)); have oc := oc_299_109; omega
                      have p157 : 48 ≤ ((sF (sF (sF (sF sc0 109 29 w0_109_27) 109 30 z19) 109 28 (Int32.ofInt 2)) 109 27 z150).1 125 ((sF (sF (sF (sF sc0 109 29 w0_109_27) 109 30 z19) 109 28 (Int32.ofInt 2)) 109 27 z150).2.2.1 109 27).toNatClampNeg).toInt ∧ ((sF (sF (sF (sF sc0 109 29 w0_109_27) 109 30 z19) 109 28 (Int32.ofInt 2)) 109 27 z150).1 125 ((sF (sF (sF (sF sc0 109 29 w0_109_27) 109 30 z19) 109 28 (Int32.ofInt 2)) 109 27 z150).2.2.1 109 27).toNatClampNeg).toInt ≤ 57 := by first | (have hz : z107 = (sF (sF (sF (sF sc0 109 29 w0_109_27) 109 30 z19) 109 28 (Int32.ofInt 2)) 109 27 z150).1 125 ((sF (sF (sF (sF sc0 109 29 w0_109_27) 109 30 z19) 109 28 (Int32.ofInt 2)) 109 27 z150).2.2.1 109 27).toNatClampNeg := (by rw [← (show z150 = (sF (sF (sF (sF sc0 109 29 w0_109_27) 109 30 z19) 109 28 (Int32.ofInt 2)) 109 27 z150).2.2.1 109 27 from sF_get), e150, ← e106]; exact e107); rw [← hz]; exact i108x9) | (have hz : z19 = (sF (sF (sF (sF sc0 109 29 w0_109_27) 109 30 z19) 109 28 (Int32.ofInt 2)) 109 27 z150).1 125 ((sF (sF (sF (sF sc0 109 29 w0_109_27) 109 30 z19) 109 28 (Int32.ofInt 2)) 109 27 z150).2.2.1 109 27).toNatClampNeg := (by rw [← (show z150 = (sF (sF (sF (sF sc0 109 29 w0_109_27) 109 30 z19) 109 28 (Int32.ofInt 2)) 109 27 z150).2.2.1 109 27 from sF_get), e150, show w0_109_27 + Int32.ofInt 0 = w0_109_27 from Int32.add_zero _]; exact e19); rw [← hz]; exact i121x9) | (have hz : z71 = (sF (sF (sF (sF sc0 109 29 w0_109_27) 109 30 z19) 109 28 (Int32.ofInt 2)) 109 27 z150).1 125 ((sF (sF (sF (sF sc0 109 29 w0_109_27) 109 30 z19) 109 28 (Int32.ofInt 2)) 109 27 z150).2.2.1 109 27).toNatClampNeg := (by rw [← (show z150 = (sF (sF (sF (sF sc0 109 29 w0_109_27) 109 30 z19) 109 28 (Int32.ofInt 2)) 109 27 z150).2.2.1 109 27 from sF_get), e150, show w0_109_27 + Int32.ofInt 0 = w0_109_27 from Int32.add_zero _]; exact e71); rw [← hz]; exact i121x9)
                      refine g_callv (X := _) (As := [.int (Int32.ofInt 7)]) (r := []) (b := A 109) (q := 109) 160 (gd rfl) rfl rfl rfl rfl rfl (ww_o rfl) (Nat.le_of_ble_eq_true rfl) (Nat.zero_le _) (Nat.zero_le _) (f_300 (by first | exact dq1 hd rfl | exact dq0 hd rfl | exact dq2 hd rfl | exact dq3 hd rfl | omega) hI151 (in_w 7 7 (in_c 7 rfl) rfl) v157 v157a n157 p157) (fun e u h => h) (fun v u h => ?_)
                      obtain ⟨s157, hI157, hF157, n157a, n157b, rfl, rfl, p157a⟩ := h
                      obtain ⟨z157a, e157⟩ : ∃ w, w = s157.2.2.1 109 27 := ⟨_, rfl⟩
                      have i157a := inv_F hI157 0 1000 rfl e157
                      rw [← (show z157a = s157.2.2.1 109 27 from e157)] at n157a
                      rw [← (show u_109_22 = s157.2.2.1 109 22 from fr_F (s := (sF (sF (sF (sF sc0 109 29 w0_109_27) 109 30 z19) 109 28 (Int32.ofInt 2)) 109 27 z150)) (sF_ne rfl (sF_ne rfl (sF_ne rfl (sF_ne rfl (fr_F e_109_22 hFc0 rfl))))) hF157 rfl)] at n157a
                      rw [← (show z150 = (sF (sF (sF (sF sc0 109 29 w0_109_27) 109 30 z19) 109 28 (Int32.ofInt 2)) 109 27 z150).2.2.1 109 27 from sF_get)] at n157b
                      rw [← (show z157a = s157.2.2.1 109 27 from e157)] at n157b
                      show GG _ _ _ _ _ _ _ _ [] _ _ _
                      refine g_aload_n 161 (gd rfl) rfl rfl ?_
                      refine g_iload_n 162 (gd rfl) rfl rfl ?_
                      refine g_if_eq 165 173 (gd rfl) rfl rfl (fun c162 => ?_) (fun c162 => ?_)
                      · skip
                        refine g_aload_n 174 (gd rfl) rfl rfl ?_
                        refine g_getL 177 (gd rfl) rfl rfl rfl (fun z174 e174 => ?_)
                        refine g_putL 180 (gd rfl) rfl rfl rfl rfl ?_
                        have hI177 := inv_sG (q := 109) (j := 31) (x := z174) hI157 rfl (l_rng z174)
                        have n180 : ∃ k v, TKN (s.1 125) (s.2.2.1 109 22).toInt.toNat (s.2.2.1 109 27).toInt.toNat ((sG s157 109 31 z174).2.2.1 109 29).toInt.toNat ((sG s157 109 31 z174).2.2.1 109 27).toInt.toNat k v ∧ NTK s (sG s157 109 31 z174) k v := by have hT0 : s.1 125 w0_109_27.toInt.toNat = z19 := (by rw [e19, hFc0.1 125 rfl]; rfl); have hS : tkS (s.1 125) (u_109_22).toInt.toNat (u_109_27).toInt.toNat w0_109_27.toInt.toNat := ⟨by have a0 := in_u i8a; have a1 := in_u i8; have a2 := in_u ((in_c 0 rfl)); have a3 := in_u i121x9; have a4 := in_u i157a; have a5 := in_u ((in_c 2 rfl)); have a6 := in_u i150; have a7 := t_add e150 i8 (in_c 0 rfl) rfl; have oc := oc_299_109; omega, by have a0 := in_u i8a; have a1 := in_u i8; have a2 := in_u ((in_c 0 rfl)); have a3 := in_u i121x9; have a4 := in_u i157a; have a5 := in_u ((in_c 2 rfl)); have a6 := in_u i150; have a7 := t_add e150 i8 (in_c 0 rfl) rfl; have oc := oc_299_109; omega, fun i a b => g0_0 i (by rw [← e_109_27]; exact a) (by have a0 := in_u i8a; have a1 := in_u i8; have a2 := in_u ((in_c 0 rfl)); have a3 := in_u i121x9; have a4 := in_u i157a; have a5 := in_u ((in_c 2 rfl)); have a6 := in_u i150; have a7 := t_add e150 i8 (in_c 0 rfl) rfl; have oc := oc_299_109; omega), fun _ => by rw [hT0]; have a0 := in_u i8a; have a1 := in_u i8; have a2 := in_u ((in_c 0 rfl)); have a3 := in_u i121x9; have a4 := in_u i157a; have a5 := in_u ((in_c 2 rfl)); have a6 := in_u i150; have a7 := t_add e150 i8 (in_c 0 rfl) rfl; have oc := oc_299_109; omega⟩; have hp := p157a; rw [hX9, ← hL9, ← hA9, ← hP9] at hp; obtain ⟨hg, hp⟩ := hp; have hat : (s157.2.2.1 109 27) = z157a := ((show z157a = (sG s157 109 31 z174).2.2.1 109 27 from sG_F (e157))).symm; have hz9 : (z150).toInt.toNat = w0_109_27.toInt.toNat := (by have a0 := in_u i8a; have a1 := in_u i8; have a2 := in_u ((in_c 0 rfl)); have a3 := in_u i121x9; have a4 := in_u i157a; have a5 := in_u ((in_c 2 rfl)); have a6 := in_u i150; have a7 := t_add e150 i8 (in_c 0 rfl) rfl; have oc := oc_299_109; omega); rw [hz9] at hg hp; rcases hp with ⟨hl, hv, hf⟩ | ⟨hl, hf⟩; (refine ⟨2, ((sG s157 109 31 z174).2.2.2.1 109 31).toInt, ?_, ?_⟩; (rw [← e_109_22, ← e_109_27, ← (show w0_109_27 = (sG s157 109 31 z174).2.2.1 109 29 from sG_F (fr_F (s := (sF (sF (sF (sF sc0 109 29 w0_109_27) 109 30 z19) 109 28 (Int32.ofInt 2)) 109 27 z150)) (sF_ne rfl (sF_ne rfl (sF_ne rfl (sF_get)))) hF157 rfl))]; exact tkn_2 (q := w0_109_27.toInt.toNat) (x := 0) hS (Or.inl ⟨rfl, by have a0 := in_u i8a; have a1 := in_u i8; have a2 := in_u ((in_c 0 rfl)); have a3 := in_u i121x9; have a4 := in_u i157a; have a5 := in_u ((in_c 2 rfl)); have a6 := in_u i150; have a7 := t_add e150 i8 (in_c 0 rfl) rfl; have oc := oc_299_109; omega, by rw [hT0]; exact ⟨by have a0 := in_u i8a; have a1 := in_u i8; have a2 := in_u ((in_c 0 rfl)); have a3 := in_u i121x9; have a4 := in_u i157a; have a5 := in_u ((in_c 2 rfl)); have a6 := in_u i150; have a7 := t_add e150 i8 (in_c 0 rfl) rfl; have oc := oc_299_109; omega, by have a0 := in_u i8a; have a1 := in_u i8; have a2 := in_u ((in_c 0 rfl)); have a3 := in_u i121x9; have a4 := in_u i157a; have a5 := in_u ((in_c 2 rfl)); have a6 := in_u i150; have a7 := t_add e150 i8 (in_c 0 rfl) rfl; have oc := oc_299_109; omega⟩⟩) ⟨fun _ => rfl, fun _ => rfl⟩ ⟨by rw [← hat] at *; exact hg, Or.inl ⟨by rw [← hat] at *; exact hl, rfl, by first | (rw [if_pos rfl]; rw [← hat] at *; exact (by show (z174).toInt = _; rw [e174, hv]; rfl)) | (rw [if_neg (by decide)]; rw [← hat] at *; exact (by show (z174).toInt = _; rw [e174, hv]; rfl))⟩⟩); (exact ntk_2 ((show (Int32.ofInt 2) = (sG s157 109 31 z174).2.2.1 109 28 from sG_F (fr_F (s := (sF (sF (sF (sF sc0 109 29 w0_109_27) 109 30 z19) 109 28 (Int32.ofInt 2)) 109 27 z150)) (sF_ne rfl (sF_get)) hF157 rfl))).symm rfl (fsm_tr hF9 hf))); (refine ⟨5, 0, ?_, ?_⟩; (rw [← e_109_22, ← e_109_27, ← (show w0_109_27 = (sG s157 109 31 z174).2.2.1 109 29 from sG_F (fr_F (s := (sF (sF (sF (sF sc0 109 29 w0_109_27) 109 30 z19) 109 28 (Int32.ofInt 2)) 109 27 z150)) (sF_ne rfl (sF_ne rfl (sF_ne rfl (sF_get)))) hF157 rfl))]; exact tkn_2 (q := w0_109_27.toInt.toNat) (x := 0) hS (Or.inl ⟨rfl, by have a0 := in_u i8a; have a1 := in_u i8; have a2 := in_u ((in_c 0 rfl)); have a3 := in_u i121x9; have a4 := in_u i157a; have a5 := in_u ((in_c 2 rfl)); have a6 := in_u i150; have a7 := t_add e150 i8 (in_c 0 rfl) rfl; have oc := oc_299_109; omega, by rw [hT0]; exact ⟨by have a0 := in_u i8a; have a1 := in_u i8; have a2 := in_u ((in_c 0 rfl)); have a3 := in_u i121x9; have a4 := in_u i157a; have a5 := in_u ((in_c 2 rfl)); have a6 := in_u i150; have a7 := t_add e150 i8 (in_c 0 rfl) rfl; have oc := oc_299_109; omega, by have a0 := in_u i8a; have a1 := in_u i8; have a2 := in_u ((in_c 0 rfl)); have a3 := in_u i121x9; have a4 := in_u i157a; have a5 := in_u ((in_c 2 rfl)); have a6 := in_u i150; have a7 := t_add e150 i8 (in_c 0 rfl) rfl; have oc := oc_299_109; omega⟩⟩) ⟨fun _ => rfl, fun _ => rfl⟩ ⟨by rw [← hat] at *; exact hg, Or.inr ⟨by rw [← hat] at *; exact hl, rfl⟩⟩); (exact ntk_5 ((show (Int32.ofInt 2) = (sG s157 109 31 z174).2.2.1 109 28 from sG_F (fr_F (s := (sF (sF (sF (sF sc0 109 29 w0_109_27) 109 30 z19) 109 28 (Int32.ofInt 2)) 109 27 z150)) (sF_ne rfl (sF_get)) hF157 rfl))).symm (fbl_tr hF9 (by rw [← (show w0_109_27 = (sG s157 109 31 z174).2.2.1 109 29 from sG_F (fr_F (s := (sF (sF (sF (sF sc0 109 29 w0_109_27) 109 30 z19) 109 28 (Int32.ofInt 2)) 109 27 z150)) (sF_ne rfl (sF_ne rfl (sF_ne rfl (sF_get)))) hF157 rfl))]; exact hf))))
                        have n180a : (z157a).toInt ≤ (u_109_22).toInt := by have a0 := in_u i8a; have a1 := in_u i8; have a2 := in_u ((in_c 0 rfl)); have a3 := in_u i121x9; have a4 := in_u i157a; have a5 := in_u ((in_c 2 rfl)); have a6 := in_u i150; have a7 := t_add e150 i8 (in_c 0 rfl) rfl; have oc := oc_299_109; omega
                        have n180b : ((sG s157 109 31 z174).2.2.1 109 27).toInt ≤ ((sG s157 109 31 z174).2.2.1 109 22).toInt := by have b0 : z157a = (sG s157 109 31 z174).2.2.1 109 27 := sG_F (e157); have b1 : u_109_22 = (sG s157 109 31 z174).2.2.1 109 22 := sG_F (fr_F (s := (sF (sF (sF (sF sc0 109 29 w0_109_27) 109 30 z19) 109 28 (Int32.ofInt 2)) 109 27 z150)) (sF_ne rfl (sF_ne rfl (sF_ne rfl (sF_ne rfl (fr_F e_109_22 hFc0 rfl))))) hF157 rfl); rw [← b0, ← b1]; exact n180a
                        have n180c : (u_109_27).toInt ≤ (z157a).toInt := by have a0 := in_u i8a; have a1 := in_u i8; have a2 := in_u ((in_c 0 rfl)); have a3 := in_u i121x9; have a4 := in_u i157a; have a5 := in_u ((in_c 2 rfl)); have a6 := in_u i150; have a7 := t_add e150 i8 (in_c 0 rfl) rfl; have oc := oc_299_109; omega
                        have n180d : (s.2.2.1 109 27).toInt ≤ ((sG s157 109 31 z174).2.2.1 109 27).toInt := by have b0 : z157a = (sG s157 109 31 z174).2.2.1 109 27 := sG_F (e157); first | (rw [← b0, ← e_109_27]; exact n180c) | (rw [← b0]; exact n180c)
                        have n180e : ((Int32.ofInt 2)).toInt ≠ 0 → (u_109_27).toInt + 1 ≤ (z157a).toInt := by have a0 := in_u i8a; have a1 := in_u i8; have a2 := in_u ((in_c 0 rfl)); have a3 := in_u i121x9; have a4 := in_u i157a; have a5 := in_u ((in_c 2 rfl)); have a6 := in_u i150; have a7 := t_add e150 i8 (in_c 0 rfl) rfl; have oc := oc_299_109; omega
                        have n180f : ((sG s157 109 31 z174).2.2.1 109 28).toInt ≠ 0 → (s.2.2.1 109 27).toInt + 1 ≤ ((sG s157 109 31 z174).2.2.1 109 27).toInt := by have b0 : (Int32.ofInt 2) = (sG s157 109 31 z174).2.2.1 109 28 := sG_F (fr_F (s := (sF (sF (sF (sF sc0 109 29 w0_109_27) 109 30 z19) 109 28 (Int32.ofInt 2)) 109 27 z150)) (sF_ne rfl (sF_get)) hF157 rfl); have b1 : z157a = (sG s157 109 31 z174).2.2.1 109 27 := sG_F (e157); first | (rw [← b0, ← b1, ← e_109_27]; exact n180e) | (rw [← b0, ← b1]; exact n180e)
                        have n180g : ((Int32.ofInt 2)).toInt = 1 → 97 ≤ (z19).toInt := by have a0 := in_u i8a; have a1 := in_u i8; have a2 := in_u ((in_c 0 rfl)); have a3 := in_u i121x9; have a4 := in_u i157a; have a5 := in_u ((in_c 2 rfl)); have a6 := in_u i150; have a7 := t_add e150 i8 (in_c 0 rfl) rfl; have oc := oc_299_109; omega
                        have n180h : ((sG s157 109 31 z174).2.2.1 109 28).toInt = 1 → 97 ≤ ((sG s157 109 31 z174).2.2.1 109 30).toInt := by have b0 : (Int32.ofInt 2) = (sG s157 109 31 z174).2.2.1 109 28 := sG_F (fr_F (s := (sF (sF (sF (sF sc0 109 29 w0_109_27) 109 30 z19) 109 28 (Int32.ofInt 2)) 109 27 z150)) (sF_ne rfl (sF_get)) hF157 rfl); have b1 : z19 = (sG s157 109 31 z174).2.2.1 109 30 := sG_F (fr_F (s := (sF (sF (sF (sF sc0 109 29 w0_109_27) 109 30 z19) 109 28 (Int32.ofInt 2)) 109 27 z150)) (sF_ne rfl (sF_ne rfl (sF_get))) hF157 rfl); rw [← b0, ← b1]; exact n180g
                        have n180i : ((Int32.ofInt 2)).toInt = 1 → (z19).toInt ≤ 122 := by have a0 := in_u i8a; have a1 := in_u i8; have a2 := in_u ((in_c 0 rfl)); have a3 := in_u i121x9; have a4 := in_u i157a; have a5 := in_u ((in_c 2 rfl)); have a6 := in_u i150; have a7 := t_add e150 i8 (in_c 0 rfl) rfl; have oc := oc_299_109; omega
                        have n180j : ((sG s157 109 31 z174).2.2.1 109 28).toInt = 1 → ((sG s157 109 31 z174).2.2.1 109 30).toInt ≤ 122 := by have b0 : (Int32.ofInt 2) = (sG s157 109 31 z174).2.2.1 109 28 := sG_F (fr_F (s := (sF (sF (sF (sF sc0 109 29 w0_109_27) 109 30 z19) 109 28 (Int32.ofInt 2)) 109 27 z150)) (sF_ne rfl (sF_get)) hF157 rfl); have b1 : z19 = (sG s157 109 31 z174).2.2.1 109 30 := sG_F (fr_F (s := (sF (sF (sF (sF sc0 109 29 w0_109_27) 109 30 z19) 109 28 (Int32.ofInt 2)) 109 27 z150)) (sF_ne rfl (sF_ne rfl (sF_get))) hF157 rfl); rw [← b0, ← b1]; exact n180i
                        exact g_return (gd rfl) rfl (hP _ _ ⟨(sG s157 109 31 z174), hI177, (fr_sG rfl (fr_tr rfl (fr_sF rfl (fr_sF rfl (fr_sF rfl (fr_sF rfl hFc0)))) hF157)), n180b, n180d, n180f, n180h, n180j, rfl, rfl, n180⟩)
                      · skip
                        exact zn_ne c162 (in_c 0 rfl) rfl
                    · skip
                      exact zn_ne c142 (in_c 0 rfl) rfl
                  · skip
                    exact zn_eq c124 (in_c 1 rfl) rfl
            · skip
              have i81 := r_eq1 45 45 c81 i19 (in_c 45 rfl) rfl
              refine g_aload_n 85 (gd rfl) rfl rfl ?_
              refine g_getI 88 (gd rfl) rfl rfl rfl (fun z85 e85 => ?_)
              have q85 : w0_109_27 = z85 := (sF_ne rfl (sF_ne rfl (v0_109_27))).trans e85.symm
              subst q85
              refine g_iconst 1 89 (gd rfl) rfl rfl ?_
              refine g_iadd 90 (gd rfl) rfl (fun z89 e89 => ?_)
              have i89 := in_add 1 1000 e89 i8 (in_c 1 rfl) rfl rfl
              refine g_aload_n 91 (gd rfl) rfl rfl ?_
              refine g_getI 94 (gd rfl) rfl rfl rfl (fun z91 e91 => ?_)
              have q91 : u_109_22 = z91 := (sF_ne rfl (sF_ne rfl (fr_F e_109_22 hFc0 rfl))).trans e91.symm
              subst q91
              refine g_cmp_ge 97 118 (gd rfl) rfl rfl (fun c94 => ?_) (fun c94 => ?_)
              · skip
                refine g_iconst 0 119 (gd rfl) rfl rfl ?_
                refine g_istore_n 120 (gd rfl) rfl (Nat.le_of_ble_eq_true rfl) ?_
                refine g_iload_n 121 (gd rfl) rfl rfl ?_
                refine g_calls (As := [.int z19]) (r := []) 124 (gd rfl) rfl rfl rfl rfl rfl (Nat.le_of_ble_eq_true rfl) (mc := 0) (ms := 0) (Nat.zero_le _) (Nat.zero_le _) (P := fun v u => _) ?_ (fun v u h => h)
                intro po121 xx121 hp121 hx121
                refine g_enter2 (k := 297) (N := 300) (by first | exact dq1 hd rfl | exact dq0 hd rfl | exact dq2 hd rfl | exact dq3 hd rfl | omega) rfl (Nat.le_of_ble_eq_true rfl) ?_
                refine g_iload_n 1 (gd rfl) rfl rfl ?_
                refine g_bipush 48 3 (gd rfl) rfl rfl ?_
                refine g_cmp_lt 6 16 (gd rfl) rfl rfl (fun c121x3 => ?_) (fun c121x3 => ?_)
                · skip
                  refine g_iconst 0 17 (gd rfl) rfl rfl ?_
                  refine g_ireturn (gd rfl) rfl (nb01 (in_w 0 1 (in_c 0 rfl) rfl)) (hp121 _ _ ?_)
                  show GG _ _ _ _ _ _ _ _ [.int (Int32.ofInt 0)] _ _ _
                  refine g_if_ne 127 131 (gd rfl) rfl rfl (fun c124 => ?_) (fun c124 => ?_)
                  · skip
                    exact zn_ne c124 (in_c 0 rfl) rfl
                  · skip
                    refine g_iload_n 128 (gd rfl) rfl rfl ?_
                    refine g_if_eq 131 181 (gd rfl) rfl rfl (fun c128 => ?_) (fun c128 => ?_)
                    · skip
                      refine g_aload_n 182 (gd rfl) rfl rfl ?_
                      refine g_iload_n 183 (gd rfl) rfl rfl ?_
                      refine g_calls (As := [.int z19]) (r := [.ref (A 109)]) 186 (gd rfl) rfl rfl rfl rfl rfl (Nat.le_of_ble_eq_true rfl) (mc := 0) (ms := 0) (Nat.zero_le _) (Nat.zero_le _) (P := fun v u => _) ?_ (fun v u h => h)
                      intro po183 xx183 hp183 hx183
                      refine g_enter2 (k := 296) (N := 300) (by first | exact dq1 hd rfl | exact dq0 hd rfl | exact dq2 hd rfl | exact dq3 hd rfl | omega) rfl (Nat.le_of_ble_eq_true rfl) ?_
                      refine g_iload_n 1 (gd rfl) rfl rfl ?_
                      refine g_bipush 97 3 (gd rfl) rfl rfl ?_
                      refine g_cmp_lt 6 16 (gd rfl) rfl rfl (fun c183x3 => ?_) (fun c183x3 => ?_)
                      · skip
                        refine g_iconst 0 17 (gd rfl) rfl rfl ?_
                        refine g_ireturn (gd rfl) rfl (nb01 (in_w 0 1 (in_c 0 rfl) rfl)) (hp183 _ _ ?_)
                        show GG _ _ _ _ _ _ _ _ [.int (Int32.ofInt 0), .ref (A 109)] _ _ _
                        refine g_if_eq 189 193 (gd rfl) rfl rfl (fun c186 => ?_) (fun c186 => ?_)
                        · skip
                          refine g_iconst 3 194 (gd rfl) rfl rfl ?_
                          refine g_putI 197 (gd rfl) rfl rfl rfl rfl ?_
                          have hI194 := inv_sF (q := 109) (j := 28) hI75 rfl (in_w (-2147483648) 2147483647 (in_c 3 rfl) rfl)
                          refine g_aload_n 198 (gd rfl) rfl rfl ?_
                          refine g_getI 201 (gd rfl) rfl rfl rfl (fun z198 e198 => ?_)
                          have q198 : (Int32.ofInt 3) = z198 := (sF_get).trans e198.symm
                          subst q198
                          refine g_iconst 3 202 (gd rfl) rfl rfl ?_
                          refine g_cmp_ne 205 220 (gd rfl) rfl rfl (fun c202 => ?_) (fun c202 => ?_)
                          · skip
                            exact n_ne c202 (in_c 3 rfl) (in_c 3 rfl) rfl
                          · skip
                            refine g_iload_n 206 (gd rfl) rfl rfl ?_
                            refine g_bipush 59 208 (gd rfl) rfl rfl ?_
                            refine g_cmp_eq 211 220 (gd rfl) rfl rfl (fun c208 => ?_) (fun c208 => ?_)
                            · skip
                              exact n_eq c208 i81 (in_c 59 rfl) rfl
                            · skip
                              refine g_aload_n 212 (gd rfl) rfl rfl ?_
                              refine g_iconst 1 213 (gd rfl) rfl rfl ?_
                              refine g_aload_n 214 (gd rfl) rfl rfl ?_
                              refine g_getI 217 (gd rfl) rfl rfl rfl (fun z214 e214 => ?_)
                              have q214 : w0_109_27 = z214 := (sF_ne rfl (sF_ne rfl (sF_get))).trans e214.symm
                              subst q214
                              refine g_callv (X := _) (As := [.int (Int32.ofInt 1), .int w0_109_27]) (r := []) (b := A 109) (q := 109) 220 (gd rfl) rfl rfl rfl rfl rfl (ww_o rfl) (Nat.le_of_ble_eq_true rfl) (Nat.zero_le _) (Nat.zero_le _) (f_298 (by first | exact dq1 hd rfl | exact dq0 hd rfl | exact dq2 hd rfl | exact dq3 hd rfl | omega) hI194 (in_w 1 5 (in_c 1 rfl) rfl) rfl) (fun e u h => h) (fun v u h => ?_)
                              obtain ⟨s217, hI217, hF217, n217, rfl, rfl, p217⟩ := h
                              obtain ⟨z217a, e217⟩ : ∃ w, w = s217.2.2.1 109 23 := ⟨_, rfl⟩
                              have i217a := inv_F hI217 0 9 rfl e217
                              rw [← (show z217a = s217.2.2.1 109 23 from e217)] at n217
                              show GG _ _ _ _ _ _ _ _ [] _ _ _
                              refine g_aload_n 221 (gd rfl) rfl rfl ?_
                              refine g_dup 222 (gd rfl) rfl rfl ?_
                              refine g_getI 225 (gd rfl) rfl rfl rfl (fun z222 e222 => ?_)
                              have q222 : w0_109_27 = z222 := (fr_F (s := (sF (sF (sF sc0 109 29 w0_109_27) 109 30 z19) 109 28 (Int32.ofInt 3))) (sF_ne rfl (sF_ne rfl (sF_ne rfl (v0_109_27)))) hF217 rfl).trans e222.symm
                              subst q222
                              refine g_iconst 1 226 (gd rfl) rfl rfl ?_
                              refine g_iadd 227 (gd rfl) rfl (fun z226 e226 => ?_)
                              have i226 := in_add 1 1000 e226 i8 (in_c 1 rfl) rfl rfl
                              refine g_putI 230 (gd rfl) rfl rfl rfl rfl ?_
                              have hI227 := inv_sF (q := 109) (j := 27) hI217 rfl (in_w 0 1000 i226 rfl)
                              have n230 : ∃ k v, TKN (s.1 125) (s.2.2.1 109 22).toInt.toNat (s.2.2.1 109 27).toInt.toNat ((sF s217 109 27 z226).2.2.1 109 29).toInt.toNat ((sF s217 109 27 z226).2.2.1 109 27).toInt.toNat k v ∧ NTK s (sF s217 109 27 z226) k v := by have hT0 : s.1 125 w0_109_27.toInt.toNat = z19 := (by rw [e19, hFc0.1 125 rfl]; rfl); have hS : tkS (s.1 125) (u_109_22).toInt.toNat (u_109_27).toInt.toNat w0_109_27.toInt.toNat := ⟨by have a0 := in_u i8a; have a1 := in_u i8; have a2 := in_u ((in_c 0 rfl)); have a3 := in_u i81; have a4 := in_u i226; have a5 := t_add e226 i8 (in_c 1 rfl) rfl; have a6 := in_u ((in_c 1 rfl)); have a7 := in_u i217a; have a8 := in_u ((in_c 3 rfl)); have a9 := in_u i89; have a10 := t_add e89 i8 (in_c 1 rfl) rfl; have oc := oc_299_109; omega, by have a0 := in_u i8a; have a1 := in_u i8; have a2 := in_u ((in_c 0 rfl)); have a3 := in_u i81; have a4 := in_u i226; have a5 := t_add e226 i8 (in_c 1 rfl) rfl; have a6 := in_u ((in_c 1 rfl)); have a7 := in_u i217a; have a8 := in_u ((in_c 3 rfl)); have a9 := in_u i89; have a10 := t_add e89 i8 (in_c 1 rfl) rfl; have oc := oc_299_109; omega, fun i a b => g0_0 i (by rw [← e_109_27]; exact a) (by have a0 := in_u i8a; have a1 := in_u i8; have a2 := in_u ((in_c 0 rfl)); have a3 := in_u i81; have a4 := in_u i226; have a5 := t_add e226 i8 (in_c 1 rfl) rfl; have a6 := in_u ((in_c 1 rfl)); have a7 := in_u i217a; have a8 := in_u ((in_c 3 rfl)); have a9 := in_u i89; have a10 := t_add e89 i8 (in_c 1 rfl) rfl; have oc := oc_299_109; omega), fun _ => by rw [hT0]; have a0 := in_u i8a; have a1 := in_u i8; have a2 := in_u ((in_c 0 rfl)); have a3 := in_u i81; have a4 := in_u i226; have a5 := t_add e226 i8 (in_c 1 rfl) rfl; have a6 := in_u ((in_c 1 rfl)); have a7 := in_u i217a; have a8 := in_u ((in_c 3 rfl)); have a9 := in_u i89; have a10 := t_add e89 i8 (in_c 1 rfl) rfl; have oc := oc_299_109; omega⟩; refine ⟨4, 0, ?_, ?_⟩; (rw [← (show z226 = (sF s217 109 27 z226).2.2.1 109 27 from sF_get), ← (show w0_109_27 = (sF s217 109 27 z226).2.2.1 109 29 from sF_ne rfl (fr_F (s := (sF (sF (sF sc0 109 29 w0_109_27) 109 30 z19) 109 28 (Int32.ofInt 3))) (sF_ne rfl (sF_ne rfl (sF_get))) hF217 rfl)), ← e_109_22, ← e_109_27]; exact tkn_4 hS (by have a0 := in_u i8a; have a1 := in_u i8; have a2 := in_u ((in_c 0 rfl)); have a3 := in_u i81; have a4 := in_u i226; have a5 := t_add e226 i8 (in_c 1 rfl) rfl; have a6 := in_u ((in_c 1 rfl)); have a7 := in_u i217a; have a8 := in_u ((in_c 3 rfl)); have a9 := in_u i89; have a10 := t_add e89 i8 (in_c 1 rfl) rfl; have oc := oc_299_109; omega) (by rw [hT0]; unfold tkL; have a0 := in_u i8a; have a1 := in_u i8; have a2 := in_u ((in_c 0 rfl)); have a3 := in_u i81; have a4 := in_u i226; have a5 := t_add e226 i8 (in_c 1 rfl) rfl; have a6 := in_u ((in_c 1 rfl)); have a7 := in_u i217a; have a8 := in_u ((in_c 3 rfl)); have a9 := in_u i89; have a10 := t_add e89 i8 (in_c 1 rfl) rfl; have oc := oc_299_109; omega) (by rw [hT0]; have a0 := in_u i8a; have a1 := in_u i8; have a2 := in_u ((in_c 0 rfl)); have a3 := in_u i81; have a4 := in_u i226; have a5 := t_add e226 i8 (in_c 1 rfl) rfl; have a6 := in_u ((in_c 1 rfl)); have a7 := in_u i217a; have a8 := in_u ((in_c 3 rfl)); have a9 := in_u i89; have a10 := t_add e89 i8 (in_c 1 rfl) rfl; have oc := oc_299_109; omega) (by first | exact nq_1 (by rw [hT0]; unfold tkD; have a0 := in_u i8a; have a1 := in_u i8; have a2 := in_u ((in_c 0 rfl)); have a3 := in_u i81; have a4 := in_u i226; have a5 := t_add e226 i8 (in_c 1 rfl) rfl; have a6 := in_u ((in_c 1 rfl)); have a7 := in_u i217a; have a8 := in_u ((in_c 3 rfl)); have a9 := in_u i89; have a10 := t_add e89 i8 (in_c 1 rfl) rfl; have oc := oc_299_109; omega) (by rw [hT0]; have a0 := in_u i8a; have a1 := in_u i8; have a2 := in_u ((in_c 0 rfl)); have a3 := in_u i81; have a4 := in_u i226; have a5 := t_add e226 i8 (in_c 1 rfl) rfl; have a6 := in_u ((in_c 1 rfl)); have a7 := in_u i217a; have a8 := in_u ((in_c 3 rfl)); have a9 := in_u i89; have a10 := t_add e89 i8 (in_c 1 rfl) rfl; have oc := oc_299_109; omega) | exact nq_2 (by rw [hT0]; have a0 := in_u i8a; have a1 := in_u i8; have a2 := in_u ((in_c 0 rfl)); have a3 := in_u i81; have a4 := in_u i226; have a5 := t_add e226 i8 (in_c 1 rfl) rfl; have a6 := in_u ((in_c 1 rfl)); have a7 := in_u i217a; have a8 := in_u ((in_c 3 rfl)); have a9 := in_u i89; have a10 := t_add e89 i8 (in_c 1 rfl) rfl; have oc := oc_299_109; omega) (fun h => by first | (exfalso; have a0 := in_u i8a; have a1 := in_u i8; have a2 := in_u ((in_c 0 rfl)); have a3 := in_u i81; have a4 := in_u i226; have a5 := t_add e226 i8 (in_c 1 rfl) rfl; have a6 := in_u ((in_c 1 rfl)); have a7 := in_u i217a; have a8 := in_u ((in_c 3 rfl)); have a9 := in_u i89; have a10 := t_add e89 i8 (in_c 1 rfl) rfl; have oc := oc_299_109; omega) | (rw [show s.1 125 (w0_109_27.toInt.toNat + 1) = z107 from (by rw [e107, show z106.toNatClampNeg = w0_109_27.toInt.toNat + 1 from (by show z106.toInt.toNat = _; have a0 := in_u i8a; have a1 := in_u i8; have a2 := in_u ((in_c 0 rfl)); have a3 := in_u i81; have a4 := in_u i226; have a5 := t_add e226 i8 (in_c 1 rfl) rfl; have a6 := in_u ((in_c 1 rfl)); have a7 := in_u i217a; have a8 := in_u ((in_c 3 rfl)); have a9 := in_u i89; have a10 := t_add e89 i8 (in_c 1 rfl) rfl; have oc := oc_299_109; omega)]; exact congrFun (hFc0.1 125 rfl).symm _)]; unfold tkD; have a0 := in_u i8a; have a1 := in_u i8; have a2 := in_u ((in_c 0 rfl)); have a3 := in_u i81; have a4 := in_u i226; have a5 := t_add e226 i8 (in_c 1 rfl) rfl; have a6 := in_u ((in_c 1 rfl)); have a7 := in_u i217a; have a8 := in_u ((in_c 3 rfl)); have a9 := in_u i89; have a10 := t_add e89 i8 (in_c 1 rfl) rfl; have oc := oc_299_109; omega))) (by have a0 := in_u i8a; have a1 := in_u i8; have a2 := in_u ((in_c 0 rfl)); have a3 := in_u i81; have a4 := in_u i226; have a5 := t_add e226 i8 (in_c 1 rfl) rfl; have a6 := in_u ((in_c 1 rfl)); have a7 := in_u i217a; have a8 := in_u ((in_c 3 rfl)); have a9 := in_u i89; have a10 := t_add e89 i8 (in_c 1 rfl) rfl; have oc := oc_299_109; omega) rfl); (exact ntk_4 ((show (Int32.ofInt 3) = (sF s217 109 27 z226).2.2.1 109 28 from sF_ne rfl (fr_F (s := (sF (sF (sF sc0 109 29 w0_109_27) 109 30 z19) 109 28 (Int32.ofInt 3))) (sF_get) hF217 rfl))).symm (by rw [← (show z19 = (sF s217 109 27 z226).2.2.1 109 30 from sF_ne rfl (fr_F (s := (sF (sF (sF sc0 109 29 w0_109_27) 109 30 z19) 109 28 (Int32.ofInt 3))) (sF_ne rfl (sF_get)) hF217 rfl))]; have a0 := in_u i8a; have a1 := in_u i8; have a2 := in_u ((in_c 0 rfl)); have a3 := in_u i81; have a4 := in_u i226; have a5 := t_add e226 i8 (in_c 1 rfl) rfl; have a6 := in_u ((in_c 1 rfl)); have a7 := in_u i217a; have a8 := in_u ((in_c 3 rfl)); have a9 := in_u i89; have a10 := t_add e89 i8 (in_c 1 rfl) rfl; have oc := oc_299_109; omega) (fbl_tr g0_1 (by rw [← (show w0_109_27 = (sF s217 109 27 z226).2.2.1 109 29 from sF_ne rfl (fr_F (s := (sF (sF (sF sc0 109 29 w0_109_27) 109 30 z19) 109 28 (Int32.ofInt 3))) (sF_ne rfl (sF_ne rfl (sF_get))) hF217 rfl))]; exact p217)))
                              have n230a : (z226).toInt ≤ (u_109_22).toInt := by have a0 := in_u i8a; have a1 := in_u i8; have a2 := in_u ((in_c 0 rfl)); have a3 := in_u i81; have a4 := in_u i226; have a5 := t_add e226 i8 (in_c 1 rfl) rfl; have a6 := in_u ((in_c 1 rfl)); have a7 := in_u i217a; have a8 := in_u ((in_c 3 rfl)); have a9 := in_u i89; have a10 := t_add e89 i8 (in_c 1 rfl) rfl; have oc := oc_299_109; omega
                              have n230b : ((sF s217 109 27 z226).2.2.1 109 27).toInt ≤ ((sF s217 109 27 z226).2.2.1 109 22).toInt := by have b0 : z226 = (sF s217 109 27 z226).2.2.1 109 27 := sF_get; have b1 : u_109_22 = (sF s217 109 27 z226).2.2.1 109 22 := sF_ne rfl (fr_F (s := (sF (sF (sF sc0 109 29 w0_109_27) 109 30 z19) 109 28 (Int32.ofInt 3))) (sF_ne rfl (sF_ne rfl (sF_ne rfl (fr_F e_109_22 hFc0 rfl)))) hF217 rfl); rw [← b0, ← b1]; exact n230a
                              have n230c : (u_109_27).toInt ≤ (z226).toInt := by have a0 := in_u i8a; have a1 := in_u i8; have a2 := in_u ((in_c 0 rfl)); have a3 := in_u i81; have a4 := in_u i226; have a5 := t_add e226 i8 (in_c 1 rfl) rfl; have a6 := in_u ((in_c 1 rfl)); have a7 := in_u i217a; have a8 := in_u ((in_c 3 rfl)); have a9 := in_u i89; have a10 := t_add e89 i8 (in_c 1 rfl) rfl; have oc := oc_299_109; omega
                              have n230d : (s.2.2.1 109 27).toInt ≤ ((sF s217 109 27 z226).2.2.1 109 27).toInt := by have b0 : z226 = (sF s217 109 27 z226).2.2.1 109 27 := sF_get; first | (rw [← b0, ← e_109_27]; exact n230c) | (rw [← b0]; exact n230c)
                              have n230e : ((Int32.ofInt 3)).toInt ≠ 0 → (u_109_27).toInt + 1 ≤ (z226).toInt := by have a0 := in_u i8a; have a1 := in_u i8; have a2 := in_u ((in_c 0 rfl)); have a3 := in_u i81; have a4 := in_u i226; have a5 := t_add e226 i8 (in_c 1 rfl) rfl; have a6 := in_u ((in_c 1 rfl)); have a7 := in_u i217a; have a8 := in_u ((in_c 3 rfl)); have a9 := in_u i89; have a10 := t_add e89 i8 (in_c 1 rfl) rfl; have oc := oc_299_109; omega
                              have n230f : ((sF s217 109 27 z226).2.2.1 109 28).toInt ≠ 0 → (s.2.2.1 109 27).toInt + 1 ≤ ((sF s217 109 27 z226).2.2.1 109 27).toInt := by have b0 : (Int32.ofInt 3) = (sF s217 109 27 z226).2.2.1 109 28 := sF_ne rfl (fr_F (s := (sF (sF (sF sc0 109 29 w0_109_27) 109 30 z19) 109 28 (Int32.ofInt 3))) (sF_get) hF217 rfl); have b1 : z226 = (sF s217 109 27 z226).2.2.1 109 27 := sF_get; first | (rw [← b0, ← b1, ← e_109_27]; exact n230e) | (rw [← b0, ← b1]; exact n230e)
                              have n230g : ((Int32.ofInt 3)).toInt = 1 → 97 ≤ (z19).toInt := by have a0 := in_u i8a; have a1 := in_u i8; have a2 := in_u ((in_c 0 rfl)); have a3 := in_u i81; have a4 := in_u i226; have a5 := t_add e226 i8 (in_c 1 rfl) rfl; have a6 := in_u ((in_c 1 rfl)); have a7 := in_u i217a; have a8 := in_u ((in_c 3 rfl)); have a9 := in_u i89; have a10 := t_add e89 i8 (in_c 1 rfl) rfl; have oc := oc_299_109; omega
                              have n230h : ((sF s217 109 27 z226).2.2.1 109 28).toInt = 1 → 97 ≤ ((sF s217 109 27 z226).2.2.1 109 30).toInt := by have b0 : (Int32.ofInt 3) = (sF s217 109 27 z226).2.2.1 109 28 := sF_ne rfl (fr_F (s := (sF (sF (sF sc0 109 29 w0_109_27) 109 30 z19) 109 28 (Int32.ofInt 3))) (sF_get) hF217 rfl); have b1 : z19 = (sF s217 109 27 z226).2.2.1 109 30 := sF_ne rfl (fr_F (s := (sF (sF (sF sc0 109 29 w0_109_27) 109 30 z19) 109 28 (Int32.ofInt 3))) (sF_ne rfl (sF_get)) hF217 rfl); rw [← b0, ← b1]; exact n230g
                              have n230i : ((Int32.ofInt 3)).toInt = 1 → (z19).toInt ≤ 122 := by have a0 := in_u i8a; have a1 := in_u i8; have a2 := in_u ((in_c 0 rfl)); have a3 := in_u i81; have a4 := in_u i226; have a5 := t_add e226 i8 (in_c 1 rfl) rfl; have a6 := in_u ((in_c 1 rfl)); have a7 := in_u i217a; have a8 := in_u ((in_c 3 rfl)); have a9 := in_u i89; have a10 := t_add e89 i8 (in_c 1 rfl) rfl; have oc := oc_299_109; omega
                              have n230j : ((sF s217 109 27 z226).2.2.1 109 28).toInt = 1 → ((sF s217 109 27 z226).2.2.1 109 30).toInt ≤ 122 := by have b0 : (Int32.ofInt 3) = (sF s217 109 27 z226).2.2.1 109 28 := sF_ne rfl (fr_F (s := (sF (sF (sF sc0 109 29 w0_109_27) 109 30 z19) 109 28 (Int32.ofInt 3))) (sF_get) hF217 rfl); have b1 : z19 = (sF s217 109 27 z226).2.2.1 109 30 := sF_ne rfl (fr_F (s := (sF (sF (sF sc0 109 29 w0_109_27) 109 30 z19) 109 28 (Int32.ofInt 3))) (sF_ne rfl (sF_get)) hF217 rfl); rw [← b0, ← b1]; exact n230i
                              exact g_return (gd rfl) rfl (hP _ _ ⟨(sF s217 109 27 z226), hI227, (fr_sF rfl (fr_tr rfl (fr_sF rfl (fr_sF rfl (fr_sF rfl hFc0))) hF217)), n230b, n230d, n230f, n230h, n230j, rfl, rfl, n230⟩)
                        · skip
                          exact zn_ne c186 (in_c 0 rfl) rfl
                      · skip
                        exact n_le c183x3 (in_c 97 rfl) i81 rfl
                    · skip
                      exact zn_ne c128 (in_c 0 rfl) rfl
                · skip
                  exact n_le c121x3 (in_c 48 rfl) i81 rfl
              · skip
                have i94 := r_lt1 1 999 c94 i89 i8a rfl
                have i94a := r_lt2 2 1000 c94 i89 i8a rfl
                refine g_aload_n 98 (gd rfl) rfl rfl ?_
                refine g_getA (q2 := 125) 101 (gd rfl) rfl rfl rfl rfl ?_
                refine g_aload_n 102 (gd rfl) rfl rfl ?_
                refine g_getI 105 (gd rfl) rfl rfl rfl (fun z102 e102 => ?_)
                have q102 : w0_109_27 = z102 := (sF_ne rfl (sF_ne rfl (v0_109_27))).trans e102.symm
                subst q102
                refine g_iconst 1 106 (gd rfl) rfl rfl ?_
                refine g_iadd 107 (gd rfl) rfl (fun z106 e106 => ?_)
                have i106 := in_add 1 1000 e106 i8 (in_c 1 rfl) rfl rfl
                have i107 : In z106 0 999 := by have a0 := in_u i94a; have a1 := in_u i8; have a2 := in_u i81; have a3 := in_u i106; have a4 := t_add e106 i8 (in_c 1 rfl) rfl; have a5 := in_u ((in_c 1 rfl)); have a6 := in_u i94; have a7 := t_add e89 i8 (in_c 1 rfl) rfl; have oc := oc_299_109; exact ⟨by omega, by omega⟩
                refine g_iaload 108 (gd rfl) rfl (n := 1000) rfl (in_ix i107 rfl) (fun z107 e107 => ?_)
                have i107a := inv_I hI75 (n := 1000) (t := 0) 0 126 rfl (in_ix i107 rfl) rfl e107
                refine g_calls (As := [.int z107]) (r := []) 111 (gd rfl) rfl rfl rfl rfl rfl (Nat.le_of_ble_eq_true rfl) (mc := 0) (ms := 0) (Nat.zero_le _) (Nat.zero_le _) (P := fun v u => _) ?_ (fun v u h => h)
                intro po108 xx108 hp108 hx108
                refine g_enter2 (k := 297) (N := 300) (by first | exact dq1 hd rfl | exact dq0 hd rfl | exact dq2 hd rfl | exact dq3 hd rfl | omega) rfl (Nat.le_of_ble_eq_true rfl) ?_
                refine g_iload_n 1 (gd rfl) rfl rfl ?_
                refine g_bipush 48 3 (gd rfl) rfl rfl ?_
                refine g_cmp_lt 6 16 (gd rfl) rfl rfl (fun c108x3 => ?_) (fun c108x3 => ?_)
                · skip
                  have i108x3 := r_lt1 0 47 c108x3 i107a (in_c 48 rfl) rfl
                  refine g_iconst 0 17 (gd rfl) rfl rfl ?_
                  refine g_ireturn (gd rfl) rfl (nb01 (in_w 0 1 (in_c 0 rfl) rfl)) (hp108 _ _ ?_)
                  show GG _ _ _ _ _ _ _ _ [.int (Int32.ofInt 0)] _ _ _
                  refine g_if_eq 114 118 (gd rfl) rfl rfl (fun c111 => ?_) (fun c111 => ?_)
                  · skip
                    refine g_iconst 0 119 (gd rfl) rfl rfl ?_
                    refine g_istore_n 120 (gd rfl) rfl (Nat.le_of_ble_eq_true rfl) ?_
                    refine g_iload_n 121 (gd rfl) rfl rfl ?_
                    refine g_calls (As := [.int z19]) (r := []) 124 (gd rfl) rfl rfl rfl rfl rfl (Nat.le_of_ble_eq_true rfl) (mc := 0) (ms := 0) (Nat.zero_le _) (Nat.zero_le _) (P := fun v u => _) ?_ (fun v u h => h)
                    intro po121 xx121 hp121 hx121
                    refine g_enter2 (k := 297) (N := 300) (by first | exact dq1 hd rfl | exact dq0 hd rfl | exact dq2 hd rfl | exact dq3 hd rfl | omega) rfl (Nat.le_of_ble_eq_true rfl) ?_
                    refine g_iload_n 1 (gd rfl) rfl rfl ?_
                    refine g_bipush 48 3 (gd rfl) rfl rfl ?_
                    refine g_cmp_lt 6 16 (gd rfl) rfl rfl (fun c121x3 => ?_) (fun c121x3 => ?_)
                    · skip
                      refine g_iconst 0 17 (gd rfl) rfl rfl ?_
                      refine g_ireturn (gd rfl) rfl (nb01 (in_w 0 1 (in_c 0 rfl) rfl)) (hp121 _ _ ?_)
                      show GG _ _ _ _ _ _ _ _ [.int (Int32.ofInt 0)] _ _ _
                      refine g_if_ne 127 131 (gd rfl) rfl rfl (fun c124 => ?_) (fun c124 => ?_)
                      · skip
                        exact zn_ne c124 (in_c 0 rfl) rfl
                      · skip
                        refine g_iload_n 128 (gd rfl) rfl rfl ?_
                        refine g_if_eq 131 181 (gd rfl) rfl rfl (fun c128 => ?_) (fun c128 => ?_)
                        · skip
                          refine g_aload_n 182 (gd rfl) rfl rfl ?_
                          refine g_iload_n 183 (gd rfl) rfl rfl ?_
                          refine g_calls (As := [.int z19]) (r := [.ref (A 109)]) 186 (gd rfl) rfl rfl rfl rfl rfl (Nat.le_of_ble_eq_true rfl) (mc := 0) (ms := 0) (Nat.zero_le _) (Nat.zero_le _) (P := fun v u => _) ?_ (fun v u h => h)
                          intro po183 xx183 hp183 hx183
                          refine g_enter2 (k := 296) (N := 300) (by first | exact dq1 hd rfl | exact dq0 hd rfl | exact dq2 hd rfl | exact dq3 hd rfl | omega) rfl (Nat.le_of_ble_eq_true rfl) ?_
                          refine g_iload_n 1 (gd rfl) rfl rfl ?_
                          refine g_bipush 97 3 (gd rfl) rfl rfl ?_
                          refine g_cmp_lt 6 16 (gd rfl) rfl rfl (fun c183x3 => ?_) (fun c183x3 => ?_)
                          · skip
                            refine g_iconst 0 17 (gd rfl) rfl rfl ?_
                            refine g_ireturn (gd rfl) rfl (nb01 (in_w 0 1 (in_c 0 rfl) rfl)) (hp183 _ _ ?_)
                            show GG _ _ _ _ _ _ _ _ [.int (Int32.ofInt 0), .ref (A 109)] _ _ _
                            refine g_if_eq 189 193 (gd rfl) rfl rfl (fun c186 => ?_) (fun c186 => ?_)
                            · skip
                              refine g_iconst 3 194 (gd rfl) rfl rfl ?_
                              refine g_putI 197 (gd rfl) rfl rfl rfl rfl ?_
                              have hI194 := inv_sF (q := 109) (j := 28) hI75 rfl (in_w (-2147483648) 2147483647 (in_c 3 rfl) rfl)
                              refine g_aload_n 198 (gd rfl) rfl rfl ?_
                              refine g_getI 201 (gd rfl) rfl rfl rfl (fun z198 e198 => ?_)
                              have q198 : (Int32.ofInt 3) = z198 := (sF_get).trans e198.symm
                              subst q198
                              refine g_iconst 3 202 (gd rfl) rfl rfl ?_
                              refine g_cmp_ne 205 220 (gd rfl) rfl rfl (fun c202 => ?_) (fun c202 => ?_)
                              · skip
                                exact n_ne c202 (in_c 3 rfl) (in_c 3 rfl) rfl
                              · skip
                                refine g_iload_n 206 (gd rfl) rfl rfl ?_
                                refine g_bipush 59 208 (gd rfl) rfl rfl ?_
                                refine g_cmp_eq 211 220 (gd rfl) rfl rfl (fun c208 => ?_) (fun c208 => ?_)
                                · skip
                                  exact n_eq c208 i81 (in_c 59 rfl) rfl
                                · skip
                                  refine g_aload_n 212 (gd rfl) rfl rfl ?_
                                  refine g_iconst 1 213 (gd rfl) rfl rfl ?_
                                  refine g_aload_n 214 (gd rfl) rfl rfl ?_
                                  refine g_getI 217 (gd rfl) rfl rfl rfl (fun z214 e214 => ?_)
                                  have q214 : w0_109_27 = z214 := (sF_ne rfl (sF_ne rfl (sF_get))).trans e214.symm
                                  subst q214
                                  refine g_callv (X := _) (As := [.int (Int32.ofInt 1), .int w0_109_27]) (r := []) (b := A 109) (q := 109) 220 (gd rfl) rfl rfl rfl rfl rfl (ww_o rfl) (Nat.le_of_ble_eq_true rfl) (Nat.zero_le _) (Nat.zero_le _) (f_298 (by first | exact dq1 hd rfl | exact dq0 hd rfl | exact dq2 hd rfl | exact dq3 hd rfl | omega) hI194 (in_w 1 5 (in_c 1 rfl) rfl) rfl) (fun e u h => h) (fun v u h => ?_)
                                  obtain ⟨s217, hI217, hF217, n217, rfl, rfl, p217⟩ := h
                                  obtain ⟨z217a, e217⟩ : ∃ w, w = s217.2.2.1 109 23 := ⟨_, rfl⟩
                                  have i217a := inv_F hI217 0 9 rfl e217
                                  rw [← (show z217a = s217.2.2.1 109 23 from e217)] at n217
                                  show GG _ _ _ _ _ _ _ _ [] _ _ _
                                  refine g_aload_n 221 (gd rfl) rfl rfl ?_
                                  refine g_dup 222 (gd rfl) rfl rfl ?_
                                  refine g_getI 225 (gd rfl) rfl rfl rfl (fun z222 e222 => ?_)
                                  have q222 : w0_109_27 = z222 := (fr_F (s := (sF (sF (sF sc0 109 29 w0_109_27) 109 30 z19) 109 28 (Int32.ofInt 3))) (sF_ne rfl (sF_ne rfl (sF_ne rfl (v0_109_27)))) hF217 rfl).trans e222.symm
                                  subst q222
                                  refine g_iconst 1 226 (gd rfl) rfl rfl ?_
                                  refine g_iadd 227 (gd rfl) rfl (fun z226 e226 => ?_)
                                  have i226 := in_add 1 1000 e226 i8 (in_c 1 rfl) rfl rfl
                                  refine g_putI 230 (gd rfl) rfl rfl rfl rfl ?_
                                  have hI227 := inv_sF (q := 109) (j := 27) hI217 rfl (in_w 0 1000 i226 rfl)
                                  have n230 : ∃ k v, TKN (s.1 125) (s.2.2.1 109 22).toInt.toNat (s.2.2.1 109 27).toInt.toNat ((sF s217 109 27 z226).2.2.1 109 29).toInt.toNat ((sF s217 109 27 z226).2.2.1 109 27).toInt.toNat k v ∧ NTK s (sF s217 109 27 z226) k v := by have hT0 : s.1 125 w0_109_27.toInt.toNat = z19 := (by rw [e19, hFc0.1 125 rfl]; rfl); have hS : tkS (s.1 125) (u_109_22).toInt.toNat (u_109_27).toInt.toNat w0_109_27.toInt.toNat := ⟨by have a0 := in_u i94a; have a1 := in_u i8; have a2 := in_u ((in_c 0 rfl)); have a3 := in_u i81; have a4 := in_u i226; have a5 := t_add e226 i8 (in_c 1 rfl) rfl; have a6 := in_u ((in_c 1 rfl)); have a7 := in_u i217a; have a8 := in_u ((in_c 3 rfl)); have a9 := in_u i107; have a10 := t_add e106 i8 (in_c 1 rfl) rfl; have a11 := in_u i94; have a12 := t_add e89 i8 (in_c 1 rfl) rfl; have oc := oc_299_109; omega, by have a0 := in_u i94a; have a1 := in_u i8; have a2 := in_u ((in_c 0 rfl)); have a3 := in_u i81; have a4 := in_u i226; have a5 := t_add e226 i8 (in_c 1 rfl) rfl; have a6 := in_u ((in_c 1 rfl)); have a7 := in_u i217a; have a8 := in_u ((in_c 3 rfl)); have a9 := in_u i107; have a10 := t_add e106 i8 (in_c 1 rfl) rfl; have a11 := in_u i94; have a12 := t_add e89 i8 (in_c 1 rfl) rfl; have oc := oc_299_109; omega, fun i a b => g0_0 i (by rw [← e_109_27]; exact a) (by have a0 := in_u i94a; have a1 := in_u i8; have a2 := in_u ((in_c 0 rfl)); have a3 := in_u i81; have a4 := in_u i226; have a5 := t_add e226 i8 (in_c 1 rfl) rfl; have a6 := in_u ((in_c 1 rfl)); have a7 := in_u i217a; have a8 := in_u ((in_c 3 rfl)); have a9 := in_u i107; have a10 := t_add e106 i8 (in_c 1 rfl) rfl; have a11 := in_u i94; have a12 := t_add e89 i8 (in_c 1 rfl) rfl; have oc := oc_299_109; omega), fun _ => by rw [hT0]; have a0 := in_u i94a; have a1 := in_u i8; have a2 := in_u ((in_c 0 rfl)); have a3 := in_u i81; have a4 := in_u i226; have a5 := t_add e226 i8 (in_c 1 rfl) rfl; have a6 := in_u ((in_c 1 rfl)); have a7 := in_u i217a; have a8 := in_u ((in_c 3 rfl)); have a9 := in_u i107; have a10 := t_add e106 i8 (in_c 1 rfl) rfl; have a11 := in_u i94; have a12 := t_add e89 i8 (in_c 1 rfl) rfl; have oc := oc_299_109; omega⟩; refine ⟨4, 0, ?_, ?_⟩; (rw [← (show z226 = (sF s217 109 27 z226).2.2.1 109 27 from sF_get), ← (show w0_109_27 = (sF s217 109 27 z226).2.2.1 109 29 from sF_ne rfl (fr_F (s := (sF (sF (sF sc0 109 29 w0_109_27) 109 30 z19) 109 28 (Int32.ofInt 3))) (sF_ne rfl (sF_ne rfl (sF_get))) hF217 rfl)), ← e_109_22, ← e_109_27]; exact tkn_4 hS (by have a0 := in_u i94a; have a1 := in_u i8; have a2 := in_u ((in_c 0 rfl)); have a3 := in_u i81; have a4 := in_u i226; have a5 := t_add e226 i8 (in_c 1 rfl) rfl; have a6 := in_u ((in_c 1 rfl)); have a7 := in_u i217a; have a8 := in_u ((in_c 3 rfl)); have a9 := in_u i107; have a10 := t_add e106 i8 (in_c 1 rfl) rfl; have a11 := in_u i94; have a12 := t_add e89 i8 (in_c 1 rfl) rfl; have oc := oc_299_109; omega) (by rw [hT0]; unfold tkL; have a0 := in_u i94a; have a1 := in_u i8; have a2 := in_u ((in_c 0 rfl)); have a3 := in_u i81; have a4 := in_u i226; have a5 := t_add e226 i8 (in_c 1 rfl) rfl; have a6 := in_u ((in_c 1 rfl)); have a7 := in_u i217a; have a8 := in_u ((in_c 3 rfl)); have a9 := in_u i107; have a10 := t_add e106 i8 (in_c 1 rfl) rfl; have a11 := in_u i94; have a12 := t_add e89 i8 (in_c 1 rfl) rfl; have oc := oc_299_109; omega) (by rw [hT0]; have a0 := in_u i94a; have a1 := in_u i8; have a2 := in_u ((in_c 0 rfl)); have a3 := in_u i81; have a4 := in_u i226; have a5 := t_add e226 i8 (in_c 1 rfl) rfl; have a6 := in_u ((in_c 1 rfl)); have a7 := in_u i217a; have a8 := in_u ((in_c 3 rfl)); have a9 := in_u i107; have a10 := t_add e106 i8 (in_c 1 rfl) rfl; have a11 := in_u i94; have a12 := t_add e89 i8 (in_c 1 rfl) rfl; have oc := oc_299_109; omega) (by first | exact nq_1 (by rw [hT0]; unfold tkD; have a0 := in_u i94a; have a1 := in_u i8; have a2 := in_u ((in_c 0 rfl)); have a3 := in_u i81; have a4 := in_u i226; have a5 := t_add e226 i8 (in_c 1 rfl) rfl; have a6 := in_u ((in_c 1 rfl)); have a7 := in_u i217a; have a8 := in_u ((in_c 3 rfl)); have a9 := in_u i107; have a10 := t_add e106 i8 (in_c 1 rfl) rfl; have a11 := in_u i94; have a12 := t_add e89 i8 (in_c 1 rfl) rfl; have oc := oc_299_109; omega) (by rw [hT0]; have a0 := in_u i94a; have a1 := in_u i8; have a2 := in_u ((in_c 0 rfl)); have a3 := in_u i81; have a4 := in_u i226; have a5 := t_add e226 i8 (in_c 1 rfl) rfl; have a6 := in_u ((in_c 1 rfl)); have a7 := in_u i217a; have a8 := in_u ((in_c 3 rfl)); have a9 := in_u i107; have a10 := t_add e106 i8 (in_c 1 rfl) rfl; have a11 := in_u i94; have a12 := t_add e89 i8 (in_c 1 rfl) rfl; have oc := oc_299_109; omega) | exact nq_2 (by rw [hT0]; have a0 := in_u i94a; have a1 := in_u i8; have a2 := in_u ((in_c 0 rfl)); have a3 := in_u i81; have a4 := in_u i226; have a5 := t_add e226 i8 (in_c 1 rfl) rfl; have a6 := in_u ((in_c 1 rfl)); have a7 := in_u i217a; have a8 := in_u ((in_c 3 rfl)); have a9 := in_u i107; have a10 := t_add e106 i8 (in_c 1 rfl) rfl; have a11 := in_u i94; have a12 := t_add e89 i8 (in_c 1 rfl) rfl; have oc := oc_299_109; omega) (fun h => by first | (exfalso; have a0 := in_u i94a; have a1 := in_u i8; have a2 := in_u ((in_c 0 rfl)); have a3 := in_u i81; have a4 := in_u i226; have a5 := t_add e226 i8 (in_c 1 rfl) rfl; have a6 := in_u ((in_c 1 rfl)); have a7 := in_u i217a; have a8 := in_u ((in_c 3 rfl)); have a9 := in_u i107; have a10 := t_add e106 i8 (in_c 1 rfl) rfl; have a11 := in_u i94; have a12 := t_add e89 i8 (in_c 1 rfl) rfl; have oc := oc_299_109; omega) | (rw [show s.1 125 (w0_109_27.toInt.toNat + 1) = z107 from (by rw [e107, show z106.toNatClampNeg = w0_109_27.toInt.toNat + 1 from (by show z106.toInt.toNat = _; have a0 := in_u i94a; have a1 := in_u i8; have a2 := in_u ((in_c 0 rfl)); have a3 := in_u i81; have a4 := in_u i226; have a5 := t_add e226 i8 (in_c 1 rfl) rfl; have a6 := in_u ((in_c 1 rfl)); have a7 := in_u i217a; have a8 := in_u ((in_c 3 rfl)); have a9 := in_u i107; have a10 := t_add e106 i8 (in_c 1 rfl) rfl; have a11 := in_u i94; have a12 := t_add e89 i8 (in_c 1 rfl) rfl; have oc := oc_299_109; omega)]; exact congrFun (hFc0.1 125 rfl).symm _)]; unfold tkD; have a0 := in_u i94a; have a1 := in_u i8; have a2 := in_u ((in_c 0 rfl)); have a3 := in_u i81; have a4 := in_u i226; have a5 := t_add e226 i8 (in_c 1 rfl) rfl; have a6 := in_u ((in_c 1 rfl)); have a7 := in_u i217a; have a8 := in_u ((in_c 3 rfl)); have a9 := in_u i107; have a10 := t_add e106 i8 (in_c 1 rfl) rfl; have a11 := in_u i94; have a12 := t_add e89 i8 (in_c 1 rfl) rfl; have oc := oc_299_109; omega))) (by have a0 := in_u i94a; have a1 := in_u i8; have a2 := in_u ((in_c 0 rfl)); have a3 := in_u i81; have a4 := in_u i226; have a5 := t_add e226 i8 (in_c 1 rfl) rfl; have a6 := in_u ((in_c 1 rfl)); have a7 := in_u i217a; have a8 := in_u ((in_c 3 rfl)); have a9 := in_u i107; have a10 := t_add e106 i8 (in_c 1 rfl) rfl; have a11 := in_u i94; have a12 := t_add e89 i8 (in_c 1 rfl) rfl; have oc := oc_299_109; omega) rfl); (exact ntk_4 ((show (Int32.ofInt 3) = (sF s217 109 27 z226).2.2.1 109 28 from sF_ne rfl (fr_F (s := (sF (sF (sF sc0 109 29 w0_109_27) 109 30 z19) 109 28 (Int32.ofInt 3))) (sF_get) hF217 rfl))).symm (by rw [← (show z19 = (sF s217 109 27 z226).2.2.1 109 30 from sF_ne rfl (fr_F (s := (sF (sF (sF sc0 109 29 w0_109_27) 109 30 z19) 109 28 (Int32.ofInt 3))) (sF_ne rfl (sF_get)) hF217 rfl))]; have a0 := in_u i94a; have a1 := in_u i8; have a2 := in_u ((in_c 0 rfl)); have a3 := in_u i81; have a4 := in_u i226; have a5 := t_add e226 i8 (in_c 1 rfl) rfl; have a6 := in_u ((in_c 1 rfl)); have a7 := in_u i217a; have a8 := in_u ((in_c 3 rfl)); have a9 := in_u i107; have a10 := t_add e106 i8 (in_c 1 rfl) rfl; have a11 := in_u i94; have a12 := t_add e89 i8 (in_c 1 rfl) rfl; have oc := oc_299_109; omega) (fbl_tr g0_1 (by rw [← (show w0_109_27 = (sF s217 109 27 z226).2.2.1 109 29 from sF_ne rfl (fr_F (s := (sF (sF (sF sc0 109 29 w0_109_27) 109 30 z19) 109 28 (Int32.ofInt 3))) (sF_ne rfl (sF_ne rfl (sF_get))) hF217 rfl))]; exact p217)))
                                  have n230a : (z226).toInt ≤ (u_109_22).toInt := by have a0 := in_u i94a; have a1 := in_u i8; have a2 := in_u ((in_c 0 rfl)); have a3 := in_u i81; have a4 := in_u i226; have a5 := t_add e226 i8 (in_c 1 rfl) rfl; have a6 := in_u ((in_c 1 rfl)); have a7 := in_u i217a; have a8 := in_u ((in_c 3 rfl)); have a9 := in_u i107; have a10 := t_add e106 i8 (in_c 1 rfl) rfl; have a11 := in_u i94; have a12 := t_add e89 i8 (in_c 1 rfl) rfl; have oc := oc_299_109; omega
                                  have n230b : ((sF s217 109 27 z226).2.2.1 109 27).toInt ≤ ((sF s217 109 27 z226).2.2.1 109 22).toInt := by have b0 : z226 = (sF s217 109 27 z226).2.2.1 109 27 := sF_get; have b1 : u_109_22 = (sF s217 109 27 z226).2.2.1 109 22 := sF_ne rfl (fr_F (s := (sF (sF (sF sc0 109 29 w0_109_27) 109 30 z19) 109 28 (Int32.ofInt 3))) (sF_ne rfl (sF_ne rfl (sF_ne rfl (fr_F e_109_22 hFc0 rfl)))) hF217 rfl); rw [← b0, ← b1]; exact n230a
                                  have n230c : (u_109_27).toInt ≤ (z226).toInt := by have a0 := in_u i94a; have a1 := in_u i8; have a2 := in_u ((in_c 0 rfl)); have a3 := in_u i81; have a4 := in_u i226; have a5 := t_add e226 i8 (in_c 1 rfl) rfl; have a6 := in_u ((in_c 1 rfl)); have a7 := in_u i217a; have a8 := in_u ((in_c 3 rfl)); have a9 := in_u i107; have a10 := t_add e106 i8 (in_c 1 rfl) rfl; have a11 := in_u i94; have a12 := t_add e89 i8 (in_c 1 rfl) rfl; have oc := oc_299_109; omega
                                  have n230d : (s.2.2.1 109 27).toInt ≤ ((sF s217 109 27 z226).2.2.1 109 27).toInt := by have b0 : z226 = (sF s217 109 27 z226).2.2.1 109 27 := sF_get; first | (rw [← b0, ← e_109_27]; exact n230c) | (rw [← b0]; exact n230c)
                                  have n230e : ((Int32.ofInt 3)).toInt ≠ 0 → (u_109_27).toInt + 1 ≤ (z226).toInt := by have a0 := in_u i94a; have a1 := in_u i8; have a2 := in_u ((in_c 0 rfl)); have a3 := in_u i81; have a4 := in_u i226; have a5 := t_add e226 i8 (in_c 1 rfl) rfl; have a6 := in_u ((in_c 1 rfl)); have a7 := in_u i217a; have a8 := in_u ((in_c 3 rfl)); have a9 := in_u i107; have a10 := t_add e106 i8 (in_c 1 rfl) rfl; have a11 := in_u i94; have a12 := t_add e89 i8 (in_c 1 rfl) rfl; have oc := oc_299_109; omega
                                  have n230f : ((sF s217 109 27 z226).2.2.1 109 28).toInt ≠ 0 → (s.2.2.1 109 27).toInt + 1 ≤ ((sF s217 109 27 z226).2.2.1 109 27).toInt := by have b0 : (Int32.ofInt 3) = (sF s217 109 27 z226).2.2.1 109 28 := sF_ne rfl (fr_F (s := (sF (sF (sF sc0 109 29 w0_109_27) 109 30 z19) 109 28 (Int32.ofInt 3))) (sF_get) hF217 rfl); have b1 : z226 = (sF s217 109 27 z226).2.2.1 109 27 := sF_get; first | (rw [← b0, ← b1, ← e_109_27]; exact n230e) | (rw [← b0, ← b1]; exact n230e)
                                  have n230g : ((Int32.ofInt 3)).toInt = 1 → 97 ≤ (z19).toInt := by have a0 := in_u i94a; have a1 := in_u i8; have a2 := in_u ((in_c 0 rfl)); have a3 := in_u i81; have a4 := in_u i226; have a5 := t_add e226 i8 (in_c 1 rfl) rfl; have a6 := in_u ((in_c 1 rfl)); have a7 := in_u i217a; have a8 := in_u ((in_c 3 rfl)); have a9 := in_u i107; have a10 := t_add e106 i8 (in_c 1 rfl) rfl; have a11 := in_u i94; have a12 := t_add e89 i8 (in_c 1 rfl) rfl; have oc := oc_299_109; omega
                                  have n230h : ((sF s217 109 27 z226).2.2.1 109 28).toInt = 1 → 97 ≤ ((sF s217 109 27 z226).2.2.1 109 30).toInt := by have b0 : (Int32.ofInt 3) = (sF s217 109 27 z226).2.2.1 109 28 := sF_ne rfl (fr_F (s := (sF (sF (sF sc0 109 29 w0_109_27) 109 30 z19) 109 28 (Int32.ofInt 3))) (sF_get) hF217 rfl); have b1 : z19 = (sF s217 109 27 z226).2.2.1 109 30 := sF_ne rfl (fr_F (s := (sF (sF (sF sc0 109 29 w0_109_27) 109 30 z19) 109 28 (Int32.ofInt 3))) (sF_ne rfl (sF_get)) hF217 rfl); rw [← b0, ← b1]; exact n230g
                                  have n230i : ((Int32.ofInt 3)).toInt = 1 → (z19).toInt ≤ 122 := by have a0 := in_u i94a; have a1 := in_u i8; have a2 := in_u ((in_c 0 rfl)); have a3 := in_u i81; have a4 := in_u i226; have a5 := t_add e226 i8 (in_c 1 rfl) rfl; have a6 := in_u ((in_c 1 rfl)); have a7 := in_u i217a; have a8 := in_u ((in_c 3 rfl)); have a9 := in_u i107; have a10 := t_add e106 i8 (in_c 1 rfl) rfl; have a11 := in_u i94; have a12 := t_add e89 i8 (in_c 1 rfl) rfl; have oc := oc_299_109; omega
                                  have n230j : ((sF s217 109 27 z226).2.2.1 109 28).toInt = 1 → ((sF s217 109 27 z226).2.2.1 109 30).toInt ≤ 122 := by have b0 : (Int32.ofInt 3) = (sF s217 109 27 z226).2.2.1 109 28 := sF_ne rfl (fr_F (s := (sF (sF (sF sc0 109 29 w0_109_27) 109 30 z19) 109 28 (Int32.ofInt 3))) (sF_get) hF217 rfl); have b1 : z19 = (sF s217 109 27 z226).2.2.1 109 30 := sF_ne rfl (fr_F (s := (sF (sF (sF sc0 109 29 w0_109_27) 109 30 z19) 109 28 (Int32.ofInt 3))) (sF_ne rfl (sF_get)) hF217 rfl); rw [← b0, ← b1]; exact n230i
                                  exact g_return (gd rfl) rfl (hP _ _ ⟨(sF s217 109 27 z226), hI227, (fr_sF rfl (fr_tr rfl (fr_sF rfl (fr_sF rfl (fr_sF rfl hFc0))) hF217)), n230b, n230d, n230f, n230h, n230j, rfl, rfl, n230⟩)
                            · skip
                              exact zn_ne c186 (in_c 0 rfl) rfl
                          · skip
                            exact n_le c183x3 (in_c 97 rfl) i81 rfl
                        · skip
                          exact zn_ne c128 (in_c 0 rfl) rfl
                    · skip
                      exact n_le c121x3 (in_c 48 rfl) i81 rfl
                  · skip
                    exact zn_ne c111 (in_c 0 rfl) rfl
                · skip
                  have i108x3 := r_le2 48 126 c108x3 (in_c 48 rfl) i107a rfl
                  refine g_iload_n 7 (gd rfl) rfl rfl ?_
                  refine g_bipush 57 9 (gd rfl) rfl rfl ?_
                  refine g_cmp_gt 12 16 (gd rfl) rfl rfl (fun c108x9 => ?_) (fun c108x9 => ?_)
                  · skip
                    have i108x9 := r_lt2 58 126 c108x9 (in_c 57 rfl) i108x3 rfl
                    refine g_iconst 0 17 (gd rfl) rfl rfl ?_
                    refine g_ireturn (gd rfl) rfl (nb01 (in_w 0 1 (in_c 0 rfl) rfl)) (hp108 _ _ ?_)
                    show GG _ _ _ _ _ _ _ _ [.int (Int32.ofInt 0)] _ _ _
                    refine g_if_eq 114 118 (gd rfl) rfl rfl (fun c111 => ?_) (fun c111 => ?_)
                    · skip
                      refine g_iconst 0 119 (gd rfl) rfl rfl ?_
                      refine g_istore_n 120 (gd rfl) rfl (Nat.le_of_ble_eq_true rfl) ?_
                      refine g_iload_n 121 (gd rfl) rfl rfl ?_
                      refine g_calls (As := [.int z19]) (r := []) 124 (gd rfl) rfl rfl rfl rfl rfl (Nat.le_of_ble_eq_true rfl) (mc := 0) (ms := 0) (Nat.zero_le _) (Nat.zero_le _) (P := fun v u => _) ?_ (fun v u h => h)
                      intro po121 xx121 hp121 hx121
                      refine g_enter2 (k := 297) (N := 300) (by first | exact dq1 hd rfl | exact dq0 hd rfl | exact dq2 hd rfl | exact dq3 hd rfl | omega) rfl (Nat.le_of_ble_eq_true rfl) ?_
                      refine g_iload_n 1 (gd rfl) rfl rfl ?_
                      refine g_bipush 48 3 (gd rfl) rfl rfl ?_
                      refine g_cmp_lt 6 16 (gd rfl) rfl rfl (fun c121x3 => ?_) (fun c121x3 => ?_)
                      · skip
                        refine g_iconst 0 17 (gd rfl) rfl rfl ?_
                        refine g_ireturn (gd rfl) rfl (nb01 (in_w 0 1 (in_c 0 rfl) rfl)) (hp121 _ _ ?_)
                        show GG _ _ _ _ _ _ _ _ [.int (Int32.ofInt 0)] _ _ _
                        refine g_if_ne 127 131 (gd rfl) rfl rfl (fun c124 => ?_) (fun c124 => ?_)
                        · skip
                          exact zn_ne c124 (in_c 0 rfl) rfl
                        · skip
                          refine g_iload_n 128 (gd rfl) rfl rfl ?_
                          refine g_if_eq 131 181 (gd rfl) rfl rfl (fun c128 => ?_) (fun c128 => ?_)
                          · skip
                            refine g_aload_n 182 (gd rfl) rfl rfl ?_
                            refine g_iload_n 183 (gd rfl) rfl rfl ?_
                            refine g_calls (As := [.int z19]) (r := [.ref (A 109)]) 186 (gd rfl) rfl rfl rfl rfl rfl (Nat.le_of_ble_eq_true rfl) (mc := 0) (ms := 0) (Nat.zero_le _) (Nat.zero_le _) (P := fun v u => _) ?_ (fun v u h => h)
                            intro po183 xx183 hp183 hx183
                            refine g_enter2 (k := 296) (N := 300) (by first | exact dq1 hd rfl | exact dq0 hd rfl | exact dq2 hd rfl | exact dq3 hd rfl | omega) rfl (Nat.le_of_ble_eq_true rfl) ?_
                            refine g_iload_n 1 (gd rfl) rfl rfl ?_
                            refine g_bipush 97 3 (gd rfl) rfl rfl ?_
                            refine g_cmp_lt 6 16 (gd rfl) rfl rfl (fun c183x3 => ?_) (fun c183x3 => ?_)
                            · skip
                              refine g_iconst 0 17 (gd rfl) rfl rfl ?_
                              refine g_ireturn (gd rfl) rfl (nb01 (in_w 0 1 (in_c 0 rfl) rfl)) (hp183 _ _ ?_)
                              show GG _ _ _ _ _ _ _ _ [.int (Int32.ofInt 0), .ref (A 109)] _ _ _
                              refine g_if_eq 189 193 (gd rfl) rfl rfl (fun c186 => ?_) (fun c186 => ?_)
                              · skip
                                refine g_iconst 3 194 (gd rfl) rfl rfl ?_
                                refine g_putI 197 (gd rfl) rfl rfl rfl rfl ?_
                                have hI194 := inv_sF (q := 109) (j := 28) hI75 rfl (in_w (-2147483648) 2147483647 (in_c 3 rfl) rfl)
                                refine g_aload_n 198 (gd rfl) rfl rfl ?_
                                refine g_getI 201 (gd rfl) rfl rfl rfl (fun z198 e198 => ?_)
                                have q198 : (Int32.ofInt 3) = z198 := (sF_get).trans e198.symm
                                subst q198
                                refine g_iconst 3 202 (gd rfl) rfl rfl ?_
                                refine g_cmp_ne 205 220 (gd rfl) rfl rfl (fun c202 => ?_) (fun c202 => ?_)
                                · skip
                                  exact n_ne c202 (in_c 3 rfl) (in_c 3 rfl) rfl
                                · skip
                                  refine g_iload_n 206 (gd rfl) rfl rfl ?_
                                  refine g_bipush 59 208 (gd rfl) rfl rfl ?_
                                  refine g_cmp_eq 211 220 (gd rfl) rfl rfl (fun c208 => ?_) (fun c208 => ?_)
                                  · skip
                                    exact n_eq c208 i81 (in_c 59 rfl) rfl
                                  · skip
                                    refine g_aload_n 212 (gd rfl) rfl rfl ?_
                                    refine g_iconst 1 213 (gd rfl) rfl rfl ?_
                                    refine g_aload_n 214 (gd rfl) rfl rfl ?_
                                    refine g_getI 217 (gd rfl) rfl rfl rfl (fun z214 e214 => ?_)
                                    have q214 : w0_109_27 = z214 := (sF_ne rfl (sF_ne rfl (sF_get))).trans e214.symm
                                    subst q214
                                    refine g_callv (X := _) (As := [.int (Int32.ofInt 1), .int w0_109_27]) (r := []) (b := A 109) (q := 109) 220 (gd rfl) rfl rfl rfl rfl rfl (ww_o rfl) (Nat.le_of_ble_eq_true rfl) (Nat.zero_le _) (Nat.zero_le _) (f_298 (by first | exact dq1 hd rfl | exact dq0 hd rfl | exact dq2 hd rfl | exact dq3 hd rfl | omega) hI194 (in_w 1 5 (in_c 1 rfl) rfl) rfl) (fun e u h => h) (fun v u h => ?_)
                                    obtain ⟨s217, hI217, hF217, n217, rfl, rfl, p217⟩ := h
                                    obtain ⟨z217a, e217⟩ : ∃ w, w = s217.2.2.1 109 23 := ⟨_, rfl⟩
                                    have i217a := inv_F hI217 0 9 rfl e217
                                    rw [← (show z217a = s217.2.2.1 109 23 from e217)] at n217
                                    show GG _ _ _ _ _ _ _ _ [] _ _ _
                                    refine g_aload_n 221 (gd rfl) rfl rfl ?_
                                    refine g_dup 222 (gd rfl) rfl rfl ?_
                                    refine g_getI 225 (gd rfl) rfl rfl rfl (fun z222 e222 => ?_)
                                    have q222 : w0_109_27 = z222 := (fr_F (s := (sF (sF (sF sc0 109 29 w0_109_27) 109 30 z19) 109 28 (Int32.ofInt 3))) (sF_ne rfl (sF_ne rfl (sF_ne rfl (v0_109_27)))) hF217 rfl).trans e222.symm
                                    subst q222
                                    refine g_iconst 1 226 (gd rfl) rfl rfl ?_
                                    refine g_iadd 227 (gd rfl) rfl (fun z226 e226 => ?_)
                                    have i226 := in_add 1 1000 e226 i8 (in_c 1 rfl) rfl rfl
                                    refine g_putI 230 (gd rfl) rfl rfl rfl rfl ?_
                                    have hI227 := inv_sF (q := 109) (j := 27) hI217 rfl (in_w 0 1000 i226 rfl)
                                    have n230 : ∃ k v, TKN (s.1 125) (s.2.2.1 109 22).toInt.toNat (s.2.2.1 109 27).toInt.toNat ((sF s217 109 27 z226).2.2.1 109 29).toInt.toNat ((sF s217 109 27 z226).2.2.1 109 27).toInt.toNat k v ∧ NTK s (sF s217 109 27 z226) k v := by have hT0 : s.1 125 w0_109_27.toInt.toNat = z19 := (by rw [e19, hFc0.1 125 rfl]; rfl); have hS : tkS (s.1 125) (u_109_22).toInt.toNat (u_109_27).toInt.toNat w0_109_27.toInt.toNat := ⟨by have a0 := in_u i94a; have a1 := in_u i8; have a2 := in_u ((in_c 0 rfl)); have a3 := in_u i81; have a4 := in_u i226; have a5 := t_add e226 i8 (in_c 1 rfl) rfl; have a6 := in_u ((in_c 1 rfl)); have a7 := in_u i217a; have a8 := in_u ((in_c 3 rfl)); have a9 := in_u i107; have a10 := t_add e106 i8 (in_c 1 rfl) rfl; have a11 := in_u i94; have a12 := t_add e89 i8 (in_c 1 rfl) rfl; have oc := oc_299_109; omega, by have a0 := in_u i94a; have a1 := in_u i8; have a2 := in_u ((in_c 0 rfl)); have a3 := in_u i81; have a4 := in_u i226; have a5 := t_add e226 i8 (in_c 1 rfl) rfl; have a6 := in_u ((in_c 1 rfl)); have a7 := in_u i217a; have a8 := in_u ((in_c 3 rfl)); have a9 := in_u i107; have a10 := t_add e106 i8 (in_c 1 rfl) rfl; have a11 := in_u i94; have a12 := t_add e89 i8 (in_c 1 rfl) rfl; have oc := oc_299_109; omega, fun i a b => g0_0 i (by rw [← e_109_27]; exact a) (by have a0 := in_u i94a; have a1 := in_u i8; have a2 := in_u ((in_c 0 rfl)); have a3 := in_u i81; have a4 := in_u i226; have a5 := t_add e226 i8 (in_c 1 rfl) rfl; have a6 := in_u ((in_c 1 rfl)); have a7 := in_u i217a; have a8 := in_u ((in_c 3 rfl)); have a9 := in_u i107; have a10 := t_add e106 i8 (in_c 1 rfl) rfl; have a11 := in_u i94; have a12 := t_add e89 i8 (in_c 1 rfl) rfl; have oc := oc_299_109; omega), fun _ => by rw [hT0]; have a0 := in_u i94a; have a1 := in_u i8; have a2 := in_u ((in_c 0 rfl)); have a3 := in_u i81; have a4 := in_u i226; have a5 := t_add e226 i8 (in_c 1 rfl) rfl; have a6 := in_u ((in_c 1 rfl)); have a7 := in_u i217a; have a8 := in_u ((in_c 3 rfl)); have a9 := in_u i107; have a10 := t_add e106 i8 (in_c 1 rfl) rfl; have a11 := in_u i94; have a12 := t_add e89 i8 (in_c 1 rfl) rfl; have oc := oc_299_109; omega⟩; refine ⟨4, 0, ?_, ?_⟩; (rw [← (show z226 = (sF s217 109 27 z226).2.2.1 109 27 from sF_get), ← (show w0_109_27 = (sF s217 109 27 z226).2.2.1 109 29 from sF_ne rfl (fr_F (s := (sF (sF (sF sc0 109 29 w0_109_27) 109 30 z19) 109 28 (Int32.ofInt 3))) (sF_ne rfl (sF_ne rfl (sF_get))) hF217 rfl)), ← e_109_22, ← e_109_27]; exact tkn_4 hS (by have a0 := in_u i94a; have a1 := in_u i8; have a2 := in_u ((in_c 0 rfl)); have a3 := in_u i81; have a4 := in_u i226; have a5 := t_add e226 i8 (in_c 1 rfl) rfl; have a6 := in_u ((in_c 1 rfl)); have a7 := in_u i217a; have a8 := in_u ((in_c 3 rfl)); have a9 := in_u i107; have a10 := t_add e106 i8 (in_c 1 rfl) rfl; have a11 := in_u i94; have a12 := t_add e89 i8 (in_c 1 rfl) rfl; have oc := oc_299_109; omega) (by rw [hT0]; unfold tkL; have a0 := in_u i94a; have a1 := in_u i8; have a2 := in_u ((in_c 0 rfl)); have a3 := in_u i81; have a4 := in_u i226; have a5 := t_add e226 i8 (in_c 1 rfl) rfl; have a6 := in_u ((in_c 1 rfl)); have a7 := in_u i217a; have a8 := in_u ((in_c 3 rfl)); have a9 := in_u i107; have a10 := t_add e106 i8 (in_c 1 rfl) rfl; have a11 := in_u i94; have a12 := t_add e89 i8 (in_c 1 rfl) rfl; have oc := oc_299_109; omega) (by rw [hT0]; have a0 := in_u i94a; have a1 := in_u i8; have a2 := in_u ((in_c 0 rfl)); have a3 := in_u i81; have a4 := in_u i226; have a5 := t_add e226 i8 (in_c 1 rfl) rfl; have a6 := in_u ((in_c 1 rfl)); have a7 := in_u i217a; have a8 := in_u ((in_c 3 rfl)); have a9 := in_u i107; have a10 := t_add e106 i8 (in_c 1 rfl) rfl; have a11 := in_u i94; have a12 := t_add e89 i8 (in_c 1 rfl) rfl; have oc := oc_299_109; omega) (by first | exact nq_1 (by rw [hT0]; unfold tkD; have a0 := in_u i94a; have a1 := in_u i8; have a2 := in_u ((in_c 0 rfl)); have a3 := in_u i81; have a4 := in_u i226; have a5 := t_add e226 i8 (in_c 1 rfl) rfl; have a6 := in_u ((in_c 1 rfl)); have a7 := in_u i217a; have a8 := in_u ((in_c 3 rfl)); have a9 := in_u i107; have a10 := t_add e106 i8 (in_c 1 rfl) rfl; have a11 := in_u i94; have a12 := t_add e89 i8 (in_c 1 rfl) rfl; have oc := oc_299_109; omega) (by rw [hT0]; have a0 := in_u i94a; have a1 := in_u i8; have a2 := in_u ((in_c 0 rfl)); have a3 := in_u i81; have a4 := in_u i226; have a5 := t_add e226 i8 (in_c 1 rfl) rfl; have a6 := in_u ((in_c 1 rfl)); have a7 := in_u i217a; have a8 := in_u ((in_c 3 rfl)); have a9 := in_u i107; have a10 := t_add e106 i8 (in_c 1 rfl) rfl; have a11 := in_u i94; have a12 := t_add e89 i8 (in_c 1 rfl) rfl; have oc := oc_299_109; omega) | exact nq_2 (by rw [hT0]; have a0 := in_u i94a; have a1 := in_u i8; have a2 := in_u ((in_c 0 rfl)); have a3 := in_u i81; have a4 := in_u i226; have a5 := t_add e226 i8 (in_c 1 rfl) rfl; have a6 := in_u ((in_c 1 rfl)); have a7 := in_u i217a; have a8 := in_u ((in_c 3 rfl)); have a9 := in_u i107; have a10 := t_add e106 i8 (in_c 1 rfl) rfl; have a11 := in_u i94; have a12 := t_add e89 i8 (in_c 1 rfl) rfl; have oc := oc_299_109; omega) (fun h => by first | (exfalso; have a0 := in_u i94a; have a1 := in_u i8; have a2 := in_u ((in_c 0 rfl)); have a3 := in_u i81; have a4 := in_u i226; have a5 := t_add e226 i8 (in_c 1 rfl) rfl; have a6 := in_u ((in_c 1 rfl)); have a7 := in_u i217a; have a8 := in_u ((in_c 3 rfl)); have a9 := in_u i107; have a10 := t_add e106 i8 (in_c 1 rfl) rfl; have a11 := in_u i94; have a12 := t_add e89 i8 (in_c 1 rfl) rfl; have oc := oc_299_109; omega) | (rw [show s.1 125 (w0_109_27.toInt.toNat + 1) = z107 from (by rw [e107, show z106.toNatClampNeg = w0_109_27.toInt.toNat + 1 from (by show z106.toInt.toNat = _; have a0 := in_u i94a; have a1 := in_u i8; have a2 := in_u ((in_c 0 rfl)); have a3 := in_u i81; have a4 := in_u i226; have a5 := t_add e226 i8 (in_c 1 rfl) rfl; have a6 := in_u ((in_c 1 rfl)); have a7 := in_u i217a; have a8 := in_u ((in_c 3 rfl)); have a9 := in_u i107; have a10 := t_add e106 i8 (in_c 1 rfl) rfl; have a11 := in_u i94; have a12 := t_add e89 i8 (in_c 1 rfl) rfl; have oc := oc_299_109; omega)]; exact congrFun (hFc0.1 125 rfl).symm _)]; unfold tkD; have a0 := in_u i94a; have a1 := in_u i8; have a2 := in_u ((in_c 0 rfl)); have a3 := in_u i81; have a4 := in_u i226; have a5 := t_add e226 i8 (in_c 1 rfl) rfl; have a6 := in_u ((in_c 1 rfl)); have a7 := in_u i217a; have a8 := in_u ((in_c 3 rfl)); have a9 := in_u i107; have a10 := t_add e106 i8 (in_c 1 rfl) rfl; have a11 := in_u i94; have a12 := t_add e89 i8 (in_c 1 rfl) rfl; have oc := oc_299_109; omega))) (by have a0 := in_u i94a; have a1 := in_u i8; have a2 := in_u ((in_c 0 rfl)); have a3 := in_u i81; have a4 := in_u i226; have a5 := t_add e226 i8 (in_c 1 rfl) rfl; have a6 := in_u ((in_c 1 rfl)); have a7 := in_u i217a; have a8 := in_u ((in_c 3 rfl)); have a9 := in_u i107; have a10 := t_add e106 i8 (in_c 1 rfl) rfl; have a11 := in_u i94; have a12 := t_add e89 i8 (in_c 1 rfl) rfl; have oc := oc_299_109; omega) rfl); (exact ntk_4 ((show (Int32.ofInt 3) = (sF s217 109 27 z226).2.2.1 109 28 from sF_ne rfl (fr_F (s := (sF (sF (sF sc0 109 29 w0_109_27) 109 30 z19) 109 28 (Int32.ofInt 3))) (sF_get) hF217 rfl))).symm (by rw [← (show z19 = (sF s217 109 27 z226).2.2.1 109 30 from sF_ne rfl (fr_F (s := (sF (sF (sF sc0 109 29 w0_109_27) 109 30 z19) 109 28 (Int32.ofInt 3))) (sF_ne rfl (sF_get)) hF217 rfl))]; have a0 := in_u i94a; have a1 := in_u i8; have a2 := in_u ((in_c 0 rfl)); have a3 := in_u i81; have a4 := in_u i226; have a5 := t_add e226 i8 (in_c 1 rfl) rfl; have a6 := in_u ((in_c 1 rfl)); have a7 := in_u i217a; have a8 := in_u ((in_c 3 rfl)); have a9 := in_u i107; have a10 := t_add e106 i8 (in_c 1 rfl) rfl; have a11 := in_u i94; have a12 := t_add e89 i8 (in_c 1 rfl) rfl; have oc := oc_299_109; omega) (fbl_tr g0_1 (by rw [← (show w0_109_27 = (sF s217 109 27 z226).2.2.1 109 29 from sF_ne rfl (fr_F (s := (sF (sF (sF sc0 109 29 w0_109_27) 109 30 z19) 109 28 (Int32.ofInt 3))) (sF_ne rfl (sF_ne rfl (sF_get))) hF217 rfl))]; exact p217)))
                                    have n230a : (z226).toInt ≤ (u_109_22).toInt := by have a0 := in_u i94a; have a1 := in_u i8; have a2 := in_u ((in_c 0 rfl)); have a3 := in_u i81; have a4 := in_u i226; have a5 := t_add e226 i8 (in_c 1 rfl) rfl; have a6 := in_u ((in_c 1 rfl)); have a7 := in_u i217a; have a8 := in_u ((in_c 3 rfl)); have a9 := in_u i107; have a10 := t_add e106 i8 (in_c 1 rfl) rfl; have a11 := in_u i94; have a12 := t_add e89 i8 (in_c 1 rfl) rfl; have oc := oc_299_109; omega
                                    have n230b : ((sF s217 109 27 z226).2.2.1 109 27).toInt ≤ ((sF s217 109 27 z226).2.2.1 109 22).toInt := by have b0 : z226 = (sF s217 109 27 z226).2.2.1 109 27 := sF_get; have b1 : u_109_22 = (sF s217 109 27 z226).2.2.1 109 22 := sF_ne rfl (fr_F (s := (sF (sF (sF sc0 109 29 w0_109_27) 109 30 z19) 109 28 (Int32.ofInt 3))) (sF_ne rfl (sF_ne rfl (sF_ne rfl (fr_F e_109_22 hFc0 rfl)))) hF217 rfl); rw [← b0, ← b1]; exact n230a
                                    have n230c : (u_109_27).toInt ≤ (z226).toInt := by have a0 := in_u i94a; have a1 := in_u i8; have a2 := in_u ((in_c 0 rfl)); have a3 := in_u i81; have a4 := in_u i226; have a5 := t_add e226 i8 (in_c 1 rfl) rfl; have a6 := in_u ((in_c 1 rfl)); have a7 := in_u i217a; have a8 := in_u ((in_c 3 rfl)); have a9 := in_u i107; have a10 := t_add e106 i8 (in_c 1 rfl) rfl; have a11 := in_u i94; have a12 := t_add e89 i8 (in_c 1 rfl) rfl; have oc := oc_299_109; omega
                                    have n230d : (s.2.2.1 109 27).toInt ≤ ((sF s217 109 27 z226).2.2.1 109 27).toInt := by have b0 : z226 = (sF s217 109 27 z226).2.2.1 109 27 := sF_get; first | (rw [← b0, ← e_109_27]; exact n230c) | (rw [← b0]; exact n230c)
                                    have n230e : ((Int32.ofInt 3)).toInt ≠ 0 → (u_109_27).toInt + 1 ≤ (z226).toInt := by have a0 := in_u i94a; have a1 := in_u i8; have a2 := in_u ((in_c 0 rfl)); have a3 := in_u i81; have a4 := in_u i226; have a5 := t_add e226 i8 (in_c 1 rfl) rfl; have a6 := in_u ((in_c 1 rfl)); have a7 := in_u i217a; have a8 := in_u ((in_c 3 rfl)); have a9 := in_u i107; have a10 := t_add e106 i8 (in_c 1 rfl) rfl; have a11 := in_u i94; have a12 := t_add e89 i8 (in_c 1 rfl) rfl; have oc := oc_299_109; omega
                                    have n230f : ((sF s217 109 27 z226).2.2.1 109 28).toInt ≠ 0 → (s.2.2.1 109 27).toInt + 1 ≤ ((sF s217 109 27 z226).2.2.1 109 27).toInt := by have b0 : (Int32.ofInt 3) = (sF s217 109 27 z226).2.2.1 109 28 := sF_ne rfl (fr_F (s := (sF (sF (sF sc0 109 29 w0_109_27) 109 30 z19) 109 28 (Int32.ofInt 3))) (sF_get) hF217 rfl); have b1 : z226 = (sF s217 109 27 z226).2.2.1 109 27 := sF_get; first | (rw [← b0, ← b1, ← e_109_27]; exact n230e) | (rw [← b0, ← b1]; exact n230e)
                                    have n230g : ((Int32.ofInt 3)).toInt = 1 → 97 ≤ (z19).toInt := by have a0 := in_u i94a; have a1 := in_u i8; have a2 := in_u ((in_c 0 rfl)); have a3 := in_u i81; have a4 := in_u i226; have a5 := t_add e226 i8 (in_c 1 rfl) rfl; have a6 := in_u ((in_c 1 rfl)); have a7 := in_u i217a; have a8 := in_u ((in_c 3 rfl)); have a9 := in_u i107; have a10 := t_add e106 i8 (in_c 1 rfl) rfl; have a11 := in_u i94; have a12 := t_add e89 i8 (in_c 1 rfl) rfl; have oc := oc_299_109; omega
                                    have n230h : ((sF s217 109 27 z226).2.2.1 109 28).toInt = 1 → 97 ≤ ((sF s217 109 27 z226).2.2.1 109 30).toInt := by have b0 : (Int32.ofInt 3) = (sF s217 109 27 z226).2.2.1 109 28 := sF_ne rfl (fr_F (s := (sF (sF (sF sc0 109 29 w0_109_27) 109 30 z19) 109 28 (Int32.ofInt 3))) (sF_get) hF217 rfl); have b1 : z19 = (sF s217 109 27 z226).2.2.1 109 30 := sF_ne rfl (fr_F (s := (sF (sF (sF sc0 109 29 w0_109_27) 109 30 z19) 109 28 (Int32.ofInt 3))) (sF_ne rfl (sF_get)) hF217 rfl); rw [← b0, ← b1]; exact n230g
                                    have n230i : ((Int32.ofInt 3)).toInt = 1 → (z19).toInt ≤ 122 := by have a0 := in_u i94a; have a1 := in_u i8; have a2 := in_u ((in_c 0 rfl)); have a3 := in_u i81; have a4 := in_u i226; have a5 := t_add e226 i8 (in_c 1 rfl) rfl; have a6 := in_u ((in_c 1 rfl)); have a7 := in_u i217a; have a8 := in_u ((in_c 3 rfl)); have a9 := in_u i107; have a10 := t_add e106 i8 (in_c 1 rfl) rfl; have a11 := in_u i94; have a12 := t_add e89 i8 (in_c 1 rfl) rfl; have oc := oc_299_109; omega
                                    have n230j : ((sF s217 109 27 z226).2.2.1 109 28).toInt = 1 → ((sF s217 109 27 z226).2.2.1 109 30).toInt ≤ 122 := by have b0 : (Int32.ofInt 3) = (sF s217 109 27 z226).2.2.1 109 28 := sF_ne rfl (fr_F (s := (sF (sF (sF sc0 109 29 w0_109_27) 109 30 z19) 109 28 (Int32.ofInt 3))) (sF_get) hF217 rfl); have b1 : z19 = (sF s217 109 27 z226).2.2.1 109 30 := sF_ne rfl (fr_F (s := (sF (sF (sF sc0 109 29 w0_109_27) 109 30 z19) 109 28 (Int32.ofInt 3))) (sF_ne rfl (sF_get)) hF217 rfl); rw [← b0, ← b1]; exact n230i
                                    exact g_return (gd rfl) rfl (hP _ _ ⟨(sF s217 109 27 z226), hI227, (fr_sF rfl (fr_tr rfl (fr_sF rfl (fr_sF rfl (fr_sF rfl hFc0))) hF217)), n230b, n230d, n230f, n230h, n230j, rfl, rfl, n230⟩)
                              · skip
                                exact zn_ne c186 (in_c 0 rfl) rfl
                            · skip
                              exact n_le c183x3 (in_c 97 rfl) i81 rfl
                          · skip
                            exact zn_ne c128 (in_c 0 rfl) rfl
                      · skip
                        exact n_le c121x3 (in_c 48 rfl) i81 rfl
                    · skip
                      exact zn_ne c111 (in_c 0 rfl) rfl
                  · skip
                    have i108x9 := r_le1 48 57 c108x9 i108x3 (in_c 57 rfl) rfl
                    refine g_iconst 1 13 (gd rfl) rfl rfl ?_
                    refine g_goto 17 (gd rfl) rfl ?_
                    refine g_ireturn (gd rfl) rfl (nb01 (in_w 0 1 (in_c 1 rfl) rfl)) (hp108 _ _ ?_)
                    show GG _ _ _ _ _ _ _ _ [.int (Int32.ofInt 1)] _ _ _
                    refine g_if_eq 114 118 (gd rfl) rfl rfl (fun c111 => ?_) (fun c111 => ?_)
                    · skip
                      exact zn_eq c111 (in_c 1 rfl) rfl
                    · skip
                      refine g_iconst 1 115 (gd rfl) rfl rfl ?_
                      refine g_goto 119 (gd rfl) rfl ?_
                      refine g_istore_n 120 (gd rfl) rfl (Nat.le_of_ble_eq_true rfl) ?_
                      refine g_iload_n 121 (gd rfl) rfl rfl ?_
                      refine g_calls (As := [.int z19]) (r := []) 124 (gd rfl) rfl rfl rfl rfl rfl (Nat.le_of_ble_eq_true rfl) (mc := 0) (ms := 0) (Nat.zero_le _) (Nat.zero_le _) (P := fun v u => _) ?_ (fun v u h => h)
                      intro po121 xx121 hp121 hx121
                      refine g_enter2 (k := 297) (N := 300) (by first | exact dq1 hd rfl | exact dq0 hd rfl | exact dq2 hd rfl | exact dq3 hd rfl | omega) rfl (Nat.le_of_ble_eq_true rfl) ?_
                      refine g_iload_n 1 (gd rfl) rfl rfl ?_
                      refine g_bipush 48 3 (gd rfl) rfl rfl ?_
                      refine g_cmp_lt 6 16 (gd rfl) rfl rfl (fun c121x3 => ?_) (fun c121x3 => ?_)
                      · skip
                        refine g_iconst 0 17 (gd rfl) rfl rfl ?_
                        refine g_ireturn (gd rfl) rfl (nb01 (in_w 0 1 (in_c 0 rfl) rfl)) (hp121 _ _ ?_)
                        show GG _ _ _ _ _ _ _ _ [.int (Int32.ofInt 0)] _ _ _
                        refine g_if_ne 127 131 (gd rfl) rfl rfl (fun c124 => ?_) (fun c124 => ?_)
                        · skip
                          exact zn_ne c124 (in_c 0 rfl) rfl
                        · skip
                          refine g_iload_n 128 (gd rfl) rfl rfl ?_
                          refine g_if_eq 131 181 (gd rfl) rfl rfl (fun c128 => ?_) (fun c128 => ?_)
                          · skip
                            exact zn_eq c128 (in_c 1 rfl) rfl
                          · skip
                            refine g_aload_n 132 (gd rfl) rfl rfl ?_
                            refine g_iconst 2 133 (gd rfl) rfl rfl ?_
                            refine g_putI 136 (gd rfl) rfl rfl rfl rfl ?_
                            have hI133 := inv_sF (q := 109) (j := 28) hI75 rfl (in_w (-2147483648) 2147483647 (in_c 2 rfl) rfl)
                            refine g_aload_n 137 (gd rfl) rfl rfl ?_
                            refine g_dup 138 (gd rfl) rfl rfl ?_
                            refine g_getI 141 (gd rfl) rfl rfl rfl (fun z138 e138 => ?_)
                            have q138 : w0_109_27 = z138 := (sF_ne rfl (sF_ne rfl (sF_ne rfl (v0_109_27)))).trans e138.symm
                            subst q138
                            refine g_iload_n 142 (gd rfl) rfl rfl ?_
                            refine g_if_eq 145 149 (gd rfl) rfl rfl (fun c142 => ?_) (fun c142 => ?_)
                            · skip
                              exact zn_eq c142 (in_c 1 rfl) rfl
                            · skip
                              refine g_iconst 1 146 (gd rfl) rfl rfl ?_
                              refine g_goto 150 (gd rfl) rfl ?_
                              refine g_iadd 151 (gd rfl) rfl (fun z150 e150 => ?_)
                              have i150 := in_add 1 1000 e150 i8 (in_c 1 rfl) rfl rfl
                              refine g_putI 154 (gd rfl) rfl rfl rfl rfl ?_
                              have hI151 := inv_sF (q := 109) (j := 27) hI133 rfl (in_w 0 1000 i150 rfl)
                              refine g_aload_n 155 (gd rfl) rfl rfl ?_
                              refine g_bipush 7 157 (gd rfl) rfl rfl ?_
                              have hA9 : _ = (sF (sF (sF (sF sc0 109 29 w0_109_27) 109 30 z19) 109 28 (Int32.ofInt 2)) 109 27 z150).2.2.1 109 27 := (show z150 = (sF (sF (sF (sF sc0 109 29 w0_109_27) 109 30 z19) 109 28 (Int32.ofInt 2)) 109 27 z150).2.2.1 109 27 from sF_get)
                              have hL9 : u_109_22 = (sF (sF (sF (sF sc0 109 29 w0_109_27) 109 30 z19) 109 28 (Int32.ofInt 2)) 109 27 z150).2.2.1 109 22 := (show u_109_22 = (sF (sF (sF (sF sc0 109 29 w0_109_27) 109 30 z19) 109 28 (Int32.ofInt 2)) 109 27 z150).2.2.1 109 22 from sF_ne rfl (sF_ne rfl (sF_ne rfl (sF_ne rfl (fr_F e_109_22 hFc0 rfl)))))
                              have hX9 : (sF (sF (sF (sF sc0 109 29 w0_109_27) 109 30 z19) 109 28 (Int32.ofInt 2)) 109 27 z150).1 125 = s.1 125 := hFc0.1 125 rfl
                              have hP9 : _ = (sF (sF (sF (sF sc0 109 29 w0_109_27) 109 30 z19) 109 28 (Int32.ofInt 2)) 109 27 z150).2.2.1 109 29 := (show w0_109_27 = (sF (sF (sF (sF sc0 109 29 w0_109_27) 109 30 z19) 109 28 (Int32.ofInt 2)) 109 27 z150).2.2.1 109 29 from sF_ne rfl (sF_ne rfl (sF_ne rfl (sF_get))))
                              have hF9 : FSM s (sF (sF (sF (sF sc0 109 29 w0_109_27) 109 30 z19) 109 28 (Int32.ofInt 2)) 109 27 z150) := g0_1
                              have v157 : z150 = (sF (sF (sF (sF sc0 109 29 w0_109_27) 109 30 z19) 109 28 (Int32.ofInt 2)) 109 27 z150).2.2.1 109 27 := sF_get
                              have v157a : u_109_22 = (sF (sF (sF (sF sc0 109 29 w0_109_27) 109 30 z19) 109 28 (Int32.ofInt 2)) 109 27 z150).2.2.1 109 22 := sF_ne rfl (sF_ne rfl (sF_ne rfl (sF_ne rfl (fr_F e_109_22 hFc0 rfl))))
                              have n157 : (z150).toInt < (u_109_22).toInt := by have a0 := in_u i94a; have a1 := in_u i8; have a2 := in_u ((in_c 1 rfl)); have a3 := in_u i81; have a4 := in_u i150; have a5 := t_add e150 i8 (in_c 1 rfl) rfl; have a6 := in_u ((in_c 2 rfl)); have a7 := in_u i107; have a8 := t_add e106 i8 (in_c 1 rfl) rfl; have a9 := in_u i94; have a10 := t_add e89 i8 (in_c 1 rfl) rfl; have oc := oc_299_109; omega
                              have p157 : 48 ≤ ((sF (sF (sF (sF sc0 109 29 w0_109_27) 109 30 z19) 109 28 (Int32.ofInt 2)) 109 27 z150).1 125 ((sF (sF (sF (sF sc0 109 29 w0_109_27) 109 30 z19) 109 28 (Int32.ofInt 2)) 109 27 z150).2.2.1 109 27).toNatClampNeg).toInt ∧ ((sF (sF (sF (sF sc0 109 29 w0_109_27) 109 30 z19) 109 28 (Int32.ofInt 2)) 109 27 z150).1 125 ((sF (sF (sF (sF sc0 109 29 w0_109_27) 109 30 z19) 109 28 (Int32.ofInt 2)) 109 27 z150).2.2.1 109 27).toNatClampNeg).toInt ≤ 57 := by first | (have hz : z107 = (sF (sF (sF (sF sc0 109 29 w0_109_27) 109 30 z19) 109 28 (Int32.ofInt 2)) 109 27 z150).1 125 ((sF (sF (sF (sF sc0 109 29 w0_109_27) 109 30 z19) 109 28 (Int32.ofInt 2)) 109 27 z150).2.2.1 109 27).toNatClampNeg := (by rw [← (show z150 = (sF (sF (sF (sF sc0 109 29 w0_109_27) 109 30 z19) 109 28 (Int32.ofInt 2)) 109 27 z150).2.2.1 109 27 from sF_get), e150, ← e106]; exact e107); rw [← hz]; exact i108x9) | (have hz : z19 = (sF (sF (sF (sF sc0 109 29 w0_109_27) 109 30 z19) 109 28 (Int32.ofInt 2)) 109 27 z150).1 125 ((sF (sF (sF (sF sc0 109 29 w0_109_27) 109 30 z19) 109 28 (Int32.ofInt 2)) 109 27 z150).2.2.1 109 27).toNatClampNeg := (by rw [← (show z150 = (sF (sF (sF (sF sc0 109 29 w0_109_27) 109 30 z19) 109 28 (Int32.ofInt 2)) 109 27 z150).2.2.1 109 27 from sF_get), e150, show w0_109_27 + Int32.ofInt 0 = w0_109_27 from Int32.add_zero _]; exact e19); rw [← hz]; exact i121x9) | (have hz : z71 = (sF (sF (sF (sF sc0 109 29 w0_109_27) 109 30 z19) 109 28 (Int32.ofInt 2)) 109 27 z150).1 125 ((sF (sF (sF (sF sc0 109 29 w0_109_27) 109 30 z19) 109 28 (Int32.ofInt 2)) 109 27 z150).2.2.1 109 27).toNatClampNeg := (by rw [← (show z150 = (sF (sF (sF (sF sc0 109 29 w0_109_27) 109 30 z19) 109 28 (Int32.ofInt 2)) 109 27 z150).2.2.1 109 27 from sF_get), e150, show w0_109_27 + Int32.ofInt 0 = w0_109_27 from Int32.add_zero _]; exact e71); rw [← hz]; exact i121x9)
                              refine g_callv (X := _) (As := [.int (Int32.ofInt 7)]) (r := []) (b := A 109) (q := 109) 160 (gd rfl) rfl rfl rfl rfl rfl (ww_o rfl) (Nat.le_of_ble_eq_true rfl) (Nat.zero_le _) (Nat.zero_le _) (f_300 (by first | exact dq1 hd rfl | exact dq0 hd rfl | exact dq2 hd rfl | exact dq3 hd rfl | omega) hI151 (in_w 7 7 (in_c 7 rfl) rfl) v157 v157a n157 p157) (fun e u h => h) (fun v u h => ?_)
                              obtain ⟨s157, hI157, hF157, n157a, n157b, rfl, rfl, p157a⟩ := h
                              obtain ⟨z157a, e157⟩ : ∃ w, w = s157.2.2.1 109 27 := ⟨_, rfl⟩
                              have i157a := inv_F hI157 0 1000 rfl e157
                              rw [← (show z157a = s157.2.2.1 109 27 from e157)] at n157a
                              rw [← (show u_109_22 = s157.2.2.1 109 22 from fr_F (s := (sF (sF (sF (sF sc0 109 29 w0_109_27) 109 30 z19) 109 28 (Int32.ofInt 2)) 109 27 z150)) (sF_ne rfl (sF_ne rfl (sF_ne rfl (sF_ne rfl (fr_F e_109_22 hFc0 rfl))))) hF157 rfl)] at n157a
                              rw [← (show z150 = (sF (sF (sF (sF sc0 109 29 w0_109_27) 109 30 z19) 109 28 (Int32.ofInt 2)) 109 27 z150).2.2.1 109 27 from sF_get)] at n157b
                              rw [← (show z157a = s157.2.2.1 109 27 from e157)] at n157b
                              show GG _ _ _ _ _ _ _ _ [] _ _ _
                              refine g_aload_n 161 (gd rfl) rfl rfl ?_
                              refine g_iload_n 162 (gd rfl) rfl rfl ?_
                              refine g_if_eq 165 173 (gd rfl) rfl rfl (fun c162 => ?_) (fun c162 => ?_)
                              · skip
                                exact zn_eq c162 (in_c 1 rfl) rfl
                              · skip
                                refine g_aload_n 166 (gd rfl) rfl rfl ?_
                                refine g_getL 169 (gd rfl) rfl rfl rfl (fun z166 e166 => ?_)
                                refine g_lneg 170 (gd rfl) rfl (fun z169 e169 => ?_)
                                refine g_goto 177 (gd rfl) rfl ?_
                                refine g_putL 180 (gd rfl) rfl rfl rfl rfl ?_
                                have hI177 := inv_sG (q := 109) (j := 31) (x := z169) hI157 rfl (l_rng z169)
                                have n180 : ∃ k v, TKN (s.1 125) (s.2.2.1 109 22).toInt.toNat (s.2.2.1 109 27).toInt.toNat ((sG s157 109 31 z169).2.2.1 109 29).toInt.toNat ((sG s157 109 31 z169).2.2.1 109 27).toInt.toNat k v ∧ NTK s (sG s157 109 31 z169) k v := by have hT0 : s.1 125 w0_109_27.toInt.toNat = z19 := (by rw [e19, hFc0.1 125 rfl]; rfl); have hS : tkS (s.1 125) (u_109_22).toInt.toNat (u_109_27).toInt.toNat w0_109_27.toInt.toNat := ⟨by have a0 := in_u i94a; have a1 := in_u i8; have a2 := in_u ((in_c 1 rfl)); have a3 := in_u i81; have a4 := in_u i157a; have a5 := in_u ((in_c 2 rfl)); have a6 := in_u i150; have a7 := t_add e150 i8 (in_c 1 rfl) rfl; have a8 := in_u i107; have a9 := t_add e106 i8 (in_c 1 rfl) rfl; have a10 := in_u i94; have a11 := t_add e89 i8 (in_c 1 rfl) rfl; have oc := oc_299_109; omega, by have a0 := in_u i94a; have a1 := in_u i8; have a2 := in_u ((in_c 1 rfl)); have a3 := in_u i81; have a4 := in_u i157a; have a5 := in_u ((in_c 2 rfl)); have a6 := in_u i150; have a7 := t_add e150 i8 (in_c 1 rfl) rfl; have a8 := in_u i107; have a9 := t_add e106 i8 (in_c 1 rfl) rfl; have a10 := in_u i94; have a11 := t_add e89 i8 (in_c 1 rfl) rfl; have oc := oc_299_109; omega, fun i a b => g0_0 i (by rw [← e_109_27]; exact a) (by have a0 := in_u i94a; have a1 := in_u i8; have a2 := in_u ((in_c 1 rfl)); have a3 := in_u i81; have a4 := in_u i157a; have a5 := in_u ((in_c 2 rfl)); have a6 := in_u i150; have a7 := t_add e150 i8 (in_c 1 rfl) rfl; have a8 := in_u i107; have a9 := t_add e106 i8 (in_c 1 rfl) rfl; have a10 := in_u i94; have a11 := t_add e89 i8 (in_c 1 rfl) rfl; have oc := oc_299_109; omega), fun _ => by rw [hT0]; have a0 := in_u i94a; have a1 := in_u i8; have a2 := in_u ((in_c 1 rfl)); have a3 := in_u i81; have a4 := in_u i157a; have a5 := in_u ((in_c 2 rfl)); have a6 := in_u i150; have a7 := t_add e150 i8 (in_c 1 rfl) rfl; have a8 := in_u i107; have a9 := t_add e106 i8 (in_c 1 rfl) rfl; have a10 := in_u i94; have a11 := t_add e89 i8 (in_c 1 rfl) rfl; have oc := oc_299_109; omega⟩; have hp := p157a; rw [hX9, ← hL9, ← hA9, ← hP9] at hp; obtain ⟨hg, hp⟩ := hp; have hat : (s157.2.2.1 109 27) = z157a := ((show z157a = (sG s157 109 31 z169).2.2.1 109 27 from sG_F (e157))).symm; have hz9 : (z150).toInt.toNat = (w0_109_27.toInt.toNat + 1) := (by have a0 := in_u i94a; have a1 := in_u i8; have a2 := in_u ((in_c 1 rfl)); have a3 := in_u i81; have a4 := in_u i157a; have a5 := in_u ((in_c 2 rfl)); have a6 := in_u i150; have a7 := t_add e150 i8 (in_c 1 rfl) rfl; have a8 := in_u i107; have a9 := t_add e106 i8 (in_c 1 rfl) rfl; have a10 := in_u i94; have a11 := t_add e89 i8 (in_c 1 rfl) rfl; have oc := oc_299_109; omega); rw [hz9] at hg hp; rcases hp with ⟨hl, hv, hf⟩ | ⟨hl, hf⟩; (refine ⟨2, ((sG s157 109 31 z169).2.2.2.1 109 31).toInt, ?_, ?_⟩; (rw [← e_109_22, ← e_109_27, ← (show w0_109_27 = (sG s157 109 31 z169).2.2.1 109 29 from sG_F (fr_F (s := (sF (sF (sF (sF sc0 109 29 w0_109_27) 109 30 z19) 109 28 (Int32.ofInt 2)) 109 27 z150)) (sF_ne rfl (sF_ne rfl (sF_ne rfl (sF_get)))) hF157 rfl))]; exact tkn_2 (q := (w0_109_27.toInt.toNat + 1)) (x := 1) hS (Or.inr ⟨rfl, by rw [hT0]; have a0 := in_u i94a; have a1 := in_u i8; have a2 := in_u ((in_c 1 rfl)); have a3 := in_u i81; have a4 := in_u i157a; have a5 := in_u ((in_c 2 rfl)); have a6 := in_u i150; have a7 := t_add e150 i8 (in_c 1 rfl) rfl; have a8 := in_u i107; have a9 := t_add e106 i8 (in_c 1 rfl) rfl; have a10 := in_u i94; have a11 := t_add e89 i8 (in_c 1 rfl) rfl; have oc := oc_299_109; omega, by have a0 := in_u i94a; have a1 := in_u i8; have a2 := in_u ((in_c 1 rfl)); have a3 := in_u i81; have a4 := in_u i157a; have a5 := in_u ((in_c 2 rfl)); have a6 := in_u i150; have a7 := t_add e150 i8 (in_c 1 rfl) rfl; have a8 := in_u i107; have a9 := t_add e106 i8 (in_c 1 rfl) rfl; have a10 := in_u i94; have a11 := t_add e89 i8 (in_c 1 rfl) rfl; have oc := oc_299_109; omega, by rw [show s.1 125 (w0_109_27.toInt.toNat + 1) = z107 from (by rw [e107, show z106.toNatClampNeg = w0_109_27.toInt.toNat + 1 from (by show z106.toInt.toNat = _; have a0 := in_u i94a; have a1 := in_u i8; have a2 := in_u ((in_c 1 rfl)); have a3 := in_u i81; have a4 := in_u i157a; have a5 := in_u ((in_c 2 rfl)); have a6 := in_u i150; have a7 := t_add e150 i8 (in_c 1 rfl) rfl; have a8 := in_u i107; have a9 := t_add e106 i8 (in_c 1 rfl) rfl; have a10 := in_u i94; have a11 := t_add e89 i8 (in_c 1 rfl) rfl; have oc := oc_299_109; omega)]; exact congrFun (hFc0.1 125 rfl).symm _)]; exact ⟨by have a0 := in_u i94a; have a1 := in_u i8; have a2 := in_u ((in_c 1 rfl)); have a3 := in_u i81; have a4 := in_u i157a; have a5 := in_u ((in_c 2 rfl)); have a6 := in_u i150; have a7 := t_add e150 i8 (in_c 1 rfl) rfl; have a8 := in_u i107; have a9 := t_add e106 i8 (in_c 1 rfl) rfl; have a10 := in_u i94; have a11 := t_add e89 i8 (in_c 1 rfl) rfl; have oc := oc_299_109; omega, by have a0 := in_u i94a; have a1 := in_u i8; have a2 := in_u ((in_c 1 rfl)); have a3 := in_u i81; have a4 := in_u i157a; have a5 := in_u ((in_c 2 rfl)); have a6 := in_u i150; have a7 := t_add e150 i8 (in_c 1 rfl) rfl; have a8 := in_u i107; have a9 := t_add e106 i8 (in_c 1 rfl) rfl; have a10 := in_u i94; have a11 := t_add e89 i8 (in_c 1 rfl) rfl; have oc := oc_299_109; omega⟩⟩) ⟨fun h => absurd h (by decide), fun h => by omega⟩ ⟨by rw [← hat] at *; exact hg, Or.inl ⟨by rw [← hat] at *; exact hl, rfl, by first | (rw [if_pos rfl]; rw [← hat] at *; exact (by show (z169).toInt = - _; rw [lx_ng e169 (by rw [e166, show (s157.2.2.2.1 109 31).toInt = _ from hv]; exact tkN_7 hl (fun i a b => hg.2.2.1 i a (by omega))), e166, hv]; rfl)) | (rw [if_neg (by decide)]; rw [← hat] at *; exact (by show (z169).toInt = - _; rw [lx_ng e169 (by rw [e166, show (s157.2.2.2.1 109 31).toInt = _ from hv]; exact tkN_7 hl (fun i a b => hg.2.2.1 i a (by omega))), e166, hv]; rfl))⟩⟩); (exact ntk_2 ((show (Int32.ofInt 2) = (sG s157 109 31 z169).2.2.1 109 28 from sG_F (fr_F (s := (sF (sF (sF (sF sc0 109 29 w0_109_27) 109 30 z19) 109 28 (Int32.ofInt 2)) 109 27 z150)) (sF_ne rfl (sF_get)) hF157 rfl))).symm rfl (fsm_tr hF9 hf))); (refine ⟨5, 0, ?_, ?_⟩; (rw [← e_109_22, ← e_109_27, ← (show w0_109_27 = (sG s157 109 31 z169).2.2.1 109 29 from sG_F (fr_F (s := (sF (sF (sF (sF sc0 109 29 w0_109_27) 109 30 z19) 109 28 (Int32.ofInt 2)) 109 27 z150)) (sF_ne rfl (sF_ne rfl (sF_ne rfl (sF_get)))) hF157 rfl))]; exact tkn_2 (q := (w0_109_27.toInt.toNat + 1)) (x := 1) hS (Or.inr ⟨rfl, by rw [hT0]; have a0 := in_u i94a; have a1 := in_u i8; have a2 := in_u ((in_c 1 rfl)); have a3 := in_u i81; have a4 := in_u i157a; have a5 := in_u ((in_c 2 rfl)); have a6 := in_u i150; have a7 := t_add e150 i8 (in_c 1 rfl) rfl; have a8 := in_u i107; have a9 := t_add e106 i8 (in_c 1 rfl) rfl; have a10 := in_u i94; have a11 := t_add e89 i8 (in_c 1 rfl) rfl; have oc := oc_299_109; omega, by have a0 := in_u i94a; have a1 := in_u i8; have a2 := in_u ((in_c 1 rfl)); have a3 := in_u i81; have a4 := in_u i157a; have a5 := in_u ((in_c 2 rfl)); have a6 := in_u i150; have a7 := t_add e150 i8 (in_c 1 rfl) rfl; have a8 := in_u i107; have a9 := t_add e106 i8 (in_c 1 rfl) rfl; have a10 := in_u i94; have a11 := t_add e89 i8 (in_c 1 rfl) rfl; have oc := oc_299_109; omega, by rw [show s.1 125 (w0_109_27.toInt.toNat + 1) = z107 from (by rw [e107, show z106.toNatClampNeg = w0_109_27.toInt.toNat + 1 from (by show z106.toInt.toNat = _; have a0 := in_u i94a; have a1 := in_u i8; have a2 := in_u ((in_c 1 rfl)); have a3 := in_u i81; have a4 := in_u i157a; have a5 := in_u ((in_c 2 rfl)); have a6 := in_u i150; have a7 := t_add e150 i8 (in_c 1 rfl) rfl; have a8 := in_u i107; have a9 := t_add e106 i8 (in_c 1 rfl) rfl; have a10 := in_u i94; have a11 := t_add e89 i8 (in_c 1 rfl) rfl; have oc := oc_299_109; omega)]; exact congrFun (hFc0.1 125 rfl).symm _)]; exact ⟨by have a0 := in_u i94a; have a1 := in_u i8; have a2 := in_u ((in_c 1 rfl)); have a3 := in_u i81; have a4 := in_u i157a; have a5 := in_u ((in_c 2 rfl)); have a6 := in_u i150; have a7 := t_add e150 i8 (in_c 1 rfl) rfl; have a8 := in_u i107; have a9 := t_add e106 i8 (in_c 1 rfl) rfl; have a10 := in_u i94; have a11 := t_add e89 i8 (in_c 1 rfl) rfl; have oc := oc_299_109; omega, by have a0 := in_u i94a; have a1 := in_u i8; have a2 := in_u ((in_c 1 rfl)); have a3 := in_u i81; have a4 := in_u i157a; have a5 := in_u ((in_c 2 rfl)); have a6 := in_u i150; have a7 := t_add e150 i8 (in_c 1 rfl) rfl; have a8 := in_u i107; have a9 := t_add e106 i8 (in_c 1 rfl) rfl; have a10 := in_u i94; have a11 := t_add e89 i8 (in_c 1 rfl) rfl; have oc := oc_299_109; omega⟩⟩) ⟨fun h => absurd h (by decide), fun h => by omega⟩ ⟨by rw [← hat] at *; exact hg, Or.inr ⟨by rw [← hat] at *; exact hl, rfl⟩⟩); (exact ntk_5 ((show (Int32.ofInt 2) = (sG s157 109 31 z169).2.2.1 109 28 from sG_F (fr_F (s := (sF (sF (sF (sF sc0 109 29 w0_109_27) 109 30 z19) 109 28 (Int32.ofInt 2)) 109 27 z150)) (sF_ne rfl (sF_get)) hF157 rfl))).symm (fbl_tr hF9 (by rw [← (show w0_109_27 = (sG s157 109 31 z169).2.2.1 109 29 from sG_F (fr_F (s := (sF (sF (sF (sF sc0 109 29 w0_109_27) 109 30 z19) 109 28 (Int32.ofInt 2)) 109 27 z150)) (sF_ne rfl (sF_ne rfl (sF_ne rfl (sF_get)))) hF157 rfl))]; exact hf))))
                                have n180a : (z157a).toInt ≤ (u_109_22).toInt := by have a0 := in_u i94a; have a1 := in_u i8; have a2 := in_u ((in_c 1 rfl)); have a3 := in_u i81; have a4 := in_u i157a; have a5 := in_u ((in_c 2 rfl)); have a6 := in_u i150; have a7 := t_add e150 i8 (in_c 1 rfl) rfl; have a8 := in_u i107; have a9 := t_add e106 i8 (in_c 1 rfl) rfl; have a10 := in_u i94; have a11 := t_add e89 i8 (in_c 1 rfl) rfl; have oc := oc_299_109; omega
                                have n180b : ((sG s157 109 31 z169).2.2.1 109 27).toInt ≤ ((sG s157 109 31 z169).2.2.1 109 22).toInt := by have b0 : z157a = (sG s157 109 31 z169).2.2.1 109 27 := sG_F (e157); have b1 : u_109_22 = (sG s157 109 31 z169).2.2.1 109 22 := sG_F (fr_F (s := (sF (sF (sF (sF sc0 109 29 w0_109_27) 109 30 z19) 109 28 (Int32.ofInt 2)) 109 27 z150)) (sF_ne rfl (sF_ne rfl (sF_ne rfl (sF_ne rfl (fr_F e_109_22 hFc0 rfl))))) hF157 rfl); rw [← b0, ← b1]; exact n180a
                                have n180c : (u_109_27).toInt ≤ (z157a).toInt := by have a0 := in_u i94a; have a1 := in_u i8; have a2 := in_u ((in_c 1 rfl)); have a3 := in_u i81; have a4 := in_u i157a; have a5 := in_u ((in_c 2 rfl)); have a6 := in_u i150; have a7 := t_add e150 i8 (in_c 1 rfl) rfl; have a8 := in_u i107; have a9 := t_add e106 i8 (in_c 1 rfl) rfl; have a10 := in_u i94; have a11 := t_add e89 i8 (in_c 1 rfl) rfl; have oc := oc_299_109; omega
                                have n180d : (s.2.2.1 109 27).toInt ≤ ((sG s157 109 31 z169).2.2.1 109 27).toInt := by have b0 : z157a = (sG s157 109 31 z169).2.2.1 109 27 := sG_F (e157); first | (rw [← b0, ← e_109_27]; exact n180c) | (rw [← b0]; exact n180c)
                                have n180e : ((Int32.ofInt 2)).toInt ≠ 0 → (u_109_27).toInt + 1 ≤ (z157a).toInt := by have a0 := in_u i94a; have a1 := in_u i8; have a2 := in_u ((in_c 1 rfl)); have a3 := in_u i81; have a4 := in_u i157a; have a5 := in_u ((in_c 2 rfl)); have a6 := in_u i150; have a7 := t_add e150 i8 (in_c 1 rfl) rfl; have a8 := in_u i107; have a9 := t_add e106 i8 (in_c 1 rfl) rfl; have a10 := in_u i94; have a11 := t_add e89 i8 (in_c 1 rfl) rfl; have oc := oc_299_109; omega
                                have n180f : ((sG s157 109 31 z169).2.2.1 109 28).toInt ≠ 0 → (s.2.2.1 109 27).toInt + 1 ≤ ((sG s157 109 31 z169).2.2.1 109 27).toInt := by have b0 : (Int32.ofInt 2) = (sG s157 109 31 z169).2.2.1 109 28 := sG_F (fr_F (s := (sF (sF (sF (sF sc0 109 29 w0_109_27) 109 30 z19) 109 28 (Int32.ofInt 2)) 109 27 z150)) (sF_ne rfl (sF_get)) hF157 rfl); have b1 : z157a = (sG s157 109 31 z169).2.2.1 109 27 := sG_F (e157); first | (rw [← b0, ← b1, ← e_109_27]; exact n180e) | (rw [← b0, ← b1]; exact n180e)
                                have n180g : ((Int32.ofInt 2)).toInt = 1 → 97 ≤ (z19).toInt := by have a0 := in_u i94a; have a1 := in_u i8; have a2 := in_u ((in_c 1 rfl)); have a3 := in_u i81; have a4 := in_u i157a; have a5 := in_u ((in_c 2 rfl)); have a6 := in_u i150; have a7 := t_add e150 i8 (in_c 1 rfl) rfl; have a8 := in_u i107; have a9 := t_add e106 i8 (in_c 1 rfl) rfl; have a10 := in_u i94; have a11 := t_add e89 i8 (in_c 1 rfl) rfl; have oc := oc_299_109; omega
                                have n180h : ((sG s157 109 31 z169).2.2.1 109 28).toInt = 1 → 97 ≤ ((sG s157 109 31 z169).2.2.1 109 30).toInt := by have b0 : (Int32.ofInt 2) = (sG s157 109 31 z169).2.2.1 109 28 := sG_F (fr_F (s := (sF (sF (sF (sF sc0 109 29 w0_109_27) 109 30 z19) 109 28 (Int32.ofInt 2)) 109 27 z150)) (sF_ne rfl (sF_get)) hF157 rfl); have b1 : z19 = (sG s157 109 31 z169).2.2.1 109 30 := sG_F (fr_F (s := (sF (sF (sF (sF sc0 109 29 w0_109_27) 109 30 z19) 109 28 (Int32.ofInt 2)) 109 27 z150)) (sF_ne rfl (sF_ne rfl (sF_get))) hF157 rfl); rw [← b0, ← b1]; exact n180g
                                have n180i : ((Int32.ofInt 2)).toInt = 1 → (z19).toInt ≤ 122 := by have a0 := in_u i94a; have a1 := in_u i8; have a2 := in_u ((in_c 1 rfl)); have a3 := in_u i81; have a4 := in_u i157a; have a5 := in_u ((in_c 2 rfl)); have a6 := in_u i150; have a7 := t_add e150 i8 (in_c 1 rfl) rfl; have a8 := in_u i107; have a9 := t_add e106 i8 (in_c 1 rfl) rfl; have a10 := in_u i94; have a11 := t_add e89 i8 (in_c 1 rfl) rfl; have oc := oc_299_109; omega
                                have n180j : ((sG s157 109 31 z169).2.2.1 109 28).toInt = 1 → ((sG s157 109 31 z169).2.2.1 109 30).toInt ≤ 122 := by have b0 : (Int32.ofInt 2) = (sG s157 109 31 z169).2.2.1 109 28 := sG_F (fr_F (s := (sF (sF (sF (sF sc0 109 29 w0_109_27) 109 30 z19) 109 28 (Int32.ofInt 2)) 109 27 z150)) (sF_ne rfl (sF_get)) hF157 rfl); have b1 : z19 = (sG s157 109 31 z169).2.2.1 109 30 := sG_F (fr_F (s := (sF (sF (sF (sF sc0 109 29 w0_109_27) 109 30 z19) 109 28 (Int32.ofInt 2)) 109 27 z150)) (sF_ne rfl (sF_ne rfl (sF_get))) hF157 rfl); rw [← b0, ← b1]; exact n180i
                                exact g_return (gd rfl) rfl (hP _ _ ⟨(sG s157 109 31 z169), hI177, (fr_sG rfl (fr_tr rfl (fr_sF rfl (fr_sF rfl (fr_sF rfl (fr_sF rfl hFc0)))) hF157)), n180b, n180d, n180f, n180h, n180j, rfl, rfl, n180⟩)
                      · skip
                        exact n_le c121x3 (in_c 48 rfl) i81 rfl
          · skip
            have i54 := r_eq1 1 999 c54 i8 i8a rfl
            have i54a := r_eq2 1 999 c54 i8 i8a rfl
            refine g_aload_n 58 (gd rfl) rfl rfl ?_
            refine g_iconst 0 59 (gd rfl) rfl rfl ?_
            refine g_putI 62 (gd rfl) rfl rfl rfl rfl ?_
            have hI59 := inv_sF (q := 109) (j := 28) hI43 rfl (in_w (-2147483648) 2147483647 (in_c 0 rfl) rfl)
            have n62 : ∃ k v, TKN (s.1 125) (s.2.2.1 109 22).toInt.toNat (s.2.2.1 109 27).toInt.toNat ((sF (sF sc0 109 29 w0_109_27) 109 28 (Int32.ofInt 0)).2.2.1 109 29).toInt.toNat ((sF (sF sc0 109 29 w0_109_27) 109 28 (Int32.ofInt 0)).2.2.1 109 27).toInt.toNat k v ∧ NTK s (sF (sF sc0 109 29 w0_109_27) 109 28 (Int32.ofInt 0)) k v := by exfalso; have a0 := in_u i54a; have a1 := in_u i54; have a2 := in_u ((in_c 0 rfl)); have oc := oc_299_109; omega
            have n62a : (w0_109_27).toInt ≤ (u_109_22).toInt := by first | exact n0_0 | (have a0 := in_u i54a; have a1 := in_u i54; have a2 := in_u ((in_c 0 rfl)); have oc := oc_299_109; omega)
            have n62b : ((sF (sF sc0 109 29 w0_109_27) 109 28 (Int32.ofInt 0)).2.2.1 109 27).toInt ≤ ((sF (sF sc0 109 29 w0_109_27) 109 28 (Int32.ofInt 0)).2.2.1 109 22).toInt := by have b0 : w0_109_27 = (sF (sF sc0 109 29 w0_109_27) 109 28 (Int32.ofInt 0)).2.2.1 109 27 := sF_ne rfl (sF_ne rfl (v0_109_27)); have b1 : u_109_22 = (sF (sF sc0 109 29 w0_109_27) 109 28 (Int32.ofInt 0)).2.2.1 109 22 := sF_ne rfl (sF_ne rfl (fr_F e_109_22 hFc0 rfl)); rw [← b0, ← b1]; exact n62a
            have n62c : (u_109_27).toInt ≤ (w0_109_27).toInt := by first | exact n0_1 | (have a0 := in_u i54a; have a1 := in_u i54; have a2 := in_u ((in_c 0 rfl)); have oc := oc_299_109; omega)
            have n62d : (s.2.2.1 109 27).toInt ≤ ((sF (sF sc0 109 29 w0_109_27) 109 28 (Int32.ofInt 0)).2.2.1 109 27).toInt := by have b0 : w0_109_27 = (sF (sF sc0 109 29 w0_109_27) 109 28 (Int32.ofInt 0)).2.2.1 109 27 := sF_ne rfl (sF_ne rfl (v0_109_27)); first | (rw [← b0, ← e_109_27]; exact n62c) | (rw [← b0]; exact n62c)
            have n62e : ((Int32.ofInt 0)).toInt ≠ 0 → (u_109_27).toInt + 1 ≤ (w0_109_27).toInt := by have a0 := in_u i54a; have a1 := in_u i54; have a2 := in_u ((in_c 0 rfl)); have oc := oc_299_109; omega
            have n62f : ((sF (sF sc0 109 29 w0_109_27) 109 28 (Int32.ofInt 0)).2.2.1 109 28).toInt ≠ 0 → (s.2.2.1 109 27).toInt + 1 ≤ ((sF (sF sc0 109 29 w0_109_27) 109 28 (Int32.ofInt 0)).2.2.1 109 27).toInt := by have b0 : (Int32.ofInt 0) = (sF (sF sc0 109 29 w0_109_27) 109 28 (Int32.ofInt 0)).2.2.1 109 28 := sF_get; have b1 : w0_109_27 = (sF (sF sc0 109 29 w0_109_27) 109 28 (Int32.ofInt 0)).2.2.1 109 27 := sF_ne rfl (sF_ne rfl (v0_109_27)); first | (rw [← b0, ← b1, ← e_109_27]; exact n62e) | (rw [← b0, ← b1]; exact n62e)
            have n62g : ((Int32.ofInt 0)).toInt = 1 → 97 ≤ (((sF (sF sc0 109 29 w0_109_27) 109 28 (Int32.ofInt 0)).2.2.1 109 30)).toInt := by have a0 := in_u i54a; have a1 := in_u i54; have a2 := in_u ((in_c 0 rfl)); have oc := oc_299_109; omega
            have n62h : ((sF (sF sc0 109 29 w0_109_27) 109 28 (Int32.ofInt 0)).2.2.1 109 28).toInt = 1 → 97 ≤ ((sF (sF sc0 109 29 w0_109_27) 109 28 (Int32.ofInt 0)).2.2.1 109 30).toInt := by have b0 : (Int32.ofInt 0) = (sF (sF sc0 109 29 w0_109_27) 109 28 (Int32.ofInt 0)).2.2.1 109 28 := sF_get; rw [← b0]; exact n62g
            have n62i : ((Int32.ofInt 0)).toInt = 1 → (((sF (sF sc0 109 29 w0_109_27) 109 28 (Int32.ofInt 0)).2.2.1 109 30)).toInt ≤ 122 := by have a0 := in_u i54a; have a1 := in_u i54; have a2 := in_u ((in_c 0 rfl)); have oc := oc_299_109; omega
            have n62j : ((sF (sF sc0 109 29 w0_109_27) 109 28 (Int32.ofInt 0)).2.2.1 109 28).toInt = 1 → ((sF (sF sc0 109 29 w0_109_27) 109 28 (Int32.ofInt 0)).2.2.1 109 30).toInt ≤ 122 := by have b0 : (Int32.ofInt 0) = (sF (sF sc0 109 29 w0_109_27) 109 28 (Int32.ofInt 0)).2.2.1 109 28 := sF_get; rw [← b0]; exact n62i
            exact g_return (gd rfl) rfl (hP _ _ ⟨(sF (sF sc0 109 29 w0_109_27) 109 28 (Int32.ofInt 0)), hI59, (fr_sF rfl (fr_sF rfl hFc0)), n62b, n62d, n62f, n62h, n62j, rfl, rfl, n62⟩)
        · skip
          have i22 := r_eq1 32 32 c22 i19 (in_c 32 rfl) rfl
          refine g_aload_n 26 (gd rfl) rfl rfl ?_
          refine g_dup 27 (gd rfl) rfl rfl ?_
          refine g_getI 30 (gd rfl) rfl rfl rfl (fun z27 e27 => ?_)
          have q27 : w0_109_27 = z27 := (v0_109_27).trans e27.symm
          subst q27
          refine g_iconst 1 31 (gd rfl) rfl rfl ?_
          refine g_iadd 32 (gd rfl) rfl (fun z31 e31 => ?_)
          have i31 := in_add 1 1000 e31 i8 (in_c 1 rfl) rfl rfl
          refine g_putI 35 (gd rfl) rfl rfl rfl rfl ?_
          have hI32 := inv_sF (q := 109) (j := 27) hIc0 rfl (in_w 0 1000 i31 rfl)
          refine g_goto 0 (gd rfl) rfl ?_
          have v0 : z31 = (sF sc0 109 27 z31).2.2.1 109 27 := sF_get
          have n0 : (z31).toInt ≤ (u_109_22).toInt := by have a0 := in_u i8a; have a1 := in_u i8; have a2 := in_u i31; have a3 := t_add e31 i8 (in_c 1 rfl) rfl; have a4 := in_u ((in_c 1 rfl)); have oc := oc_299_109; omega
          have n0a : (u_109_27).toInt ≤ (z31).toInt := by have a0 := in_u i8a; have a1 := in_u i8; have a2 := in_u i31; have a3 := t_add e31 i8 (in_c 1 rfl) rfl; have a4 := in_u ((in_c 1 rfl)); have oc := oc_299_109; omega
          have n0b : ∀ i : Nat, (s.2.2.1 109 27).toInt.toNat ≤ i → (i : Int) < (z31).toInt → (s.1 125 i).toInt = 32 := by intro i a b; by_cases hc : (i : Int) < w0_109_27.toInt; (exact g0_0 i a hc); (rw [show i = w0_109_27.toNatClampNeg from (by show i = w0_109_27.toInt.toNat; have a0 := in_u i8a; have a1 := in_u i8; have a2 := in_u i31; have a3 := t_add e31 i8 (in_c 1 rfl) rfl; have a4 := in_u ((in_c 1 rfl)); have oc := oc_299_109; omega), show s.1 125 w0_109_27.toNatClampNeg = z19 from (by rw [e19, hFc0.1 125 rfl])]; have a0 := in_u i8a; have a1 := in_u i8; have a2 := in_u i31; have a3 := t_add e31 i8 (in_c 1 rfl) rfl; have a4 := in_u ((in_c 1 rfl)); have oc := oc_299_109; omega)
          have n0c : FSM s (sF sc0 109 27 z31) := by exact g0_1
          have m0 : (u_109_22).toInt - (z31).toInt < ((k0 : Nat) : Int) := by have a0 := in_u i8a; have a1 := in_u i8; have a2 := in_u i31; have a3 := t_add e31 i8 (in_c 1 rfl) rfl; have a4 := in_u ((in_c 1 rfl)); have oc := oc_299_109; omega
          exact gg_w (by first | exact Nat.le_add_right _ _ | exact gw2 | exact gw3 | exact gwe rfl | exact gwf rfl | exact gwg rfl | exact gwh rfl | omega) (gg_f (gf_cons rfl gf_nil) (ih0  (sF sc0 109 27 z31) z31 hI32 (fr_sF rfl hFc0) v0 n0 n0a n0b n0c m0))
  refine g_enter2 (k := 299) (N := 901801) (by first | exact dq1 hd rfl | exact dq0 hd rfl | exact dq2 hd rfl | exact dq3 hd rfl | omega) rfl (Nat.le_of_ble_eq_true rfl) ?_
  have n0 : (u_109_27).toInt ≤ (u_109_22).toInt := by have a0 := in_u ((inv_F hI 0 1000 rfl e_109_22)); have a1 := in_u ((inv_F hI 0 1000 rfl e_109_27)); have oc := oc_299_109; omega
  have n0a : (u_109_27).toInt ≤ (u_109_27).toInt := by have a0 := in_u ((inv_F hI 0 1000 rfl e_109_22)); have a1 := in_u ((inv_F hI 0 1000 rfl e_109_27)); have oc := oc_299_109; omega
  have n0b : ∀ i : Nat, (s.2.2.1 109 27).toInt.toNat ≤ i → (i : Int) < (u_109_27).toInt → (s.1 125 i).toInt = 32 := by intro i a b; exfalso; rw [← e_109_27] at a; have a0 := in_u ((inv_F hI 0 1000 rfl e_109_22)); have a1 := in_u ((inv_F hI 0 1000 rfl e_109_27)); have oc := oc_299_109; omega
  have n0c : FSM s s := by exact ⟨rfl, rfl⟩
  have m0 : (u_109_22).toInt - (u_109_27).toInt < ((1001 : Nat) : Int) := by have a0 := in_u ((inv_F hI 0 1000 rfl e_109_22)); have a1 := in_u ((inv_F hI 0 1000 rfl e_109_27)); have oc := oc_299_109; omega
  exact gg_w (by first | exact Nat.le_of_ble_eq_true rfl | omega) (gg_f (gf_cons rfl gf_nil) (ct0 1001 s u_109_27 hI fr_rf e_109_27 n0 n0a n0b n0c m0))
