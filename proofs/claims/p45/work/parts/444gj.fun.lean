section
/-! FUNCTIONAL CONTRACTS, by fgen.py -/
theorem oc_299_109 : (Int32.ofInt (-1)).toInt = (-1) ∧ (Int32.ofInt 0).toInt = 0 ∧ (Int32.ofInt 1).toInt = 1 ∧ (Int32.ofInt 2).toInt = 2 ∧ (Int32.ofInt 3).toInt = 3 ∧ (Int32.ofInt 7).toInt = 7 ∧ (Int32.ofInt 32).toInt = 32 ∧ (Int32.ofInt 45).toInt = 45 ∧ (Int32.ofInt 48).toInt = 48 ∧ (Int32.ofInt 57).toInt = 57 ∧ (Int32.ofInt 59).toInt = 59 ∧ (Int32.ofInt 97).toInt = 97 ∧ (Int32.ofInt 122).toInt = 122 := ⟨rfl, rfl, rfl, rfl, rfl, rfl, rfl, rfl, rfl, rfl, rfl, rfl, rfl⟩
/-- GraphHouseModel.nextToken -/
theorem f_299 {Z : AmZ} {A : Nat → Nat} {s : GS} {ex : va_W} {d : Nat} {X : AmX} {u_109_27 : Int32} {u_109_22 : Int32} (hd : 4 ≤ d) (hI : Inv s) (e_109_27 : u_109_27 = s.2.2.1 109 27) (e_109_22 : u_109_22 = s.2.2.1 109 22) (p_0 : (u_109_27).toInt ≤ (u_109_22).toInt) : GC Z d 299 [.ref (A 109)] (WW Z A s ++ ex) 0 0 (fun v u => ∃ t : GS, Inv t ∧ Fr fm_299 s t ∧ ((t.2.2.1 109 27).toInt ≤ (t.2.2.1 109 22).toInt) ∧ ((s.2.2.1 109 27).toInt ≤ (t.2.2.1 109 27).toInt) ∧ ((t.2.2.1 109 28).toInt ≠ 0 → (s.2.2.1 109 27).toInt + 1 ≤ (t.2.2.1 109 27).toInt) ∧ ((t.2.2.1 109 28).toInt = 1 → 97 ≤ (t.2.2.1 109 30).toInt) ∧ ((t.2.2.1 109 28).toInt = 1 → (t.2.2.1 109 30).toInt ≤ 122) ∧ v = none ∧ u = WW Z A t ++ ex ∧ (∃ k v, TKN (s.1 125) (s.2.2.1 109 22).toInt.toNat (s.2.2.1 109 27).toInt.toNat (t.2.2.1 109 29).toInt.toNat (t.2.2.1 109 27).toInt.toNat k v ∧ NTK s t k v)) X := by
  intro post xp hP hX
  have ro_109_22 := inv_F hI 0 1000 rfl e_109_22
  have ct0 : ∀ (k0 : Nat) (sc0 : GS) (w0_109_27 : Int32), Inv sc0 → Fr fm_299 s sc0 → (w0_109_27 = sc0.2.2.1 109 27) → ((w0_109_27).toInt ≤ (u_109_22).toInt) → ((u_109_27).toInt ≤ (w0_109_27).toInt) → (∀ i : Nat, (s.2.2.1 109 27).toInt.toNat ≤ i → (i : Int) < (w0_109_27).toInt → (s.1 125 i).toInt = 32) → (FSM s sc0) → (u_109_22).toInt - (w0_109_27).toInt < (k0 : Int) → GG Z (d - 1) 299 post (gx xp) (1 + k0 * 900) 0 (fun j => xlook j [(0, .ref (A 109))]) [] (WW Z A sc0 ++ ex) 0 0 := by
    intro k0
    induction k0 with
    | zero => intro sc0 w0_109_27 hIc0 hFc0 v0_109_27 n0_0 n0_1 g0_0 g0_1 mm0; exfalso; have a0 := oa2 ro_109_22 ((inv_F hIc0 0 1000 rfl v0_109_27)); have oc := oc_299_109; omega
    | succ k0 ih0 =>
      intro sc0 w0_109_27 hIc0 hFc0 v0_109_27 n0_0 n0_1 g0_0 g0_1 mm0
      refine gg_w (M := 1 + k0 * 900 + 900) gws ?_
      refine g_aload_n 1 (gd rfl) rfl rfl ?_
      refine g_getI 4 (gd rfl) rfl rfl rfl (fun z1 e1 => ?_)
      have q1 : w0_109_27 = z1 := (v0_109_27).trans e1.symm
      subst q1
      refine g_aload_n 5 (gd rfl) rfl rfl ?_
      refine g_getI 8 (gd rfl) rfl rfl rfl (fun z5 e5 => ?_)
      have q5 : u_109_22 = z5 := (fr_F e_109_22 hFc0 rfl).trans e5.symm
      subst q5
      refine g_cmp_ge 11 38 (gd rfl) rfl rfl (fun c8 => ?_) (fun c8 => ?_)
      · skip
        refine g_aload_n 39 (gd rfl) rfl rfl ?_
        refine g_aload_n 40 (gd rfl) rfl rfl ?_
        refine g_getI 43 (gd rfl) rfl rfl rfl (fun z40 e40 => ?_)
        have q40 : w0_109_27 = z40 := (v0_109_27).trans e40.symm
        subst q40
        refine g_putI 46 (gd rfl) rfl rfl rfl rfl ?_
        have hI43 := inv_sF (q := 109) (j := 29) hIc0 rfl (in_w 0 1000 (inv_F hIc0 0 1000 rfl v0_109_27) rfl)
        refine g_aload_n 47 (gd rfl) rfl rfl ?_
        refine g_getI 50 (gd rfl) rfl rfl rfl (fun z47 e47 => ?_)
        have q47 : w0_109_27 = z47 := (sF_ne rfl (v0_109_27)).trans e47.symm
        subst q47
        refine g_aload_n 51 (gd rfl) rfl rfl ?_
        refine g_getI 54 (gd rfl) rfl rfl rfl (fun z51 e51 => ?_)
        have q51 : u_109_22 = z51 := (sF_ne rfl (fr_F e_109_22 hFc0 rfl)).trans e51.symm
        subst q51
        refine g_cmp_ne 57 63 (gd rfl) rfl rfl (fun c54 => ?_) (fun c54 => ?_)
        · skip
          refine g_aload_n 64 (gd rfl) rfl rfl ?_
          refine g_getA (q2 := 125) 67 (gd rfl) rfl rfl rfl rfl ?_
          refine g_aload_n 68 (gd rfl) rfl rfl ?_
          refine g_getI 71 (gd rfl) rfl rfl rfl (fun z68 e68 => ?_)
          have q68 : w0_109_27 = z68 := (sF_ne rfl (v0_109_27)).trans e68.symm
          subst q68
          have i71 : In w0_109_27 0 999 := by have a0 := oa2 ro_109_22 ((inv_F hIc0 0 1000 rfl v0_109_27)); have oc := oc_299_109; exact ⟨by omega, by omega⟩
          refine g_iaload 72 (gd rfl) rfl (n := 1000) rfl (in_ix i71 rfl) (fun z71 e71 => ?_)
          have i71a := inv_I hI43 (n := 1000) (t := 0) 0 126 rfl (in_ix i71 rfl) rfl e71
          refine g_istore_n 73 (gd rfl) rfl (Nat.le_of_ble_eq_true rfl) ?_
          refine g_aload_n 74 (gd rfl) rfl rfl ?_
          refine g_iload_n 75 (gd rfl) rfl rfl ?_
          refine g_putI 78 (gd rfl) rfl rfl rfl rfl ?_
          have hI75 := inv_sF (q := 109) (j := 30) hI43 rfl (in_w (-2147483648) 2147483647 i71a rfl)
          refine g_iload_n 79 (gd rfl) rfl rfl ?_
          refine g_bipush 45 81 (gd rfl) rfl rfl ?_
          refine g_cmp_ne 84 118 (gd rfl) rfl rfl (fun c81 => ?_) (fun c81 => ?_)
          · skip
            refine g_iconst 0 119 (gd rfl) rfl rfl ?_
            refine g_istore_n 120 (gd rfl) rfl (Nat.le_of_ble_eq_true rfl) ?_
            refine g_iload_n 121 (gd rfl) rfl rfl ?_
            refine g_calls (As := [.int z71]) (r := []) 124 (gd rfl) rfl rfl rfl rfl rfl (Nat.le_of_ble_eq_true rfl) (mc := 0) (ms := 0) (Nat.zero_le _) (Nat.zero_le _) (P := fun v u => _) ?_ (fun v u h => h)
            intro po121 xx121 hp121 hx121
            refine g_enter2 (k := 297) (N := 300) (by first | exact dq1 hd rfl | exact dq0 hd rfl | exact dq2 hd rfl | exact dq3 hd rfl | omega) rfl (Nat.le_of_ble_eq_true rfl) ?_
            refine g_iload_n 1 (gd rfl) rfl rfl ?_
            refine g_bipush 48 3 (gd rfl) rfl rfl ?_
            refine g_cmp_lt 6 16 (gd rfl) rfl rfl (fun c121x3 => ?_) (fun c121x3 => ?_)
            · skip
              have i121x3 := r_lt1 0 47 c121x3 i71a (in_c 48 rfl) rfl
              refine g_iconst 0 17 (gd rfl) rfl rfl ?_
              refine g_ireturn (gd rfl) rfl (nb01 (in_w 0 1 (in_c 0 rfl) rfl)) (hp121 _ _ ?_)
              show GG _ _ _ _ _ _ _ _ [.int (Int32.ofInt 0)] _ _ _
              refine g_if_ne 127 131 (gd rfl) rfl rfl (fun c124 => ?_) (fun c124 => ?_)
              · skip
                exact zn_ne c124 (in_c 0 rfl) rfl
              · skip
                refine g_iload_n 128 (gd rfl) rfl rfl ?_
                refine g_if_eq 131 181 (gd rfl) rfl rfl (fun c128 => ?_) (fun c128 => ?_)
                · skip
                  refine g_aload_n 182 (gd rfl) rfl rfl ?_
                  refine g_iload_n 183 (gd rfl) rfl rfl ?_
                  refine g_calls (As := [.int z71]) (r := [.ref (A 109)]) 186 (gd rfl) rfl rfl rfl rfl rfl (Nat.le_of_ble_eq_true rfl) (mc := 0) (ms := 0) (Nat.zero_le _) (Nat.zero_le _) (P := fun v u => _) ?_ (fun v u h => h)
                  intro po183 xx183 hp183 hx183
                  refine g_enter2 (k := 296) (N := 300) (by first | exact dq1 hd rfl | exact dq0 hd rfl | exact dq2 hd rfl | exact dq3 hd rfl | omega) rfl (Nat.le_of_ble_eq_true rfl) ?_
                  refine g_iload_n 1 (gd rfl) rfl rfl ?_
                  refine g_bipush 97 3 (gd rfl) rfl rfl ?_
                  refine g_cmp_lt 6 16 (gd rfl) rfl rfl (fun c183x3 => ?_) (fun c183x3 => ?_)
                  · skip
                    refine g_iconst 0 17 (gd rfl) rfl rfl ?_
                    refine g_ireturn (gd rfl) rfl (nb01 (in_w 0 1 (in_c 0 rfl) rfl)) (hp183 _ _ ?_)
                    show GG _ _ _ _ _ _ _ _ [.int (Int32.ofInt 0), .ref (A 109)] _ _ _
                    refine g_if_eq 189 193 (gd rfl) rfl rfl (fun c186 => ?_) (fun c186 => ?_)
                    · skip
                      refine g_iconst 3 194 (gd rfl) rfl rfl ?_
                      refine g_putI 197 (gd rfl) rfl rfl rfl rfl ?_
                      have hI194 := inv_sF (q := 109) (j := 28) hI75 rfl (in_w (-2147483648) 2147483647 (in_c 3 rfl) rfl)
                      refine g_aload_n 198 (gd rfl) rfl rfl ?_
                      refine g_getI 201 (gd rfl) rfl rfl rfl (fun z198 e198 => ?_)
                      have q198 : (Int32.ofInt 3) = z198 := (sF_get).trans e198.symm
                      subst q198
                      refine g_iconst 3 202 (gd rfl) rfl rfl ?_
                      refine g_cmp_ne 205 220 (gd rfl) rfl rfl (fun c202 => ?_) (fun c202 => ?_)
                      · skip
                        exact n_ne c202 (in_c 3 rfl) (in_c 3 rfl) rfl
                      · skip
                        refine g_iload_n 206 (gd rfl) rfl rfl ?_
                        refine g_bipush 59 208 (gd rfl) rfl rfl ?_
                        refine g_cmp_eq 211 220 (gd rfl) rfl rfl (fun c208 => ?_) (fun c208 => ?_)
                        · skip
                          exact n_eq c208 i121x3 (in_c 59 rfl) rfl
                        · skip
                          refine g_aload_n 212 (gd rfl) rfl rfl ?_
                          refine g_iconst 1 213 (gd rfl) rfl rfl ?_
                          refine g_aload_n 214 (gd rfl) rfl rfl ?_
                          refine g_getI 217 (gd rfl) rfl rfl rfl (fun z214 e214 => ?_)
                          have q214 : w0_109_27 = z214 := (sF_ne rfl (sF_ne rfl (sF_get))).trans e214.symm
                          subst q214
                          refine g_callv (X := _) (As := [.int (Int32.ofInt 1), .int w0_109_27]) (r := []) (b := A 109) (q := 109) 220 (gd rfl) rfl rfl rfl rfl rfl (ww_o rfl) (Nat.le_of_ble_eq_true rfl) (Nat.zero_le _) (Nat.zero_le _) (f_298 (by first | exact dq1 hd rfl | exact dq0 hd rfl | exact dq2 hd rfl | exact dq3 hd rfl | omega) hI194 (in_w 1 5 (in_c 1 rfl) rfl) rfl) (fun e u h => h) (fun v u h => ?_)
                          obtain ⟨s217, hI217, hF217, n217, rfl, rfl, p217⟩ := h
                          obtain ⟨z217a, e217⟩ : ∃ w, w = s217.2.2.1 109 23 := ⟨_, rfl⟩
                          have i217a := inv_F hI217 0 9 rfl e217
                          rw [← (show z217a = s217.2.2.1 109 23 from e217)] at n217
                          show GG _ _ _ _ _ _ _ _ [] _ _ _
                          refine g_aload_n 221 (gd rfl) rfl rfl ?_
                          refine g_dup 222 (gd rfl) rfl rfl ?_
                          refine g_getI 225 (gd rfl) rfl rfl rfl (fun z222 e222 => ?_)
                          have q222 : w0_109_27 = z222 := (fr_F (s := (sF (sF (sF sc0 109 29 w0_109_27) 109 30 z71) 109 28 (Int32.ofInt 3))) (sF_ne rfl (sF_ne rfl (sF_ne rfl (v0_109_27)))) hF217 rfl).trans e222.symm
                          subst q222
                          refine g_iconst 1 226 (gd rfl) rfl rfl ?_
                          refine g_iadd 227 (gd rfl) rfl (fun z226 e226 => ?_)
                          have i226 := in_add 1 1000 e226 i71 (in_c 1 rfl) rfl rfl
                          refine g_putI 230 (gd rfl) rfl rfl rfl rfl ?_
                          have hI227 := inv_sF (q := 109) (j := 27) hI217 rfl (in_w 0 1000 i226 rfl)
                          have n230 : ∃ k v, TKN (s.1 125) (s.2.2.1 109 22).toInt.toNat (s.2.2.1 109 27).toInt.toNat ((sF s217 109 27 z226).2.2.1 109 29).toInt.toNat ((sF s217 109 27 z226).2.2.1 109 27).toInt.toNat k v ∧ NTK s (sF s217 109 27 z226) k v := by exfalso; have a0 := oa5 ro_109_22 i71 ((in_c 0 rfl)) i121x3 i226; have a5 := t_add e226 i71 (in_c 1 rfl) rfl; have a6 := oa3 ((in_c 1 rfl)) i217a ((in_c 3 rfl)); have oc := oc_299_109; omega
                          have n230a : (z226).toInt ≤ (u_109_22).toInt := by have a0 := oa5 ro_109_22 i71 ((in_c 0 rfl)) i121x3 i226; have a5 := t_add e226 i71 (in_c 1 rfl) rfl; have a6 := oa3 ((in_c 1 rfl)) i217a ((in_c 3 rfl)); have oc := oc_299_109; omega
                          have n230b : ((sF s217 109 27 z226).2.2.1 109 27).toInt ≤ ((sF s217 109 27 z226).2.2.1 109 22).toInt := by have b0 : z226 = (sF s217 109 27 z226).2.2.1 109 27 := sF_get; have b1 : u_109_22 = (sF s217 109 27 z226).2.2.1 109 22 := sF_ne rfl (fr_F (s := (sF (sF (sF sc0 109 29 w0_109_27) 109 30 z71) 109 28 (Int32.ofInt 3))) (sF_ne rfl (sF_ne rfl (sF_ne rfl (fr_F e_109_22 hFc0 rfl)))) hF217 rfl); rw [← b0, ← b1]; exact n230a
                          have n230c : (u_109_27).toInt ≤ (z226).toInt := by have a0 := oa5 ro_109_22 i71 ((in_c 0 rfl)) i121x3 i226; have a5 := t_add e226 i71 (in_c 1 rfl) rfl; have a6 := oa3 ((in_c 1 rfl)) i217a ((in_c 3 rfl)); have oc := oc_299_109; omega
                          have n230d : (s.2.2.1 109 27).toInt ≤ ((sF s217 109 27 z226).2.2.1 109 27).toInt := by have b0 : z226 = (sF s217 109 27 z226).2.2.1 109 27 := sF_get; first | (rw [← b0, ← e_109_27]; exact n230c) | (rw [← b0]; exact n230c)
                          have n230e : ((Int32.ofInt 3)).toInt ≠ 0 → (u_109_27).toInt + 1 ≤ (z226).toInt := by have a0 := oa5 ro_109_22 i71 ((in_c 0 rfl)) i121x3 i226; have a5 := t_add e226 i71 (in_c 1 rfl) rfl; have a6 := oa3 ((in_c 1 rfl)) i217a ((in_c 3 rfl)); have oc := oc_299_109; omega
                          have n230f : ((sF s217 109 27 z226).2.2.1 109 28).toInt ≠ 0 → (s.2.2.1 109 27).toInt + 1 ≤ ((sF s217 109 27 z226).2.2.1 109 27).toInt := by have b0 : (Int32.ofInt 3) = (sF s217 109 27 z226).2.2.1 109 28 := sF_ne rfl (fr_F (s := (sF (sF (sF sc0 109 29 w0_109_27) 109 30 z71) 109 28 (Int32.ofInt 3))) (sF_get) hF217 rfl); have b1 : z226 = (sF s217 109 27 z226).2.2.1 109 27 := sF_get; first | (rw [← b0, ← b1, ← e_109_27]; exact n230e) | (rw [← b0, ← b1]; exact n230e)
                          have n230g : ((Int32.ofInt 3)).toInt = 1 → 97 ≤ (z71).toInt := by exact fun h => absurd h (by decide)
                          have n230h : ((sF s217 109 27 z226).2.2.1 109 28).toInt = 1 → 97 ≤ ((sF s217 109 27 z226).2.2.1 109 30).toInt := by have b0 : (Int32.ofInt 3) = (sF s217 109 27 z226).2.2.1 109 28 := sF_ne rfl (fr_F (s := (sF (sF (sF sc0 109 29 w0_109_27) 109 30 z71) 109 28 (Int32.ofInt 3))) (sF_get) hF217 rfl); have b1 : z71 = (sF s217 109 27 z226).2.2.1 109 30 := sF_ne rfl (fr_F (s := (sF (sF (sF sc0 109 29 w0_109_27) 109 30 z71) 109 28 (Int32.ofInt 3))) (sF_ne rfl (sF_get)) hF217 rfl); rw [← b0, ← b1]; exact n230g
                          have n230i : ((Int32.ofInt 3)).toInt = 1 → (z71).toInt ≤ 122 := by exact fun h => absurd h (by decide)
                          have n230j : ((sF s217 109 27 z226).2.2.1 109 28).toInt = 1 → ((sF s217 109 27 z226).2.2.1 109 30).toInt ≤ 122 := by have b0 : (Int32.ofInt 3) = (sF s217 109 27 z226).2.2.1 109 28 := sF_ne rfl (fr_F (s := (sF (sF (sF sc0 109 29 w0_109_27) 109 30 z71) 109 28 (Int32.ofInt 3))) (sF_get) hF217 rfl); have b1 : z71 = (sF s217 109 27 z226).2.2.1 109 30 := sF_ne rfl (fr_F (s := (sF (sF (sF sc0 109 29 w0_109_27) 109 30 z71) 109 28 (Int32.ofInt 3))) (sF_ne rfl (sF_get)) hF217 rfl); rw [← b0, ← b1]; exact n230i
                          exact g_return (gd rfl) rfl (hP _ _ ⟨(sF s217 109 27 z226), hI227, (fr_sF rfl (fr_tr rfl (fr_sF rfl (fr_sF rfl (fr_sF rfl hFc0))) hF217)), n230b, n230d, n230f, n230h, n230j, rfl, rfl, n230⟩)
                    · skip
                      exact zn_ne c186 (in_c 0 rfl) rfl
                  · skip
                    exact n_le c183x3 (in_c 97 rfl) i121x3 rfl
                · skip
                  exact zn_ne c128 (in_c 0 rfl) rfl
            · skip
              have i121x3 := r_le2 48 126 c121x3 (in_c 48 rfl) i71a rfl
              refine g_iload_n 7 (gd rfl) rfl rfl ?_
              refine g_bipush 57 9 (gd rfl) rfl rfl ?_
              refine g_cmp_gt 12 16 (gd rfl) rfl rfl (fun c121x9 => ?_) (fun c121x9 => ?_)
              · skip
                have i121x9 := r_lt2 58 126 c121x9 (in_c 57 rfl) i121x3 rfl
                refine g_iconst 0 17 (gd rfl) rfl rfl ?_
                refine g_ireturn (gd rfl) rfl (nb01 (in_w 0 1 (in_c 0 rfl) rfl)) (hp121 _ _ ?_)
                show GG _ _ _ _ _ _ _ _ [.int (Int32.ofInt 0)] _ _ _
                refine g_if_ne 127 131 (gd rfl) rfl rfl (fun c124 => ?_) (fun c124 => ?_)
                · skip
                  exact zn_ne c124 (in_c 0 rfl) rfl
                · skip
                  refine g_iload_n 128 (gd rfl) rfl rfl ?_
                  refine g_if_eq 131 181 (gd rfl) rfl rfl (fun c128 => ?_) (fun c128 => ?_)
                  · skip
                    refine g_aload_n 182 (gd rfl) rfl rfl ?_
                    refine g_iload_n 183 (gd rfl) rfl rfl ?_
                    refine g_calls (As := [.int z71]) (r := [.ref (A 109)]) 186 (gd rfl) rfl rfl rfl rfl rfl (Nat.le_of_ble_eq_true rfl) (mc := 0) (ms := 0) (Nat.zero_le _) (Nat.zero_le _) (P := fun v u => _) ?_ (fun v u h => h)
                    intro po183 xx183 hp183 hx183
                    refine g_enter2 (k := 296) (N := 300) (by first | exact dq1 hd rfl | exact dq0 hd rfl | exact dq2 hd rfl | exact dq3 hd rfl | omega) rfl (Nat.le_of_ble_eq_true rfl) ?_
                    refine g_iload_n 1 (gd rfl) rfl rfl ?_
                    refine g_bipush 97 3 (gd rfl) rfl rfl ?_
                    refine g_cmp_lt 6 16 (gd rfl) rfl rfl (fun c183x3 => ?_) (fun c183x3 => ?_)
                    · skip
                      have i183x3 := r_lt1 58 96 c183x3 i121x9 (in_c 97 rfl) rfl
                      refine g_iconst 0 17 (gd rfl) rfl rfl ?_
                      refine g_ireturn (gd rfl) rfl (nb01 (in_w 0 1 (in_c 0 rfl) rfl)) (hp183 _ _ ?_)
                      show GG _ _ _ _ _ _ _ _ [.int (Int32.ofInt 0), .ref (A 109)] _ _ _
                      refine g_if_eq 189 193 (gd rfl) rfl rfl (fun c186 => ?_) (fun c186 => ?_)
                      · skip
                        refine g_iconst 3 194 (gd rfl) rfl rfl ?_
                        refine g_putI 197 (gd rfl) rfl rfl rfl rfl ?_
                        have hI194 := inv_sF (q := 109) (j := 28) hI75 rfl (in_w (-2147483648) 2147483647 (in_c 3 rfl) rfl)
                        refine g_aload_n 198 (gd rfl) rfl rfl ?_
                        refine g_getI 201 (gd rfl) rfl rfl rfl (fun z198 e198 => ?_)
                        have q198 : (Int32.ofInt 3) = z198 := (sF_get).trans e198.symm
                        subst q198
                        refine g_iconst 3 202 (gd rfl) rfl rfl ?_
                        refine g_cmp_ne 205 220 (gd rfl) rfl rfl (fun c202 => ?_) (fun c202 => ?_)
                        · skip
                          exact n_ne c202 (in_c 3 rfl) (in_c 3 rfl) rfl
                        · skip
                          refine g_iload_n 206 (gd rfl) rfl rfl ?_
                          refine g_bipush 59 208 (gd rfl) rfl rfl ?_
                          refine g_cmp_eq 211 220 (gd rfl) rfl rfl (fun c208 => ?_) (fun c208 => ?_)
                          · skip
                            have i208 := r_eq1 59 59 c208 i183x3 (in_c 59 rfl) rfl
                            refine g_aload_n 221 (gd rfl) rfl rfl ?_
                            refine g_dup 222 (gd rfl) rfl rfl ?_
                            refine g_getI 225 (gd rfl) rfl rfl rfl (fun z222 e222 => ?_)
                            have q222 : w0_109_27 = z222 := (sF_ne rfl (sF_ne rfl (sF_ne rfl (v0_109_27)))).trans e222.symm
                            subst q222
                            refine g_iconst 1 226 (gd rfl) rfl rfl ?_
                            refine g_iadd 227 (gd rfl) rfl (fun z226 e226 => ?_)
                            have i226 := in_add 1 1000 e226 i71 (in_c 1 rfl) rfl rfl
                            refine g_putI 230 (gd rfl) rfl rfl rfl rfl ?_
                            have hI227 := inv_sF (q := 109) (j := 27) hI194 rfl (in_w 0 1000 i226 rfl)
                            have n230 : ∃ k v, TKN (s.1 125) (s.2.2.1 109 22).toInt.toNat (s.2.2.1 109 27).toInt.toNat ((sF (sF (sF (sF sc0 109 29 w0_109_27) 109 30 z71) 109 28 (Int32.ofInt 3)) 109 27 z226).2.2.1 109 29).toInt.toNat ((sF (sF (sF (sF sc0 109 29 w0_109_27) 109 30 z71) 109 28 (Int32.ofInt 3)) 109 27 z226).2.2.1 109 27).toInt.toNat k v ∧ NTK s (sF (sF (sF (sF sc0 109 29 w0_109_27) 109 30 z71) 109 28 (Int32.ofInt 3)) 109 27 z226) k v := by exfalso; have a0 := oa5 ro_109_22 i71 ((in_c 0 rfl)) i208 i226; have a5 := t_add e226 i71 (in_c 1 rfl) rfl; have a6 := oa2 ((in_c 1 rfl)) ((in_c 3 rfl)); have oc := oc_299_109; omega
                            have n230a : (z226).toInt ≤ (u_109_22).toInt := by have a0 := oa5 ro_109_22 i71 ((in_c 0 rfl)) i208 i226; have a5 := t_add e226 i71 (in_c 1 rfl) rfl; have a6 := oa2 ((in_c 1 rfl)) ((in_c 3 rfl)); have oc := oc_299_109; omega
                            have n230b : ((sF (sF (sF (sF sc0 109 29 w0_109_27) 109 30 z71) 109 28 (Int32.ofInt 3)) 109 27 z226).2.2.1 109 27).toInt ≤ ((sF (sF (sF (sF sc0 109 29 w0_109_27) 109 30 z71) 109 28 (Int32.ofInt 3)) 109 27 z226).2.2.1 109 22).toInt := by have b0 : z226 = (sF (sF (sF (sF sc0 109 29 w0_109_27) 109 30 z71) 109 28 (Int32.ofInt 3)) 109 27 z226).2.2.1 109 27 := sF_get; have b1 : u_109_22 = (sF (sF (sF (sF sc0 109 29 w0_109_27) 109 30 z71) 109 28 (Int32.ofInt 3)) 109 27 z226).2.2.1 109 22 := sF_ne rfl (sF_ne rfl (sF_ne rfl (sF_ne rfl (fr_F e_109_22 hFc0 rfl)))); rw [← b0, ← b1]; exact n230a
                            have n230c : (u_109_27).toInt ≤ (z226).toInt := by have a0 := oa5 ro_109_22 i71 ((in_c 0 rfl)) i208 i226; have a5 := t_add e226 i71 (in_c 1 rfl) rfl; have a6 := oa2 ((in_c 1 rfl)) ((in_c 3 rfl)); have oc := oc_299_109; omega
                            have n230d : (s.2.2.1 109 27).toInt ≤ ((sF (sF (sF (sF sc0 109 29 w0_109_27) 109 30 z71) 109 28 (Int32.ofInt 3)) 109 27 z226).2.2.1 109 27).toInt := by have b0 : z226 = (sF (sF (sF (sF sc0 109 29 w0_109_27) 109 30 z71) 109 28 (Int32.ofInt 3)) 109 27 z226).2.2.1 109 27 := sF_get; first | (rw [← b0, ← e_109_27]; exact n230c) | (rw [← b0]; exact n230c)
                            have n230e : ((Int32.ofInt 3)).toInt ≠ 0 → (u_109_27).toInt + 1 ≤ (z226).toInt := by have a0 := oa5 ro_109_22 i71 ((in_c 0 rfl)) i208 i226; have a5 := t_add e226 i71 (in_c 1 rfl) rfl; have a6 := oa2 ((in_c 1 rfl)) ((in_c 3 rfl)); have oc := oc_299_109; omega
                            have n230f : ((sF (sF (sF (sF sc0 109 29 w0_109_27) 109 30 z71) 109 28 (Int32.ofInt 3)) 109 27 z226).2.2.1 109 28).toInt ≠ 0 → (s.2.2.1 109 27).toInt + 1 ≤ ((sF (sF (sF (sF sc0 109 29 w0_109_27) 109 30 z71) 109 28 (Int32.ofInt 3)) 109 27 z226).2.2.1 109 27).toInt := by have b0 : (Int32.ofInt 3) = (sF (sF (sF (sF sc0 109 29 w0_109_27) 109 30 z71) 109 28 (Int32.ofInt 3)) 109 27 z226).2.2.1 109 28 := sF_ne rfl (sF_get); have b1 : z226 = (sF (sF (sF (sF sc0 109 29 w0_109_27) 109 30 z71) 109 28 (Int32.ofInt 3)) 109 27 z226).2.2.1 109 27 := sF_get; first | (rw [← b0, ← b1, ← e_109_27]; exact n230e) | (rw [← b0, ← b1]; exact n230e)
                            have n230g : ((Int32.ofInt 3)).toInt = 1 → 97 ≤ (z71).toInt := by exact fun h => absurd h (by decide)
                            have n230h : ((sF (sF (sF (sF sc0 109 29 w0_109_27) 109 30 z71) 109 28 (Int32.ofInt 3)) 109 27 z226).2.2.1 109 28).toInt = 1 → 97 ≤ ((sF (sF (sF (sF sc0 109 29 w0_109_27) 109 30 z71) 109 28 (Int32.ofInt 3)) 109 27 z226).2.2.1 109 30).toInt := by have b0 : (Int32.ofInt 3) = (sF (sF (sF (sF sc0 109 29 w0_109_27) 109 30 z71) 109 28 (Int32.ofInt 3)) 109 27 z226).2.2.1 109 28 := sF_ne rfl (sF_get); have b1 : z71 = (sF (sF (sF (sF sc0 109 29 w0_109_27) 109 30 z71) 109 28 (Int32.ofInt 3)) 109 27 z226).2.2.1 109 30 := sF_ne rfl (sF_ne rfl (sF_get)); rw [← b0, ← b1]; exact n230g
                            have n230i : ((Int32.ofInt 3)).toInt = 1 → (z71).toInt ≤ 122 := by exact fun h => absurd h (by decide)
                            have n230j : ((sF (sF (sF (sF sc0 109 29 w0_109_27) 109 30 z71) 109 28 (Int32.ofInt 3)) 109 27 z226).2.2.1 109 28).toInt = 1 → ((sF (sF (sF (sF sc0 109 29 w0_109_27) 109 30 z71) 109 28 (Int32.ofInt 3)) 109 27 z226).2.2.1 109 30).toInt ≤ 122 := by have b0 : (Int32.ofInt 3) = (sF (sF (sF (sF sc0 109 29 w0_109_27) 109 30 z71) 109 28 (Int32.ofInt 3)) 109 27 z226).2.2.1 109 28 := sF_ne rfl (sF_get); have b1 : z71 = (sF (sF (sF (sF sc0 109 29 w0_109_27) 109 30 z71) 109 28 (Int32.ofInt 3)) 109 27 z226).2.2.1 109 30 := sF_ne rfl (sF_ne rfl (sF_get)); rw [← b0, ← b1]; exact n230i
                            exact g_return (gd rfl) rfl (hP _ _ ⟨(sF (sF (sF (sF sc0 109 29 w0_109_27) 109 30 z71) 109 28 (Int32.ofInt 3)) 109 27 z226), hI227, (fr_sF rfl (fr_sF rfl (fr_sF rfl (fr_sF rfl hFc0)))), n230b, n230d, n230f, n230h, n230j, rfl, rfl, n230⟩)
                          · skip
                            refine g_aload_n 212 (gd rfl) rfl rfl ?_
                            refine g_iconst 1 213 (gd rfl) rfl rfl ?_
                            refine g_aload_n 214 (gd rfl) rfl rfl ?_
                            refine g_getI 217 (gd rfl) rfl rfl rfl (fun z214 e214 => ?_)
                            have q214 : w0_109_27 = z214 := (sF_ne rfl (sF_ne rfl (sF_get))).trans e214.symm
                            subst q214
                            refine g_callv (X := _) (As := [.int (Int32.ofInt 1), .int w0_109_27]) (r := []) (b := A 109) (q := 109) 220 (gd rfl) rfl rfl rfl rfl rfl (ww_o rfl) (Nat.le_of_ble_eq_true rfl) (Nat.zero_le _) (Nat.zero_le _) (f_298 (by first | exact dq1 hd rfl | exact dq0 hd rfl | exact dq2 hd rfl | exact dq3 hd rfl | omega) hI194 (in_w 1 5 (in_c 1 rfl) rfl) rfl) (fun e u h => h) (fun v u h => ?_)
                            obtain ⟨s217, hI217, hF217, n217, rfl, rfl, p217⟩ := h
                            obtain ⟨z217a, e217⟩ : ∃ w, w = s217.2.2.1 109 23 := ⟨_, rfl⟩
                            have i217a := inv_F hI217 0 9 rfl e217
                            rw [← (show z217a = s217.2.2.1 109 23 from e217)] at n217
                            show GG _ _ _ _ _ _ _ _ [] _ _ _
                            refine g_aload_n 221 (gd rfl) rfl rfl ?_
                            refine g_dup 222 (gd rfl) rfl rfl ?_
                            refine g_getI 225 (gd rfl) rfl rfl rfl (fun z222 e222 => ?_)
                            have q222 : w0_109_27 = z222 := (fr_F (s := (sF (sF (sF sc0 109 29 w0_109_27) 109 30 z71) 109 28 (Int32.ofInt 3))) (sF_ne rfl (sF_ne rfl (sF_ne rfl (v0_109_27)))) hF217 rfl).trans e222.symm
                            subst q222
                            refine g_iconst 1 226 (gd rfl) rfl rfl ?_
                            refine g_iadd 227 (gd rfl) rfl (fun z226 e226 => ?_)
                            have i226 := in_add 1 1000 e226 i71 (in_c 1 rfl) rfl rfl
                            refine g_putI 230 (gd rfl) rfl rfl rfl rfl ?_
                            have hI227 := inv_sF (q := 109) (j := 27) hI217 rfl (in_w 0 1000 i226 rfl)
                            have n230 : ∃ k v, TKN (s.1 125) (s.2.2.1 109 22).toInt.toNat (s.2.2.1 109 27).toInt.toNat ((sF s217 109 27 z226).2.2.1 109 29).toInt.toNat ((sF s217 109 27 z226).2.2.1 109 27).toInt.toNat k v ∧ NTK s (sF s217 109 27 z226) k v := by exfalso; have a0 := oa5 ro_109_22 i71 ((in_c 0 rfl)) i183x3 i226; have a5 := t_add e226 i71 (in_c 1 rfl) rfl; have a6 := oa3 ((in_c 1 rfl)) i217a ((in_c 3 rfl)); have oc := oc_299_109; omega
                            have n230a : (z226).toInt ≤ (u_109_22).toInt := by have a0 := oa5 ro_109_22 i71 ((in_c 0 rfl)) i183x3 i226; have a5 := t_add e226 i71 (in_c 1 rfl) rfl; have a6 := oa3 ((in_c 1 rfl)) i217a ((in_c 3 rfl)); have oc := oc_299_109; omega
                            have n230b : ((sF s217 109 27 z226).2.2.1 109 27).toInt ≤ ((sF s217 109 27 z226).2.2.1 109 22).toInt := by have b0 : z226 = (sF s217 109 27 z226).2.2.1 109 27 := sF_get; have b1 : u_109_22 = (sF s217 109 27 z226).2.2.1 109 22 := sF_ne rfl (fr_F (s := (sF (sF (sF sc0 109 29 w0_109_27) 109 30 z71) 109 28 (Int32.ofInt 3))) (sF_ne rfl (sF_ne rfl (sF_ne rfl (fr_F e_109_22 hFc0 rfl)))) hF217 rfl); rw [← b0, ← b1]; exact n230a
                            have n230c : (u_109_27).toInt ≤ (z226).toInt := by have a0 := oa5 ro_109_22 i71 ((in_c 0 rfl)) i183x3 i226; have a5 := t_add e226 i71 (in_c 1 rfl) rfl; have a6 := oa3 ((in_c 1 rfl)) i217a ((in_c 3 rfl)); have oc := oc_299_109; omega
                            have n230d : (s.2.2.1 109 27).toInt ≤ ((sF s217 109 27 z226).2.2.1 109 27).toInt := by have b0 : z226 = (sF s217 109 27 z226).2.2.1 109 27 := sF_get; first | (rw [← b0, ← e_109_27]; exact n230c) | (rw [← b0]; exact n230c)
                            have n230e : ((Int32.ofInt 3)).toInt ≠ 0 → (u_109_27).toInt + 1 ≤ (z226).toInt := by have a0 := oa5 ro_109_22 i71 ((in_c 0 rfl)) i183x3 i226; have a5 := t_add e226 i71 (in_c 1 rfl) rfl; have a6 := oa3 ((in_c 1 rfl)) i217a ((in_c 3 rfl)); have oc := oc_299_109; omega
                            have n230f : ((sF s217 109 27 z226).2.2.1 109 28).toInt ≠ 0 → (s.2.2.1 109 27).toInt + 1 ≤ ((sF s217 109 27 z226).2.2.1 109 27).toInt := by have b0 : (Int32.ofInt 3) = (sF s217 109 27 z226).2.2.1 109 28 := sF_ne rfl (fr_F (s := (sF (sF (sF sc0 109 29 w0_109_27) 109 30 z71) 109 28 (Int32.ofInt 3))) (sF_get) hF217 rfl); have b1 : z226 = (sF s217 109 27 z226).2.2.1 109 27 := sF_get; first | (rw [← b0, ← b1, ← e_109_27]; exact n230e) | (rw [← b0, ← b1]; exact n230e)
                            have n230g : ((Int32.ofInt 3)).toInt = 1 → 97 ≤ (z71).toInt := by exact fun h => absurd h (by decide)
                            have n230h : ((sF s217 109 27 z226).2.2.1 109 28).toInt = 1 → 97 ≤ ((sF s217 109 27 z226).2.2.1 109 30).toInt := by have b0 : (Int32.ofInt 3) = (sF s217 109 27 z226).2.2.1 109 28 := sF_ne rfl (fr_F (s := (sF (sF (sF sc0 109 29 w0_109_27) 109 30 z71) 109 28 (Int32.ofInt 3))) (sF_get) hF217 rfl); have b1 : z71 = (sF s217 109 27 z226).2.2.1 109 30 := sF_ne rfl (fr_F (s := (sF (sF (sF sc0 109 29 w0_109_27) 109 30 z71) 109 28 (Int32.ofInt 3))) (sF_ne rfl (sF_get)) hF217 rfl); rw [← b0, ← b1]; exact n230g
                            have n230i : ((Int32.ofInt 3)).toInt = 1 → (z71).toInt ≤ 122 := by exact fun h => absurd h (by decide)
                            have n230j : ((sF s217 109 27 z226).2.2.1 109 28).toInt = 1 → ((sF s217 109 27 z226).2.2.1 109 30).toInt ≤ 122 := by have b0 : (Int32.ofInt 3) = (sF s217 109 27 z226).2.2.1 109 28 := sF_ne rfl (fr_F (s := (sF (sF (sF sc0 109 29 w0_109_27) 109 30 z71) 109 28 (Int32.ofInt 3))) (sF_get) hF217 rfl); have b1 : z71 = (sF s217 109 27 z226).2.2.1 109 30 := sF_ne rfl (fr_F (s := (sF (sF (sF sc0 109 29 w0_109_27) 109 30 z71) 109 28 (Int32.ofInt 3))) (sF_ne rfl (sF_get)) hF217 rfl); rw [← b0, ← b1]; exact n230i
                            exact g_return (gd rfl) rfl (hP _ _ ⟨(sF s217 109 27 z226), hI227, (fr_sF rfl (fr_tr rfl (fr_sF rfl (fr_sF rfl (fr_sF rfl hFc0))) hF217)), n230b, n230d, n230f, n230h, n230j, rfl, rfl, n230⟩)
                      · skip
                        exact zn_ne c186 (in_c 0 rfl) rfl
                    · skip
                      have i183x3 := r_le2 97 126 c183x3 (in_c 97 rfl) i121x9 rfl
                      refine g_iload_n 7 (gd rfl) rfl rfl ?_
                      refine g_bipush 122 9 (gd rfl) rfl rfl ?_
                      refine g_cmp_gt 12 16 (gd rfl) rfl rfl (fun c183x9 => ?_) (fun c183x9 => ?_)
                      · skip
                        have i183x9 := r_lt2 123 126 c183x9 (in_c 122 rfl) i183x3 rfl
                        refine g_iconst 0 17 (gd rfl) rfl rfl ?_
                        refine g_ireturn (gd rfl) rfl (nb01 (in_w 0 1 (in_c 0 rfl) rfl)) (hp183 _ _ ?_)
                        show GG _ _ _ _ _ _ _ _ [.int (Int32.ofInt 0), .ref (A 109)] _ _ _
                        refine g_if_eq 189 193 (gd rfl) rfl rfl (fun c186 => ?_) (fun c186 => ?_)
                        · skip
                          refine g_iconst 3 194 (gd rfl) rfl rfl ?_
                          refine g_putI 197 (gd rfl) rfl rfl rfl rfl ?_
                          have hI194 := inv_sF (q := 109) (j := 28) hI75 rfl (in_w (-2147483648) 2147483647 (in_c 3 rfl) rfl)
                          refine g_aload_n 198 (gd rfl) rfl rfl ?_
                          refine g_getI 201 (gd rfl) rfl rfl rfl (fun z198 e198 => ?_)
                          have q198 : (Int32.ofInt 3) = z198 := (sF_get).trans e198.symm
                          subst q198
                          refine g_iconst 3 202 (gd rfl) rfl rfl ?_
                          refine g_cmp_ne 205 220 (gd rfl) rfl rfl (fun c202 => ?_) (fun c202 => ?_)
                          · skip
                            exact n_ne c202 (in_c 3 rfl) (in_c 3 rfl) rfl
                          · skip
                            refine g_iload_n 206 (gd rfl) rfl rfl ?_
                            refine g_bipush 59 208 (gd rfl) rfl rfl ?_
                            refine g_cmp_eq 211 220 (gd rfl) rfl rfl (fun c208 => ?_) (fun c208 => ?_)
                            · skip
                              exact n_eq c208 i183x9 (in_c 59 rfl) rfl
                            · skip
                              refine g_aload_n 212 (gd rfl) rfl rfl ?_
                              refine g_iconst 1 213 (gd rfl) rfl rfl ?_
                              refine g_aload_n 214 (gd rfl) rfl rfl ?_
                              refine g_getI 217 (gd rfl) rfl rfl rfl (fun z214 e214 => ?_)
                              have q214 : w0_109_27 = z214 := (sF_ne rfl (sF_ne rfl (sF_get))).trans e214.symm
                              subst q214
                              refine g_callv (X := _) (As := [.int (Int32.ofInt 1), .int w0_109_27]) (r := []) (b := A 109) (q := 109) 220 (gd rfl) rfl rfl rfl rfl rfl (ww_o rfl) (Nat.le_of_ble_eq_true rfl) (Nat.zero_le _) (Nat.zero_le _) (f_298 (by first | exact dq1 hd rfl | exact dq0 hd rfl | exact dq2 hd rfl | exact dq3 hd rfl | omega) hI194 (in_w 1 5 (in_c 1 rfl) rfl) rfl) (fun e u h => h) (fun v u h => ?_)
                              obtain ⟨s217, hI217, hF217, n217, rfl, rfl, p217⟩ := h
                              obtain ⟨z217a, e217⟩ : ∃ w, w = s217.2.2.1 109 23 := ⟨_, rfl⟩
                              have i217a := inv_F hI217 0 9 rfl e217
                              rw [← (show z217a = s217.2.2.1 109 23 from e217)] at n217
                              show GG _ _ _ _ _ _ _ _ [] _ _ _
                              refine g_aload_n 221 (gd rfl) rfl rfl ?_
                              refine g_dup 222 (gd rfl) rfl rfl ?_
                              refine g_getI 225 (gd rfl) rfl rfl rfl (fun z222 e222 => ?_)
                              have q222 : w0_109_27 = z222 := (fr_F (s := (sF (sF (sF sc0 109 29 w0_109_27) 109 30 z71) 109 28 (Int32.ofInt 3))) (sF_ne rfl (sF_ne rfl (sF_ne rfl (v0_109_27)))) hF217 rfl).trans e222.symm
                              subst q222
                              refine g_iconst 1 226 (gd rfl) rfl rfl ?_
                              refine g_iadd 227 (gd rfl) rfl (fun z226 e226 => ?_)
                              have i226 := in_add 1 1000 e226 i71 (in_c 1 rfl) rfl rfl
                              refine g_putI 230 (gd rfl) rfl rfl rfl rfl ?_
                              have hI227 := inv_sF (q := 109) (j := 27) hI217 rfl (in_w 0 1000 i226 rfl)
                              have n230 : ∃ k v, TKN (s.1 125) (s.2.2.1 109 22).toInt.toNat (s.2.2.1 109 27).toInt.toNat ((sF s217 109 27 z226).2.2.1 109 29).toInt.toNat ((sF s217 109 27 z226).2.2.1 109 27).toInt.toNat k v ∧ NTK s (sF s217 109 27 z226) k v := by exfalso; have a0 := oa5 ro_109_22 i71 ((in_c 0 rfl)) i183x9 i226; have a5 := t_add e226 i71 (in_c 1 rfl) rfl; have a6 := oa3 ((in_c 1 rfl)) i217a ((in_c 3 rfl)); have oc := oc_299_109; omega
                              have n230a : (z226).toInt ≤ (u_109_22).toInt := by have a0 := oa5 ro_109_22 i71 ((in_c 0 rfl)) i183x9 i226; have a5 := t_add e226 i71 (in_c 1 rfl) rfl; have a6 := oa3 ((in_c 1 rfl)) i217a ((in_c 3 rfl)); have oc := oc_299_109; omega
                              have n230b : ((sF s217 109 27 z226).2.2.1 109 27).toInt ≤ ((sF s217 109 27 z226).2.2.1 109 22).toInt := by have b0 : z226 = (sF s217 109 27 z226).2.2.1 109 27 := sF_get; have b1 : u_109_22 = (sF s217 109 27 z226).2.2.1 109 22 := sF_ne rfl (fr_F (s := (sF (sF (sF sc0 109 29 w0_109_27) 109 30 z71) 109 28 (Int32.ofInt 3))) (sF_ne rfl (sF_ne rfl (sF_ne rfl (fr_F e_109_22 hFc0 rfl)))) hF217 rfl); rw [← b0, ← b1]; exact n230a
                              have n230c : (u_109_27).toInt ≤ (z226).toInt := by have a0 := oa5 ro_109_22 i71 ((in_c 0 rfl)) i183x9 i226; have a5 := t_add e226 i71 (in_c 1 rfl) rfl; have a6 := oa3 ((in_c 1 rfl)) i217a ((in_c 3 rfl)); have oc := oc_299_109; omega
                              have n230d : (s.2.2.1 109 27).toInt ≤ ((sF s217 109 27 z226).2.2.1 109 27).toInt := by have b0 : z226 = (sF s217 109 27 z226).2.2.1 109 27 := sF_get; first | (rw [← b0, ← e_109_27]; exact n230c) | (rw [← b0]; exact n230c)
                              have n230e : ((Int32.ofInt 3)).toInt ≠ 0 → (u_109_27).toInt + 1 ≤ (z226).toInt := by have a0 := oa5 ro_109_22 i71 ((in_c 0 rfl)) i183x9 i226; have a5 := t_add e226 i71 (in_c 1 rfl) rfl; have a6 := oa3 ((in_c 1 rfl)) i217a ((in_c 3 rfl)); have oc := oc_299_109; omega
                              have n230f : ((sF s217 109 27 z226).2.2.1 109 28).toInt ≠ 0 → (s.2.2.1 109 27).toInt + 1 ≤ ((sF s217 109 27 z226).2.2.1 109 27).toInt := by have b0 : (Int32.ofInt 3) = (sF s217 109 27 z226).2.2.1 109 28 := sF_ne rfl (fr_F (s := (sF (sF (sF sc0 109 29 w0_109_27) 109 30 z71) 109 28 (Int32.ofInt 3))) (sF_get) hF217 rfl); have b1 : z226 = (sF s217 109 27 z226).2.2.1 109 27 := sF_get; first | (rw [← b0, ← b1, ← e_109_27]; exact n230e) | (rw [← b0, ← b1]; exact n230e)
                              have n230g : ((Int32.ofInt 3)).toInt = 1 → 97 ≤ (z71).toInt := by exact fun h => absurd h (by decide)
                              have n230h : ((sF s217 109 27 z226).2.2.1 109 28).toInt = 1 → 97 ≤ ((sF s217 109 27 z226).2.2.1 109 30).toInt := by have b0 : (Int32.ofInt 3) = (sF s217 109 27 z226).2.2.1 109 28 := sF_ne rfl (fr_F (s := (sF (sF (sF sc0 109 29 w0_109_27) 109 30 z71) 109 28 (Int32.ofInt 3))) (sF_get) hF217 rfl); have b1 : z71 = (sF s217 109 27 z226).2.2.1 109 30 := sF_ne rfl (fr_F (s := (sF (sF (sF sc0 109 29 w0_109_27) 109 30 z71) 109 28 (Int32.ofInt 3))) (sF_ne rfl (sF_get)) hF217 rfl); rw [← b0, ← b1]; exact n230g
                              have n230i : ((Int32.ofInt 3)).toInt = 1 → (z71).toInt ≤ 122 := by exact fun h => absurd h (by decide)
                              have n230j : ((sF s217 109 27 z226).2.2.1 109 28).toInt = 1 → ((sF s217 109 27 z226).2.2.1 109 30).toInt ≤ 122 := by have b0 : (Int32.ofInt 3) = (sF s217 109 27 z226).2.2.1 109 28 := sF_ne rfl (fr_F (s := (sF (sF (sF sc0 109 29 w0_109_27) 109 30 z71) 109 28 (Int32.ofInt 3))) (sF_get) hF217 rfl); have b1 : z71 = (sF s217 109 27 z226).2.2.1 109 30 := sF_ne rfl (fr_F (s := (sF (sF (sF sc0 109 29 w0_109_27) 109 30 z71) 109 28 (Int32.ofInt 3))) (sF_ne rfl (sF_get)) hF217 rfl); rw [← b0, ← b1]; exact n230i
                              exact g_return (gd rfl) rfl (hP _ _ ⟨(sF s217 109 27 z226), hI227, (fr_sF rfl (fr_tr rfl (fr_sF rfl (fr_sF rfl (fr_sF rfl hFc0))) hF217)), n230b, n230d, n230f, n230h, n230j, rfl, rfl, n230⟩)
                        · skip
                          exact zn_ne c186 (in_c 0 rfl) rfl
                      · skip
                        have i183x9 := r_le1 97 122 c183x9 i183x3 (in_c 122 rfl) rfl
                        refine g_iconst 1 13 (gd rfl) rfl rfl ?_
                        refine g_goto 17 (gd rfl) rfl ?_
                        refine g_ireturn (gd rfl) rfl (nb01 (in_w 0 1 (in_c 1 rfl) rfl)) (hp183 _ _ ?_)
                        show GG _ _ _ _ _ _ _ _ [.int (Int32.ofInt 1), .ref (A 109)] _ _ _
                        refine g_if_eq 189 193 (gd rfl) rfl rfl (fun c186 => ?_) (fun c186 => ?_)
                        · skip
                          exact zn_eq c186 (in_c 1 rfl) rfl
                        · skip
                          refine g_iconst 1 190 (gd rfl) rfl rfl ?_
                          refine g_goto 194 (gd rfl) rfl ?_
                          refine g_putI 197 (gd rfl) rfl rfl rfl rfl ?_
                          have hI194 := inv_sF (q := 109) (j := 28) hI75 rfl (in_w (-2147483648) 2147483647 (in_c 1 rfl) rfl)
                          refine g_aload_n 198 (gd rfl) rfl rfl ?_
                          refine g_getI 201 (gd rfl) rfl rfl rfl (fun z198 e198 => ?_)
                          have q198 : (Int32.ofInt 1) = z198 := (sF_get).trans e198.symm
                          subst q198
                          refine g_iconst 3 202 (gd rfl) rfl rfl ?_
                          refine g_cmp_ne 205 220 (gd rfl) rfl rfl (fun c202 => ?_) (fun c202 => ?_)
                          · skip
                            refine g_aload_n 221 (gd rfl) rfl rfl ?_
                            refine g_dup 222 (gd rfl) rfl rfl ?_
                            refine g_getI 225 (gd rfl) rfl rfl rfl (fun z222 e222 => ?_)
                            have q222 : w0_109_27 = z222 := (sF_ne rfl (sF_ne rfl (sF_ne rfl (v0_109_27)))).trans e222.symm
                            subst q222
                            refine g_iconst 1 226 (gd rfl) rfl rfl ?_
                            refine g_iadd 227 (gd rfl) rfl (fun z226 e226 => ?_)
                            have i226 := in_add 1 1000 e226 i71 (in_c 1 rfl) rfl rfl
                            refine g_putI 230 (gd rfl) rfl rfl rfl rfl ?_
                            have hI227 := inv_sF (q := 109) (j := 27) hI194 rfl (in_w 0 1000 i226 rfl)
                            have n230 : ∃ k v, TKN (s.1 125) (s.2.2.1 109 22).toInt.toNat (s.2.2.1 109 27).toInt.toNat ((sF (sF (sF (sF sc0 109 29 w0_109_27) 109 30 z71) 109 28 (Int32.ofInt 1)) 109 27 z226).2.2.1 109 29).toInt.toNat ((sF (sF (sF (sF sc0 109 29 w0_109_27) 109 30 z71) 109 28 (Int32.ofInt 1)) 109 27 z226).2.2.1 109 27).toInt.toNat k v ∧ NTK s (sF (sF (sF (sF sc0 109 29 w0_109_27) 109 30 z71) 109 28 (Int32.ofInt 1)) 109 27 z226) k v := by exfalso; have a0 := oa5 ro_109_22 i71 ((in_c 0 rfl)) i183x9 i226; have a5 := t_add e226 i71 (in_c 1 rfl) rfl; have a6 := in_u ((in_c 1 rfl)); have oc := oc_299_109; omega
                            have n230a : (z226).toInt ≤ (u_109_22).toInt := by have a0 := oa5 ro_109_22 i71 ((in_c 0 rfl)) i183x9 i226; have a5 := t_add e226 i71 (in_c 1 rfl) rfl; have a6 := in_u ((in_c 1 rfl)); have oc := oc_299_109; omega
                            have n230b : ((sF (sF (sF (sF sc0 109 29 w0_109_27) 109 30 z71) 109 28 (Int32.ofInt 1)) 109 27 z226).2.2.1 109 27).toInt ≤ ((sF (sF (sF (sF sc0 109 29 w0_109_27) 109 30 z71) 109 28 (Int32.ofInt 1)) 109 27 z226).2.2.1 109 22).toInt := by have b0 : z226 = (sF (sF (sF (sF sc0 109 29 w0_109_27) 109 30 z71) 109 28 (Int32.ofInt 1)) 109 27 z226).2.2.1 109 27 := sF_get; have b1 : u_109_22 = (sF (sF (sF (sF sc0 109 29 w0_109_27) 109 30 z71) 109 28 (Int32.ofInt 1)) 109 27 z226).2.2.1 109 22 := sF_ne rfl (sF_ne rfl (sF_ne rfl (sF_ne rfl (fr_F e_109_22 hFc0 rfl)))); rw [← b0, ← b1]; exact n230a
                            have n230c : (u_109_27).toInt ≤ (z226).toInt := by have a0 := oa5 ro_109_22 i71 ((in_c 0 rfl)) i183x9 i226; have a5 := t_add e226 i71 (in_c 1 rfl) rfl; have a6 := in_u ((in_c 1 rfl)); have oc := oc_299_109; omega
                            have n230d : (s.2.2.1 109 27).toInt ≤ ((sF (sF (sF (sF sc0 109 29 w0_109_27) 109 30 z71) 109 28 (Int32.ofInt 1)) 109 27 z226).2.2.1 109 27).toInt := by have b0 : z226 = (sF (sF (sF (sF sc0 109 29 w0_109_27) 109 30 z71) 109 28 (Int32.ofInt 1)) 109 27 z226).2.2.1 109 27 := sF_get; first | (rw [← b0, ← e_109_27]; exact n230c) | (rw [← b0]; exact n230c)
                            have n230e : ((Int32.ofInt 1)).toInt ≠ 0 → (u_109_27).toInt + 1 ≤ (z226).toInt := by have a0 := oa5 ro_109_22 i71 ((in_c 0 rfl)) i183x9 i226; have a5 := t_add e226 i71 (in_c 1 rfl) rfl; have a6 := in_u ((in_c 1 rfl)); have oc := oc_299_109; omega
                            have n230f : ((sF (sF (sF (sF sc0 109 29 w0_109_27) 109 30 z71) 109 28 (Int32.ofInt 1)) 109 27 z226).2.2.1 109 28).toInt ≠ 0 → (s.2.2.1 109 27).toInt + 1 ≤ ((sF (sF (sF (sF sc0 109 29 w0_109_27) 109 30 z71) 109 28 (Int32.ofInt 1)) 109 27 z226).2.2.1 109 27).toInt := by have b0 : (Int32.ofInt 1) = (sF (sF (sF (sF sc0 109 29 w0_109_27) 109 30 z71) 109 28 (Int32.ofInt 1)) 109 27 z226).2.2.1 109 28 := sF_ne rfl (sF_get); have b1 : z226 = (sF (sF (sF (sF sc0 109 29 w0_109_27) 109 30 z71) 109 28 (Int32.ofInt 1)) 109 27 z226).2.2.1 109 27 := sF_get; first | (rw [← b0, ← b1, ← e_109_27]; exact n230e) | (rw [← b0, ← b1]; exact n230e)
                            have n230g : ((Int32.ofInt 1)).toInt = 1 → 97 ≤ (z71).toInt := by have a0 := oa5 ro_109_22 i71 ((in_c 0 rfl)) i183x9 i226; have a5 := t_add e226 i71 (in_c 1 rfl) rfl; have a6 := in_u ((in_c 1 rfl)); have oc := oc_299_109; omega
                            have n230h : ((sF (sF (sF (sF sc0 109 29 w0_109_27) 109 30 z71) 109 28 (Int32.ofInt 1)) 109 27 z226).2.2.1 109 28).toInt = 1 → 97 ≤ ((sF (sF (sF (sF sc0 109 29 w0_109_27) 109 30 z71) 109 28 (Int32.ofInt 1)) 109 27 z226).2.2.1 109 30).toInt := by have b0 : (Int32.ofInt 1) = (sF (sF (sF (sF sc0 109 29 w0_109_27) 109 30 z71) 109 28 (Int32.ofInt 1)) 109 27 z226).2.2.1 109 28 := sF_ne rfl (sF_get); have b1 : z71 = (sF (sF (sF (sF sc0 109 29 w0_109_27) 109 30 z71) 109 28 (Int32.ofInt 1)) 109 27 z226).2.2.1 109 30 := sF_ne rfl (sF_ne rfl (sF_get)); rw [← b0, ← b1]; exact n230g
                            have n230i : ((Int32.ofInt 1)).toInt = 1 → (z71).toInt ≤ 122 := by have a0 := oa5 ro_109_22 i71 ((in_c 0 rfl)) i183x9 i226; have a5 := t_add e226 i71 (in_c 1 rfl) rfl; have a6 := in_u ((in_c 1 rfl)); have oc := oc_299_109; omega
                            have n230j : ((sF (sF (sF (sF sc0 109 29 w0_109_27) 109 30 z71) 109 28 (Int32.ofInt 1)) 109 27 z226).2.2.1 109 28).toInt = 1 → ((sF (sF (sF (sF sc0 109 29 w0_109_27) 109 30 z71) 109 28 (Int32.ofInt 1)) 109 27 z226).2.2.1 109 30).toInt ≤ 122 := by have b0 : (Int32.ofInt 1) = (sF (sF (sF (sF sc0 109 29 w0_109_27) 109 30 z71) 109 28 (Int32.ofInt 1)) 109 27 z226).2.2.1 109 28 := sF_ne rfl (sF_get); have b1 : z71 = (sF (sF (sF (sF sc0 109 29 w0_109_27) 109 30 z71) 109 28 (Int32.ofInt 1)) 109 27 z226).2.2.1 109 30 := sF_ne rfl (sF_ne rfl (sF_get)); rw [← b0, ← b1]; exact n230i
                            exact g_return (gd rfl) rfl (hP _ _ ⟨(sF (sF (sF (sF sc0 109 29 w0_109_27) 109 30 z71) 109 28 (Int32.ofInt 1)) 109 27 z226), hI227, (fr_sF rfl (fr_sF rfl (fr_sF rfl (fr_sF rfl hFc0)))), n230b, n230d, n230f, n230h, n230j, rfl, rfl, n230⟩)
                          · skip
                            exact n_eq c202 (in_c 1 rfl) (in_c 3 rfl) rfl
                  · skip
                    exact zn_ne c128 (in_c 0 rfl) rfl
              · skip
                have i121x9 := r_le1 48 57 c121x9 i121x3 (in_c 57 rfl) rfl
                refine g_iconst 1 13 (gd rfl) rfl rfl ?_
                refine g_goto 17 (gd rfl) rfl ?_
                refine g_ireturn (gd rfl) rfl (nb01 (in_w 0 1 (in_c 1 rfl) rfl)) (hp121 _ _ ?_)
                show GG _ _ _ _ _ _ _ _ [.int (Int32.ofInt 1)] _ _ _
                refine g_if_ne 127 131 (gd rfl) rfl rfl (fun c124 => ?_) (fun c124 => ?_)
                · skip
                  refine g_aload_n 132 (gd rfl) rfl rfl ?_
                  refine g_iconst 2 133 (gd rfl) rfl rfl ?_
                  refine g_putI 136 (gd rfl) rfl rfl rfl rfl ?_
                  have hI133 := inv_sF (q := 109) (j := 28) hI75 rfl (in_w (-2147483648) 2147483647 (in_c 2 rfl) rfl)
                  refine g_aload_n 137 (gd rfl) rfl rfl ?_
                  refine g_dup 138 (gd rfl) rfl rfl ?_
                  refine g_getI 141 (gd rfl) rfl rfl rfl (fun z138 e138 => ?_)
                  have q138 : w0_109_27 = z138 := (sF_ne rfl (sF_ne rfl (sF_ne rfl (v0_109_27)))).trans e138.symm
                  subst q138
                  refine g_iload_n 142 (gd rfl) rfl rfl ?_
                  refine g_if_eq 145 149 (gd rfl) rfl rfl (fun c142 => ?_) (fun c142 => ?_)
                  · skip
                    refine g_iconst 0 150 (gd rfl) rfl rfl ?_
                    refine g_iadd 151 (gd rfl) rfl (fun z150 e150 => ?_)
                    have i150 := in_add 0 999 e150 i71 (in_c 0 rfl) rfl rfl
                    refine g_putI 154 (gd rfl) rfl rfl rfl rfl ?_
                    have hI151 := inv_sF (q := 109) (j := 27) hI133 rfl (in_w 0 1000 i150 rfl)
                    refine g_aload_n 155 (gd rfl) rfl rfl ?_
                    refine g_bipush 7 157 (gd rfl) rfl rfl ?_
                    have hA9 : _ = (sF (sF (sF (sF sc0 109 29 w0_109_27) 109 30 z71) 109 28 (Int32.ofInt 2)) 109 27 z150).2.2.1 109 27 := (show z150 = (sF (sF (sF (sF sc0 109 29 w0_109_27) 109 30 z71) 109 28 (Int32.ofInt 2)) 109 27 z150).2.2.1 109 27 from sF_get)
                    have hL9 : u_109_22 = (sF (sF (sF (sF sc0 109 29 w0_109_27) 109 30 z71) 109 28 (Int32.ofInt 2)) 109 27 z150).2.2.1 109 22 := (show u_109_22 = (sF (sF (sF (sF sc0 109 29 w0_109_27) 109 30 z71) 109 28 (Int32.ofInt 2)) 109 27 z150).2.2.1 109 22 from sF_ne rfl (sF_ne rfl (sF_ne rfl (sF_ne rfl (fr_F e_109_22 hFc0 rfl)))))
                    have hX9 : (sF (sF (sF (sF sc0 109 29 w0_109_27) 109 30 z71) 109 28 (Int32.ofInt 2)) 109 27 z150).1 125 = s.1 125 := hFc0.1 125 rfl
                    have hP9 : _ = (sF (sF (sF (sF sc0 109 29 w0_109_27) 109 30 z71) 109 28 (Int32.ofInt 2)) 109 27 z150).2.2.1 109 29 := (show w0_109_27 = (sF (sF (sF (sF sc0 109 29 w0_109_27) 109 30 z71) 109 28 (Int32.ofInt 2)) 109 27 z150).2.2.1 109 29 from sF_ne rfl (sF_ne rfl (sF_ne rfl (sF_get))))
                    have hF9 : FSM s (sF (sF (sF (sF sc0 109 29 w0_109_27) 109 30 z71) 109 28 (Int32.ofInt 2)) 109 27 z150) := g0_1
                    have v157 : z150 = (sF (sF (sF (sF sc0 109 29 w0_109_27) 109 30 z71) 109 28 (Int32.ofInt 2)) 109 27 z150).2.2.1 109 27 := sF_get
                    have v157a : u_109_22 = (sF (sF (sF (sF sc0 109 29 w0_109_27) 109 30 z71) 109 28 (Int32.ofInt 2)) 109 27 z150).2.2.1 109 22 := sF_ne rfl (sF_ne rfl (sF_ne rfl (sF_ne rfl (fr_F e_109_22 hFc0 rfl))))
                    have n157 : (z150).toInt < (u_109_22).toInt := by have a0 := oa5 ro_109_22 i71 ((in_c 0 rfl)) i121x9 i150; have a5 := t_add e150 i71 (in_c 0 rfl) rfl; have a6 := in_u ((in_c 2 rfl)); have oc := oc_299_109; omega
                    have p157 : 48 ≤ ((sF (sF (sF (sF sc0 109 29 w0_109_27) 109 30 z71) 109 28 (Int32.ofInt 2)) 109 27 z150).1 125 ((sF (sF (sF (sF sc0 109 29 w0_109_27) 109 30 z71) 109 28 (Int32.ofInt 2)) 109 27 z150).2.2.1 109 27).toNatClampNeg).toInt ∧ ((sF (sF (sF (sF sc0 109 29 w0_109_27) 109 30 z71) 109 28 (Int32.ofInt 2)) 109 27 z150).1 125 ((sF (sF (sF (sF sc0 109 29 w0_109_27) 109 30 z71) 109 28 (Int32.ofInt 2)) 109 27 z150).2.2.1 109 27).toNatClampNeg).toInt ≤ 57 := by first | (have hz : z107 = (sF (sF (sF (sF sc0 109 29 w0_109_27) 109 30 z71) 109 28 (Int32.ofInt 2)) 109 27 z150).1 125 ((sF (sF (sF (sF sc0 109 29 w0_109_27) 109 30 z71) 109 28 (Int32.ofInt 2)) 109 27 z150).2.2.1 109 27).toNatClampNeg := (by rw [← (show z150 = (sF (sF (sF (sF sc0 109 29 w0_109_27) 109 30 z71) 109 28 (Int32.ofInt 2)) 109 27 z150).2.2.1 109 27 from sF_get), e150, ← e106]; exact e107); rw [← hz]; exact i108x9) | (have hz : z19 = (sF (sF (sF (sF sc0 109 29 w0_109_27) 109 30 z71) 109 28 (Int32.ofInt 2)) 109 27 z150).1 125 ((sF (sF (sF (sF sc0 109 29 w0_109_27) 109 30 z71) 109 28 (Int32.ofInt 2)) 109 27 z150).2.2.1 109 27).toNatClampNeg := (by rw [← (show z150 = (sF (sF (sF (sF sc0 109 29 w0_109_27) 109 30 z71) 109 28 (Int32.ofInt 2)) 109 27 z150).2.2.1 109 27 from sF_get), e150, show w0_109_27 + Int32.ofInt 0 = w0_109_27 from Int32.add_zero _]; exact e19); rw [← hz]; exact i121x9) | (have hz : z71 = (sF (sF (sF (sF sc0 109 29 w0_109_27) 109 30 z71) 109 28 (Int32.ofInt 2)) 109 27 z150).1 125 ((sF (sF (sF (sF sc0 109 29 w0_109_27) 109 30 z71) 109 28 (Int32.ofInt 2)) 109 27 z150).2.2.1 109 27).toNatClampNeg := (by rw [← (show z150 = (sF (sF (sF (sF sc0 109 29 w0_109_27) 109 30 z71) 109 28 (Int32.ofInt 2)) 109 27 z150).2.2.1 109 27 from sF_get), e150, show w0_109_27 + Int32.ofInt 0 = w0_109_27 from Int32.add_zero _]; exact e71); rw [← hz]; exact i121x9)
                    refine g_callv (X := _) (As := [.int (Int32.ofInt 7)]) (r := []) (b := A 109) (q := 109) 160 (gd rfl) rfl rfl rfl rfl rfl (ww_o rfl) (Nat.le_of_ble_eq_true rfl) (Nat.zero_le _) (Nat.zero_le _) (f_300 (by first | exact dq1 hd rfl | exact dq0 hd rfl | exact dq2 hd rfl | exact dq3 hd rfl | omega) hI151 (in_w 7 7 (in_c 7 rfl) rfl) v157 v157a n157 p157) (fun e u h => h) (fun v u h => ?_)
                    obtain ⟨s157, hI157, hF157, n157a, n157b, rfl, rfl, p157a⟩ := h
                    obtain ⟨z157a, e157⟩ : ∃ w, w = s157.2.2.1 109 27 := ⟨_, rfl⟩
                    have i157a := inv_F hI157 0 1000 rfl e157
                    rw [← (show z157a = s157.2.2.1 109 27 from e157)] at n157a
                    rw [← (show u_109_22 = s157.2.2.1 109 22 from fr_F (s := (sF (sF (sF (sF sc0 109 29 w0_109_27) 109 30 z71) 109 28 (Int32.ofInt 2)) 109 27 z150)) (sF_ne rfl (sF_ne rfl (sF_ne rfl (sF_ne rfl (fr_F e_109_22 hFc0 rfl))))) hF157 rfl)] at n157a
                    rw [← (show z150 = (sF (sF (sF (sF sc0 109 29 w0_109_27) 109 30 z71) 109 28 (Int32.ofInt 2)) 109 27 z150).2.2.1 109 27 from sF_get)] at n157b
                    rw [← (show z157a = s157.2.2.1 109 27 from e157)] at n157b
                    show GG _ _ _ _ _ _ _ _ [] _ _ _
                    refine g_aload_n 161 (gd rfl) rfl rfl ?_
                    refine g_iload_n 162 (gd rfl) rfl rfl ?_
                    refine g_if_eq 165 173 (gd rfl) rfl rfl (fun c162 => ?_) (fun c162 => ?_)
                    · skip
                      refine g_aload_n 174 (gd rfl) rfl rfl ?_
                      refine g_getL 177 (gd rfl) rfl rfl rfl (fun z174 e174 => ?_)
                      refine g_putL 180 (gd rfl) rfl rfl rfl rfl ?_
                      have hI177 := inv_sG (q := 109) (j := 31) (x := z174) hI157 rfl (l_rng z174)
                      have n180 : ∃ k v, TKN (s.1 125) (s.2.2.1 109 22).toInt.toNat (s.2.2.1 109 27).toInt.toNat ((sG s157 109 31 z174).2.2.1 109 29).toInt.toNat ((sG s157 109 31 z174).2.2.1 109 27).toInt.toNat k v ∧ NTK s (sG s157 109 31 z174) k v := by exfalso; have a0 := oa7 ro_109_22 i71 ((in_c 0 rfl)) i121x9 i157a ((in_c 2 rfl)) i150; have a7 := t_add e150 i71 (in_c 0 rfl) rfl; have oc := oc_299_109; omega
                      have n180a : (z157a).toInt ≤ (u_109_22).toInt := by have a0 := oa7 ro_109_22 i71 ((in_c 0 rfl)) i121x9 i157a ((in_c 2 rfl)) i150; have a7 := t_add e150 i71 (in_c 0 rfl) rfl; have oc := oc_299_109; omega
                      have n180b : ((sG s157 109 31 z174).2.2.1 109 27).toInt ≤ ((sG s157 109 31 z174).2.2.1 109 22).toInt := by have b0 : z157a = (sG s157 109 31 z174).2.2.1 109 27 := sG_F (e157); have b1 : u_109_22 = (sG s157 109 31 z174).2.2.1 109 22 := sG_F (fr_F (s := (sF (sF (sF (sF sc0 109 29 w0_109_27) 109 30 z71) 109 28 (Int32.ofInt 2)) 109 27 z150)) (sF_ne rfl (sF_ne rfl (sF_ne rfl (sF_ne rfl (fr_F e_109_22 hFc0 rfl))))) hF157 rfl); rw [← b0, ← b1]; exact n180a
                      have n180c : (u_109_27).toInt ≤ (z157a).toInt := by have a0 := oa7 ro_109_22 i71 ((in_c 0 rfl)) i121x9 i157a ((in_c 2 rfl)) i150; have a7 := t_add e150 i71 (in_c 0 rfl) rfl; have oc := oc_299_109; omega
                      have n180d : (s.2.2.1 109 27).toInt ≤ ((sG s157 109 31 z174).2.2.1 109 27).toInt := by have b0 : z157a = (sG s157 109 31 z174).2.2.1 109 27 := sG_F (e157); first | (rw [← b0, ← e_109_27]; exact n180c) | (rw [← b0]; exact n180c)
                      have n180e : ((Int32.ofInt 2)).toInt ≠ 0 → (u_109_27).toInt + 1 ≤ (z157a).toInt := by have a0 := oa7 ro_109_22 i71 ((in_c 0 rfl)) i121x9 i157a ((in_c 2 rfl)) i150; have a7 := t_add e150 i71 (in_c 0 rfl) rfl; have oc := oc_299_109; omega
                      have n180f : ((sG s157 109 31 z174).2.2.1 109 28).toInt ≠ 0 → (s.2.2.1 109 27).toInt + 1 ≤ ((sG s157 109 31 z174).2.2.1 109 27).toInt := by have b0 : (Int32.ofInt 2) = (sG s157 109 31 z174).2.2.1 109 28 := sG_F (fr_F (s := (sF (sF (sF (sF sc0 109 29 w0_109_27) 109 30 z71) 109 28 (Int32.ofInt 2)) 109 27 z150)) (sF_ne rfl (sF_get)) hF157 rfl); have b1 : z157a = (sG s157 109 31 z174).2.2.1 109 27 := sG_F (e157); first | (rw [← b0, ← b1, ← e_109_27]; exact n180e) | (rw [← b0, ← b1]; exact n180e)
                      have n180g : ((Int32.ofInt 2)).toInt = 1 → 97 ≤ (z71).toInt := by exact fun h => absurd h (by decide)
                      have n180h : ((sG s157 109 31 z174).2.2.1 109 28).toInt = 1 → 97 ≤ ((sG s157 109 31 z174).2.2.1 109 30).toInt := by have b0 : (Int32.ofInt 2) = (sG s157 109 31 z174).2.2.1 109 28 := sG_F (fr_F (s := (sF (sF (sF (sF sc0 109 29 w0_109_27) 109 30 z71) 109 28 (Int32.ofInt 2)) 109 27 z150)) (sF_ne rfl (sF_get)) hF157 rfl); have b1 : z71 = (sG s157 109 31 z174).2.2.1 109 30 := sG_F (fr_F (s := (sF (sF (sF (sF sc0 109 29 w0_109_27) 109 30 z71) 109 28 (Int32.ofInt 2)) 109 27 z150)) (sF_ne rfl (sF_ne rfl (sF_get))) hF157 rfl); rw [← b0, ← b1]; exact n180g
                      have n180i : ((Int32.ofInt 2)).toInt = 1 → (z71).toInt ≤ 122 := by exact fun h => absurd h (by decide)
                      have n180j : ((sG s157 109 31 z174).2.2.1 109 28).toInt = 1 → ((sG s157 109 31 z174).2.2.1 109 30).toInt ≤ 122 := by have b0 : (Int32.ofInt 2) = (sG s157 109 31 z174).2.2.1 109 28 := sG_F (fr_F (s := (sF (sF (sF (sF sc0 109 29 w0_109_27) 109 30 z71) 109 28 (Int32.ofInt 2)) 109 27 z150)) (sF_ne rfl (sF_get)) hF157 rfl); have b1 : z71 = (sG s157 109 31 z174).2.2.1 109 30 := sG_F (fr_F (s := (sF (sF (sF (sF sc0 109 29 w0_109_27) 109 30 z71) 109 28 (Int32.ofInt 2)) 109 27 z150)) (sF_ne rfl (sF_ne rfl (sF_get))) hF157 rfl); rw [← b0, ← b1]; exact n180i
                      exact g_return (gd rfl) rfl (hP _ _ ⟨(sG s157 109 31 z174), hI177, (fr_sG rfl (fr_tr rfl (fr_sF rfl (fr_sF rfl (fr_sF rfl (fr_sF rfl hFc0)))) hF157)), n180b, n180d, n180f, n180h, n180j, rfl, rfl, n180⟩)
                    · skip
                      exact zn_ne c162 (in_c 0 rfl) rfl
                  · skip
                    exact zn_ne c142 (in_c 0 rfl) rfl
                · skip
                  exact zn_eq c124 (in_c 1 rfl) rfl
          · skip
            have i81 := r_eq1 45 45 c81 i71a (in_c 45 rfl) rfl
            refine g_aload_n 85 (gd rfl) rfl rfl ?_
            refine g_getI 88 (gd rfl) rfl rfl rfl (fun z85 e85 => ?_)
            have q85 : w0_109_27 = z85 := (sF_ne rfl (sF_ne rfl (v0_109_27))).trans e85.symm
            subst q85
            refine g_iconst 1 89 (gd rfl) rfl rfl ?_
            refine g_iadd 90 (gd rfl) rfl (fun z89 e89 => ?_)
            have i89 := in_add 1 1000 e89 i71 (in_c 1 rfl) rfl rfl
            refine g_aload_n 91 (gd rfl) rfl rfl ?_
            refine g_getI 94 (gd rfl) rfl rfl rfl (fun z91 e91 => ?_)
            have q91 : u_109_22 = z91 := (sF_ne rfl (sF_ne rfl (fr_F e_109_22 hFc0 rfl))).trans e91.symm
            subst q91
            refine g_cmp_ge 97 118 (gd rfl) rfl rfl (fun c94 => ?_) (fun c94 => ?_)
            · skip
              refine g_iconst 0 119 (gd rfl) rfl rfl ?_
              refine g_istore_n 120 (gd rfl) rfl (Nat.le_of_ble_eq_true rfl) ?_
              refine g_iload_n 121 (gd rfl) rfl rfl ?_
              refine g_calls (As := [.int z71]) (r := []) 124 (gd rfl) rfl rfl rfl rfl rfl (Nat.le_of_ble_eq_true rfl) (mc := 0) (ms := 0) (Nat.zero_le _) (Nat.zero_le _) (P := fun v u => _) ?_ (fun v u h => h)
              intro po121 xx121 hp121 hx121
              refine g_enter2 (k := 297) (N := 300) (by first | exact dq1 hd rfl | exact dq0 hd rfl | exact dq2 hd rfl | exact dq3 hd rfl | omega) rfl (Nat.le_of_ble_eq_true rfl) ?_
              refine g_iload_n 1 (gd rfl) rfl rfl ?_
              refine g_bipush 48 3 (gd rfl) rfl rfl ?_
              refine g_cmp_lt 6 16 (gd rfl) rfl rfl (fun c121x3 => ?_) (fun c121x3 => ?_)
              · skip
                refine g_iconst 0 17 (gd rfl) rfl rfl ?_
                refine g_ireturn (gd rfl) rfl (nb01 (in_w 0 1 (in_c 0 rfl) rfl)) (hp121 _ _ ?_)
                show GG _ _ _ _ _ _ _ _ [.int (Int32.ofInt 0)] _ _ _
                refine g_if_ne 127 131 (gd rfl) rfl rfl (fun c124 => ?_) (fun c124 => ?_)
                · skip
                  exact zn_ne c124 (in_c 0 rfl) rfl
                · skip
                  refine g_iload_n 128 (gd rfl) rfl rfl ?_
                  refine g_if_eq 131 181 (gd rfl) rfl rfl (fun c128 => ?_) (fun c128 => ?_)
                  · skip
                    refine g_aload_n 182 (gd rfl) rfl rfl ?_
                    refine g_iload_n 183 (gd rfl) rfl rfl ?_
                    refine g_calls (As := [.int z71]) (r := [.ref (A 109)]) 186 (gd rfl) rfl rfl rfl rfl rfl (Nat.le_of_ble_eq_true rfl) (mc := 0) (ms := 0) (Nat.zero_le _) (Nat.zero_le _) (P := fun v u => _) ?_ (fun v u h => h)
                    intro po183 xx183 hp183 hx183
                    refine g_enter2 (k := 296) (N := 300) (by first | exact dq1 hd rfl | exact dq0 hd rfl | exact dq2 hd rfl | exact dq3 hd rfl | omega) rfl (Nat.le_of_ble_eq_true rfl) ?_
                    refine g_iload_n 1 (gd rfl) rfl rfl ?_
                    refine g_bipush 97 3 (gd rfl) rfl rfl ?_
                    refine g_cmp_lt 6 16 (gd rfl) rfl rfl (fun c183x3 => ?_) (fun c183x3 => ?_)
                    · skip
                      refine g_iconst 0 17 (gd rfl) rfl rfl ?_
                      refine g_ireturn (gd rfl) rfl (nb01 (in_w 0 1 (in_c 0 rfl) rfl)) (hp183 _ _ ?_)
                      show GG _ _ _ _ _ _ _ _ [.int (Int32.ofInt 0), .ref (A 109)] _ _ _
                      refine g_if_eq 189 193 (gd rfl) rfl rfl (fun c186 => ?_) (fun c186 => ?_)
                      · skip
                        refine g_iconst 3 194 (gd rfl) rfl rfl ?_
                        refine g_putI 197 (gd rfl) rfl rfl rfl rfl ?_
                        have hI194 := inv_sF (q := 109) (j := 28) hI75 rfl (in_w (-2147483648) 2147483647 (in_c 3 rfl) rfl)
                        refine g_aload_n 198 (gd rfl) rfl rfl ?_
                        refine g_getI 201 (gd rfl) rfl rfl rfl (fun z198 e198 => ?_)
                        have q198 : (Int32.ofInt 3) = z198 := (sF_get).trans e198.symm
                        subst q198
                        refine g_iconst 3 202 (gd rfl) rfl rfl ?_
                        refine g_cmp_ne 205 220 (gd rfl) rfl rfl (fun c202 => ?_) (fun c202 => ?_)
                        · skip
                          exact n_ne c202 (in_c 3 rfl) (in_c 3 rfl) rfl
                        · skip
                          refine g_iload_n 206 (gd rfl) rfl rfl ?_
                          refine g_bipush 59 208 (gd rfl) rfl rfl ?_
                          refine g_cmp_eq 211 220 (gd rfl) rfl rfl (fun c208 => ?_) (fun c208 => ?_)
                          · skip
                            exact n_eq c208 i81 (in_c 59 rfl) rfl
                          · skip
                            refine g_aload_n 212 (gd rfl) rfl rfl ?_
                            refine g_iconst 1 213 (gd rfl) rfl rfl ?_
                            refine g_aload_n 214 (gd rfl) rfl rfl ?_
                            refine g_getI 217 (gd rfl) rfl rfl rfl (fun z214 e214 => ?_)
                            have q214 : w0_109_27 = z214 := (sF_ne rfl (sF_ne rfl (sF_get))).trans e214.symm
                            subst q214
                            refine g_callv (X := _) (As := [.int (Int32.ofInt 1), .int w0_109_27]) (r := []) (b := A 109) (q := 109) 220 (gd rfl) rfl rfl rfl rfl rfl (ww_o rfl) (Nat.le_of_ble_eq_true rfl) (Nat.zero_le _) (Nat.zero_le _) (f_298 (by first | exact dq1 hd rfl | exact dq0 hd rfl | exact dq2 hd rfl | exact dq3 hd rfl | omega) hI194 (in_w 1 5 (in_c 1 rfl) rfl) rfl) (fun e u h => h) (fun v u h => ?_)
                            obtain ⟨s217, hI217, hF217, n217, rfl, rfl, p217⟩ := h
                            obtain ⟨z217a, e217⟩ : ∃ w, w = s217.2.2.1 109 23 := ⟨_, rfl⟩
                            have i217a := inv_F hI217 0 9 rfl e217
                            rw [← (show z217a = s217.2.2.1 109 23 from e217)] at n217
                            show GG _ _ _ _ _ _ _ _ [] _ _ _
                            refine g_aload_n 221 (gd rfl) rfl rfl ?_
                            refine g_dup 222 (gd rfl) rfl rfl ?_
                            refine g_getI 225 (gd rfl) rfl rfl rfl (fun z222 e222 => ?_)
                            have q222 : w0_109_27 = z222 := (fr_F (s := (sF (sF (sF sc0 109 29 w0_109_27) 109 30 z71) 109 28 (Int32.ofInt 3))) (sF_ne rfl (sF_ne rfl (sF_ne rfl (v0_109_27)))) hF217 rfl).trans e222.symm
                            subst q222
                            refine g_iconst 1 226 (gd rfl) rfl rfl ?_
                            refine g_iadd 227 (gd rfl) rfl (fun z226 e226 => ?_)
                            have i226 := in_add 1 1000 e226 i71 (in_c 1 rfl) rfl rfl
                            refine g_putI 230 (gd rfl) rfl rfl rfl rfl ?_
                            have hI227 := inv_sF (q := 109) (j := 27) hI217 rfl (in_w 0 1000 i226 rfl)
                            have n230 : ∃ k v, TKN (s.1 125) (s.2.2.1 109 22).toInt.toNat (s.2.2.1 109 27).toInt.toNat ((sF s217 109 27 z226).2.2.1 109 29).toInt.toNat ((sF s217 109 27 z226).2.2.1 109 27).toInt.toNat k v ∧ NTK s (sF s217 109 27 z226) k v := by exfalso; have a0 := oa5 ro_109_22 i71 ((in_c 0 rfl)) i81 i226; have a5 := t_add e226 i71 (in_c 1 rfl) rfl; have a6 := oa4 ((in_c 1 rfl)) i217a ((in_c 3 rfl)) i89; have a10 := t_add e89 i71 (in_c 1 rfl) rfl; have oc := oc_299_109; omega
                            have n230a : (z226).toInt ≤ (u_109_22).toInt := by have a0 := oa5 ro_109_22 i71 ((in_c 0 rfl)) i81 i226; have a5 := t_add e226 i71 (in_c 1 rfl) rfl; have a6 := oa4 ((in_c 1 rfl)) i217a ((in_c 3 rfl)) i89; have a10 := t_add e89 i71 (in_c 1 rfl) rfl; have oc := oc_299_109; omega
                            have n230b : ((sF s217 109 27 z226).2.2.1 109 27).toInt ≤ ((sF s217 109 27 z226).2.2.1 109 22).toInt := by have b0 : z226 = (sF s217 109 27 z226).2.2.1 109 27 := sF_get; have b1 : u_109_22 = (sF s217 109 27 z226).2.2.1 109 22 := sF_ne rfl (fr_F (s := (sF (sF (sF sc0 109 29 w0_109_27) 109 30 z71) 109 28 (Int32.ofInt 3))) (sF_ne rfl (sF_ne rfl (sF_ne rfl (fr_F e_109_22 hFc0 rfl)))) hF217 rfl); rw [← b0, ← b1]; exact n230a
                            have n230c : (u_109_27).toInt ≤ (z226).toInt := by have a0 := oa5 ro_109_22 i71 ((in_c 0 rfl)) i81 i226; have a5 := t_add e226 i71 (in_c 1 rfl) rfl; have a6 := oa4 ((in_c 1 rfl)) i217a ((in_c 3 rfl)) i89; have a10 := t_add e89 i71 (in_c 1 rfl) rfl; have oc := oc_299_109; omega
                            have n230d : (s.2.2.1 109 27).toInt ≤ ((sF s217 109 27 z226).2.2.1 109 27).toInt := by have b0 : z226 = (sF s217 109 27 z226).2.2.1 109 27 := sF_get; first | (rw [← b0, ← e_109_27]; exact n230c) | (rw [← b0]; exact n230c)
                            have n230e : ((Int32.ofInt 3)).toInt ≠ 0 → (u_109_27).toInt + 1 ≤ (z226).toInt := by have a0 := oa5 ro_109_22 i71 ((in_c 0 rfl)) i81 i226; have a5 := t_add e226 i71 (in_c 1 rfl) rfl; have a6 := oa4 ((in_c 1 rfl)) i217a ((in_c 3 rfl)) i89; have a10 := t_add e89 i71 (in_c 1 rfl) rfl; have oc := oc_299_109; omega
                            have n230f : ((sF s217 109 27 z226).2.2.1 109 28).toInt ≠ 0 → (s.2.2.1 109 27).toInt + 1 ≤ ((sF s217 109 27 z226).2.2.1 109 27).toInt := by have b0 : (Int32.ofInt 3) = (sF s217 109 27 z226).2.2.1 109 28 := sF_ne rfl (fr_F (s := (sF (sF (sF sc0 109 29 w0_109_27) 109 30 z71) 109 28 (Int32.ofInt 3))) (sF_get) hF217 rfl); have b1 : z226 = (sF s217 109 27 z226).2.2.1 109 27 := sF_get; first | (rw [← b0, ← b1, ← e_109_27]; exact n230e) | (rw [← b0, ← b1]; exact n230e)
                            have n230g : ((Int32.ofInt 3)).toInt = 1 → 97 ≤ (z71).toInt := by exact fun h => absurd h (by decide)
                            have n230h : ((sF s217 109 27 z226).2.2.1 109 28).toInt = 1 → 97 ≤ ((sF s217 109 27 z226).2.2.1 109 30).toInt := by have b0 : (Int32.ofInt 3) = (sF s217 109 27 z226).2.2.1 109 28 := sF_ne rfl (fr_F (s := (sF (sF (sF sc0 109 29 w0_109_27) 109 30 z71) 109 28 (Int32.ofInt 3))) (sF_get) hF217 rfl); have b1 : z71 = (sF s217 109 27 z226).2.2.1 109 30 := sF_ne rfl (fr_F (s := (sF (sF (sF sc0 109 29 w0_109_27) 109 30 z71) 109 28 (Int32.ofInt 3))) (sF_ne rfl (sF_get)) hF217 rfl); rw [← b0, ← b1]; exact n230g
                            have n230i : ((Int32.ofInt 3)).toInt = 1 → (z71).toInt ≤ 122 := by exact fun h => absurd h (by decide)
                            have n230j : ((sF s217 109 27 z226).2.2.1 109 28).toInt = 1 → ((sF s217 109 27 z226).2.2.1 109 30).toInt ≤ 122 := by have b0 : (Int32.ofInt 3) = (sF s217 109 27 z226).2.2.1 109 28 := sF_ne rfl (fr_F (s := (sF (sF (sF sc0 109 29 w0_109_27) 109 30 z71) 109 28 (Int32.ofInt 3))) (sF_get) hF217 rfl); have b1 : z71 = (sF s217 109 27 z226).2.2.1 109 30 := sF_ne rfl (fr_F (s := (sF (sF (sF sc0 109 29 w0_109_27) 109 30 z71) 109 28 (Int32.ofInt 3))) (sF_ne rfl (sF_get)) hF217 rfl); rw [← b0, ← b1]; exact n230i
                            exact g_return (gd rfl) rfl (hP _ _ ⟨(sF s217 109 27 z226), hI227, (fr_sF rfl (fr_tr rfl (fr_sF rfl (fr_sF rfl (fr_sF rfl hFc0))) hF217)), n230b, n230d, n230f, n230h, n230j, rfl, rfl, n230⟩)
                      · skip
                        exact zn_ne c186 (in_c 0 rfl) rfl
                    · skip
                      exact n_le c183x3 (in_c 97 rfl) i81 rfl
                  · skip
                    exact zn_ne c128 (in_c 0 rfl) rfl
              · skip
                exact n_le c121x3 (in_c 48 rfl) i81 rfl
            · skip
              have i94 := r_lt1 1 999 c94 i89 ro_109_22 rfl
              have i94a := r_lt2 2 1000 c94 i89 ro_109_22 rfl
              refine g_aload_n 98 (gd rfl) rfl rfl ?_
              refine g_getA (q2 := 125) 101 (gd rfl) rfl rfl rfl rfl ?_
              refine g_aload_n 102 (gd rfl) rfl rfl ?_
              refine g_getI 105 (gd rfl) rfl rfl rfl (fun z102 e102 => ?_)
              have q102 : w0_109_27 = z102 := (sF_ne rfl (sF_ne rfl (v0_109_27))).trans e102.symm
              subst q102
              refine g_iconst 1 106 (gd rfl) rfl rfl ?_
              refine g_iadd 107 (gd rfl) rfl (fun z106 e106 => ?_)
              have i106 := in_add 1 1000 e106 i71 (in_c 1 rfl) rfl rfl
              have i107 : In z106 0 999 := by have a0 := oa4 i94a i71 i81 i106; have a4 := t_add e106 i71 (in_c 1 rfl) rfl; have a5 := oa2 ((in_c 1 rfl)) i94; have a7 := t_add e89 i71 (in_c 1 rfl) rfl; have oc := oc_299_109; exact ⟨by omega, by omega⟩
              refine g_iaload 108 (gd rfl) rfl (n := 1000) rfl (in_ix i107 rfl) (fun z107 e107 => ?_)
              have i107a := inv_I hI75 (n := 1000) (t := 0) 0 126 rfl (in_ix i107 rfl) rfl e107
              refine g_calls (As := [.int z107]) (r := []) 111 (gd rfl) rfl rfl rfl rfl rfl (Nat.le_of_ble_eq_true rfl) (mc := 0) (ms := 0) (Nat.zero_le _) (Nat.zero_le _) (P := fun v u => _) ?_ (fun v u h => h)
              intro po108 xx108 hp108 hx108
              refine g_enter2 (k := 297) (N := 300) (by first | exact dq1 hd rfl | exact dq0 hd rfl | exact dq2 hd rfl | exact dq3 hd rfl | omega) rfl (Nat.le_of_ble_eq_true rfl) ?_
              refine g_iload_n 1 (gd rfl) rfl rfl ?_
              refine g_bipush 48 3 (gd rfl) rfl rfl ?_
              refine g_cmp_lt 6 16 (gd rfl) rfl rfl (fun c108x3 => ?_) (fun c108x3 => ?_)
              · skip
                have i108x3 := r_lt1 0 47 c108x3 i107a (in_c 48 rfl) rfl
                refine g_iconst 0 17 (gd rfl) rfl rfl ?_
                refine g_ireturn (gd rfl) rfl (nb01 (in_w 0 1 (in_c 0 rfl) rfl)) (hp108 _ _ ?_)
                show GG _ _ _ _ _ _ _ _ [.int (Int32.ofInt 0)] _ _ _
                refine g_if_eq 114 118 (gd rfl) rfl rfl (fun c111 => ?_) (fun c111 => ?_)
                · skip
                  refine g_iconst 0 119 (gd rfl) rfl rfl ?_
                  refine g_istore_n 120 (gd rfl) rfl (Nat.le_of_ble_eq_true rfl) ?_
                  refine g_iload_n 121 (gd rfl) rfl rfl ?_
                  refine g_calls (As := [.int z71]) (r := []) 124 (gd rfl) rfl rfl rfl rfl rfl (Nat.le_of_ble_eq_true rfl) (mc := 0) (ms := 0) (Nat.zero_le _) (Nat.zero_le _) (P := fun v u => _) ?_ (fun v u h => h)
                  intro po121 xx121 hp121 hx121
                  refine g_enter2 (k := 297) (N := 300) (by first | exact dq1 hd rfl | exact dq0 hd rfl | exact dq2 hd rfl | exact dq3 hd rfl | omega) rfl (Nat.le_of_ble_eq_true rfl) ?_
                  refine g_iload_n 1 (gd rfl) rfl rfl ?_
                  refine g_bipush 48 3 (gd rfl) rfl rfl ?_
                  refine g_cmp_lt 6 16 (gd rfl) rfl rfl (fun c121x3 => ?_) (fun c121x3 => ?_)
                  · skip
                    refine g_iconst 0 17 (gd rfl) rfl rfl ?_
                    refine g_ireturn (gd rfl) rfl (nb01 (in_w 0 1 (in_c 0 rfl) rfl)) (hp121 _ _ ?_)
                    show GG _ _ _ _ _ _ _ _ [.int (Int32.ofInt 0)] _ _ _
                    refine g_if_ne 127 131 (gd rfl) rfl rfl (fun c124 => ?_) (fun c124 => ?_)
                    · skip
                      exact zn_ne c124 (in_c 0 rfl) rfl
                    · skip
                      refine g_iload_n 128 (gd rfl) rfl rfl ?_
                      refine g_if_eq 131 181 (gd rfl) rfl rfl (fun c128 => ?_) (fun c128 => ?_)
                      · skip
                        refine g_aload_n 182 (gd rfl) rfl rfl ?_
                        refine g_iload_n 183 (gd rfl) rfl rfl ?_
                        refine g_calls (As := [.int z71]) (r := [.ref (A 109)]) 186 (gd rfl) rfl rfl rfl rfl rfl (Nat.le_of_ble_eq_true rfl) (mc := 0) (ms := 0) (Nat.zero_le _) (Nat.zero_le _) (P := fun v u => _) ?_ (fun v u h => h)
                        intro po183 xx183 hp183 hx183
                        refine g_enter2 (k := 296) (N := 300) (by first | exact dq1 hd rfl | exact dq0 hd rfl | exact dq2 hd rfl | exact dq3 hd rfl | omega) rfl (Nat.le_of_ble_eq_true rfl) ?_
                        refine g_iload_n 1 (gd rfl) rfl rfl ?_
                        refine g_bipush 97 3 (gd rfl) rfl rfl ?_
                        refine g_cmp_lt 6 16 (gd rfl) rfl rfl (fun c183x3 => ?_) (fun c183x3 => ?_)
                        · skip
                          refine g_iconst 0 17 (gd rfl) rfl rfl ?_
                          refine g_ireturn (gd rfl) rfl (nb01 (in_w 0 1 (in_c 0 rfl) rfl)) (hp183 _ _ ?_)
                          show GG _ _ _ _ _ _ _ _ [.int (Int32.ofInt 0), .ref (A 109)] _ _ _
                          refine g_if_eq 189 193 (gd rfl) rfl rfl (fun c186 => ?_) (fun c186 => ?_)
                          · skip
                            refine g_iconst 3 194 (gd rfl) rfl rfl ?_
                            refine g_putI 197 (gd rfl) rfl rfl rfl rfl ?_
                            have hI194 := inv_sF (q := 109) (j := 28) hI75 rfl (in_w (-2147483648) 2147483647 (in_c 3 rfl) rfl)
                            refine g_aload_n 198 (gd rfl) rfl rfl ?_
                            refine g_getI 201 (gd rfl) rfl rfl rfl (fun z198 e198 => ?_)
                            have q198 : (Int32.ofInt 3) = z198 := (sF_get).trans e198.symm
                            subst q198
                            refine g_iconst 3 202 (gd rfl) rfl rfl ?_
                            refine g_cmp_ne 205 220 (gd rfl) rfl rfl (fun c202 => ?_) (fun c202 => ?_)
                            · skip
                              exact n_ne c202 (in_c 3 rfl) (in_c 3 rfl) rfl
                            · skip
                              refine g_iload_n 206 (gd rfl) rfl rfl ?_
                              refine g_bipush 59 208 (gd rfl) rfl rfl ?_
                              refine g_cmp_eq 211 220 (gd rfl) rfl rfl (fun c208 => ?_) (fun c208 => ?_)
                              · skip
                                exact n_eq c208 i81 (in_c 59 rfl) rfl
                              · skip
                                refine g_aload_n 212 (gd rfl) rfl rfl ?_
                                refine g_iconst 1 213 (gd rfl) rfl rfl ?_
                                refine g_aload_n 214 (gd rfl) rfl rfl ?_
                                refine g_getI 217 (gd rfl) rfl rfl rfl (fun z214 e214 => ?_)
                                have q214 : w0_109_27 = z214 := (sF_ne rfl (sF_ne rfl (sF_get))).trans e214.symm
                                subst q214
                                refine g_callv (X := _) (As := [.int (Int32.ofInt 1), .int w0_109_27]) (r := []) (b := A 109) (q := 109) 220 (gd rfl) rfl rfl rfl rfl rfl (ww_o rfl) (Nat.le_of_ble_eq_true rfl) (Nat.zero_le _) (Nat.zero_le _) (f_298 (by first | exact dq1 hd rfl | exact dq0 hd rfl | exact dq2 hd rfl | exact dq3 hd rfl | omega) hI194 (in_w 1 5 (in_c 1 rfl) rfl) rfl) (fun e u h => h) (fun v u h => ?_)
                                obtain ⟨s217, hI217, hF217, n217, rfl, rfl, p217⟩ := h
                                obtain ⟨z217a, e217⟩ : ∃ w, w = s217.2.2.1 109 23 := ⟨_, rfl⟩
                                have i217a := inv_F hI217 0 9 rfl e217
                                rw [← (show z217a = s217.2.2.1 109 23 from e217)] at n217
                                show GG _ _ _ _ _ _ _ _ [] _ _ _
                                refine g_aload_n 221 (gd rfl) rfl rfl ?_
                                refine g_dup 222 (gd rfl) rfl rfl ?_
                                refine g_getI 225 (gd rfl) rfl rfl rfl (fun z222 e222 => ?_)
                                have q222 : w0_109_27 = z222 := (fr_F (s := (sF (sF (sF sc0 109 29 w0_109_27) 109 30 z71) 109 28 (Int32.ofInt 3))) (sF_ne rfl (sF_ne rfl (sF_ne rfl (v0_109_27)))) hF217 rfl).trans e222.symm
                                subst q222
                                refine g_iconst 1 226 (gd rfl) rfl rfl ?_
                                refine g_iadd 227 (gd rfl) rfl (fun z226 e226 => ?_)
                                have i226 := in_add 1 1000 e226 i71 (in_c 1 rfl) rfl rfl
                                refine g_putI 230 (gd rfl) rfl rfl rfl rfl ?_
                                have hI227 := inv_sF (q := 109) (j := 27) hI217 rfl (in_w 0 1000 i226 rfl)
                                have n230 : ∃ k v, TKN (s.1 125) (s.2.2.1 109 22).toInt.toNat (s.2.2.1 109 27).toInt.toNat ((sF s217 109 27 z226).2.2.1 109 29).toInt.toNat ((sF s217 109 27 z226).2.2.1 109 27).toInt.toNat k v ∧ NTK s (sF s217 109 27 z226) k v := by exfalso; have a0 := oa5 i94a i71 ((in_c 0 rfl)) i81 i226; have a5 := t_add e226 i71 (in_c 1 rfl) rfl; have a6 := oa4 ((in_c 1 rfl)) i217a ((in_c 3 rfl)) i107; have a10 := t_add e106 i71 (in_c 1 rfl) rfl; have a11 := in_u i94; have a12 := t_add e89 i71 (in_c 1 rfl) rfl; have oc := oc_299_109; omega
                                have n230a : (z226).toInt ≤ (u_109_22).toInt := by have a0 := oa5 i94a i71 ((in_c 0 rfl)) i81 i226; have a5 := t_add e226 i71 (in_c 1 rfl) rfl; have a6 := oa4 ((in_c 1 rfl)) i217a ((in_c 3 rfl)) i107; have a10 := t_add e106 i71 (in_c 1 rfl) rfl; have a11 := in_u i94; have a12 := t_add e89 i71 (in_c 1 rfl) rfl; have oc := oc_299_109; omega
                                have n230b : ((sF s217 109 27 z226).2.2.1 109 27).toInt ≤ ((sF s217 109 27 z226).2.2.1 109 22).toInt := by have b0 : z226 = (sF s217 109 27 z226).2.2.1 109 27 := sF_get; have b1 : u_109_22 = (sF s217 109 27 z226).2.2.1 109 22 := sF_ne rfl (fr_F (s := (sF (sF (sF sc0 109 29 w0_109_27) 109 30 z71) 109 28 (Int32.ofInt 3))) (sF_ne rfl (sF_ne rfl (sF_ne rfl (fr_F e_109_22 hFc0 rfl)))) hF217 rfl); rw [← b0, ← b1]; exact n230a
                                have n230c : (u_109_27).toInt ≤ (z226).toInt := by have a0 := oa5 i94a i71 ((in_c 0 rfl)) i81 i226; have a5 := t_add e226 i71 (in_c 1 rfl) rfl; have a6 := oa4 ((in_c 1 rfl)) i217a ((in_c 3 rfl)) i107; have a10 := t_add e106 i71 (in_c 1 rfl) rfl; have a11 := in_u i94; have a12 := t_add e89 i71 (in_c 1 rfl) rfl; have oc := oc_299_109; omega
                                have n230d : (s.2.2.1 109 27).toInt ≤ ((sF s217 109 27 z226).2.2.1 109 27).toInt := by have b0 : z226 = (sF s217 109 27 z226).2.2.1 109 27 := sF_get; first | (rw [← b0, ← e_109_27]; exact n230c) | (rw [← b0]; exact n230c)
                                have n230e : ((Int32.ofInt 3)).toInt ≠ 0 → (u_109_27).toInt + 1 ≤ (z226).toInt := by have a0 := oa5 i94a i71 ((in_c 0 rfl)) i81 i226; have a5 := t_add e226 i71 (in_c 1 rfl) rfl; have a6 := oa4 ((in_c 1 rfl)) i217a ((in_c 3 rfl)) i107; have a10 := t_add e106 i71 (in_c 1 rfl) rfl; have a11 := in_u i94; have a12 := t_add e89 i71 (in_c 1 rfl) rfl; have oc := oc_299_109; omega
                                have n230f : ((sF s217 109 27 z226).2.2.1 109 28).toInt ≠ 0 → (s.2.2.1 109 27).toInt + 1 ≤ ((sF s217 109 27 z226).2.2.1 109 27).toInt := by have b0 : (Int32.ofInt 3) = (sF s217 109 27 z226).2.2.1 109 28 := sF_ne rfl (fr_F (s := (sF (sF (sF sc0 109 29 w0_109_27) 109 30 z71) 109 28 (Int32.ofInt 3))) (sF_get) hF217 rfl); have b1 : z226 = (sF s217 109 27 z226).2.2.1 109 27 := sF_get; first | (rw [← b0, ← b1, ← e_109_27]; exact n230e) | (rw [← b0, ← b1]; exact n230e)
                                have n230g : ((Int32.ofInt 3)).toInt = 1 → 97 ≤ (z71).toInt := by exact fun h => absurd h (by decide)
                                have n230h : ((sF s217 109 27 z226).2.2.1 109 28).toInt = 1 → 97 ≤ ((sF s217 109 27 z226).2.2.1 109 30).toInt := by have b0 : (Int32.ofInt 3) = (sF s217 109 27 z226).2.2.1 109 28 := sF_ne rfl (fr_F (s := (sF (sF (sF sc0 109 29 w0_109_27) 109 30 z71) 109 28 (Int32.ofInt 3))) (sF_get) hF217 rfl); have b1 : z71 = (sF s217 109 27 z226).2.2.1 109 30 := sF_ne rfl (fr_F (s := (sF (sF (sF sc0 109 29 w0_109_27) 109 30 z71) 109 28 (Int32.ofInt 3))) (sF_ne rfl (sF_get)) hF217 rfl); rw [← b0, ← b1]; exact n230g
                                have n230i : ((Int32.ofInt 3)).toInt = 1 → (z71).toInt ≤ 122 := by exact fun h => absurd h (by decide)
                                have n230j : ((sF s217 109 27 z226).2.2.1 109 28).toInt = 1 → ((sF s217 109 27 z226).2.2.1 109 30).toInt ≤ 122 := by have b0 : (Int32.ofInt 3) = (sF s217 109 27 z226).2.2.1 109 28 := sF_ne rfl (fr_F (s := (sF (sF (sF sc0 109 29 w0_109_27) 109 30 z71) 109 28 (Int32.ofInt 3))) (sF_get) hF217 rfl); have b1 : z71 = (sF s217 109 27 z226).2.2.1 109 30 := sF_ne rfl (fr_F (s := (sF (sF (sF sc0 109 29 w0_109_27) 109 30 z71) 109 28 (Int32.ofInt 3))) (sF_ne rfl (sF_get)) hF217 rfl); rw [← b0, ← b1]; exact n230i
                                exact g_return (gd rfl) rfl (hP _ _ ⟨(sF s217 109 27 z226), hI227, (fr_sF rfl (fr_tr rfl (fr_sF rfl (fr_sF rfl (fr_sF rfl hFc0))) hF217)), n230b, n230d, n230f, n230h, n230j, rfl, rfl, n230⟩)
                          · skip
                            exact zn_ne c186 (in_c 0 rfl) rfl
                        · skip
                          exact n_le c183x3 (in_c 97 rfl) i81 rfl
                      · skip
                        exact zn_ne c128 (in_c 0 rfl) rfl
                  · skip
                    exact n_le c121x3 (in_c 48 rfl) i81 rfl
                · skip
                  exact zn_ne c111 (in_c 0 rfl) rfl
              · skip
                have i108x3 := r_le2 48 126 c108x3 (in_c 48 rfl) i107a rfl
                refine g_iload_n 7 (gd rfl) rfl rfl ?_
                refine g_bipush 57 9 (gd rfl) rfl rfl ?_
                refine g_cmp_gt 12 16 (gd rfl) rfl rfl (fun c108x9 => ?_) (fun c108x9 => ?_)
                · skip
                  have i108x9 := r_lt2 58 126 c108x9 (in_c 57 rfl) i108x3 rfl
                  refine g_iconst 0 17 (gd rfl) rfl rfl ?_
                  refine g_ireturn (gd rfl) rfl (nb01 (in_w 0 1 (in_c 0 rfl) rfl)) (hp108 _ _ ?_)
                  show GG _ _ _ _ _ _ _ _ [.int (Int32.ofInt 0)] _ _ _
                  refine g_if_eq 114 118 (gd rfl) rfl rfl (fun c111 => ?_) (fun c111 => ?_)
                  · skip
                    refine g_iconst 0 119 (gd rfl) rfl rfl ?_
                    refine g_istore_n 120 (gd rfl) rfl (Nat.le_of_ble_eq_true rfl) ?_
                    refine g_iload_n 121 (gd rfl) rfl rfl ?_
                    refine g_calls (As := [.int z71]) (r := []) 124 (gd rfl) rfl rfl rfl rfl rfl (Nat.le_of_ble_eq_true rfl) (mc := 0) (ms := 0) (Nat.zero_le _) (Nat.zero_le _) (P := fun v u => _) ?_ (fun v u h => h)
                    intro po121 xx121 hp121 hx121
                    refine g_enter2 (k := 297) (N := 300) (by first | exact dq1 hd rfl | exact dq0 hd rfl | exact dq2 hd rfl | exact dq3 hd rfl | omega) rfl (Nat.le_of_ble_eq_true rfl) ?_
                    refine g_iload_n 1 (gd rfl) rfl rfl ?_
                    refine g_bipush 48 3 (gd rfl) rfl rfl ?_
                    refine g_cmp_lt 6 16 (gd rfl) rfl rfl (fun c121x3 => ?_) (fun c121x3 => ?_)
                    · skip
                      refine g_iconst 0 17 (gd rfl) rfl rfl ?_
                      refine g_ireturn (gd rfl) rfl (nb01 (in_w 0 1 (in_c 0 rfl) rfl)) (hp121 _ _ ?_)
                      show GG _ _ _ _ _ _ _ _ [.int (Int32.ofInt 0)] _ _ _
                      refine g_if_ne 127 131 (gd rfl) rfl rfl (fun c124 => ?_) (fun c124 => ?_)
                      · skip
                        exact zn_ne c124 (in_c 0 rfl) rfl
                      · skip
                        refine g_iload_n 128 (gd rfl) rfl rfl ?_
                        refine g_if_eq 131 181 (gd rfl) rfl rfl (fun c128 => ?_) (fun c128 => ?_)
                        · skip
                          refine g_aload_n 182 (gd rfl) rfl rfl ?_
                          refine g_iload_n 183 (gd rfl) rfl rfl ?_
                          refine g_calls (As := [.int z71]) (r := [.ref (A 109)]) 186 (gd rfl) rfl rfl rfl rfl rfl (Nat.le_of_ble_eq_true rfl) (mc := 0) (ms := 0) (Nat.zero_le _) (Nat.zero_le _) (P := fun v u => _) ?_ (fun v u h => h)
                          intro po183 xx183 hp183 hx183
                          refine g_enter2 (k := 296) (N := 300) (by first | exact dq1 hd rfl | exact dq0 hd rfl | exact dq2 hd rfl | exact dq3 hd rfl | omega) rfl (Nat.le_of_ble_eq_true rfl) ?_
                          refine g_iload_n 1 (gd rfl) rfl rfl ?_
                          refine g_bipush 97 3 (gd rfl) rfl rfl ?_
                          refine g_cmp_lt 6 16 (gd rfl) rfl rfl (fun c183x3 => ?_) (fun c183x3 => ?_)
                          · skip
                            refine g_iconst 0 17 (gd rfl) rfl rfl ?_
                            refine g_ireturn (gd rfl) rfl (nb01 (in_w 0 1 (in_c 0 rfl) rfl)) (hp183 _ _ ?_)
                            show GG _ _ _ _ _ _ _ _ [.int (Int32.ofInt 0), .ref (A 109)] _ _ _
                            refine g_if_eq 189 193 (gd rfl) rfl rfl (fun c186 => ?_) (fun c186 => ?_)
                            · skip
                              refine g_iconst 3 194 (gd rfl) rfl rfl ?_
                              refine g_putI 197 (gd rfl) rfl rfl rfl rfl ?_
                              have hI194 := inv_sF (q := 109) (j := 28) hI75 rfl (in_w (-2147483648) 2147483647 (in_c 3 rfl) rfl)
                              refine g_aload_n 198 (gd rfl) rfl rfl ?_
                              refine g_getI 201 (gd rfl) rfl rfl rfl (fun z198 e198 => ?_)
                              have q198 : (Int32.ofInt 3) = z198 := (sF_get).trans e198.symm
                              subst q198
                              refine g_iconst 3 202 (gd rfl) rfl rfl ?_
                              refine g_cmp_ne 205 220 (gd rfl) rfl rfl (fun c202 => ?_) (fun c202 => ?_)
                              · skip
                                exact n_ne c202 (in_c 3 rfl) (in_c 3 rfl) rfl
                              · skip
                                refine g_iload_n 206 (gd rfl) rfl rfl ?_
                                refine g_bipush 59 208 (gd rfl) rfl rfl ?_
                                refine g_cmp_eq 211 220 (gd rfl) rfl rfl (fun c208 => ?_) (fun c208 => ?_)
                                · skip
                                  exact n_eq c208 i81 (in_c 59 rfl) rfl
                                · skip
                                  refine g_aload_n 212 (gd rfl) rfl rfl ?_
                                  refine g_iconst 1 213 (gd rfl) rfl rfl ?_
                                  refine g_aload_n 214 (gd rfl) rfl rfl ?_
                                  refine g_getI 217 (gd rfl) rfl rfl rfl (fun z214 e214 => ?_)
                                  have q214 : w0_109_27 = z214 := (sF_ne rfl (sF_ne rfl (sF_get))).trans e214.symm
                                  subst q214
                                  refine g_callv (X := _) (As := [.int (Int32.ofInt 1), .int w0_109_27]) (r := []) (b := A 109) (q := 109) 220 (gd rfl) rfl rfl rfl rfl rfl (ww_o rfl) (Nat.le_of_ble_eq_true rfl) (Nat.zero_le _) (Nat.zero_le _) (f_298 (by first | exact dq1 hd rfl | exact dq0 hd rfl | exact dq2 hd rfl | exact dq3 hd rfl | omega) hI194 (in_w 1 5 (in_c 1 rfl) rfl) rfl) (fun e u h => h) (fun v u h => ?_)
                                  obtain ⟨s217, hI217, hF217, n217, rfl, rfl, p217⟩ := h
                                  obtain ⟨z217a, e217⟩ : ∃ w, w = s217.2.2.1 109 23 := ⟨_, rfl⟩
                                  have i217a := inv_F hI217 0 9 rfl e217
                                  rw [← (show z217a = s217.2.2.1 109 23 from e217)] at n217
                                  show GG _ _ _ _ _ _ _ _ [] _ _ _
                                  refine g_aload_n 221 (gd rfl) rfl rfl ?_
                                  refine g_dup 222 (gd rfl) rfl rfl ?_
                                  refine g_getI 225 (gd rfl) rfl rfl rfl (fun z222 e222 => ?_)
                                  have q222 : w0_109_27 = z222 := (fr_F (s := (sF (sF (sF sc0 109 29 w0_109_27) 109 30 z71) 109 28 (Int32.ofInt 3))) (sF_ne rfl (sF_ne rfl (sF_ne rfl (v0_109_27)))) hF217 rfl).trans e222.symm
                                  subst q222
                                  refine g_iconst 1 226 (gd rfl) rfl rfl ?_
                                  refine g_iadd 227 (gd rfl) rfl (fun z226 e226 => ?_)
                                  have i226 := in_add 1 1000 e226 i71 (in_c 1 rfl) rfl rfl
                                  refine g_putI 230 (gd rfl) rfl rfl rfl rfl ?_
                                  have hI227 := inv_sF (q := 109) (j := 27) hI217 rfl (in_w 0 1000 i226 rfl)
                                  have n230 : ∃ k v, TKN (s.1 125) (s.2.2.1 109 22).toInt.toNat (s.2.2.1 109 27).toInt.toNat ((sF s217 109 27 z226).2.2.1 109 29).toInt.toNat ((sF s217 109 27 z226).2.2.1 109 27).toInt.toNat k v ∧ NTK s (sF s217 109 27 z226) k v := by exfalso; have a0 := oa5 i94a i71 ((in_c 0 rfl)) i81 i226; have a5 := t_add e226 i71 (in_c 1 rfl) rfl; have a6 := oa4 ((in_c 1 rfl)) i217a ((in_c 3 rfl)) i107; have a10 := t_add e106 i71 (in_c 1 rfl) rfl; have a11 := in_u i94; have a12 := t_add e89 i71 (in_c 1 rfl) rfl; have oc := oc_299_109; omega
                                  have n230a : (z226).toInt ≤ (u_109_22).toInt := by have a0 := oa5 i94a i71 ((in_c 0 rfl)) i81 i226; have a5 := t_add e226 i71 (in_c 1 rfl) rfl; have a6 := oa4 ((in_c 1 rfl)) i217a ((in_c 3 rfl)) i107; have a10 := t_add e106 i71 (in_c 1 rfl) rfl; have a11 := in_u i94; have a12 := t_add e89 i71 (in_c 1 rfl) rfl; have oc := oc_299_109; omega
                                  have n230b : ((sF s217 109 27 z226).2.2.1 109 27).toInt ≤ ((sF s217 109 27 z226).2.2.1 109 22).toInt := by have b0 : z226 = (sF s217 109 27 z226).2.2.1 109 27 := sF_get; have b1 : u_109_22 = (sF s217 109 27 z226).2.2.1 109 22 := sF_ne rfl (fr_F (s := (sF (sF (sF sc0 109 29 w0_109_27) 109 30 z71) 109 28 (Int32.ofInt 3))) (sF_ne rfl (sF_ne rfl (sF_ne rfl (fr_F e_109_22 hFc0 rfl)))) hF217 rfl); rw [← b0, ← b1]; exact n230a
                                  have n230c : (u_109_27).toInt ≤ (z226).toInt := by have a0 := oa5 i94a i71 ((in_c 0 rfl)) i81 i226; have a5 := t_add e226 i71 (in_c 1 rfl) rfl; have a6 := oa4 ((in_c 1 rfl)) i217a ((in_c 3 rfl)) i107; have a10 := t_add e106 i71 (in_c 1 rfl) rfl; have a11 := in_u i94; have a12 := t_add e89 i71 (in_c 1 rfl) rfl; have oc := oc_299_109; omega
                                  have n230d : (s.2.2.1 109 27).toInt ≤ ((sF s217 109 27 z226).2.2.1 109 27).toInt := by have b0 : z226 = (sF s217 109 27 z226).2.2.1 109 27 := sF_get; first | (rw [← b0, ← e_109_27]; exact n230c) | (rw [← b0]; exact n230c)
                                  have n230e : ((Int32.ofInt 3)).toInt ≠ 0 → (u_109_27).toInt + 1 ≤ (z226).toInt := by have a0 := oa5 i94a i71 ((in_c 0 rfl)) i81 i226; have a5 := t_add e226 i71 (in_c 1 rfl) rfl; have a6 := oa4 ((in_c 1 rfl)) i217a ((in_c 3 rfl)) i107; have a10 := t_add e106 i71 (in_c 1 rfl) rfl; have a11 := in_u i94; have a12 := t_add e89 i71 (in_c 1 rfl) rfl; have oc := oc_299_109; omega
                                  have n230f : ((sF s217 109 27 z226).2.2.1 109 28).toInt ≠ 0 → (s.2.2.1 109 27).toInt + 1 ≤ ((sF s217 109 27 z226).2.2.1 109 27).toInt := by have b0 : (Int32.ofInt 3) = (sF s217 109 27 z226).2.2.1 109 28 := sF_ne rfl (fr_F (s := (sF (sF (sF sc0 109 29 w0_109_27) 109 30 z71) 109 28 (Int32.ofInt 3))) (sF_get) hF217 rfl); have b1 : z226 = (sF s217 109 27 z226).2.2.1 109 27 := sF_get; first | (rw [← b0, ← b1, ← e_109_27]; exact n230e) | (rw [← b0, ← b1]; exact n230e)
                                  have n230g : ((Int32.ofInt 3)).toInt = 1 → 97 ≤ (z71).toInt := by exact fun h => absurd h (by decide)
                                  have n230h : ((sF s217 109 27 z226).2.2.1 109 28).toInt = 1 → 97 ≤ ((sF s217 109 27 z226).2.2.1 109 30).toInt := by have b0 : (Int32.ofInt 3) = (sF s217 109 27 z226).2.2.1 109 28 := sF_ne rfl (fr_F (s := (sF (sF (sF sc0 109 29 w0_109_27) 109 30 z71) 109 28 (Int32.ofInt 3))) (sF_get) hF217 rfl); have b1 : z71 = (sF s217 109 27 z226).2.2.1 109 30 := sF_ne rfl (fr_F (s := (sF (sF (sF sc0 109 29 w0_109_27) 109 30 z71) 109 28 (Int32.ofInt 3))) (sF_ne rfl (sF_get)) hF217 rfl); rw [← b0, ← b1]; exact n230g
                                  have n230i : ((Int32.ofInt 3)).toInt = 1 → (z71).toInt ≤ 122 := by exact fun h => absurd h (by decide)
                                  have n230j : ((sF s217 109 27 z226).2.2.1 109 28).toInt = 1 → ((sF s217 109 27 z226).2.2.1 109 30).toInt ≤ 122 := by have b0 : (Int32.ofInt 3) = (sF s217 109 27 z226).2.2.1 109 28 := sF_ne rfl (fr_F (s := (sF (sF (sF sc0 109 29 w0_109_27) 109 30 z71) 109 28 (Int32.ofInt 3))) (sF_get) hF217 rfl); have b1 : z71 = (sF s217 109 27 z226).2.2.1 109 30 := sF_ne rfl (fr_F (s := (sF (sF (sF sc0 109 29 w0_109_27) 109 30 z71) 109 28 (Int32.ofInt 3))) (sF_ne rfl (sF_get)) hF217 rfl); rw [← b0, ← b1]; exact n230i
                                  exact g_return (gd rfl) rfl (hP _ _ ⟨(sF s217 109 27 z226), hI227, (fr_sF rfl (fr_tr rfl (fr_sF rfl (fr_sF rfl (fr_sF rfl hFc0))) hF217)), n230b, n230d, n230f, n230h, n230j, rfl, rfl, n230⟩)
                            · skip
                              exact zn_ne c186 (in_c 0 rfl) rfl
                          · skip
                            exact n_le c183x3 (in_c 97 rfl) i81 rfl
                        · skip
                          exact zn_ne c128 (in_c 0 rfl) rfl
                    · skip
                      exact n_le c121x3 (in_c 48 rfl) i81 rfl
                  · skip
                    exact zn_ne c111 (in_c 0 rfl) rfl
                · skip
                  have i108x9 := r_le1 48 57 c108x9 i108x3 (in_c 57 rfl) rfl
                  refine g_iconst 1 13 (gd rfl) rfl rfl ?_
                  refine g_goto 17 (gd rfl) rfl ?_
                  refine g_ireturn (gd rfl) rfl (nb01 (in_w 0 1 (in_c 1 rfl) rfl)) (hp108 _ _ ?_)
                  show GG _ _ _ _ _ _ _ _ [.int (Int32.ofInt 1)] _ _ _
                  refine g_if_eq 114 118 (gd rfl) rfl rfl (fun c111 => ?_) (fun c111 => ?_)
                  · skip
                    exact zn_eq c111 (in_c 1 rfl) rfl
                  · skip
                    refine g_iconst 1 115 (gd rfl) rfl rfl ?_
                    refine g_goto 119 (gd rfl) rfl ?_
                    refine g_istore_n 120 (gd rfl) rfl (Nat.le_of_ble_eq_true rfl) ?_
                    refine g_iload_n 121 (gd rfl) rfl rfl ?_
                    refine g_calls (As := [.int z71]) (r := []) 124 (gd rfl) rfl rfl rfl rfl rfl (Nat.le_of_ble_eq_true rfl) (mc := 0) (ms := 0) (Nat.zero_le _) (Nat.zero_le _) (P := fun v u => _) ?_ (fun v u h => h)
                    intro po121 xx121 hp121 hx121
                    refine g_enter2 (k := 297) (N := 300) (by first | exact dq1 hd rfl | exact dq0 hd rfl | exact dq2 hd rfl | exact dq3 hd rfl | omega) rfl (Nat.le_of_ble_eq_true rfl) ?_
                    refine g_iload_n 1 (gd rfl) rfl rfl ?_
                    refine g_bipush 48 3 (gd rfl) rfl rfl ?_
                    refine g_cmp_lt 6 16 (gd rfl) rfl rfl (fun c121x3 => ?_) (fun c121x3 => ?_)
                    · skip
                      refine g_iconst 0 17 (gd rfl) rfl rfl ?_
                      refine g_ireturn (gd rfl) rfl (nb01 (in_w 0 1 (in_c 0 rfl) rfl)) (hp121 _ _ ?_)
                      show GG _ _ _ _ _ _ _ _ [.int (Int32.ofInt 0)] _ _ _
                      refine g_if_ne 127 131 (gd rfl) rfl rfl (fun c124 => ?_) (fun c124 => ?_)
                      · skip
                        exact zn_ne c124 (in_c 0 rfl) rfl
                      · skip
                        refine g_iload_n 128 (gd rfl) rfl rfl ?_
                        refine g_if_eq 131 181 (gd rfl) rfl rfl (fun c128 => ?_) (fun c128 => ?_)
                        · skip
                          exact zn_eq c128 (in_c 1 rfl) rfl
                        · skip
                          refine g_aload_n 132 (gd rfl) rfl rfl ?_
                          refine g_iconst 2 133 (gd rfl) rfl rfl ?_
                          refine g_putI 136 (gd rfl) rfl rfl rfl rfl ?_
                          have hI133 := inv_sF (q := 109) (j := 28) hI75 rfl (in_w (-2147483648) 2147483647 (in_c 2 rfl) rfl)
                          refine g_aload_n 137 (gd rfl) rfl rfl ?_
                          refine g_dup 138 (gd rfl) rfl rfl ?_
                          refine g_getI 141 (gd rfl) rfl rfl rfl (fun z138 e138 => ?_)
                          have q138 : w0_109_27 = z138 := (sF_ne rfl (sF_ne rfl (sF_ne rfl (v0_109_27)))).trans e138.symm
                          subst q138
                          refine g_iload_n 142 (gd rfl) rfl rfl ?_
                          refine g_if_eq 145 149 (gd rfl) rfl rfl (fun c142 => ?_) (fun c142 => ?_)
                          · skip
                            exact zn_eq c142 (in_c 1 rfl) rfl
                          · skip
                            refine g_iconst 1 146 (gd rfl) rfl rfl ?_
                            refine g_goto 150 (gd rfl) rfl ?_
                            refine g_iadd 151 (gd rfl) rfl (fun z150 e150 => ?_)
                            have i150 := in_add 1 1000 e150 i71 (in_c 1 rfl) rfl rfl
                            refine g_putI 154 (gd rfl) rfl rfl rfl rfl ?_
                            have hI151 := inv_sF (q := 109) (j := 27) hI133 rfl (in_w 0 1000 i150 rfl)
                            refine g_aload_n 155 (gd rfl) rfl rfl ?_
                            refine g_bipush 7 157 (gd rfl) rfl rfl ?_
                            have hA9 : _ = (sF (sF (sF (sF sc0 109 29 w0_109_27) 109 30 z71) 109 28 (Int32.ofInt 2)) 109 27 z150).2.2.1 109 27 := (show z150 = (sF (sF (sF (sF sc0 109 29 w0_109_27) 109 30 z71) 109 28 (Int32.ofInt 2)) 109 27 z150).2.2.1 109 27 from sF_get)
                            have hL9 : u_109_22 = (sF (sF (sF (sF sc0 109 29 w0_109_27) 109 30 z71) 109 28 (Int32.ofInt 2)) 109 27 z150).2.2.1 109 22 := (show u_109_22 = (sF (sF (sF (sF sc0 109 29 w0_109_27) 109 30 z71) 109 28 (Int32.ofInt 2)) 109 27 z150).2.2.1 109 22 from sF_ne rfl (sF_ne rfl (sF_ne rfl (sF_ne rfl (fr_F e_109_22 hFc0 rfl)))))
                            have hX9 : (sF (sF (sF (sF sc0 109 29 w0_109_27) 109 30 z71) 109 28 (Int32.ofInt 2)) 109 27 z150).1 125 = s.1 125 := hFc0.1 125 rfl
                            have hP9 : _ = (sF (sF (sF (sF sc0 109 29 w0_109_27) 109 30 z71) 109 28 (Int32.ofInt 2)) 109 27 z150).2.2.1 109 29 := (show w0_109_27 = (sF (sF (sF (sF sc0 109 29 w0_109_27) 109 30 z71) 109 28 (Int32.ofInt 2)) 109 27 z150).2.2.1 109 29 from sF_ne rfl (sF_ne rfl (sF_ne rfl (sF_get))))
                            have hF9 : FSM s (sF (sF (sF (sF sc0 109 29 w0_109_27) 109 30 z71) 109 28 (Int32.ofInt 2)) 109 27 z150) := g0_1
                            have v157 : z150 = (sF (sF (sF (sF sc0 109 29 w0_109_27) 109 30 z71) 109 28 (Int32.ofInt 2)) 109 27 z150).2.2.1 109 27 := sF_get
                            have v157a : u_109_22 = (sF (sF (sF (sF sc0 109 29 w0_109_27) 109 30 z71) 109 28 (Int32.ofInt 2)) 109 27 z150).2.2.1 109 22 := sF_ne rfl (sF_ne rfl (sF_ne rfl (sF_ne rfl (fr_F e_109_22 hFc0 rfl))))
                            have n157 : (z150).toInt < (u_109_22).toInt := by have a0 := oa5 i94a i71 ((in_c 1 rfl)) i81 i150; have a5 := t_add e150 i71 (in_c 1 rfl) rfl; have a6 := oa2 ((in_c 2 rfl)) i107; have a8 := t_add e106 i71 (in_c 1 rfl) rfl; have a9 := in_u i94; have a10 := t_add e89 i71 (in_c 1 rfl) rfl; have oc := oc_299_109; omega
                            have p157 : 48 ≤ ((sF (sF (sF (sF sc0 109 29 w0_109_27) 109 30 z71) 109 28 (Int32.ofInt 2)) 109 27 z150).1 125 ((sF (sF (sF (sF sc0 109 29 w0_109_27) 109 30 z71) 109 28 (Int32.ofInt 2)) 109 27 z150).2.2.1 109 27).toNatClampNeg).toInt ∧ ((sF (sF (sF (sF sc0 109 29 w0_109_27) 109 30 z71) 109 28 (Int32.ofInt 2)) 109 27 z150).1 125 ((sF (sF (sF (sF sc0 109 29 w0_109_27) 109 30 z71) 109 28 (Int32.ofInt 2)) 109 27 z150).2.2.1 109 27).toNatClampNeg).toInt ≤ 57 := by first | (have hz : z107 = (sF (sF (sF (sF sc0 109 29 w0_109_27) 109 30 z71) 109 28 (Int32.ofInt 2)) 109 27 z150).1 125 ((sF (sF (sF (sF sc0 109 29 w0_109_27) 109 30 z71) 109 28 (Int32.ofInt 2)) 109 27 z150).2.2.1 109 27).toNatClampNeg := (by rw [← (show z150 = (sF (sF (sF (sF sc0 109 29 w0_109_27) 109 30 z71) 109 28 (Int32.ofInt 2)) 109 27 z150).2.2.1 109 27 from sF_get), e150, ← e106]; exact e107); rw [← hz]; exact i108x9) | (have hz : z19 = (sF (sF (sF (sF sc0 109 29 w0_109_27) 109 30 z71) 109 28 (Int32.ofInt 2)) 109 27 z150).1 125 ((sF (sF (sF (sF sc0 109 29 w0_109_27) 109 30 z71) 109 28 (Int32.ofInt 2)) 109 27 z150).2.2.1 109 27).toNatClampNeg := (by rw [← (show z150 = (sF (sF (sF (sF sc0 109 29 w0_109_27) 109 30 z71) 109 28 (Int32.ofInt 2)) 109 27 z150).2.2.1 109 27 from sF_get), e150, show w0_109_27 + Int32.ofInt 0 = w0_109_27 from Int32.add_zero _]; exact e19); rw [← hz]; exact i121x9) | (have hz : z71 = (sF (sF (sF (sF sc0 109 29 w0_109_27) 109 30 z71) 109 28 (Int32.ofInt 2)) 109 27 z150).1 125 ((sF (sF (sF (sF sc0 109 29 w0_109_27) 109 30 z71) 109 28 (Int32.ofInt 2)) 109 27 z150).2.2.1 109 27).toNatClampNeg := (by rw [← (show z150 = (sF (sF (sF (sF sc0 109 29 w0_109_27) 109 30 z71) 109 28 (Int32.ofInt 2)) 109 27 z150).2.2.1 109 27 from sF_get), e150, show w0_109_27 + Int32.ofInt 0 = w0_109_27 from Int32.add_zero _]; exact e71); rw [← hz]; exact i121x9)
                            refine g_callv (X := _) (As := [.int (Int32.ofInt 7)]) (r := []) (b := A 109) (q := 109) 160 (gd rfl) rfl rfl rfl rfl rfl (ww_o rfl) (Nat.le_of_ble_eq_true rfl) (Nat.zero_le _) (Nat.zero_le _) (f_300 (by first | exact dq1 hd rfl | exact dq0 hd rfl | exact dq2 hd rfl | exact dq3 hd rfl | omega) hI151 (in_w 7 7 (in_c 7 rfl) rfl) v157 v157a n157 p157) (fun e u h => h) (fun v u h => ?_)
                            obtain ⟨s157, hI157, hF157, n157a, n157b, rfl, rfl, p157a⟩ := h
                            obtain ⟨z157a, e157⟩ : ∃ w, w = s157.2.2.1 109 27 := ⟨_, rfl⟩
                            have i157a := inv_F hI157 0 1000 rfl e157
                            rw [← (show z157a = s157.2.2.1 109 27 from e157)] at n157a
                            rw [← (show u_109_22 = s157.2.2.1 109 22 from fr_F (s := (sF (sF (sF (sF sc0 109 29 w0_109_27) 109 30 z71) 109 28 (Int32.ofInt 2)) 109 27 z150)) (sF_ne rfl (sF_ne rfl (sF_ne rfl (sF_ne rfl (fr_F e_109_22 hFc0 rfl))))) hF157 rfl)] at n157a
                            rw [← (show z150 = (sF (sF (sF (sF sc0 109 29 w0_109_27) 109 30 z71) 109 28 (Int32.ofInt 2)) 109 27 z150).2.2.1 109 27 from sF_get)] at n157b
                            rw [← (show z157a = s157.2.2.1 109 27 from e157)] at n157b
                            show GG _ _ _ _ _ _ _ _ [] _ _ _
                            refine g_aload_n 161 (gd rfl) rfl rfl ?_
                            refine g_iload_n 162 (gd rfl) rfl rfl ?_
                            refine g_if_eq 165 173 (gd rfl) rfl rfl (fun c162 => ?_) (fun c162 => ?_)
                            · skip
                              exact zn_eq c162 (in_c 1 rfl) rfl
                            · skip
                              refine g_aload_n 166 (gd rfl) rfl rfl ?_
                              refine g_getL 169 (gd rfl) rfl rfl rfl (fun z166 e166 => ?_)
                              refine g_lneg 170 (gd rfl) rfl (fun z169 e169 => ?_)
                              refine g_goto 177 (gd rfl) rfl ?_
                              refine g_putL 180 (gd rfl) rfl rfl rfl rfl ?_
                              have hI177 := inv_sG (q := 109) (j := 31) (x := z169) hI157 rfl (l_rng z169)
                              have n180 : ∃ k v, TKN (s.1 125) (s.2.2.1 109 22).toInt.toNat (s.2.2.1 109 27).toInt.toNat ((sG s157 109 31 z169).2.2.1 109 29).toInt.toNat ((sG s157 109 31 z169).2.2.1 109 27).toInt.toNat k v ∧ NTK s (sG s157 109 31 z169) k v := by exfalso; have a0 := oa7 i94a i71 ((in_c 1 rfl)) i81 i157a ((in_c 2 rfl)) i150; have a7 := t_add e150 i71 (in_c 1 rfl) rfl; have a8 := in_u i107; have a9 := t_add e106 i71 (in_c 1 rfl) rfl; have a10 := in_u i94; have a11 := t_add e89 i71 (in_c 1 rfl) rfl; have oc := oc_299_109; omega
                              have n180a : (z157a).toInt ≤ (u_109_22).toInt := by have a0 := oa7 i94a i71 ((in_c 1 rfl)) i81 i157a ((in_c 2 rfl)) i150; have a7 := t_add e150 i71 (in_c 1 rfl) rfl; have a8 := in_u i107; have a9 := t_add e106 i71 (in_c 1 rfl) rfl; have a10 := in_u i94; have a11 := t_add e89 i71 (in_c 1 rfl) rfl; have oc := oc_299_109; omega
                              have n180b : ((sG s157 109 31 z169).2.2.1 109 27).toInt ≤ ((sG s157 109 31 z169).2.2.1 109 22).toInt := by have b0 : z157a = (sG s157 109 31 z169).2.2.1 109 27 := sG_F (e157); have b1 : u_109_22 = (sG s157 109 31 z169).2.2.1 109 22 := sG_F (fr_F (s := (sF (sF (sF (sF sc0 109 29 w0_109_27) 109 30 z71) 109 28 (Int32.ofInt 2)) 109 27 z150)) (sF_ne rfl (sF_ne rfl (sF_ne rfl (sF_ne rfl (fr_F e_109_22 hFc0 rfl))))) hF157 rfl); rw [← b0, ← b1]; exact n180a
                              have n180c : (u_109_27).toInt ≤ (z157a).toInt := by have a0 := oa7 i94a i71 ((in_c 1 rfl)) i81 i157a ((in_c 2 rfl)) i150; have a7 := t_add e150 i71 (in_c 1 rfl) rfl; have a8 := in_u i107; have a9 := t_add e106 i71 (in_c 1 rfl) rfl; have a10 := in_u i94; have a11 := t_add e89 i71 (in_c 1 rfl) rfl; have oc := oc_299_109; omega
                              have n180d : (s.2.2.1 109 27).toInt ≤ ((sG s157 109 31 z169).2.2.1 109 27).toInt := by have b0 : z157a = (sG s157 109 31 z169).2.2.1 109 27 := sG_F (e157); first | (rw [← b0, ← e_109_27]; exact n180c) | (rw [← b0]; exact n180c)
                              have n180e : ((Int32.ofInt 2)).toInt ≠ 0 → (u_109_27).toInt + 1 ≤ (z157a).toInt := by have a0 := oa7 i94a i71 ((in_c 1 rfl)) i81 i157a ((in_c 2 rfl)) i150; have a7 := t_add e150 i71 (in_c 1 rfl) rfl; have a8 := in_u i107; have a9 := t_add e106 i71 (in_c 1 rfl) rfl; have a10 := in_u i94; have a11 := t_add e89 i71 (in_c 1 rfl) rfl; have oc := oc_299_109; omega
                              have n180f : ((sG s157 109 31 z169).2.2.1 109 28).toInt ≠ 0 → (s.2.2.1 109 27).toInt + 1 ≤ ((sG s157 109 31 z169).2.2.1 109 27).toInt := by have b0 : (Int32.ofInt 2) = (sG s157 109 31 z169).2.2.1 109 28 := sG_F (fr_F (s := (sF (sF (sF (sF sc0 109 29 w0_109_27) 109 30 z71) 109 28 (Int32.ofInt 2)) 109 27 z150)) (sF_ne rfl (sF_get)) hF157 rfl); have b1 : z157a = (sG s157 109 31 z169).2.2.1 109 27 := sG_F (e157); first | (rw [← b0, ← b1, ← e_109_27]; exact n180e) | (rw [← b0, ← b1]; exact n180e)
                              have n180g : ((Int32.ofInt 2)).toInt = 1 → 97 ≤ (z71).toInt := by exact fun h => absurd h (by decide)
                              have n180h : ((sG s157 109 31 z169).2.2.1 109 28).toInt = 1 → 97 ≤ ((sG s157 109 31 z169).2.2.1 109 30).toInt := by have b0 : (Int32.ofInt 2) = (sG s157 109 31 z169).2.2.1 109 28 := sG_F (fr_F (s := (sF (sF (sF (sF sc0 109 29 w0_109_27) 109 30 z71) 109 28 (Int32.ofInt 2)) 109 27 z150)) (sF_ne rfl (sF_get)) hF157 rfl); have b1 : z71 = (sG s157 109 31 z169).2.2.1 109 30 := sG_F (fr_F (s := (sF (sF (sF (sF sc0 109 29 w0_109_27) 109 30 z71) 109 28 (Int32.ofInt 2)) 109 27 z150)) (sF_ne rfl (sF_ne rfl (sF_get))) hF157 rfl); rw [← b0, ← b1]; exact n180g
                              have n180i : ((Int32.ofInt 2)).toInt = 1 → (z71).toInt ≤ 122 := by exact fun h => absurd h (by decide)
                              have n180j : ((sG s157 109 31 z169).2.2.1 109 28).toInt = 1 → ((sG s157 109 31 z169).2.2.1 109 30).toInt ≤ 122 := by have b0 : (Int32.ofInt 2) = (sG s157 109 31 z169).2.2.1 109 28 := sG_F (fr_F (s := (sF (sF (sF (sF sc0 109 29 w0_109_27) 109 30 z71) 109 28 (Int32.ofInt 2)) 109 27 z150)) (sF_ne rfl (sF_get)) hF157 rfl); have b1 : z71 = (sG s157 109 31 z169).2.2.1 109 30 := sG_F (fr_F (s := (sF (sF (sF (sF sc0 109 29 w0_109_27) 109 30 z71) 109 28 (Int32.ofInt 2)) 109 27 z150)) (sF_ne rfl (sF_ne rfl (sF_get))) hF157 rfl); rw [← b0, ← b1]; exact n180i
                              exact g_return (gd rfl) rfl (hP _ _ ⟨(sG s157 109 31 z169), hI177, (fr_sG rfl (fr_tr rfl (fr_sF rfl (fr_sF rfl (fr_sF rfl (fr_sF rfl hFc0)))) hF157)), n180b, n180d, n180f, n180h, n180j, rfl, rfl, n180⟩)
                    · skip
                      exact n_le c121x3 (in_c 48 rfl) i81 rfl
        · skip
          refine g_aload_n 58 (gd rfl) rfl rfl ?_
          refine g_iconst 0 59 (gd rfl) rfl rfl ?_
          refine g_putI 62 (gd rfl) rfl rfl rfl rfl ?_
          have hI59 := inv_sF (q := 109) (j := 28) hI43 rfl (in_w (-2147483648) 2147483647 (in_c 0 rfl) rfl)
          have n62 : ∃ k v, TKN (s.1 125) (s.2.2.1 109 22).toInt.toNat (s.2.2.1 109 27).toInt.toNat ((sF (sF sc0 109 29 w0_109_27) 109 28 (Int32.ofInt 0)).2.2.1 109 29).toInt.toNat ((sF (sF sc0 109 29 w0_109_27) 109 28 (Int32.ofInt 0)).2.2.1 109 27).toInt.toNat k v ∧ NTK s (sF (sF sc0 109 29 w0_109_27) 109 28 (Int32.ofInt 0)) k v := by have hS : tkS (s.1 125) (u_109_22).toInt.toNat (u_109_27).toInt.toNat w0_109_27.toInt.toNat := ⟨by have a0 := oa3 ro_109_22 ((inv_F hIc0 0 1000 rfl v0_109_27)) ((in_c 0 rfl)); have oc := oc_299_109; omega, by have a0 := oa3 ro_109_22 ((inv_F hIc0 0 1000 rfl v0_109_27)) ((in_c 0 rfl)); have oc := oc_299_109; omega, fun i a b => g0_0 i (by rw [← e_109_27]; exact a) (by have a0 := oa3 ro_109_22 ((inv_F hIc0 0 1000 rfl v0_109_27)) ((in_c 0 rfl)); have oc := oc_299_109; omega), fun h => by exfalso; have a0 := oa3 ro_109_22 ((inv_F hIc0 0 1000 rfl v0_109_27)) ((in_c 0 rfl)); have oc := oc_299_109; omega⟩; refine ⟨0, 0, ?_, ?_⟩; (rw [← (show w0_109_27 = (sF (sF sc0 109 29 w0_109_27) 109 28 (Int32.ofInt 0)).2.2.1 109 27 from sF_ne rfl (sF_ne rfl (v0_109_27))), ← (show w0_109_27 = (sF (sF sc0 109 29 w0_109_27) 109 28 (Int32.ofInt 0)).2.2.1 109 29 from sF_ne rfl (sF_get)), ← e_109_22, ← e_109_27]; exact tkn_0 hS (by have a0 := oa3 ro_109_22 ((inv_F hIc0 0 1000 rfl v0_109_27)) ((in_c 0 rfl)); have oc := oc_299_109; omega) (by have a0 := oa3 ro_109_22 ((inv_F hIc0 0 1000 rfl v0_109_27)) ((in_c 0 rfl)); have oc := oc_299_109; omega) rfl); (exact ntk_0 ((show (Int32.ofInt 0) = (sF (sF sc0 109 29 w0_109_27) 109 28 (Int32.ofInt 0)).2.2.1 109 28 from sF_get)).symm g0_1)
          have n62a : (w0_109_27).toInt ≤ (u_109_22).toInt := by first | exact n0_0 | (have a0 := oa3 ro_109_22 ((inv_F hIc0 0 1000 rfl v0_109_27)) ((in_c 0 rfl)); have oc := oc_299_109; omega)
          have n62b : ((sF (sF sc0 109 29 w0_109_27) 109 28 (Int32.ofInt 0)).2.2.1 109 27).toInt ≤ ((sF (sF sc0 109 29 w0_109_27) 109 28 (Int32.ofInt 0)).2.2.1 109 22).toInt := by have b0 : w0_109_27 = (sF (sF sc0 109 29 w0_109_27) 109 28 (Int32.ofInt 0)).2.2.1 109 27 := sF_ne rfl (sF_ne rfl (v0_109_27)); have b1 : u_109_22 = (sF (sF sc0 109 29 w0_109_27) 109 28 (Int32.ofInt 0)).2.2.1 109 22 := sF_ne rfl (sF_ne rfl (fr_F e_109_22 hFc0 rfl)); rw [← b0, ← b1]; exact n62a
          have n62c : (u_109_27).toInt ≤ (w0_109_27).toInt := by first | exact n0_1 | (have a0 := oa3 ro_109_22 ((inv_F hIc0 0 1000 rfl v0_109_27)) ((in_c 0 rfl)); have oc := oc_299_109; omega)
          have n62d : (s.2.2.1 109 27).toInt ≤ ((sF (sF sc0 109 29 w0_109_27) 109 28 (Int32.ofInt 0)).2.2.1 109 27).toInt := by have b0 : w0_109_27 = (sF (sF sc0 109 29 w0_109_27) 109 28 (Int32.ofInt 0)).2.2.1 109 27 := sF_ne rfl (sF_ne rfl (v0_109_27)); first | (rw [← b0, ← e_109_27]; exact n62c) | (rw [← b0]; exact n62c)
          have n62e : ((Int32.ofInt 0)).toInt ≠ 0 → (u_109_27).toInt + 1 ≤ (w0_109_27).toInt := by exact fun h => absurd rfl h
          have n62f : ((sF (sF sc0 109 29 w0_109_27) 109 28 (Int32.ofInt 0)).2.2.1 109 28).toInt ≠ 0 → (s.2.2.1 109 27).toInt + 1 ≤ ((sF (sF sc0 109 29 w0_109_27) 109 28 (Int32.ofInt 0)).2.2.1 109 27).toInt := by have b0 : (Int32.ofInt 0) = (sF (sF sc0 109 29 w0_109_27) 109 28 (Int32.ofInt 0)).2.2.1 109 28 := sF_get; have b1 : w0_109_27 = (sF (sF sc0 109 29 w0_109_27) 109 28 (Int32.ofInt 0)).2.2.1 109 27 := sF_ne rfl (sF_ne rfl (v0_109_27)); first | (rw [← b0, ← b1, ← e_109_27]; exact n62e) | (rw [← b0, ← b1]; exact n62e)
          have n62g : ((Int32.ofInt 0)).toInt = 1 → 97 ≤ (((sF (sF sc0 109 29 w0_109_27) 109 28 (Int32.ofInt 0)).2.2.1 109 30)).toInt := by exact fun h => absurd h (by decide)
          have n62h : ((sF (sF sc0 109 29 w0_109_27) 109 28 (Int32.ofInt 0)).2.2.1 109 28).toInt = 1 → 97 ≤ ((sF (sF sc0 109 29 w0_109_27) 109 28 (Int32.ofInt 0)).2.2.1 109 30).toInt := by have b0 : (Int32.ofInt 0) = (sF (sF sc0 109 29 w0_109_27) 109 28 (Int32.ofInt 0)).2.2.1 109 28 := sF_get; rw [← b0]; exact n62g
          have n62i : ((Int32.ofInt 0)).toInt = 1 → (((sF (sF sc0 109 29 w0_109_27) 109 28 (Int32.ofInt 0)).2.2.1 109 30)).toInt ≤ 122 := by exact fun h => absurd h (by decide)
          have n62j : ((sF (sF sc0 109 29 w0_109_27) 109 28 (Int32.ofInt 0)).2.2.1 109 28).toInt = 1 → ((sF (sF sc0 109 29 w0_109_27) 109 28 (Int32.ofInt 0)).2.2.1 109 30).toInt ≤ 122 := by have b0 : (Int32.ofInt 0) = (sF (sF sc0 109 29 w0_109_27) 109 28 (Int32.ofInt 0)).2.2.1 109 28 := sF_get; rw [← b0]; exact n62i
          exact g_return (gd rfl) rfl (hP _ _ ⟨(sF (sF sc0 109 29 w0_109_27) 109 28 (Int32.ofInt 0)), hI59, (fr_sF rfl (fr_sF rfl hFc0)), n62b, n62d, n62f, n62h, n62j, rfl, rfl, n62⟩)
      · skip
        have i8 := r_lt1 0 999 c8 (inv_F hIc0 0 1000 rfl v0_109_27) ro_109_22 rfl
        have i8a := r_lt2 1 1000 c8 (inv_F hIc0 0 1000 rfl v0_109_27) ro_109_22 rfl
        refine g_aload_n 12 (gd rfl) rfl rfl ?_
        refine g_getA (q2 := 125) 15 (gd rfl) rfl rfl rfl rfl ?_
        refine g_aload_n 16 (gd rfl) rfl rfl ?_
        refine g_getI 19 (gd rfl) rfl rfl rfl (fun z16 e16 => ?_)
        have q16 : w0_109_27 = z16 := (v0_109_27).trans e16.symm
        subst q16
        refine g_iaload 20 (gd rfl) rfl (n := 1000) rfl (in_ix i8 rfl) (fun z19 e19 => ?_)
        have i19 := inv_I hIc0 (n := 1000) (t := 0) 0 126 rfl (in_ix i8 rfl) rfl e19
        refine g_bipush 32 22 (gd rfl) rfl rfl ?_
        refine g_cmp_ne 25 38 (gd rfl) rfl rfl (fun c22 => ?_) (fun c22 => ?_)
        · skip
          refine g_aload_n 39 (gd rfl) rfl rfl ?_
          refine g_aload_n 40 (gd rfl) rfl rfl ?_
          refine g_getI 43 (gd rfl) rfl rfl rfl (fun z40 e40 => ?_)
          have q40 : w0_109_27 = z40 := (v0_109_27).trans e40.symm
          subst q40
          refine g_putI 46 (gd rfl) rfl rfl rfl rfl ?_
          have hI43 := inv_sF (q := 109) (j := 29) hIc0 rfl (in_w 0 1000 i8 rfl)
          refine g_aload_n 47 (gd rfl) rfl rfl ?_
          refine g_getI 50 (gd rfl) rfl rfl rfl (fun z47 e47 => ?_)
          have q47 : w0_109_27 = z47 := (sF_ne rfl (v0_109_27)).trans e47.symm
          subst q47
          refine g_aload_n 51 (gd rfl) rfl rfl ?_
          refine g_getI 54 (gd rfl) rfl rfl rfl (fun z51 e51 => ?_)
          have q51 : u_109_22 = z51 := (sF_ne rfl (fr_F e_109_22 hFc0 rfl)).trans e51.symm
          subst q51
          refine g_cmp_ne 57 63 (gd rfl) rfl rfl (fun c54 => ?_) (fun c54 => ?_)
          · skip
            refine g_aload_n 64 (gd rfl) rfl rfl ?_
            refine g_getA (q2 := 125) 67 (gd rfl) rfl rfl rfl rfl ?_
            refine g_aload_n 68 (gd rfl) rfl rfl ?_
            refine g_getI 71 (gd rfl) rfl rfl rfl (fun z68 e68 => ?_)
            have q68 : w0_109_27 = z68 := (sF_ne rfl (v0_109_27)).trans e68.symm
            subst q68
            refine g_iaload 72 (gd rfl) rfl (n := 1000) rfl (in_ix i8 rfl) (fun z71 e71 => ?_)
            have q71 : z19 = z71 := (sF_I (e19)).trans e71.symm
            subst q71
            refine g_istore_n 73 (gd rfl) rfl (Nat.le_of_ble_eq_true rfl) ?_
            refine g_aload_n 74 (gd rfl) rfl rfl ?_
            refine g_iload_n 75 (gd rfl) rfl rfl ?_
            refine g_putI 78 (gd rfl) rfl rfl rfl rfl ?_
            have hI75 := inv_sF (q := 109) (j := 30) hI43 rfl (in_w (-2147483648) 2147483647 i19 rfl)
            refine g_iload_n 79 (gd rfl) rfl rfl ?_
            refine g_bipush 45 81 (gd rfl) rfl rfl ?_
            refine g_cmp_ne 84 118 (gd rfl) rfl rfl (fun c81 => ?_) (fun c81 => ?_)
            · skip
              refine g_iconst 0 119 (gd rfl) rfl rfl ?_
              refine g_istore_n 120 (gd rfl) rfl (Nat.le_of_ble_eq_true rfl) ?_
              refine g_iload_n 121 (gd rfl) rfl rfl ?_
              refine g_calls (As := [.int z19]) (r := []) 124 (gd rfl) rfl rfl rfl rfl rfl (Nat.le_of_ble_eq_true rfl) (mc := 0) (ms := 0) (Nat.zero_le _) (Nat.zero_le _) (P := fun v u => _) ?_ (fun v u h => h)
              intro po121 xx121 hp121 hx121
              refine g_enter2 (k := 297) (N := 300) (by first | exact dq1 hd rfl | exact dq0 hd rfl | exact dq2 hd rfl | exact dq3 hd rfl | omega) rfl (Nat.le_of_ble_eq_true rfl) ?_
              refine g_iload_n 1 (gd rfl) rfl rfl ?_
              refine g_bipush 48 3 (gd rfl) rfl rfl ?_
              refine g_cmp_lt 6 16 (gd rfl) rfl rfl (fun c121x3 => ?_) (fun c121x3 => ?_)
              · skip
                have i121x3 := r_lt1 0 47 c121x3 i19 (in_c 48 rfl) rfl
                refine g_iconst 0 17 (gd rfl) rfl rfl ?_
                refine g_ireturn (gd rfl) rfl (nb01 (in_w 0 1 (in_c 0 rfl) rfl)) (hp121 _ _ ?_)
                show GG _ _ _ _ _ _ _ _ [.int (Int32.ofInt 0)] _ _ _
                refine g_if_ne 127 131 (gd rfl) rfl rfl (fun c124 => ?_) (fun c124 => ?_)
                · skip
                  exact zn_ne c124 (in_c 0 rfl) rfl
                · skip
                  refine g_iload_n 128 (gd rfl) rfl rfl ?_
                  refine g_if_eq 131 181 (gd rfl) rfl rfl (fun c128 => ?_) (fun c128 => ?_)
                  · skip
                    refine g_aload_n 182 (gd rfl) rfl rfl ?_
                    refine g_iload_n 183 (gd rfl) rfl rfl ?_
                    refine g_calls (As := [.int z19]) (r := [.ref (A 109)]) 186 (gd rfl) rfl rfl rfl rfl rfl (Nat.le_of_ble_eq_true rfl) (mc := 0) (ms := 0) (Nat.zero_le _) (Nat.zero_le _) (P := fun v u => _) ?_ (fun v u h => h)
                    intro po183 xx183 hp183 hx183
                    refine g_enter2 (k := 296) (N := 300) (by first | exact dq1 hd rfl | exact dq0 hd rfl | exact dq2 hd rfl | exact dq3 hd rfl | omega) rfl (Nat.le_of_ble_eq_true rfl) ?_
                    refine g_iload_n 1 (gd rfl) rfl rfl ?_
                    refine g_bipush 97 3 (gd rfl) rfl rfl ?_
                    refine g_cmp_lt 6 16 (gd rfl) rfl rfl (fun c183x3 => ?_) (fun c183x3 => ?_)
                    · skip
                      refine g_iconst 0 17 (gd rfl) rfl rfl ?_
                      refine g_ireturn (gd rfl) rfl (nb01 (in_w 0 1 (in_c 0 rfl) rfl)) (hp183 _ _ ?_)
                      show GG _ _ _ _ _ _ _ _ [.int (Int32.ofInt 0), .ref (A 109)] _ _ _
                      refine g_if_eq 189 193 (gd rfl) rfl rfl (fun c186 => ?_) (fun c186 => ?_)
                      · skip
                        refine g_iconst 3 194 (gd rfl) rfl rfl ?_
                        refine g_putI 197 (gd rfl) rfl rfl rfl rfl ?_
                        have hI194 := inv_sF (q := 109) (j := 28) hI75 rfl (in_w (-2147483648) 2147483647 (in_c 3 rfl) rfl)
                        refine g_aload_n 198 (gd rfl) rfl rfl ?_
                        refine g_getI 201 (gd rfl) rfl rfl rfl (fun z198 e198 => ?_)
                        have q198 : (Int32.ofInt 3) = z198 := (sF_get).trans e198.symm
                        subst q198
                        refine g_iconst 3 202 (gd rfl) rfl rfl ?_
                        refine g_cmp_ne 205 220 (gd rfl) rfl rfl (fun c202 => ?_) (fun c202 => ?_)
                        · skip
                          exact n_ne c202 (in_c 3 rfl) (in_c 3 rfl) rfl
                        · skip
                          refine g_iload_n 206 (gd rfl) rfl rfl ?_
                          refine g_bipush 59 208 (gd rfl) rfl rfl ?_
                          refine g_cmp_eq 211 220 (gd rfl) rfl rfl (fun c208 => ?_) (fun c208 => ?_)
                          · skip
                            exact n_eq c208 i121x3 (in_c 59 rfl) rfl
                          · skip
                            refine g_aload_n 212 (gd rfl) rfl rfl ?_
                            refine g_iconst 1 213 (gd rfl) rfl rfl ?_
                            refine g_aload_n 214 (gd rfl) rfl rfl ?_
                            refine g_getI 217 (gd rfl) rfl rfl rfl (fun z214 e214 => ?_)
                            have q214 : w0_109_27 = z214 := (sF_ne rfl (sF_ne rfl (sF_get))).trans e214.symm
                            subst q214
                            refine g_callv (X := _) (As := [.int (Int32.ofInt 1), .int w0_109_27]) (r := []) (b := A 109) (q := 109) 220 (gd rfl) rfl rfl rfl rfl rfl (ww_o rfl) (Nat.le_of_ble_eq_true rfl) (Nat.zero_le _) (Nat.zero_le _) (f_298 (by first | exact dq1 hd rfl | exact dq0 hd rfl | exact dq2 hd rfl | exact dq3 hd rfl | omega) hI194 (in_w 1 5 (in_c 1 rfl) rfl) rfl) (fun e u h => h) (fun v u h => ?_)
                            obtain ⟨s217, hI217, hF217, n217, rfl, rfl, p217⟩ := h
                            obtain ⟨z217a, e217⟩ : ∃ w, w = s217.2.2.1 109 23 := ⟨_, rfl⟩
                            have i217a := inv_F hI217 0 9 rfl e217
                            rw [← (show z217a = s217.2.2.1 109 23 from e217)] at n217
                            show GG _ _ _ _ _ _ _ _ [] _ _ _
                            refine g_aload_n 221 (gd rfl) rfl rfl ?_
                            refine g_dup 222 (gd rfl) rfl rfl ?_
                            refine g_getI 225 (gd rfl) rfl rfl rfl (fun z222 e222 => ?_)
                            have q222 : w0_109_27 = z222 := (fr_F (s := (sF (sF (sF sc0 109 29 w0_109_27) 109 30 z19) 109 28 (Int32.ofInt 3))) (sF_ne rfl (sF_ne rfl (sF_ne rfl (v0_109_27)))) hF217 rfl).trans e222.symm
                            subst q222
                            refine g_iconst 1 226 (gd rfl) rfl rfl ?_
                            refine g_iadd 227 (gd rfl) rfl (fun z226 e226 => ?_)
                            have i226 := in_add 1 1000 e226 i8 (in_c 1 rfl) rfl rfl
                            refine g_putI 230 (gd rfl) rfl rfl rfl rfl ?_
                            have hI227 := inv_sF (q := 109) (j := 27) hI217 rfl (in_w 0 1000 i226 rfl)
                            have n230 : ∃ k v, TKN (s.1 125) (s.2.2.1 109 22).toInt.toNat (s.2.2.1 109 27).toInt.toNat ((sF s217 109 27 z226).2.2.1 109 29).toInt.toNat ((sF s217 109 27 z226).2.2.1 109 27).toInt.toNat k v ∧ NTK s (sF s217 109 27 z226) k v := by have hT0 : s.1 125 w0_109_27.toInt.toNat = z19 := (by rw [e19, hFc0.1 125 rfl]; rfl); have hS : tkS (s.1 125) (u_109_22).toInt.toNat (u_109_27).toInt.toNat w0_109_27.toInt.toNat := ⟨by have a0 := oa5 i8a i8 ((in_c 0 rfl)) i121x3 i226; have a5 := t_add e226 i8 (in_c 1 rfl) rfl; have a6 := oa3 ((in_c 1 rfl)) i217a ((in_c 3 rfl)); have oc := oc_299_109; omega, by have a0 := oa5 i8a i8 ((in_c 0 rfl)) i121x3 i226; have a5 := t_add e226 i8 (in_c 1 rfl) rfl; have a6 := oa3 ((in_c 1 rfl)) i217a ((in_c 3 rfl)); have oc := oc_299_109; omega, fun i a b => g0_0 i (by rw [← e_109_27]; exact a) (by have a0 := oa5 i8a i8 ((in_c 0 rfl)) i121x3 i226; have a5 := t_add e226 i8 (in_c 1 rfl) rfl; have a6 := oa3 ((in_c 1 rfl)) i217a ((in_c 3 rfl)); have oc := oc_299_109; omega), fun _ => by rw [hT0]; have a0 := oa5 i8a i8 ((in_c 0 rfl)) i121x3 i226; have a5 := t_add e226 i8 (in_c 1 rfl) rfl; have a6 := oa3 ((in_c 1 rfl)) i217a ((in_c 3 rfl)); have oc := oc_299_109; omega⟩; refine ⟨4, 0, ?_, ?_⟩; (rw [← (show z226 = (sF s217 109 27 z226).2.2.1 109 27 from sF_get), ← (show w0_109_27 = (sF s217 109 27 z226).2.2.1 109 29 from sF_ne rfl (fr_F (s := (sF (sF (sF sc0 109 29 w0_109_27) 109 30 z19) 109 28 (Int32.ofInt 3))) (sF_ne rfl (sF_ne rfl (sF_get))) hF217 rfl)), ← e_109_22, ← e_109_27]; exact tkn_4 hS (by have a0 := oa5 i8a i8 ((in_c 0 rfl)) i121x3 i226; have a5 := t_add e226 i8 (in_c 1 rfl) rfl; have a6 := oa3 ((in_c 1 rfl)) i217a ((in_c 3 rfl)); have oc := oc_299_109; omega) (by rw [hT0]; unfold tkL; have a0 := oa5 i8a i8 ((in_c 0 rfl)) i121x3 i226; have a5 := t_add e226 i8 (in_c 1 rfl) rfl; have a6 := oa3 ((in_c 1 rfl)) i217a ((in_c 3 rfl)); have oc := oc_299_109; omega) (by rw [hT0]; have a0 := oa5 i8a i8 ((in_c 0 rfl)) i121x3 i226; have a5 := t_add e226 i8 (in_c 1 rfl) rfl; have a6 := oa3 ((in_c 1 rfl)) i217a ((in_c 3 rfl)); have oc := oc_299_109; omega) (by first | exact nq_1 (by rw [hT0]; unfold tkD; have a0 := oa5 i8a i8 ((in_c 0 rfl)) i121x3 i226; have a5 := t_add e226 i8 (in_c 1 rfl) rfl; have a6 := oa3 ((in_c 1 rfl)) i217a ((in_c 3 rfl)); have oc := oc_299_109; omega) (by rw [hT0]; have a0 := oa5 i8a i8 ((in_c 0 rfl)) i121x3 i226; have a5 := t_add e226 i8 (in_c 1 rfl) rfl; have a6 := oa3 ((in_c 1 rfl)) i217a ((in_c 3 rfl)); have oc := oc_299_109; omega) | exact nq_2 (by rw [hT0]; have a0 := oa5 i8a i8 ((in_c 0 rfl)) i121x3 i226; have a5 := t_add e226 i8 (in_c 1 rfl) rfl; have a6 := oa3 ((in_c 1 rfl)) i217a ((in_c 3 rfl)); have oc := oc_299_109; omega) (fun h => by first | (exfalso; have a0 := oa5 i8a i8 ((in_c 0 rfl)) i121x3 i226; have a5 := t_add e226 i8 (in_c 1 rfl) rfl; have a6 := oa3 ((in_c 1 rfl)) i217a ((in_c 3 rfl)); have oc := oc_299_109; omega) | (rw [show s.1 125 (w0_109_27.toInt.toNat + 1) = z107 from (by rw [e107, show z106.toNatClampNeg = w0_109_27.toInt.toNat + 1 from (by show z106.toInt.toNat = _; have a0 := oa5 i8a i8 ((in_c 0 rfl)) i121x3 i226; have a5 := t_add e226 i8 (in_c 1 rfl) rfl; have a6 := oa3 ((in_c 1 rfl)) i217a ((in_c 3 rfl)); have oc := oc_299_109; omega)]; exact congrFun (hFc0.1 125 rfl).symm _)]; unfold tkD; have a0 := oa5 i8a i8 ((in_c 0 rfl)) i121x3 i226; have a5 := t_add e226 i8 (in_c 1 rfl) rfl; have a6 := oa3 ((in_c 1 rfl)) i217a ((in_c 3 rfl)); have oc := oc_299_109; omega))) (by have a0 := oa5 i8a i8 ((in_c 0 rfl)) i121x3 i226; have a5 := t_add e226 i8 (in_c 1 rfl) rfl; have a6 := oa3 ((in_c 1 rfl)) i217a ((in_c 3 rfl)); have oc := oc_299_109; omega) rfl); (exact ntk_4 ((show (Int32.ofInt 3) = (sF s217 109 27 z226).2.2.1 109 28 from sF_ne rfl (fr_F (s := (sF (sF (sF sc0 109 29 w0_109_27) 109 30 z19) 109 28 (Int32.ofInt 3))) (sF_get) hF217 rfl))).symm (by rw [← (show z19 = (sF s217 109 27 z226).2.2.1 109 30 from sF_ne rfl (fr_F (s := (sF (sF (sF sc0 109 29 w0_109_27) 109 30 z19) 109 28 (Int32.ofInt 3))) (sF_ne rfl (sF_get)) hF217 rfl))]; have a0 := oa5 i8a i8 ((in_c 0 rfl)) i121x3 i226; have a5 := t_add e226 i8 (in_c 1 rfl) rfl; have a6 := oa3 ((in_c 1 rfl)) i217a ((in_c 3 rfl)); have oc := oc_299_109; omega) (fbl_tr g0_1 (by rw [← (show w0_109_27 = (sF s217 109 27 z226).2.2.1 109 29 from sF_ne rfl (fr_F (s := (sF (sF (sF sc0 109 29 w0_109_27) 109 30 z19) 109 28 (Int32.ofInt 3))) (sF_ne rfl (sF_ne rfl (sF_get))) hF217 rfl))]; exact p217)))
                            have n230a : (z226).toInt ≤ (u_109_22).toInt := by have a0 := oa5 i8a i8 ((in_c 0 rfl)) i121x3 i226; have a5 := t_add e226 i8 (in_c 1 rfl) rfl; have a6 := oa3 ((in_c 1 rfl)) i217a ((in_c 3 rfl)); have oc := oc_299_109; omega
                            have n230b : ((sF s217 109 27 z226).2.2.1 109 27).toInt ≤ ((sF s217 109 27 z226).2.2.1 109 22).toInt := by have b0 : z226 = (sF s217 109 27 z226).2.2.1 109 27 := sF_get; have b1 : u_109_22 = (sF s217 109 27 z226).2.2.1 109 22 := sF_ne rfl (fr_F (s := (sF (sF (sF sc0 109 29 w0_109_27) 109 30 z19) 109 28 (Int32.ofInt 3))) (sF_ne rfl (sF_ne rfl (sF_ne rfl (fr_F e_109_22 hFc0 rfl)))) hF217 rfl); rw [← b0, ← b1]; exact n230a
                            have n230c : (u_109_27).toInt ≤ (z226).toInt := by have a0 := oa5 i8a i8 ((in_c 0 rfl)) i121x3 i226; have a5 := t_add e226 i8 (in_c 1 rfl) rfl; have a6 := oa3 ((in_c 1 rfl)) i217a ((in_c 3 rfl)); have oc := oc_299_109; omega
                            have n230d : (s.2.2.1 109 27).toInt ≤ ((sF s217 109 27 z226).2.2.1 109 27).toInt := by have b0 : z226 = (sF s217 109 27 z226).2.2.1 109 27 := sF_get; first | (rw [← b0, ← e_109_27]; exact n230c) | (rw [← b0]; exact n230c)
                            have n230e : ((Int32.ofInt 3)).toInt ≠ 0 → (u_109_27).toInt + 1 ≤ (z226).toInt := by have a0 := oa5 i8a i8 ((in_c 0 rfl)) i121x3 i226; have a5 := t_add e226 i8 (in_c 1 rfl) rfl; have a6 := oa3 ((in_c 1 rfl)) i217a ((in_c 3 rfl)); have oc := oc_299_109; omega
                            have n230f : ((sF s217 109 27 z226).2.2.1 109 28).toInt ≠ 0 → (s.2.2.1 109 27).toInt + 1 ≤ ((sF s217 109 27 z226).2.2.1 109 27).toInt := by have b0 : (Int32.ofInt 3) = (sF s217 109 27 z226).2.2.1 109 28 := sF_ne rfl (fr_F (s := (sF (sF (sF sc0 109 29 w0_109_27) 109 30 z19) 109 28 (Int32.ofInt 3))) (sF_get) hF217 rfl); have b1 : z226 = (sF s217 109 27 z226).2.2.1 109 27 := sF_get; first | (rw [← b0, ← b1, ← e_109_27]; exact n230e) | (rw [← b0, ← b1]; exact n230e)
                            have n230g : ((Int32.ofInt 3)).toInt = 1 → 97 ≤ (z19).toInt := by exact fun h => absurd h (by decide)
                            have n230h : ((sF s217 109 27 z226).2.2.1 109 28).toInt = 1 → 97 ≤ ((sF s217 109 27 z226).2.2.1 109 30).toInt := by have b0 : (Int32.ofInt 3) = (sF s217 109 27 z226).2.2.1 109 28 := sF_ne rfl (fr_F (s := (sF (sF (sF sc0 109 29 w0_109_27) 109 30 z19) 109 28 (Int32.ofInt 3))) (sF_get) hF217 rfl); have b1 : z19 = (sF s217 109 27 z226).2.2.1 109 30 := sF_ne rfl (fr_F (s := (sF (sF (sF sc0 109 29 w0_109_27) 109 30 z19) 109 28 (Int32.ofInt 3))) (sF_ne rfl (sF_get)) hF217 rfl); rw [← b0, ← b1]; exact n230g
                            have n230i : ((Int32.ofInt 3)).toInt = 1 → (z19).toInt ≤ 122 := by exact fun h => absurd h (by decide)
                            have n230j : ((sF s217 109 27 z226).2.2.1 109 28).toInt = 1 → ((sF s217 109 27 z226).2.2.1 109 30).toInt ≤ 122 := by have b0 : (Int32.ofInt 3) = (sF s217 109 27 z226).2.2.1 109 28 := sF_ne rfl (fr_F (s := (sF (sF (sF sc0 109 29 w0_109_27) 109 30 z19) 109 28 (Int32.ofInt 3))) (sF_get) hF217 rfl); have b1 : z19 = (sF s217 109 27 z226).2.2.1 109 30 := sF_ne rfl (fr_F (s := (sF (sF (sF sc0 109 29 w0_109_27) 109 30 z19) 109 28 (Int32.ofInt 3))) (sF_ne rfl (sF_get)) hF217 rfl); rw [← b0, ← b1]; exact n230i
                            exact g_return (gd rfl) rfl (hP _ _ ⟨(sF s217 109 27 z226), hI227, (fr_sF rfl (fr_tr rfl (fr_sF rfl (fr_sF rfl (fr_sF rfl hFc0))) hF217)), n230b, n230d, n230f, n230h, n230j, rfl, rfl, n230⟩)
                      · skip
                        exact zn_ne c186 (in_c 0 rfl) rfl
                    · skip
                      exact n_le c183x3 (in_c 97 rfl) i121x3 rfl
                  · skip
                    exact zn_ne c128 (in_c 0 rfl) rfl
              · skip
                have i121x3 := r_le2 48 126 c121x3 (in_c 48 rfl) i19 rfl
                refine g_iload_n 7 (gd rfl) rfl rfl ?_
                refine g_bipush 57 9 (gd rfl) rfl rfl ?_
                refine g_cmp_gt 12 16 (gd rfl) rfl rfl (fun c121x9 => ?_) (fun c121x9 => ?_)
                · skip
                  have i121x9 := r_lt2 58 126 c121x9 (in_c 57 rfl) i121x3 rfl
                  refine g_iconst 0 17 (gd rfl) rfl rfl ?_
                  refine g_ireturn (gd rfl) rfl (nb01 (in_w 0 1 (in_c 0 rfl) rfl)) (hp121 _ _ ?_)
                  show GG _ _ _ _ _ _ _ _ [.int (Int32.ofInt 0)] _ _ _
                  refine g_if_ne 127 131 (gd rfl) rfl rfl (fun c124 => ?_) (fun c124 => ?_)
                  · skip
                    exact zn_ne c124 (in_c 0 rfl) rfl
                  · skip
                    refine g_iload_n 128 (gd rfl) rfl rfl ?_
                    refine g_if_eq 131 181 (gd rfl) rfl rfl (fun c128 => ?_) (fun c128 => ?_)
                    · skip
                      refine g_aload_n 182 (gd rfl) rfl rfl ?_
                      refine g_iload_n 183 (gd rfl) rfl rfl ?_
                      refine g_calls (As := [.int z19]) (r := [.ref (A 109)]) 186 (gd rfl) rfl rfl rfl rfl rfl (Nat.le_of_ble_eq_true rfl) (mc := 0) (ms := 0) (Nat.zero_le _) (Nat.zero_le _) (P := fun v u => _) ?_ (fun v u h => h)
                      intro po183 xx183 hp183 hx183
                      refine g_enter2 (k := 296) (N := 300) (by first | exact dq1 hd rfl | exact dq0 hd rfl | exact dq2 hd rfl | exact dq3 hd rfl | omega) rfl (Nat.le_of_ble_eq_true rfl) ?_
                      refine g_iload_n 1 (gd rfl) rfl rfl ?_
                      refine g_bipush 97 3 (gd rfl) rfl rfl ?_
                      refine g_cmp_lt 6 16 (gd rfl) rfl rfl (fun c183x3 => ?_) (fun c183x3 => ?_)
                      · skip
                        have i183x3 := r_lt1 58 96 c183x3 i121x9 (in_c 97 rfl) rfl
                        refine g_iconst 0 17 (gd rfl) rfl rfl ?_
                        refine g_ireturn (gd rfl) rfl (nb01 (in_w 0 1 (in_c 0 rfl) rfl)) (hp183 _ _ ?_)
                        show GG _ _ _ _ _ _ _ _ [.int (Int32.ofInt 0), .ref (A 109)] _ _ _
                        refine g_if_eq 189 193 (gd rfl) rfl rfl (fun c186 => ?_) (fun c186 => ?_)
                        · skip
                          refine g_iconst 3 194 (gd rfl) rfl rfl ?_
                          refine g_putI 197 (gd rfl) rfl rfl rfl rfl ?_
                          have hI194 := inv_sF (q := 109) (j := 28) hI75 rfl (in_w (-2147483648) 2147483647 (in_c 3 rfl) rfl)
                          refine g_aload_n 198 (gd rfl) rfl rfl ?_
                          refine g_getI 201 (gd rfl) rfl rfl rfl (fun z198 e198 => ?_)
                          have q198 : (Int32.ofInt 3) = z198 := (sF_get).trans e198.symm
                          subst q198
                          refine g_iconst 3 202 (gd rfl) rfl rfl ?_
                          refine g_cmp_ne 205 220 (gd rfl) rfl rfl (fun c202 => ?_) (fun c202 => ?_)
                          · skip
                            exact n_ne c202 (in_c 3 rfl) (in_c 3 rfl) rfl
                          · skip
                            refine g_iload_n 206 (gd rfl) rfl rfl ?_
                            refine g_bipush 59 208 (gd rfl) rfl rfl ?_
                            refine g_cmp_eq 211 220 (gd rfl) rfl rfl (fun c208 => ?_) (fun c208 => ?_)
                            · skip
                              have i208 := r_eq1 59 59 c208 i183x3 (in_c 59 rfl) rfl
                              refine g_aload_n 221 (gd rfl) rfl rfl ?_
                              refine g_dup 222 (gd rfl) rfl rfl ?_
                              refine g_getI 225 (gd rfl) rfl rfl rfl (fun z222 e222 => ?_)
                              have q222 : w0_109_27 = z222 := (sF_ne rfl (sF_ne rfl (sF_ne rfl (v0_109_27)))).trans e222.symm
                              subst q222
                              refine g_iconst 1 226 (gd rfl) rfl rfl ?_
                              refine g_iadd 227 (gd rfl) rfl (fun z226 e226 => ?_)
                              have i226 := in_add 1 1000 e226 i8 (in_c 1 rfl) rfl rfl
                              refine g_putI 230 (gd rfl) rfl rfl rfl rfl ?_
                              have hI227 := inv_sF (q := 109) (j := 27) hI194 rfl (in_w 0 1000 i226 rfl)
                              have n230 : ∃ k v, TKN (s.1 125) (s.2.2.1 109 22).toInt.toNat (s.2.2.1 109 27).toInt.toNat ((sF (sF (sF (sF sc0 109 29 w0_109_27) 109 30 z19) 109 28 (Int32.ofInt 3)) 109 27 z226).2.2.1 109 29).toInt.toNat ((sF (sF (sF (sF sc0 109 29 w0_109_27) 109 30 z19) 109 28 (Int32.ofInt 3)) 109 27 z226).2.2.1 109 27).toInt.toNat k v ∧ NTK s (sF (sF (sF (sF sc0 109 29 w0_109_27) 109 30 z19) 109 28 (Int32.ofInt 3)) 109 27 z226) k v := by first | (have hT0 : s.1 125 w0_109_27.toInt.toNat = z19 := (by rw [e19, hFc0.1 125 rfl]; rfl); have hS : tkS (s.1 125) (u_109_22).toInt.toNat (u_109_27).toInt.toNat w0_109_27.toInt.toNat := ⟨by have a0 := oa5 i8a i8 ((in_c 0 rfl)) i208 i226; have a5 := t_add e226 i8 (in_c 1 rfl) rfl; have a6 := oa2 ((in_c 1 rfl)) ((in_c 3 rfl)); have oc := oc_299_109; omega, by have a0 := oa5 i8a i8 ((in_c 0 rfl)) i208 i226; have a5 := t_add e226 i8 (in_c 1 rfl) rfl; have a6 := oa2 ((in_c 1 rfl)) ((in_c 3 rfl)); have oc := oc_299_109; omega, fun i a b => g0_0 i (by rw [← e_109_27]; exact a) (by have a0 := oa5 i8a i8 ((in_c 0 rfl)) i208 i226; have a5 := t_add e226 i8 (in_c 1 rfl) rfl; have a6 := oa2 ((in_c 1 rfl)) ((in_c 3 rfl)); have oc := oc_299_109; omega), fun _ => by rw [hT0]; have a0 := oa5 i8a i8 ((in_c 0 rfl)) i208 i226; have a5 := t_add e226 i8 (in_c 1 rfl) rfl; have a6 := oa2 ((in_c 1 rfl)) ((in_c 3 rfl)); have oc := oc_299_109; omega⟩; refine ⟨1, z19.toInt - 97, ?_, ?_⟩; (rw [← (show z226 = (sF (sF (sF (sF sc0 109 29 w0_109_27) 109 30 z19) 109 28 (Int32.ofInt 3)) 109 27 z226).2.2.1 109 27 from sF_get), ← (show w0_109_27 = (sF (sF (sF (sF sc0 109 29 w0_109_27) 109 30 z19) 109 28 (Int32.ofInt 3)) 109 27 z226).2.2.1 109 29 from sF_ne rfl (sF_ne rfl (sF_ne rfl (sF_get)))), ← e_109_22, ← e_109_27]; exact tkn_1 hS (by have a0 := oa5 i8a i8 ((in_c 0 rfl)) i208 i226; have a5 := t_add e226 i8 (in_c 1 rfl) rfl; have a6 := oa2 ((in_c 1 rfl)) ((in_c 3 rfl)); have oc := oc_299_109; omega) (by rw [hT0]; exact ⟨by have a0 := oa5 i8a i8 ((in_c 0 rfl)) i208 i226; have a5 := t_add e226 i8 (in_c 1 rfl) rfl; have a6 := oa2 ((in_c 1 rfl)) ((in_c 3 rfl)); have oc := oc_299_109; omega, by have a0 := oa5 i8a i8 ((in_c 0 rfl)) i208 i226; have a5 := t_add e226 i8 (in_c 1 rfl) rfl; have a6 := oa2 ((in_c 1 rfl)) ((in_c 3 rfl)); have oc := oc_299_109; omega⟩) (by have a0 := oa5 i8a i8 ((in_c 0 rfl)) i208 i226; have a5 := t_add e226 i8 (in_c 1 rfl) rfl; have a6 := oa2 ((in_c 1 rfl)) ((in_c 3 rfl)); have oc := oc_299_109; omega) rfl (by rw [hT0])); (exact ntk_1 ((show (Int32.ofInt 3) = (sF (sF (sF (sF sc0 109 29 w0_109_27) 109 30 z19) 109 28 (Int32.ofInt 3)) 109 27 z226).2.2.1 109 28 from sF_ne rfl (sF_get))).symm (by rw [← (show z19 = (sF (sF (sF (sF sc0 109 29 w0_109_27) 109 30 z19) 109 28 (Int32.ofInt 3)) 109 27 z226).2.2.1 109 30 from sF_ne rfl (sF_ne rfl (sF_get)))]; omega) g0_1)) | (have hT0 : s.1 125 w0_109_27.toInt.toNat = z19 := (by rw [e19, hFc0.1 125 rfl]; rfl); have hS : tkS (s.1 125) (u_109_22).toInt.toNat (u_109_27).toInt.toNat w0_109_27.toInt.toNat := ⟨by have a0 := oa5 i8a i8 ((in_c 0 rfl)) i208 i226; have a5 := t_add e226 i8 (in_c 1 rfl) rfl; have a6 := oa2 ((in_c 1 rfl)) ((in_c 3 rfl)); have oc := oc_299_109; omega, by have a0 := oa5 i8a i8 ((in_c 0 rfl)) i208 i226; have a5 := t_add e226 i8 (in_c 1 rfl) rfl; have a6 := oa2 ((in_c 1 rfl)) ((in_c 3 rfl)); have oc := oc_299_109; omega, fun i a b => g0_0 i (by rw [← e_109_27]; exact a) (by have a0 := oa5 i8a i8 ((in_c 0 rfl)) i208 i226; have a5 := t_add e226 i8 (in_c 1 rfl) rfl; have a6 := oa2 ((in_c 1 rfl)) ((in_c 3 rfl)); have oc := oc_299_109; omega), fun _ => by rw [hT0]; have a0 := oa5 i8a i8 ((in_c 0 rfl)) i208 i226; have a5 := t_add e226 i8 (in_c 1 rfl) rfl; have a6 := oa2 ((in_c 1 rfl)) ((in_c 3 rfl)); have oc := oc_299_109; omega⟩; refine ⟨3, 59, ?_, ?_⟩; (rw [← (show z226 = (sF (sF (sF (sF sc0 109 29 w0_109_27) 109 30 z19) 109 28 (Int32.ofInt 3)) 109 27 z226).2.2.1 109 27 from sF_get), ← (show w0_109_27 = (sF (sF (sF (sF sc0 109 29 w0_109_27) 109 30 z19) 109 28 (Int32.ofInt 3)) 109 27 z226).2.2.1 109 29 from sF_ne rfl (sF_ne rfl (sF_ne rfl (sF_get)))), ← e_109_22, ← e_109_27]; exact tkn_3 hS (by have a0 := oa5 i8a i8 ((in_c 0 rfl)) i208 i226; have a5 := t_add e226 i8 (in_c 1 rfl) rfl; have a6 := oa2 ((in_c 1 rfl)) ((in_c 3 rfl)); have oc := oc_299_109; omega) (by rw [hT0]; have a0 := oa5 i8a i8 ((in_c 0 rfl)) i208 i226; have a5 := t_add e226 i8 (in_c 1 rfl) rfl; have a6 := oa2 ((in_c 1 rfl)) ((in_c 3 rfl)); have oc := oc_299_109; omega) (by have a0 := oa5 i8a i8 ((in_c 0 rfl)) i208 i226; have a5 := t_add e226 i8 (in_c 1 rfl) rfl; have a6 := oa2 ((in_c 1 rfl)) ((in_c 3 rfl)); have oc := oc_299_109; omega) rfl rfl); (exact ntk_3 ((show (Int32.ofInt 3) = (sF (sF (sF (sF sc0 109 29 w0_109_27) 109 30 z19) 109 28 (Int32.ofInt 3)) 109 27 z226).2.2.1 109 28 from sF_ne rfl (sF_get))).symm (by rw [← (show z19 = (sF (sF (sF (sF sc0 109 29 w0_109_27) 109 30 z19) 109 28 (Int32.ofInt 3)) 109 27 z226).2.2.1 109 30 from sF_ne rfl (sF_ne rfl (sF_get)))]; have a0 := oa5 i8a i8 ((in_c 0 rfl)) i208 i226; have a5 := t_add e226 i8 (in_c 1 rfl) rfl; have a6 := oa2 ((in_c 1 rfl)) ((in_c 3 rfl)); have oc := oc_299_109; omega) g0_1))
                              have n230a : (z226).toInt ≤ (u_109_22).toInt := by have a0 := oa5 i8a i8 ((in_c 0 rfl)) i208 i226; have a5 := t_add e226 i8 (in_c 1 rfl) rfl; have a6 := oa2 ((in_c 1 rfl)) ((in_c 3 rfl)); have oc := oc_299_109; omega
                              have n230b : ((sF (sF (sF (sF sc0 109 29 w0_109_27) 109 30 z19) 109 28 (Int32.ofInt 3)) 109 27 z226).2.2.1 109 27).toInt ≤ ((sF (sF (sF (sF sc0 109 29 w0_109_27) 109 30 z19) 109 28 (Int32.ofInt 3)) 109 27 z226).2.2.1 109 22).toInt := by have b0 : z226 = (sF (sF (sF (sF sc0 109 29 w0_109_27) 109 30 z19) 109 28 (Int32.ofInt 3)) 109 27 z226).2.2.1 109 27 := sF_get; have b1 : u_109_22 = (sF (sF (sF (sF sc0 109 29 w0_109_27) 109 30 z19) 109 28 (Int32.ofInt 3)) 109 27 z226).2.2.1 109 22 := sF_ne rfl (sF_ne rfl (sF_ne rfl (sF_ne rfl (fr_F e_109_22 hFc0 rfl)))); rw [← b0, ← b1]; exact n230a
                              have n230c : (u_109_27).toInt ≤ (z226).toInt := by have a0 := oa5 i8a i8 ((in_c 0 rfl)) i208 i226; have a5 := t_add e226 i8 (in_c 1 rfl) rfl; have a6 := oa2 ((in_c 1 rfl)) ((in_c 3 rfl)); have oc := oc_299_109; omega
                              have n230d : (s.2.2.1 109 27).toInt ≤ ((sF (sF (sF (sF sc0 109 29 w0_109_27) 109 30 z19) 109 28 (Int32.ofInt 3)) 109 27 z226).2.2.1 109 27).toInt := by have b0 : z226 = (sF (sF (sF (sF sc0 109 29 w0_109_27) 109 30 z19) 109 28 (Int32.ofInt 3)) 109 27 z226).2.2.1 109 27 := sF_get; first | (rw [← b0, ← e_109_27]; exact n230c) | (rw [← b0]; exact n230c)
                              have n230e : ((Int32.ofInt 3)).toInt ≠ 0 → (u_109_27).toInt + 1 ≤ (z226).toInt := by have a0 := oa5 i8a i8 ((in_c 0 rfl)) i208 i226; have a5 := t_add e226 i8 (in_c 1 rfl) rfl; have a6 := oa2 ((in_c 1 rfl)) ((in_c 3 rfl)); have oc := oc_299_109; omega
                              have n230f : ((sF (sF (sF (sF sc0 109 29 w0_109_27) 109 30 z19) 109 28 (Int32.ofInt 3)) 109 27 z226).2.2.1 109 28).toInt ≠ 0 → (s.2.2.1 109 27).toInt + 1 ≤ ((sF (sF (sF (sF sc0 109 29 w0_109_27) 109 30 z19) 109 28 (Int32.ofInt 3)) 109 27 z226).2.2.1 109 27).toInt := by have b0 : (Int32.ofInt 3) = (sF (sF (sF (sF sc0 109 29 w0_109_27) 109 30 z19) 109 28 (Int32.ofInt 3)) 109 27 z226).2.2.1 109 28 := sF_ne rfl (sF_get); have b1 : z226 = (sF (sF (sF (sF sc0 109 29 w0_109_27) 109 30 z19) 109 28 (Int32.ofInt 3)) 109 27 z226).2.2.1 109 27 := sF_get; first | (rw [← b0, ← b1, ← e_109_27]; exact n230e) | (rw [← b0, ← b1]; exact n230e)
                              have n230g : ((Int32.ofInt 3)).toInt = 1 → 97 ≤ (z19).toInt := by exact fun h => absurd h (by decide)
                              have n230h : ((sF (sF (sF (sF sc0 109 29 w0_109_27) 109 30 z19) 109 28 (Int32.ofInt 3)) 109 27 z226).2.2.1 109 28).toInt = 1 → 97 ≤ ((sF (sF (sF (sF sc0 109 29 w0_109_27) 109 30 z19) 109 28 (Int32.ofInt 3)) 109 27 z226).2.2.1 109 30).toInt := by have b0 : (Int32.ofInt 3) = (sF (sF (sF (sF sc0 109 29 w0_109_27) 109 30 z19) 109 28 (Int32.ofInt 3)) 109 27 z226).2.2.1 109 28 := sF_ne rfl (sF_get); have b1 : z19 = (sF (sF (sF (sF sc0 109 29 w0_109_27) 109 30 z19) 109 28 (Int32.ofInt 3)) 109 27 z226).2.2.1 109 30 := sF_ne rfl (sF_ne rfl (sF_get)); rw [← b0, ← b1]; exact n230g
                              have n230i : ((Int32.ofInt 3)).toInt = 1 → (z19).toInt ≤ 122 := by exact fun h => absurd h (by decide)
                              have n230j : ((sF (sF (sF (sF sc0 109 29 w0_109_27) 109 30 z19) 109 28 (Int32.ofInt 3)) 109 27 z226).2.2.1 109 28).toInt = 1 → ((sF (sF (sF (sF sc0 109 29 w0_109_27) 109 30 z19) 109 28 (Int32.ofInt 3)) 109 27 z226).2.2.1 109 30).toInt ≤ 122 := by have b0 : (Int32.ofInt 3) = (sF (sF (sF (sF sc0 109 29 w0_109_27) 109 30 z19) 109 28 (Int32.ofInt 3)) 109 27 z226).2.2.1 109 28 := sF_ne rfl (sF_get); have b1 : z19 = (sF (sF (sF (sF sc0 109 29 w0_109_27) 109 30 z19) 109 28 (Int32.ofInt 3)) 109 27 z226).2.2.1 109 30 := sF_ne rfl (sF_ne rfl (sF_get)); rw [← b0, ← b1]; exact n230i
                              exact g_return (gd rfl) rfl (hP _ _ ⟨(sF (sF (sF (sF sc0 109 29 w0_109_27) 109 30 z19) 109 28 (Int32.ofInt 3)) 109 27 z226), hI227, (fr_sF rfl (fr_sF rfl (fr_sF rfl (fr_sF rfl hFc0)))), n230b, n230d, n230f, n230h, n230j, rfl, rfl, n230⟩)
                            · skip
                              refine g_aload_n 212 (gd rfl) rfl rfl ?_
                              refine g_iconst 1 213 (gd rfl) rfl rfl ?_
                              refine g_aload_n 214 (gd rfl) rfl rfl ?_
                              refine g_getI 217 (gd rfl) rfl rfl rfl (fun z214 e214 => ?_)
                              have q214 : w0_109_27 = z214 := (sF_ne rfl (sF_ne rfl (sF_get))).trans e214.symm
                              subst q214
                              refine g_callv (X := _) (As := [.int (Int32.ofInt 1), .int w0_109_27]) (r := []) (b := A 109) (q := 109) 220 (gd rfl) rfl rfl rfl rfl rfl (ww_o rfl) (Nat.le_of_ble_eq_true rfl) (Nat.zero_le _) (Nat.zero_le _) (f_298 (by first | exact dq1 hd rfl | exact dq0 hd rfl | exact dq2 hd rfl | exact dq3 hd rfl | omega) hI194 (in_w 1 5 (in_c 1 rfl) rfl) rfl) (fun e u h => h) (fun v u h => ?_)
                              obtain ⟨s217, hI217, hF217, n217, rfl, rfl, p217⟩ := h
                              obtain ⟨z217a, e217⟩ : ∃ w, w = s217.2.2.1 109 23 := ⟨_, rfl⟩
                              have i217a := inv_F hI217 0 9 rfl e217
                              rw [← (show z217a = s217.2.2.1 109 23 from e217)] at n217
                              show GG _ _ _ _ _ _ _ _ [] _ _ _
                              refine g_aload_n 221 (gd rfl) rfl rfl ?_
                              refine g_dup 222 (gd rfl) rfl rfl ?_
                              refine g_getI 225 (gd rfl) rfl rfl rfl (fun z222 e222 => ?_)
                              have q222 : w0_109_27 = z222 := (fr_F (s := (sF (sF (sF sc0 109 29 w0_109_27) 109 30 z19) 109 28 (Int32.ofInt 3))) (sF_ne rfl (sF_ne rfl (sF_ne rfl (v0_109_27)))) hF217 rfl).trans e222.symm
                              subst q222
                              refine g_iconst 1 226 (gd rfl) rfl rfl ?_
                              refine g_iadd 227 (gd rfl) rfl (fun z226 e226 => ?_)
                              have i226 := in_add 1 1000 e226 i8 (in_c 1 rfl) rfl rfl
                              refine g_putI 230 (gd rfl) rfl rfl rfl rfl ?_
                              have hI227 := inv_sF (q := 109) (j := 27) hI217 rfl (in_w 0 1000 i226 rfl)
                              have n230 : ∃ k v, TKN (s.1 125) (s.2.2.1 109 22).toInt.toNat (s.2.2.1 109 27).toInt.toNat ((sF s217 109 27 z226).2.2.1 109 29).toInt.toNat ((sF s217 109 27 z226).2.2.1 109 27).toInt.toNat k v ∧ NTK s (sF s217 109 27 z226) k v := by have hT0 : s.1 125 w0_109_27.toInt.toNat = z19 := (by rw [e19, hFc0.1 125 rfl]; rfl); have hS : tkS (s.1 125) (u_109_22).toInt.toNat (u_109_27).toInt.toNat w0_109_27.toInt.toNat := ⟨by have a0 := oa5 i8a i8 ((in_c 0 rfl)) i183x3 i226; have a5 := t_add e226 i8 (in_c 1 rfl) rfl; have a6 := oa3 ((in_c 1 rfl)) i217a ((in_c 3 rfl)); have oc := oc_299_109; omega, by have a0 := oa5 i8a i8 ((in_c 0 rfl)) i183x3 i226; have a5 := t_add e226 i8 (in_c 1 rfl) rfl; have a6 := oa3 ((in_c 1 rfl)) i217a ((in_c 3 rfl)); have oc := oc_299_109; omega, fun i a b => g0_0 i (by rw [← e_109_27]; exact a) (by have a0 := oa5 i8a i8 ((in_c 0 rfl)) i183x3 i226; have a5 := t_add e226 i8 (in_c 1 rfl) rfl; have a6 := oa3 ((in_c 1 rfl)) i217a ((in_c 3 rfl)); have oc := oc_299_109; omega), fun _ => by rw [hT0]; have a0 := oa5 i8a i8 ((in_c 0 rfl)) i183x3 i226; have a5 := t_add e226 i8 (in_c 1 rfl) rfl; have a6 := oa3 ((in_c 1 rfl)) i217a ((in_c 3 rfl)); have oc := oc_299_109; omega⟩; refine ⟨4, 0, ?_, ?_⟩; (rw [← (show z226 = (sF s217 109 27 z226).2.2.1 109 27 from sF_get), ← (show w0_109_27 = (sF s217 109 27 z226).2.2.1 109 29 from sF_ne rfl (fr_F (s := (sF (sF (sF sc0 109 29 w0_109_27) 109 30 z19) 109 28 (Int32.ofInt 3))) (sF_ne rfl (sF_ne rfl (sF_get))) hF217 rfl)), ← e_109_22, ← e_109_27]; exact tkn_4 hS (by have a0 := oa5 i8a i8 ((in_c 0 rfl)) i183x3 i226; have a5 := t_add e226 i8 (in_c 1 rfl) rfl; have a6 := oa3 ((in_c 1 rfl)) i217a ((in_c 3 rfl)); have oc := oc_299_109; omega) (by rw [hT0]; unfold tkL; have a0 := oa5 i8a i8 ((in_c 0 rfl)) i183x3 i226; have a5 := t_add e226 i8 (in_c 1 rfl) rfl; have a6 := oa3 ((in_c 1 rfl)) i217a ((in_c 3 rfl)); have oc := oc_299_109; omega) (by rw [hT0]; have a0 := oa5 i8a i8 ((in_c 0 rfl)) i183x3 i226; have a5 := t_add e226 i8 (in_c 1 rfl) rfl; have a6 := oa3 ((in_c 1 rfl)) i217a ((in_c 3 rfl)); have oc := oc_299_109; omega) (by first | exact nq_1 (by rw [hT0]; unfold tkD; have a0 := oa5 i8a i8 ((in_c 0 rfl)) i183x3 i226; have a5 := t_add e226 i8 (in_c 1 rfl) rfl; have a6 := oa3 ((in_c 1 rfl)) i217a ((in_c 3 rfl)); have oc := oc_299_109; omega) (by rw [hT0]; have a0 := oa5 i8a i8 ((in_c 0 rfl)) i183x3 i226; have a5 := t_add e226 i8 (in_c 1 rfl) rfl; have a6 := oa3 ((in_c 1 rfl)) i217a ((in_c 3 rfl)); have oc := oc_299_109; omega) | exact nq_2 (by rw [hT0]; have a0 := oa5 i8a i8 ((in_c 0 rfl)) i183x3 i226; have a5 := t_add e226 i8 (in_c 1 rfl) rfl; have a6 := oa3 ((in_c 1 rfl)) i217a ((in_c 3 rfl)); have oc := oc_299_109; omega) (fun h => by first | (exfalso; have a0 := oa5 i8a i8 ((in_c 0 rfl)) i183x3 i226; have a5 := t_add e226 i8 (in_c 1 rfl) rfl; have a6 := oa3 ((in_c 1 rfl)) i217a ((in_c 3 rfl)); have oc := oc_299_109; omega) | (rw [show s.1 125 (w0_109_27.toInt.toNat + 1) = z107 from (by rw [e107, show z106.toNatClampNeg = w0_109_27.toInt.toNat + 1 from (by show z106.toInt.toNat = _; have a0 := oa5 i8a i8 ((in_c 0 rfl)) i183x3 i226; have a5 := t_add e226 i8 (in_c 1 rfl) rfl; have a6 := oa3 ((in_c 1 rfl)) i217a ((in_c 3 rfl)); have oc := oc_299_109; omega)]; exact congrFun (hFc0.1 125 rfl).symm _)]; unfold tkD; have a0 := oa5 i8a i8 ((in_c 0 rfl)) i183x3 i226; have a5 := t_add e226 i8 (in_c 1 rfl) rfl; have a6 := oa3 ((in_c 1 rfl)) i217a ((in_c 3 rfl)); have oc := oc_299_109; omega))) (by have a0 := oa5 i8a i8 ((in_c 0 rfl)) i183x3 i226; have a5 := t_add e226 i8 (in_c 1 rfl) rfl; have a6 := oa3 ((in_c 1 rfl)) i217a ((in_c 3 rfl)); have oc := oc_299_109; omega) rfl); (exact ntk_4 ((show (Int32.ofInt 3) = (sF s217 109 27 z226).2.2.1 109 28 from sF_ne rfl (fr_F (s := (sF (sF (sF sc0 109 29 w0_109_27) 109 30 z19) 109 28 (Int32.ofInt 3))) (sF_get) hF217 rfl))).symm (by rw [← (show z19 = (sF s217 109 27 z226).2.2.1 109 30 from sF_ne rfl (fr_F (s := (sF (sF (sF sc0 109 29 w0_109_27) 109 30 z19) 109 28 (Int32.ofInt 3))) (sF_ne rfl (sF_get)) hF217 rfl))]; have a0 := oa5 i8a i8 ((in_c 0 rfl)) i183x3 i226; have a5 := t_add e226 i8 (in_c 1 rfl) rfl; have a6 := oa3 ((in_c 1 rfl)) i217a ((in_c 3 rfl)); have oc := oc_299_109; omega) (fbl_tr g0_1 (by rw [← (show w0_109_27 = (sF s217 109 27 z226).2.2.1 109 29 from sF_ne rfl (fr_F (s := (sF (sF (sF sc0 109 29 w0_109_27) 109 30 z19) 109 28 (Int32.ofInt 3))) (sF_ne rfl (sF_ne rfl (sF_get))) hF217 rfl))]; exact p217)))
                              have n230a : (z226).toInt ≤ (u_109_22).toInt := by have a0 := oa5 i8a i8 ((in_c 0 rfl)) i183x3 i226; have a5 := t_add e226 i8 (in_c 1 rfl) rfl; have a6 := oa3 ((in_c 1 rfl)) i217a ((in_c 3 rfl)); have oc := oc_299_109; omega
                              have n230b : ((sF s217 109 27 z226).2.2.1 109 27).toInt ≤ ((sF s217 109 27 z226).2.2.1 109 22).toInt := by have b0 : z226 = (sF s217 109 27 z226).2.2.1 109 27 := sF_get; have b1 : u_109_22 = (sF s217 109 27 z226).2.2.1 109 22 := sF_ne rfl (fr_F (s := (sF (sF (sF sc0 109 29 w0_109_27) 109 30 z19) 109 28 (Int32.ofInt 3))) (sF_ne rfl (sF_ne rfl (sF_ne rfl (fr_F e_109_22 hFc0 rfl)))) hF217 rfl); rw [← b0, ← b1]; exact n230a
                              have n230c : (u_109_27).toInt ≤ (z226).toInt := by have a0 := oa5 i8a i8 ((in_c 0 rfl)) i183x3 i226; have a5 := t_add e226 i8 (in_c 1 rfl) rfl; have a6 := oa3 ((in_c 1 rfl)) i217a ((in_c 3 rfl)); have oc := oc_299_109; omega
                              have n230d : (s.2.2.1 109 27).toInt ≤ ((sF s217 109 27 z226).2.2.1 109 27).toInt := by have b0 : z226 = (sF s217 109 27 z226).2.2.1 109 27 := sF_get; first | (rw [← b0, ← e_109_27]; exact n230c) | (rw [← b0]; exact n230c)
                              have n230e : ((Int32.ofInt 3)).toInt ≠ 0 → (u_109_27).toInt + 1 ≤ (z226).toInt := by have a0 := oa5 i8a i8 ((in_c 0 rfl)) i183x3 i226; have a5 := t_add e226 i8 (in_c 1 rfl) rfl; have a6 := oa3 ((in_c 1 rfl)) i217a ((in_c 3 rfl)); have oc := oc_299_109; omega
                              have n230f : ((sF s217 109 27 z226).2.2.1 109 28).toInt ≠ 0 → (s.2.2.1 109 27).toInt + 1 ≤ ((sF s217 109 27 z226).2.2.1 109 27).toInt := by have b0 : (Int32.ofInt 3) = (sF s217 109 27 z226).2.2.1 109 28 := sF_ne rfl (fr_F (s := (sF (sF (sF sc0 109 29 w0_109_27) 109 30 z19) 109 28 (Int32.ofInt 3))) (sF_get) hF217 rfl); have b1 : z226 = (sF s217 109 27 z226).2.2.1 109 27 := sF_get; first | (rw [← b0, ← b1, ← e_109_27]; exact n230e) | (rw [← b0, ← b1]; exact n230e)
                              have n230g : ((Int32.ofInt 3)).toInt = 1 → 97 ≤ (z19).toInt := by exact fun h => absurd h (by decide)
                              have n230h : ((sF s217 109 27 z226).2.2.1 109 28).toInt = 1 → 97 ≤ ((sF s217 109 27 z226).2.2.1 109 30).toInt := by have b0 : (Int32.ofInt 3) = (sF s217 109 27 z226).2.2.1 109 28 := sF_ne rfl (fr_F (s := (sF (sF (sF sc0 109 29 w0_109_27) 109 30 z19) 109 28 (Int32.ofInt 3))) (sF_get) hF217 rfl); have b1 : z19 = (sF s217 109 27 z226).2.2.1 109 30 := sF_ne rfl (fr_F (s := (sF (sF (sF sc0 109 29 w0_109_27) 109 30 z19) 109 28 (Int32.ofInt 3))) (sF_ne rfl (sF_get)) hF217 rfl); rw [← b0, ← b1]; exact n230g
                              have n230i : ((Int32.ofInt 3)).toInt = 1 → (z19).toInt ≤ 122 := by exact fun h => absurd h (by decide)
                              have n230j : ((sF s217 109 27 z226).2.2.1 109 28).toInt = 1 → ((sF s217 109 27 z226).2.2.1 109 30).toInt ≤ 122 := by have b0 : (Int32.ofInt 3) = (sF s217 109 27 z226).2.2.1 109 28 := sF_ne rfl (fr_F (s := (sF (sF (sF sc0 109 29 w0_109_27) 109 30 z19) 109 28 (Int32.ofInt 3))) (sF_get) hF217 rfl); have b1 : z19 = (sF s217 109 27 z226).2.2.1 109 30 := sF_ne rfl (fr_F (s := (sF (sF (sF sc0 109 29 w0_109_27) 109 30 z19) 109 28 (Int32.ofInt 3))) (sF_ne rfl (sF_get)) hF217 rfl); rw [← b0, ← b1]; exact n230i
                              exact g_return (gd rfl) rfl (hP _ _ ⟨(sF s217 109 27 z226), hI227, (fr_sF rfl (fr_tr rfl (fr_sF rfl (fr_sF rfl (fr_sF rfl hFc0))) hF217)), n230b, n230d, n230f, n230h, n230j, rfl, rfl, n230⟩)
                        · skip
                          exact zn_ne c186 (in_c 0 rfl) rfl
                      · skip
                        have i183x3 := r_le2 97 126 c183x3 (in_c 97 rfl) i121x9 rfl
                        refine g_iload_n 7 (gd rfl) rfl rfl ?_
                        refine g_bipush 122 9 (gd rfl) rfl rfl ?_
                        refine g_cmp_gt 12 16 (gd rfl) rfl rfl (fun c183x9 => ?_) (fun c183x9 => ?_)
                        · skip
                          have i183x9 := r_lt2 123 126 c183x9 (in_c 122 rfl) i183x3 rfl
                          refine g_iconst 0 17 (gd rfl) rfl rfl ?_
                          refine g_ireturn (gd rfl) rfl (nb01 (in_w 0 1 (in_c 0 rfl) rfl)) (hp183 _ _ ?_)
                          show GG _ _ _ _ _ _ _ _ [.int (Int32.ofInt 0), .ref (A 109)] _ _ _
                          refine g_if_eq 189 193 (gd rfl) rfl rfl (fun c186 => ?_) (fun c186 => ?_)
                          · skip
                            refine g_iconst 3 194 (gd rfl) rfl rfl ?_
                            refine g_putI 197 (gd rfl) rfl rfl rfl rfl ?_
                            have hI194 := inv_sF (q := 109) (j := 28) hI75 rfl (in_w (-2147483648) 2147483647 (in_c 3 rfl) rfl)
                            refine g_aload_n 198 (gd rfl) rfl rfl ?_
                            refine g_getI 201 (gd rfl) rfl rfl rfl (fun z198 e198 => ?_)
                            have q198 : (Int32.ofInt 3) = z198 := (sF_get).trans e198.symm
                            subst q198
                            refine g_iconst 3 202 (gd rfl) rfl rfl ?_
                            refine g_cmp_ne 205 220 (gd rfl) rfl rfl (fun c202 => ?_) (fun c202 => ?_)
                            · skip
                              exact n_ne c202 (in_c 3 rfl) (in_c 3 rfl) rfl
                            · skip
                              refine g_iload_n 206 (gd rfl) rfl rfl ?_
                              refine g_bipush 59 208 (gd rfl) rfl rfl ?_
                              refine g_cmp_eq 211 220 (gd rfl) rfl rfl (fun c208 => ?_) (fun c208 => ?_)
                              · skip
                                exact n_eq c208 i183x9 (in_c 59 rfl) rfl
                              · skip
                                refine g_aload_n 212 (gd rfl) rfl rfl ?_
                                refine g_iconst 1 213 (gd rfl) rfl rfl ?_
                                refine g_aload_n 214 (gd rfl) rfl rfl ?_
                                refine g_getI 217 (gd rfl) rfl rfl rfl (fun z214 e214 => ?_)
                                have q214 : w0_109_27 = z214 := (sF_ne rfl (sF_ne rfl (sF_get))).trans e214.symm
                                subst q214
                                refine g_callv (X := _) (As := [.int (Int32.ofInt 1), .int w0_109_27]) (r := []) (b := A 109) (q := 109) 220 (gd rfl) rfl rfl rfl rfl rfl (ww_o rfl) (Nat.le_of_ble_eq_true rfl) (Nat.zero_le _) (Nat.zero_le _) (f_298 (by first | exact dq1 hd rfl | exact dq0 hd rfl | exact dq2 hd rfl | exact dq3 hd rfl | omega) hI194 (in_w 1 5 (in_c 1 rfl) rfl) rfl) (fun e u h => h) (fun v u h => ?_)
                                obtain ⟨s217, hI217, hF217, n217, rfl, rfl, p217⟩ := h
                                obtain ⟨z217a, e217⟩ : ∃ w, w = s217.2.2.1 109 23 := ⟨_, rfl⟩
                                have i217a := inv_F hI217 0 9 rfl e217
                                rw [← (show z217a = s217.2.2.1 109 23 from e217)] at n217
                                show GG _ _ _ _ _ _ _ _ [] _ _ _
                                refine g_aload_n 221 (gd rfl) rfl rfl ?_
                                refine g_dup 222 (gd rfl) rfl rfl ?_
                                refine g_getI 225 (gd rfl) rfl rfl rfl (fun z222 e222 => ?_)
                                have q222 : w0_109_27 = z222 := (fr_F (s := (sF (sF (sF sc0 109 29 w0_109_27) 109 30 z19) 109 28 (Int32.ofInt 3))) (sF_ne rfl (sF_ne rfl (sF_ne rfl (v0_109_27)))) hF217 rfl).trans e222.symm
                                subst q222
                                refine g_iconst 1 226 (gd rfl) rfl rfl ?_
                                refine g_iadd 227 (gd rfl) rfl (fun z226 e226 => ?_)
                                have i226 := in_add 1 1000 e226 i8 (in_c 1 rfl) rfl rfl
                                refine g_putI 230 (gd rfl) rfl rfl rfl rfl ?_
                                have hI227 := inv_sF (q := 109) (j := 27) hI217 rfl (in_w 0 1000 i226 rfl)
                                have n230 : ∃ k v, TKN (s.1 125) (s.2.2.1 109 22).toInt.toNat (s.2.2.1 109 27).toInt.toNat ((sF s217 109 27 z226).2.2.1 109 29).toInt.toNat ((sF s217 109 27 z226).2.2.1 109 27).toInt.toNat k v ∧ NTK s (sF s217 109 27 z226) k v := by have hT0 : s.1 125 w0_109_27.toInt.toNat = z19 := (by rw [e19, hFc0.1 125 rfl]; rfl); have hS : tkS (s.1 125) (u_109_22).toInt.toNat (u_109_27).toInt.toNat w0_109_27.toInt.toNat := ⟨by have a0 := oa5 i8a i8 ((in_c 0 rfl)) i183x9 i226; have a5 := t_add e226 i8 (in_c 1 rfl) rfl; have a6 := oa3 ((in_c 1 rfl)) i217a ((in_c 3 rfl)); have oc := oc_299_109; omega, by have a0 := oa5 i8a i8 ((in_c 0 rfl)) i183x9 i226; have a5 := t_add e226 i8 (in_c 1 rfl) rfl; have a6 := oa3 ((in_c 1 rfl)) i217a ((in_c 3 rfl)); have oc := oc_299_109; omega, fun i a b => g0_0 i (by rw [← e_109_27]; exact a) (by have a0 := oa5 i8a i8 ((in_c 0 rfl)) i183x9 i226; have a5 := t_add e226 i8 (in_c 1 rfl) rfl; have a6 := oa3 ((in_c 1 rfl)) i217a ((in_c 3 rfl)); have oc := oc_299_109; omega), fun _ => by rw [hT0]; have a0 := oa5 i8a i8 ((in_c 0 rfl)) i183x9 i226; have a5 := t_add e226 i8 (in_c 1 rfl) rfl; have a6 := oa3 ((in_c 1 rfl)) i217a ((in_c 3 rfl)); have oc := oc_299_109; omega⟩; refine ⟨4, 0, ?_, ?_⟩; (rw [← (show z226 = (sF s217 109 27 z226).2.2.1 109 27 from sF_get), ← (show w0_109_27 = (sF s217 109 27 z226).2.2.1 109 29 from sF_ne rfl (fr_F (s := (sF (sF (sF sc0 109 29 w0_109_27) 109 30 z19) 109 28 (Int32.ofInt 3))) (sF_ne rfl (sF_ne rfl (sF_get))) hF217 rfl)), ← e_109_22, ← e_109_27]; exact tkn_4 hS (by have a0 := oa5 i8a i8 ((in_c 0 rfl)) i183x9 i226; have a5 := t_add e226 i8 (in_c 1 rfl) rfl; have a6 := oa3 ((in_c 1 rfl)) i217a ((in_c 3 rfl)); have oc := oc_299_109; omega) (by rw [hT0]; unfold tkL; have a0 := oa5 i8a i8 ((in_c 0 rfl)) i183x9 i226; have a5 := t_add e226 i8 (in_c 1 rfl) rfl; have a6 := oa3 ((in_c 1 rfl)) i217a ((in_c 3 rfl)); have oc := oc_299_109; omega) (by rw [hT0]; have a0 := oa5 i8a i8 ((in_c 0 rfl)) i183x9 i226; have a5 := t_add e226 i8 (in_c 1 rfl) rfl; have a6 := oa3 ((in_c 1 rfl)) i217a ((in_c 3 rfl)); have oc := oc_299_109; omega) (by first | exact nq_1 (by rw [hT0]; unfold tkD; have a0 := oa5 i8a i8 ((in_c 0 rfl)) i183x9 i226; have a5 := t_add e226 i8 (in_c 1 rfl) rfl; have a6 := oa3 ((in_c 1 rfl)) i217a ((in_c 3 rfl)); have oc := oc_299_109; omega) (by rw [hT0]; have a0 := oa5 i8a i8 ((in_c 0 rfl)) i183x9 i226; have a5 := t_add e226 i8 (in_c 1 rfl) rfl; have a6 := oa3 ((in_c 1 rfl)) i217a ((in_c 3 rfl)); have oc := oc_299_109; omega) | exact nq_2 (by rw [hT0]; have a0 := oa5 i8a i8 ((in_c 0 rfl)) i183x9 i226; have a5 := t_add e226 i8 (in_c 1 rfl) rfl; have a6 := oa3 ((in_c 1 rfl)) i217a ((in_c 3 rfl)); have oc := oc_299_109; omega) (fun h => by first | (exfalso; have a0 := oa5 i8a i8 ((in_c 0 rfl)) i183x9 i226; have a5 := t_add e226 i8 (in_c 1 rfl) rfl; have a6 := oa3 ((in_c 1 rfl)) i217a ((in_c 3 rfl)); have oc := oc_299_109; omega) | (rw [show s.1 125 (w0_109_27.toInt.toNat + 1) = z107 from (by rw [e107, show z106.toNatClampNeg = w0_109_27.toInt.toNat + 1 from (by show z106.toInt.toNat = _; have a0 := oa5 i8a i8 ((in_c 0 rfl)) i183x9 i226; have a5 := t_add e226 i8 (in_c 1 rfl) rfl; have a6 := oa3 ((in_c 1 rfl)) i217a ((in_c 3 rfl)); have oc := oc_299_109; omega)]; exact congrFun (hFc0.1 125 rfl).symm _)]; unfold tkD; have a0 := oa5 i8a i8 ((in_c 0 rfl)) i183x9 i226; have a5 := t_add e226 i8 (in_c 1 rfl) rfl; have a6 := oa3 ((in_c 1 rfl)) i217a ((in_c 3 rfl)); have oc := oc_299_109; omega))) (by have a0 := oa5 i8a i8 ((in_c 0 rfl)) i183x9 i226; have a5 := t_add e226 i8 (in_c 1 rfl) rfl; have a6 := oa3 ((in_c 1 rfl)) i217a ((in_c 3 rfl)); have oc := oc_299_109; omega) rfl); (exact ntk_4 ((show (Int32.ofInt 3) = (sF s217 109 27 z226).2.2.1 109 28 from sF_ne rfl (fr_F (s := (sF (sF (sF sc0 109 29 w0_109_27) 109 30 z19) 109 28 (Int32.ofInt 3))) (sF_get) hF217 rfl))).symm (by rw [← (show z19 = (sF s217 109 27 z226).2.2.1 109 30 from sF_ne rfl (fr_F (s := (sF (sF (sF sc0 109 29 w0_109_27) 109 30 z19) 109 28 (Int32.ofInt 3))) (sF_ne rfl (sF_get)) hF217 rfl))]; have a0 := oa5 i8a i8 ((in_c 0 rfl)) i183x9 i226; have a5 := t_add e226 i8 (in_c 1 rfl) rfl; have a6 := oa3 ((in_c 1 rfl)) i217a ((in_c 3 rfl)); have oc := oc_299_109; omega) (fbl_tr g0_1 (by rw [← (show w0_109_27 = (sF s217 109 27 z226).2.2.1 109 29 from sF_ne rfl (fr_F (s := (sF (sF (sF sc0 109 29 w0_109_27) 109 30 z19) 109 28 (Int32.ofInt 3))) (sF_ne rfl (sF_ne rfl (sF_get))) hF217 rfl))]; exact p217)))
                                have n230a : (z226).toInt ≤ (u_109_22).toInt := by have a0 := oa5 i8a i8 ((in_c 0 rfl)) i183x9 i226; have a5 := t_add e226 i8 (in_c 1 rfl) rfl; have a6 := oa3 ((in_c 1 rfl)) i217a ((in_c 3 rfl)); have oc := oc_299_109; omega
                                have n230b : ((sF s217 109 27 z226).2.2.1 109 27).toInt ≤ ((sF s217 109 27 z226).2.2.1 109 22).toInt := by have b0 : z226 = (sF s217 109 27 z226).2.2.1 109 27 := sF_get; have b1 : u_109_22 = (sF s217 109 27 z226).2.2.1 109 22 := sF_ne rfl (fr_F (s := (sF (sF (sF sc0 109 29 w0_109_27) 109 30 z19) 109 28 (Int32.ofInt 3))) (sF_ne rfl (sF_ne rfl (sF_ne rfl (fr_F e_109_22 hFc0 rfl)))) hF217 rfl); rw [← b0, ← b1]; exact n230a
                                have n230c : (u_109_27).toInt ≤ (z226).toInt := by have a0 := oa5 i8a i8 ((in_c 0 rfl)) i183x9 i226; have a5 := t_add e226 i8 (in_c 1 rfl) rfl; have a6 := oa3 ((in_c 1 rfl)) i217a ((in_c 3 rfl)); have oc := oc_299_109; omega
                                have n230d : (s.2.2.1 109 27).toInt ≤ ((sF s217 109 27 z226).2.2.1 109 27).toInt := by have b0 : z226 = (sF s217 109 27 z226).2.2.1 109 27 := sF_get; first | (rw [← b0, ← e_109_27]; exact n230c) | (rw [← b0]; exact n230c)
                                have n230e : ((Int32.ofInt 3)).toInt ≠ 0 → (u_109_27).toInt + 1 ≤ (z226).toInt := by have a0 := oa5 i8a i8 ((in_c 0 rfl)) i183x9 i226; have a5 := t_add e226 i8 (in_c 1 rfl) rfl; have a6 := oa3 ((in_c 1 rfl)) i217a ((in_c 3 rfl)); have oc := oc_299_109; omega
                                have n230f : ((sF s217 109 27 z226).2.2.1 109 28).toInt ≠ 0 → (s.2.2.1 109 27).toInt + 1 ≤ ((sF s217 109 27 z226).2.2.1 109 27).toInt := by have b0 : (Int32.ofInt 3) = (sF s217 109 27 z226).2.2.1 109 28 := sF_ne rfl (fr_F (s := (sF (sF (sF sc0 109 29 w0_109_27) 109 30 z19) 109 28 (Int32.ofInt 3))) (sF_get) hF217 rfl); have b1 : z226 = (sF s217 109 27 z226).2.2.1 109 27 := sF_get; first | (rw [← b0, ← b1, ← e_109_27]; exact n230e) | (rw [← b0, ← b1]; exact n230e)
                                have n230g : ((Int32.ofInt 3)).toInt = 1 → 97 ≤ (z19).toInt := by exact fun h => absurd h (by decide)
                                have n230h : ((sF s217 109 27 z226).2.2.1 109 28).toInt = 1 → 97 ≤ ((sF s217 109 27 z226).2.2.1 109 30).toInt := by have b0 : (Int32.ofInt 3) = (sF s217 109 27 z226).2.2.1 109 28 := sF_ne rfl (fr_F (s := (sF (sF (sF sc0 109 29 w0_109_27) 109 30 z19) 109 28 (Int32.ofInt 3))) (sF_get) hF217 rfl); have b1 : z19 = (sF s217 109 27 z226).2.2.1 109 30 := sF_ne rfl (fr_F (s := (sF (sF (sF sc0 109 29 w0_109_27) 109 30 z19) 109 28 (Int32.ofInt 3))) (sF_ne rfl (sF_get)) hF217 rfl); rw [← b0, ← b1]; exact n230g
                                have n230i : ((Int32.ofInt 3)).toInt = 1 → (z19).toInt ≤ 122 := by exact fun h => absurd h (by decide)
                                have n230j : ((sF s217 109 27 z226).2.2.1 109 28).toInt = 1 → ((sF s217 109 27 z226).2.2.1 109 30).toInt ≤ 122 := by have b0 : (Int32.ofInt 3) = (sF s217 109 27 z226).2.2.1 109 28 := sF_ne rfl (fr_F (s := (sF (sF (sF sc0 109 29 w0_109_27) 109 30 z19) 109 28 (Int32.ofInt 3))) (sF_get) hF217 rfl); have b1 : z19 = (sF s217 109 27 z226).2.2.1 109 30 := sF_ne rfl (fr_F (s := (sF (sF (sF sc0 109 29 w0_109_27) 109 30 z19) 109 28 (Int32.ofInt 3))) (sF_ne rfl (sF_get)) hF217 rfl); rw [← b0, ← b1]; exact n230i
                                exact g_return (gd rfl) rfl (hP _ _ ⟨(sF s217 109 27 z226), hI227, (fr_sF rfl (fr_tr rfl (fr_sF rfl (fr_sF rfl (fr_sF rfl hFc0))) hF217)), n230b, n230d, n230f, n230h, n230j, rfl, rfl, n230⟩)
                          · skip
                            exact zn_ne c186 (in_c 0 rfl) rfl
                        · skip
                          have i183x9 := r_le1 97 122 c183x9 i183x3 (in_c 122 rfl) rfl
                          refine g_iconst 1 13 (gd rfl) rfl rfl ?_
                          refine g_goto 17 (gd rfl) rfl ?_
                          refine g_ireturn (gd rfl) rfl (nb01 (in_w 0 1 (in_c 1 rfl) rfl)) (hp183 _ _ ?_)
                          show GG _ _ _ _ _ _ _ _ [.int (Int32.ofInt 1), .ref (A 109)] _ _ _
                          refine g_if_eq 189 193 (gd rfl) rfl rfl (fun c186 => ?_) (fun c186 => ?_)
                          · skip
                            exact zn_eq c186 (in_c 1 rfl) rfl
                          · skip
                            refine g_iconst 1 190 (gd rfl) rfl rfl ?_
                            refine g_goto 194 (gd rfl) rfl ?_
                            refine g_putI 197 (gd rfl) rfl rfl rfl rfl ?_
                            have hI194 := inv_sF (q := 109) (j := 28) hI75 rfl (in_w (-2147483648) 2147483647 (in_c 1 rfl) rfl)
                            refine g_aload_n 198 (gd rfl) rfl rfl ?_
                            refine g_getI 201 (gd rfl) rfl rfl rfl (fun z198 e198 => ?_)
                            have q198 : (Int32.ofInt 1) = z198 := (sF_get).trans e198.symm
                            subst q198
                            refine g_iconst 3 202 (gd rfl) rfl rfl ?_
                            refine g_cmp_ne 205 220 (gd rfl) rfl rfl (fun c202 => ?_) (fun c202 => ?_)
                            · skip
                              refine g_aload_n 221 (gd rfl) rfl rfl ?_
                              refine g_dup 222 (gd rfl) rfl rfl ?_
                              refine g_getI 225 (gd rfl) rfl rfl rfl (fun z222 e222 => ?_)
                              have q222 : w0_109_27 = z222 := (sF_ne rfl (sF_ne rfl (sF_ne rfl (v0_109_27)))).trans e222.symm
                              subst q222
                              refine g_iconst 1 226 (gd rfl) rfl rfl ?_
                              refine g_iadd 227 (gd rfl) rfl (fun z226 e226 => ?_)
                              have i226 := in_add 1 1000 e226 i8 (in_c 1 rfl) rfl rfl
                              refine g_putI 230 (gd rfl) rfl rfl rfl rfl ?_
                              have hI227 := inv_sF (q := 109) (j := 27) hI194 rfl (in_w 0 1000 i226 rfl)
                              have n230 : ∃ k v, TKN (s.1 125) (s.2.2.1 109 22).toInt.toNat (s.2.2.1 109 27).toInt.toNat ((sF (sF (sF (sF sc0 109 29 w0_109_27) 109 30 z19) 109 28 (Int32.ofInt 1)) 109 27 z226).2.2.1 109 29).toInt.toNat ((sF (sF (sF (sF sc0 109 29 w0_109_27) 109 30 z19) 109 28 (Int32.ofInt 1)) 109 27 z226).2.2.1 109 27).toInt.toNat k v ∧ NTK s (sF (sF (sF (sF sc0 109 29 w0_109_27) 109 30 z19) 109 28 (Int32.ofInt 1)) 109 27 z226) k v := by first | (have hT0 : s.1 125 w0_109_27.toInt.toNat = z19 := (by rw [e19, hFc0.1 125 rfl]; rfl); have hS : tkS (s.1 125) (u_109_22).toInt.toNat (u_109_27).toInt.toNat w0_109_27.toInt.toNat := ⟨by have a0 := oa5 i8a i8 ((in_c 0 rfl)) i183x9 i226; have a5 := t_add e226 i8 (in_c 1 rfl) rfl; have a6 := in_u ((in_c 1 rfl)); have oc := oc_299_109; omega, by have a0 := oa5 i8a i8 ((in_c 0 rfl)) i183x9 i226; have a5 := t_add e226 i8 (in_c 1 rfl) rfl; have a6 := in_u ((in_c 1 rfl)); have oc := oc_299_109; omega, fun i a b => g0_0 i (by rw [← e_109_27]; exact a) (by have a0 := oa5 i8a i8 ((in_c 0 rfl)) i183x9 i226; have a5 := t_add e226 i8 (in_c 1 rfl) rfl; have a6 := in_u ((in_c 1 rfl)); have oc := oc_299_109; omega), fun _ => by rw [hT0]; have a0 := oa5 i8a i8 ((in_c 0 rfl)) i183x9 i226; have a5 := t_add e226 i8 (in_c 1 rfl) rfl; have a6 := in_u ((in_c 1 rfl)); have oc := oc_299_109; omega⟩; refine ⟨1, z19.toInt - 97, ?_, ?_⟩; (rw [← (show z226 = (sF (sF (sF (sF sc0 109 29 w0_109_27) 109 30 z19) 109 28 (Int32.ofInt 1)) 109 27 z226).2.2.1 109 27 from sF_get), ← (show w0_109_27 = (sF (sF (sF (sF sc0 109 29 w0_109_27) 109 30 z19) 109 28 (Int32.ofInt 1)) 109 27 z226).2.2.1 109 29 from sF_ne rfl (sF_ne rfl (sF_ne rfl (sF_get)))), ← e_109_22, ← e_109_27]; exact tkn_1 hS (by have a0 := oa5 i8a i8 ((in_c 0 rfl)) i183x9 i226; have a5 := t_add e226 i8 (in_c 1 rfl) rfl; have a6 := in_u ((in_c 1 rfl)); have oc := oc_299_109; omega) (by rw [hT0]; exact ⟨by have a0 := oa5 i8a i8 ((in_c 0 rfl)) i183x9 i226; have a5 := t_add e226 i8 (in_c 1 rfl) rfl; have a6 := in_u ((in_c 1 rfl)); have oc := oc_299_109; omega, by have a0 := oa5 i8a i8 ((in_c 0 rfl)) i183x9 i226; have a5 := t_add e226 i8 (in_c 1 rfl) rfl; have a6 := in_u ((in_c 1 rfl)); have oc := oc_299_109; omega⟩) (by have a0 := oa5 i8a i8 ((in_c 0 rfl)) i183x9 i226; have a5 := t_add e226 i8 (in_c 1 rfl) rfl; have a6 := in_u ((in_c 1 rfl)); have oc := oc_299_109; omega) rfl (by rw [hT0])); (exact ntk_1 ((show (Int32.ofInt 1) = (sF (sF (sF (sF sc0 109 29 w0_109_27) 109 30 z19) 109 28 (Int32.ofInt 1)) 109 27 z226).2.2.1 109 28 from sF_ne rfl (sF_get))).symm (by rw [← (show z19 = (sF (sF (sF (sF sc0 109 29 w0_109_27) 109 30 z19) 109 28 (Int32.ofInt 1)) 109 27 z226).2.2.1 109 30 from sF_ne rfl (sF_ne rfl (sF_get)))]; omega) g0_1)) | (have hT0 : s.1 125 w0_109_27.toInt.toNat = z19 := (by rw [e19, hFc0.1 125 rfl]; rfl); have hS : tkS (s.1 125) (u_109_22).toInt.toNat (u_109_27).toInt.toNat w0_109_27.toInt.toNat := ⟨by have a0 := oa5 i8a i8 ((in_c 0 rfl)) i183x9 i226; have a5 := t_add e226 i8 (in_c 1 rfl) rfl; have a6 := in_u ((in_c 1 rfl)); have oc := oc_299_109; omega, by have a0 := oa5 i8a i8 ((in_c 0 rfl)) i183x9 i226; have a5 := t_add e226 i8 (in_c 1 rfl) rfl; have a6 := in_u ((in_c 1 rfl)); have oc := oc_299_109; omega, fun i a b => g0_0 i (by rw [← e_109_27]; exact a) (by have a0 := oa5 i8a i8 ((in_c 0 rfl)) i183x9 i226; have a5 := t_add e226 i8 (in_c 1 rfl) rfl; have a6 := in_u ((in_c 1 rfl)); have oc := oc_299_109; omega), fun _ => by rw [hT0]; have a0 := oa5 i8a i8 ((in_c 0 rfl)) i183x9 i226; have a5 := t_add e226 i8 (in_c 1 rfl) rfl; have a6 := in_u ((in_c 1 rfl)); have oc := oc_299_109; omega⟩; refine ⟨3, 59, ?_, ?_⟩; (rw [← (show z226 = (sF (sF (sF (sF sc0 109 29 w0_109_27) 109 30 z19) 109 28 (Int32.ofInt 1)) 109 27 z226).2.2.1 109 27 from sF_get), ← (show w0_109_27 = (sF (sF (sF (sF sc0 109 29 w0_109_27) 109 30 z19) 109 28 (Int32.ofInt 1)) 109 27 z226).2.2.1 109 29 from sF_ne rfl (sF_ne rfl (sF_ne rfl (sF_get)))), ← e_109_22, ← e_109_27]; exact tkn_3 hS (by have a0 := oa5 i8a i8 ((in_c 0 rfl)) i183x9 i226; have a5 := t_add e226 i8 (in_c 1 rfl) rfl; have a6 := in_u ((in_c 1 rfl)); have oc := oc_299_109; omega) (by rw [hT0]; have a0 := oa5 i8a i8 ((in_c 0 rfl)) i183x9 i226; have a5 := t_add e226 i8 (in_c 1 rfl) rfl; have a6 := in_u ((in_c 1 rfl)); have oc := oc_299_109; omega) (by have a0 := oa5 i8a i8 ((in_c 0 rfl)) i183x9 i226; have a5 := t_add e226 i8 (in_c 1 rfl) rfl; have a6 := in_u ((in_c 1 rfl)); have oc := oc_299_109; omega) rfl rfl); (exact ntk_3 ((show (Int32.ofInt 1) = (sF (sF (sF (sF sc0 109 29 w0_109_27) 109 30 z19) 109 28 (Int32.ofInt 1)) 109 27 z226).2.2.1 109 28 from sF_ne rfl (sF_get))).symm (by rw [← (show z19 = (sF (sF (sF (sF sc0 109 29 w0_109_27) 109 30 z19) 109 28 (Int32.ofInt 1)) 109 27 z226).2.2.1 109 30 from sF_ne rfl (sF_ne rfl (sF_get)))]; have a0 := oa5 i8a i8 ((in_c 0 rfl)) i183x9 i226; have a5 := t_add e226 i8 (in_c 1 rfl) rfl; have a6 := in_u ((in_c 1 rfl)); have oc := oc_299_109; omega) g0_1))
                              have n230a : (z226).toInt ≤ (u_109_22).toInt := by have a0 := oa5 i8a i8 ((in_c 0 rfl)) i183x9 i226; have a5 := t_add e226 i8 (in_c 1 rfl) rfl; have a6 := in_u ((in_c 1 rfl)); have oc := oc_299_109; omega
                              have n230b : ((sF (sF (sF (sF sc0 109 29 w0_109_27) 109 30 z19) 109 28 (Int32.ofInt 1)) 109 27 z226).2.2.1 109 27).toInt ≤ ((sF (sF (sF (sF sc0 109 29 w0_109_27) 109 30 z19) 109 28 (Int32.ofInt 1)) 109 27 z226).2.2.1 109 22).toInt := by have b0 : z226 = (sF (sF (sF (sF sc0 109 29 w0_109_27) 109 30 z19) 109 28 (Int32.ofInt 1)) 109 27 z226).2.2.1 109 27 := sF_get; have b1 : u_109_22 = (sF (sF (sF (sF sc0 109 29 w0_109_27) 109 30 z19) 109 28 (Int32.ofInt 1)) 109 27 z226).2.2.1 109 22 := sF_ne rfl (sF_ne rfl (sF_ne rfl (sF_ne rfl (fr_F e_109_22 hFc0 rfl)))); rw [← b0, ← b1]; exact n230a
                              have n230c : (u_109_27).toInt ≤ (z226).toInt := by have a0 := oa5 i8a i8 ((in_c 0 rfl)) i183x9 i226; have a5 := t_add e226 i8 (in_c 1 rfl) rfl; have a6 := in_u ((in_c 1 rfl)); have oc := oc_299_109; omega
                              have n230d : (s.2.2.1 109 27).toInt ≤ ((sF (sF (sF (sF sc0 109 29 w0_109_27) 109 30 z19) 109 28 (Int32.ofInt 1)) 109 27 z226).2.2.1 109 27).toInt := by have b0 : z226 = (sF (sF (sF (sF sc0 109 29 w0_109_27) 109 30 z19) 109 28 (Int32.ofInt 1)) 109 27 z226).2.2.1 109 27 := sF_get; first | (rw [← b0, ← e_109_27]; exact n230c) | (rw [← b0]; exact n230c)
                              have n230e : ((Int32.ofInt 1)).toInt ≠ 0 → (u_109_27).toInt + 1 ≤ (z226).toInt := by have a0 := oa5 i8a i8 ((in_c 0 rfl)) i183x9 i226; have a5 := t_add e226 i8 (in_c 1 rfl) rfl; have a6 := in_u ((in_c 1 rfl)); have oc := oc_299_109; omega
                              have n230f : ((sF (sF (sF (sF sc0 109 29 w0_109_27) 109 30 z19) 109 28 (Int32.ofInt 1)) 109 27 z226).2.2.1 109 28).toInt ≠ 0 → (s.2.2.1 109 27).toInt + 1 ≤ ((sF (sF (sF (sF sc0 109 29 w0_109_27) 109 30 z19) 109 28 (Int32.ofInt 1)) 109 27 z226).2.2.1 109 27).toInt := by have b0 : (Int32.ofInt 1) = (sF (sF (sF (sF sc0 109 29 w0_109_27) 109 30 z19) 109 28 (Int32.ofInt 1)) 109 27 z226).2.2.1 109 28 := sF_ne rfl (sF_get); have b1 : z226 = (sF (sF (sF (sF sc0 109 29 w0_109_27) 109 30 z19) 109 28 (Int32.ofInt 1)) 109 27 z226).2.2.1 109 27 := sF_get; first | (rw [← b0, ← b1, ← e_109_27]; exact n230e) | (rw [← b0, ← b1]; exact n230e)
                              have n230g : ((Int32.ofInt 1)).toInt = 1 → 97 ≤ (z19).toInt := by have a0 := oa5 i8a i8 ((in_c 0 rfl)) i183x9 i226; have a5 := t_add e226 i8 (in_c 1 rfl) rfl; have a6 := in_u ((in_c 1 rfl)); have oc := oc_299_109; omega
                              have n230h : ((sF (sF (sF (sF sc0 109 29 w0_109_27) 109 30 z19) 109 28 (Int32.ofInt 1)) 109 27 z226).2.2.1 109 28).toInt = 1 → 97 ≤ ((sF (sF (sF (sF sc0 109 29 w0_109_27) 109 30 z19) 109 28 (Int32.ofInt 1)) 109 27 z226).2.2.1 109 30).toInt := by have b0 : (Int32.ofInt 1) = (sF (sF (sF (sF sc0 109 29 w0_109_27) 109 30 z19) 109 28 (Int32.ofInt 1)) 109 27 z226).2.2.1 109 28 := sF_ne rfl (sF_get); have b1 : z19 = (sF (sF (sF (sF sc0 109 29 w0_109_27) 109 30 z19) 109 28 (Int32.ofInt 1)) 109 27 z226).2.2.1 109 30 := sF_ne rfl (sF_ne rfl (sF_get)); rw [← b0, ← b1]; exact n230g
                              have n230i : ((Int32.ofInt 1)).toInt = 1 → (z19).toInt ≤ 122 := by have a0 := oa5 i8a i8 ((in_c 0 rfl)) i183x9 i226; have a5 := t_add e226 i8 (in_c 1 rfl) rfl; have a6 := in_u ((in_c 1 rfl)); have oc := oc_299_109; omega
                              have n230j : ((sF (sF (sF (sF sc0 109 29 w0_109_27) 109 30 z19) 109 28 (Int32.ofInt 1)) 109 27 z226).2.2.1 109 28).toInt = 1 → ((sF (sF (sF (sF sc0 109 29 w0_109_27) 109 30 z19) 109 28 (Int32.ofInt 1)) 109 27 z226).2.2.1 109 30).toInt ≤ 122 := by have b0 : (Int32.ofInt 1) = (sF (sF (sF (sF sc0 109 29 w0_109_27) 109 30 z19) 109 28 (Int32.ofInt 1)) 109 27 z226).2.2.1 109 28 := sF_ne rfl (sF_get); have b1 : z19 = (sF (sF (sF (sF sc0 109 29 w0_109_27) 109 30 z19) 109 28 (Int32.ofInt 1)) 109 27 z226).2.2.1 109 30 := sF_ne rfl (sF_ne rfl (sF_get)); rw [← b0, ← b1]; exact n230i
                              exact g_return (gd rfl) rfl (hP _ _ ⟨(sF (sF (sF (sF sc0 109 29 w0_109_27) 109 30 z19) 109 28 (Int32.ofInt 1)) 109 27 z226), hI227, (fr_sF rfl (fr_sF rfl (fr_sF rfl (fr_sF rfl hFc0)))), n230b, n230d, n230f, n230h, n230j, rfl, rfl, n230⟩)
                            · skip
                              exact n_eq c202 (in_c 1 rfl) (in_c 3 rfl) rfl
                    · skip
                      exact zn_ne c128 (in_c 0 rfl) rfl
                · skip
                  have i121x9 := r_le1 48 57 c121x9 i121x3 (in_c 57 rfl) rfl
                  refine g_iconst 1 13 (gd rfl) rfl rfl ?_
                  refine g_goto 17 (gd rfl) rfl ?_
                  refine g_ireturn (gd rfl) rfl (nb01 (in_w 0 1 (in_c 1 rfl) rfl)) (hp121 _ _ ?_)
                  show GG _ _ _ _ _ _ _ _ [.int (Int32.ofInt 1)] _ _ _
                  refine g_if_ne 127 131 (gd rfl) rfl rfl (fun c124 => ?_) (fun c124 => ?_)
                  · skip
                    refine g_aload_n 132 (gd rfl) rfl rfl ?_
                    refine g_iconst 2 133 (gd rfl) rfl rfl ?_
                    refine g_putI 136 (gd rfl) rfl rfl rfl rfl ?_
                    have hI133 := inv_sF (q := 109) (j := 28) hI75 rfl (in_w (-2147483648) 2147483647 (in_c 2 rfl) rfl)
                    refine g_aload_n 137 (gd rfl) rfl rfl ?_
                    refine g_dup 138 (gd rfl) rfl rfl ?_
                    refine g_getI 141 (gd rfl) rfl rfl rfl (fun z138 e138 => ?_)
                    have q138 : w0_109_27 = z138 := (sF_ne rfl (sF_ne rfl (sF_ne rfl (v0_109_27)))).trans e138.symm
                    subst q138
                    refine g_iload_n 142 (gd rfl) rfl rfl ?_
                    refine g_if_eq 145 149 (gd rfl) rfl rfl (fun c142 => ?_) (fun c142 => ?_)
                    · skip
                      refine g_iconst 0 150 (gd rfl) rfl rfl ?_
                      refine g_iadd 151 (gd rfl) rfl (fun z150 e150 => ?_)
                      have i150 := in_add 0 999 e150 i8 (in_c 0 rfl) rfl rfl
                      refine g_putI 154 (gd rfl) rfl rfl rfl rfl ?_
                      have hI151 := inv_sF (q := 109) (j := 27) hI133 rfl (in_w 0 1000 i150 rfl)
                      refine g_aload_n 155 (gd rfl) rfl rfl ?_
                      refine g_bipush 7 157 (gd rfl) rfl rfl ?_
                      have hA9 : _ = (sF (sF (sF (sF sc0 109 29 w0_109_27) 109 30 z19) 109 28 (Int32.ofInt 2)) 109 27 z150).2.2.1 109 27 := (show z150 = (sF (sF (sF (sF sc0 109 29 w0_109_27) 109 30 z19) 109 28 (Int32.ofInt 2)) 109 27 z150).2.2.1 109 27 from sF_get)
                      have hL9 : u_109_22 = (sF (sF (sF (sF sc0 109 29 w0_109_27) 109 30 z19) 109 28 (Int32.ofInt 2)) 109 27 z150).2.2.1 109 22 := (show u_109_22 = (sF (sF (sF (sF sc0 109 29 w0_109_27) 109 30 z19) 109 28 (Int32.ofInt 2)) 109 27 z150).2.2.1 109 22 from sF_ne rfl (sF_ne rfl (sF_ne rfl (sF_ne rfl (fr_F e_109_22 hFc0 rfl)))))
                      have hX9 : (sF (sF (sF (sF sc0 109 29 w0_109_27) 109 30 z19) 109 28 (Int32.ofInt 2)) 109 27 z150).1 125 = s.1 125 := hFc0.1 125 rfl
                      have hP9 : _ = (sF (sF (sF (sF sc0 109 29 w0_109_27) 109 30 z19) 109 28 (Int32.ofInt 2)) 109 27 z150).2.2.1 109 29 := (show w0_109_27 = (sF (sF (sF (sF sc0 109 29 w0_109_27) 109 30 z19) 109 28 (Int32.ofInt 2)) 109 27 z150).2.2.1 109 29 from sF_ne rfl (sF_ne rfl (sF_ne rfl (sF_get))))
                      have hF9 : FSM s (sF (sF (sF (sF sc0 109 29 w0_109_27) 109 30 z19) 109 28 (Int32.ofInt 2)) 109 27 z150) := g0_1
                      have v157 : z150 = (sF (sF (sF (sF sc0 109 29 w0_109_27) 109 30 z19) 109 28 (Int32.ofInt 2)) 109 27 z150).2.2.1 109 27 := sF_get
                      have v157a : u_109_22 = (sF (sF (sF (sF sc0 109 29 w0_109_27) 109 30 z19) 109 28 (Int32.ofInt 2)) 109 27 z150).2.2.1 109 22 := sF_ne rfl (sF_ne rfl (sF_ne rfl (sF_ne rfl (fr_F e_109_22 hFc0 rfl))))
                      have n157 : (z150).toInt < (u_109_22).toInt := by have a0 := oa5 i8a i8 ((in_c 0 rfl)) i121x9 i150; have a5 := t_add e150 i8 (in_c 0 rfl) rfl; have a6 := in_u ((in_c 2 rfl)); have oc := oc_299_109; omega
                      have p157 : 48 ≤ ((sF (sF (sF (sF sc0 109 29 w0_109_27) 109 30 z19) 109 28 (Int32.ofInt 2)) 109 27 z150).1 125 ((sF (sF (sF (sF sc0 109 29 w0_109_27) 109 30 z19) 109 28 (Int32.ofInt 2)) 109 27 z150).2.2.1 109 27).toNatClampNeg).toInt ∧ ((sF (sF (sF (sF sc0 109 29 w0_109_27) 109 30 z19) 109 28 (Int32.ofInt 2)) 109 27 z150).1 125 ((sF (sF (sF (sF sc0 109 29 w0_109_27) 109 30 z19) 109 28 (Int32.ofInt 2)) 109 27 z150).2.2.1 109 27).toNatClampNeg).toInt ≤ 57 := by first | (have hz : z107 = (sF (sF (sF (sF sc0 109 29 w0_109_27) 109 30 z19) 109 28 (Int32.ofInt 2)) 109 27 z150).1 125 ((sF (sF (sF (sF sc0 109 29 w0_109_27) 109 30 z19) 109 28 (Int32.ofInt 2)) 109 27 z150).2.2.1 109 27).toNatClampNeg := (by rw [← (show z150 = (sF (sF (sF (sF sc0 109 29 w0_109_27) 109 30 z19) 109 28 (Int32.ofInt 2)) 109 27 z150).2.2.1 109 27 from sF_get), e150, ← e106]; exact e107); rw [← hz]; exact i108x9) | (have hz : z19 = (sF (sF (sF (sF sc0 109 29 w0_109_27) 109 30 z19) 109 28 (Int32.ofInt 2)) 109 27 z150).1 125 ((sF (sF (sF (sF sc0 109 29 w0_109_27) 109 30 z19) 109 28 (Int32.ofInt 2)) 109 27 z150).2.2.1 109 27).toNatClampNeg := (by rw [← (show z150 = (sF (sF (sF (sF sc0 109 29 w0_109_27) 109 30 z19) 109 28 (Int32.ofInt 2)) 109 27 z150).2.2.1 109 27 from sF_get), e150, show w0_109_27 + Int32.ofInt 0 = w0_109_27 from Int32.add_zero _]; exact e19); rw [← hz]; exact i121x9) | (have hz : z71 = (sF (sF (sF (sF sc0 109 29 w0_109_27) 109 30 z19) 109 28 (Int32.ofInt 2)) 109 27 z150).1 125 ((sF (sF (sF (sF sc0 109 29 w0_109_27) 109 30 z19) 109 28 (Int32.ofInt 2)) 109 27 z150).2.2.1 109 27).toNatClampNeg := (by rw [← (show z150 = (sF (sF (sF (sF sc0 109 29 w0_109_27) 109 30 z19) 109 28 (Int32.ofInt 2)) 109 27 z150).2.2.1 109 27 from sF_get), e150, show w0_109_27 + Int32.ofInt 0 = w0_109_27 from Int32.add_zero _]; exact e71); rw [← hz]; exact i121x9)
                      refine g_callv (X := _) (As := [.int (Int32.ofInt 7)]) (r := []) (b := A 109) (q := 109) 160 (gd rfl) rfl rfl rfl rfl rfl (ww_o rfl) (Nat.le_of_ble_eq_true rfl) (Nat.zero_le _) (Nat.zero_le _) (f_300 (by first | exact dq1 hd rfl | exact dq0 hd rfl | exact dq2 hd rfl | exact dq3 hd rfl | omega) hI151 (in_w 7 7 (in_c 7 rfl) rfl) v157 v157a n157 p157) (fun e u h => h) (fun v u h => ?_)
                      obtain ⟨s157, hI157, hF157, n157a, n157b, rfl, rfl, p157a⟩ := h
                      obtain ⟨z157a, e157⟩ : ∃ w, w = s157.2.2.1 109 27 := ⟨_, rfl⟩
                      have i157a := inv_F hI157 0 1000 rfl e157
                      rw [← (show z157a = s157.2.2.1 109 27 from e157)] at n157a
                      rw [← (show u_109_22 = s157.2.2.1 109 22 from fr_F (s := (sF (sF (sF (sF sc0 109 29 w0_109_27) 109 30 z19) 109 28 (Int32.ofInt 2)) 109 27 z150)) (sF_ne rfl (sF_ne rfl (sF_ne rfl (sF_ne rfl (fr_F e_109_22 hFc0 rfl))))) hF157 rfl)] at n157a
                      rw [← (show z150 = (sF (sF (sF (sF sc0 109 29 w0_109_27) 109 30 z19) 109 28 (Int32.ofInt 2)) 109 27 z150).2.2.1 109 27 from sF_get)] at n157b
                      rw [← (show z157a = s157.2.2.1 109 27 from e157)] at n157b
                      show GG _ _ _ _ _ _ _ _ [] _ _ _
                      refine g_aload_n 161 (gd rfl) rfl rfl ?_
                      refine g_iload_n 162 (gd rfl) rfl rfl ?_
                      refine g_if_eq 165 173 (gd rfl) rfl rfl (fun c162 => ?_) (fun c162 => ?_)
                      · skip
                        refine g_aload_n 174 (gd rfl) rfl rfl ?_
                        refine g_getL 177 (gd rfl) rfl rfl rfl (fun z174 e174 => ?_)
                        refine g_putL 180 (gd rfl) rfl rfl rfl rfl ?_
                        have hI177 := inv_sG (q := 109) (j := 31) (x := z174) hI157 rfl (l_rng z174)
                        have n180 : ∃ k v, TKN (s.1 125) (s.2.2.1 109 22).toInt.toNat (s.2.2.1 109 27).toInt.toNat ((sG s157 109 31 z174).2.2.1 109 29).toInt.toNat ((sG s157 109 31 z174).2.2.1 109 27).toInt.toNat k v ∧ NTK s (sG s157 109 31 z174) k v := by have hT0 : s.1 125 w0_109_27.toInt.toNat = z19 := (by rw [e19, hFc0.1 125 rfl]; rfl); have hS : tkS (s.1 125) (u_109_22).toInt.toNat (u_109_27).toInt.toNat w0_109_27.toInt.toNat := ⟨by have a0 := oa7 i8a i8 ((in_c 0 rfl)) i121x9 i157a ((in_c 2 rfl)) i150; have a7 := t_add e150 i8 (in_c 0 rfl) rfl; have oc := oc_299_109; omega, by have a0 := oa7 i8a i8 ((in_c 0 rfl)) i121x9 i157a ((in_c 2 rfl)) i150; have a7 := t_add e150 i8 (in_c 0 rfl) rfl; have oc := oc_299_109; omega, fun i a b => g0_0 i (by rw [← e_109_27]; exact a) (by have a0 := oa7 i8a i8 ((in_c 0 rfl)) i121x9 i157a ((in_c 2 rfl)) i150; have a7 := t_add e150 i8 (in_c 0 rfl) rfl; have oc := oc_299_109; omega), fun _ => by rw [hT0]; have a0 := oa7 i8a i8 ((in_c 0 rfl)) i121x9 i157a ((in_c 2 rfl)) i150; have a7 := t_add e150 i8 (in_c 0 rfl) rfl; have oc := oc_299_109; omega⟩; have hp := p157a; rw [hX9, ← hL9, ← hA9, ← hP9] at hp; obtain ⟨hg, hp⟩ := hp; have hat : (s157.2.2.1 109 27) = z157a := ((show z157a = (sG s157 109 31 z174).2.2.1 109 27 from sG_F (e157))).symm; have hz9 : (z150).toInt.toNat = w0_109_27.toInt.toNat := (by have a0 := oa7 i8a i8 ((in_c 0 rfl)) i121x9 i157a ((in_c 2 rfl)) i150; have a7 := t_add e150 i8 (in_c 0 rfl) rfl; have oc := oc_299_109; omega); rw [hz9] at hg hp; rcases hp with ⟨hl, hv, hf⟩ | ⟨hl, hf⟩; (refine ⟨2, ((sG s157 109 31 z174).2.2.2.1 109 31).toInt, ?_, ?_⟩; (rw [← e_109_22, ← e_109_27, ← (show w0_109_27 = (sG s157 109 31 z174).2.2.1 109 29 from sG_F (fr_F (s := (sF (sF (sF (sF sc0 109 29 w0_109_27) 109 30 z19) 109 28 (Int32.ofInt 2)) 109 27 z150)) (sF_ne rfl (sF_ne rfl (sF_ne rfl (sF_get)))) hF157 rfl))]; exact tkn_2 (q := w0_109_27.toInt.toNat) (x := 0) hS (Or.inl ⟨rfl, by have a0 := oa7 i8a i8 ((in_c 0 rfl)) i121x9 i157a ((in_c 2 rfl)) i150; have a7 := t_add e150 i8 (in_c 0 rfl) rfl; have oc := oc_299_109; omega, by rw [hT0]; exact ⟨by have a0 := oa7 i8a i8 ((in_c 0 rfl)) i121x9 i157a ((in_c 2 rfl)) i150; have a7 := t_add e150 i8 (in_c 0 rfl) rfl; have oc := oc_299_109; omega, by have a0 := oa7 i8a i8 ((in_c 0 rfl)) i121x9 i157a ((in_c 2 rfl)) i150; have a7 := t_add e150 i8 (in_c 0 rfl) rfl; have oc := oc_299_109; omega⟩⟩) ⟨fun _ => rfl, fun _ => rfl⟩ ⟨by rw [← hat] at *; exact hg, Or.inl ⟨by rw [← hat] at *; exact hl, rfl, by first | (rw [if_pos rfl]; rw [← hat] at *; exact (by show (z174).toInt = _; rw [e174, hv]; rfl)) | (rw [if_neg (by decide)]; rw [← hat] at *; exact (by show (z174).toInt = _; rw [e174, hv]; rfl))⟩⟩); (exact ntk_2 ((show (Int32.ofInt 2) = (sG s157 109 31 z174).2.2.1 109 28 from sG_F (fr_F (s := (sF (sF (sF (sF sc0 109 29 w0_109_27) 109 30 z19) 109 28 (Int32.ofInt 2)) 109 27 z150)) (sF_ne rfl (sF_get)) hF157 rfl))).symm rfl (fsm_tr hF9 hf))); (refine ⟨5, 0, ?_, ?_⟩; (rw [← e_109_22, ← e_109_27, ← (show w0_109_27 = (sG s157 109 31 z174).2.2.1 109 29 from sG_F (fr_F (s := (sF (sF (sF (sF sc0 109 29 w0_109_27) 109 30 z19) 109 28 (Int32.ofInt 2)) 109 27 z150)) (sF_ne rfl (sF_ne rfl (sF_ne rfl (sF_get)))) hF157 rfl))]; exact tkn_2 (q := w0_109_27.toInt.toNat) (x := 0) hS (Or.inl ⟨rfl, by have a0 := oa7 i8a i8 ((in_c 0 rfl)) i121x9 i157a ((in_c 2 rfl)) i150; have a7 := t_add e150 i8 (in_c 0 rfl) rfl; have oc := oc_299_109; omega, by rw [hT0]; exact ⟨by have a0 := oa7 i8a i8 ((in_c 0 rfl)) i121x9 i157a ((in_c 2 rfl)) i150; have a7 := t_add e150 i8 (in_c 0 rfl) rfl; have oc := oc_299_109; omega, by have a0 := oa7 i8a i8 ((in_c 0 rfl)) i121x9 i157a ((in_c 2 rfl)) i150; have a7 := t_add e150 i8 (in_c 0 rfl) rfl; have oc := oc_299_109; omega⟩⟩) ⟨fun _ => rfl, fun _ => rfl⟩ ⟨by rw [← hat] at *; exact hg, Or.inr ⟨by rw [← hat] at *; exact hl, rfl⟩⟩); (exact ntk_5 ((show (Int32.ofInt 2) = (sG s157 109 31 z174).2.2.1 109 28 from sG_F (fr_F (s := (sF (sF (sF (sF sc0 109 29 w0_109_27) 109 30 z19) 109 28 (Int32.ofInt 2)) 109 27 z150)) (sF_ne rfl (sF_get)) hF157 rfl))).symm (fbl_tr hF9 (by rw [← (show w0_109_27 = (sG s157 109 31 z174).2.2.1 109 29 from sG_F (fr_F (s := (sF (sF (sF (sF sc0 109 29 w0_109_27) 109 30 z19) 109 28 (Int32.ofInt 2)) 109 27 z150)) (sF_ne rfl (sF_ne rfl (sF_ne rfl (sF_get)))) hF157 rfl))]; exact hf))))
                        have n180a : (z157a).toInt ≤ (u_109_22).toInt := by have a0 := oa7 i8a i8 ((in_c 0 rfl)) i121x9 i157a ((in_c 2 rfl)) i150; have a7 := t_add e150 i8 (in_c 0 rfl) rfl; have oc := oc_299_109; omega
                        have n180b : ((sG s157 109 31 z174).2.2.1 109 27).toInt ≤ ((sG s157 109 31 z174).2.2.1 109 22).toInt := by have b0 : z157a = (sG s157 109 31 z174).2.2.1 109 27 := sG_F (e157); have b1 : u_109_22 = (sG s157 109 31 z174).2.2.1 109 22 := sG_F (fr_F (s := (sF (sF (sF (sF sc0 109 29 w0_109_27) 109 30 z19) 109 28 (Int32.ofInt 2)) 109 27 z150)) (sF_ne rfl (sF_ne rfl (sF_ne rfl (sF_ne rfl (fr_F e_109_22 hFc0 rfl))))) hF157 rfl); rw [← b0, ← b1]; exact n180a
                        have n180c : (u_109_27).toInt ≤ (z157a).toInt := by have a0 := oa7 i8a i8 ((in_c 0 rfl)) i121x9 i157a ((in_c 2 rfl)) i150; have a7 := t_add e150 i8 (in_c 0 rfl) rfl; have oc := oc_299_109; omega
                        have n180d : (s.2.2.1 109 27).toInt ≤ ((sG s157 109 31 z174).2.2.1 109 27).toInt := by have b0 : z157a = (sG s157 109 31 z174).2.2.1 109 27 := sG_F (e157); first | (rw [← b0, ← e_109_27]; exact n180c) | (rw [← b0]; exact n180c)
                        have n180e : ((Int32.ofInt 2)).toInt ≠ 0 → (u_109_27).toInt + 1 ≤ (z157a).toInt := by have a0 := oa7 i8a i8 ((in_c 0 rfl)) i121x9 i157a ((in_c 2 rfl)) i150; have a7 := t_add e150 i8 (in_c 0 rfl) rfl; have oc := oc_299_109; omega
                        have n180f : ((sG s157 109 31 z174).2.2.1 109 28).toInt ≠ 0 → (s.2.2.1 109 27).toInt + 1 ≤ ((sG s157 109 31 z174).2.2.1 109 27).toInt := by have b0 : (Int32.ofInt 2) = (sG s157 109 31 z174).2.2.1 109 28 := sG_F (fr_F (s := (sF (sF (sF (sF sc0 109 29 w0_109_27) 109 30 z19) 109 28 (Int32.ofInt 2)) 109 27 z150)) (sF_ne rfl (sF_get)) hF157 rfl); have b1 : z157a = (sG s157 109 31 z174).2.2.1 109 27 := sG_F (e157); first | (rw [← b0, ← b1, ← e_109_27]; exact n180e) | (rw [← b0, ← b1]; exact n180e)
                        have n180g : ((Int32.ofInt 2)).toInt = 1 → 97 ≤ (z19).toInt := by exact fun h => absurd h (by decide)
                        have n180h : ((sG s157 109 31 z174).2.2.1 109 28).toInt = 1 → 97 ≤ ((sG s157 109 31 z174).2.2.1 109 30).toInt := by have b0 : (Int32.ofInt 2) = (sG s157 109 31 z174).2.2.1 109 28 := sG_F (fr_F (s := (sF (sF (sF (sF sc0 109 29 w0_109_27) 109 30 z19) 109 28 (Int32.ofInt 2)) 109 27 z150)) (sF_ne rfl (sF_get)) hF157 rfl); have b1 : z19 = (sG s157 109 31 z174).2.2.1 109 30 := sG_F (fr_F (s := (sF (sF (sF (sF sc0 109 29 w0_109_27) 109 30 z19) 109 28 (Int32.ofInt 2)) 109 27 z150)) (sF_ne rfl (sF_ne rfl (sF_get))) hF157 rfl); rw [← b0, ← b1]; exact n180g
                        have n180i : ((Int32.ofInt 2)).toInt = 1 → (z19).toInt ≤ 122 := by exact fun h => absurd h (by decide)
                        have n180j : ((sG s157 109 31 z174).2.2.1 109 28).toInt = 1 → ((sG s157 109 31 z174).2.2.1 109 30).toInt ≤ 122 := by have b0 : (Int32.ofInt 2) = (sG s157 109 31 z174).2.2.1 109 28 := sG_F (fr_F (s := (sF (sF (sF (sF sc0 109 29 w0_109_27) 109 30 z19) 109 28 (Int32.ofInt 2)) 109 27 z150)) (sF_ne rfl (sF_get)) hF157 rfl); have b1 : z19 = (sG s157 109 31 z174).2.2.1 109 30 := sG_F (fr_F (s := (sF (sF (sF (sF sc0 109 29 w0_109_27) 109 30 z19) 109 28 (Int32.ofInt 2)) 109 27 z150)) (sF_ne rfl (sF_ne rfl (sF_get))) hF157 rfl); rw [← b0, ← b1]; exact n180i
                        exact g_return (gd rfl) rfl (hP _ _ ⟨(sG s157 109 31 z174), hI177, (fr_sG rfl (fr_tr rfl (fr_sF rfl (fr_sF rfl (fr_sF rfl (fr_sF rfl hFc0)))) hF157)), n180b, n180d, n180f, n180h, n180j, rfl, rfl, n180⟩)
                      · skip
                        exact zn_ne c162 (in_c 0 rfl) rfl
                    · skip
                      exact zn_ne c142 (in_c 0 rfl) rfl
                  · skip
                    exact zn_eq c124 (in_c 1 rfl) rfl
            · skip
              have i81 := r_eq1 45 45 c81 i19 (in_c 45 rfl) rfl
              refine g_aload_n 85 (gd rfl) rfl rfl ?_
              refine g_getI 88 (gd rfl) rfl rfl rfl (fun z85 e85 => ?_)
              have q85 : w0_109_27 = z85 := (sF_ne rfl (sF_ne rfl (v0_109_27))).trans e85.symm
              subst q85
              refine g_iconst 1 89 (gd rfl) rfl rfl ?_
              refine g_iadd 90 (gd rfl) rfl (fun z89 e89 => ?_)
              have i89 := in_add 1 1000 e89 i8 (in_c 1 rfl) rfl rfl
              refine g_aload_n 91 (gd rfl) rfl rfl ?_
              refine g_getI 94 (gd rfl) rfl rfl rfl (fun z91 e91 => ?_)
              have q91 : u_109_22 = z91 := (sF_ne rfl (sF_ne rfl (fr_F e_109_22 hFc0 rfl))).trans e91.symm
              subst q91
              refine g_cmp_ge 97 118 (gd rfl) rfl rfl (fun c94 => ?_) (fun c94 => ?_)
              · skip
                refine g_iconst 0 119 (gd rfl) rfl rfl ?_
                refine g_istore_n 120 (gd rfl) rfl (Nat.le_of_ble_eq_true rfl) ?_
                refine g_iload_n 121 (gd rfl) rfl rfl ?_
                refine g_calls (As := [.int z19]) (r := []) 124 (gd rfl) rfl rfl rfl rfl rfl (Nat.le_of_ble_eq_true rfl) (mc := 0) (ms := 0) (Nat.zero_le _) (Nat.zero_le _) (P := fun v u => _) ?_ (fun v u h => h)
                intro po121 xx121 hp121 hx121
                refine g_enter2 (k := 297) (N := 300) (by first | exact dq1 hd rfl | exact dq0 hd rfl | exact dq2 hd rfl | exact dq3 hd rfl | omega) rfl (Nat.le_of_ble_eq_true rfl) ?_
                refine g_iload_n 1 (gd rfl) rfl rfl ?_
                refine g_bipush 48 3 (gd rfl) rfl rfl ?_
                refine g_cmp_lt 6 16 (gd rfl) rfl rfl (fun c121x3 => ?_) (fun c121x3 => ?_)
                · skip
                  refine g_iconst 0 17 (gd rfl) rfl rfl ?_
                  refine g_ireturn (gd rfl) rfl (nb01 (in_w 0 1 (in_c 0 rfl) rfl)) (hp121 _ _ ?_)
                  show GG _ _ _ _ _ _ _ _ [.int (Int32.ofInt 0)] _ _ _
                  refine g_if_ne 127 131 (gd rfl) rfl rfl (fun c124 => ?_) (fun c124 => ?_)
                  · skip
                    exact zn_ne c124 (in_c 0 rfl) rfl
                  · skip
                    refine g_iload_n 128 (gd rfl) rfl rfl ?_
                    refine g_if_eq 131 181 (gd rfl) rfl rfl (fun c128 => ?_) (fun c128 => ?_)
                    · skip
                      refine g_aload_n 182 (gd rfl) rfl rfl ?_
                      refine g_iload_n 183 (gd rfl) rfl rfl ?_
                      refine g_calls (As := [.int z19]) (r := [.ref (A 109)]) 186 (gd rfl) rfl rfl rfl rfl rfl (Nat.le_of_ble_eq_true rfl) (mc := 0) (ms := 0) (Nat.zero_le _) (Nat.zero_le _) (P := fun v u => _) ?_ (fun v u h => h)
                      intro po183 xx183 hp183 hx183
                      refine g_enter2 (k := 296) (N := 300) (by first | exact dq1 hd rfl | exact dq0 hd rfl | exact dq2 hd rfl | exact dq3 hd rfl | omega) rfl (Nat.le_of_ble_eq_true rfl) ?_
                      refine g_iload_n 1 (gd rfl) rfl rfl ?_
                      refine g_bipush 97 3 (gd rfl) rfl rfl ?_
                      refine g_cmp_lt 6 16 (gd rfl) rfl rfl (fun c183x3 => ?_) (fun c183x3 => ?_)
                      · skip
                        refine g_iconst 0 17 (gd rfl) rfl rfl ?_
                        refine g_ireturn (gd rfl) rfl (nb01 (in_w 0 1 (in_c 0 rfl) rfl)) (hp183 _ _ ?_)
                        show GG _ _ _ _ _ _ _ _ [.int (Int32.ofInt 0), .ref (A 109)] _ _ _
                        refine g_if_eq 189 193 (gd rfl) rfl rfl (fun c186 => ?_) (fun c186 => ?_)
                        · skip
                          refine g_iconst 3 194 (gd rfl) rfl rfl ?_
                          refine g_putI 197 (gd rfl) rfl rfl rfl rfl ?_
                          have hI194 := inv_sF (q := 109) (j := 28) hI75 rfl (in_w (-2147483648) 2147483647 (in_c 3 rfl) rfl)
                          refine g_aload_n 198 (gd rfl) rfl rfl ?_
                          refine g_getI 201 (gd rfl) rfl rfl rfl (fun z198 e198 => ?_)
                          have q198 : (Int32.ofInt 3) = z198 := (sF_get).trans e198.symm
                          subst q198
                          refine g_iconst 3 202 (gd rfl) rfl rfl ?_
                          refine g_cmp_ne 205 220 (gd rfl) rfl rfl (fun c202 => ?_) (fun c202 => ?_)
                          · skip
                            exact n_ne c202 (in_c 3 rfl) (in_c 3 rfl) rfl
                          · skip
                            refine g_iload_n 206 (gd rfl) rfl rfl ?_
                            refine g_bipush 59 208 (gd rfl) rfl rfl ?_
                            refine g_cmp_eq 211 220 (gd rfl) rfl rfl (fun c208 => ?_) (fun c208 => ?_)
                            · skip
                              exact n_eq c208 i81 (in_c 59 rfl) rfl
                            · skip
                              refine g_aload_n 212 (gd rfl) rfl rfl ?_
                              refine g_iconst 1 213 (gd rfl) rfl rfl ?_
                              refine g_aload_n 214 (gd rfl) rfl rfl ?_
                              refine g_getI 217 (gd rfl) rfl rfl rfl (fun z214 e214 => ?_)
                              have q214 : w0_109_27 = z214 := (sF_ne rfl (sF_ne rfl (sF_get))).trans e214.symm
                              subst q214
                              refine g_callv (X := _) (As := [.int (Int32.ofInt 1), .int w0_109_27]) (r := []) (b := A 109) (q := 109) 220 (gd rfl) rfl rfl rfl rfl rfl (ww_o rfl) (Nat.le_of_ble_eq_true rfl) (Nat.zero_le _) (Nat.zero_le _) (f_298 (by first | exact dq1 hd rfl | exact dq0 hd rfl | exact dq2 hd rfl | exact dq3 hd rfl | omega) hI194 (in_w 1 5 (in_c 1 rfl) rfl) rfl) (fun e u h => h) (fun v u h => ?_)
                              obtain ⟨s217, hI217, hF217, n217, rfl, rfl, p217⟩ := h
                              obtain ⟨z217a, e217⟩ : ∃ w, w = s217.2.2.1 109 23 := ⟨_, rfl⟩
                              have i217a := inv_F hI217 0 9 rfl e217
                              rw [← (show z217a = s217.2.2.1 109 23 from e217)] at n217
                              show GG _ _ _ _ _ _ _ _ [] _ _ _
                              refine g_aload_n 221 (gd rfl) rfl rfl ?_
                              refine g_dup 222 (gd rfl) rfl rfl ?_
                              refine g_getI 225 (gd rfl) rfl rfl rfl (fun z222 e222 => ?_)
                              have q222 : w0_109_27 = z222 := (fr_F (s := (sF (sF (sF sc0 109 29 w0_109_27) 109 30 z19) 109 28 (Int32.ofInt 3))) (sF_ne rfl (sF_ne rfl (sF_ne rfl (v0_109_27)))) hF217 rfl).trans e222.symm
                              subst q222
                              refine g_iconst 1 226 (gd rfl) rfl rfl ?_
                              refine g_iadd 227 (gd rfl) rfl (fun z226 e226 => ?_)
                              have i226 := in_add 1 1000 e226 i8 (in_c 1 rfl) rfl rfl
                              refine g_putI 230 (gd rfl) rfl rfl rfl rfl ?_
                              have hI227 := inv_sF (q := 109) (j := 27) hI217 rfl (in_w 0 1000 i226 rfl)
                              have n230 : ∃ k v, TKN (s.1 125) (s.2.2.1 109 22).toInt.toNat (s.2.2.1 109 27).toInt.toNat ((sF s217 109 27 z226).2.2.1 109 29).toInt.toNat ((sF s217 109 27 z226).2.2.1 109 27).toInt.toNat k v ∧ NTK s (sF s217 109 27 z226) k v := by have hT0 : s.1 125 w0_109_27.toInt.toNat = z19 := (by rw [e19, hFc0.1 125 rfl]; rfl); have hS : tkS (s.1 125) (u_109_22).toInt.toNat (u_109_27).toInt.toNat w0_109_27.toInt.toNat := ⟨by have a0 := oa5 i8a i8 ((in_c 0 rfl)) i81 i226; have a5 := t_add e226 i8 (in_c 1 rfl) rfl; have a6 := oa4 ((in_c 1 rfl)) i217a ((in_c 3 rfl)) i89; have a10 := t_add e89 i8 (in_c 1 rfl) rfl; have oc := oc_299_109; omega, by have a0 := oa5 i8a i8 ((in_c 0 rfl)) i81 i226; have a5 := t_add e226 i8 (in_c 1 rfl) rfl; have a6 := oa4 ((in_c 1 rfl)) i217a ((in_c 3 rfl)) i89; have a10 := t_add e89 i8 (in_c 1 rfl) rfl; have oc := oc_299_109; omega, fun i a b => g0_0 i (by rw [← e_109_27]; exact a) (by have a0 := oa5 i8a i8 ((in_c 0 rfl)) i81 i226; have a5 := t_add e226 i8 (in_c 1 rfl) rfl; have a6 := oa4 ((in_c 1 rfl)) i217a ((in_c 3 rfl)) i89; have a10 := t_add e89 i8 (in_c 1 rfl) rfl; have oc := oc_299_109; omega), fun _ => by rw [hT0]; have a0 := oa5 i8a i8 ((in_c 0 rfl)) i81 i226; have a5 := t_add e226 i8 (in_c 1 rfl) rfl; have a6 := oa4 ((in_c 1 rfl)) i217a ((in_c 3 rfl)) i89; have a10 := t_add e89 i8 (in_c 1 rfl) rfl; have oc := oc_299_109; omega⟩; refine ⟨4, 0, ?_, ?_⟩; (rw [← (show z226 = (sF s217 109 27 z226).2.2.1 109 27 from sF_get), ← (show w0_109_27 = (sF s217 109 27 z226).2.2.1 109 29 from sF_ne rfl (fr_F (s := (sF (sF (sF sc0 109 29 w0_109_27) 109 30 z19) 109 28 (Int32.ofInt 3))) (sF_ne rfl (sF_ne rfl (sF_get))) hF217 rfl)), ← e_109_22, ← e_109_27]; exact tkn_4 hS (by have a0 := oa5 i8a i8 ((in_c 0 rfl)) i81 i226; have a5 := t_add e226 i8 (in_c 1 rfl) rfl; have a6 := oa4 ((in_c 1 rfl)) i217a ((in_c 3 rfl)) i89; have a10 := t_add e89 i8 (in_c 1 rfl) rfl; have oc := oc_299_109; omega) (by rw [hT0]; unfold tkL; have a0 := oa5 i8a i8 ((in_c 0 rfl)) i81 i226; have a5 := t_add e226 i8 (in_c 1 rfl) rfl; have a6 := oa4 ((in_c 1 rfl)) i217a ((in_c 3 rfl)) i89; have a10 := t_add e89 i8 (in_c 1 rfl) rfl; have oc := oc_299_109; omega) (by rw [hT0]; have a0 := oa5 i8a i8 ((in_c 0 rfl)) i81 i226; have a5 := t_add e226 i8 (in_c 1 rfl) rfl; have a6 := oa4 ((in_c 1 rfl)) i217a ((in_c 3 rfl)) i89; have a10 := t_add e89 i8 (in_c 1 rfl) rfl; have oc := oc_299_109; omega) (by first | exact nq_1 (by rw [hT0]; unfold tkD; have a0 := oa5 i8a i8 ((in_c 0 rfl)) i81 i226; have a5 := t_add e226 i8 (in_c 1 rfl) rfl; have a6 := oa4 ((in_c 1 rfl)) i217a ((in_c 3 rfl)) i89; have a10 := t_add e89 i8 (in_c 1 rfl) rfl; have oc := oc_299_109; omega) (by rw [hT0]; have a0 := oa5 i8a i8 ((in_c 0 rfl)) i81 i226; have a5 := t_add e226 i8 (in_c 1 rfl) rfl; have a6 := oa4 ((in_c 1 rfl)) i217a ((in_c 3 rfl)) i89; have a10 := t_add e89 i8 (in_c 1 rfl) rfl; have oc := oc_299_109; omega) | exact nq_2 (by rw [hT0]; have a0 := oa5 i8a i8 ((in_c 0 rfl)) i81 i226; have a5 := t_add e226 i8 (in_c 1 rfl) rfl; have a6 := oa4 ((in_c 1 rfl)) i217a ((in_c 3 rfl)) i89; have a10 := t_add e89 i8 (in_c 1 rfl) rfl; have oc := oc_299_109; omega) (fun h => by first | (exfalso; have a0 := oa5 i8a i8 ((in_c 0 rfl)) i81 i226; have a5 := t_add e226 i8 (in_c 1 rfl) rfl; have a6 := oa4 ((in_c 1 rfl)) i217a ((in_c 3 rfl)) i89; have a10 := t_add e89 i8 (in_c 1 rfl) rfl; have oc := oc_299_109; omega) | (rw [show s.1 125 (w0_109_27.toInt.toNat + 1) = z107 from (by rw [e107, show z106.toNatClampNeg = w0_109_27.toInt.toNat + 1 from (by show z106.toInt.toNat = _; have a0 := oa5 i8a i8 ((in_c 0 rfl)) i81 i226; have a5 := t_add e226 i8 (in_c 1 rfl) rfl; have a6 := oa4 ((in_c 1 rfl)) i217a ((in_c 3 rfl)) i89; have a10 := t_add e89 i8 (in_c 1 rfl) rfl; have oc := oc_299_109; omega)]; exact congrFun (hFc0.1 125 rfl).symm _)]; unfold tkD; have a0 := oa5 i8a i8 ((in_c 0 rfl)) i81 i226; have a5 := t_add e226 i8 (in_c 1 rfl) rfl; have a6 := oa4 ((in_c 1 rfl)) i217a ((in_c 3 rfl)) i89; have a10 := t_add e89 i8 (in_c 1 rfl) rfl; have oc := oc_299_109; omega))) (by have a0 := oa5 i8a i8 ((in_c 0 rfl)) i81 i226; have a5 := t_add e226 i8 (in_c 1 rfl) rfl; have a6 := oa4 ((in_c 1 rfl)) i217a ((in_c 3 rfl)) i89; have a10 := t_add e89 i8 (in_c 1 rfl) rfl; have oc := oc_299_109; omega) rfl); (exact ntk_4 ((show (Int32.ofInt 3) = (sF s217 109 27 z226).2.2.1 109 28 from sF_ne rfl (fr_F (s := (sF (sF (sF sc0 109 29 w0_109_27) 109 30 z19) 109 28 (Int32.ofInt 3))) (sF_get) hF217 rfl))).symm (by rw [← (show z19 = (sF s217 109 27 z226).2.2.1 109 30 from sF_ne rfl (fr_F (s := (sF (sF (sF sc0 109 29 w0_109_27) 109 30 z19) 109 28 (Int32.ofInt 3))) (sF_ne rfl (sF_get)) hF217 rfl))]; have a0 := oa5 i8a i8 ((in_c 0 rfl)) i81 i226; have a5 := t_add e226 i8 (in_c 1 rfl) rfl; have a6 := oa4 ((in_c 1 rfl)) i217a ((in_c 3 rfl)) i89; have a10 := t_add e89 i8 (in_c 1 rfl) rfl; have oc := oc_299_109; omega) (fbl_tr g0_1 (by rw [← (show w0_109_27 = (sF s217 109 27 z226).2.2.1 109 29 from sF_ne rfl (fr_F (s := (sF (sF (sF sc0 109 29 w0_109_27) 109 30 z19) 109 28 (Int32.ofInt 3))) (sF_ne rfl (sF_ne rfl (sF_get))) hF217 rfl))]; exact p217)))
                              have n230a : (z226).toInt ≤ (u_109_22).toInt := by have a0 := oa5 i8a i8 ((in_c 0 rfl)) i81 i226; have a5 := t_add e226 i8 (in_c 1 rfl) rfl; have a6 := oa4 ((in_c 1 rfl)) i217a ((in_c 3 rfl)) i89; have a10 := t_add e89 i8 (in_c 1 rfl) rfl; have oc := oc_299_109; omega
                              have n230b : ((sF s217 109 27 z226).2.2.1 109 27).toInt ≤ ((sF s217 109 27 z226).2.2.1 109 22).toInt := by have b0 : z226 = (sF s217 109 27 z226).2.2.1 109 27 := sF_get; have b1 : u_109_22 = (sF s217 109 27 z226).2.2.1 109 22 := sF_ne rfl (fr_F (s := (sF (sF (sF sc0 109 29 w0_109_27) 109 30 z19) 109 28 (Int32.ofInt 3))) (sF_ne rfl (sF_ne rfl (sF_ne rfl (fr_F e_109_22 hFc0 rfl)))) hF217 rfl); rw [← b0, ← b1]; exact n230a
                              have n230c : (u_109_27).toInt ≤ (z226).toInt := by have a0 := oa5 i8a i8 ((in_c 0 rfl)) i81 i226; have a5 := t_add e226 i8 (in_c 1 rfl) rfl; have a6 := oa4 ((in_c 1 rfl)) i217a ((in_c 3 rfl)) i89; have a10 := t_add e89 i8 (in_c 1 rfl) rfl; have oc := oc_299_109; omega
                              have n230d : (s.2.2.1 109 27).toInt ≤ ((sF s217 109 27 z226).2.2.1 109 27).toInt := by have b0 : z226 = (sF s217 109 27 z226).2.2.1 109 27 := sF_get; first | (rw [← b0, ← e_109_27]; exact n230c) | (rw [← b0]; exact n230c)
                              have n230e : ((Int32.ofInt 3)).toInt ≠ 0 → (u_109_27).toInt + 1 ≤ (z226).toInt := by have a0 := oa5 i8a i8 ((in_c 0 rfl)) i81 i226; have a5 := t_add e226 i8 (in_c 1 rfl) rfl; have a6 := oa4 ((in_c 1 rfl)) i217a ((in_c 3 rfl)) i89; have a10 := t_add e89 i8 (in_c 1 rfl) rfl; have oc := oc_299_109; omega
                              have n230f : ((sF s217 109 27 z226).2.2.1 109 28).toInt ≠ 0 → (s.2.2.1 109 27).toInt + 1 ≤ ((sF s217 109 27 z226).2.2.1 109 27).toInt := by have b0 : (Int32.ofInt 3) = (sF s217 109 27 z226).2.2.1 109 28 := sF_ne rfl (fr_F (s := (sF (sF (sF sc0 109 29 w0_109_27) 109 30 z19) 109 28 (Int32.ofInt 3))) (sF_get) hF217 rfl); have b1 : z226 = (sF s217 109 27 z226).2.2.1 109 27 := sF_get; first | (rw [← b0, ← b1, ← e_109_27]; exact n230e) | (rw [← b0, ← b1]; exact n230e)
                              have n230g : ((Int32.ofInt 3)).toInt = 1 → 97 ≤ (z19).toInt := by exact fun h => absurd h (by decide)
                              have n230h : ((sF s217 109 27 z226).2.2.1 109 28).toInt = 1 → 97 ≤ ((sF s217 109 27 z226).2.2.1 109 30).toInt := by have b0 : (Int32.ofInt 3) = (sF s217 109 27 z226).2.2.1 109 28 := sF_ne rfl (fr_F (s := (sF (sF (sF sc0 109 29 w0_109_27) 109 30 z19) 109 28 (Int32.ofInt 3))) (sF_get) hF217 rfl); have b1 : z19 = (sF s217 109 27 z226).2.2.1 109 30 := sF_ne rfl (fr_F (s := (sF (sF (sF sc0 109 29 w0_109_27) 109 30 z19) 109 28 (Int32.ofInt 3))) (sF_ne rfl (sF_get)) hF217 rfl); rw [← b0, ← b1]; exact n230g
                              have n230i : ((Int32.ofInt 3)).toInt = 1 → (z19).toInt ≤ 122 := by exact fun h => absurd h (by decide)
                              have n230j : ((sF s217 109 27 z226).2.2.1 109 28).toInt = 1 → ((sF s217 109 27 z226).2.2.1 109 30).toInt ≤ 122 := by have b0 : (Int32.ofInt 3) = (sF s217 109 27 z226).2.2.1 109 28 := sF_ne rfl (fr_F (s := (sF (sF (sF sc0 109 29 w0_109_27) 109 30 z19) 109 28 (Int32.ofInt 3))) (sF_get) hF217 rfl); have b1 : z19 = (sF s217 109 27 z226).2.2.1 109 30 := sF_ne rfl (fr_F (s := (sF (sF (sF sc0 109 29 w0_109_27) 109 30 z19) 109 28 (Int32.ofInt 3))) (sF_ne rfl (sF_get)) hF217 rfl); rw [← b0, ← b1]; exact n230i
                              exact g_return (gd rfl) rfl (hP _ _ ⟨(sF s217 109 27 z226), hI227, (fr_sF rfl (fr_tr rfl (fr_sF rfl (fr_sF rfl (fr_sF rfl hFc0))) hF217)), n230b, n230d, n230f, n230h, n230j, rfl, rfl, n230⟩)
                        · skip
                          exact zn_ne c186 (in_c 0 rfl) rfl
                      · skip
                        exact n_le c183x3 (in_c 97 rfl) i81 rfl
                    · skip
                      exact zn_ne c128 (in_c 0 rfl) rfl
                · skip
                  exact n_le c121x3 (in_c 48 rfl) i81 rfl
              · skip
                have i94 := r_lt1 1 999 c94 i89 i8a rfl
                have i94a := r_lt2 2 1000 c94 i89 i8a rfl
                refine g_aload_n 98 (gd rfl) rfl rfl ?_
                refine g_getA (q2 := 125) 101 (gd rfl) rfl rfl rfl rfl ?_
                refine g_aload_n 102 (gd rfl) rfl rfl ?_
                refine g_getI 105 (gd rfl) rfl rfl rfl (fun z102 e102 => ?_)
                have q102 : w0_109_27 = z102 := (sF_ne rfl (sF_ne rfl (v0_109_27))).trans e102.symm
                subst q102
                refine g_iconst 1 106 (gd rfl) rfl rfl ?_
                refine g_iadd 107 (gd rfl) rfl (fun z106 e106 => ?_)
                have i106 := in_add 1 1000 e106 i8 (in_c 1 rfl) rfl rfl
                have i107 : In z106 0 999 := by have a0 := oa4 i94a i8 i81 i106; have a4 := t_add e106 i8 (in_c 1 rfl) rfl; have a5 := oa2 ((in_c 1 rfl)) i94; have a7 := t_add e89 i8 (in_c 1 rfl) rfl; have oc := oc_299_109; exact ⟨by omega, by omega⟩
                refine g_iaload 108 (gd rfl) rfl (n := 1000) rfl (in_ix i107 rfl) (fun z107 e107 => ?_)
                have i107a := inv_I hI75 (n := 1000) (t := 0) 0 126 rfl (in_ix i107 rfl) rfl e107
                refine g_calls (As := [.int z107]) (r := []) 111 (gd rfl) rfl rfl rfl rfl rfl (Nat.le_of_ble_eq_true rfl) (mc := 0) (ms := 0) (Nat.zero_le _) (Nat.zero_le _) (P := fun v u => _) ?_ (fun v u h => h)
                intro po108 xx108 hp108 hx108
                refine g_enter2 (k := 297) (N := 300) (by first | exact dq1 hd rfl | exact dq0 hd rfl | exact dq2 hd rfl | exact dq3 hd rfl | omega) rfl (Nat.le_of_ble_eq_true rfl) ?_
                refine g_iload_n 1 (gd rfl) rfl rfl ?_
                refine g_bipush 48 3 (gd rfl) rfl rfl ?_
                refine g_cmp_lt 6 16 (gd rfl) rfl rfl (fun c108x3 => ?_) (fun c108x3 => ?_)
                · skip
                  have i108x3 := r_lt1 0 47 c108x3 i107a (in_c 48 rfl) rfl
                  refine g_iconst 0 17 (gd rfl) rfl rfl ?_
                  refine g_ireturn (gd rfl) rfl (nb01 (in_w 0 1 (in_c 0 rfl) rfl)) (hp108 _ _ ?_)
                  show GG _ _ _ _ _ _ _ _ [.int (Int32.ofInt 0)] _ _ _
                  refine g_if_eq 114 118 (gd rfl) rfl rfl (fun c111 => ?_) (fun c111 => ?_)
                  · skip
                    refine g_iconst 0 119 (gd rfl) rfl rfl ?_
                    refine g_istore_n 120 (gd rfl) rfl (Nat.le_of_ble_eq_true rfl) ?_
                    refine g_iload_n 121 (gd rfl) rfl rfl ?_
                    refine g_calls (As := [.int z19]) (r := []) 124 (gd rfl) rfl rfl rfl rfl rfl (Nat.le_of_ble_eq_true rfl) (mc := 0) (ms := 0) (Nat.zero_le _) (Nat.zero_le _) (P := fun v u => _) ?_ (fun v u h => h)
                    intro po121 xx121 hp121 hx121
                    refine g_enter2 (k := 297) (N := 300) (by first | exact dq1 hd rfl | exact dq0 hd rfl | exact dq2 hd rfl | exact dq3 hd rfl | omega) rfl (Nat.le_of_ble_eq_true rfl) ?_
                    refine g_iload_n 1 (gd rfl) rfl rfl ?_
                    refine g_bipush 48 3 (gd rfl) rfl rfl ?_
                    refine g_cmp_lt 6 16 (gd rfl) rfl rfl (fun c121x3 => ?_) (fun c121x3 => ?_)
                    · skip
                      refine g_iconst 0 17 (gd rfl) rfl rfl ?_
                      refine g_ireturn (gd rfl) rfl (nb01 (in_w 0 1 (in_c 0 rfl) rfl)) (hp121 _ _ ?_)
                      show GG _ _ _ _ _ _ _ _ [.int (Int32.ofInt 0)] _ _ _
                      refine g_if_ne 127 131 (gd rfl) rfl rfl (fun c124 => ?_) (fun c124 => ?_)
                      · skip
                        exact zn_ne c124 (in_c 0 rfl) rfl
                      · skip
                        refine g_iload_n 128 (gd rfl) rfl rfl ?_
                        refine g_if_eq 131 181 (gd rfl) rfl rfl (fun c128 => ?_) (fun c128 => ?_)
                        · skip
                          refine g_aload_n 182 (gd rfl) rfl rfl ?_
                          refine g_iload_n 183 (gd rfl) rfl rfl ?_
                          refine g_calls (As := [.int z19]) (r := [.ref (A 109)]) 186 (gd rfl) rfl rfl rfl rfl rfl (Nat.le_of_ble_eq_true rfl) (mc := 0) (ms := 0) (Nat.zero_le _) (Nat.zero_le _) (P := fun v u => _) ?_ (fun v u h => h)
                          intro po183 xx183 hp183 hx183
                          refine g_enter2 (k := 296) (N := 300) (by first | exact dq1 hd rfl | exact dq0 hd rfl | exact dq2 hd rfl | exact dq3 hd rfl | omega) rfl (Nat.le_of_ble_eq_true rfl) ?_
                          refine g_iload_n 1 (gd rfl) rfl rfl ?_
                          refine g_bipush 97 3 (gd rfl) rfl rfl ?_
                          refine g_cmp_lt 6 16 (gd rfl) rfl rfl (fun c183x3 => ?_) (fun c183x3 => ?_)
                          · skip
                            refine g_iconst 0 17 (gd rfl) rfl rfl ?_
                            refine g_ireturn (gd rfl) rfl (nb01 (in_w 0 1 (in_c 0 rfl) rfl)) (hp183 _ _ ?_)
                            show GG _ _ _ _ _ _ _ _ [.int (Int32.ofInt 0), .ref (A 109)] _ _ _
                            refine g_if_eq 189 193 (gd rfl) rfl rfl (fun c186 => ?_) (fun c186 => ?_)
                            · skip
                              refine g_iconst 3 194 (gd rfl) rfl rfl ?_
                              refine g_putI 197 (gd rfl) rfl rfl rfl rfl ?_
                              have hI194 := inv_sF (q := 109) (j := 28) hI75 rfl (in_w (-2147483648) 2147483647 (in_c 3 rfl) rfl)
                              refine g_aload_n 198 (gd rfl) rfl rfl ?_
                              refine g_getI 201 (gd rfl) rfl rfl rfl (fun z198 e198 => ?_)
                              have q198 : (Int32.ofInt 3) = z198 := (sF_get).trans e198.symm
                              subst q198
                              refine g_iconst 3 202 (gd rfl) rfl rfl ?_
                              refine g_cmp_ne 205 220 (gd rfl) rfl rfl (fun c202 => ?_) (fun c202 => ?_)
                              · skip
                                exact n_ne c202 (in_c 3 rfl) (in_c 3 rfl) rfl
                              · skip
                                refine g_iload_n 206 (gd rfl) rfl rfl ?_
                                refine g_bipush 59 208 (gd rfl) rfl rfl ?_
                                refine g_cmp_eq 211 220 (gd rfl) rfl rfl (fun c208 => ?_) (fun c208 => ?_)
                                · skip
                                  exact n_eq c208 i81 (in_c 59 rfl) rfl
                                · skip
                                  refine g_aload_n 212 (gd rfl) rfl rfl ?_
                                  refine g_iconst 1 213 (gd rfl) rfl rfl ?_
                                  refine g_aload_n 214 (gd rfl) rfl rfl ?_
                                  refine g_getI 217 (gd rfl) rfl rfl rfl (fun z214 e214 => ?_)
                                  have q214 : w0_109_27 = z214 := (sF_ne rfl (sF_ne rfl (sF_get))).trans e214.symm
                                  subst q214
                                  refine g_callv (X := _) (As := [.int (Int32.ofInt 1), .int w0_109_27]) (r := []) (b := A 109) (q := 109) 220 (gd rfl) rfl rfl rfl rfl rfl (ww_o rfl) (Nat.le_of_ble_eq_true rfl) (Nat.zero_le _) (Nat.zero_le _) (f_298 (by first | exact dq1 hd rfl | exact dq0 hd rfl | exact dq2 hd rfl | exact dq3 hd rfl | omega) hI194 (in_w 1 5 (in_c 1 rfl) rfl) rfl) (fun e u h => h) (fun v u h => ?_)
                                  obtain ⟨s217, hI217, hF217, n217, rfl, rfl, p217⟩ := h
                                  obtain ⟨z217a, e217⟩ : ∃ w, w = s217.2.2.1 109 23 := ⟨_, rfl⟩
                                  have i217a := inv_F hI217 0 9 rfl e217
                                  rw [← (show z217a = s217.2.2.1 109 23 from e217)] at n217
                                  show GG _ _ _ _ _ _ _ _ [] _ _ _
                                  refine g_aload_n 221 (gd rfl) rfl rfl ?_
                                  refine g_dup 222 (gd rfl) rfl rfl ?_
                                  refine g_getI 225 (gd rfl) rfl rfl rfl (fun z222 e222 => ?_)
                                  have q222 : w0_109_27 = z222 := (fr_F (s := (sF (sF (sF sc0 109 29 w0_109_27) 109 30 z19) 109 28 (Int32.ofInt 3))) (sF_ne rfl (sF_ne rfl (sF_ne rfl (v0_109_27)))) hF217 rfl).trans e222.symm
                                  subst q222
                                  refine g_iconst 1 226 (gd rfl) rfl rfl ?_
                                  refine g_iadd 227 (gd rfl) rfl (fun z226 e226 => ?_)
                                  have i226 := in_add 1 1000 e226 i8 (in_c 1 rfl) rfl rfl
                                  refine g_putI 230 (gd rfl) rfl rfl rfl rfl ?_
                                  have hI227 := inv_sF (q := 109) (j := 27) hI217 rfl (in_w 0 1000 i226 rfl)
                                  have n230 : ∃ k v, TKN (s.1 125) (s.2.2.1 109 22).toInt.toNat (s.2.2.1 109 27).toInt.toNat ((sF s217 109 27 z226).2.2.1 109 29).toInt.toNat ((sF s217 109 27 z226).2.2.1 109 27).toInt.toNat k v ∧ NTK s (sF s217 109 27 z226) k v := by have hT0 : s.1 125 w0_109_27.toInt.toNat = z19 := (by rw [e19, hFc0.1 125 rfl]; rfl); have hS : tkS (s.1 125) (u_109_22).toInt.toNat (u_109_27).toInt.toNat w0_109_27.toInt.toNat := ⟨by have a0 := oa5 i94a i8 ((in_c 0 rfl)) i81 i226; have a5 := t_add e226 i8 (in_c 1 rfl) rfl; have a6 := oa4 ((in_c 1 rfl)) i217a ((in_c 3 rfl)) i107; have a10 := t_add e106 i8 (in_c 1 rfl) rfl; have a11 := in_u i94; have a12 := t_add e89 i8 (in_c 1 rfl) rfl; have oc := oc_299_109; omega, by have a0 := oa5 i94a i8 ((in_c 0 rfl)) i81 i226; have a5 := t_add e226 i8 (in_c 1 rfl) rfl; have a6 := oa4 ((in_c 1 rfl)) i217a ((in_c 3 rfl)) i107; have a10 := t_add e106 i8 (in_c 1 rfl) rfl; have a11 := in_u i94; have a12 := t_add e89 i8 (in_c 1 rfl) rfl; have oc := oc_299_109; omega, fun i a b => g0_0 i (by rw [← e_109_27]; exact a) (by have a0 := oa5 i94a i8 ((in_c 0 rfl)) i81 i226; have a5 := t_add e226 i8 (in_c 1 rfl) rfl; have a6 := oa4 ((in_c 1 rfl)) i217a ((in_c 3 rfl)) i107; have a10 := t_add e106 i8 (in_c 1 rfl) rfl; have a11 := in_u i94; have a12 := t_add e89 i8 (in_c 1 rfl) rfl; have oc := oc_299_109; omega), fun _ => by rw [hT0]; have a0 := oa5 i94a i8 ((in_c 0 rfl)) i81 i226; have a5 := t_add e226 i8 (in_c 1 rfl) rfl; have a6 := oa4 ((in_c 1 rfl)) i217a ((in_c 3 rfl)) i107; have a10 := t_add e106 i8 (in_c 1 rfl) rfl; have a11 := in_u i94; have a12 := t_add e89 i8 (in_c 1 rfl) rfl; have oc := oc_299_109; omega⟩; refine ⟨4, 0, ?_, ?_⟩; (rw [← (show z226 = (sF s217 109 27 z226).2.2.1 109 27 from sF_get), ← (show w0_109_27 = (sF s217 109 27 z226).2.2.1 109 29 from sF_ne rfl (fr_F (s := (sF (sF (sF sc0 109 29 w0_109_27) 109 30 z19) 109 28 (Int32.ofInt 3))) (sF_ne rfl (sF_ne rfl (sF_get))) hF217 rfl)), ← e_109_22, ← e_109_27]; exact tkn_4 hS (by have a0 := oa5 i94a i8 ((in_c 0 rfl)) i81 i226; have a5 := t_add e226 i8 (in_c 1 rfl) rfl; have a6 := oa4 ((in_c 1 rfl)) i217a ((in_c 3 rfl)) i107; have a10 := t_add e106 i8 (in_c 1 rfl) rfl; have a11 := in_u i94; have a12 := t_add e89 i8 (in_c 1 rfl) rfl; have oc := oc_299_109; omega) (by rw [hT0]; unfold tkL; have a0 := oa5 i94a i8 ((in_c 0 rfl)) i81 i226; have a5 := t_add e226 i8 (in_c 1 rfl) rfl; have a6 := oa4 ((in_c 1 rfl)) i217a ((in_c 3 rfl)) i107; have a10 := t_add e106 i8 (in_c 1 rfl) rfl; have a11 := in_u i94; have a12 := t_add e89 i8 (in_c 1 rfl) rfl; have oc := oc_299_109; omega) (by rw [hT0]; have a0 := oa5 i94a i8 ((in_c 0 rfl)) i81 i226; have a5 := t_add e226 i8 (in_c 1 rfl) rfl; have a6 := oa4 ((in_c 1 rfl)) i217a ((in_c 3 rfl)) i107; have a10 := t_add e106 i8 (in_c 1 rfl) rfl; have a11 := in_u i94; have a12 := t_add e89 i8 (in_c 1 rfl) rfl; have oc := oc_299_109; omega) (by first | exact nq_1 (by rw [hT0]; unfold tkD; have a0 := oa5 i94a i8 ((in_c 0 rfl)) i81 i226; have a5 := t_add e226 i8 (in_c 1 rfl) rfl; have a6 := oa4 ((in_c 1 rfl)) i217a ((in_c 3 rfl)) i107; have a10 := t_add e106 i8 (in_c 1 rfl) rfl; have a11 := in_u i94; have a12 := t_add e89 i8 (in_c 1 rfl) rfl; have oc := oc_299_109; omega) (by rw [hT0]; have a0 := oa5 i94a i8 ((in_c 0 rfl)) i81 i226; have a5 := t_add e226 i8 (in_c 1 rfl) rfl; have a6 := oa4 ((in_c 1 rfl)) i217a ((in_c 3 rfl)) i107; have a10 := t_add e106 i8 (in_c 1 rfl) rfl; have a11 := in_u i94; have a12 := t_add e89 i8 (in_c 1 rfl) rfl; have oc := oc_299_109; omega) | exact nq_2 (by rw [hT0]; have a0 := oa5 i94a i8 ((in_c 0 rfl)) i81 i226; have a5 := t_add e226 i8 (in_c 1 rfl) rfl; have a6 := oa4 ((in_c 1 rfl)) i217a ((in_c 3 rfl)) i107; have a10 := t_add e106 i8 (in_c 1 rfl) rfl; have a11 := in_u i94; have a12 := t_add e89 i8 (in_c 1 rfl) rfl; have oc := oc_299_109; omega) (fun h => by first | (exfalso; have a0 := oa5 i94a i8 ((in_c 0 rfl)) i81 i226; have a5 := t_add e226 i8 (in_c 1 rfl) rfl; have a6 := oa4 ((in_c 1 rfl)) i217a ((in_c 3 rfl)) i107; have a10 := t_add e106 i8 (in_c 1 rfl) rfl; have a11 := in_u i94; have a12 := t_add e89 i8 (in_c 1 rfl) rfl; have oc := oc_299_109; omega) | (rw [show s.1 125 (w0_109_27.toInt.toNat + 1) = z107 from (by rw [e107, show z106.toNatClampNeg = w0_109_27.toInt.toNat + 1 from (by show z106.toInt.toNat = _; have a0 := oa5 i94a i8 ((in_c 0 rfl)) i81 i226; have a5 := t_add e226 i8 (in_c 1 rfl) rfl; have a6 := oa4 ((in_c 1 rfl)) i217a ((in_c 3 rfl)) i107; have a10 := t_add e106 i8 (in_c 1 rfl) rfl; have a11 := in_u i94; have a12 := t_add e89 i8 (in_c 1 rfl) rfl; have oc := oc_299_109; omega)]; exact congrFun (hFc0.1 125 rfl).symm _)]; unfold tkD; have a0 := oa5 i94a i8 ((in_c 0 rfl)) i81 i226; have a5 := t_add e226 i8 (in_c 1 rfl) rfl; have a6 := oa4 ((in_c 1 rfl)) i217a ((in_c 3 rfl)) i107; have a10 := t_add e106 i8 (in_c 1 rfl) rfl; have a11 := in_u i94; have a12 := t_add e89 i8 (in_c 1 rfl) rfl; have oc := oc_299_109; omega))) (by have a0 := oa5 i94a i8 ((in_c 0 rfl)) i81 i226; have a5 := t_add e226 i8 (in_c 1 rfl) rfl; have a6 := oa4 ((in_c 1 rfl)) i217a ((in_c 3 rfl)) i107; have a10 := t_add e106 i8 (in_c 1 rfl) rfl; have a11 := in_u i94; have a12 := t_add e89 i8 (in_c 1 rfl) rfl; have oc := oc_299_109; omega) rfl); (exact ntk_4 ((show (Int32.ofInt 3) = (sF s217 109 27 z226).2.2.1 109 28 from sF_ne rfl (fr_F (s := (sF (sF (sF sc0 109 29 w0_109_27) 109 30 z19) 109 28 (Int32.ofInt 3))) (sF_get) hF217 rfl))).symm (by rw [← (show z19 = (sF s217 109 27 z226).2.2.1 109 30 from sF_ne rfl (fr_F (s := (sF (sF (sF sc0 109 29 w0_109_27) 109 30 z19) 109 28 (Int32.ofInt 3))) (sF_ne rfl (sF_get)) hF217 rfl))]; have a0 := oa5 i94a i8 ((in_c 0 rfl)) i81 i226; have a5 := t_add e226 i8 (in_c 1 rfl) rfl; have a6 := oa4 ((in_c 1 rfl)) i217a ((in_c 3 rfl)) i107; have a10 := t_add e106 i8 (in_c 1 rfl) rfl; have a11 := in_u i94; have a12 := t_add e89 i8 (in_c 1 rfl) rfl; have oc := oc_299_109; omega) (fbl_tr g0_1 (by rw [← (show w0_109_27 = (sF s217 109 27 z226).2.2.1 109 29 from sF_ne rfl (fr_F (s := (sF (sF (sF sc0 109 29 w0_109_27) 109 30 z19) 109 28 (Int32.ofInt 3))) (sF_ne rfl (sF_ne rfl (sF_get))) hF217 rfl))]; exact p217)))
                                  have n230a : (z226).toInt ≤ (u_109_22).toInt := by have a0 := oa5 i94a i8 ((in_c 0 rfl)) i81 i226; have a5 := t_add e226 i8 (in_c 1 rfl) rfl; have a6 := oa4 ((in_c 1 rfl)) i217a ((in_c 3 rfl)) i107; have a10 := t_add e106 i8 (in_c 1 rfl) rfl; have a11 := in_u i94; have a12 := t_add e89 i8 (in_c 1 rfl) rfl; have oc := oc_299_109; omega
                                  have n230b : ((sF s217 109 27 z226).2.2.1 109 27).toInt ≤ ((sF s217 109 27 z226).2.2.1 109 22).toInt := by have b0 : z226 = (sF s217 109 27 z226).2.2.1 109 27 := sF_get; have b1 : u_109_22 = (sF s217 109 27 z226).2.2.1 109 22 := sF_ne rfl (fr_F (s := (sF (sF (sF sc0 109 29 w0_109_27) 109 30 z19) 109 28 (Int32.ofInt 3))) (sF_ne rfl (sF_ne rfl (sF_ne rfl (fr_F e_109_22 hFc0 rfl)))) hF217 rfl); rw [← b0, ← b1]; exact n230a
                                  have n230c : (u_109_27).toInt ≤ (z226).toInt := by have a0 := oa5 i94a i8 ((in_c 0 rfl)) i81 i226; have a5 := t_add e226 i8 (in_c 1 rfl) rfl; have a6 := oa4 ((in_c 1 rfl)) i217a ((in_c 3 rfl)) i107; have a10 := t_add e106 i8 (in_c 1 rfl) rfl; have a11 := in_u i94; have a12 := t_add e89 i8 (in_c 1 rfl) rfl; have oc := oc_299_109; omega
                                  have n230d : (s.2.2.1 109 27).toInt ≤ ((sF s217 109 27 z226).2.2.1 109 27).toInt := by have b0 : z226 = (sF s217 109 27 z226).2.2.1 109 27 := sF_get; first | (rw [← b0, ← e_109_27]; exact n230c) | (rw [← b0]; exact n230c)
                                  have n230e : ((Int32.ofInt 3)).toInt ≠ 0 → (u_109_27).toInt + 1 ≤ (z226).toInt := by have a0 := oa5 i94a i8 ((in_c 0 rfl)) i81 i226; have a5 := t_add e226 i8 (in_c 1 rfl) rfl; have a6 := oa4 ((in_c 1 rfl)) i217a ((in_c 3 rfl)) i107; have a10 := t_add e106 i8 (in_c 1 rfl) rfl; have a11 := in_u i94; have a12 := t_add e89 i8 (in_c 1 rfl) rfl; have oc := oc_299_109; omega
                                  have n230f : ((sF s217 109 27 z226).2.2.1 109 28).toInt ≠ 0 → (s.2.2.1 109 27).toInt + 1 ≤ ((sF s217 109 27 z226).2.2.1 109 27).toInt := by have b0 : (Int32.ofInt 3) = (sF s217 109 27 z226).2.2.1 109 28 := sF_ne rfl (fr_F (s := (sF (sF (sF sc0 109 29 w0_109_27) 109 30 z19) 109 28 (Int32.ofInt 3))) (sF_get) hF217 rfl); have b1 : z226 = (sF s217 109 27 z226).2.2.1 109 27 := sF_get; first | (rw [← b0, ← b1, ← e_109_27]; exact n230e) | (rw [← b0, ← b1]; exact n230e)
                                  have n230g : ((Int32.ofInt 3)).toInt = 1 → 97 ≤ (z19).toInt := by exact fun h => absurd h (by decide)
                                  have n230h : ((sF s217 109 27 z226).2.2.1 109 28).toInt = 1 → 97 ≤ ((sF s217 109 27 z226).2.2.1 109 30).toInt := by have b0 : (Int32.ofInt 3) = (sF s217 109 27 z226).2.2.1 109 28 := sF_ne rfl (fr_F (s := (sF (sF (sF sc0 109 29 w0_109_27) 109 30 z19) 109 28 (Int32.ofInt 3))) (sF_get) hF217 rfl); have b1 : z19 = (sF s217 109 27 z226).2.2.1 109 30 := sF_ne rfl (fr_F (s := (sF (sF (sF sc0 109 29 w0_109_27) 109 30 z19) 109 28 (Int32.ofInt 3))) (sF_ne rfl (sF_get)) hF217 rfl); rw [← b0, ← b1]; exact n230g
                                  have n230i : ((Int32.ofInt 3)).toInt = 1 → (z19).toInt ≤ 122 := by exact fun h => absurd h (by decide)
                                  have n230j : ((sF s217 109 27 z226).2.2.1 109 28).toInt = 1 → ((sF s217 109 27 z226).2.2.1 109 30).toInt ≤ 122 := by have b0 : (Int32.ofInt 3) = (sF s217 109 27 z226).2.2.1 109 28 := sF_ne rfl (fr_F (s := (sF (sF (sF sc0 109 29 w0_109_27) 109 30 z19) 109 28 (Int32.ofInt 3))) (sF_get) hF217 rfl); have b1 : z19 = (sF s217 109 27 z226).2.2.1 109 30 := sF_ne rfl (fr_F (s := (sF (sF (sF sc0 109 29 w0_109_27) 109 30 z19) 109 28 (Int32.ofInt 3))) (sF_ne rfl (sF_get)) hF217 rfl); rw [← b0, ← b1]; exact n230i
                                  exact g_return (gd rfl) rfl (hP _ _ ⟨(sF s217 109 27 z226), hI227, (fr_sF rfl (fr_tr rfl (fr_sF rfl (fr_sF rfl (fr_sF rfl hFc0))) hF217)), n230b, n230d, n230f, n230h, n230j, rfl, rfl, n230⟩)
                            · skip
                              exact zn_ne c186 (in_c 0 rfl) rfl
                          · skip
                            exact n_le c183x3 (in_c 97 rfl) i81 rfl
                        · skip
                          exact zn_ne c128 (in_c 0 rfl) rfl
                    · skip
                      exact n_le c121x3 (in_c 48 rfl) i81 rfl
                  · skip
                    exact zn_ne c111 (in_c 0 rfl) rfl
                · skip
                  have i108x3 := r_le2 48 126 c108x3 (in_c 48 rfl) i107a rfl
                  refine g_iload_n 7 (gd rfl) rfl rfl ?_
                  refine g_bipush 57 9 (gd rfl) rfl rfl ?_
                  refine g_cmp_gt 12 16 (gd rfl) rfl rfl (fun c108x9 => ?_) (fun c108x9 => ?_)
                  · skip
                    have i108x9 := r_lt2 58 126 c108x9 (in_c 57 rfl) i108x3 rfl
                    refine g_iconst 0 17 (gd rfl) rfl rfl ?_
                    refine g_ireturn (gd rfl) rfl (nb01 (in_w 0 1 (in_c 0 rfl) rfl)) (hp108 _ _ ?_)
                    show GG _ _ _ _ _ _ _ _ [.int (Int32.ofInt 0)] _ _ _
                    refine g_if_eq 114 118 (gd rfl) rfl rfl (fun c111 => ?_) (fun c111 => ?_)
                    · skip
                      refine g_iconst 0 119 (gd rfl) rfl rfl ?_
                      refine g_istore_n 120 (gd rfl) rfl (Nat.le_of_ble_eq_true rfl) ?_
                      refine g_iload_n 121 (gd rfl) rfl rfl ?_
                      refine g_calls (As := [.int z19]) (r := []) 124 (gd rfl) rfl rfl rfl rfl rfl (Nat.le_of_ble_eq_true rfl) (mc := 0) (ms := 0) (Nat.zero_le _) (Nat.zero_le _) (P := fun v u => _) ?_ (fun v u h => h)
                      intro po121 xx121 hp121 hx121
                      refine g_enter2 (k := 297) (N := 300) (by first | exact dq1 hd rfl | exact dq0 hd rfl | exact dq2 hd rfl | exact dq3 hd rfl | omega) rfl (Nat.le_of_ble_eq_true rfl) ?_
                      refine g_iload_n 1 (gd rfl) rfl rfl ?_
                      refine g_bipush 48 3 (gd rfl) rfl rfl ?_
                      refine g_cmp_lt 6 16 (gd rfl) rfl rfl (fun c121x3 => ?_) (fun c121x3 => ?_)
                      · skip
                        refine g_iconst 0 17 (gd rfl) rfl rfl ?_
                        refine g_ireturn (gd rfl) rfl (nb01 (in_w 0 1 (in_c 0 rfl) rfl)) (hp121 _ _ ?_)
                        show GG _ _ _ _ _ _ _ _ [.int (Int32.ofInt 0)] _ _ _
                        refine g_if_ne 127 131 (gd rfl) rfl rfl (fun c124 => ?_) (fun c124 => ?_)
                        · skip
                          exact zn_ne c124 (in_c 0 rfl) rfl
                        · skip
                          refine g_iload_n 128 (gd rfl) rfl rfl ?_
                          refine g_if_eq 131 181 (gd rfl) rfl rfl (fun c128 => ?_) (fun c128 => ?_)
                          · skip
                            refine g_aload_n 182 (gd rfl) rfl rfl ?_
                            refine g_iload_n 183 (gd rfl) rfl rfl ?_
                            refine g_calls (As := [.int z19]) (r := [.ref (A 109)]) 186 (gd rfl) rfl rfl rfl rfl rfl (Nat.le_of_ble_eq_true rfl) (mc := 0) (ms := 0) (Nat.zero_le _) (Nat.zero_le _) (P := fun v u => _) ?_ (fun v u h => h)
                            intro po183 xx183 hp183 hx183
                            refine g_enter2 (k := 296) (N := 300) (by first | exact dq1 hd rfl | exact dq0 hd rfl | exact dq2 hd rfl | exact dq3 hd rfl | omega) rfl (Nat.le_of_ble_eq_true rfl) ?_
                            refine g_iload_n 1 (gd rfl) rfl rfl ?_
                            refine g_bipush 97 3 (gd rfl) rfl rfl ?_
                            refine g_cmp_lt 6 16 (gd rfl) rfl rfl (fun c183x3 => ?_) (fun c183x3 => ?_)
                            · skip
                              refine g_iconst 0 17 (gd rfl) rfl rfl ?_
                              refine g_ireturn (gd rfl) rfl (nb01 (in_w 0 1 (in_c 0 rfl) rfl)) (hp183 _ _ ?_)
                              show GG _ _ _ _ _ _ _ _ [.int (Int32.ofInt 0), .ref (A 109)] _ _ _
                              refine g_if_eq 189 193 (gd rfl) rfl rfl (fun c186 => ?_) (fun c186 => ?_)
                              · skip
                                refine g_iconst 3 194 (gd rfl) rfl rfl ?_
                                refine g_putI 197 (gd rfl) rfl rfl rfl rfl ?_
                                have hI194 := inv_sF (q := 109) (j := 28) hI75 rfl (in_w (-2147483648) 2147483647 (in_c 3 rfl) rfl)
                                refine g_aload_n 198 (gd rfl) rfl rfl ?_
                                refine g_getI 201 (gd rfl) rfl rfl rfl (fun z198 e198 => ?_)
                                have q198 : (Int32.ofInt 3) = z198 := (sF_get).trans e198.symm
                                subst q198
                                refine g_iconst 3 202 (gd rfl) rfl rfl ?_
                                refine g_cmp_ne 205 220 (gd rfl) rfl rfl (fun c202 => ?_) (fun c202 => ?_)
                                · skip
                                  exact n_ne c202 (in_c 3 rfl) (in_c 3 rfl) rfl
                                · skip
                                  refine g_iload_n 206 (gd rfl) rfl rfl ?_
                                  refine g_bipush 59 208 (gd rfl) rfl rfl ?_
                                  refine g_cmp_eq 211 220 (gd rfl) rfl rfl (fun c208 => ?_) (fun c208 => ?_)
                                  · skip
                                    exact n_eq c208 i81 (in_c 59 rfl) rfl
                                  · skip
                                    refine g_aload_n 212 (gd rfl) rfl rfl ?_
                                    refine g_iconst 1 213 (gd rfl) rfl rfl ?_
                                    refine g_aload_n 214 (gd rfl) rfl rfl ?_
                                    refine g_getI 217 (gd rfl) rfl rfl rfl (fun z214 e214 => ?_)
                                    have q214 : w0_109_27 = z214 := (sF_ne rfl (sF_ne rfl (sF_get))).trans e214.symm
                                    subst q214
                                    refine g_callv (X := _) (As := [.int (Int32.ofInt 1), .int w0_109_27]) (r := []) (b := A 109) (q := 109) 220 (gd rfl) rfl rfl rfl rfl rfl (ww_o rfl) (Nat.le_of_ble_eq_true rfl) (Nat.zero_le _) (Nat.zero_le _) (f_298 (by first | exact dq1 hd rfl | exact dq0 hd rfl | exact dq2 hd rfl | exact dq3 hd rfl | omega) hI194 (in_w 1 5 (in_c 1 rfl) rfl) rfl) (fun e u h => h) (fun v u h => ?_)
                                    obtain ⟨s217, hI217, hF217, n217, rfl, rfl, p217⟩ := h
                                    obtain ⟨z217a, e217⟩ : ∃ w, w = s217.2.2.1 109 23 := ⟨_, rfl⟩
                                    have i217a := inv_F hI217 0 9 rfl e217
                                    rw [← (show z217a = s217.2.2.1 109 23 from e217)] at n217
                                    show GG _ _ _ _ _ _ _ _ [] _ _ _
                                    refine g_aload_n 221 (gd rfl) rfl rfl ?_
                                    refine g_dup 222 (gd rfl) rfl rfl ?_
                                    refine g_getI 225 (gd rfl) rfl rfl rfl (fun z222 e222 => ?_)
                                    have q222 : w0_109_27 = z222 := (fr_F (s := (sF (sF (sF sc0 109 29 w0_109_27) 109 30 z19) 109 28 (Int32.ofInt 3))) (sF_ne rfl (sF_ne rfl (sF_ne rfl (v0_109_27)))) hF217 rfl).trans e222.symm
                                    subst q222
                                    refine g_iconst 1 226 (gd rfl) rfl rfl ?_
                                    refine g_iadd 227 (gd rfl) rfl (fun z226 e226 => ?_)
                                    have i226 := in_add 1 1000 e226 i8 (in_c 1 rfl) rfl rfl
                                    refine g_putI 230 (gd rfl) rfl rfl rfl rfl ?_
                                    have hI227 := inv_sF (q := 109) (j := 27) hI217 rfl (in_w 0 1000 i226 rfl)
                                    have n230 : ∃ k v, TKN (s.1 125) (s.2.2.1 109 22).toInt.toNat (s.2.2.1 109 27).toInt.toNat ((sF s217 109 27 z226).2.2.1 109 29).toInt.toNat ((sF s217 109 27 z226).2.2.1 109 27).toInt.toNat k v ∧ NTK s (sF s217 109 27 z226) k v := by have hT0 : s.1 125 w0_109_27.toInt.toNat = z19 := (by rw [e19, hFc0.1 125 rfl]; rfl); have hS : tkS (s.1 125) (u_109_22).toInt.toNat (u_109_27).toInt.toNat w0_109_27.toInt.toNat := ⟨by have a0 := oa5 i94a i8 ((in_c 0 rfl)) i81 i226; have a5 := t_add e226 i8 (in_c 1 rfl) rfl; have a6 := oa4 ((in_c 1 rfl)) i217a ((in_c 3 rfl)) i107; have a10 := t_add e106 i8 (in_c 1 rfl) rfl; have a11 := in_u i94; have a12 := t_add e89 i8 (in_c 1 rfl) rfl; have oc := oc_299_109; omega, by have a0 := oa5 i94a i8 ((in_c 0 rfl)) i81 i226; have a5 := t_add e226 i8 (in_c 1 rfl) rfl; have a6 := oa4 ((in_c 1 rfl)) i217a ((in_c 3 rfl)) i107; have a10 := t_add e106 i8 (in_c 1 rfl) rfl; have a11 := in_u i94; have a12 := t_add e89 i8 (in_c 1 rfl) rfl; have oc := oc_299_109; omega, fun i a b => g0_0 i (by rw [← e_109_27]; exact a) (by have a0 := oa5 i94a i8 ((in_c 0 rfl)) i81 i226; have a5 := t_add e226 i8 (in_c 1 rfl) rfl; have a6 := oa4 ((in_c 1 rfl)) i217a ((in_c 3 rfl)) i107; have a10 := t_add e106 i8 (in_c 1 rfl) rfl; have a11 := in_u i94; have a12 := t_add e89 i8 (in_c 1 rfl) rfl; have oc := oc_299_109; omega), fun _ => by rw [hT0]; have a0 := oa5 i94a i8 ((in_c 0 rfl)) i81 i226; have a5 := t_add e226 i8 (in_c 1 rfl) rfl; have a6 := oa4 ((in_c 1 rfl)) i217a ((in_c 3 rfl)) i107; have a10 := t_add e106 i8 (in_c 1 rfl) rfl; have a11 := in_u i94; have a12 := t_add e89 i8 (in_c 1 rfl) rfl; have oc := oc_299_109; omega⟩; refine ⟨4, 0, ?_, ?_⟩; (rw [← (show z226 = (sF s217 109 27 z226).2.2.1 109 27 from sF_get), ← (show w0_109_27 = (sF s217 109 27 z226).2.2.1 109 29 from sF_ne rfl (fr_F (s := (sF (sF (sF sc0 109 29 w0_109_27) 109 30 z19) 109 28 (Int32.ofInt 3))) (sF_ne rfl (sF_ne rfl (sF_get))) hF217 rfl)), ← e_109_22, ← e_109_27]; exact tkn_4 hS (by have a0 := oa5 i94a i8 ((in_c 0 rfl)) i81 i226; have a5 := t_add e226 i8 (in_c 1 rfl) rfl; have a6 := oa4 ((in_c 1 rfl)) i217a ((in_c 3 rfl)) i107; have a10 := t_add e106 i8 (in_c 1 rfl) rfl; have a11 := in_u i94; have a12 := t_add e89 i8 (in_c 1 rfl) rfl; have oc := oc_299_109; omega) (by rw [hT0]; unfold tkL; have a0 := oa5 i94a i8 ((in_c 0 rfl)) i81 i226; have a5 := t_add e226 i8 (in_c 1 rfl) rfl; have a6 := oa4 ((in_c 1 rfl)) i217a ((in_c 3 rfl)) i107; have a10 := t_add e106 i8 (in_c 1 rfl) rfl; have a11 := in_u i94; have a12 := t_add e89 i8 (in_c 1 rfl) rfl; have oc := oc_299_109; omega) (by rw [hT0]; have a0 := oa5 i94a i8 ((in_c 0 rfl)) i81 i226; have a5 := t_add e226 i8 (in_c 1 rfl) rfl; have a6 := oa4 ((in_c 1 rfl)) i217a ((in_c 3 rfl)) i107; have a10 := t_add e106 i8 (in_c 1 rfl) rfl; have a11 := in_u i94; have a12 := t_add e89 i8 (in_c 1 rfl) rfl; have oc := oc_299_109; omega) (by first | exact nq_1 (by rw [hT0]; unfold tkD; have a0 := oa5 i94a i8 ((in_c 0 rfl)) i81 i226; have a5 := t_add e226 i8 (in_c 1 rfl) rfl; have a6 := oa4 ((in_c 1 rfl)) i217a ((in_c 3 rfl)) i107; have a10 := t_add e106 i8 (in_c 1 rfl) rfl; have a11 := in_u i94; have a12 := t_add e89 i8 (in_c 1 rfl) rfl; have oc := oc_299_109; omega) (by rw [hT0]; have a0 := oa5 i94a i8 ((in_c 0 rfl)) i81 i226; have a5 := t_add e226 i8 (in_c 1 rfl) rfl; have a6 := oa4 ((in_c 1 rfl)) i217a ((in_c 3 rfl)) i107; have a10 := t_add e106 i8 (in_c 1 rfl) rfl; have a11 := in_u i94; have a12 := t_add e89 i8 (in_c 1 rfl) rfl; have oc := oc_299_109; omega) | exact nq_2 (by rw [hT0]; have a0 := oa5 i94a i8 ((in_c 0 rfl)) i81 i226; have a5 := t_add e226 i8 (in_c 1 rfl) rfl; have a6 := oa4 ((in_c 1 rfl)) i217a ((in_c 3 rfl)) i107; have a10 := t_add e106 i8 (in_c 1 rfl) rfl; have a11 := in_u i94; have a12 := t_add e89 i8 (in_c 1 rfl) rfl; have oc := oc_299_109; omega) (fun h => by first | (exfalso; have a0 := oa5 i94a i8 ((in_c 0 rfl)) i81 i226; have a5 := t_add e226 i8 (in_c 1 rfl) rfl; have a6 := oa4 ((in_c 1 rfl)) i217a ((in_c 3 rfl)) i107; have a10 := t_add e106 i8 (in_c 1 rfl) rfl; have a11 := in_u i94; have a12 := t_add e89 i8 (in_c 1 rfl) rfl; have oc := oc_299_109; omega) | (rw [show s.1 125 (w0_109_27.toInt.toNat + 1) = z107 from (by rw [e107, show z106.toNatClampNeg = w0_109_27.toInt.toNat + 1 from (by show z106.toInt.toNat = _; have a0 := oa5 i94a i8 ((in_c 0 rfl)) i81 i226; have a5 := t_add e226 i8 (in_c 1 rfl) rfl; have a6 := oa4 ((in_c 1 rfl)) i217a ((in_c 3 rfl)) i107; have a10 := t_add e106 i8 (in_c 1 rfl) rfl; have a11 := in_u i94; have a12 := t_add e89 i8 (in_c 1 rfl) rfl; have oc := oc_299_109; omega)]; exact congrFun (hFc0.1 125 rfl).symm _)]; unfold tkD; have a0 := oa5 i94a i8 ((in_c 0 rfl)) i81 i226; have a5 := t_add e226 i8 (in_c 1 rfl) rfl; have a6 := oa4 ((in_c 1 rfl)) i217a ((in_c 3 rfl)) i107; have a10 := t_add e106 i8 (in_c 1 rfl) rfl; have a11 := in_u i94; have a12 := t_add e89 i8 (in_c 1 rfl) rfl; have oc := oc_299_109; omega))) (by have a0 := oa5 i94a i8 ((in_c 0 rfl)) i81 i226; have a5 := t_add e226 i8 (in_c 1 rfl) rfl; have a6 := oa4 ((in_c 1 rfl)) i217a ((in_c 3 rfl)) i107; have a10 := t_add e106 i8 (in_c 1 rfl) rfl; have a11 := in_u i94; have a12 := t_add e89 i8 (in_c 1 rfl) rfl; have oc := oc_299_109; omega) rfl); (exact ntk_4 ((show (Int32.ofInt 3) = (sF s217 109 27 z226).2.2.1 109 28 from sF_ne rfl (fr_F (s := (sF (sF (sF sc0 109 29 w0_109_27) 109 30 z19) 109 28 (Int32.ofInt 3))) (sF_get) hF217 rfl))).symm (by rw [← (show z19 = (sF s217 109 27 z226).2.2.1 109 30 from sF_ne rfl (fr_F (s := (sF (sF (sF sc0 109 29 w0_109_27) 109 30 z19) 109 28 (Int32.ofInt 3))) (sF_ne rfl (sF_get)) hF217 rfl))]; have a0 := oa5 i94a i8 ((in_c 0 rfl)) i81 i226; have a5 := t_add e226 i8 (in_c 1 rfl) rfl; have a6 := oa4 ((in_c 1 rfl)) i217a ((in_c 3 rfl)) i107; have a10 := t_add e106 i8 (in_c 1 rfl) rfl; have a11 := in_u i94; have a12 := t_add e89 i8 (in_c 1 rfl) rfl; have oc := oc_299_109; omega) (fbl_tr g0_1 (by rw [← (show w0_109_27 = (sF s217 109 27 z226).2.2.1 109 29 from sF_ne rfl (fr_F (s := (sF (sF (sF sc0 109 29 w0_109_27) 109 30 z19) 109 28 (Int32.ofInt 3))) (sF_ne rfl (sF_ne rfl (sF_get))) hF217 rfl))]; exact p217)))
                                    have n230a : (z226).toInt ≤ (u_109_22).toInt := by have a0 := oa5 i94a i8 ((in_c 0 rfl)) i81 i226; have a5 := t_add e226 i8 (in_c 1 rfl) rfl; have a6 := oa4 ((in_c 1 rfl)) i217a ((in_c 3 rfl)) i107; have a10 := t_add e106 i8 (in_c 1 rfl) rfl; have a11 := in_u i94; have a12 := t_add e89 i8 (in_c 1 rfl) rfl; have oc := oc_299_109; omega
                                    have n230b : ((sF s217 109 27 z226).2.2.1 109 27).toInt ≤ ((sF s217 109 27 z226).2.2.1 109 22).toInt := by have b0 : z226 = (sF s217 109 27 z226).2.2.1 109 27 := sF_get; have b1 : u_109_22 = (sF s217 109 27 z226).2.2.1 109 22 := sF_ne rfl (fr_F (s := (sF (sF (sF sc0 109 29 w0_109_27) 109 30 z19) 109 28 (Int32.ofInt 3))) (sF_ne rfl (sF_ne rfl (sF_ne rfl (fr_F e_109_22 hFc0 rfl)))) hF217 rfl); rw [← b0, ← b1]; exact n230a
                                    have n230c : (u_109_27).toInt ≤ (z226).toInt := by have a0 := oa5 i94a i8 ((in_c 0 rfl)) i81 i226; have a5 := t_add e226 i8 (in_c 1 rfl) rfl; have a6 := oa4 ((in_c 1 rfl)) i217a ((in_c 3 rfl)) i107; have a10 := t_add e106 i8 (in_c 1 rfl) rfl; have a11 := in_u i94; have a12 := t_add e89 i8 (in_c 1 rfl) rfl; have oc := oc_299_109; omega
                                    have n230d : (s.2.2.1 109 27).toInt ≤ ((sF s217 109 27 z226).2.2.1 109 27).toInt := by have b0 : z226 = (sF s217 109 27 z226).2.2.1 109 27 := sF_get; first | (rw [← b0, ← e_109_27]; exact n230c) | (rw [← b0]; exact n230c)
                                    have n230e : ((Int32.ofInt 3)).toInt ≠ 0 → (u_109_27).toInt + 1 ≤ (z226).toInt := by have a0 := oa5 i94a i8 ((in_c 0 rfl)) i81 i226; have a5 := t_add e226 i8 (in_c 1 rfl) rfl; have a6 := oa4 ((in_c 1 rfl)) i217a ((in_c 3 rfl)) i107; have a10 := t_add e106 i8 (in_c 1 rfl) rfl; have a11 := in_u i94; have a12 := t_add e89 i8 (in_c 1 rfl) rfl; have oc := oc_299_109; omega
                                    have n230f : ((sF s217 109 27 z226).2.2.1 109 28).toInt ≠ 0 → (s.2.2.1 109 27).toInt + 1 ≤ ((sF s217 109 27 z226).2.2.1 109 27).toInt := by have b0 : (Int32.ofInt 3) = (sF s217 109 27 z226).2.2.1 109 28 := sF_ne rfl (fr_F (s := (sF (sF (sF sc0 109 29 w0_109_27) 109 30 z19) 109 28 (Int32.ofInt 3))) (sF_get) hF217 rfl); have b1 : z226 = (sF s217 109 27 z226).2.2.1 109 27 := sF_get; first | (rw [← b0, ← b1, ← e_109_27]; exact n230e) | (rw [← b0, ← b1]; exact n230e)
                                    have n230g : ((Int32.ofInt 3)).toInt = 1 → 97 ≤ (z19).toInt := by exact fun h => absurd h (by decide)
                                    have n230h : ((sF s217 109 27 z226).2.2.1 109 28).toInt = 1 → 97 ≤ ((sF s217 109 27 z226).2.2.1 109 30).toInt := by have b0 : (Int32.ofInt 3) = (sF s217 109 27 z226).2.2.1 109 28 := sF_ne rfl (fr_F (s := (sF (sF (sF sc0 109 29 w0_109_27) 109 30 z19) 109 28 (Int32.ofInt 3))) (sF_get) hF217 rfl); have b1 : z19 = (sF s217 109 27 z226).2.2.1 109 30 := sF_ne rfl (fr_F (s := (sF (sF (sF sc0 109 29 w0_109_27) 109 30 z19) 109 28 (Int32.ofInt 3))) (sF_ne rfl (sF_get)) hF217 rfl); rw [← b0, ← b1]; exact n230g
                                    have n230i : ((Int32.ofInt 3)).toInt = 1 → (z19).toInt ≤ 122 := by exact fun h => absurd h (by decide)
                                    have n230j : ((sF s217 109 27 z226).2.2.1 109 28).toInt = 1 → ((sF s217 109 27 z226).2.2.1 109 30).toInt ≤ 122 := by have b0 : (Int32.ofInt 3) = (sF s217 109 27 z226).2.2.1 109 28 := sF_ne rfl (fr_F (s := (sF (sF (sF sc0 109 29 w0_109_27) 109 30 z19) 109 28 (Int32.ofInt 3))) (sF_get) hF217 rfl); have b1 : z19 = (sF s217 109 27 z226).2.2.1 109 30 := sF_ne rfl (fr_F (s := (sF (sF (sF sc0 109 29 w0_109_27) 109 30 z19) 109 28 (Int32.ofInt 3))) (sF_ne rfl (sF_get)) hF217 rfl); rw [← b0, ← b1]; exact n230i
                                    exact g_return (gd rfl) rfl (hP _ _ ⟨(sF s217 109 27 z226), hI227, (fr_sF rfl (fr_tr rfl (fr_sF rfl (fr_sF rfl (fr_sF rfl hFc0))) hF217)), n230b, n230d, n230f, n230h, n230j, rfl, rfl, n230⟩)
                              · skip
                                exact zn_ne c186 (in_c 0 rfl) rfl
                            · skip
                              exact n_le c183x3 (in_c 97 rfl) i81 rfl
                          · skip
                            exact zn_ne c128 (in_c 0 rfl) rfl
                      · skip
                        exact n_le c121x3 (in_c 48 rfl) i81 rfl
                    · skip
                      exact zn_ne c111 (in_c 0 rfl) rfl
                  · skip
                    have i108x9 := r_le1 48 57 c108x9 i108x3 (in_c 57 rfl) rfl
                    refine g_iconst 1 13 (gd rfl) rfl rfl ?_
                    refine g_goto 17 (gd rfl) rfl ?_
                    refine g_ireturn (gd rfl) rfl (nb01 (in_w 0 1 (in_c 1 rfl) rfl)) (hp108 _ _ ?_)
                    show GG _ _ _ _ _ _ _ _ [.int (Int32.ofInt 1)] _ _ _
                    refine g_if_eq 114 118 (gd rfl) rfl rfl (fun c111 => ?_) (fun c111 => ?_)
                    · skip
                      exact zn_eq c111 (in_c 1 rfl) rfl
                    · skip
                      refine g_iconst 1 115 (gd rfl) rfl rfl ?_
                      refine g_goto 119 (gd rfl) rfl ?_
                      refine g_istore_n 120 (gd rfl) rfl (Nat.le_of_ble_eq_true rfl) ?_
                      refine g_iload_n 121 (gd rfl) rfl rfl ?_
                      refine g_calls (As := [.int z19]) (r := []) 124 (gd rfl) rfl rfl rfl rfl rfl (Nat.le_of_ble_eq_true rfl) (mc := 0) (ms := 0) (Nat.zero_le _) (Nat.zero_le _) (P := fun v u => _) ?_ (fun v u h => h)
                      intro po121 xx121 hp121 hx121
                      refine g_enter2 (k := 297) (N := 300) (by first | exact dq1 hd rfl | exact dq0 hd rfl | exact dq2 hd rfl | exact dq3 hd rfl | omega) rfl (Nat.le_of_ble_eq_true rfl) ?_
                      refine g_iload_n 1 (gd rfl) rfl rfl ?_
                      refine g_bipush 48 3 (gd rfl) rfl rfl ?_
                      refine g_cmp_lt 6 16 (gd rfl) rfl rfl (fun c121x3 => ?_) (fun c121x3 => ?_)
                      · skip
                        refine g_iconst 0 17 (gd rfl) rfl rfl ?_
                        refine g_ireturn (gd rfl) rfl (nb01 (in_w 0 1 (in_c 0 rfl) rfl)) (hp121 _ _ ?_)
                        show GG _ _ _ _ _ _ _ _ [.int (Int32.ofInt 0)] _ _ _
                        refine g_if_ne 127 131 (gd rfl) rfl rfl (fun c124 => ?_) (fun c124 => ?_)
                        · skip
                          exact zn_ne c124 (in_c 0 rfl) rfl
                        · skip
                          refine g_iload_n 128 (gd rfl) rfl rfl ?_
                          refine g_if_eq 131 181 (gd rfl) rfl rfl (fun c128 => ?_) (fun c128 => ?_)
                          · skip
                            exact zn_eq c128 (in_c 1 rfl) rfl
                          · skip
                            refine g_aload_n 132 (gd rfl) rfl rfl ?_
                            refine g_iconst 2 133 (gd rfl) rfl rfl ?_
                            refine g_putI 136 (gd rfl) rfl rfl rfl rfl ?_
                            have hI133 := inv_sF (q := 109) (j := 28) hI75 rfl (in_w (-2147483648) 2147483647 (in_c 2 rfl) rfl)
                            refine g_aload_n 137 (gd rfl) rfl rfl ?_
                            refine g_dup 138 (gd rfl) rfl rfl ?_
                            refine g_getI 141 (gd rfl) rfl rfl rfl (fun z138 e138 => ?_)
                            have q138 : w0_109_27 = z138 := (sF_ne rfl (sF_ne rfl (sF_ne rfl (v0_109_27)))).trans e138.symm
                            subst q138
                            refine g_iload_n 142 (gd rfl) rfl rfl ?_
                            refine g_if_eq 145 149 (gd rfl) rfl rfl (fun c142 => ?_) (fun c142 => ?_)
                            · skip
                              exact zn_eq c142 (in_c 1 rfl) rfl
                            · skip
                              refine g_iconst 1 146 (gd rfl) rfl rfl ?_
                              refine g_goto 150 (gd rfl) rfl ?_
                              refine g_iadd 151 (gd rfl) rfl (fun z150 e150 => ?_)
                              have i150 := in_add 1 1000 e150 i8 (in_c 1 rfl) rfl rfl
                              refine g_putI 154 (gd rfl) rfl rfl rfl rfl ?_
                              have hI151 := inv_sF (q := 109) (j := 27) hI133 rfl (in_w 0 1000 i150 rfl)
                              refine g_aload_n 155 (gd rfl) rfl rfl ?_
                              refine g_bipush 7 157 (gd rfl) rfl rfl ?_
                              have hA9 : _ = (sF (sF (sF (sF sc0 109 29 w0_109_27) 109 30 z19) 109 28 (Int32.ofInt 2)) 109 27 z150).2.2.1 109 27 := (show z150 = (sF (sF (sF (sF sc0 109 29 w0_109_27) 109 30 z19) 109 28 (Int32.ofInt 2)) 109 27 z150).2.2.1 109 27 from sF_get)
                              have hL9 : u_109_22 = (sF (sF (sF (sF sc0 109 29 w0_109_27) 109 30 z19) 109 28 (Int32.ofInt 2)) 109 27 z150).2.2.1 109 22 := (show u_109_22 = (sF (sF (sF (sF sc0 109 29 w0_109_27) 109 30 z19) 109 28 (Int32.ofInt 2)) 109 27 z150).2.2.1 109 22 from sF_ne rfl (sF_ne rfl (sF_ne rfl (sF_ne rfl (fr_F e_109_22 hFc0 rfl)))))
                              have hX9 : (sF (sF (sF (sF sc0 109 29 w0_109_27) 109 30 z19) 109 28 (Int32.ofInt 2)) 109 27 z150).1 125 = s.1 125 := hFc0.1 125 rfl
                              have hP9 : _ = (sF (sF (sF (sF sc0 109 29 w0_109_27) 109 30 z19) 109 28 (Int32.ofInt 2)) 109 27 z150).2.2.1 109 29 := (show w0_109_27 = (sF (sF (sF (sF sc0 109 29 w0_109_27) 109 30 z19) 109 28 (Int32.ofInt 2)) 109 27 z150).2.2.1 109 29 from sF_ne rfl (sF_ne rfl (sF_ne rfl (sF_get))))
                              have hF9 : FSM s (sF (sF (sF (sF sc0 109 29 w0_109_27) 109 30 z19) 109 28 (Int32.ofInt 2)) 109 27 z150) := g0_1
                              have v157 : z150 = (sF (sF (sF (sF sc0 109 29 w0_109_27) 109 30 z19) 109 28 (Int32.ofInt 2)) 109 27 z150).2.2.1 109 27 := sF_get
                              have v157a : u_109_22 = (sF (sF (sF (sF sc0 109 29 w0_109_27) 109 30 z19) 109 28 (Int32.ofInt 2)) 109 27 z150).2.2.1 109 22 := sF_ne rfl (sF_ne rfl (sF_ne rfl (sF_ne rfl (fr_F e_109_22 hFc0 rfl))))
                              have n157 : (z150).toInt < (u_109_22).toInt := by have a0 := oa5 i94a i8 ((in_c 1 rfl)) i81 i150; have a5 := t_add e150 i8 (in_c 1 rfl) rfl; have a6 := oa2 ((in_c 2 rfl)) i107; have a8 := t_add e106 i8 (in_c 1 rfl) rfl; have a9 := in_u i94; have a10 := t_add e89 i8 (in_c 1 rfl) rfl; have oc := oc_299_109; omega
                              have p157 : 48 ≤ ((sF (sF (sF (sF sc0 109 29 w0_109_27) 109 30 z19) 109 28 (Int32.ofInt 2)) 109 27 z150).1 125 ((sF (sF (sF (sF sc0 109 29 w0_109_27) 109 30 z19) 109 28 (Int32.ofInt 2)) 109 27 z150).2.2.1 109 27).toNatClampNeg).toInt ∧ ((sF (sF (sF (sF sc0 109 29 w0_109_27) 109 30 z19) 109 28 (Int32.ofInt 2)) 109 27 z150).1 125 ((sF (sF (sF (sF sc0 109 29 w0_109_27) 109 30 z19) 109 28 (Int32.ofInt 2)) 109 27 z150).2.2.1 109 27).toNatClampNeg).toInt ≤ 57 := by first | (have hz : z107 = (sF (sF (sF (sF sc0 109 29 w0_109_27) 109 30 z19) 109 28 (Int32.ofInt 2)) 109 27 z150).1 125 ((sF (sF (sF (sF sc0 109 29 w0_109_27) 109 30 z19) 109 28 (Int32.ofInt 2)) 109 27 z150).2.2.1 109 27).toNatClampNeg := (by rw [← (show z150 = (sF (sF (sF (sF sc0 109 29 w0_109_27) 109 30 z19) 109 28 (Int32.ofInt 2)) 109 27 z150).2.2.1 109 27 from sF_get), e150, ← e106]; exact e107); rw [← hz]; exact i108x9) | (have hz : z19 = (sF (sF (sF (sF sc0 109 29 w0_109_27) 109 30 z19) 109 28 (Int32.ofInt 2)) 109 27 z150).1 125 ((sF (sF (sF (sF sc0 109 29 w0_109_27) 109 30 z19) 109 28 (Int32.ofInt 2)) 109 27 z150).2.2.1 109 27).toNatClampNeg := (by rw [← (show z150 = (sF (sF (sF (sF sc0 109 29 w0_109_27) 109 30 z19) 109 28 (Int32.ofInt 2)) 109 27 z150).2.2.1 109 27 from sF_get), e150, show w0_109_27 + Int32.ofInt 0 = w0_109_27 from Int32.add_zero _]; exact e19); rw [← hz]; exact i121x9) | (have hz : z71 = (sF (sF (sF (sF sc0 109 29 w0_109_27) 109 30 z19) 109 28 (Int32.ofInt 2)) 109 27 z150).1 125 ((sF (sF (sF (sF sc0 109 29 w0_109_27) 109 30 z19) 109 28 (Int32.ofInt 2)) 109 27 z150).2.2.1 109 27).toNatClampNeg := (by rw [← (show z150 = (sF (sF (sF (sF sc0 109 29 w0_109_27) 109 30 z19) 109 28 (Int32.ofInt 2)) 109 27 z150).2.2.1 109 27 from sF_get), e150, show w0_109_27 + Int32.ofInt 0 = w0_109_27 from Int32.add_zero _]; exact e71); rw [← hz]; exact i121x9)
                              refine g_callv (X := _) (As := [.int (Int32.ofInt 7)]) (r := []) (b := A 109) (q := 109) 160 (gd rfl) rfl rfl rfl rfl rfl (ww_o rfl) (Nat.le_of_ble_eq_true rfl) (Nat.zero_le _) (Nat.zero_le _) (f_300 (by first | exact dq1 hd rfl | exact dq0 hd rfl | exact dq2 hd rfl | exact dq3 hd rfl | omega) hI151 (in_w 7 7 (in_c 7 rfl) rfl) v157 v157a n157 p157) (fun e u h => h) (fun v u h => ?_)
                              obtain ⟨s157, hI157, hF157, n157a, n157b, rfl, rfl, p157a⟩ := h
                              obtain ⟨z157a, e157⟩ : ∃ w, w = s157.2.2.1 109 27 := ⟨_, rfl⟩
                              have i157a := inv_F hI157 0 1000 rfl e157
                              rw [← (show z157a = s157.2.2.1 109 27 from e157)] at n157a
                              rw [← (show u_109_22 = s157.2.2.1 109 22 from fr_F (s := (sF (sF (sF (sF sc0 109 29 w0_109_27) 109 30 z19) 109 28 (Int32.ofInt 2)) 109 27 z150)) (sF_ne rfl (sF_ne rfl (sF_ne rfl (sF_ne rfl (fr_F e_109_22 hFc0 rfl))))) hF157 rfl)] at n157a
                              rw [← (show z150 = (sF (sF (sF (sF sc0 109 29 w0_109_27) 109 30 z19) 109 28 (Int32.ofInt 2)) 109 27 z150).2.2.1 109 27 from sF_get)] at n157b
                              rw [← (show z157a = s157.2.2.1 109 27 from e157)] at n157b
                              show GG _ _ _ _ _ _ _ _ [] _ _ _
                              refine g_aload_n 161 (gd rfl) rfl rfl ?_
                              refine g_iload_n 162 (gd rfl) rfl rfl ?_
                              refine g_if_eq 165 173 (gd rfl) rfl rfl (fun c162 => ?_) (fun c162 => ?_)
                              · skip
                                exact zn_eq c162 (in_c 1 rfl) rfl
                              · skip
                                refine g_aload_n 166 (gd rfl) rfl rfl ?_
                                refine g_getL 169 (gd rfl) rfl rfl rfl (fun z166 e166 => ?_)
                                refine g_lneg 170 (gd rfl) rfl (fun z169 e169 => ?_)
                                refine g_goto 177 (gd rfl) rfl ?_
                                refine g_putL 180 (gd rfl) rfl rfl rfl rfl ?_
                                have hI177 := inv_sG (q := 109) (j := 31) (x := z169) hI157 rfl (l_rng z169)
                                have n180 : ∃ k v, TKN (s.1 125) (s.2.2.1 109 22).toInt.toNat (s.2.2.1 109 27).toInt.toNat ((sG s157 109 31 z169).2.2.1 109 29).toInt.toNat ((sG s157 109 31 z169).2.2.1 109 27).toInt.toNat k v ∧ NTK s (sG s157 109 31 z169) k v := by have hT0 : s.1 125 w0_109_27.toInt.toNat = z19 := (by rw [e19, hFc0.1 125 rfl]; rfl); have hS : tkS (s.1 125) (u_109_22).toInt.toNat (u_109_27).toInt.toNat w0_109_27.toInt.toNat := ⟨by have a0 := oa7 i94a i8 ((in_c 1 rfl)) i81 i157a ((in_c 2 rfl)) i150; have a7 := t_add e150 i8 (in_c 1 rfl) rfl; have a8 := in_u i107; have a9 := t_add e106 i8 (in_c 1 rfl) rfl; have a10 := in_u i94; have a11 := t_add e89 i8 (in_c 1 rfl) rfl; have oc := oc_299_109; omega, by have a0 := oa7 i94a i8 ((in_c 1 rfl)) i81 i157a ((in_c 2 rfl)) i150; have a7 := t_add e150 i8 (in_c 1 rfl) rfl; have a8 := in_u i107; have a9 := t_add e106 i8 (in_c 1 rfl) rfl; have a10 := in_u i94; have a11 := t_add e89 i8 (in_c 1 rfl) rfl; have oc := oc_299_109; omega, fun i a b => g0_0 i (by rw [← e_109_27]; exact a) (by have a0 := oa7 i94a i8 ((in_c 1 rfl)) i81 i157a ((in_c 2 rfl)) i150; have a7 := t_add e150 i8 (in_c 1 rfl) rfl; have a8 := in_u i107; have a9 := t_add e106 i8 (in_c 1 rfl) rfl; have a10 := in_u i94; have a11 := t_add e89 i8 (in_c 1 rfl) rfl; have oc := oc_299_109; omega), fun _ => by rw [hT0]; have a0 := oa7 i94a i8 ((in_c 1 rfl)) i81 i157a ((in_c 2 rfl)) i150; have a7 := t_add e150 i8 (in_c 1 rfl) rfl; have a8 := in_u i107; have a9 := t_add e106 i8 (in_c 1 rfl) rfl; have a10 := in_u i94; have a11 := t_add e89 i8 (in_c 1 rfl) rfl; have oc := oc_299_109; omega⟩; have hp := p157a; rw [hX9, ← hL9, ← hA9, ← hP9] at hp; obtain ⟨hg, hp⟩ := hp; have hat : (s157.2.2.1 109 27) = z157a := ((show z157a = (sG s157 109 31 z169).2.2.1 109 27 from sG_F (e157))).symm; have hz9 : (z150).toInt.toNat = (w0_109_27.toInt.toNat + 1) := (by have a0 := oa7 i94a i8 ((in_c 1 rfl)) i81 i157a ((in_c 2 rfl)) i150; have a7 := t_add e150 i8 (in_c 1 rfl) rfl; have a8 := in_u i107; have a9 := t_add e106 i8 (in_c 1 rfl) rfl; have a10 := in_u i94; have a11 := t_add e89 i8 (in_c 1 rfl) rfl; have oc := oc_299_109; omega); rw [hz9] at hg hp; rcases hp with ⟨hl, hv, hf⟩ | ⟨hl, hf⟩; (refine ⟨2, ((sG s157 109 31 z169).2.2.2.1 109 31).toInt, ?_, ?_⟩; (rw [← e_109_22, ← e_109_27, ← (show w0_109_27 = (sG s157 109 31 z169).2.2.1 109 29 from sG_F (fr_F (s := (sF (sF (sF (sF sc0 109 29 w0_109_27) 109 30 z19) 109 28 (Int32.ofInt 2)) 109 27 z150)) (sF_ne rfl (sF_ne rfl (sF_ne rfl (sF_get)))) hF157 rfl))]; exact tkn_2 (q := (w0_109_27.toInt.toNat + 1)) (x := 1) hS (Or.inr ⟨rfl, by rw [hT0]; have a0 := oa7 i94a i8 ((in_c 1 rfl)) i81 i157a ((in_c 2 rfl)) i150; have a7 := t_add e150 i8 (in_c 1 rfl) rfl; have a8 := in_u i107; have a9 := t_add e106 i8 (in_c 1 rfl) rfl; have a10 := in_u i94; have a11 := t_add e89 i8 (in_c 1 rfl) rfl; have oc := oc_299_109; omega, by have a0 := oa7 i94a i8 ((in_c 1 rfl)) i81 i157a ((in_c 2 rfl)) i150; have a7 := t_add e150 i8 (in_c 1 rfl) rfl; have a8 := in_u i107; have a9 := t_add e106 i8 (in_c 1 rfl) rfl; have a10 := in_u i94; have a11 := t_add e89 i8 (in_c 1 rfl) rfl; have oc := oc_299_109; omega, by rw [show s.1 125 (w0_109_27.toInt.toNat + 1) = z107 from (by rw [e107, show z106.toNatClampNeg = w0_109_27.toInt.toNat + 1 from (by show z106.toInt.toNat = _; have a0 := oa7 i94a i8 ((in_c 1 rfl)) i81 i157a ((in_c 2 rfl)) i150; have a7 := t_add e150 i8 (in_c 1 rfl) rfl; have a8 := in_u i107; have a9 := t_add e106 i8 (in_c 1 rfl) rfl; have a10 := in_u i94; have a11 := t_add e89 i8 (in_c 1 rfl) rfl; have oc := oc_299_109; omega)]; exact congrFun (hFc0.1 125 rfl).symm _)]; exact ⟨by have a0 := oa7 i94a i8 ((in_c 1 rfl)) i81 i157a ((in_c 2 rfl)) i150; have a7 := t_add e150 i8 (in_c 1 rfl) rfl; have a8 := in_u i107; have a9 := t_add e106 i8 (in_c 1 rfl) rfl; have a10 := in_u i94; have a11 := t_add e89 i8 (in_c 1 rfl) rfl; have oc := oc_299_109; omega, by have a0 := oa7 i94a i8 ((in_c 1 rfl)) i81 i157a ((in_c 2 rfl)) i150; have a7 := t_add e150 i8 (in_c 1 rfl) rfl; have a8 := in_u i107; have a9 := t_add e106 i8 (in_c 1 rfl) rfl; have a10 := in_u i94; have a11 := t_add e89 i8 (in_c 1 rfl) rfl; have oc := oc_299_109; omega⟩⟩) ⟨fun h => absurd h (by decide), fun h => by omega⟩ ⟨by rw [← hat] at *; exact hg, Or.inl ⟨by rw [← hat] at *; exact hl, rfl, by first | (rw [if_pos rfl]; rw [← hat] at *; exact (by show (z169).toInt = - _; rw [lx_ng e169 (by rw [e166, show (s157.2.2.2.1 109 31).toInt = _ from hv]; exact tkN_7 hl (fun i a b => hg.2.2.1 i a (by omega))), e166, hv]; rfl)) | (rw [if_neg (by decide)]; rw [← hat] at *; exact (by show (z169).toInt = - _; rw [lx_ng e169 (by rw [e166, show (s157.2.2.2.1 109 31).toInt = _ from hv]; exact tkN_7 hl (fun i a b => hg.2.2.1 i a (by omega))), e166, hv]; rfl))⟩⟩); (exact ntk_2 ((show (Int32.ofInt 2) = (sG s157 109 31 z169).2.2.1 109 28 from sG_F (fr_F (s := (sF (sF (sF (sF sc0 109 29 w0_109_27) 109 30 z19) 109 28 (Int32.ofInt 2)) 109 27 z150)) (sF_ne rfl (sF_get)) hF157 rfl))).symm rfl (fsm_tr hF9 hf))); (refine ⟨5, 0, ?_, ?_⟩; (rw [← e_109_22, ← e_109_27, ← (show w0_109_27 = (sG s157 109 31 z169).2.2.1 109 29 from sG_F (fr_F (s := (sF (sF (sF (sF sc0 109 29 w0_109_27) 109 30 z19) 109 28 (Int32.ofInt 2)) 109 27 z150)) (sF_ne rfl (sF_ne rfl (sF_ne rfl (sF_get)))) hF157 rfl))]; exact tkn_2 (q := (w0_109_27.toInt.toNat + 1)) (x := 1) hS (Or.inr ⟨rfl, by rw [hT0]; have a0 := oa7 i94a i8 ((in_c 1 rfl)) i81 i157a ((in_c 2 rfl)) i150; have a7 := t_add e150 i8 (in_c 1 rfl) rfl; have a8 := in_u i107; have a9 := t_add e106 i8 (in_c 1 rfl) rfl; have a10 := in_u i94; have a11 := t_add e89 i8 (in_c 1 rfl) rfl; have oc := oc_299_109; omega, by have a0 := oa7 i94a i8 ((in_c 1 rfl)) i81 i157a ((in_c 2 rfl)) i150; have a7 := t_add e150 i8 (in_c 1 rfl) rfl; have a8 := in_u i107; have a9 := t_add e106 i8 (in_c 1 rfl) rfl; have a10 := in_u i94; have a11 := t_add e89 i8 (in_c 1 rfl) rfl; have oc := oc_299_109; omega, by rw [show s.1 125 (w0_109_27.toInt.toNat + 1) = z107 from (by rw [e107, show z106.toNatClampNeg = w0_109_27.toInt.toNat + 1 from (by show z106.toInt.toNat = _; have a0 := oa7 i94a i8 ((in_c 1 rfl)) i81 i157a ((in_c 2 rfl)) i150; have a7 := t_add e150 i8 (in_c 1 rfl) rfl; have a8 := in_u i107; have a9 := t_add e106 i8 (in_c 1 rfl) rfl; have a10 := in_u i94; have a11 := t_add e89 i8 (in_c 1 rfl) rfl; have oc := oc_299_109; omega)]; exact congrFun (hFc0.1 125 rfl).symm _)]; exact ⟨by have a0 := oa7 i94a i8 ((in_c 1 rfl)) i81 i157a ((in_c 2 rfl)) i150; have a7 := t_add e150 i8 (in_c 1 rfl) rfl; have a8 := in_u i107; have a9 := t_add e106 i8 (in_c 1 rfl) rfl; have a10 := in_u i94; have a11 := t_add e89 i8 (in_c 1 rfl) rfl; have oc := oc_299_109; omega, by have a0 := oa7 i94a i8 ((in_c 1 rfl)) i81 i157a ((in_c 2 rfl)) i150; have a7 := t_add e150 i8 (in_c 1 rfl) rfl; have a8 := in_u i107; have a9 := t_add e106 i8 (in_c 1 rfl) rfl; have a10 := in_u i94; have a11 := t_add e89 i8 (in_c 1 rfl) rfl; have oc := oc_299_109; omega⟩⟩) ⟨fun h => absurd h (by decide), fun h => by omega⟩ ⟨by rw [← hat] at *; exact hg, Or.inr ⟨by rw [← hat] at *; exact hl, rfl⟩⟩); (exact ntk_5 ((show (Int32.ofInt 2) = (sG s157 109 31 z169).2.2.1 109 28 from sG_F (fr_F (s := (sF (sF (sF (sF sc0 109 29 w0_109_27) 109 30 z19) 109 28 (Int32.ofInt 2)) 109 27 z150)) (sF_ne rfl (sF_get)) hF157 rfl))).symm (fbl_tr hF9 (by rw [← (show w0_109_27 = (sG s157 109 31 z169).2.2.1 109 29 from sG_F (fr_F (s := (sF (sF (sF (sF sc0 109 29 w0_109_27) 109 30 z19) 109 28 (Int32.ofInt 2)) 109 27 z150)) (sF_ne rfl (sF_ne rfl (sF_ne rfl (sF_get)))) hF157 rfl))]; exact hf))))
                                have n180a : (z157a).toInt ≤ (u_109_22).toInt := by have a0 := oa7 i94a i8 ((in_c 1 rfl)) i81 i157a ((in_c 2 rfl)) i150; have a7 := t_add e150 i8 (in_c 1 rfl) rfl; have a8 := in_u i107; have a9 := t_add e106 i8 (in_c 1 rfl) rfl; have a10 := in_u i94; have a11 := t_add e89 i8 (in_c 1 rfl) rfl; have oc := oc_299_109; omega
                                have n180b : ((sG s157 109 31 z169).2.2.1 109 27).toInt ≤ ((sG s157 109 31 z169).2.2.1 109 22).toInt := by have b0 : z157a = (sG s157 109 31 z169).2.2.1 109 27 := sG_F (e157); have b1 : u_109_22 = (sG s157 109 31 z169).2.2.1 109 22 := sG_F (fr_F (s := (sF (sF (sF (sF sc0 109 29 w0_109_27) 109 30 z19) 109 28 (Int32.ofInt 2)) 109 27 z150)) (sF_ne rfl (sF_ne rfl (sF_ne rfl (sF_ne rfl (fr_F e_109_22 hFc0 rfl))))) hF157 rfl); rw [← b0, ← b1]; exact n180a
                                have n180c : (u_109_27).toInt ≤ (z157a).toInt := by have a0 := oa7 i94a i8 ((in_c 1 rfl)) i81 i157a ((in_c 2 rfl)) i150; have a7 := t_add e150 i8 (in_c 1 rfl) rfl; have a8 := in_u i107; have a9 := t_add e106 i8 (in_c 1 rfl) rfl; have a10 := in_u i94; have a11 := t_add e89 i8 (in_c 1 rfl) rfl; have oc := oc_299_109; omega
                                have n180d : (s.2.2.1 109 27).toInt ≤ ((sG s157 109 31 z169).2.2.1 109 27).toInt := by have b0 : z157a = (sG s157 109 31 z169).2.2.1 109 27 := sG_F (e157); first | (rw [← b0, ← e_109_27]; exact n180c) | (rw [← b0]; exact n180c)
                                have n180e : ((Int32.ofInt 2)).toInt ≠ 0 → (u_109_27).toInt + 1 ≤ (z157a).toInt := by have a0 := oa7 i94a i8 ((in_c 1 rfl)) i81 i157a ((in_c 2 rfl)) i150; have a7 := t_add e150 i8 (in_c 1 rfl) rfl; have a8 := in_u i107; have a9 := t_add e106 i8 (in_c 1 rfl) rfl; have a10 := in_u i94; have a11 := t_add e89 i8 (in_c 1 rfl) rfl; have oc := oc_299_109; omega
                                have n180f : ((sG s157 109 31 z169).2.2.1 109 28).toInt ≠ 0 → (s.2.2.1 109 27).toInt + 1 ≤ ((sG s157 109 31 z169).2.2.1 109 27).toInt := by have b0 : (Int32.ofInt 2) = (sG s157 109 31 z169).2.2.1 109 28 := sG_F (fr_F (s := (sF (sF (sF (sF sc0 109 29 w0_109_27) 109 30 z19) 109 28 (Int32.ofInt 2)) 109 27 z150)) (sF_ne rfl (sF_get)) hF157 rfl); have b1 : z157a = (sG s157 109 31 z169).2.2.1 109 27 := sG_F (e157); first | (rw [← b0, ← b1, ← e_109_27]; exact n180e) | (rw [← b0, ← b1]; exact n180e)
                                have n180g : ((Int32.ofInt 2)).toInt = 1 → 97 ≤ (z19).toInt := by exact fun h => absurd h (by decide)
                                have n180h : ((sG s157 109 31 z169).2.2.1 109 28).toInt = 1 → 97 ≤ ((sG s157 109 31 z169).2.2.1 109 30).toInt := by have b0 : (Int32.ofInt 2) = (sG s157 109 31 z169).2.2.1 109 28 := sG_F (fr_F (s := (sF (sF (sF (sF sc0 109 29 w0_109_27) 109 30 z19) 109 28 (Int32.ofInt 2)) 109 27 z150)) (sF_ne rfl (sF_get)) hF157 rfl); have b1 : z19 = (sG s157 109 31 z169).2.2.1 109 30 := sG_F (fr_F (s := (sF (sF (sF (sF sc0 109 29 w0_109_27) 109 30 z19) 109 28 (Int32.ofInt 2)) 109 27 z150)) (sF_ne rfl (sF_ne rfl (sF_get))) hF157 rfl); rw [← b0, ← b1]; exact n180g
                                have n180i : ((Int32.ofInt 2)).toInt = 1 → (z19).toInt ≤ 122 := by exact fun h => absurd h (by decide)
                                have n180j : ((sG s157 109 31 z169).2.2.1 109 28).toInt = 1 → ((sG s157 109 31 z169).2.2.1 109 30).toInt ≤ 122 := by have b0 : (Int32.ofInt 2) = (sG s157 109 31 z169).2.2.1 109 28 := sG_F (fr_F (s := (sF (sF (sF (sF sc0 109 29 w0_109_27) 109 30 z19) 109 28 (Int32.ofInt 2)) 109 27 z150)) (sF_ne rfl (sF_get)) hF157 rfl); have b1 : z19 = (sG s157 109 31 z169).2.2.1 109 30 := sG_F (fr_F (s := (sF (sF (sF (sF sc0 109 29 w0_109_27) 109 30 z19) 109 28 (Int32.ofInt 2)) 109 27 z150)) (sF_ne rfl (sF_ne rfl (sF_get))) hF157 rfl); rw [← b0, ← b1]; exact n180i
                                exact g_return (gd rfl) rfl (hP _ _ ⟨(sG s157 109 31 z169), hI177, (fr_sG rfl (fr_tr rfl (fr_sF rfl (fr_sF rfl (fr_sF rfl (fr_sF rfl hFc0)))) hF157)), n180b, n180d, n180f, n180h, n180j, rfl, rfl, n180⟩)
                      · skip
                        exact n_le c121x3 (in_c 48 rfl) i81 rfl
          · skip
            have i54 := r_eq1 1 999 c54 i8 i8a rfl
            have i54a := r_eq2 1 999 c54 i8 i8a rfl
            refine g_aload_n 58 (gd rfl) rfl rfl ?_
            refine g_iconst 0 59 (gd rfl) rfl rfl ?_
            refine g_putI 62 (gd rfl) rfl rfl rfl rfl ?_
            have hI59 := inv_sF (q := 109) (j := 28) hI43 rfl (in_w (-2147483648) 2147483647 (in_c 0 rfl) rfl)
            have n62 : ∃ k v, TKN (s.1 125) (s.2.2.1 109 22).toInt.toNat (s.2.2.1 109 27).toInt.toNat ((sF (sF sc0 109 29 w0_109_27) 109 28 (Int32.ofInt 0)).2.2.1 109 29).toInt.toNat ((sF (sF sc0 109 29 w0_109_27) 109 28 (Int32.ofInt 0)).2.2.1 109 27).toInt.toNat k v ∧ NTK s (sF (sF sc0 109 29 w0_109_27) 109 28 (Int32.ofInt 0)) k v := by exfalso; have a0 := oa3 i54a i54 ((in_c 0 rfl)); have oc := oc_299_109; omega
            have n62a : (w0_109_27).toInt ≤ (u_109_22).toInt := by first | exact n0_0 | (have a0 := oa3 i54a i54 ((in_c 0 rfl)); have oc := oc_299_109; omega)
            have n62b : ((sF (sF sc0 109 29 w0_109_27) 109 28 (Int32.ofInt 0)).2.2.1 109 27).toInt ≤ ((sF (sF sc0 109 29 w0_109_27) 109 28 (Int32.ofInt 0)).2.2.1 109 22).toInt := by have b0 : w0_109_27 = (sF (sF sc0 109 29 w0_109_27) 109 28 (Int32.ofInt 0)).2.2.1 109 27 := sF_ne rfl (sF_ne rfl (v0_109_27)); have b1 : u_109_22 = (sF (sF sc0 109 29 w0_109_27) 109 28 (Int32.ofInt 0)).2.2.1 109 22 := sF_ne rfl (sF_ne rfl (fr_F e_109_22 hFc0 rfl)); rw [← b0, ← b1]; exact n62a
            have n62c : (u_109_27).toInt ≤ (w0_109_27).toInt := by first | exact n0_1 | (have a0 := oa3 i54a i54 ((in_c 0 rfl)); have oc := oc_299_109; omega)
            have n62d : (s.2.2.1 109 27).toInt ≤ ((sF (sF sc0 109 29 w0_109_27) 109 28 (Int32.ofInt 0)).2.2.1 109 27).toInt := by have b0 : w0_109_27 = (sF (sF sc0 109 29 w0_109_27) 109 28 (Int32.ofInt 0)).2.2.1 109 27 := sF_ne rfl (sF_ne rfl (v0_109_27)); first | (rw [← b0, ← e_109_27]; exact n62c) | (rw [← b0]; exact n62c)
            have n62e : ((Int32.ofInt 0)).toInt ≠ 0 → (u_109_27).toInt + 1 ≤ (w0_109_27).toInt := by exact fun h => absurd rfl h
            have n62f : ((sF (sF sc0 109 29 w0_109_27) 109 28 (Int32.ofInt 0)).2.2.1 109 28).toInt ≠ 0 → (s.2.2.1 109 27).toInt + 1 ≤ ((sF (sF sc0 109 29 w0_109_27) 109 28 (Int32.ofInt 0)).2.2.1 109 27).toInt := by have b0 : (Int32.ofInt 0) = (sF (sF sc0 109 29 w0_109_27) 109 28 (Int32.ofInt 0)).2.2.1 109 28 := sF_get; have b1 : w0_109_27 = (sF (sF sc0 109 29 w0_109_27) 109 28 (Int32.ofInt 0)).2.2.1 109 27 := sF_ne rfl (sF_ne rfl (v0_109_27)); first | (rw [← b0, ← b1, ← e_109_27]; exact n62e) | (rw [← b0, ← b1]; exact n62e)
            have n62g : ((Int32.ofInt 0)).toInt = 1 → 97 ≤ (((sF (sF sc0 109 29 w0_109_27) 109 28 (Int32.ofInt 0)).2.2.1 109 30)).toInt := by exact fun h => absurd h (by decide)
            have n62h : ((sF (sF sc0 109 29 w0_109_27) 109 28 (Int32.ofInt 0)).2.2.1 109 28).toInt = 1 → 97 ≤ ((sF (sF sc0 109 29 w0_109_27) 109 28 (Int32.ofInt 0)).2.2.1 109 30).toInt := by have b0 : (Int32.ofInt 0) = (sF (sF sc0 109 29 w0_109_27) 109 28 (Int32.ofInt 0)).2.2.1 109 28 := sF_get; rw [← b0]; exact n62g
            have n62i : ((Int32.ofInt 0)).toInt = 1 → (((sF (sF sc0 109 29 w0_109_27) 109 28 (Int32.ofInt 0)).2.2.1 109 30)).toInt ≤ 122 := by exact fun h => absurd h (by decide)
            have n62j : ((sF (sF sc0 109 29 w0_109_27) 109 28 (Int32.ofInt 0)).2.2.1 109 28).toInt = 1 → ((sF (sF sc0 109 29 w0_109_27) 109 28 (Int32.ofInt 0)).2.2.1 109 30).toInt ≤ 122 := by have b0 : (Int32.ofInt 0) = (sF (sF sc0 109 29 w0_109_27) 109 28 (Int32.ofInt 0)).2.2.1 109 28 := sF_get; rw [← b0]; exact n62i
            exact g_return (gd rfl) rfl (hP _ _ ⟨(sF (sF sc0 109 29 w0_109_27) 109 28 (Int32.ofInt 0)), hI59, (fr_sF rfl (fr_sF rfl hFc0)), n62b, n62d, n62f, n62h, n62j, rfl, rfl, n62⟩)
        · skip
          have i22 := r_eq1 32 32 c22 i19 (in_c 32 rfl) rfl
          refine g_aload_n 26 (gd rfl) rfl rfl ?_
          refine g_dup 27 (gd rfl) rfl rfl ?_
          refine g_getI 30 (gd rfl) rfl rfl rfl (fun z27 e27 => ?_)
          have q27 : w0_109_27 = z27 := (v0_109_27).trans e27.symm
          subst q27
          refine g_iconst 1 31 (gd rfl) rfl rfl ?_
          refine g_iadd 32 (gd rfl) rfl (fun z31 e31 => ?_)
          have i31 := in_add 1 1000 e31 i8 (in_c 1 rfl) rfl rfl
          refine g_putI 35 (gd rfl) rfl rfl rfl rfl ?_
          have hI32 := inv_sF (q := 109) (j := 27) hIc0 rfl (in_w 0 1000 i31 rfl)
          refine g_goto 0 (gd rfl) rfl ?_
          have v0 : z31 = (sF sc0 109 27 z31).2.2.1 109 27 := sF_get
          have n0 : (z31).toInt ≤ (u_109_22).toInt := by have a0 := oa3 i8a i8 i31; have a3 := t_add e31 i8 (in_c 1 rfl) rfl; have a4 := in_u ((in_c 1 rfl)); have oc := oc_299_109; omega
          have n0a : (u_109_27).toInt ≤ (z31).toInt := by have a0 := oa3 i8a i8 i31; have a3 := t_add e31 i8 (in_c 1 rfl) rfl; have a4 := in_u ((in_c 1 rfl)); have oc := oc_299_109; omega
          have n0b : ∀ i : Nat, (s.2.2.1 109 27).toInt.toNat ≤ i → (i : Int) < (z31).toInt → (s.1 125 i).toInt = 32 := by intro i a b; by_cases hc : (i : Int) < w0_109_27.toInt; (exact g0_0 i a hc); (rw [show i = w0_109_27.toNatClampNeg from (by show i = w0_109_27.toInt.toNat; have a0 := oa3 i8a i8 i31; have a3 := t_add e31 i8 (in_c 1 rfl) rfl; have a4 := in_u ((in_c 1 rfl)); have oc := oc_299_109; omega), show s.1 125 w0_109_27.toNatClampNeg = z19 from (by rw [e19, hFc0.1 125 rfl])]; have a0 := oa3 i8a i8 i31; have a3 := t_add e31 i8 (in_c 1 rfl) rfl; have a4 := in_u ((in_c 1 rfl)); have oc := oc_299_109; omega)
          have n0c : FSM s (sF sc0 109 27 z31) := by exact g0_1
          have m0 : (u_109_22).toInt - (z31).toInt < ((k0 : Nat) : Int) := by have a0 := oa3 i8a i8 i31; have a3 := t_add e31 i8 (in_c 1 rfl) rfl; have a4 := in_u ((in_c 1 rfl)); have oc := oc_299_109; omega
          exact gg_w (by first | exact Nat.le_add_right _ _ | exact gw2 | exact gw3 | exact gwe rfl | exact gwf rfl | exact gwg rfl | exact gwh rfl | omega) (gg_f (gf_cons rfl gf_nil) (ih0  (sF sc0 109 27 z31) z31 hI32 (fr_sF rfl hFc0) v0 n0 n0a n0b n0c m0))
  refine g_enter2 (k := 299) (N := 901801) (by first | exact dq1 hd rfl | exact dq0 hd rfl | exact dq2 hd rfl | exact dq3 hd rfl | omega) rfl (Nat.le_of_ble_eq_true rfl) ?_
  have n0 : (u_109_27).toInt ≤ (u_109_22).toInt := by have a0 := oa2 ((inv_F hI 0 1000 rfl e_109_22)) ((inv_F hI 0 1000 rfl e_109_27)); have oc := oc_299_109; omega
  have n0a : (u_109_27).toInt ≤ (u_109_27).toInt := by exact Int.le_refl _
  have n0b : ∀ i : Nat, (s.2.2.1 109 27).toInt.toNat ≤ i → (i : Int) < (u_109_27).toInt → (s.1 125 i).toInt = 32 := by intro i a b; exfalso; rw [← e_109_27] at a; have a0 := oa2 ((inv_F hI 0 1000 rfl e_109_22)) ((inv_F hI 0 1000 rfl e_109_27)); have oc := oc_299_109; omega
  have n0c : FSM s s := by exact ⟨rfl, rfl⟩
  have m0 : (u_109_22).toInt - (u_109_27).toInt < ((1001 : Nat) : Int) := by have a0 := oa2 ((inv_F hI 0 1000 rfl e_109_22)) ((inv_F hI 0 1000 rfl e_109_27)); have oc := oc_299_109; omega
  exact gg_w (by first | exact Nat.le_of_ble_eq_true rfl | omega) (gg_f (gf_cons rfl gf_nil) (ct0 1001 s u_109_27 hI fr_rf e_109_27 n0 n0a n0b n0c m0))
end
section
/-! FUNCTIONAL CONTRACTS, by fgen.py -/
theorem oc_305_109 : (Int32.ofInt (-1)).toInt = (-1) ∧ (Int32.ofInt 0).toInt = 0 ∧ (Int32.ofInt 1).toInt = 1 ∧ (Int32.ofInt 2).toInt = 2 ∧ (Int32.ofInt 3).toInt = 3 ∧ (Int32.ofInt 32).toInt = 32 ∧ (Int32.ofInt 160).toInt = 160 ∧ (Int32.ofInt 320).toInt = 320 ∧ (Int64.ofInt (-1000000)).toInt = (-1000000) ∧ (Int64.ofInt 0).toInt = 0 ∧ (Int64.ofInt 159).toInt = 159 ∧ (Int64.ofInt 1000000).toInt = 1000000 := ⟨rfl, rfl, rfl, rfl, rfl, rfl, rfl, rfl, rfl, rfl, rfl, rfl⟩
/-- GraphHouseModel.isDone -/
theorem f_305 {Z : AmZ} {A : Nat → Nat} {s : GS} {ex : va_W} {d : Nat} {X : AmX} {x1 : Int32} {x2 : Int32} (hd : 4 ≤ d) (hI : Inv s) (h1 : In x1 97 119) (h2 : In x2 0 2495) (q_0 : 0 ≤ (s.1 110 2).toInt ∧ (s.1 110 2).toInt ≤ 32) (q_1 : C4 (x1).toInt) : GC Z d 305 [.ref (A 109), .int x1, .int x2] (WW Z A s ++ ex) 0 0 (fun v u => ∃ t : GS, Inv t ∧ Fr fm_305 s t ∧ ∃ z : Int32, v = some (.int z) ∧ u = WW Z A t ++ ex ∧ In z 0 1 ∧ (DNE s t (x1).toInt (x2).toNatClampNeg (z).toInt) ∧ (YNQ (z).toInt (DON s (x1).toInt (x2).toNatClampNeg))) X := by
  intro post xp hP hX
  have ct311 : ∀ (sc311 : GS) (y311_3 : Int32) (y311_4 : Int32), Inv sc311 → Fr fm_305 s sc311 → (sc311 = s) → (¬ DON s (x1).toInt (x2).toNatClampNeg) → GG Z (d - 1) 305 post (gx xp) (901) 311 (fun j => xlook j [(0, .ref (A 109)), (1, .int x1), (2, .int x2), (3, .int y311_3), (4, .int y311_4)]) [] (WW Z A sc311 ++ ex) 0 0 := by
    intro sc311 y311_3 y311_4 hIc311 hFc311 g311_0 g311_1
    refine g_iconst 0 312 (gd rfl) rfl rfl ?_
    have n312 : DNE s sc311 (x1).toInt (x2).toNatClampNeg ((Int32.ofInt 0)).toInt := by exact dne_no g311_0 (by decide)
    have n312a : YNQ ((Int32.ofInt 0)).toInt (DON s (x1).toInt (x2).toNatClampNeg) := by exact ⟨fun h => absurd rfl h, fun _ => g311_1⟩
    exact g_ireturn (gd rfl) rfl (nb01 (in_w 0 1 (in_c 0 rfl) rfl)) (hP _ _ ⟨sc311, hIc311, hFc311, (Int32.ofInt 0), rfl, rfl, in_w 0 1 (in_c 0 rfl) rfl, n312, n312a⟩)
  have ct255 : ∀ (sc255 : GS) (y255_3 : Int32) (y255_4 : Int32) (y255_7 : Int32), Inv sc255 → Fr fm_305 s sc255 → (In x1 116 116) → (In y255_7 0 1) → (DNE s sc255 (x1).toInt (x2).toNatClampNeg (y255_7).toInt) → (YNQ (y255_7).toInt (DON s (x1).toInt (x2).toNatClampNeg)) → GG Z (d - 1) 305 post (gx xp) (1802) 255 (fun j => xlook j [(0, .ref (A 109)), (1, .int x1), (2, .int x2), (3, .int y255_3), (4, .int y255_4), (7, .int y255_7)]) [] (WW Z A sc255 ++ ex) 0 0 := by
    intro sc255 y255_3 y255_4 y255_7 hIc255 hFc255 j255_1 j255_7 g255_0 g255_1
    refine g_iload 257 (gd rfl) rfl rfl ?_
    have n257 : DNE s sc255 (x1).toInt (x2).toNatClampNeg (y255_7).toInt := by exact g255_0
    have n257a : YNQ (y255_7).toInt (DON s (x1).toInt (x2).toNatClampNeg) := by exact g255_1
    exact g_ireturn (gd rfl) rfl (nb01 (in_w 0 1 j255_7 rfl)) (hP _ _ ⟨sc255, hIc255, hFc255, y255_7, rfl, rfl, in_w 0 1 j255_7 rfl, n257, n257a⟩)
  have ct236 : ∀ (sc236 : GS) (y236_3 : Int32) (y236_4 : Int32), Inv sc236 → Fr fm_305 s sc236 → (In x1 116 116) → (sc236 = s) → (¬ DON s (x1).toInt (x2).toNatClampNeg) → GG Z (d - 1) 305 post (gx xp) (2703) 236 (fun j => xlook j [(0, .ref (A 109)), (1, .int x1), (2, .int x2), (3, .int y236_3), (4, .int y236_4)]) [] (WW Z A sc236 ++ ex) 0 0 := by
    intro sc236 y236_3 y236_4 hIc236 hFc236 j236_1 g236_0 g236_1
    refine g_iconst 0 237 (gd rfl) rfl rfl ?_
    refine g_istore 239 (gd rfl) rfl (Nat.le_of_ble_eq_true rfl) ?_
    refine g_iload 241 (gd rfl) rfl rfl ?_
    refine g_if_eq 244 255 (gd rfl) rfl rfl (fun c241 => ?_) (fun c241 => ?_)
    · skip
      have n255 : DNE s sc236 (x1).toInt (x2).toNatClampNeg ((Int32.ofInt 0)).toInt := by exact dne_no g236_0 (by decide)
      have n255a : YNQ ((Int32.ofInt 0)).toInt (DON s (x1).toInt (x2).toNatClampNeg) := by exact ⟨fun h => absurd rfl h, fun _ => g236_1⟩
      exact gg_w (by first | exact Nat.le_of_ble_eq_true rfl | omega) (gg_f (gf_cons rfl (gf_cons rfl (gf_cons rfl (gf_cons rfl (gf_cons rfl (gf_cons rfl gf_nil)))))) (ct255 sc236 y236_3 y236_4 (Int32.ofInt 0) hIc236 hFc236 (in_w 116 116 j236_1 rfl) (in_w 0 1 (in_c 0 rfl) rfl) n255 n255a))
    · skip
      exact zn_ne c241 (in_c 0 rfl) rfl
  have ct188 : ∀ (sc188 : GS) (y188_3 : Int32) (y188_4 : Int32) (y188_5 : Int32) (y188_6 : Int32), Inv sc188 → Fr fm_305 s sc188 → (In x1 97 97) → (In y188_5 0 160) → (In y188_6 0 1) → (DNE s sc188 (x1).toInt (x2).toNatClampNeg (y188_6).toInt) → (YNQ (y188_6).toInt (DON s (x1).toInt (x2).toNatClampNeg)) → GG Z (d - 1) 305 post (gx xp) (3604) 188 (fun j => xlook j [(0, .ref (A 109)), (1, .int x1), (2, .int x2), (3, .int y188_3), (4, .int y188_4), (5, .int y188_5), (6, .int y188_6)]) [] (WW Z A sc188 ++ ex) 0 0 := by
    intro sc188 y188_3 y188_4 y188_5 y188_6 hIc188 hFc188 j188_1 j188_5 j188_6 g188_0 g188_1
    refine g_iload 190 (gd rfl) rfl rfl ?_
    have n190 : DNE s sc188 (x1).toInt (x2).toNatClampNeg (y188_6).toInt := by exact g188_0
    have n190a : YNQ (y188_6).toInt (DON s (x1).toInt (x2).toNatClampNeg) := by exact g188_1
    exact g_ireturn (gd rfl) rfl (nb01 (in_w 0 1 j188_6 rfl)) (hP _ _ ⟨sc188, hIc188, hFc188, y188_6, rfl, rfl, in_w 0 1 j188_6 rfl, n190, n190a⟩)
  have ct168 : ∀ (sc168 : GS) (y168_3 : Int32) (y168_4 : Int32) (y168_5 : Int32), Inv sc168 → Fr fm_305 s sc168 → (In x1 97 97) → (In y168_5 0 160) → (sc168 = s) → (¬ DON s (x1).toInt (x2).toNatClampNeg) → GG Z (d - 1) 305 post (gx xp) (4505) 168 (fun j => xlook j [(0, .ref (A 109)), (1, .int x1), (2, .int x2), (3, .int y168_3), (4, .int y168_4), (5, .int y168_5)]) [] (WW Z A sc168 ++ ex) 0 0 := by
    intro sc168 y168_3 y168_4 y168_5 hIc168 hFc168 j168_1 j168_5 g168_0 g168_1
    refine g_iconst 0 169 (gd rfl) rfl rfl ?_
    refine g_istore 171 (gd rfl) rfl (Nat.le_of_ble_eq_true rfl) ?_
    refine g_iload 173 (gd rfl) rfl rfl ?_
    refine g_if_eq 176 188 (gd rfl) rfl rfl (fun c173 => ?_) (fun c173 => ?_)
    · skip
      have n188 : DNE s sc168 (x1).toInt (x2).toNatClampNeg ((Int32.ofInt 0)).toInt := by exact dne_no g168_0 (by decide)
      have n188a : YNQ ((Int32.ofInt 0)).toInt (DON s (x1).toInt (x2).toNatClampNeg) := by first | exact ⟨fun h => absurd rfl h, fun _ => g168_1⟩
      exact gg_w (by first | exact Nat.le_of_ble_eq_true rfl | omega) (gg_f (gf_cons rfl (gf_cons rfl (gf_cons rfl (gf_cons rfl (gf_cons rfl (gf_cons rfl (gf_cons rfl gf_nil))))))) (ct188 sc168 y168_3 y168_4 y168_5 (Int32.ofInt 0) hIc168 hFc168 (in_w 97 97 j168_1 rfl) (in_w 0 160 j168_5 rfl) (in_w 0 1 (in_c 0 rfl) rfl) n188 n188a))
    · skip
      exact zn_ne c173 (in_c 0 rfl) rfl
  refine g_enter2 (k := 305) (N := 5405) (by first | exact dq1 hd rfl | exact dq0 hd rfl | exact dq2 hd rfl | exact dq3 hd rfl | omega) rfl (Nat.le_of_ble_eq_true rfl) ?_
  refine g_aload_n 1 (gd rfl) rfl rfl ?_
  refine g_getA (q2 := 128) 4 (gd rfl) rfl rfl rfl rfl ?_
  refine g_iload_n 5 (gd rfl) rfl rfl ?_
  refine g_iaload 6 (gd rfl) rfl (n := 2500) rfl (in_ix h2 rfl) (fun z5 e5 => ?_)
  refine g_istore_n 7 (gd rfl) rfl (Nat.le_of_ble_eq_true rfl) ?_
  refine g_aload_n 8 (gd rfl) rfl rfl ?_
  refine g_getA (q2 := 128) 11 (gd rfl) rfl rfl rfl rfl ?_
  refine g_iload_n 12 (gd rfl) rfl rfl ?_
  refine g_iconst 1 13 (gd rfl) rfl rfl ?_
  refine g_iadd 14 (gd rfl) rfl (fun z13 e13 => ?_)
  have i13 := in_add 1 2496 e13 h2 (in_c 1 rfl) rfl rfl
  refine g_iaload 15 (gd rfl) rfl (n := 2500) rfl (in_ix i13 rfl) (fun z14 e14 => ?_)
  refine g_istore 17 (gd rfl) rfl (Nat.le_of_ble_eq_true rfl) ?_
  refine g_iload_n 18 (gd rfl) rfl rfl ?_
  refine g_lsw [(97, 79), (110, 52), (116, 191)] 258 (gd rfl) rfl rfl rfl ⟨fun c18 => ?_, fun c18_0 => ⟨fun c18 => ?_, fun c18_1 => ⟨fun c18 => ?_, fun c18_2 => ?_⟩⟩⟩
  · skip
    have i18 := sw_eq c18
    refine g_aload_n 80 (gd rfl) rfl rfl ?_
    refine g_iconst 2 81 (gd rfl) rfl rfl ?_
    refine g_callv (X := _) (As := [.int (Int32.ofInt 2)]) (r := []) (b := A 109) (q := 109) 84 (gd rfl) rfl rfl rfl rfl rfl (ww_o rfl) (Nat.le_of_ble_eq_true rfl) (Nat.zero_le _) (Nat.zero_le _) (k_280 (by first | exact dq1 hd rfl | exact dq0 hd rfl | exact dq2 hd rfl | exact dq3 hd rfl | omega) hI (in_w 0 2 (in_c 2 rfl) rfl)) (fun e u h => h) (fun v u h => ?_)
    obtain ⟨z81, rfl, rfl, i81, p81⟩ := h
    show GG _ _ _ _ _ _ _ _ [.int z81] _ _ _
    refine g_istore 86 (gd rfl) rfl (Nat.le_of_ble_eq_true rfl) ?_
    refine g_iload 88 (gd rfl) rfl rfl ?_
    refine g_sipush 160 91 (gd rfl) rfl rfl ?_
    refine g_cmp_ge 94 168 (gd rfl) rfl rfl (fun c91 => ?_) (fun c91 => ?_)
    · skip
      have i91 := r_le2 160 160 c91 (in_c 160 rfl) i81 rfl
      have n168 : s = s := by rfl
      have n168a : ¬ DON s (x1).toInt (x2).toNatClampNeg := by intro h; have h9 := h.2.1 (by have a0 := oa4 h2 i18 i91 i13; have a4 := t_add e13 h2 (in_c 1 rfl) rfl; have a5 := in_u ((in_c 1 rfl)); have oc := oc_305_109; omega); unfold nq at h9; have p9 : z81.toNatClampNeg = fpl (thg s 320) := p81; have hz81 : z81.toNatClampNeg = z81.toInt.toNat := rfl; rw [← p9] at h9; have a0 := oa4 h2 i18 i91 i13; have a4 := t_add e13 h2 (in_c 1 rfl) rfl; have a5 := in_u ((in_c 1 rfl)); have oc := oc_305_109; omega
      exact gg_w (by first | exact Nat.le_of_ble_eq_true rfl | omega) (gg_f (gf_cons rfl (gf_cons rfl (gf_cons rfl (gf_cons rfl (gf_cons rfl (gf_cons rfl gf_nil)))))) (ct168 s z5 z14 z81 hI fr_rf (in_w 97 97 i18 rfl) (in_w 0 160 i91 rfl) n168 n168a))
    · skip
      have i91 := r_lt1 0 159 c91 i81 (in_c 160 rfl) rfl
      refine g_iload_n 95 (gd rfl) rfl rfl ?_
      refine g_i2l 96 (gd rfl) rfl (fun z95 e95 => ?_)
      have i95 := l_i e95 (i_rng z5)
      refine g_lconst 0 97 (gd rfl) rfl rfl ?_
      refine g_aload_n 98 (gd rfl) rfl rfl ?_
      refine g_getA (q2 := 110) 101 (gd rfl) rfl rfl rfl rfl ?_
      refine g_iconst 2 102 (gd rfl) rfl rfl ?_
      refine g_iaload 103 (gd rfl) rfl (n := 3) rfl (in_ix (in_c 2 rfl) rfl) (fun z102 e102 => ?_)
      have i103 : In z102 0 32 := by rw [e102]; exact q_0
      refine g_iconst 1 104 (gd rfl) rfl rfl ?_
      refine g_isub 105 (gd rfl) rfl (fun z104 e104 => ?_)
      have i104 := in_sub (-1) 31 e104 i103 (in_c 1 rfl) rfl rfl
      refine g_i2l 106 (gd rfl) rfl (fun z105 e105 => ?_)
      have i105 := l_i e105 i104
      refine g_calls (As := [.long z95, .long (Int64.ofInt 0), .long z105]) (r := []) 109 (gd rfl) rfl rfl rfl rfl rfl (Nat.le_of_ble_eq_true rfl) (mc := 0) (ms := 0) (Nat.zero_le _) (Nat.zero_le _) (P := fun v u => _) ?_ (fun v u h => h)
      intro po106 xx106 hp106 hx106
      refine g_enter2 (k := 269) (N := 300) (by first | exact dq1 hd rfl | exact dq0 hd rfl | exact dq2 hd rfl | exact dq3 hd rfl | omega) rfl (Nat.le_of_ble_eq_true rfl) ?_
      refine g_lload_n 1 (gd rfl) rfl rfl ?_
      refine g_lload_n 2 (gd rfl) rfl rfl ?_
      refine g_lcmp 3 (gd rfl) rfl (fun z106x2 e106x2 => ?_)
      have i106x2 := lc_in e106x2
      refine g_if_lt 6 17 (gd rfl) rfl rfl (fun c106x3 => ?_) (fun c106x3 => ?_)
      · skip
        have i106x3 := z_lt (-1) (-1) c106x3 i106x2 rfl
        have c106x3a := lc_lt e106x2 c106x3
        have i106x3a := lr_lt1 (-2147483648) (-1) c106x3a i95 (l_c 0 rfl) rfl
        have i106x3b := l_b e95 i106x3a
        refine g_iconst 0 18 (gd rfl) rfl rfl ?_
        refine g_ireturn (gd rfl) rfl (nb01 (in_w 0 1 (in_c 0 rfl) rfl)) (hp106 _ _ ?_)
        show GG _ _ _ _ _ _ _ _ [.int (Int32.ofInt 0)] _ _ _
        refine g_if_eq 112 168 (gd rfl) rfl rfl (fun c109 => ?_) (fun c109 => ?_)
        · skip
          have n168 : s = s := by rfl
          have n168a : ¬ DON s (x1).toInt (x2).toNatClampNeg := by intro h; have h9 := h.2.1 (by have a0 := oa4 h2 i18 i91 i106x3b; have a4 := tx_i2l e105; have a5 := in_u i104; have a6 := t_sub e104 i103 (in_c 1 rfl) rfl; have a7 := oa2 ((in_c 1 rfl)) i103; have a9 := tx_i2l e95; have a10 := in_u i13; have a11 := t_add e13 h2 (in_c 1 rfl) rfl; have oc := oc_305_109; omega); unfold nq at h9; have p9 : z81.toNatClampNeg = fpl (thg s 320) := p81; have hz81 : z81.toNatClampNeg = z81.toInt.toNat := rfl; rw [← p9, ← e5, show s.1 110 2 = z102 from e102.symm] at h9; have a0 := oa4 h2 i18 i91 i106x3b; have a4 := tx_i2l e105; have a5 := in_u i104; have a6 := t_sub e104 i103 (in_c 1 rfl) rfl; have a7 := oa2 ((in_c 1 rfl)) i103; have a9 := tx_i2l e95; have a10 := in_u i13; have a11 := t_add e13 h2 (in_c 1 rfl) rfl; have oc := oc_305_109; omega
          exact gg_w (by first | exact Nat.le_of_ble_eq_true rfl | omega) (gg_f (gf_cons rfl (gf_cons rfl (gf_cons rfl (gf_cons rfl (gf_cons rfl (gf_cons rfl gf_nil)))))) (ct168 s z5 z14 z81 hI fr_rf (in_w 97 97 i18 rfl) (in_w 0 160 i91 rfl) n168 n168a))
        · skip
          exact zn_ne c109 (in_c 0 rfl) rfl
      · skip
        have i106x3 := z_ge 0 1 c106x3 i106x2 rfl
        have c106x3a := lc_ge e106x2 c106x3
        have i106x3a := lr_le2 0 2147483647 c106x3a (l_c 0 rfl) i95 rfl
        have i106x3b := l_b e95 i106x3a
        refine g_lload_n 7 (gd rfl) rfl rfl ?_
        refine g_lload 9 (gd rfl) rfl rfl ?_
        refine g_lcmp 10 (gd rfl) rfl (fun z106x9 e106x9 => ?_)
        have i106x9 := lc_in e106x9
        refine g_if_gt 13 17 (gd rfl) rfl rfl (fun c106x10 => ?_) (fun c106x10 => ?_)
        · skip
          have i106x10 := z_gt 1 1 c106x10 i106x9 rfl
          have c106x10a := lc_gt e106x9 c106x10
          refine g_iconst 0 18 (gd rfl) rfl rfl ?_
          refine g_ireturn (gd rfl) rfl (nb01 (in_w 0 1 (in_c 0 rfl) rfl)) (hp106 _ _ ?_)
          show GG _ _ _ _ _ _ _ _ [.int (Int32.ofInt 0)] _ _ _
          refine g_if_eq 112 168 (gd rfl) rfl rfl (fun c109 => ?_) (fun c109 => ?_)
          · skip
            have n168 : s = s := by rfl
            have n168a : ¬ DON s (x1).toInt (x2).toNatClampNeg := by intro h; have h9 := h.2.1 (by have a0 := oa4 h2 i18 i91 i106x3b; have a4 := tx_i2l e105; have a5 := in_u i104; have a6 := t_sub e104 i103 (in_c 1 rfl) rfl; have a7 := oa2 ((in_c 1 rfl)) i103; have a9 := tx_i2l e95; have a10 := in_u i13; have a11 := t_add e13 h2 (in_c 1 rfl) rfl; have oc := oc_305_109; omega); unfold nq at h9; have p9 : z81.toNatClampNeg = fpl (thg s 320) := p81; have hz81 : z81.toNatClampNeg = z81.toInt.toNat := rfl; rw [← p9, ← e5, show s.1 110 2 = z102 from e102.symm] at h9; have a0 := oa4 h2 i18 i91 i106x3b; have a4 := tx_i2l e105; have a5 := in_u i104; have a6 := t_sub e104 i103 (in_c 1 rfl) rfl; have a7 := oa2 ((in_c 1 rfl)) i103; have a9 := tx_i2l e95; have a10 := in_u i13; have a11 := t_add e13 h2 (in_c 1 rfl) rfl; have oc := oc_305_109; omega
            exact gg_w (by first | exact Nat.le_of_ble_eq_true rfl | omega) (gg_f (gf_cons rfl (gf_cons rfl (gf_cons rfl (gf_cons rfl (gf_cons rfl (gf_cons rfl gf_nil)))))) (ct168 s z5 z14 z81 hI fr_rf (in_w 97 97 i18 rfl) (in_w 0 160 i91 rfl) n168 n168a))
          · skip
            exact zn_ne c109 (in_c 0 rfl) rfl
        · skip
          have i106x10 := z_le (-1) 0 c106x10 i106x9 rfl
          have c106x10a := lc_le e106x9 c106x10
          have i106x10a := lr_le1 0 31 c106x10a i106x3a i105 rfl
          have i106x10b := l_b e95 i106x10a
          have i106x10c := lr_le2 0 31 c106x10a i106x3a i105 rfl
          have i106x10d := l_b e105 i106x10c
          refine g_iconst 1 14 (gd rfl) rfl rfl ?_
          refine g_goto 18 (gd rfl) rfl ?_
          refine g_ireturn (gd rfl) rfl (nb01 (in_w 0 1 (in_c 1 rfl) rfl)) (hp106 _ _ ?_)
          show GG _ _ _ _ _ _ _ _ [.int (Int32.ofInt 1)] _ _ _
          refine g_if_eq 112 168 (gd rfl) rfl rfl (fun c109 => ?_) (fun c109 => ?_)
          · skip
            exact zn_eq c109 (in_c 1 rfl) rfl
          · skip
            refine g_iload 114 (gd rfl) rfl rfl ?_
            refine g_i2l 115 (gd rfl) rfl (fun z114 e114 => ?_)
            have i114 := l_i e114 (i_rng z14)
            refine g_lconst 0 116 (gd rfl) rfl rfl ?_
            refine g_aload_n 117 (gd rfl) rfl rfl ?_
            refine g_getA (q2 := 110) 120 (gd rfl) rfl rfl rfl rfl ?_
            refine g_iconst 2 121 (gd rfl) rfl rfl ?_
            refine g_iaload 122 (gd rfl) rfl (n := 3) rfl (in_ix (in_c 2 rfl) rfl) (fun z121 e121 => ?_)
            have q121 : z102 = z121 := (e102).trans e121.symm
            subst q121
            refine g_iconst 1 123 (gd rfl) rfl rfl ?_
            refine g_isub 124 (gd rfl) rfl (fun z123 e123 => ?_)
            have i123 := in_sub (-1) 31 e123 i103 (in_c 1 rfl) rfl rfl
            refine g_i2l 125 (gd rfl) rfl (fun z124 e124 => ?_)
            have i124 := l_i e124 i123
            refine g_calls (As := [.long z114, .long (Int64.ofInt 0), .long z124]) (r := []) 128 (gd rfl) rfl rfl rfl rfl rfl (Nat.le_of_ble_eq_true rfl) (mc := 0) (ms := 0) (Nat.zero_le _) (Nat.zero_le _) (P := fun v u => _) ?_ (fun v u h => h)
            intro po125 xx125 hp125 hx125
            refine g_enter2 (k := 269) (N := 300) (by first | exact dq1 hd rfl | exact dq0 hd rfl | exact dq2 hd rfl | exact dq3 hd rfl | omega) rfl (Nat.le_of_ble_eq_true rfl) ?_
            refine g_lload_n 1 (gd rfl) rfl rfl ?_
            refine g_lload_n 2 (gd rfl) rfl rfl ?_
            refine g_lcmp 3 (gd rfl) rfl (fun z125x2 e125x2 => ?_)
            have i125x2 := lc_in e125x2
            refine g_if_lt 6 17 (gd rfl) rfl rfl (fun c125x3 => ?_) (fun c125x3 => ?_)
            · skip
              have i125x3 := z_lt (-1) (-1) c125x3 i125x2 rfl
              have c125x3a := lc_lt e125x2 c125x3
              have i125x3a := lr_lt1 (-2147483648) (-1) c125x3a i114 (l_c 0 rfl) rfl
              have i125x3b := l_b e114 i125x3a
              refine g_iconst 0 18 (gd rfl) rfl rfl ?_
              refine g_ireturn (gd rfl) rfl (nb01 (in_w 0 1 (in_c 0 rfl) rfl)) (hp125 _ _ ?_)
              show GG _ _ _ _ _ _ _ _ [.int (Int32.ofInt 0)] _ _ _
              refine g_if_eq 131 168 (gd rfl) rfl rfl (fun c128 => ?_) (fun c128 => ?_)
              · skip
                have n168 : s = s := by rfl
                have n168a : ¬ DON s (x1).toInt (x2).toNatClampNeg := by intro h; have h9 := h.2.1 (by have a0 := oa5 h2 i18 i91 i125x3b i106x10b; have a5 := tx_i2l e124; have a6 := in_u i123; have a7 := t_sub e123 i103 (in_c 1 rfl) rfl; have a8 := oa2 ((in_c 1 rfl)) i103; have a10 := tx_i2l e114; have a11 := tx_i2l e105; have a12 := in_u i106x10d; have a13 := t_sub e104 i103 (in_c 1 rfl) rfl; have a14 := tx_i2l e95; have a15 := in_u i13; have a16 := t_add e13 h2 (in_c 1 rfl) rfl; have oc := oc_305_109; omega); unfold nq at h9; have p9 : z81.toNatClampNeg = fpl (thg s 320) := p81; have hz81 : z81.toNatClampNeg = z81.toInt.toNat := rfl; rw [← p9, ← e5, show s.1 128 (x2.toNatClampNeg + 1) = z14 from (by rw [show x2.toNatClampNeg + 1 = z13.toNatClampNeg from (by show x2.toInt.toNat + 1 = z13.toInt.toNat; have a0 := oa5 h2 i18 i91 i125x3b i106x10b; have a5 := tx_i2l e124; have a6 := in_u i123; have a7 := t_sub e123 i103 (in_c 1 rfl) rfl; have a8 := oa2 ((in_c 1 rfl)) i103; have a10 := tx_i2l e114; have a11 := tx_i2l e105; have a12 := in_u i106x10d; have a13 := t_sub e104 i103 (in_c 1 rfl) rfl; have a14 := tx_i2l e95; have a15 := in_u i13; have a16 := t_add e13 h2 (in_c 1 rfl) rfl; have oc := oc_305_109; omega)]; exact e14.symm), show s.1 110 2 = z102 from e102.symm] at h9; have a0 := oa5 h2 i18 i91 i125x3b i106x10b; have a5 := tx_i2l e124; have a6 := in_u i123; have a7 := t_sub e123 i103 (in_c 1 rfl) rfl; have a8 := oa2 ((in_c 1 rfl)) i103; have a10 := tx_i2l e114; have a11 := tx_i2l e105; have a12 := in_u i106x10d; have a13 := t_sub e104 i103 (in_c 1 rfl) rfl; have a14 := tx_i2l e95; have a15 := in_u i13; have a16 := t_add e13 h2 (in_c 1 rfl) rfl; have oc := oc_305_109; omega
                exact gg_w (by first | exact Nat.le_of_ble_eq_true rfl | omega) (gg_f (gf_cons rfl (gf_cons rfl (gf_cons rfl (gf_cons rfl (gf_cons rfl (gf_cons rfl gf_nil)))))) (ct168 s z5 z14 z81 hI fr_rf (in_w 97 97 i18 rfl) (in_w 0 160 i91 rfl) n168 n168a))
              · skip
                exact zn_ne c128 (in_c 0 rfl) rfl
            · skip
              have i125x3 := z_ge 0 1 c125x3 i125x2 rfl
              have c125x3a := lc_ge e125x2 c125x3
              have i125x3a := lr_le2 0 2147483647 c125x3a (l_c 0 rfl) i114 rfl
              have i125x3b := l_b e114 i125x3a
              refine g_lload_n 7 (gd rfl) rfl rfl ?_
              refine g_lload 9 (gd rfl) rfl rfl ?_
              refine g_lcmp 10 (gd rfl) rfl (fun z125x9 e125x9 => ?_)
              have i125x9 := lc_in e125x9
              refine g_if_gt 13 17 (gd rfl) rfl rfl (fun c125x10 => ?_) (fun c125x10 => ?_)
              · skip
                have i125x10 := z_gt 1 1 c125x10 i125x9 rfl
                have c125x10a := lc_gt e125x9 c125x10
                refine g_iconst 0 18 (gd rfl) rfl rfl ?_
                refine g_ireturn (gd rfl) rfl (nb01 (in_w 0 1 (in_c 0 rfl) rfl)) (hp125 _ _ ?_)
                show GG _ _ _ _ _ _ _ _ [.int (Int32.ofInt 0)] _ _ _
                refine g_if_eq 131 168 (gd rfl) rfl rfl (fun c128 => ?_) (fun c128 => ?_)
                · skip
                  have n168 : s = s := by rfl
                  have n168a : ¬ DON s (x1).toInt (x2).toNatClampNeg := by intro h; have h9 := h.2.1 (by have a0 := oa5 h2 i18 i91 i125x3b i106x10b; have a5 := tx_i2l e124; have a6 := in_u i123; have a7 := t_sub e123 i103 (in_c 1 rfl) rfl; have a8 := oa2 ((in_c 1 rfl)) i103; have a10 := tx_i2l e114; have a11 := tx_i2l e105; have a12 := in_u i106x10d; have a13 := t_sub e104 i103 (in_c 1 rfl) rfl; have a14 := tx_i2l e95; have a15 := in_u i13; have a16 := t_add e13 h2 (in_c 1 rfl) rfl; have oc := oc_305_109; omega); unfold nq at h9; have p9 : z81.toNatClampNeg = fpl (thg s 320) := p81; have hz81 : z81.toNatClampNeg = z81.toInt.toNat := rfl; rw [← p9, ← e5, show s.1 128 (x2.toNatClampNeg + 1) = z14 from (by rw [show x2.toNatClampNeg + 1 = z13.toNatClampNeg from (by show x2.toInt.toNat + 1 = z13.toInt.toNat; have a0 := oa5 h2 i18 i91 i125x3b i106x10b; have a5 := tx_i2l e124; have a6 := in_u i123; have a7 := t_sub e123 i103 (in_c 1 rfl) rfl; have a8 := oa2 ((in_c 1 rfl)) i103; have a10 := tx_i2l e114; have a11 := tx_i2l e105; have a12 := in_u i106x10d; have a13 := t_sub e104 i103 (in_c 1 rfl) rfl; have a14 := tx_i2l e95; have a15 := in_u i13; have a16 := t_add e13 h2 (in_c 1 rfl) rfl; have oc := oc_305_109; omega)]; exact e14.symm), show s.1 110 2 = z102 from e102.symm] at h9; have a0 := oa5 h2 i18 i91 i125x3b i106x10b; have a5 := tx_i2l e124; have a6 := in_u i123; have a7 := t_sub e123 i103 (in_c 1 rfl) rfl; have a8 := oa2 ((in_c 1 rfl)) i103; have a10 := tx_i2l e114; have a11 := tx_i2l e105; have a12 := in_u i106x10d; have a13 := t_sub e104 i103 (in_c 1 rfl) rfl; have a14 := tx_i2l e95; have a15 := in_u i13; have a16 := t_add e13 h2 (in_c 1 rfl) rfl; have oc := oc_305_109; omega
                  exact gg_w (by first | exact Nat.le_of_ble_eq_true rfl | omega) (gg_f (gf_cons rfl (gf_cons rfl (gf_cons rfl (gf_cons rfl (gf_cons rfl (gf_cons rfl gf_nil)))))) (ct168 s z5 z14 z81 hI fr_rf (in_w 97 97 i18 rfl) (in_w 0 160 i91 rfl) n168 n168a))
                · skip
                  exact zn_ne c128 (in_c 0 rfl) rfl
              · skip
                have i125x10 := z_le (-1) 0 c125x10 i125x9 rfl
                have c125x10a := lc_le e125x9 c125x10
                have i125x10a := lr_le1 0 31 c125x10a i125x3a i124 rfl
                have i125x10b := l_b e114 i125x10a
                have i125x10c := lr_le2 0 31 c125x10a i125x3a i124 rfl
                have i125x10d := l_b e124 i125x10c
                refine g_iconst 1 14 (gd rfl) rfl rfl ?_
                refine g_goto 18 (gd rfl) rfl ?_
                refine g_ireturn (gd rfl) rfl (nb01 (in_w 0 1 (in_c 1 rfl) rfl)) (hp125 _ _ ?_)
                show GG _ _ _ _ _ _ _ _ [.int (Int32.ofInt 1)] _ _ _
                refine g_if_eq 131 168 (gd rfl) rfl rfl (fun c128 => ?_) (fun c128 => ?_)
                · skip
                  exact zn_eq c128 (in_c 1 rfl) rfl
                · skip
                  refine g_aload_n 132 (gd rfl) rfl rfl ?_
                  refine g_getA (q2 := 128) 135 (gd rfl) rfl rfl rfl rfl ?_
                  refine g_iload_n 136 (gd rfl) rfl rfl ?_
                  refine g_iconst 2 137 (gd rfl) rfl rfl ?_
                  refine g_iadd 138 (gd rfl) rfl (fun z137 e137 => ?_)
                  have i137 := in_add 2 2497 e137 h2 (in_c 2 rfl) rfl rfl
                  refine g_iaload 139 (gd rfl) rfl (n := 2500) rfl (in_ix i137 rfl) (fun z138 e138 => ?_)
                  refine g_calls (As := [.int z138]) (r := []) 142 (gd rfl) rfl rfl rfl rfl rfl (Nat.le_of_ble_eq_true rfl) (mc := 0) (ms := 0) (Nat.zero_le _) (Nat.zero_le _) (P := fun v u => _) ?_ (fun v u h => h)
                  intro po139 xx139 hp139 hx139
                  refine g_enter2 (k := 279) (N := 300) (by first | exact dq1 hd rfl | exact dq0 hd rfl | exact dq2 hd rfl | exact dq3 hd rfl | omega) rfl (Nat.le_of_ble_eq_true rfl) ?_
                  refine g_iload_n 1 (gd rfl) rfl rfl ?_
                  refine g_i2l 2 (gd rfl) rfl (fun z139x1 e139x1 => ?_)
                  have i139x1 := l_i e139x1 (i_rng z138)
                  refine g_ldc2_w (-1000000) 5 (gd rfl) rfl rfl ?_
                  refine g_ldc2_w 1000000 8 (gd rfl) rfl rfl ?_
                  refine g_calls (As := [.long z139x1, .long (Int64.ofInt (-1000000)), .long (Int64.ofInt 1000000)]) (r := []) 11 (gd rfl) rfl rfl rfl rfl rfl (Nat.le_of_ble_eq_true rfl) (mc := 0) (ms := 0) (Nat.zero_le _) (Nat.zero_le _) (P := fun v u => _) ?_ (fun v u h => h)
                  intro po139x8 xx139x8 hp139x8 hx139x8
                  refine g_enter2 (k := 269) (N := 300) (by first | exact dq1 hd rfl | exact dq0 hd rfl | exact dq2 hd rfl | exact dq3 hd rfl | omega) rfl (Nat.le_of_ble_eq_true rfl) ?_
                  refine g_lload_n 1 (gd rfl) rfl rfl ?_
                  refine g_lload_n 2 (gd rfl) rfl rfl ?_
                  refine g_lcmp 3 (gd rfl) rfl (fun z139x8x2 e139x8x2 => ?_)
                  have i139x8x2 := lc_in e139x8x2
                  refine g_if_lt 6 17 (gd rfl) rfl rfl (fun c139x8x3 => ?_) (fun c139x8x3 => ?_)
                  · skip
                    have i139x8x3 := z_lt (-1) (-1) c139x8x3 i139x8x2 rfl
                    have c139x8x3a := lc_lt e139x8x2 c139x8x3
                    have i139x8x3a := lr_lt1 (-2147483648) (-1000001) c139x8x3a i139x1 (l_c (-1000000) rfl) rfl
                    have i139x8x3b := l_b e139x1 i139x8x3a
                    refine g_iconst 0 18 (gd rfl) rfl rfl ?_
                    refine g_ireturn (gd rfl) rfl (nb01 (in_w 0 1 (in_c 0 rfl) rfl)) (hp139x8 _ _ ?_)
                    show GG _ _ _ _ _ _ _ _ [.int (Int32.ofInt 0)] _ _ _
                    refine g_ireturn (gd rfl) rfl (nb01 (in_w 0 1 (in_c 0 rfl) rfl)) (hp139 _ _ ?_)
                    show GG _ _ _ _ _ _ _ _ [.int (Int32.ofInt 0)] _ _ _
                    refine g_if_eq 145 168 (gd rfl) rfl rfl (fun c142 => ?_) (fun c142 => ?_)
                    · skip
                      have n168 : s = s := by rfl
                      have n168a : ¬ DON s (x1).toInt (x2).toNatClampNeg := by intro h; have h9 := h.2.1 (by have a0 := oa5 h2 i18 i91 i125x10b i106x10b; have a5 := tx_i2l e139x1; have a6 := oa2 i139x8x3b i137; have a8 := t_add e137 h2 (in_c 2 rfl) rfl; have a9 := in_u ((in_c 2 rfl)); have a10 := tx_i2l e124; have a11 := in_u i125x10d; have a12 := t_sub e123 i103 (in_c 1 rfl) rfl; have a13 := oa2 ((in_c 1 rfl)) i103; have a15 := tx_i2l e114; have a16 := tx_i2l e105; have a17 := in_u i106x10d; have a18 := t_sub e104 i103 (in_c 1 rfl) rfl; have a19 := tx_i2l e95; have a20 := in_u i13; have a21 := t_add e13 h2 (in_c 1 rfl) rfl; have oc := oc_305_109; omega); unfold nq at h9; have p9 : z81.toNatClampNeg = fpl (thg s 320) := p81; have hz81 : z81.toNatClampNeg = z81.toInt.toNat := rfl; rw [← p9, ← e5, show s.1 128 (x2.toNatClampNeg + 1) = z14 from (by rw [show x2.toNatClampNeg + 1 = z13.toNatClampNeg from (by show x2.toInt.toNat + 1 = z13.toInt.toNat; have a0 := oa5 h2 i18 i91 i125x10b i106x10b; have a5 := tx_i2l e139x1; have a6 := oa2 i139x8x3b i137; have a8 := t_add e137 h2 (in_c 2 rfl) rfl; have a9 := in_u ((in_c 2 rfl)); have a10 := tx_i2l e124; have a11 := in_u i125x10d; have a12 := t_sub e123 i103 (in_c 1 rfl) rfl; have a13 := oa2 ((in_c 1 rfl)) i103; have a15 := tx_i2l e114; have a16 := tx_i2l e105; have a17 := in_u i106x10d; have a18 := t_sub e104 i103 (in_c 1 rfl) rfl; have a19 := tx_i2l e95; have a20 := in_u i13; have a21 := t_add e13 h2 (in_c 1 rfl) rfl; have oc := oc_305_109; omega)]; exact e14.symm), show s.1 110 2 = z102 from e102.symm, show s.1 128 (x2.toNatClampNeg + 2) = z138 from (by rw [show x2.toNatClampNeg + 2 = z137.toNatClampNeg from (by show x2.toInt.toNat + 2 = z137.toInt.toNat; have a0 := oa5 h2 i18 i91 i125x10b i106x10b; have a5 := tx_i2l e139x1; have a6 := oa2 i139x8x3b i137; have a8 := t_add e137 h2 (in_c 2 rfl) rfl; have a9 := in_u ((in_c 2 rfl)); have a10 := tx_i2l e124; have a11 := in_u i125x10d; have a12 := t_sub e123 i103 (in_c 1 rfl) rfl; have a13 := oa2 ((in_c 1 rfl)) i103; have a15 := tx_i2l e114; have a16 := tx_i2l e105; have a17 := in_u i106x10d; have a18 := t_sub e104 i103 (in_c 1 rfl) rfl; have a19 := tx_i2l e95; have a20 := in_u i13; have a21 := t_add e13 h2 (in_c 1 rfl) rfl; have oc := oc_305_109; omega)]; exact e138.symm)] at h9; have a0 := oa5 h2 i18 i91 i125x10b i106x10b; have a5 := tx_i2l e139x1; have a6 := oa2 i139x8x3b i137; have a8 := t_add e137 h2 (in_c 2 rfl) rfl; have a9 := in_u ((in_c 2 rfl)); have a10 := tx_i2l e124; have a11 := in_u i125x10d; have a12 := t_sub e123 i103 (in_c 1 rfl) rfl; have a13 := oa2 ((in_c 1 rfl)) i103; have a15 := tx_i2l e114; have a16 := tx_i2l e105; have a17 := in_u i106x10d; have a18 := t_sub e104 i103 (in_c 1 rfl) rfl; have a19 := tx_i2l e95; have a20 := in_u i13; have a21 := t_add e13 h2 (in_c 1 rfl) rfl; have oc := oc_305_109; omega
                      exact gg_w (by first | exact Nat.le_of_ble_eq_true rfl | omega) (gg_f (gf_cons rfl (gf_cons rfl (gf_cons rfl (gf_cons rfl (gf_cons rfl (gf_cons rfl gf_nil)))))) (ct168 s z5 z14 z81 hI fr_rf (in_w 97 97 i18 rfl) (in_w 0 160 i91 rfl) n168 n168a))
                    · skip
                      exact zn_ne c142 (in_c 0 rfl) rfl
                  · skip
                    have i139x8x3 := z_ge 0 1 c139x8x3 i139x8x2 rfl
                    have c139x8x3a := lc_ge e139x8x2 c139x8x3
                    have i139x8x3a := lr_le2 (-1000000) 2147483647 c139x8x3a (l_c (-1000000) rfl) i139x1 rfl
                    have i139x8x3b := l_b e139x1 i139x8x3a
                    refine g_lload_n 7 (gd rfl) rfl rfl ?_
                    refine g_lload 9 (gd rfl) rfl rfl ?_
                    refine g_lcmp 10 (gd rfl) rfl (fun z139x8x9 e139x8x9 => ?_)
                    have i139x8x9 := lc_in e139x8x9
                    refine g_if_gt 13 17 (gd rfl) rfl rfl (fun c139x8x10 => ?_) (fun c139x8x10 => ?_)
                    · skip
                      have i139x8x10 := z_gt 1 1 c139x8x10 i139x8x9 rfl
                      have c139x8x10a := lc_gt e139x8x9 c139x8x10
                      have i139x8x10a := lr_lt2 1000001 2147483647 c139x8x10a (l_c 1000000 rfl) i139x8x3a rfl
                      have i139x8x10b := l_b e139x1 i139x8x10a
                      refine g_iconst 0 18 (gd rfl) rfl rfl ?_
                      refine g_ireturn (gd rfl) rfl (nb01 (in_w 0 1 (in_c 0 rfl) rfl)) (hp139x8 _ _ ?_)
                      show GG _ _ _ _ _ _ _ _ [.int (Int32.ofInt 0)] _ _ _
                      refine g_ireturn (gd rfl) rfl (nb01 (in_w 0 1 (in_c 0 rfl) rfl)) (hp139 _ _ ?_)
                      show GG _ _ _ _ _ _ _ _ [.int (Int32.ofInt 0)] _ _ _
                      refine g_if_eq 145 168 (gd rfl) rfl rfl (fun c142 => ?_) (fun c142 => ?_)
                      · skip
                        have n168 : s = s := by rfl
                        have n168a : ¬ DON s (x1).toInt (x2).toNatClampNeg := by intro h; have h9 := h.2.1 (by have a0 := oa5 h2 i18 i91 i125x10b i106x10b; have a5 := tx_i2l e139x1; have a6 := oa2 i139x8x10b i137; have a8 := t_add e137 h2 (in_c 2 rfl) rfl; have a9 := in_u ((in_c 2 rfl)); have a10 := tx_i2l e124; have a11 := in_u i125x10d; have a12 := t_sub e123 i103 (in_c 1 rfl) rfl; have a13 := oa2 ((in_c 1 rfl)) i103; have a15 := tx_i2l e114; have a16 := tx_i2l e105; have a17 := in_u i106x10d; have a18 := t_sub e104 i103 (in_c 1 rfl) rfl; have a19 := tx_i2l e95; have a20 := in_u i13; have a21 := t_add e13 h2 (in_c 1 rfl) rfl; have oc := oc_305_109; omega); unfold nq at h9; have p9 : z81.toNatClampNeg = fpl (thg s 320) := p81; have hz81 : z81.toNatClampNeg = z81.toInt.toNat := rfl; rw [← p9, ← e5, show s.1 128 (x2.toNatClampNeg + 1) = z14 from (by rw [show x2.toNatClampNeg + 1 = z13.toNatClampNeg from (by show x2.toInt.toNat + 1 = z13.toInt.toNat; have a0 := oa5 h2 i18 i91 i125x10b i106x10b; have a5 := tx_i2l e139x1; have a6 := oa2 i139x8x10b i137; have a8 := t_add e137 h2 (in_c 2 rfl) rfl; have a9 := in_u ((in_c 2 rfl)); have a10 := tx_i2l e124; have a11 := in_u i125x10d; have a12 := t_sub e123 i103 (in_c 1 rfl) rfl; have a13 := oa2 ((in_c 1 rfl)) i103; have a15 := tx_i2l e114; have a16 := tx_i2l e105; have a17 := in_u i106x10d; have a18 := t_sub e104 i103 (in_c 1 rfl) rfl; have a19 := tx_i2l e95; have a20 := in_u i13; have a21 := t_add e13 h2 (in_c 1 rfl) rfl; have oc := oc_305_109; omega)]; exact e14.symm), show s.1 110 2 = z102 from e102.symm, show s.1 128 (x2.toNatClampNeg + 2) = z138 from (by rw [show x2.toNatClampNeg + 2 = z137.toNatClampNeg from (by show x2.toInt.toNat + 2 = z137.toInt.toNat; have a0 := oa5 h2 i18 i91 i125x10b i106x10b; have a5 := tx_i2l e139x1; have a6 := oa2 i139x8x10b i137; have a8 := t_add e137 h2 (in_c 2 rfl) rfl; have a9 := in_u ((in_c 2 rfl)); have a10 := tx_i2l e124; have a11 := in_u i125x10d; have a12 := t_sub e123 i103 (in_c 1 rfl) rfl; have a13 := oa2 ((in_c 1 rfl)) i103; have a15 := tx_i2l e114; have a16 := tx_i2l e105; have a17 := in_u i106x10d; have a18 := t_sub e104 i103 (in_c 1 rfl) rfl; have a19 := tx_i2l e95; have a20 := in_u i13; have a21 := t_add e13 h2 (in_c 1 rfl) rfl; have oc := oc_305_109; omega)]; exact e138.symm)] at h9; have a0 := oa5 h2 i18 i91 i125x10b i106x10b; have a5 := tx_i2l e139x1; have a6 := oa2 i139x8x10b i137; have a8 := t_add e137 h2 (in_c 2 rfl) rfl; have a9 := in_u ((in_c 2 rfl)); have a10 := tx_i2l e124; have a11 := in_u i125x10d; have a12 := t_sub e123 i103 (in_c 1 rfl) rfl; have a13 := oa2 ((in_c 1 rfl)) i103; have a15 := tx_i2l e114; have a16 := tx_i2l e105; have a17 := in_u i106x10d; have a18 := t_sub e104 i103 (in_c 1 rfl) rfl; have a19 := tx_i2l e95; have a20 := in_u i13; have a21 := t_add e13 h2 (in_c 1 rfl) rfl; have oc := oc_305_109; omega
                        exact gg_w (by first | exact Nat.le_of_ble_eq_true rfl | omega) (gg_f (gf_cons rfl (gf_cons rfl (gf_cons rfl (gf_cons rfl (gf_cons rfl (gf_cons rfl gf_nil)))))) (ct168 s z5 z14 z81 hI fr_rf (in_w 97 97 i18 rfl) (in_w 0 160 i91 rfl) n168 n168a))
                      · skip
                        exact zn_ne c142 (in_c 0 rfl) rfl
                    · skip
                      have i139x8x10 := z_le (-1) 0 c139x8x10 i139x8x9 rfl
                      have c139x8x10a := lc_le e139x8x9 c139x8x10
                      have i139x8x10a := lr_le1 (-1000000) 1000000 c139x8x10a i139x8x3a (l_c 1000000 rfl) rfl
                      have i139x8x10b := l_b e139x1 i139x8x10a
                      refine g_iconst 1 14 (gd rfl) rfl rfl ?_
                      refine g_goto 18 (gd rfl) rfl ?_
                      refine g_ireturn (gd rfl) rfl (nb01 (in_w 0 1 (in_c 1 rfl) rfl)) (hp139x8 _ _ ?_)
                      show GG _ _ _ _ _ _ _ _ [.int (Int32.ofInt 1)] _ _ _
                      refine g_ireturn (gd rfl) rfl (nb01 (in_w 0 1 (in_c 1 rfl) rfl)) (hp139 _ _ ?_)
                      show GG _ _ _ _ _ _ _ _ [.int (Int32.ofInt 1)] _ _ _
                      refine g_if_eq 145 168 (gd rfl) rfl rfl (fun c142 => ?_) (fun c142 => ?_)
                      · skip
                        exact zn_eq c142 (in_c 1 rfl) rfl
                      · skip
                        refine g_aload_n 146 (gd rfl) rfl rfl ?_
                        refine g_getA (q2 := 128) 149 (gd rfl) rfl rfl rfl rfl ?_
                        refine g_iload_n 150 (gd rfl) rfl rfl ?_
                        refine g_iconst 3 151 (gd rfl) rfl rfl ?_
                        refine g_iadd 152 (gd rfl) rfl (fun z151 e151 => ?_)
                        have i151 := in_add 3 2498 e151 h2 (in_c 3 rfl) rfl rfl
                        refine g_iaload 153 (gd rfl) rfl (n := 2500) rfl (in_ix i151 rfl) (fun z152 e152 => ?_)
                        refine g_i2l 154 (gd rfl) rfl (fun z153 e153 => ?_)
                        have i153 := l_i e153 (i_rng z152)
                        refine g_lconst 0 155 (gd rfl) rfl rfl ?_
                        refine g_ldc2_w 1000000 158 (gd rfl) rfl rfl ?_
                        refine g_calls (As := [.long z153, .long (Int64.ofInt 0), .long (Int64.ofInt 1000000)]) (r := []) 161 (gd rfl) rfl rfl rfl rfl rfl (Nat.le_of_ble_eq_true rfl) (mc := 0) (ms := 0) (Nat.zero_le _) (Nat.zero_le _) (P := fun v u => _) ?_ (fun v u h => h)
                        intro po158 xx158 hp158 hx158
                        refine g_enter2 (k := 269) (N := 300) (by first | exact dq1 hd rfl | exact dq0 hd rfl | exact dq2 hd rfl | exact dq3 hd rfl | omega) rfl (Nat.le_of_ble_eq_true rfl) ?_
                        refine g_lload_n 1 (gd rfl) rfl rfl ?_
                        refine g_lload_n 2 (gd rfl) rfl rfl ?_
                        refine g_lcmp 3 (gd rfl) rfl (fun z158x2 e158x2 => ?_)
                        have i158x2 := lc_in e158x2
                        refine g_if_lt 6 17 (gd rfl) rfl rfl (fun c158x3 => ?_) (fun c158x3 => ?_)
                        · skip
                          have i158x3 := z_lt (-1) (-1) c158x3 i158x2 rfl
                          have c158x3a := lc_lt e158x2 c158x3
                          have i158x3a := lr_lt1 (-2147483648) (-1) c158x3a i153 (l_c 0 rfl) rfl
                          have i158x3b := l_b e153 i158x3a
                          refine g_iconst 0 18 (gd rfl) rfl rfl ?_
                          refine g_ireturn (gd rfl) rfl (nb01 (in_w 0 1 (in_c 0 rfl) rfl)) (hp158 _ _ ?_)
                          show GG _ _ _ _ _ _ _ _ [.int (Int32.ofInt 0)] _ _ _
                          refine g_if_eq 164 168 (gd rfl) rfl rfl (fun c161 => ?_) (fun c161 => ?_)
                          · skip
                            have n168 : s = s := by rfl
                            have n168a : ¬ DON s (x1).toInt (x2).toNatClampNeg := by intro h; have h9 := h.2.1 (by have a0 := oa5 h2 i18 i91 i125x10b i106x10b; have a5 := tx_i2l e153; have a6 := oa2 i158x3b i151; have a8 := t_add e151 h2 (in_c 3 rfl) rfl; have a9 := in_u ((in_c 3 rfl)); have a10 := tx_i2l e139x1; have a11 := oa2 i139x8x10b i137; have a13 := t_add e137 h2 (in_c 2 rfl) rfl; have a14 := in_u ((in_c 2 rfl)); have a15 := tx_i2l e124; have a16 := in_u i125x10d; have a17 := t_sub e123 i103 (in_c 1 rfl) rfl; have a18 := oa2 ((in_c 1 rfl)) i103; have a20 := tx_i2l e114; have a21 := tx_i2l e105; have a22 := in_u i106x10d; have a23 := t_sub e104 i103 (in_c 1 rfl) rfl; have a24 := tx_i2l e95; have a25 := in_u i13; have a26 := t_add e13 h2 (in_c 1 rfl) rfl; have oc := oc_305_109; omega); unfold nq at h9; have p9 : z81.toNatClampNeg = fpl (thg s 320) := p81; have hz81 : z81.toNatClampNeg = z81.toInt.toNat := rfl; rw [← p9, ← e5, show s.1 128 (x2.toNatClampNeg + 1) = z14 from (by rw [show x2.toNatClampNeg + 1 = z13.toNatClampNeg from (by show x2.toInt.toNat + 1 = z13.toInt.toNat; have a0 := oa5 h2 i18 i91 i125x10b i106x10b; have a5 := tx_i2l e153; have a6 := oa2 i158x3b i151; have a8 := t_add e151 h2 (in_c 3 rfl) rfl; have a9 := in_u ((in_c 3 rfl)); have a10 := tx_i2l e139x1; have a11 := oa2 i139x8x10b i137; have a13 := t_add e137 h2 (in_c 2 rfl) rfl; have a14 := in_u ((in_c 2 rfl)); have a15 := tx_i2l e124; have a16 := in_u i125x10d; have a17 := t_sub e123 i103 (in_c 1 rfl) rfl; have a18 := oa2 ((in_c 1 rfl)) i103; have a20 := tx_i2l e114; have a21 := tx_i2l e105; have a22 := in_u i106x10d; have a23 := t_sub e104 i103 (in_c 1 rfl) rfl; have a24 := tx_i2l e95; have a25 := in_u i13; have a26 := t_add e13 h2 (in_c 1 rfl) rfl; have oc := oc_305_109; omega)]; exact e14.symm), show s.1 110 2 = z102 from e102.symm, show s.1 128 (x2.toNatClampNeg + 2) = z138 from (by rw [show x2.toNatClampNeg + 2 = z137.toNatClampNeg from (by show x2.toInt.toNat + 2 = z137.toInt.toNat; have a0 := oa5 h2 i18 i91 i125x10b i106x10b; have a5 := tx_i2l e153; have a6 := oa2 i158x3b i151; have a8 := t_add e151 h2 (in_c 3 rfl) rfl; have a9 := in_u ((in_c 3 rfl)); have a10 := tx_i2l e139x1; have a11 := oa2 i139x8x10b i137; have a13 := t_add e137 h2 (in_c 2 rfl) rfl; have a14 := in_u ((in_c 2 rfl)); have a15 := tx_i2l e124; have a16 := in_u i125x10d; have a17 := t_sub e123 i103 (in_c 1 rfl) rfl; have a18 := oa2 ((in_c 1 rfl)) i103; have a20 := tx_i2l e114; have a21 := tx_i2l e105; have a22 := in_u i106x10d; have a23 := t_sub e104 i103 (in_c 1 rfl) rfl; have a24 := tx_i2l e95; have a25 := in_u i13; have a26 := t_add e13 h2 (in_c 1 rfl) rfl; have oc := oc_305_109; omega)]; exact e138.symm), show s.1 128 (x2.toNatClampNeg + 3) = z152 from (by rw [show x2.toNatClampNeg + 3 = z151.toNatClampNeg from (by show x2.toInt.toNat + 3 = z151.toInt.toNat; have a0 := oa5 h2 i18 i91 i125x10b i106x10b; have a5 := tx_i2l e153; have a6 := oa2 i158x3b i151; have a8 := t_add e151 h2 (in_c 3 rfl) rfl; have a9 := in_u ((in_c 3 rfl)); have a10 := tx_i2l e139x1; have a11 := oa2 i139x8x10b i137; have a13 := t_add e137 h2 (in_c 2 rfl) rfl; have a14 := in_u ((in_c 2 rfl)); have a15 := tx_i2l e124; have a16 := in_u i125x10d; have a17 := t_sub e123 i103 (in_c 1 rfl) rfl; have a18 := oa2 ((in_c 1 rfl)) i103; have a20 := tx_i2l e114; have a21 := tx_i2l e105; have a22 := in_u i106x10d; have a23 := t_sub e104 i103 (in_c 1 rfl) rfl; have a24 := tx_i2l e95; have a25 := in_u i13; have a26 := t_add e13 h2 (in_c 1 rfl) rfl; have oc := oc_305_109; omega)]; exact e152.symm)] at h9; have a0 := oa5 h2 i18 i91 i125x10b i106x10b; have a5 := tx_i2l e153; have a6 := oa2 i158x3b i151; have a8 := t_add e151 h2 (in_c 3 rfl) rfl; have a9 := in_u ((in_c 3 rfl)); have a10 := tx_i2l e139x1; have a11 := oa2 i139x8x10b i137; have a13 := t_add e137 h2 (in_c 2 rfl) rfl; have a14 := in_u ((in_c 2 rfl)); have a15 := tx_i2l e124; have a16 := in_u i125x10d; have a17 := t_sub e123 i103 (in_c 1 rfl) rfl; have a18 := oa2 ((in_c 1 rfl)) i103; have a20 := tx_i2l e114; have a21 := tx_i2l e105; have a22 := in_u i106x10d; have a23 := t_sub e104 i103 (in_c 1 rfl) rfl; have a24 := tx_i2l e95; have a25 := in_u i13; have a26 := t_add e13 h2 (in_c 1 rfl) rfl; have oc := oc_305_109; omega
                            exact gg_w (by first | exact Nat.le_of_ble_eq_true rfl | omega) (gg_f (gf_cons rfl (gf_cons rfl (gf_cons rfl (gf_cons rfl (gf_cons rfl (gf_cons rfl gf_nil)))))) (ct168 s z5 z14 z81 hI fr_rf (in_w 97 97 i18 rfl) (in_w 0 160 i91 rfl) n168 n168a))
                          · skip
                            exact zn_ne c161 (in_c 0 rfl) rfl
                        · skip
                          have i158x3 := z_ge 0 1 c158x3 i158x2 rfl
                          have c158x3a := lc_ge e158x2 c158x3
                          have i158x3a := lr_le2 0 2147483647 c158x3a (l_c 0 rfl) i153 rfl
                          have i158x3b := l_b e153 i158x3a
                          refine g_lload_n 7 (gd rfl) rfl rfl ?_
                          refine g_lload 9 (gd rfl) rfl rfl ?_
                          refine g_lcmp 10 (gd rfl) rfl (fun z158x9 e158x9 => ?_)
                          have i158x9 := lc_in e158x9
                          refine g_if_gt 13 17 (gd rfl) rfl rfl (fun c158x10 => ?_) (fun c158x10 => ?_)
                          · skip
                            have i158x10 := z_gt 1 1 c158x10 i158x9 rfl
                            have c158x10a := lc_gt e158x9 c158x10
                            have i158x10a := lr_lt2 1000001 2147483647 c158x10a (l_c 1000000 rfl) i158x3a rfl
                            have i158x10b := l_b e153 i158x10a
                            refine g_iconst 0 18 (gd rfl) rfl rfl ?_
                            refine g_ireturn (gd rfl) rfl (nb01 (in_w 0 1 (in_c 0 rfl) rfl)) (hp158 _ _ ?_)
                            show GG _ _ _ _ _ _ _ _ [.int (Int32.ofInt 0)] _ _ _
                            refine g_if_eq 164 168 (gd rfl) rfl rfl (fun c161 => ?_) (fun c161 => ?_)
                            · skip
                              have n168 : s = s := by rfl
                              have n168a : ¬ DON s (x1).toInt (x2).toNatClampNeg := by intro h; have h9 := h.2.1 (by have a0 := oa5 h2 i18 i91 i125x10b i106x10b; have a5 := tx_i2l e153; have a6 := oa2 i158x10b i151; have a8 := t_add e151 h2 (in_c 3 rfl) rfl; have a9 := in_u ((in_c 3 rfl)); have a10 := tx_i2l e139x1; have a11 := oa2 i139x8x10b i137; have a13 := t_add e137 h2 (in_c 2 rfl) rfl; have a14 := in_u ((in_c 2 rfl)); have a15 := tx_i2l e124; have a16 := in_u i125x10d; have a17 := t_sub e123 i103 (in_c 1 rfl) rfl; have a18 := oa2 ((in_c 1 rfl)) i103; have a20 := tx_i2l e114; have a21 := tx_i2l e105; have a22 := in_u i106x10d; have a23 := t_sub e104 i103 (in_c 1 rfl) rfl; have a24 := tx_i2l e95; have a25 := in_u i13; have a26 := t_add e13 h2 (in_c 1 rfl) rfl; have oc := oc_305_109; omega); unfold nq at h9; have p9 : z81.toNatClampNeg = fpl (thg s 320) := p81; have hz81 : z81.toNatClampNeg = z81.toInt.toNat := rfl; rw [← p9, ← e5, show s.1 128 (x2.toNatClampNeg + 1) = z14 from (by rw [show x2.toNatClampNeg + 1 = z13.toNatClampNeg from (by show x2.toInt.toNat + 1 = z13.toInt.toNat; have a0 := oa5 h2 i18 i91 i125x10b i106x10b; have a5 := tx_i2l e153; have a6 := oa2 i158x10b i151; have a8 := t_add e151 h2 (in_c 3 rfl) rfl; have a9 := in_u ((in_c 3 rfl)); have a10 := tx_i2l e139x1; have a11 := oa2 i139x8x10b i137; have a13 := t_add e137 h2 (in_c 2 rfl) rfl; have a14 := in_u ((in_c 2 rfl)); have a15 := tx_i2l e124; have a16 := in_u i125x10d; have a17 := t_sub e123 i103 (in_c 1 rfl) rfl; have a18 := oa2 ((in_c 1 rfl)) i103; have a20 := tx_i2l e114; have a21 := tx_i2l e105; have a22 := in_u i106x10d; have a23 := t_sub e104 i103 (in_c 1 rfl) rfl; have a24 := tx_i2l e95; have a25 := in_u i13; have a26 := t_add e13 h2 (in_c 1 rfl) rfl; have oc := oc_305_109; omega)]; exact e14.symm), show s.1 110 2 = z102 from e102.symm, show s.1 128 (x2.toNatClampNeg + 2) = z138 from (by rw [show x2.toNatClampNeg + 2 = z137.toNatClampNeg from (by show x2.toInt.toNat + 2 = z137.toInt.toNat; have a0 := oa5 h2 i18 i91 i125x10b i106x10b; have a5 := tx_i2l e153; have a6 := oa2 i158x10b i151; have a8 := t_add e151 h2 (in_c 3 rfl) rfl; have a9 := in_u ((in_c 3 rfl)); have a10 := tx_i2l e139x1; have a11 := oa2 i139x8x10b i137; have a13 := t_add e137 h2 (in_c 2 rfl) rfl; have a14 := in_u ((in_c 2 rfl)); have a15 := tx_i2l e124; have a16 := in_u i125x10d; have a17 := t_sub e123 i103 (in_c 1 rfl) rfl; have a18 := oa2 ((in_c 1 rfl)) i103; have a20 := tx_i2l e114; have a21 := tx_i2l e105; have a22 := in_u i106x10d; have a23 := t_sub e104 i103 (in_c 1 rfl) rfl; have a24 := tx_i2l e95; have a25 := in_u i13; have a26 := t_add e13 h2 (in_c 1 rfl) rfl; have oc := oc_305_109; omega)]; exact e138.symm), show s.1 128 (x2.toNatClampNeg + 3) = z152 from (by rw [show x2.toNatClampNeg + 3 = z151.toNatClampNeg from (by show x2.toInt.toNat + 3 = z151.toInt.toNat; have a0 := oa5 h2 i18 i91 i125x10b i106x10b; have a5 := tx_i2l e153; have a6 := oa2 i158x10b i151; have a8 := t_add e151 h2 (in_c 3 rfl) rfl; have a9 := in_u ((in_c 3 rfl)); have a10 := tx_i2l e139x1; have a11 := oa2 i139x8x10b i137; have a13 := t_add e137 h2 (in_c 2 rfl) rfl; have a14 := in_u ((in_c 2 rfl)); have a15 := tx_i2l e124; have a16 := in_u i125x10d; have a17 := t_sub e123 i103 (in_c 1 rfl) rfl; have a18 := oa2 ((in_c 1 rfl)) i103; have a20 := tx_i2l e114; have a21 := tx_i2l e105; have a22 := in_u i106x10d; have a23 := t_sub e104 i103 (in_c 1 rfl) rfl; have a24 := tx_i2l e95; have a25 := in_u i13; have a26 := t_add e13 h2 (in_c 1 rfl) rfl; have oc := oc_305_109; omega)]; exact e152.symm)] at h9; have a0 := oa5 h2 i18 i91 i125x10b i106x10b; have a5 := tx_i2l e153; have a6 := oa2 i158x10b i151; have a8 := t_add e151 h2 (in_c 3 rfl) rfl; have a9 := in_u ((in_c 3 rfl)); have a10 := tx_i2l e139x1; have a11 := oa2 i139x8x10b i137; have a13 := t_add e137 h2 (in_c 2 rfl) rfl; have a14 := in_u ((in_c 2 rfl)); have a15 := tx_i2l e124; have a16 := in_u i125x10d; have a17 := t_sub e123 i103 (in_c 1 rfl) rfl; have a18 := oa2 ((in_c 1 rfl)) i103; have a20 := tx_i2l e114; have a21 := tx_i2l e105; have a22 := in_u i106x10d; have a23 := t_sub e104 i103 (in_c 1 rfl) rfl; have a24 := tx_i2l e95; have a25 := in_u i13; have a26 := t_add e13 h2 (in_c 1 rfl) rfl; have oc := oc_305_109; omega
                              exact gg_w (by first | exact Nat.le_of_ble_eq_true rfl | omega) (gg_f (gf_cons rfl (gf_cons rfl (gf_cons rfl (gf_cons rfl (gf_cons rfl (gf_cons rfl gf_nil)))))) (ct168 s z5 z14 z81 hI fr_rf (in_w 97 97 i18 rfl) (in_w 0 160 i91 rfl) n168 n168a))
                            · skip
                              exact zn_ne c161 (in_c 0 rfl) rfl
                          · skip
                            have i158x10 := z_le (-1) 0 c158x10 i158x9 rfl
                            have c158x10a := lc_le e158x9 c158x10
                            have i158x10a := lr_le1 0 1000000 c158x10a i158x3a (l_c 1000000 rfl) rfl
                            have i158x10b := l_b e153 i158x10a
                            refine g_iconst 1 14 (gd rfl) rfl rfl ?_
                            refine g_goto 18 (gd rfl) rfl ?_
                            refine g_ireturn (gd rfl) rfl (nb01 (in_w 0 1 (in_c 1 rfl) rfl)) (hp158 _ _ ?_)
                            show GG _ _ _ _ _ _ _ _ [.int (Int32.ofInt 1)] _ _ _
                            refine g_if_eq 164 168 (gd rfl) rfl rfl (fun c161 => ?_) (fun c161 => ?_)
                            · skip
                              exact zn_eq c161 (in_c 1 rfl) rfl
                            · skip
                              refine g_iconst 1 165 (gd rfl) rfl rfl ?_
                              refine g_goto 169 (gd rfl) rfl ?_
                              refine g_istore 171 (gd rfl) rfl (Nat.le_of_ble_eq_true rfl) ?_
                              refine g_iload 173 (gd rfl) rfl rfl ?_
                              refine g_if_eq 176 188 (gd rfl) rfl rfl (fun c173 => ?_) (fun c173 => ?_)
                              · skip
                                exact zn_eq c173 (in_c 1 rfl) rfl
                              · skip
                                refine g_aload_n 177 (gd rfl) rfl rfl ?_
                                refine g_getA (q2 := 112) 180 (gd rfl) rfl rfl rfl rfl ?_
                                refine g_sipush 320 183 (gd rfl) rfl rfl ?_
                                refine g_iload 185 (gd rfl) rfl rfl ?_
                                refine g_iadd 186 (gd rfl) rfl (fun z185 e185 => ?_)
                                have i185 := in_add 320 479 e185 (in_c 320 rfl) i91 rfl rfl
                                refine g_iconst 1 187 (gd rfl) rfl rfl ?_
                                refine g_bastore 188 (gd rfl) rfl (n := 480) rfl (in_ix i185 rfl) ?_
                                have hI187 : Inv (sI s 112 z185.toNatClampNeg (vp_nar .boolean (Int32.ofInt 1))) := by exact inv_t3 hI (by show 320 ≤ (z185).toInt.toNat; have a0 := oa7 h2 i18 ((in_c 1 rfl)) i91 i125x10b i106x10b i185; have a7 := t_add e185 (in_c 320 rfl) i91 rfl; have a8 := in_u ((in_c 320 rfl)); have a9 := tx_i2l e153; have a10 := oa2 i158x10b i151; have a12 := t_add e151 h2 (in_c 3 rfl) rfl; have a13 := in_u ((in_c 3 rfl)); have a14 := tx_i2l e139x1; have a15 := oa2 i139x8x10b i137; have a17 := t_add e137 h2 (in_c 2 rfl) rfl; have a18 := in_u ((in_c 2 rfl)); have a19 := tx_i2l e124; have a20 := in_u i125x10d; have a21 := t_sub e123 i103 (in_c 1 rfl) rfl; have a22 := in_u i103; have a23 := tx_i2l e114; have a24 := tx_i2l e105; have a25 := in_u i106x10d; have a26 := t_sub e104 i103 (in_c 1 rfl) rfl; have a27 := tx_i2l e95; have a28 := in_u i13; have a29 := t_add e13 h2 (in_c 1 rfl) rfl; have oc := oc_305_109; omega) (in_w 0 1 (nar01 (in_w 0 1 (in_c 1 rfl) rfl)) rfl)
                                have n188 : DNE s (sI s 112 z185.toNatClampNeg (vp_nar .boolean (Int32.ofInt 1))) (x1).toInt (x2).toNatClampNeg ((Int32.ofInt 1)).toInt := by exact dne_a (p := z81.toNatClampNeg) (by have a0 := oa7 h2 i18 ((in_c 1 rfl)) i91 i125x10b i106x10b i185; have a7 := t_add e185 (in_c 320 rfl) i91 rfl; have a8 := in_u ((in_c 320 rfl)); have a9 := tx_i2l e153; have a10 := oa2 i158x10b i151; have a12 := t_add e151 h2 (in_c 3 rfl) rfl; have a13 := in_u ((in_c 3 rfl)); have a14 := tx_i2l e139x1; have a15 := oa2 i139x8x10b i137; have a17 := t_add e137 h2 (in_c 2 rfl) rfl; have a18 := in_u ((in_c 2 rfl)); have a19 := tx_i2l e124; have a20 := in_u i125x10d; have a21 := t_sub e123 i103 (in_c 1 rfl) rfl; have a22 := in_u i103; have a23 := tx_i2l e114; have a24 := tx_i2l e105; have a25 := in_u i106x10d; have a26 := t_sub e104 i103 (in_c 1 rfl) rfl; have a27 := tx_i2l e95; have a28 := in_u i13; have a29 := t_add e13 h2 (in_c 1 rfl) rfl; have oc := oc_305_109; omega) p81 (by show z81.toInt.toNat < 160; have a0 := oa7 h2 i18 ((in_c 1 rfl)) i91 i125x10b i106x10b i185; have a7 := t_add e185 (in_c 320 rfl) i91 rfl; have a8 := in_u ((in_c 320 rfl)); have a9 := tx_i2l e153; have a10 := oa2 i158x10b i151; have a12 := t_add e151 h2 (in_c 3 rfl) rfl; have a13 := in_u ((in_c 3 rfl)); have a14 := tx_i2l e139x1; have a15 := oa2 i139x8x10b i137; have a17 := t_add e137 h2 (in_c 2 rfl) rfl; have a18 := in_u ((in_c 2 rfl)); have a19 := tx_i2l e124; have a20 := in_u i125x10d; have a21 := t_sub e123 i103 (in_c 1 rfl) rfl; have a22 := in_u i103; have a23 := tx_i2l e114; have a24 := tx_i2l e105; have a25 := in_u i106x10d; have a26 := t_sub e104 i103 (in_c 1 rfl) rfl; have a27 := tx_i2l e95; have a28 := in_u i13; have a29 := t_add e13 h2 (in_c 1 rfl) rfl; have oc := oc_305_109; (first | exact zt_l (by decide) (by omega) | omega)) (by show z185.toInt.toNat = 320 + z81.toInt.toNat; have a0 := oa7 h2 i18 ((in_c 1 rfl)) i91 i125x10b i106x10b i185; have a7 := t_add e185 (in_c 320 rfl) i91 rfl; have a8 := in_u ((in_c 320 rfl)); have a9 := tx_i2l e153; have a10 := oa2 i158x10b i151; have a12 := t_add e151 h2 (in_c 3 rfl) rfl; have a13 := in_u ((in_c 3 rfl)); have a14 := tx_i2l e139x1; have a15 := oa2 i139x8x10b i137; have a17 := t_add e137 h2 (in_c 2 rfl) rfl; have a18 := in_u ((in_c 2 rfl)); have a19 := tx_i2l e124; have a20 := in_u i125x10d; have a21 := t_sub e123 i103 (in_c 1 rfl) rfl; have a22 := in_u i103; have a23 := tx_i2l e114; have a24 := tx_i2l e105; have a25 := in_u i106x10d; have a26 := t_sub e104 i103 (in_c 1 rfl) rfl; have a27 := tx_i2l e95; have a28 := in_u i13; have a29 := t_add e13 h2 (in_c 1 rfl) rfl; have oc := oc_305_109; omega) ⟨by rw [← e5]; have h := i106x3b.1; omega, by rw [← e5]; have ha := c106x10a; have hb := tx_i2l e95; have hc := tx_i2l e105; have he : z102 = s.1 110 2 := e102; rw [← he]; have a0 := oa7 h2 i18 ((in_c 1 rfl)) i91 i125x10b i106x10b i185; have a7 := t_add e185 (in_c 320 rfl) i91 rfl; have a8 := in_u ((in_c 320 rfl)); have a9 := tx_i2l e153; have a10 := oa2 i158x10b i151; have a12 := t_add e151 h2 (in_c 3 rfl) rfl; have a13 := in_u ((in_c 3 rfl)); have a14 := tx_i2l e139x1; have a15 := oa2 i139x8x10b i137; have a17 := t_add e137 h2 (in_c 2 rfl) rfl; have a18 := in_u ((in_c 2 rfl)); have a19 := tx_i2l e124; have a20 := in_u i125x10d; have a21 := t_sub e123 i103 (in_c 1 rfl) rfl; have a22 := in_u i103; have a23 := tx_i2l e114; have a24 := tx_i2l e105; have a25 := in_u i106x10d; have a26 := t_sub e104 i103 (in_c 1 rfl) rfl; have a27 := tx_i2l e95; have a28 := in_u i13; have a29 := t_add e13 h2 (in_c 1 rfl) rfl; have oc := oc_305_109; omega⟩ ⟨by rw [show x2.toNatClampNeg + 1 = z13.toNatClampNeg from (by show x2.toInt.toNat + 1 = z13.toInt.toNat; have a0 := oa7 h2 i18 ((in_c 1 rfl)) i91 i125x10b i106x10b i185; have a7 := t_add e185 (in_c 320 rfl) i91 rfl; have a8 := in_u ((in_c 320 rfl)); have a9 := tx_i2l e153; have a10 := oa2 i158x10b i151; have a12 := t_add e151 h2 (in_c 3 rfl) rfl; have a13 := in_u ((in_c 3 rfl)); have a14 := tx_i2l e139x1; have a15 := oa2 i139x8x10b i137; have a17 := t_add e137 h2 (in_c 2 rfl) rfl; have a18 := in_u ((in_c 2 rfl)); have a19 := tx_i2l e124; have a20 := in_u i125x10d; have a21 := t_sub e123 i103 (in_c 1 rfl) rfl; have a22 := in_u i103; have a23 := tx_i2l e114; have a24 := tx_i2l e105; have a25 := in_u i106x10d; have a26 := t_sub e104 i103 (in_c 1 rfl) rfl; have a27 := tx_i2l e95; have a28 := in_u i13; have a29 := t_add e13 h2 (in_c 1 rfl) rfl; have oc := oc_305_109; omega), ← e14]; have h := i125x3b.1; omega, by rw [show x2.toNatClampNeg + 1 = z13.toNatClampNeg from (by show x2.toInt.toNat + 1 = z13.toInt.toNat; have a0 := oa7 h2 i18 ((in_c 1 rfl)) i91 i125x10b i106x10b i185; have a7 := t_add e185 (in_c 320 rfl) i91 rfl; have a8 := in_u ((in_c 320 rfl)); have a9 := tx_i2l e153; have a10 := oa2 i158x10b i151; have a12 := t_add e151 h2 (in_c 3 rfl) rfl; have a13 := in_u ((in_c 3 rfl)); have a14 := tx_i2l e139x1; have a15 := oa2 i139x8x10b i137; have a17 := t_add e137 h2 (in_c 2 rfl) rfl; have a18 := in_u ((in_c 2 rfl)); have a19 := tx_i2l e124; have a20 := in_u i125x10d; have a21 := t_sub e123 i103 (in_c 1 rfl) rfl; have a22 := in_u i103; have a23 := tx_i2l e114; have a24 := tx_i2l e105; have a25 := in_u i106x10d; have a26 := t_sub e104 i103 (in_c 1 rfl) rfl; have a27 := tx_i2l e95; have a28 := in_u i13; have a29 := t_add e13 h2 (in_c 1 rfl) rfl; have oc := oc_305_109; omega), ← e14]; have ha := c125x10a; have hb := tx_i2l e114; have hc := tx_i2l e124; have he : z102 = s.1 110 2 := e102; rw [← he]; have a0 := oa7 h2 i18 ((in_c 1 rfl)) i91 i125x10b i106x10b i185; have a7 := t_add e185 (in_c 320 rfl) i91 rfl; have a8 := in_u ((in_c 320 rfl)); have a9 := tx_i2l e153; have a10 := oa2 i158x10b i151; have a12 := t_add e151 h2 (in_c 3 rfl) rfl; have a13 := in_u ((in_c 3 rfl)); have a14 := tx_i2l e139x1; have a15 := oa2 i139x8x10b i137; have a17 := t_add e137 h2 (in_c 2 rfl) rfl; have a18 := in_u ((in_c 2 rfl)); have a19 := tx_i2l e124; have a20 := in_u i125x10d; have a21 := t_sub e123 i103 (in_c 1 rfl) rfl; have a22 := in_u i103; have a23 := tx_i2l e114; have a24 := tx_i2l e105; have a25 := in_u i106x10d; have a26 := t_sub e104 i103 (in_c 1 rfl) rfl; have a27 := tx_i2l e95; have a28 := in_u i13; have a29 := t_add e13 h2 (in_c 1 rfl) rfl; have oc := oc_305_109; omega⟩ (by rw [show x2.toNatClampNeg + 2 = z137.toNatClampNeg from (by show x2.toInt.toNat + 2 = z137.toInt.toNat; have a0 := oa7 h2 i18 ((in_c 1 rfl)) i91 i125x10b i106x10b i185; have a7 := t_add e185 (in_c 320 rfl) i91 rfl; have a8 := in_u ((in_c 320 rfl)); have a9 := tx_i2l e153; have a10 := oa2 i158x10b i151; have a12 := t_add e151 h2 (in_c 3 rfl) rfl; have a13 := in_u ((in_c 3 rfl)); have a14 := tx_i2l e139x1; have a15 := oa2 i139x8x10b i137; have a17 := t_add e137 h2 (in_c 2 rfl) rfl; have a18 := in_u ((in_c 2 rfl)); have a19 := tx_i2l e124; have a20 := in_u i125x10d; have a21 := t_sub e123 i103 (in_c 1 rfl) rfl; have a22 := in_u i103; have a23 := tx_i2l e114; have a24 := tx_i2l e105; have a25 := in_u i106x10d; have a26 := t_sub e104 i103 (in_c 1 rfl) rfl; have a27 := tx_i2l e95; have a28 := in_u i13; have a29 := t_add e13 h2 (in_c 1 rfl) rfl; have oc := oc_305_109; omega), ← e138]; exact i139x8x10b) (by rw [show x2.toNatClampNeg + 3 = z151.toNatClampNeg from (by show x2.toInt.toNat + 3 = z151.toInt.toNat; have a0 := oa7 h2 i18 ((in_c 1 rfl)) i91 i125x10b i106x10b i185; have a7 := t_add e185 (in_c 320 rfl) i91 rfl; have a8 := in_u ((in_c 320 rfl)); have a9 := tx_i2l e153; have a10 := oa2 i158x10b i151; have a12 := t_add e151 h2 (in_c 3 rfl) rfl; have a13 := in_u ((in_c 3 rfl)); have a14 := tx_i2l e139x1; have a15 := oa2 i139x8x10b i137; have a17 := t_add e137 h2 (in_c 2 rfl) rfl; have a18 := in_u ((in_c 2 rfl)); have a19 := tx_i2l e124; have a20 := in_u i125x10d; have a21 := t_sub e123 i103 (in_c 1 rfl) rfl; have a22 := in_u i103; have a23 := tx_i2l e114; have a24 := tx_i2l e105; have a25 := in_u i106x10d; have a26 := t_sub e104 i103 (in_c 1 rfl) rfl; have a27 := tx_i2l e95; have a28 := in_u i13; have a29 := t_add e13 h2 (in_c 1 rfl) rfl; have oc := oc_305_109; omega), ← e152]; exact i158x10b)
                                have n188a : YNQ ((Int32.ofInt 1)).toInt (DON s (x1).toInt (x2).toNatClampNeg) := by have p9 : z81.toNatClampNeg = fpl (thg s 320) := p81; have hz81 : z81.toNatClampNeg = z81.toInt.toNat := rfl; exact ⟨fun _ => don_97 (by have a0 := oa7 h2 i18 ((in_c 1 rfl)) i91 i125x10b i106x10b i185; have a7 := t_add e185 (in_c 320 rfl) i91 rfl; have a8 := in_u ((in_c 320 rfl)); have a9 := tx_i2l e153; have a10 := oa2 i158x10b i151; have a12 := t_add e151 h2 (in_c 3 rfl) rfl; have a13 := in_u ((in_c 3 rfl)); have a14 := tx_i2l e139x1; have a15 := oa2 i139x8x10b i137; have a17 := t_add e137 h2 (in_c 2 rfl) rfl; have a18 := in_u ((in_c 2 rfl)); have a19 := tx_i2l e124; have a20 := in_u i125x10d; have a21 := t_sub e123 i103 (in_c 1 rfl) rfl; have a22 := in_u i103; have a23 := tx_i2l e114; have a24 := tx_i2l e105; have a25 := in_u i106x10d; have a26 := t_sub e104 i103 (in_c 1 rfl) rfl; have a27 := tx_i2l e95; have a28 := in_u i13; have a29 := t_add e13 h2 (in_c 1 rfl) rfl; have oc := oc_305_109; omega) ⟨by rw [← p9]; have a0 := oa7 h2 i18 ((in_c 1 rfl)) i91 i125x10b i106x10b i185; have a7 := t_add e185 (in_c 320 rfl) i91 rfl; have a8 := in_u ((in_c 320 rfl)); have a9 := tx_i2l e153; have a10 := oa2 i158x10b i151; have a12 := t_add e151 h2 (in_c 3 rfl) rfl; have a13 := in_u ((in_c 3 rfl)); have a14 := tx_i2l e139x1; have a15 := oa2 i139x8x10b i137; have a17 := t_add e137 h2 (in_c 2 rfl) rfl; have a18 := in_u ((in_c 2 rfl)); have a19 := tx_i2l e124; have a20 := in_u i125x10d; have a21 := t_sub e123 i103 (in_c 1 rfl) rfl; have a22 := in_u i103; have a23 := tx_i2l e114; have a24 := tx_i2l e105; have a25 := in_u i106x10d; have a26 := t_sub e104 i103 (in_c 1 rfl) rfl; have a27 := tx_i2l e95; have a28 := in_u i13; have a29 := t_add e13 h2 (in_c 1 rfl) rfl; have oc := oc_305_109; omega, (by unfold nq; rw [← e5, show s.1 110 2 = z102 from e102.symm]; have a0 := oa7 h2 i18 ((in_c 1 rfl)) i91 i125x10b i106x10b i185; have a7 := t_add e185 (in_c 320 rfl) i91 rfl; have a8 := in_u ((in_c 320 rfl)); have a9 := tx_i2l e153; have a10 := oa2 i158x10b i151; have a12 := t_add e151 h2 (in_c 3 rfl) rfl; have a13 := in_u ((in_c 3 rfl)); have a14 := tx_i2l e139x1; have a15 := oa2 i139x8x10b i137; have a17 := t_add e137 h2 (in_c 2 rfl) rfl; have a18 := in_u ((in_c 2 rfl)); have a19 := tx_i2l e124; have a20 := in_u i125x10d; have a21 := t_sub e123 i103 (in_c 1 rfl) rfl; have a22 := in_u i103; have a23 := tx_i2l e114; have a24 := tx_i2l e105; have a25 := in_u i106x10d; have a26 := t_sub e104 i103 (in_c 1 rfl) rfl; have a27 := tx_i2l e95; have a28 := in_u i13; have a29 := t_add e13 h2 (in_c 1 rfl) rfl; have oc := oc_305_109; omega), (by unfold nq; rw [show s.1 128 (x2.toNatClampNeg + 1) = z14 from (by rw [show x2.toNatClampNeg + 1 = z13.toNatClampNeg from (by show x2.toInt.toNat + 1 = z13.toInt.toNat; have a0 := oa7 h2 i18 ((in_c 1 rfl)) i91 i125x10b i106x10b i185; have a7 := t_add e185 (in_c 320 rfl) i91 rfl; have a8 := in_u ((in_c 320 rfl)); have a9 := tx_i2l e153; have a10 := oa2 i158x10b i151; have a12 := t_add e151 h2 (in_c 3 rfl) rfl; have a13 := in_u ((in_c 3 rfl)); have a14 := tx_i2l e139x1; have a15 := oa2 i139x8x10b i137; have a17 := t_add e137 h2 (in_c 2 rfl) rfl; have a18 := in_u ((in_c 2 rfl)); have a19 := tx_i2l e124; have a20 := in_u i125x10d; have a21 := t_sub e123 i103 (in_c 1 rfl) rfl; have a22 := in_u i103; have a23 := tx_i2l e114; have a24 := tx_i2l e105; have a25 := in_u i106x10d; have a26 := t_sub e104 i103 (in_c 1 rfl) rfl; have a27 := tx_i2l e95; have a28 := in_u i13; have a29 := t_add e13 h2 (in_c 1 rfl) rfl; have oc := oc_305_109; omega)]; exact e14.symm), show s.1 110 2 = z102 from e102.symm]; have a0 := oa7 h2 i18 ((in_c 1 rfl)) i91 i125x10b i106x10b i185; have a7 := t_add e185 (in_c 320 rfl) i91 rfl; have a8 := in_u ((in_c 320 rfl)); have a9 := tx_i2l e153; have a10 := oa2 i158x10b i151; have a12 := t_add e151 h2 (in_c 3 rfl) rfl; have a13 := in_u ((in_c 3 rfl)); have a14 := tx_i2l e139x1; have a15 := oa2 i139x8x10b i137; have a17 := t_add e137 h2 (in_c 2 rfl) rfl; have a18 := in_u ((in_c 2 rfl)); have a19 := tx_i2l e124; have a20 := in_u i125x10d; have a21 := t_sub e123 i103 (in_c 1 rfl) rfl; have a22 := in_u i103; have a23 := tx_i2l e114; have a24 := tx_i2l e105; have a25 := in_u i106x10d; have a26 := t_sub e104 i103 (in_c 1 rfl) rfl; have a27 := tx_i2l e95; have a28 := in_u i13; have a29 := t_add e13 h2 (in_c 1 rfl) rfl; have oc := oc_305_109; omega), (by unfold nq; rw [show s.1 128 (x2.toNatClampNeg + 2) = z138 from (by rw [show x2.toNatClampNeg + 2 = z137.toNatClampNeg from (by show x2.toInt.toNat + 2 = z137.toInt.toNat; have a0 := oa7 h2 i18 ((in_c 1 rfl)) i91 i125x10b i106x10b i185; have a7 := t_add e185 (in_c 320 rfl) i91 rfl; have a8 := in_u ((in_c 320 rfl)); have a9 := tx_i2l e153; have a10 := oa2 i158x10b i151; have a12 := t_add e151 h2 (in_c 3 rfl) rfl; have a13 := in_u ((in_c 3 rfl)); have a14 := tx_i2l e139x1; have a15 := oa2 i139x8x10b i137; have a17 := t_add e137 h2 (in_c 2 rfl) rfl; have a18 := in_u ((in_c 2 rfl)); have a19 := tx_i2l e124; have a20 := in_u i125x10d; have a21 := t_sub e123 i103 (in_c 1 rfl) rfl; have a22 := in_u i103; have a23 := tx_i2l e114; have a24 := tx_i2l e105; have a25 := in_u i106x10d; have a26 := t_sub e104 i103 (in_c 1 rfl) rfl; have a27 := tx_i2l e95; have a28 := in_u i13; have a29 := t_add e13 h2 (in_c 1 rfl) rfl; have oc := oc_305_109; omega)]; exact e138.symm)]; have a0 := oa7 h2 i18 ((in_c 1 rfl)) i91 i125x10b i106x10b i185; have a7 := t_add e185 (in_c 320 rfl) i91 rfl; have a8 := in_u ((in_c 320 rfl)); have a9 := tx_i2l e153; have a10 := oa2 i158x10b i151; have a12 := t_add e151 h2 (in_c 3 rfl) rfl; have a13 := in_u ((in_c 3 rfl)); have a14 := tx_i2l e139x1; have a15 := oa2 i139x8x10b i137; have a17 := t_add e137 h2 (in_c 2 rfl) rfl; have a18 := in_u ((in_c 2 rfl)); have a19 := tx_i2l e124; have a20 := in_u i125x10d; have a21 := t_sub e123 i103 (in_c 1 rfl) rfl; have a22 := in_u i103; have a23 := tx_i2l e114; have a24 := tx_i2l e105; have a25 := in_u i106x10d; have a26 := t_sub e104 i103 (in_c 1 rfl) rfl; have a27 := tx_i2l e95; have a28 := in_u i13; have a29 := t_add e13 h2 (in_c 1 rfl) rfl; have oc := oc_305_109; omega), (by unfold nq; rw [show s.1 128 (x2.toNatClampNeg + 3) = z152 from (by rw [show x2.toNatClampNeg + 3 = z151.toNatClampNeg from (by show x2.toInt.toNat + 3 = z151.toInt.toNat; have a0 := oa7 h2 i18 ((in_c 1 rfl)) i91 i125x10b i106x10b i185; have a7 := t_add e185 (in_c 320 rfl) i91 rfl; have a8 := in_u ((in_c 320 rfl)); have a9 := tx_i2l e153; have a10 := oa2 i158x10b i151; have a12 := t_add e151 h2 (in_c 3 rfl) rfl; have a13 := in_u ((in_c 3 rfl)); have a14 := tx_i2l e139x1; have a15 := oa2 i139x8x10b i137; have a17 := t_add e137 h2 (in_c 2 rfl) rfl; have a18 := in_u ((in_c 2 rfl)); have a19 := tx_i2l e124; have a20 := in_u i125x10d; have a21 := t_sub e123 i103 (in_c 1 rfl) rfl; have a22 := in_u i103; have a23 := tx_i2l e114; have a24 := tx_i2l e105; have a25 := in_u i106x10d; have a26 := t_sub e104 i103 (in_c 1 rfl) rfl; have a27 := tx_i2l e95; have a28 := in_u i13; have a29 := t_add e13 h2 (in_c 1 rfl) rfl; have oc := oc_305_109; omega)]; exact e152.symm)]; have a0 := oa7 h2 i18 ((in_c 1 rfl)) i91 i125x10b i106x10b i185; have a7 := t_add e185 (in_c 320 rfl) i91 rfl; have a8 := in_u ((in_c 320 rfl)); have a9 := tx_i2l e153; have a10 := oa2 i158x10b i151; have a12 := t_add e151 h2 (in_c 3 rfl) rfl; have a13 := in_u ((in_c 3 rfl)); have a14 := tx_i2l e139x1; have a15 := oa2 i139x8x10b i137; have a17 := t_add e137 h2 (in_c 2 rfl) rfl; have a18 := in_u ((in_c 2 rfl)); have a19 := tx_i2l e124; have a20 := in_u i125x10d; have a21 := t_sub e123 i103 (in_c 1 rfl) rfl; have a22 := in_u i103; have a23 := tx_i2l e114; have a24 := tx_i2l e105; have a25 := in_u i106x10d; have a26 := t_sub e104 i103 (in_c 1 rfl) rfl; have a27 := tx_i2l e95; have a28 := in_u i13; have a29 := t_add e13 h2 (in_c 1 rfl) rfl; have oc := oc_305_109; omega)⟩, fun h => absurd h (by decide)⟩
                                exact gg_w (by first | exact Nat.le_of_ble_eq_true rfl | omega) (gg_f (gf_cons rfl (gf_cons rfl (gf_cons rfl (gf_cons rfl (gf_cons rfl (gf_cons rfl (gf_cons rfl gf_nil))))))) (ct188 (sI s 112 z185.toNatClampNeg (vp_nar .boolean (Int32.ofInt 1))) z5 z14 z81 (Int32.ofInt 1) hI187 (fr_sI rfl fr_rf) (in_w 97 97 i18 rfl) (in_w 0 160 i91 rfl) (in_w 0 1 (in_c 1 rfl) rfl) n188 n188a))
  · skip
    have i18 := sw_eq c18
    refine g_aload_n 53 (gd rfl) rfl rfl ?_
    refine g_getA (q2 := 110) 56 (gd rfl) rfl rfl rfl rfl ?_
    refine g_iconst 2 57 (gd rfl) rfl rfl ?_
    refine g_dup2 58 (gd rfl) rfl rfl rfl ?_
    refine g_iaload 59 (gd rfl) rfl (n := 3) rfl (in_ix (in_c 2 rfl) rfl) (fun z58 e58 => ?_)
    have i59 : In z58 0 32 := by rw [e58]; exact q_0
    refine g_iconst 1 60 (gd rfl) rfl rfl ?_
    refine g_iadd 61 (gd rfl) rfl (fun z60 e60 => ?_)
    have i60 := in_add 1 33 e60 i59 (in_c 1 rfl) rfl rfl
    refine g_iastore 62 (gd rfl) rfl (n := 3) rfl (in_ix (in_c 2 rfl) rfl) ?_
    have hI61 : Inv (sI s 110 (Int32.ofInt 2).toNatClampNeg z60) := by exact inv_n2 hI (Nat.le_refl 2)
    refine g_aload_n 63 (gd rfl) rfl rfl ?_
    refine g_getA (q2 := 110) 66 (gd rfl) rfl rfl rfl rfl ?_
    refine g_iconst 2 67 (gd rfl) rfl rfl ?_
    refine g_iaload 68 (gd rfl) rfl (n := 3) rfl (in_ix (in_c 2 rfl) rfl) (fun z67 e67 => ?_)
    have q67 : z60 = z67 := (sI_get).trans e67.symm
    subst q67
    refine g_bipush 32 70 (gd rfl) rfl rfl ?_
    refine g_cmp_gt 73 77 (gd rfl) rfl rfl (fun c70 => ?_) (fun c70 => ?_)
    · skip
      have i70 := r_lt2 33 33 c70 (in_c 32 rfl) i60 rfl
      refine g_iconst 0 78 (gd rfl) rfl rfl ?_
      have n78 : DNE s (sI s 110 (Int32.ofInt 2).toNatClampNeg z60) (x1).toInt (x2).toNatClampNeg ((Int32.ofInt 0)).toInt := by exact dne_n (by have a0 := oa3 h2 i18 i70; have a3 := t_add e60 i59 (in_c 1 rfl) rfl; have a4 := oa3 ((in_c 1 rfl)) i59 i13; have a7 := t_add e13 h2 (in_c 1 rfl) rfl; have oc := oc_305_109; omega) e58 (by have a0 := oa3 h2 i18 i70; have a3 := t_add e60 i59 (in_c 1 rfl) rfl; have a4 := oa3 ((in_c 1 rfl)) i59 i13; have a7 := t_add e13 h2 (in_c 1 rfl) rfl; have oc := oc_305_109; omega) (fun hz => by first | (exact absurd (by decide) hz) | (have h := i70; unfold In at h; omega))
      have n78a : YNQ ((Int32.ofInt 0)).toInt (DON s (x1).toInt (x2).toNatClampNeg) := by first | exact ⟨fun _ => don_110 (by have a0 := oa3 h2 i18 i70; have a3 := t_add e60 i59 (in_c 1 rfl) rfl; have a4 := oa3 ((in_c 1 rfl)) i59 i13; have a7 := t_add e13 h2 (in_c 1 rfl) rfl; have oc := oc_305_109; omega) (by rw [show s.1 110 2 = z58 from e58.symm]; have a0 := oa3 h2 i18 i70; have a3 := t_add e60 i59 (in_c 1 rfl) rfl; have a4 := oa3 ((in_c 1 rfl)) i59 i13; have a7 := t_add e13 h2 (in_c 1 rfl) rfl; have oc := oc_305_109; omega), fun h => absurd h (by decide)⟩ | exact ⟨fun h => absurd rfl h, fun _ h => by have h9 := h.1 (by have a0 := oa3 h2 i18 i70; have a3 := t_add e60 i59 (in_c 1 rfl) rfl; have a4 := oa3 ((in_c 1 rfl)) i59 i13; have a7 := t_add e13 h2 (in_c 1 rfl) rfl; have oc := oc_305_109; omega); rw [show s.1 110 2 = z58 from e58.symm] at h9; have a0 := oa3 h2 i18 i70; have a3 := t_add e60 i59 (in_c 1 rfl) rfl; have a4 := oa3 ((in_c 1 rfl)) i59 i13; have a7 := t_add e13 h2 (in_c 1 rfl) rfl; have oc := oc_305_109; omega⟩
      exact g_ireturn (gd rfl) rfl (nb01 (in_w 0 1 (in_c 0 rfl) rfl)) (hP _ _ ⟨(sI s 110 (Int32.ofInt 2).toNatClampNeg z60), hI61, (fr_sI rfl fr_rf), (Int32.ofInt 0), rfl, rfl, in_w 0 1 (in_c 0 rfl) rfl, n78, n78a⟩)
    · skip
      have i70 := r_le1 1 32 c70 i60 (in_c 32 rfl) rfl
      refine g_iconst 1 74 (gd rfl) rfl rfl ?_
      refine g_goto 78 (gd rfl) rfl ?_
      have n78 : DNE s (sI s 110 (Int32.ofInt 2).toNatClampNeg z60) (x1).toInt (x2).toNatClampNeg ((Int32.ofInt 1)).toInt := by exact dne_n (by have a0 := oa3 h2 i18 i70; have a3 := t_add e60 i59 (in_c 1 rfl) rfl; have a4 := oa3 ((in_c 1 rfl)) i59 i13; have a7 := t_add e13 h2 (in_c 1 rfl) rfl; have oc := oc_305_109; omega) e58 (by have a0 := oa3 h2 i18 i70; have a3 := t_add e60 i59 (in_c 1 rfl) rfl; have a4 := oa3 ((in_c 1 rfl)) i59 i13; have a7 := t_add e13 h2 (in_c 1 rfl) rfl; have oc := oc_305_109; omega) (fun hz => by first | (exact absurd (by decide) hz) | (have h := i70; unfold In at h; omega))
      have n78a : YNQ ((Int32.ofInt 1)).toInt (DON s (x1).toInt (x2).toNatClampNeg) := by first | exact ⟨fun _ => don_110 (by have a0 := oa3 h2 i18 i70; have a3 := t_add e60 i59 (in_c 1 rfl) rfl; have a4 := oa3 ((in_c 1 rfl)) i59 i13; have a7 := t_add e13 h2 (in_c 1 rfl) rfl; have oc := oc_305_109; omega) (by rw [show s.1 110 2 = z58 from e58.symm]; have a0 := oa3 h2 i18 i70; have a3 := t_add e60 i59 (in_c 1 rfl) rfl; have a4 := oa3 ((in_c 1 rfl)) i59 i13; have a7 := t_add e13 h2 (in_c 1 rfl) rfl; have oc := oc_305_109; omega), fun h => absurd h (by decide)⟩ | exact ⟨fun h => absurd rfl h, fun _ h => by have h9 := h.1 (by have a0 := oa3 h2 i18 i70; have a3 := t_add e60 i59 (in_c 1 rfl) rfl; have a4 := oa3 ((in_c 1 rfl)) i59 i13; have a7 := t_add e13 h2 (in_c 1 rfl) rfl; have oc := oc_305_109; omega); rw [show s.1 110 2 = z58 from e58.symm] at h9; have a0 := oa3 h2 i18 i70; have a3 := t_add e60 i59 (in_c 1 rfl) rfl; have a4 := oa3 ((in_c 1 rfl)) i59 i13; have a7 := t_add e13 h2 (in_c 1 rfl) rfl; have oc := oc_305_109; omega⟩
      exact g_ireturn (gd rfl) rfl (nb01 (in_w 0 1 (in_c 1 rfl) rfl)) (hP _ _ ⟨(sI s 110 (Int32.ofInt 2).toNatClampNeg z60), hI61, (fr_sI rfl fr_rf), (Int32.ofInt 1), rfl, rfl, in_w 0 1 (in_c 1 rfl) rfl, n78, n78a⟩)
  · skip
    have i18 := sw_eq c18
    refine g_iload_n 192 (gd rfl) rfl rfl ?_
    refine g_i2l 193 (gd rfl) rfl (fun z192 e192 => ?_)
    have i192 := l_i e192 (i_rng z5)
    refine g_lconst 0 194 (gd rfl) rfl rfl ?_
    refine g_ldc2_w 159 197 (gd rfl) rfl rfl ?_
    refine g_calls (As := [.long z192, .long (Int64.ofInt 0), .long (Int64.ofInt 159)]) (r := []) 200 (gd rfl) rfl rfl rfl rfl rfl (Nat.le_of_ble_eq_true rfl) (mc := 0) (ms := 0) (Nat.zero_le _) (Nat.zero_le _) (P := fun v u => _) ?_ (fun v u h => h)
    intro po197 xx197 hp197 hx197
    refine g_enter2 (k := 269) (N := 300) (by first | exact dq1 hd rfl | exact dq0 hd rfl | exact dq2 hd rfl | exact dq3 hd rfl | omega) rfl (Nat.le_of_ble_eq_true rfl) ?_
    refine g_lload_n 1 (gd rfl) rfl rfl ?_
    refine g_lload_n 2 (gd rfl) rfl rfl ?_
    refine g_lcmp 3 (gd rfl) rfl (fun z197x2 e197x2 => ?_)
    have i197x2 := lc_in e197x2
    refine g_if_lt 6 17 (gd rfl) rfl rfl (fun c197x3 => ?_) (fun c197x3 => ?_)
    · skip
      have i197x3 := z_lt (-1) (-1) c197x3 i197x2 rfl
      have c197x3a := lc_lt e197x2 c197x3
      have i197x3a := lr_lt1 (-2147483648) (-1) c197x3a i192 (l_c 0 rfl) rfl
      have i197x3b := l_b e192 i197x3a
      refine g_iconst 0 18 (gd rfl) rfl rfl ?_
      refine g_ireturn (gd rfl) rfl (nb01 (in_w 0 1 (in_c 0 rfl) rfl)) (hp197 _ _ ?_)
      show GG _ _ _ _ _ _ _ _ [.int (Int32.ofInt 0)] _ _ _
      refine g_if_eq 203 236 (gd rfl) rfl rfl (fun c200 => ?_) (fun c200 => ?_)
      · skip
        have n236 : s = s := by rfl
        have n236a : ¬ DON s (x1).toInt (x2).toNatClampNeg := by intro h; have h9 := h.2.2.1 (Or.inl (by have a0 := oa3 h2 i18 i197x3b; have a3 := tx_i2l e192; have a4 := in_u i13; have a5 := t_add e13 h2 (in_c 1 rfl) rfl; have a6 := in_u ((in_c 1 rfl)); have oc := oc_305_109; omega)); unfold nq at h9; rw [← e5] at h9; have h8 := h9.1; have a0 := oa3 h2 i18 i197x3b; have a3 := tx_i2l e192; have a4 := in_u i13; have a5 := t_add e13 h2 (in_c 1 rfl) rfl; have a6 := in_u ((in_c 1 rfl)); have oc := oc_305_109; omega
        exact gg_w (by first | exact Nat.le_of_ble_eq_true rfl | omega) (gg_f (gf_cons rfl (gf_cons rfl (gf_cons rfl (gf_cons rfl (gf_cons rfl gf_nil))))) (ct236 s z5 z14 hI fr_rf (in_w 116 116 i18 rfl) n236 n236a))
      · skip
        exact zn_ne c200 (in_c 0 rfl) rfl
    · skip
      have i197x3 := z_ge 0 1 c197x3 i197x2 rfl
      have c197x3a := lc_ge e197x2 c197x3
      have i197x3a := lr_le2 0 2147483647 c197x3a (l_c 0 rfl) i192 rfl
      have i197x3b := l_b e192 i197x3a
      refine g_lload_n 7 (gd rfl) rfl rfl ?_
      refine g_lload 9 (gd rfl) rfl rfl ?_
      refine g_lcmp 10 (gd rfl) rfl (fun z197x9 e197x9 => ?_)
      have i197x9 := lc_in e197x9
      refine g_if_gt 13 17 (gd rfl) rfl rfl (fun c197x10 => ?_) (fun c197x10 => ?_)
      · skip
        have i197x10 := z_gt 1 1 c197x10 i197x9 rfl
        have c197x10a := lc_gt e197x9 c197x10
        have i197x10a := lr_lt2 160 2147483647 c197x10a (l_c 159 rfl) i197x3a rfl
        have i197x10b := l_b e192 i197x10a
        refine g_iconst 0 18 (gd rfl) rfl rfl ?_
        refine g_ireturn (gd rfl) rfl (nb01 (in_w 0 1 (in_c 0 rfl) rfl)) (hp197 _ _ ?_)
        show GG _ _ _ _ _ _ _ _ [.int (Int32.ofInt 0)] _ _ _
        refine g_if_eq 203 236 (gd rfl) rfl rfl (fun c200 => ?_) (fun c200 => ?_)
        · skip
          have n236 : s = s := by rfl
          have n236a : ¬ DON s (x1).toInt (x2).toNatClampNeg := by intro h; have h9 := h.2.2.1 (Or.inl (by have a0 := oa3 h2 i18 i197x10b; have a3 := tx_i2l e192; have a4 := in_u i13; have a5 := t_add e13 h2 (in_c 1 rfl) rfl; have a6 := in_u ((in_c 1 rfl)); have oc := oc_305_109; omega)); unfold nq at h9; rw [← e5] at h9; have h8 := h9.1; have a0 := oa3 h2 i18 i197x10b; have a3 := tx_i2l e192; have a4 := in_u i13; have a5 := t_add e13 h2 (in_c 1 rfl) rfl; have a6 := in_u ((in_c 1 rfl)); have oc := oc_305_109; omega
          exact gg_w (by first | exact Nat.le_of_ble_eq_true rfl | omega) (gg_f (gf_cons rfl (gf_cons rfl (gf_cons rfl (gf_cons rfl (gf_cons rfl gf_nil))))) (ct236 s z5 z14 hI fr_rf (in_w 116 116 i18 rfl) n236 n236a))
        · skip
          exact zn_ne c200 (in_c 0 rfl) rfl
      · skip
        have i197x10 := z_le (-1) 0 c197x10 i197x9 rfl
        have c197x10a := lc_le e197x9 c197x10
        have i197x10a := lr_le1 0 159 c197x10a i197x3a (l_c 159 rfl) rfl
        have i197x10b := l_b e192 i197x10a
        refine g_iconst 1 14 (gd rfl) rfl rfl ?_
        refine g_goto 18 (gd rfl) rfl ?_
        refine g_ireturn (gd rfl) rfl (nb01 (in_w 0 1 (in_c 1 rfl) rfl)) (hp197 _ _ ?_)
        show GG _ _ _ _ _ _ _ _ [.int (Int32.ofInt 1)] _ _ _
        refine g_if_eq 203 236 (gd rfl) rfl rfl (fun c200 => ?_) (fun c200 => ?_)
        · skip
          exact zn_eq c200 (in_c 1 rfl) rfl
        · skip
          refine g_aload_n 204 (gd rfl) rfl rfl ?_
          refine g_getA (q2 := 112) 207 (gd rfl) rfl rfl rfl rfl ?_
          refine g_sipush 320 210 (gd rfl) rfl rfl ?_
          refine g_iload_n 211 (gd rfl) rfl rfl ?_
          refine g_i2l 212 (gd rfl) rfl (fun z211 e211 => ?_)
          have i211 := l_i e211 i197x10b
          refine g_lconst 0 213 (gd rfl) rfl rfl ?_
          refine g_ldc2_w 159 216 (gd rfl) rfl rfl ?_
          refine g_calls (As := [.long z211, .long (Int64.ofInt 0), .long (Int64.ofInt 159)]) (r := [.int (Int32.ofInt 320), .ref (A 112)]) 219 (gd rfl) rfl rfl rfl rfl rfl (Nat.le_of_ble_eq_true rfl) (mc := 0) (ms := 0) (Nat.zero_le _) (Nat.zero_le _) (P := fun v u => _) ?_ (fun v u h => h)
          intro po216 xx216 hp216 hx216
          refine g_enter2 (k := 269) (N := 300) (by first | exact dq1 hd rfl | exact dq0 hd rfl | exact dq2 hd rfl | exact dq3 hd rfl | omega) rfl (Nat.le_of_ble_eq_true rfl) ?_
          refine g_lload_n 1 (gd rfl) rfl rfl ?_
          refine g_lload_n 2 (gd rfl) rfl rfl ?_
          refine g_lcmp 3 (gd rfl) rfl (fun z216x2 e216x2 => ?_)
          have i216x2 := lc_in e216x2
          refine g_if_lt 6 17 (gd rfl) rfl rfl (fun c216x3 => ?_) (fun c216x3 => ?_)
          · skip
            have i216x3 := z_lt (-1) (-1) c216x3 i216x2 rfl
            have c216x3a := lc_lt e216x2 c216x3
            exact ln_lt c216x3a i211 (l_c 0 rfl) rfl
          · skip
            have i216x3 := z_ge 0 1 c216x3 i216x2 rfl
            have c216x3a := lc_ge e216x2 c216x3
            refine g_lload_n 7 (gd rfl) rfl rfl ?_
            refine g_lload 9 (gd rfl) rfl rfl ?_
            refine g_lcmp 10 (gd rfl) rfl (fun z216x9 e216x9 => ?_)
            have i216x9 := lc_in e216x9
            refine g_if_gt 13 17 (gd rfl) rfl rfl (fun c216x10 => ?_) (fun c216x10 => ?_)
            · skip
              have i216x10 := z_gt 1 1 c216x10 i216x9 rfl
              have c216x10a := lc_gt e216x9 c216x10
              exact ln_lt c216x10a (l_c 159 rfl) i211 rfl
            · skip
              have i216x10 := z_le (-1) 0 c216x10 i216x9 rfl
              have c216x10a := lc_le e216x9 c216x10
              refine g_iconst 1 14 (gd rfl) rfl rfl ?_
              refine g_goto 18 (gd rfl) rfl ?_
              refine g_ireturn (gd rfl) rfl (nb01 (in_w 0 1 (in_c 1 rfl) rfl)) (hp216 _ _ ?_)
              show GG _ _ _ _ _ _ _ _ [.int (Int32.ofInt 1), .int (Int32.ofInt 320), .ref (A 112)] _ _ _
              refine g_if_eq 222 226 (gd rfl) rfl rfl (fun c219 => ?_) (fun c219 => ?_)
              · skip
                exact zn_eq c219 (in_c 1 rfl) rfl
              · skip
                refine g_iload_n 223 (gd rfl) rfl rfl ?_
                refine g_goto 227 (gd rfl) rfl ?_
                refine g_iadd 228 (gd rfl) rfl (fun z227 e227 => ?_)
                have i227 := in_add 320 479 e227 (in_c 320 rfl) i197x10b rfl rfl
                refine g_baload 229 (gd rfl) rfl (n := 480) rfl (in_ix i227 rfl) (fun z228 e228 => ?_)
                have i228 := inv_I hI (n := 480) (t := 3) 0 1 rfl (in_ix i227 rfl) rfl e228
                refine g_if_eq 232 236 (gd rfl) rfl rfl (fun c229 => ?_) (fun c229 => ?_)
                · skip
                  have i229 := z_eq 0 0 c229 i228 rfl
                  have n236 : s = s := by rfl
                  have n236a : ¬ DON s (x1).toInt (x2).toNatClampNeg := by intro h; have h9 := h.2.2.1 (Or.inl (by have a0 := oa4 h2 i18 i197x10b i227; have a4 := t_add e227 (in_c 320 rfl) i197x10b rfl; have a5 := in_u ((in_c 320 rfl)); have a6 := tx_i2l e211; have a7 := tx_i2l e192; have a8 := in_u i13; have a9 := t_add e13 h2 (in_c 1 rfl) rfl; have a10 := in_u ((in_c 1 rfl)); have oc := oc_305_109; omega)); unfold nq at h9; rw [← e5] at h9; first | (exfalso; have a0 := oa4 h2 i18 i197x10b i227; have a4 := t_add e227 (in_c 320 rfl) i197x10b rfl; have a5 := in_u ((in_c 320 rfl)); have a6 := tx_i2l e211; have a7 := tx_i2l e192; have a8 := in_u i13; have a9 := t_add e13 h2 (in_c 1 rfl) rfl; have a10 := in_u ((in_c 1 rfl)); have oc := oc_305_109; omega) | (have h8 := h9.2; rw [thg_t e228 (by have a0 := oa4 h2 i18 i197x10b i227; have a4 := t_add e227 (in_c 320 rfl) i197x10b rfl; have a5 := in_u ((in_c 320 rfl)); have a6 := tx_i2l e211; have a7 := tx_i2l e192; have a8 := in_u i13; have a9 := t_add e13 h2 (in_c 1 rfl) rfl; have a10 := in_u ((in_c 1 rfl)); have oc := oc_305_109; omega) (by have a0 := oa4 h2 i18 i197x10b i227; have a4 := t_add e227 (in_c 320 rfl) i197x10b rfl; have a5 := in_u ((in_c 320 rfl)); have a6 := tx_i2l e211; have a7 := tx_i2l e192; have a8 := in_u i13; have a9 := t_add e13 h2 (in_c 1 rfl) rfl; have a10 := in_u ((in_c 1 rfl)); have oc := oc_305_109; omega)] at h8; have h7 := of_decide_eq_true h8; have a0 := oa4 h2 i18 i197x10b i227; have a4 := t_add e227 (in_c 320 rfl) i197x10b rfl; have a5 := in_u ((in_c 320 rfl)); have a6 := tx_i2l e211; have a7 := tx_i2l e192; have a8 := in_u i13; have a9 := t_add e13 h2 (in_c 1 rfl) rfl; have a10 := in_u ((in_c 1 rfl)); have oc := oc_305_109; omega)
                  exact gg_w (by first | exact Nat.le_of_ble_eq_true rfl | omega) (gg_f (gf_cons rfl (gf_cons rfl (gf_cons rfl (gf_cons rfl (gf_cons rfl gf_nil))))) (ct236 s z5 z14 hI fr_rf (in_w 116 116 i18 rfl) n236 n236a))
                · skip
                  have i229 := z_ne 1 1 c229 i228 rfl
                  refine g_iconst 1 233 (gd rfl) rfl rfl ?_
                  refine g_goto 237 (gd rfl) rfl ?_
                  refine g_istore 239 (gd rfl) rfl (Nat.le_of_ble_eq_true rfl) ?_
                  refine g_iload 241 (gd rfl) rfl rfl ?_
                  refine g_if_eq 244 255 (gd rfl) rfl rfl (fun c241 => ?_) (fun c241 => ?_)
                  · skip
                    exact zn_eq c241 (in_c 1 rfl) rfl
                  · skip
                    refine g_aload_n 245 (gd rfl) rfl rfl ?_
                    refine g_getA (q2 := 112) 248 (gd rfl) rfl rfl rfl rfl ?_
                    refine g_sipush 320 251 (gd rfl) rfl rfl ?_
                    refine g_iload_n 252 (gd rfl) rfl rfl ?_
                    refine g_iadd 253 (gd rfl) rfl (fun z252 e252 => ?_)
                    have i252 := in_add 320 479 e252 (in_c 320 rfl) i197x10b rfl rfl
                    refine g_iconst 0 254 (gd rfl) rfl rfl ?_
                    refine g_bastore 255 (gd rfl) rfl (n := 480) rfl (in_ix i252 rfl) ?_
                    have hI254 : Inv (sI s 112 z252.toNatClampNeg (vp_nar .boolean (Int32.ofInt 0))) := by exact inv_t3 hI (by show 320 ≤ (z252).toInt.toNat; have a0 := oa5 h2 i18 ((in_c 1 rfl)) i197x10b i252; have a5 := t_add e252 (in_c 320 rfl) i197x10b rfl; have a6 := oa2 ((in_c 320 rfl)) i227; have a8 := t_add e227 (in_c 320 rfl) i197x10b rfl; have a9 := tx_i2l e211; have a10 := tx_i2l e192; have a11 := in_u i13; have a12 := t_add e13 h2 (in_c 1 rfl) rfl; have oc := oc_305_109; omega) (in_w 0 1 (nar01 (in_w 0 1 (in_c 0 rfl) rfl)) rfl)
                    have n255 : DNE s (sI s 112 z252.toNatClampNeg (vp_nar .boolean (Int32.ofInt 0))) (x1).toInt (x2).toNatClampNeg ((Int32.ofInt 1)).toInt := by exact dne_t (by have a0 := oa5 h2 i18 ((in_c 1 rfl)) i197x10b i252; have a5 := t_add e252 (in_c 320 rfl) i197x10b rfl; have a6 := oa2 ((in_c 320 rfl)) i227; have a8 := t_add e227 (in_c 320 rfl) i197x10b rfl; have a9 := tx_i2l e211; have a10 := tx_i2l e192; have a11 := in_u i13; have a12 := t_add e13 h2 (in_c 1 rfl) rfl; have oc := oc_305_109; omega) (by rw [← e5]; exact i197x10b) (by rw [← e5]; show z252.toInt.toNat = 320 + z5.toInt.toNat; have a0 := oa5 h2 i18 ((in_c 1 rfl)) i197x10b i252; have a5 := t_add e252 (in_c 320 rfl) i197x10b rfl; have a6 := oa2 ((in_c 320 rfl)) i227; have a8 := t_add e227 (in_c 320 rfl) i197x10b rfl; have a9 := tx_i2l e211; have a10 := tx_i2l e192; have a11 := in_u i13; have a12 := t_add e13 h2 (in_c 1 rfl) rfl; have oc := oc_305_109; omega)
                    have n255a : YNQ ((Int32.ofInt 1)).toInt (DON s (x1).toInt (x2).toNatClampNeg) := by exact ⟨fun _ => don_116 (by have a0 := oa5 h2 i18 ((in_c 1 rfl)) i197x10b i252; have a5 := t_add e252 (in_c 320 rfl) i197x10b rfl; have a6 := oa2 ((in_c 320 rfl)) i227; have a8 := t_add e227 (in_c 320 rfl) i197x10b rfl; have a9 := tx_i2l e211; have a10 := tx_i2l e192; have a11 := in_u i13; have a12 := t_add e13 h2 (in_c 1 rfl) rfl; have oc := oc_305_109; omega) ⟨(by unfold nq; rw [← e5]; have a0 := oa5 h2 i18 ((in_c 1 rfl)) i197x10b i252; have a5 := t_add e252 (in_c 320 rfl) i197x10b rfl; have a6 := oa2 ((in_c 320 rfl)) i227; have a8 := t_add e227 (in_c 320 rfl) i197x10b rfl; have a9 := tx_i2l e211; have a10 := tx_i2l e192; have a11 := in_u i13; have a12 := t_add e13 h2 (in_c 1 rfl) rfl; have oc := oc_305_109; omega), (by rw [← e5, thg_t e228 (by have a0 := oa5 h2 i18 ((in_c 1 rfl)) i197x10b i252; have a5 := t_add e252 (in_c 320 rfl) i197x10b rfl; have a6 := oa2 ((in_c 320 rfl)) i227; have a8 := t_add e227 (in_c 320 rfl) i197x10b rfl; have a9 := tx_i2l e211; have a10 := tx_i2l e192; have a11 := in_u i13; have a12 := t_add e13 h2 (in_c 1 rfl) rfl; have oc := oc_305_109; omega) (by have a0 := oa5 h2 i18 ((in_c 1 rfl)) i197x10b i252; have a5 := t_add e252 (in_c 320 rfl) i197x10b rfl; have a6 := oa2 ((in_c 320 rfl)) i227; have a8 := t_add e227 (in_c 320 rfl) i197x10b rfl; have a9 := tx_i2l e211; have a10 := tx_i2l e192; have a11 := in_u i13; have a12 := t_add e13 h2 (in_c 1 rfl) rfl; have oc := oc_305_109; omega)]; exact decide_eq_true (by have a0 := oa5 h2 i18 ((in_c 1 rfl)) i197x10b i252; have a5 := t_add e252 (in_c 320 rfl) i197x10b rfl; have a6 := oa2 ((in_c 320 rfl)) i227; have a8 := t_add e227 (in_c 320 rfl) i197x10b rfl; have a9 := tx_i2l e211; have a10 := tx_i2l e192; have a11 := in_u i13; have a12 := t_add e13 h2 (in_c 1 rfl) rfl; have oc := oc_305_109; omega))⟩, fun h => absurd h (by decide)⟩
                    exact gg_w (by first | exact Nat.le_of_ble_eq_true rfl | omega) (gg_f (gf_cons rfl (gf_cons rfl (gf_cons rfl (gf_cons rfl (gf_cons rfl (gf_cons rfl gf_nil)))))) (ct255 (sI s 112 z252.toNatClampNeg (vp_nar .boolean (Int32.ofInt 0))) z5 z14 (Int32.ofInt 1) hI254 (fr_sI rfl fr_rf) (in_w 116 116 i18 rfl) (in_w 0 1 (in_c 1 rfl) rfl) n255 n255a))
  · skip
    refine g_iload_n 259 (gd rfl) rfl rfl ?_
    refine g_i2l 260 (gd rfl) rfl (fun z259 e259 => ?_)
    have i259 := l_i e259 (i_rng z5)
    refine g_lconst 0 261 (gd rfl) rfl rfl ?_
    refine g_ldc2_w 159 264 (gd rfl) rfl rfl ?_
    refine g_calls (As := [.long z259, .long (Int64.ofInt 0), .long (Int64.ofInt 159)]) (r := []) 267 (gd rfl) rfl rfl rfl rfl rfl (Nat.le_of_ble_eq_true rfl) (mc := 0) (ms := 0) (Nat.zero_le _) (Nat.zero_le _) (P := fun v u => _) ?_ (fun v u h => h)
    intro po264 xx264 hp264 hx264
    refine g_enter2 (k := 269) (N := 300) (by first | exact dq1 hd rfl | exact dq0 hd rfl | exact dq2 hd rfl | exact dq3 hd rfl | omega) rfl (Nat.le_of_ble_eq_true rfl) ?_
    refine g_lload_n 1 (gd rfl) rfl rfl ?_
    refine g_lload_n 2 (gd rfl) rfl rfl ?_
    refine g_lcmp 3 (gd rfl) rfl (fun z264x2 e264x2 => ?_)
    have i264x2 := lc_in e264x2
    refine g_if_lt 6 17 (gd rfl) rfl rfl (fun c264x3 => ?_) (fun c264x3 => ?_)
    · skip
      have i264x3 := z_lt (-1) (-1) c264x3 i264x2 rfl
      have c264x3a := lc_lt e264x2 c264x3
      have i264x3a := lr_lt1 (-2147483648) (-1) c264x3a i259 (l_c 0 rfl) rfl
      have i264x3b := l_b e259 i264x3a
      refine g_iconst 0 18 (gd rfl) rfl rfl ?_
      refine g_ireturn (gd rfl) rfl (nb01 (in_w 0 1 (in_c 0 rfl) rfl)) (hp264 _ _ ?_)
      show GG _ _ _ _ _ _ _ _ [.int (Int32.ofInt 0)] _ _ _
      refine g_if_eq 270 311 (gd rfl) rfl rfl (fun c267 => ?_) (fun c267 => ?_)
      · skip
        have n311 : s = s := by rfl
        have n311a : ¬ DON s (x1).toInt (x2).toNatClampNeg := by intro h; have h9 := h.2.2.1 (Or.inr (by rcases q_1 with e | e | e | e; (have a0 := oa3 h2 h1 i264x3b; have a3 := tx_i2l e259; have a4 := in_u i13; have a5 := t_add e13 h2 (in_c 1 rfl) rfl; have a6 := in_u ((in_c 1 rfl)); have oc := oc_305_109; omega); (have a0 := oa3 h2 h1 i264x3b; have a3 := tx_i2l e259; have a4 := in_u i13; have a5 := t_add e13 h2 (in_c 1 rfl) rfl; have a6 := in_u ((in_c 1 rfl)); have oc := oc_305_109; omega); (have a0 := oa3 h2 h1 i264x3b; have a3 := tx_i2l e259; have a4 := in_u i13; have a5 := t_add e13 h2 (in_c 1 rfl) rfl; have a6 := in_u ((in_c 1 rfl)); have oc := oc_305_109; omega); (exact e))); unfold nq at h9; rw [← e5] at h9; have h8 := h9.1; have a0 := oa3 h2 h1 i264x3b; have a3 := tx_i2l e259; have a4 := in_u i13; have a5 := t_add e13 h2 (in_c 1 rfl) rfl; have a6 := in_u ((in_c 1 rfl)); have oc := oc_305_109; omega
        exact gg_w (by first | exact Nat.le_of_ble_eq_true rfl | omega) (gg_f (gf_cons rfl (gf_cons rfl (gf_cons rfl (gf_cons rfl (gf_cons rfl gf_nil))))) (ct311 s z5 z14 hI fr_rf n311 n311a))
      · skip
        exact zn_ne c267 (in_c 0 rfl) rfl
    · skip
      have i264x3 := z_ge 0 1 c264x3 i264x2 rfl
      have c264x3a := lc_ge e264x2 c264x3
      have i264x3a := lr_le2 0 2147483647 c264x3a (l_c 0 rfl) i259 rfl
      have i264x3b := l_b e259 i264x3a
      refine g_lload_n 7 (gd rfl) rfl rfl ?_
      refine g_lload 9 (gd rfl) rfl rfl ?_
      refine g_lcmp 10 (gd rfl) rfl (fun z264x9 e264x9 => ?_)
      have i264x9 := lc_in e264x9
      refine g_if_gt 13 17 (gd rfl) rfl rfl (fun c264x10 => ?_) (fun c264x10 => ?_)
      · skip
        have i264x10 := z_gt 1 1 c264x10 i264x9 rfl
        have c264x10a := lc_gt e264x9 c264x10
        have i264x10a := lr_lt2 160 2147483647 c264x10a (l_c 159 rfl) i264x3a rfl
        have i264x10b := l_b e259 i264x10a
        refine g_iconst 0 18 (gd rfl) rfl rfl ?_
        refine g_ireturn (gd rfl) rfl (nb01 (in_w 0 1 (in_c 0 rfl) rfl)) (hp264 _ _ ?_)
        show GG _ _ _ _ _ _ _ _ [.int (Int32.ofInt 0)] _ _ _
        refine g_if_eq 270 311 (gd rfl) rfl rfl (fun c267 => ?_) (fun c267 => ?_)
        · skip
          have n311 : s = s := by rfl
          have n311a : ¬ DON s (x1).toInt (x2).toNatClampNeg := by intro h; have h9 := h.2.2.1 (Or.inr (by rcases q_1 with e | e | e | e; (have a0 := oa3 h2 h1 i264x10b; have a3 := tx_i2l e259; have a4 := in_u i13; have a5 := t_add e13 h2 (in_c 1 rfl) rfl; have a6 := in_u ((in_c 1 rfl)); have oc := oc_305_109; omega); (have a0 := oa3 h2 h1 i264x10b; have a3 := tx_i2l e259; have a4 := in_u i13; have a5 := t_add e13 h2 (in_c 1 rfl) rfl; have a6 := in_u ((in_c 1 rfl)); have oc := oc_305_109; omega); (have a0 := oa3 h2 h1 i264x10b; have a3 := tx_i2l e259; have a4 := in_u i13; have a5 := t_add e13 h2 (in_c 1 rfl) rfl; have a6 := in_u ((in_c 1 rfl)); have oc := oc_305_109; omega); (exact e))); unfold nq at h9; rw [← e5] at h9; have h8 := h9.1; have a0 := oa3 h2 h1 i264x10b; have a3 := tx_i2l e259; have a4 := in_u i13; have a5 := t_add e13 h2 (in_c 1 rfl) rfl; have a6 := in_u ((in_c 1 rfl)); have oc := oc_305_109; omega
          exact gg_w (by first | exact Nat.le_of_ble_eq_true rfl | omega) (gg_f (gf_cons rfl (gf_cons rfl (gf_cons rfl (gf_cons rfl (gf_cons rfl gf_nil))))) (ct311 s z5 z14 hI fr_rf n311 n311a))
        · skip
          exact zn_ne c267 (in_c 0 rfl) rfl
      · skip
        have i264x10 := z_le (-1) 0 c264x10 i264x9 rfl
        have c264x10a := lc_le e264x9 c264x10
        have i264x10a := lr_le1 0 159 c264x10a i264x3a (l_c 159 rfl) rfl
        have i264x10b := l_b e259 i264x10a
        refine g_iconst 1 14 (gd rfl) rfl rfl ?_
        refine g_goto 18 (gd rfl) rfl ?_
        refine g_ireturn (gd rfl) rfl (nb01 (in_w 0 1 (in_c 1 rfl) rfl)) (hp264 _ _ ?_)
        show GG _ _ _ _ _ _ _ _ [.int (Int32.ofInt 1)] _ _ _
        refine g_if_eq 270 311 (gd rfl) rfl rfl (fun c267 => ?_) (fun c267 => ?_)
        · skip
          exact zn_eq c267 (in_c 1 rfl) rfl
        · skip
          refine g_aload_n 271 (gd rfl) rfl rfl ?_
          refine g_getA (q2 := 112) 274 (gd rfl) rfl rfl rfl rfl ?_
          refine g_sipush 320 277 (gd rfl) rfl rfl ?_
          refine g_iload_n 278 (gd rfl) rfl rfl ?_
          refine g_i2l 279 (gd rfl) rfl (fun z278 e278 => ?_)
          have i278 := l_i e278 i264x10b
          refine g_lconst 0 280 (gd rfl) rfl rfl ?_
          refine g_ldc2_w 159 283 (gd rfl) rfl rfl ?_
          refine g_calls (As := [.long z278, .long (Int64.ofInt 0), .long (Int64.ofInt 159)]) (r := [.int (Int32.ofInt 320), .ref (A 112)]) 286 (gd rfl) rfl rfl rfl rfl rfl (Nat.le_of_ble_eq_true rfl) (mc := 0) (ms := 0) (Nat.zero_le _) (Nat.zero_le _) (P := fun v u => _) ?_ (fun v u h => h)
          intro po283 xx283 hp283 hx283
          refine g_enter2 (k := 269) (N := 300) (by first | exact dq1 hd rfl | exact dq0 hd rfl | exact dq2 hd rfl | exact dq3 hd rfl | omega) rfl (Nat.le_of_ble_eq_true rfl) ?_
          refine g_lload_n 1 (gd rfl) rfl rfl ?_
          refine g_lload_n 2 (gd rfl) rfl rfl ?_
          refine g_lcmp 3 (gd rfl) rfl (fun z283x2 e283x2 => ?_)
          have i283x2 := lc_in e283x2
          refine g_if_lt 6 17 (gd rfl) rfl rfl (fun c283x3 => ?_) (fun c283x3 => ?_)
          · skip
            have i283x3 := z_lt (-1) (-1) c283x3 i283x2 rfl
            have c283x3a := lc_lt e283x2 c283x3
            exact ln_lt c283x3a i278 (l_c 0 rfl) rfl
          · skip
            have i283x3 := z_ge 0 1 c283x3 i283x2 rfl
            have c283x3a := lc_ge e283x2 c283x3
            refine g_lload_n 7 (gd rfl) rfl rfl ?_
            refine g_lload 9 (gd rfl) rfl rfl ?_
            refine g_lcmp 10 (gd rfl) rfl (fun z283x9 e283x9 => ?_)
            have i283x9 := lc_in e283x9
            refine g_if_gt 13 17 (gd rfl) rfl rfl (fun c283x10 => ?_) (fun c283x10 => ?_)
            · skip
              have i283x10 := z_gt 1 1 c283x10 i283x9 rfl
              have c283x10a := lc_gt e283x9 c283x10
              exact ln_lt c283x10a (l_c 159 rfl) i278 rfl
            · skip
              have i283x10 := z_le (-1) 0 c283x10 i283x9 rfl
              have c283x10a := lc_le e283x9 c283x10
              refine g_iconst 1 14 (gd rfl) rfl rfl ?_
              refine g_goto 18 (gd rfl) rfl ?_
              refine g_ireturn (gd rfl) rfl (nb01 (in_w 0 1 (in_c 1 rfl) rfl)) (hp283 _ _ ?_)
              show GG _ _ _ _ _ _ _ _ [.int (Int32.ofInt 1), .int (Int32.ofInt 320), .ref (A 112)] _ _ _
              refine g_if_eq 289 293 (gd rfl) rfl rfl (fun c286 => ?_) (fun c286 => ?_)
              · skip
                exact zn_eq c286 (in_c 1 rfl) rfl
              · skip
                refine g_iload_n 290 (gd rfl) rfl rfl ?_
                refine g_goto 294 (gd rfl) rfl ?_
                refine g_iadd 295 (gd rfl) rfl (fun z294 e294 => ?_)
                have i294 := in_add 320 479 e294 (in_c 320 rfl) i264x10b rfl rfl
                refine g_baload 296 (gd rfl) rfl (n := 480) rfl (in_ix i294 rfl) (fun z295 e295 => ?_)
                have i295 := inv_I hI (n := 480) (t := 3) 0 1 rfl (in_ix i294 rfl) rfl e295
                refine g_if_eq 299 311 (gd rfl) rfl rfl (fun c296 => ?_) (fun c296 => ?_)
                · skip
                  have i296 := z_eq 0 0 c296 i295 rfl
                  have n311 : s = s := by rfl
                  have n311a : ¬ DON s (x1).toInt (x2).toNatClampNeg := by intro h; have h9 := h.2.2.1 (Or.inr (by rcases q_1 with e | e | e | e; (have a0 := oa4 h2 h1 i264x10b i294; have a4 := t_add e294 (in_c 320 rfl) i264x10b rfl; have a5 := in_u ((in_c 320 rfl)); have a6 := tx_i2l e278; have a7 := tx_i2l e259; have a8 := in_u i13; have a9 := t_add e13 h2 (in_c 1 rfl) rfl; have a10 := in_u ((in_c 1 rfl)); have oc := oc_305_109; omega); (have a0 := oa4 h2 h1 i264x10b i294; have a4 := t_add e294 (in_c 320 rfl) i264x10b rfl; have a5 := in_u ((in_c 320 rfl)); have a6 := tx_i2l e278; have a7 := tx_i2l e259; have a8 := in_u i13; have a9 := t_add e13 h2 (in_c 1 rfl) rfl; have a10 := in_u ((in_c 1 rfl)); have oc := oc_305_109; omega); (have a0 := oa4 h2 h1 i264x10b i294; have a4 := t_add e294 (in_c 320 rfl) i264x10b rfl; have a5 := in_u ((in_c 320 rfl)); have a6 := tx_i2l e278; have a7 := tx_i2l e259; have a8 := in_u i13; have a9 := t_add e13 h2 (in_c 1 rfl) rfl; have a10 := in_u ((in_c 1 rfl)); have oc := oc_305_109; omega); (exact e))); unfold nq at h9; rw [← e5] at h9; first | (exfalso; have a0 := oa4 h2 h1 i264x10b i294; have a4 := t_add e294 (in_c 320 rfl) i264x10b rfl; have a5 := in_u ((in_c 320 rfl)); have a6 := tx_i2l e278; have a7 := tx_i2l e259; have a8 := in_u i13; have a9 := t_add e13 h2 (in_c 1 rfl) rfl; have a10 := in_u ((in_c 1 rfl)); have oc := oc_305_109; omega) | (have h8 := h9.2; rw [thg_t e295 (by have a0 := oa4 h2 h1 i264x10b i294; have a4 := t_add e294 (in_c 320 rfl) i264x10b rfl; have a5 := in_u ((in_c 320 rfl)); have a6 := tx_i2l e278; have a7 := tx_i2l e259; have a8 := in_u i13; have a9 := t_add e13 h2 (in_c 1 rfl) rfl; have a10 := in_u ((in_c 1 rfl)); have oc := oc_305_109; omega) (by have a0 := oa4 h2 h1 i264x10b i294; have a4 := t_add e294 (in_c 320 rfl) i264x10b rfl; have a5 := in_u ((in_c 320 rfl)); have a6 := tx_i2l e278; have a7 := tx_i2l e259; have a8 := in_u i13; have a9 := t_add e13 h2 (in_c 1 rfl) rfl; have a10 := in_u ((in_c 1 rfl)); have oc := oc_305_109; omega)] at h8; have h7 := of_decide_eq_true h8; have a0 := oa4 h2 h1 i264x10b i294; have a4 := t_add e294 (in_c 320 rfl) i264x10b rfl; have a5 := in_u ((in_c 320 rfl)); have a6 := tx_i2l e278; have a7 := tx_i2l e259; have a8 := in_u i13; have a9 := t_add e13 h2 (in_c 1 rfl) rfl; have a10 := in_u ((in_c 1 rfl)); have oc := oc_305_109; omega)
                  exact gg_w (by first | exact Nat.le_of_ble_eq_true rfl | omega) (gg_f (gf_cons rfl (gf_cons rfl (gf_cons rfl (gf_cons rfl (gf_cons rfl gf_nil))))) (ct311 s z5 z14 hI fr_rf n311 n311a))
                · skip
                  have i296 := z_ne 1 1 c296 i295 rfl
                  refine g_iload 301 (gd rfl) rfl rfl ?_
                  refine g_calls (As := [.int z14]) (r := []) 304 (gd rfl) rfl rfl rfl rfl rfl (Nat.le_of_ble_eq_true rfl) (mc := 0) (ms := 0) (Nat.zero_le _) (Nat.zero_le _) (P := fun v u => _) ?_ (fun v u h => h)
                  intro po301 xx301 hp301 hx301
                  refine g_enter2 (k := 279) (N := 300) (by first | exact dq1 hd rfl | exact dq0 hd rfl | exact dq2 hd rfl | exact dq3 hd rfl | omega) rfl (Nat.le_of_ble_eq_true rfl) ?_
                  refine g_iload_n 1 (gd rfl) rfl rfl ?_
                  refine g_i2l 2 (gd rfl) rfl (fun z301x1 e301x1 => ?_)
                  have i301x1 := l_i e301x1 (i_rng z14)
                  refine g_ldc2_w (-1000000) 5 (gd rfl) rfl rfl ?_
                  refine g_ldc2_w 1000000 8 (gd rfl) rfl rfl ?_
                  refine g_calls (As := [.long z301x1, .long (Int64.ofInt (-1000000)), .long (Int64.ofInt 1000000)]) (r := []) 11 (gd rfl) rfl rfl rfl rfl rfl (Nat.le_of_ble_eq_true rfl) (mc := 0) (ms := 0) (Nat.zero_le _) (Nat.zero_le _) (P := fun v u => _) ?_ (fun v u h => h)
                  intro po301x8 xx301x8 hp301x8 hx301x8
                  refine g_enter2 (k := 269) (N := 300) (by first | exact dq1 hd rfl | exact dq0 hd rfl | exact dq2 hd rfl | exact dq3 hd rfl | omega) rfl (Nat.le_of_ble_eq_true rfl) ?_
                  refine g_lload_n 1 (gd rfl) rfl rfl ?_
                  refine g_lload_n 2 (gd rfl) rfl rfl ?_
                  refine g_lcmp 3 (gd rfl) rfl (fun z301x8x2 e301x8x2 => ?_)
                  have i301x8x2 := lc_in e301x8x2
                  refine g_if_lt 6 17 (gd rfl) rfl rfl (fun c301x8x3 => ?_) (fun c301x8x3 => ?_)
                  · skip
                    have i301x8x3 := z_lt (-1) (-1) c301x8x3 i301x8x2 rfl
                    have c301x8x3a := lc_lt e301x8x2 c301x8x3
                    have i301x8x3a := lr_lt1 (-2147483648) (-1000001) c301x8x3a i301x1 (l_c (-1000000) rfl) rfl
                    have i301x8x3b := l_b e301x1 i301x8x3a
                    refine g_iconst 0 18 (gd rfl) rfl rfl ?_
                    refine g_ireturn (gd rfl) rfl (nb01 (in_w 0 1 (in_c 0 rfl) rfl)) (hp301x8 _ _ ?_)
                    show GG _ _ _ _ _ _ _ _ [.int (Int32.ofInt 0)] _ _ _
                    refine g_ireturn (gd rfl) rfl (nb01 (in_w 0 1 (in_c 0 rfl) rfl)) (hp301 _ _ ?_)
                    show GG _ _ _ _ _ _ _ _ [.int (Int32.ofInt 0)] _ _ _
                    refine g_if_eq 307 311 (gd rfl) rfl rfl (fun c304 => ?_) (fun c304 => ?_)
                    · skip
                      have n311 : s = s := by rfl
                      have n311a : ¬ DON s (x1).toInt (x2).toNatClampNeg := by first | (intro h; have h9 := h.2.2.2 (by rcases q_1 with e | e | e | e; (have a0 := oa4 h2 h1 i301x8x3b i264x10b; have a4 := tx_i2l e301x1; have a5 := in_u i294; have a6 := t_add e294 (in_c 320 rfl) i264x10b rfl; have a7 := in_u ((in_c 320 rfl)); have a8 := tx_i2l e278; have a9 := tx_i2l e259; have a10 := in_u i13; have a11 := t_add e13 h2 (in_c 1 rfl) rfl; have a12 := in_u ((in_c 1 rfl)); have oc := oc_305_109; omega); (have a0 := oa4 h2 h1 i301x8x3b i264x10b; have a4 := tx_i2l e301x1; have a5 := in_u i294; have a6 := t_add e294 (in_c 320 rfl) i264x10b rfl; have a7 := in_u ((in_c 320 rfl)); have a8 := tx_i2l e278; have a9 := tx_i2l e259; have a10 := in_u i13; have a11 := t_add e13 h2 (in_c 1 rfl) rfl; have a12 := in_u ((in_c 1 rfl)); have oc := oc_305_109; omega); (have a0 := oa4 h2 h1 i301x8x3b i264x10b; have a4 := tx_i2l e301x1; have a5 := in_u i294; have a6 := t_add e294 (in_c 320 rfl) i264x10b rfl; have a7 := in_u ((in_c 320 rfl)); have a8 := tx_i2l e278; have a9 := tx_i2l e259; have a10 := in_u i13; have a11 := t_add e13 h2 (in_c 1 rfl) rfl; have a12 := in_u ((in_c 1 rfl)); have oc := oc_305_109; omega); (exact e)); unfold nq at h9; rw [show s.1 128 (x2.toNatClampNeg + 1) = z14 from (by rw [show x2.toNatClampNeg + 1 = z13.toNatClampNeg from (by show x2.toInt.toNat + 1 = z13.toInt.toNat; have a0 := oa4 h2 h1 i301x8x3b i264x10b; have a4 := tx_i2l e301x1; have a5 := in_u i294; have a6 := t_add e294 (in_c 320 rfl) i264x10b rfl; have a7 := in_u ((in_c 320 rfl)); have a8 := tx_i2l e278; have a9 := tx_i2l e259; have a10 := in_u i13; have a11 := t_add e13 h2 (in_c 1 rfl) rfl; have a12 := in_u ((in_c 1 rfl)); have oc := oc_305_109; omega)]; exact e14.symm)] at h9; have a0 := oa4 h2 h1 i301x8x3b i264x10b; have a4 := tx_i2l e301x1; have a5 := in_u i294; have a6 := t_add e294 (in_c 320 rfl) i264x10b rfl; have a7 := in_u ((in_c 320 rfl)); have a8 := tx_i2l e278; have a9 := tx_i2l e259; have a10 := in_u i13; have a11 := t_add e13 h2 (in_c 1 rfl) rfl; have a12 := in_u ((in_c 1 rfl)); have oc := oc_305_109; omega) | (exfalso; have a0 := oa4 h2 h1 i301x8x3b i264x10b; have a4 := tx_i2l e301x1; have a5 := in_u i294; have a6 := t_add e294 (in_c 320 rfl) i264x10b rfl; have a7 := in_u ((in_c 320 rfl)); have a8 := tx_i2l e278; have a9 := tx_i2l e259; have a10 := in_u i13; have a11 := t_add e13 h2 (in_c 1 rfl) rfl; have a12 := in_u ((in_c 1 rfl)); have oc := oc_305_109; omega)
                      exact gg_w (by first | exact Nat.le_of_ble_eq_true rfl | omega) (gg_f (gf_cons rfl (gf_cons rfl (gf_cons rfl (gf_cons rfl (gf_cons rfl gf_nil))))) (ct311 s z5 z14 hI fr_rf n311 n311a))
                    · skip
                      exact zn_ne c304 (in_c 0 rfl) rfl
                  · skip
                    have i301x8x3 := z_ge 0 1 c301x8x3 i301x8x2 rfl
                    have c301x8x3a := lc_ge e301x8x2 c301x8x3
                    have i301x8x3a := lr_le2 (-1000000) 2147483647 c301x8x3a (l_c (-1000000) rfl) i301x1 rfl
                    have i301x8x3b := l_b e301x1 i301x8x3a
                    refine g_lload_n 7 (gd rfl) rfl rfl ?_
                    refine g_lload 9 (gd rfl) rfl rfl ?_
                    refine g_lcmp 10 (gd rfl) rfl (fun z301x8x9 e301x8x9 => ?_)
                    have i301x8x9 := lc_in e301x8x9
                    refine g_if_gt 13 17 (gd rfl) rfl rfl (fun c301x8x10 => ?_) (fun c301x8x10 => ?_)
                    · skip
                      have i301x8x10 := z_gt 1 1 c301x8x10 i301x8x9 rfl
                      have c301x8x10a := lc_gt e301x8x9 c301x8x10
                      have i301x8x10a := lr_lt2 1000001 2147483647 c301x8x10a (l_c 1000000 rfl) i301x8x3a rfl
                      have i301x8x10b := l_b e301x1 i301x8x10a
                      refine g_iconst 0 18 (gd rfl) rfl rfl ?_
                      refine g_ireturn (gd rfl) rfl (nb01 (in_w 0 1 (in_c 0 rfl) rfl)) (hp301x8 _ _ ?_)
                      show GG _ _ _ _ _ _ _ _ [.int (Int32.ofInt 0)] _ _ _
                      refine g_ireturn (gd rfl) rfl (nb01 (in_w 0 1 (in_c 0 rfl) rfl)) (hp301 _ _ ?_)
                      show GG _ _ _ _ _ _ _ _ [.int (Int32.ofInt 0)] _ _ _
                      refine g_if_eq 307 311 (gd rfl) rfl rfl (fun c304 => ?_) (fun c304 => ?_)
                      · skip
                        have n311 : s = s := by rfl
                        have n311a : ¬ DON s (x1).toInt (x2).toNatClampNeg := by first | (intro h; have h9 := h.2.2.2 (by rcases q_1 with e | e | e | e; (have a0 := oa4 h2 h1 i301x8x10b i264x10b; have a4 := tx_i2l e301x1; have a5 := in_u i294; have a6 := t_add e294 (in_c 320 rfl) i264x10b rfl; have a7 := in_u ((in_c 320 rfl)); have a8 := tx_i2l e278; have a9 := tx_i2l e259; have a10 := in_u i13; have a11 := t_add e13 h2 (in_c 1 rfl) rfl; have a12 := in_u ((in_c 1 rfl)); have oc := oc_305_109; omega); (have a0 := oa4 h2 h1 i301x8x10b i264x10b; have a4 := tx_i2l e301x1; have a5 := in_u i294; have a6 := t_add e294 (in_c 320 rfl) i264x10b rfl; have a7 := in_u ((in_c 320 rfl)); have a8 := tx_i2l e278; have a9 := tx_i2l e259; have a10 := in_u i13; have a11 := t_add e13 h2 (in_c 1 rfl) rfl; have a12 := in_u ((in_c 1 rfl)); have oc := oc_305_109; omega); (have a0 := oa4 h2 h1 i301x8x10b i264x10b; have a4 := tx_i2l e301x1; have a5 := in_u i294; have a6 := t_add e294 (in_c 320 rfl) i264x10b rfl; have a7 := in_u ((in_c 320 rfl)); have a8 := tx_i2l e278; have a9 := tx_i2l e259; have a10 := in_u i13; have a11 := t_add e13 h2 (in_c 1 rfl) rfl; have a12 := in_u ((in_c 1 rfl)); have oc := oc_305_109; omega); (exact e)); unfold nq at h9; rw [show s.1 128 (x2.toNatClampNeg + 1) = z14 from (by rw [show x2.toNatClampNeg + 1 = z13.toNatClampNeg from (by show x2.toInt.toNat + 1 = z13.toInt.toNat; have a0 := oa4 h2 h1 i301x8x10b i264x10b; have a4 := tx_i2l e301x1; have a5 := in_u i294; have a6 := t_add e294 (in_c 320 rfl) i264x10b rfl; have a7 := in_u ((in_c 320 rfl)); have a8 := tx_i2l e278; have a9 := tx_i2l e259; have a10 := in_u i13; have a11 := t_add e13 h2 (in_c 1 rfl) rfl; have a12 := in_u ((in_c 1 rfl)); have oc := oc_305_109; omega)]; exact e14.symm)] at h9; have a0 := oa4 h2 h1 i301x8x10b i264x10b; have a4 := tx_i2l e301x1; have a5 := in_u i294; have a6 := t_add e294 (in_c 320 rfl) i264x10b rfl; have a7 := in_u ((in_c 320 rfl)); have a8 := tx_i2l e278; have a9 := tx_i2l e259; have a10 := in_u i13; have a11 := t_add e13 h2 (in_c 1 rfl) rfl; have a12 := in_u ((in_c 1 rfl)); have oc := oc_305_109; omega) | (exfalso; have a0 := oa4 h2 h1 i301x8x10b i264x10b; have a4 := tx_i2l e301x1; have a5 := in_u i294; have a6 := t_add e294 (in_c 320 rfl) i264x10b rfl; have a7 := in_u ((in_c 320 rfl)); have a8 := tx_i2l e278; have a9 := tx_i2l e259; have a10 := in_u i13; have a11 := t_add e13 h2 (in_c 1 rfl) rfl; have a12 := in_u ((in_c 1 rfl)); have oc := oc_305_109; omega)
                        exact gg_w (by first | exact Nat.le_of_ble_eq_true rfl | omega) (gg_f (gf_cons rfl (gf_cons rfl (gf_cons rfl (gf_cons rfl (gf_cons rfl gf_nil))))) (ct311 s z5 z14 hI fr_rf n311 n311a))
                      · skip
                        exact zn_ne c304 (in_c 0 rfl) rfl
                    · skip
                      have i301x8x10 := z_le (-1) 0 c301x8x10 i301x8x9 rfl
                      have c301x8x10a := lc_le e301x8x9 c301x8x10
                      have i301x8x10a := lr_le1 (-1000000) 1000000 c301x8x10a i301x8x3a (l_c 1000000 rfl) rfl
                      have i301x8x10b := l_b e301x1 i301x8x10a
                      refine g_iconst 1 14 (gd rfl) rfl rfl ?_
                      refine g_goto 18 (gd rfl) rfl ?_
                      refine g_ireturn (gd rfl) rfl (nb01 (in_w 0 1 (in_c 1 rfl) rfl)) (hp301x8 _ _ ?_)
                      show GG _ _ _ _ _ _ _ _ [.int (Int32.ofInt 1)] _ _ _
                      refine g_ireturn (gd rfl) rfl (nb01 (in_w 0 1 (in_c 1 rfl) rfl)) (hp301 _ _ ?_)
                      show GG _ _ _ _ _ _ _ _ [.int (Int32.ofInt 1)] _ _ _
                      refine g_if_eq 307 311 (gd rfl) rfl rfl (fun c304 => ?_) (fun c304 => ?_)
                      · skip
                        exact zn_eq c304 (in_c 1 rfl) rfl
                      · skip
                        refine g_iconst 1 308 (gd rfl) rfl rfl ?_
                        refine g_goto 312 (gd rfl) rfl ?_
                        have n312 : DNE s s (x1).toInt (x2).toNatClampNeg ((Int32.ofInt 1)).toInt := by exact dne_d (by have a0 := oa4 h2 h1 i301x8x10b i264x10b; have a4 := tx_i2l e301x1; have a5 := in_u i294; have a6 := t_add e294 (in_c 320 rfl) i264x10b rfl; have a7 := in_u ((in_c 320 rfl)); have a8 := tx_i2l e278; have a9 := tx_i2l e259; have a10 := in_u i13; have a11 := t_add e13 h2 (in_c 1 rfl) rfl; have a12 := in_u ((in_c 1 rfl)); have oc := oc_305_109; omega) (by have a0 := oa4 h2 h1 i301x8x10b i264x10b; have a4 := tx_i2l e301x1; have a5 := in_u i294; have a6 := t_add e294 (in_c 320 rfl) i264x10b rfl; have a7 := in_u ((in_c 320 rfl)); have a8 := tx_i2l e278; have a9 := tx_i2l e259; have a10 := in_u i13; have a11 := t_add e13 h2 (in_c 1 rfl) rfl; have a12 := in_u ((in_c 1 rfl)); have oc := oc_305_109; omega) (by have a0 := oa4 h2 h1 i301x8x10b i264x10b; have a4 := tx_i2l e301x1; have a5 := in_u i294; have a6 := t_add e294 (in_c 320 rfl) i264x10b rfl; have a7 := in_u ((in_c 320 rfl)); have a8 := tx_i2l e278; have a9 := tx_i2l e259; have a10 := in_u i13; have a11 := t_add e13 h2 (in_c 1 rfl) rfl; have a12 := in_u ((in_c 1 rfl)); have oc := oc_305_109; omega) (by rw [← e5]; exact i264x10b) (by rw [show x2.toNatClampNeg + 1 = z13.toNatClampNeg from (by show x2.toInt.toNat + 1 = z13.toInt.toNat; have a0 := oa4 h2 h1 i301x8x10b i264x10b; have a4 := tx_i2l e301x1; have a5 := in_u i294; have a6 := t_add e294 (in_c 320 rfl) i264x10b rfl; have a7 := in_u ((in_c 320 rfl)); have a8 := tx_i2l e278; have a9 := tx_i2l e259; have a10 := in_u i13; have a11 := t_add e13 h2 (in_c 1 rfl) rfl; have a12 := in_u ((in_c 1 rfl)); have oc := oc_305_109; omega), ← e14]; exact i301x8x10b)
                        have n312a : YNQ ((Int32.ofInt 1)).toInt (DON s (x1).toInt (x2).toNatClampNeg) := by exact ⟨fun _ => don_119 (by rcases q_1 with e | e | e | e; (have a0 := oa4 h2 h1 i301x8x10b i264x10b; have a4 := tx_i2l e301x1; have a5 := in_u i294; have a6 := t_add e294 (in_c 320 rfl) i264x10b rfl; have a7 := in_u ((in_c 320 rfl)); have a8 := tx_i2l e278; have a9 := tx_i2l e259; have a10 := in_u i13; have a11 := t_add e13 h2 (in_c 1 rfl) rfl; have a12 := in_u ((in_c 1 rfl)); have oc := oc_305_109; omega); (have a0 := oa4 h2 h1 i301x8x10b i264x10b; have a4 := tx_i2l e301x1; have a5 := in_u i294; have a6 := t_add e294 (in_c 320 rfl) i264x10b rfl; have a7 := in_u ((in_c 320 rfl)); have a8 := tx_i2l e278; have a9 := tx_i2l e259; have a10 := in_u i13; have a11 := t_add e13 h2 (in_c 1 rfl) rfl; have a12 := in_u ((in_c 1 rfl)); have oc := oc_305_109; omega); (have a0 := oa4 h2 h1 i301x8x10b i264x10b; have a4 := tx_i2l e301x1; have a5 := in_u i294; have a6 := t_add e294 (in_c 320 rfl) i264x10b rfl; have a7 := in_u ((in_c 320 rfl)); have a8 := tx_i2l e278; have a9 := tx_i2l e259; have a10 := in_u i13; have a11 := t_add e13 h2 (in_c 1 rfl) rfl; have a12 := in_u ((in_c 1 rfl)); have oc := oc_305_109; omega); (exact e)) ⟨(by unfold nq; rw [← e5]; have a0 := oa4 h2 h1 i301x8x10b i264x10b; have a4 := tx_i2l e301x1; have a5 := in_u i294; have a6 := t_add e294 (in_c 320 rfl) i264x10b rfl; have a7 := in_u ((in_c 320 rfl)); have a8 := tx_i2l e278; have a9 := tx_i2l e259; have a10 := in_u i13; have a11 := t_add e13 h2 (in_c 1 rfl) rfl; have a12 := in_u ((in_c 1 rfl)); have oc := oc_305_109; omega), (by rw [← e5, thg_t e295 (by have a0 := oa4 h2 h1 i301x8x10b i264x10b; have a4 := tx_i2l e301x1; have a5 := in_u i294; have a6 := t_add e294 (in_c 320 rfl) i264x10b rfl; have a7 := in_u ((in_c 320 rfl)); have a8 := tx_i2l e278; have a9 := tx_i2l e259; have a10 := in_u i13; have a11 := t_add e13 h2 (in_c 1 rfl) rfl; have a12 := in_u ((in_c 1 rfl)); have oc := oc_305_109; omega) (by have a0 := oa4 h2 h1 i301x8x10b i264x10b; have a4 := tx_i2l e301x1; have a5 := in_u i294; have a6 := t_add e294 (in_c 320 rfl) i264x10b rfl; have a7 := in_u ((in_c 320 rfl)); have a8 := tx_i2l e278; have a9 := tx_i2l e259; have a10 := in_u i13; have a11 := t_add e13 h2 (in_c 1 rfl) rfl; have a12 := in_u ((in_c 1 rfl)); have oc := oc_305_109; omega)]; exact decide_eq_true (by have a0 := oa4 h2 h1 i301x8x10b i264x10b; have a4 := tx_i2l e301x1; have a5 := in_u i294; have a6 := t_add e294 (in_c 320 rfl) i264x10b rfl; have a7 := in_u ((in_c 320 rfl)); have a8 := tx_i2l e278; have a9 := tx_i2l e259; have a10 := in_u i13; have a11 := t_add e13 h2 (in_c 1 rfl) rfl; have a12 := in_u ((in_c 1 rfl)); have oc := oc_305_109; omega))⟩ (by unfold nq; rw [show s.1 128 (x2.toNatClampNeg + 1) = z14 from (by rw [show x2.toNatClampNeg + 1 = z13.toNatClampNeg from (by show x2.toInt.toNat + 1 = z13.toInt.toNat; have a0 := oa4 h2 h1 i301x8x10b i264x10b; have a4 := tx_i2l e301x1; have a5 := in_u i294; have a6 := t_add e294 (in_c 320 rfl) i264x10b rfl; have a7 := in_u ((in_c 320 rfl)); have a8 := tx_i2l e278; have a9 := tx_i2l e259; have a10 := in_u i13; have a11 := t_add e13 h2 (in_c 1 rfl) rfl; have a12 := in_u ((in_c 1 rfl)); have oc := oc_305_109; omega)]; exact e14.symm)]; have a0 := oa4 h2 h1 i301x8x10b i264x10b; have a4 := tx_i2l e301x1; have a5 := in_u i294; have a6 := t_add e294 (in_c 320 rfl) i264x10b rfl; have a7 := in_u ((in_c 320 rfl)); have a8 := tx_i2l e278; have a9 := tx_i2l e259; have a10 := in_u i13; have a11 := t_add e13 h2 (in_c 1 rfl) rfl; have a12 := in_u ((in_c 1 rfl)); have oc := oc_305_109; omega), fun h => absurd h (by decide)⟩
                        exact g_ireturn (gd rfl) rfl (nb01 (in_w 0 1 (in_c 1 rfl) rfl)) (hP _ _ ⟨s, hI, fr_rf, (Int32.ofInt 1), rfl, rfl, in_w 0 1 (in_c 1 rfl) rfl, n312, n312a⟩)

theorem oc_301_109 : (Int32.ofInt (-1)).toInt = (-1) ∧ (Int32.ofInt 0).toInt = 0 ∧ (Int32.ofInt 1).toInt = 1 ∧ (Int32.ofInt 2).toInt = 2 ∧ (Int32.ofInt 3).toInt = 3 ∧ (Int32.ofInt 4).toInt = 4 := ⟨rfl, rfl, rfl, rfl, rfl, rfl⟩
/-- GraphHouseModel.shape -/
theorem f_301 {Z : AmZ} {A : Nat → Nat} {s : GS} {ex : va_W} {d : Nat} {X : AmX} {x1 : Int32} {x2 : Int32} (hd : 1 ≤ d) (hI : Inv s) (h1 : In x1 97 119) (h2 : In x2 0 5) : GC Z d 301 [.ref (A 109), .int x1, .int x2] (WW Z A s ++ ex) 0 0 (fun v u => ∃ z : Int32, v = some (.int z) ∧ u = WW Z A s ++ ex ∧ In z 1 3 ∧ (SHP (x1).toInt (x2).toInt (z).toInt) ∧ (SHK ((x1).toInt - 97) (x2).toInt (z).toInt)) X := by
  intro post xp hP hX
  refine g_enter2 (k := 301) (N := 900) (by first | exact dq1 hd rfl | exact dq0 hd rfl | exact dq2 hd rfl | exact dq3 hd rfl | omega) rfl (Nat.le_of_ble_eq_true rfl) ?_
  refine g_iload_n 1 (gd rfl) rfl rfl ?_
  refine g_lsw [(97, 46), (110, 36), (116, 66)] 77 (gd rfl) rfl rfl rfl ⟨fun c1 => ?_, fun c1_0 => ⟨fun c1 => ?_, fun c1_1 => ⟨fun c1 => ?_, fun c1_2 => ?_⟩⟩⟩
  · skip
    have i1 := sw_eq c1
    refine g_iload_n 47 (gd rfl) rfl rfl ?_
    refine g_iconst 4 48 (gd rfl) rfl rfl ?_
    refine g_cmp_ge 51 55 (gd rfl) rfl rfl (fun c48 => ?_) (fun c48 => ?_)
    · skip
      have i48 := r_le2 4 5 c48 (in_c 4 rfl) h2 rfl
      refine g_iload_n 56 (gd rfl) rfl rfl ?_
      refine g_iconst 4 57 (gd rfl) rfl rfl ?_
      refine g_cmp_ne 60 64 (gd rfl) rfl rfl (fun c57 => ?_) (fun c57 => ?_)
      · skip
        have i57 := r_ne1 5 5 c57 i48 (in_c 4 rfl) rfl
        refine g_iconst 3 65 (gd rfl) rfl rfl ?_
        have n65 : SHP (x1).toInt (x2).toInt ((Int32.ofInt 3)).toInt := by unfold SHP; refine ⟨fun h => ⟨fun h2 => ?_, fun h2 => ?_⟩, fun h => ⟨fun h2 => ?_, fun h2 => ?_, fun h2 => ?_⟩, fun h h2 => ⟨?_, fun h3 => ?_, fun h3 => ?_⟩⟩ <;> first | decide | (exfalso; have a0 := oa2 i57 i1; have oc := oc_301_109; omega) | (have a0 := oa2 i57 i1; have oc := oc_301_109; omega)
        have n65a : SHK ((x1).toInt - 97) (x2).toInt ((Int32.ofInt 3)).toInt := by intro hc hk; rw [shk hc (by have a0 := oa2 i57 i1; have oc := oc_301_109; omega) hk]; unfold cmI at hc; (repeat' split) <;> (have a0 := oa2 i57 i1; have oc := oc_301_109; omega)
        exact g_ireturn (gd rfl) rfl rfl (hP _ _ ⟨(Int32.ofInt 3), rfl, rfl, in_w 1 3 (in_c 3 rfl) rfl, n65, n65a⟩)
      · skip
        have i57 := r_eq1 4 4 c57 i48 (in_c 4 rfl) rfl
        refine g_iconst 1 61 (gd rfl) rfl rfl ?_
        refine g_goto 65 (gd rfl) rfl ?_
        have n65 : SHP (x1).toInt (x2).toInt ((Int32.ofInt 1)).toInt := by unfold SHP; refine ⟨fun h => ⟨fun h2 => ?_, fun h2 => ?_⟩, fun h => ⟨fun h2 => ?_, fun h2 => ?_, fun h2 => ?_⟩, fun h h2 => ⟨?_, fun h3 => ?_, fun h3 => ?_⟩⟩ <;> first | decide | (exfalso; have a0 := oa2 i57 i1; have oc := oc_301_109; omega) | (have a0 := oa2 i57 i1; have oc := oc_301_109; omega)
        have n65a : SHK ((x1).toInt - 97) (x2).toInt ((Int32.ofInt 1)).toInt := by intro hc hk; rw [shk hc (by have a0 := oa2 i57 i1; have oc := oc_301_109; omega) hk]; unfold cmI at hc; (repeat' split) <;> (have a0 := oa2 i57 i1; have oc := oc_301_109; omega)
        exact g_ireturn (gd rfl) rfl rfl (hP _ _ ⟨(Int32.ofInt 1), rfl, rfl, in_w 1 3 (in_c 1 rfl) rfl, n65, n65a⟩)
    · skip
      have i48 := r_lt1 0 3 c48 h2 (in_c 4 rfl) rfl
      refine g_iconst 2 52 (gd rfl) rfl rfl ?_
      refine g_goto 65 (gd rfl) rfl ?_
      have n65 : SHP (x1).toInt (x2).toInt ((Int32.ofInt 2)).toInt := by unfold SHP; refine ⟨fun h => ⟨fun h2 => ?_, fun h2 => ?_⟩, fun h => ⟨fun h2 => ?_, fun h2 => ?_, fun h2 => ?_⟩, fun h h2 => ⟨?_, fun h3 => ?_, fun h3 => ?_⟩⟩ <;> first | decide | (exfalso; have a0 := oa2 i48 i1; have oc := oc_301_109; omega) | (have a0 := oa2 i48 i1; have oc := oc_301_109; omega)
      have n65a : SHK ((x1).toInt - 97) (x2).toInt ((Int32.ofInt 2)).toInt := by intro hc hk; rw [shk hc (by have a0 := oa2 i48 i1; have oc := oc_301_109; omega) hk]; unfold cmI at hc; (repeat' split) <;> (have a0 := oa2 i48 i1; have oc := oc_301_109; omega)
      exact g_ireturn (gd rfl) rfl rfl (hP _ _ ⟨(Int32.ofInt 2), rfl, rfl, in_w 1 3 (in_c 2 rfl) rfl, n65, n65a⟩)
  · skip
    have i1 := sw_eq c1
    refine g_iload_n 37 (gd rfl) rfl rfl ?_
    refine g_if_ne 40 44 (gd rfl) rfl rfl (fun c37 => ?_) (fun c37 => ?_)
    · skip
      have i37 := z_ne 1 5 c37 h2 rfl
      refine g_iconst 3 45 (gd rfl) rfl rfl ?_
      have n45 : SHP (x1).toInt (x2).toInt ((Int32.ofInt 3)).toInt := by unfold SHP; refine ⟨fun h => ⟨fun h2 => ?_, fun h2 => ?_⟩, fun h => ⟨fun h2 => ?_, fun h2 => ?_, fun h2 => ?_⟩, fun h h2 => ⟨?_, fun h3 => ?_, fun h3 => ?_⟩⟩ <;> first | decide | (exfalso; have a0 := oa2 i37 i1; have oc := oc_301_109; omega) | (have a0 := oa2 i37 i1; have oc := oc_301_109; omega)
      have n45a : SHK ((x1).toInt - 97) (x2).toInt ((Int32.ofInt 3)).toInt := by intro hc hk; rw [shk hc (by have a0 := oa2 i37 i1; have oc := oc_301_109; omega) hk]; unfold cmI at hc; (repeat' split) <;> (have a0 := oa2 i37 i1; have oc := oc_301_109; omega)
      exact g_ireturn (gd rfl) rfl rfl (hP _ _ ⟨(Int32.ofInt 3), rfl, rfl, in_w 1 3 (in_c 3 rfl) rfl, n45, n45a⟩)
    · skip
      have i37 := z_eq 0 0 c37 h2 rfl
      refine g_iconst 1 41 (gd rfl) rfl rfl ?_
      refine g_goto 45 (gd rfl) rfl ?_
      have n45 : SHP (x1).toInt (x2).toInt ((Int32.ofInt 1)).toInt := by unfold SHP; refine ⟨fun h => ⟨fun h2 => ?_, fun h2 => ?_⟩, fun h => ⟨fun h2 => ?_, fun h2 => ?_, fun h2 => ?_⟩, fun h h2 => ⟨?_, fun h3 => ?_, fun h3 => ?_⟩⟩ <;> first | decide | (exfalso; have a0 := oa2 i37 i1; have oc := oc_301_109; omega) | (have a0 := oa2 i37 i1; have oc := oc_301_109; omega)
      have n45a : SHK ((x1).toInt - 97) (x2).toInt ((Int32.ofInt 1)).toInt := by intro hc hk; rw [shk hc (by have a0 := oa2 i37 i1; have oc := oc_301_109; omega) hk]; unfold cmI at hc; (repeat' split) <;> (have a0 := oa2 i37 i1; have oc := oc_301_109; omega)
      exact g_ireturn (gd rfl) rfl rfl (hP _ _ ⟨(Int32.ofInt 1), rfl, rfl, in_w 1 3 (in_c 1 rfl) rfl, n45, n45a⟩)
  · skip
    have i1 := sw_eq c1
    refine g_iload_n 67 (gd rfl) rfl rfl ?_
    refine g_iconst 1 68 (gd rfl) rfl rfl ?_
    refine g_cmp_ge 71 75 (gd rfl) rfl rfl (fun c68 => ?_) (fun c68 => ?_)
    · skip
      have i68 := r_le2 1 5 c68 (in_c 1 rfl) h2 rfl
      refine g_iconst 3 76 (gd rfl) rfl rfl ?_
      have n76 : SHP (x1).toInt (x2).toInt ((Int32.ofInt 3)).toInt := by unfold SHP; refine ⟨fun h => ⟨fun h2 => ?_, fun h2 => ?_⟩, fun h => ⟨fun h2 => ?_, fun h2 => ?_, fun h2 => ?_⟩, fun h h2 => ⟨?_, fun h3 => ?_, fun h3 => ?_⟩⟩ <;> first | decide | (exfalso; have a0 := oa2 i68 i1; have oc := oc_301_109; omega) | (have a0 := oa2 i68 i1; have oc := oc_301_109; omega)
      have n76a : SHK ((x1).toInt - 97) (x2).toInt ((Int32.ofInt 3)).toInt := by intro hc hk; rw [shk hc (by have a0 := oa2 i68 i1; have oc := oc_301_109; omega) hk]; unfold cmI at hc; (repeat' split) <;> (have a0 := oa2 i68 i1; have oc := oc_301_109; omega)
      exact g_ireturn (gd rfl) rfl rfl (hP _ _ ⟨(Int32.ofInt 3), rfl, rfl, in_w 1 3 (in_c 3 rfl) rfl, n76, n76a⟩)
    · skip
      have i68 := r_lt1 0 0 c68 h2 (in_c 1 rfl) rfl
      refine g_iconst 2 72 (gd rfl) rfl rfl ?_
      refine g_goto 76 (gd rfl) rfl ?_
      have n76 : SHP (x1).toInt (x2).toInt ((Int32.ofInt 2)).toInt := by unfold SHP; refine ⟨fun h => ⟨fun h2 => ?_, fun h2 => ?_⟩, fun h => ⟨fun h2 => ?_, fun h2 => ?_, fun h2 => ?_⟩, fun h h2 => ⟨?_, fun h3 => ?_, fun h3 => ?_⟩⟩ <;> first | decide | (exfalso; have a0 := oa2 i68 i1; have oc := oc_301_109; omega) | (have a0 := oa2 i68 i1; have oc := oc_301_109; omega)
      have n76a : SHK ((x1).toInt - 97) (x2).toInt ((Int32.ofInt 2)).toInt := by intro hc hk; rw [shk hc (by have a0 := oa2 i68 i1; have oc := oc_301_109; omega) hk]; unfold cmI at hc; (repeat' split) <;> (have a0 := oa2 i68 i1; have oc := oc_301_109; omega)
      exact g_ireturn (gd rfl) rfl rfl (hP _ _ ⟨(Int32.ofInt 2), rfl, rfl, in_w 1 3 (in_c 2 rfl) rfl, n76, n76a⟩)
  · skip
    refine g_iload_n 78 (gd rfl) rfl rfl ?_
    refine g_iconst 2 79 (gd rfl) rfl rfl ?_
    refine g_cmp_ge 82 86 (gd rfl) rfl rfl (fun c79 => ?_) (fun c79 => ?_)
    · skip
      have i79 := r_le2 2 5 c79 (in_c 2 rfl) h2 rfl
      refine g_iconst 3 87 (gd rfl) rfl rfl ?_
      have n87 : SHP (x1).toInt (x2).toInt ((Int32.ofInt 3)).toInt := by unfold SHP; refine ⟨fun h => ⟨fun h2 => ?_, fun h2 => ?_⟩, fun h => ⟨fun h2 => ?_, fun h2 => ?_, fun h2 => ?_⟩, fun h h2 => ⟨?_, fun h3 => ?_, fun h3 => ?_⟩⟩ <;> first | decide | (exfalso; have a0 := oa2 i79 h1; have oc := oc_301_109; omega) | (have a0 := oa2 i79 h1; have oc := oc_301_109; omega)
      have n87a : SHK ((x1).toInt - 97) (x2).toInt ((Int32.ofInt 3)).toInt := by intro hc hk; rw [shk hc (by have a0 := oa2 i79 h1; have oc := oc_301_109; omega) hk]; unfold cmI at hc; (repeat' split) <;> (have a0 := oa2 i79 h1; have oc := oc_301_109; omega)
      exact g_ireturn (gd rfl) rfl rfl (hP _ _ ⟨(Int32.ofInt 3), rfl, rfl, in_w 1 3 (in_c 3 rfl) rfl, n87, n87a⟩)
    · skip
      have i79 := r_lt1 0 1 c79 h2 (in_c 2 rfl) rfl
      refine g_iconst 2 83 (gd rfl) rfl rfl ?_
      refine g_goto 87 (gd rfl) rfl ?_
      have n87 : SHP (x1).toInt (x2).toInt ((Int32.ofInt 2)).toInt := by unfold SHP; refine ⟨fun h => ⟨fun h2 => ?_, fun h2 => ?_⟩, fun h => ⟨fun h2 => ?_, fun h2 => ?_, fun h2 => ?_⟩, fun h h2 => ⟨?_, fun h3 => ?_, fun h3 => ?_⟩⟩ <;> first | decide | (exfalso; have a0 := oa2 i79 h1; have oc := oc_301_109; omega) | (have a0 := oa2 i79 h1; have oc := oc_301_109; omega)
      have n87a : SHK ((x1).toInt - 97) (x2).toInt ((Int32.ofInt 2)).toInt := by intro hc hk; rw [shk hc (by have a0 := oa2 i79 h1; have oc := oc_301_109; omega) hk]; unfold cmI at hc; (repeat' split) <;> (have a0 := oa2 i79 h1; have oc := oc_301_109; omega)
      exact g_ireturn (gd rfl) rfl rfl (hP _ _ ⟨(Int32.ofInt 2), rfl, rfl, in_w 1 3 (in_c 2 rfl) rfl, n87, n87a⟩)
end
